/-! graphs: walks; a search, step by step -/
abbrev zbE : Type := Nat → Nat → Option Nat
/-- a walk of n steps -/
def zbW (E : zbE) (nd : Nat) : Nat → Nat → Nat → Prop
  | 0, a, b => a = b
  | n + 1, a, b => ∃ c d, d < nd ∧ zbW E nd n a c ∧ E c d = some b
theorem zbW_first {E : zbE} {nd : Nat} : ∀ (n a b : Nat), zbW E nd (n + 1) a b ↔ ∃ c d, d < nd ∧ E a d = some c ∧ zbW E nd n c b
  | 0, a, b => by
    constructor
    · rintro ⟨c, d, hd, h1, h⟩
      have h2 : a = c := h1
      subst h2
      exact ⟨b, d, hd, h, rfl⟩
    · rintro ⟨c, d, hd, h, h1⟩
      have h2 : c = b := h1
      subst h2
      exact ⟨a, d, hd, rfl, h⟩
  | n + 1, a, b => by
    constructor
    · rintro ⟨c, d, hd, h1, h2⟩
      obtain ⟨c', d', hd', h3, h4⟩ := (zbW_first n a c).mp h1
      exact ⟨c', d', hd', h3, c, d, hd, h4, h2⟩
    · rintro ⟨c', d', hd', h3, c, d, hd, h4, h2⟩
      exact ⟨c, d, hd, (zbW_first n a c).mpr ⟨c', d', hd', h3, h4⟩, h2⟩
/-- how far each node is: 0 where it begins; no farther than one step on; each but the first has one before it -/
def zbD (E : zbE) (nd fr : Nat) (F : Nat → Option Nat) : Prop := F fr = some 0 ∧ (∀ c n, F c = some n → ∀ d, d < nd → ∀ t, E c d = some t → ∃ k, k ≤ n + 1 ∧ F t = some k) ∧ ∀ t n, F t = some n → (n = 0 ∧ t = fr) ∨ ∃ c d k, d < nd ∧ E c d = some t ∧ F c = some k ∧ n = k + 1
theorem zbD_to {E : zbE} {nd fr : Nat} {F : Nat → Option Nat} (h : zbD E nd fr F) : ∀ n b, F b = some n → zbW E nd n fr b
  | 0, b, hb => by
    rcases h.2.2 b 0 hb with ⟨-, e⟩ | ⟨c, d, k, -, -, -, e⟩
    · exact e.symm
    · omega
  | n + 1, b, hb => by
    rcases h.2.2 b (n + 1) hb with ⟨e, -⟩ | ⟨c, d, k, hd, he, hk, e⟩
    · omega
    · have e2 : k = n := by omega
      subst e2
      exact ⟨c, d, hd, zbD_to h k c hk, he⟩
theorem zbD_of {E : zbE} {nd fr : Nat} {F : Nat → Option Nat} (h : zbD E nd fr F) : ∀ n b, zbW E nd n fr b → ∃ k, k ≤ n ∧ F b = some k
  | 0, b, hw => ⟨0, Nat.le_refl _, by have e : fr = b := hw; rw [← e]; exact h.1⟩
  | n + 1, b, hw => by
    obtain ⟨c, d, hd, hw, he⟩ := hw
    obtain ⟨k, hk, hF⟩ := zbD_of h n c hw
    obtain ⟨j, hj, hF2⟩ := h.2.1 c k hF d hd b he
    exact ⟨j, by omega, hF2⟩
theorem zbD_iff {E : zbE} {nd fr : Nat} {F : Nat → Option Nat} (h : zbD E nd fr F) {n b : Nat} : F b = some n ↔ zbW E nd n fr b ∧ ∀ k, k < n → ¬ zbW E nd k fr b := by
  constructor
  · intro hb
    refine ⟨zbD_to h n b hb, fun k hk hw => ?_⟩
    obtain ⟨j, hj, e⟩ := zbD_of h k b hw
    rw [hb] at e
    injection e with e
    omega
  · rintro ⟨h1, h2⟩
    obtain ⟨j, hj, e⟩ := zbD_of h n b h1
    by_cases hjn : j = n
    · rw [← hjn]; exact e
    · exact absurd (zbD_to h j b e) (h2 j (by omega))
theorem zbD_none {E : zbE} {nd fr : Nat} {F : Nat → Option Nat} (h : zbD E nd fr F) {b : Nat} : F b = none ↔ ∀ n, ¬ zbW E nd n fr b := by
  constructor
  · intro hb n hw
    obtain ⟨j, hj, e⟩ := zbD_of h n b hw
    rw [hb] at e
    cases e
  · intro hn
    cases e : F b with
    | none => rfl
    | some n => exact absurd (zbD_to h n b e) (hn n)
theorem zbD_eq {E : zbE} {nd fr : Nat} {F F2 : Nat → Option Nat} (h : zbD E nd fr F) (h2 : zbD E nd fr F2) : F = F2 := by
  funext b
  cases e : F b with
  | none => exact ((zbD_none h2).mpr ((zbD_none h).mp e)).symm
  | some n => exact ((zbD_iff h2).mpr ((zbD_iff h).mp e)).symm
/-! sums -/
def zbS (f : Nat → Nat) : Nat → Nat
  | 0 => 0
  | n + 1 => zbS f n + f n
theorem zbS_cong {f g : Nat → Nat} : ∀ {n : Nat}, (∀ j, j < n → f j = g j) → zbS f n = zbS g n
  | 0, _ => rfl
  | n + 1, h => by rw [zbS, zbS, zbS_cong (fun j hj => h j (by omega)), h n (by omega)]
theorem zbS_one {f g : Nat → Nat} {k x : Nat} (hk : ∀ j, j ≠ k → g j = f j) (hx : g k = f k + x) : ∀ {n : Nat}, k < n → zbS g n = zbS f n + x
  | 0, h => absurd h (Nat.not_lt_zero _)
  | n + 1, h => by
    rw [zbS, zbS]
    by_cases e : k = n
    · subst e
      rw [zbS_cong (f := g) (g := f) (fun j hj => hk j (by omega)), hx]
      omega
    · rw [zbS_one hk hx (show k < n by omega), hk n (fun q => e q.symm)]
      omega
def zbS2 (N nd : Nat) (w : Nat → Nat → Nat) : Nat := zbS (fun c => zbS (w c) nd) N
theorem zbS2_cong {N nd : Nat} {w w2 : Nat → Nat → Nat} (h : ∀ c d, c < N → d < nd → w c d = w2 c d) : zbS2 N nd w = zbS2 N nd w2 := zbS_cong (fun c hc => zbS_cong (fun d hd => h c d hc hd))
theorem zbS2_one {N nd c0 d0 x : Nat} {w w2 : Nat → Nat → Nat} (hc : c0 < N) (hd : d0 < nd) (h : ∀ c d, ¬ (c = c0 ∧ d = d0) → w2 c d = w c d) (hx : w2 c0 d0 = w c0 d0 + x) : zbS2 N nd w2 = zbS2 N nd w + x :=
  zbS_one (k := c0) (fun c hne => zbS_cong (fun d _ => h c d (fun q => hne q.1))) (zbS_one (k := d0) (fun d hne => h c0 d (fun q => hne q.2)) hx hd) hc
/-! the search: P: the edges that are done -/
def zbF (E : zbE) (N nd fr : Nat) (P : Nat → Nat → Bool) (F : Nat → Option Nat) : Prop := F fr = some 0 ∧ (∀ t, F t ≠ none → t < N) ∧ (∀ c d, P c d = true → ∃ n, F c = some n ∧ ∀ t, E c d = some t → ∃ k, k ≤ n + 1 ∧ F t = some k) ∧ ∀ t n, F t = some n → (n = 0 ∧ t = fr) ∨ ∃ c d k, d < nd ∧ P c d = true ∧ E c d = some t ∧ F c = some k ∧ n = k + 1
def zbO (P : Nat → Nat → Bool) (F : Nat → Option Nat) (n : Nat) : Prop := (∀ t k, F t = some k → k ≤ n + 1) ∧ ∀ c d k, P c d = true → F c = some k → k ≤ n
def zbA (P : Nat → Nat → Bool) (c0 d0 : Nat) : Nat → Nat → Bool := fun c d => P c d || (decide (c = c0) && decide (d = d0))
theorem zbA_iff {P : Nat → Nat → Bool} {c0 d0 c d : Nat} : zbA P c0 d0 c d = true ↔ P c d = true ∨ (c = c0 ∧ d = d0) := by simp [zbA]
def zbT (E : zbE) (n c d : Nat) (F : Nat → Option Nat) : Nat → Option Nat := match E c d with
  | none => F
  | some t => if F t = none then (fun j => if j = t then some (n + 1) else F j) else F
theorem zbT_none {E : zbE} {n c d : Nat} {F : Nat → Option Nat} (h : E c d = none) : zbT E n c d F = F := by unfold zbT; rw [h]
theorem zbT_old {E : zbE} {n c d t : Nat} {F : Nat → Option Nat} (h : E c d = some t) (hF : ¬ F t = none) : zbT E n c d F = F := by unfold zbT; rw [h]; exact if_neg hF
theorem zbT_new {E : zbE} {n c d t : Nat} {F : Nat → Option Nat} (h : E c d = some t) (hF : F t = none) : zbT E n c d F = fun j => if j = t then some (n + 1) else F j := by unfold zbT; rw [h]; exact if_pos hF
theorem zbT_keep {E : zbE} {n c d a k : Nat} {F : Nat → Option Nat} (hF : F a = some k) : zbT E n c d F a = some k := by
  cases e : E c d with
  | none => rw [zbT_none e]; exact hF
  | some t =>
    by_cases h : F t = none
    · rw [zbT_new e h]
      show (if a = t then some (n + 1) else F a) = _
      rw [if_neg (show a ≠ t by rintro rfl; rw [h] at hF; cases hF)]; exact hF
    · rw [zbT_old e h]; exact hF
theorem zbT_or {E : zbE} {n c d a k : Nat} {F : Nat → Option Nat} (h : zbT E n c d F a = some k) : F a = some k ∨ (k = n + 1 ∧ E c d = some a ∧ F a = none) := by
  cases e : E c d with
  | none => rw [zbT_none e] at h; exact Or.inl h
  | some t =>
    by_cases h2 : F t = none
    · rw [zbT_new e h2] at h
      have h3 : (if a = t then some (n + 1) else F a) = some k := h
      by_cases h4 : a = t
      · rw [if_pos h4] at h3
        injection h3 with h3
        subst h4
        exact Or.inr ⟨h3.symm, rfl, h2⟩
      · rw [if_neg h4] at h3; exact Or.inl h3
    · rw [zbT_old e h2] at h; exact Or.inl h
theorem zbT_to {E : zbE} {n c d t : Nat} {F : Nat → Option Nat} (h : E c d = some t) (hO : ∀ k, F t = some k → k ≤ n + 1) : ∃ k, k ≤ n + 1 ∧ zbT E n c d F t = some k := by
  cases e : F t with
  | none => exact ⟨n + 1, Nat.le_refl _, by rw [zbT_new h e]; exact if_pos rfl⟩
  | some k => exact ⟨k, hO k e, zbT_keep e⟩
theorem zbF_step {E : zbE} {N nd fr n c d : Nat} {P : Nat → Nat → Bool} {F : Nat → Option Nat} (h : zbF E N nd fr P F) (hO : zbO P F n) (hE : ∀ t, E c d = some t → t < N) (hd : d < nd) (hc : F c = some n) : zbF E N nd fr (zbA P c d) (zbT E n c d F) := by
  obtain ⟨h1, h2, h3, h4⟩ := h
  refine ⟨zbT_keep h1, fun t ht => ?_, fun a b hab => ?_, fun t k ht => ?_⟩
  · cases e : zbT E n c d F t with
    | none => exact absurd e ht
    | some k =>
      rcases zbT_or e with h5 | ⟨-, h5, -⟩
      · exact h2 t (by rw [h5]; simp)
      · exact hE t h5
  · rcases zbA_iff.mp hab with h5 | ⟨rfl, rfl⟩
    · obtain ⟨k, h6, h7⟩ := h3 a b h5
      refine ⟨k, zbT_keep h6, fun t ht => ?_⟩
      obtain ⟨j, hj, h8⟩ := h7 t ht
      exact ⟨j, hj, zbT_keep h8⟩
    · exact ⟨n, zbT_keep hc, fun t ht => zbT_to ht (fun k hk => hO.1 t k hk)⟩
  · rcases zbT_or ht with h5 | ⟨h5, h6, -⟩
    · rcases h4 t k h5 with h6 | ⟨a, b, j, h6, h7, h8, h9, h10⟩
      · exact Or.inl h6
      · exact Or.inr ⟨a, b, j, h6, zbA_iff.mpr (Or.inl h7), h8, zbT_keep h9, h10⟩
    · exact Or.inr ⟨c, d, n, hd, zbA_iff.mpr (Or.inr ⟨rfl, rfl⟩), h6, zbT_keep hc, h5⟩
theorem zbO_step {E : zbE} {N nd fr n c d : Nat} {P : Nat → Nat → Bool} {F : Nat → Option Nat} (h : zbF E N nd fr P F) (hO : zbO P F n) (hc : F c = some n) : zbO (zbA P c d) (zbT E n c d F) n := by
  refine ⟨fun t k ht => ?_, fun a b k hab hk => ?_⟩
  · rcases zbT_or ht with h5 | ⟨h5, -, -⟩
    · exact hO.1 t k h5
    · omega
  · rcases zbA_iff.mp hab with h5 | ⟨rfl, rfl⟩
    · obtain ⟨j, h6, -⟩ := h.2.2.1 a b h5
      rw [zbT_keep h6] at hk
      injection hk with hk
      have := hO.2 a b j h5 h6
      omega
    · rw [zbT_keep hc] at hk
      injection hk with hk
      omega
/-! in how many ways: as many as those before it -/
def zbV (F : Nat → Option Nat) (c t : Nat) : Bool := match F c with
  | none => false
  | some k => decide (F t = some (k + 1))
theorem zbV_iff {F : Nat → Option Nat} {c t : Nat} : zbV F c t = true ↔ ∃ k, F c = some k ∧ F t = some (k + 1) := by
  unfold zbV
  cases e : F c with
  | none => simp
  | some k => simp
def zbw (E : zbE) (P : Nat → Nat → Bool) (F : Nat → Option Nat) (H : Nat → Nat) (t c d : Nat) : Nat := if P c d = true ∧ E c d = some t ∧ zbV F c t = true then H c else 0
def zbH (E : zbE) (N nd fr M : Nat) (P : Nat → Nat → Bool) (F : Nat → Option Nat) (H : Nat → Nat) : Prop := ∀ t, t < N → H t = ((if t = fr then 1 else 0) + zbS2 N nd (zbw E P F H t)) % M
def zbU (E : zbE) (M n c d : Nat) (F : Nat → Option Nat) (H : Nat → Nat) : Nat → Nat := match E c d with
  | none => H
  | some t => if zbT E n c d F t = some (n + 1) then (fun j => if j = t then (H t + H c) % M else H j) else H
theorem zbU_none {E : zbE} {M n c d : Nat} {F : Nat → Option Nat} {H : Nat → Nat} (h : E c d = none) : zbU E M n c d F H = H := by unfold zbU; rw [h]
theorem zbU_yes {E : zbE} {M n c d t : Nat} {F : Nat → Option Nat} {H : Nat → Nat} (h : E c d = some t) (h2 : zbT E n c d F t = some (n + 1)) : zbU E M n c d F H = fun j => if j = t then (H t + H c) % M else H j := by unfold zbU; rw [h]; exact if_pos h2
theorem zbU_no {E : zbE} {M n c d t : Nat} {F : Nat → Option Nat} {H : Nat → Nat} (h : E c d = some t) (h2 : ¬ zbT E n c d F t = some (n + 1)) : zbU E M n c d F H = H := by unfold zbU; rw [h]; exact if_neg h2
theorem zbH_step {E : zbE} {N nd fr M n c d : Nat} {P : Nat → Nat → Bool} {F : Nat → Option Nat} {H : Nat → Nat} (h : zbF E N nd fr P F) (hO : zbO P F n) (hH : zbH E N nd fr M P F H) (hcN : c < N) (hd : d < nd) (hc : F c = some n) (hP : P c d = false) : zbH E N nd fr M (zbA P c d) (zbT E n c d F) (zbU E M n c d F H) := by
  intro t ht
  cases e : E c d with
  | none =>
    rw [zbT_none e, zbU_none e, hH t ht]
    congr 2
    refine zbS2_cong (fun a b _ _ => ?_)
    unfold zbw
    by_cases q : a = c ∧ b = d
    · obtain ⟨rfl, rfl⟩ := q
      rw [if_neg (by rw [e]; simp), if_neg (by rw [e]; simp)]
      done
    · have e2 : zbA P c d a b = P a b := by
        rw [Bool.eq_iff_iff, zbA_iff]
        exact ⟨fun z => z.elim id (fun z => absurd z q), Or.inl⟩
      rw [e2]
  | some t0 =>
    have hkeep : ∀ a b, P a b = true → ∃ k, k ≤ n ∧ F a = some k ∧ zbT E n c d F a = some k := by
      intro a b hab
      obtain ⟨k, h6, -⟩ := h.2.2.1 a b hab
      exact ⟨k, hO.2 a b k hab h6, h6, zbT_keep h6⟩
    have hHc : zbU E M n c d F H c = H c := by
      by_cases h2 : zbT E n c d F t0 = some (n + 1)
      · rw [zbU_yes e h2]
        have hne : c ≠ t0 := by
          rintro rfl
          rw [zbT_keep hc] at h2
          injection h2 with h2
          omega
        exact if_neg hne
      · rw [zbU_no e h2]
    have hHP : ∀ a b, P a b = true → zbU E M n c d F H a = H a := by
      intro a b hab
      obtain ⟨k, hk, h6, h7⟩ := hkeep a b hab
      by_cases h2 : zbT E n c d F t0 = some (n + 1)
      · rw [zbU_yes e h2]
        have hne : a ≠ t0 := by
          rintro rfl
          rw [h7] at h2
          injection h2 with h2
          omega
        exact if_neg hne
      · rw [zbU_no e h2]
    have hold : ∀ a b, ¬ (a = c ∧ b = d) → zbw E (zbA P c d) (zbT E n c d F) (zbU E M n c d F H) t a b = zbw E P F H t a b := by
      intro a b q
      have e2 : zbA P c d a b = P a b := by
        rw [Bool.eq_iff_iff, zbA_iff]
        exact ⟨fun z => z.elim id (fun z => absurd z q), Or.inl⟩
      unfold zbw
      rw [e2]
      by_cases hab : P a b = true
      · obtain ⟨k, hk, h6, h7⟩ := hkeep a b hab
        rw [hHP a b hab]
        by_cases hE : E a b = some t
        · obtain ⟨k2, h8, h9⟩ := h.2.2.1 a b hab
          obtain ⟨j, hj, h10⟩ := h9 t hE
          have e3 : zbV (zbT E n c d F) a t = zbV F a t := by
            rw [Bool.eq_iff_iff, zbV_iff, zbV_iff, h6, h7, zbT_keep h10, h10]
          rw [e3]
        · rw [if_neg (fun z => hE z.2.1), if_neg (fun z => hE z.2.1)]
      · rw [if_neg (fun z => hab z.1), if_neg (fun z => hab z.1)]
    have h0 : zbw E P F H t c d = 0 := by
      unfold zbw
      exact if_neg (fun z => by rw [hP] at z; exact absurd z.1 (by decide))
    by_cases hx : t0 = t ∧ zbT E n c d F t = some (n + 1)
    · obtain ⟨rfl, hx⟩ := hx
      have hw : zbw E (zbA P c d) (zbT E n c d F) (zbU E M n c d F H) t0 c d = zbw E P F H t0 c d + H c := by
        rw [h0]
        unfold zbw
        rw [if_pos ⟨zbA_iff.mpr (Or.inr ⟨rfl, rfl⟩), e, zbV_iff.mpr ⟨n, zbT_keep hc, hx⟩⟩, hHc]
        omega
      rw [zbS2_one hcN hd hold hw, zbU_yes e hx]
      show (if t0 = t0 then (H t0 + H c) % M else H t0) = _
      rw [if_pos rfl, hH t0 ht, Nat.mod_add_mod, Nat.add_assoc]
    · have hw : zbw E (zbA P c d) (zbT E n c d F) (zbU E M n c d F H) t c d = zbw E P F H t c d + 0 := by
        rw [h0]
        unfold zbw
        refine if_neg (fun z => hx ⟨?_, ?_⟩)
        · have := z.2.1
          rw [e] at this
          injection this
        · obtain ⟨k, h6, h7⟩ := zbV_iff.mp z.2.2
          rw [zbT_keep hc] at h6
          injection h6 with h6
          rw [h7, h6]
      rw [zbS2_one hcN hd hold hw, Nat.add_zero, ← hH t ht]
      by_cases h2 : zbT E n c d F t0 = some (n + 1)
      · rw [zbU_yes e h2]
        exact if_neg (fun q => hx ⟨q.symm, by rw [q]; exact h2⟩)
      · rw [zbU_no e h2]
/-- it is done -/
def zbZ (E : zbE) (N nd fr M : Nat) (F : Nat → Option Nat) (H : Nat → Nat) : Prop := zbD E nd fr F ∧ (∀ t, F t ≠ none → t < N) ∧ ∀ t, t < N → H t = ((if t = fr then 1 else 0) + zbS2 N nd (fun c d => if E c d = some t ∧ zbV F c t = true then H c else 0)) % M
theorem zbD_all {E : zbE} {N nd fr : Nat} {P : Nat → Nat → Bool} {F : Nat → Option Nat} (h : zbF E N nd fr P F) (hall : ∀ c d, F c ≠ none → d < nd → P c d = true) : zbD E nd fr F := by
  refine ⟨h.1, fun c n hc d hd t ht => ?_, fun t n ht => ?_⟩
  · obtain ⟨k, h1, h2⟩ := h.2.2.1 c d (hall c d (by rw [hc]; simp) hd)
    rw [hc] at h1
    injection h1 with h1
    rw [h1]; exact h2 t ht
  · rcases h.2.2.2 t n ht with h1 | ⟨c, d, k, h1, -, h2, h3, h4⟩
    · exact Or.inl h1
    · exact Or.inr ⟨c, d, k, h1, h2, h3, h4⟩
theorem zbZ_of {E : zbE} {N nd fr M : Nat} {P : Nat → Nat → Bool} {F : Nat → Option Nat} {H : Nat → Nat} (h : zbF E N nd fr P F) (hH : zbH E N nd fr M P F H) (hall : ∀ c d, F c ≠ none → d < nd → P c d = true) : zbZ E N nd fr M F H := by
  refine ⟨zbD_all h hall, h.2.1, fun t ht => ?_⟩
  rw [hH t ht]
  congr 2
  refine zbS2_cong (fun c d _ hd => ?_)
  unfold zbw
  by_cases hv : zbV F c t = true
  · obtain ⟨k, h1, h2⟩ := zbV_iff.mp hv
    have hP := hall c d (by rw [h1]; simp) hd
    by_cases hE : E c d = some t
    · rw [if_pos ⟨hP, hE, hv⟩, if_pos ⟨hE, hv⟩]
    · rw [if_neg (fun z => hE z.2.1), if_neg (fun z => hE z.1)]
  · rw [if_neg (fun z => hv z.2.2), if_neg (fun z => hv z.2)]
theorem zbZ_eq {E : zbE} {N nd fr M : Nat} {F F2 : Nat → Option Nat} {H H2 : Nat → Nat} (h : zbZ E N nd fr M F H) (h2 : zbZ E N nd fr M F2 H2) : F = F2 ∧ ∀ t, t < N → H t = H2 t := by
  have e : F = F2 := zbD_eq h.1 h2.1
  subst e
  refine ⟨rfl, ?_⟩
  have key : ∀ n t, t < N → (∀ k, F t = some k → k ≤ n) → H t = H2 t := by
    intro n
    induction n with
    | zero =>
      intro t ht hk
      rw [h.2.2 t ht, h2.2.2 t ht]
      congr 2
      refine zbS2_cong (fun c d hc hd => ?_)
      have hv : ¬ zbV F c t = true := fun q => by
        obtain ⟨k, -, h4⟩ := zbV_iff.mp q
        have := hk _ h4
        omega
      rw [if_neg (fun z => hv z.2), if_neg (fun z => hv z.2)]
    | succ n ih =>
      intro t ht hk
      rw [h.2.2 t ht, h2.2.2 t ht]
      congr 2
      refine zbS2_cong (fun c d hc hd => ?_)
      by_cases hv : zbV F c t = true
      · obtain ⟨k, h3, h4⟩ := zbV_iff.mp hv
        have hkn := hk _ h4
        rw [ih c hc (fun j hj => by rw [h3] at hj; injection hj with hj; omega)]
      · rw [if_neg (fun z => hv z.2), if_neg (fun z => hv z.2)]
  intro t ht
  cases e : F t with
  | none => exact key 0 t ht (fun k hk => by rw [e] at hk; cases hk)
  | some n => exact key n t ht (fun k hk => by rw [e] at hk; injection hk with hk; omega)
/-! no node is as far as there are nodes -/
def zbL (F : Nat → Option Nat) (i c : Nat) : Bool := match F c with
  | none => false
  | some k => decide (k ≤ i)
theorem zbL_iff {F : Nat → Option Nat} {i c : Nat} : zbL F i c = true ↔ ∃ k, F c = some k ∧ k ≤ i := by
  unfold zbL
  cases e : F c with
  | none => simp
  | some k => simp
def zbC (F : Nat → Option Nat) (i : Nat) : Nat → Nat
  | 0 => 0
  | c + 1 => zbC F i c + (if zbL F i c = true then 1 else 0)
theorem zbC_le (F : Nat → Option Nat) (i : Nat) : ∀ N, zbC F i N ≤ N
  | 0 => Nat.le_refl _
  | N + 1 => by have := zbC_le F i N; rw [zbC]; split <;> omega
theorem zbC_mono (F : Nat → Option Nat) (i : Nat) : ∀ N, zbC F i N ≤ zbC F (i + 1) N
  | 0 => Nat.le_refl _
  | N + 1 => by
    have := zbC_mono F i N
    rw [zbC, zbC]
    by_cases h : zbL F i N = true
    · obtain ⟨k, h1, h2⟩ := zbL_iff.mp h
      rw [if_pos h, if_pos (zbL_iff.mpr ⟨k, h1, by omega⟩)]
      omega
    · rw [if_neg h]
      omega
theorem zbC_lt {F : Nat → Option Nat} {i c : Nat} (h : F c = some (i + 1)) : ∀ N, c < N → zbC F i N + 1 ≤ zbC F (i + 1) N
  | 0, hc => absurd hc (Nat.not_lt_zero _)
  | N + 1, hc => by
    rw [zbC, zbC]
    by_cases e : c = N
    · subst e
      have h1 : ¬ zbL F i c = true := fun q => by
        obtain ⟨k, h1, h2⟩ := zbL_iff.mp q
        rw [h] at h1
        injection h1 with h1
        omega
      rw [if_neg h1, if_pos (zbL_iff.mpr ⟨i + 1, h, Nat.le_refl _⟩)]
      have := zbC_mono F i c
      omega
    · have h2 := zbC_lt h N (by omega)
      by_cases h3 : zbL F i N = true
      · obtain ⟨k, h4, h5⟩ := zbL_iff.mp h3
        rw [if_pos h3, if_pos (zbL_iff.mpr ⟨k, h4, by omega⟩)]
        omega
      · rw [if_neg h3]
        omega
theorem zbC_one {F : Nat → Option Nat} {c : Nat} (h : F c = some 0) : ∀ N, c < N → 1 ≤ zbC F 0 N
  | 0, hc => absurd hc (Nat.not_lt_zero _)
  | N + 1, hc => by
    rw [zbC]
    by_cases e : c = N
    · subst e
      rw [if_pos (zbL_iff.mpr ⟨0, h, Nat.le_refl _⟩)]
      omega
    · have := zbC_one h N (by omega)
      omega
theorem zb_card {F : Nat → Option Nat} {N : Nat} (hN : ∀ t, F t ≠ none → t < N) (hp : ∀ t n, F t = some (n + 1) → ∃ c, F c = some n) : ∀ n t, F t = some n → n + 1 ≤ zbC F n N
  | 0, t, h => zbC_one h N (hN t (by rw [h]; simp))
  | n + 1, t, h => by
    obtain ⟨c, hc⟩ := hp t n h
    have h1 := zb_card hN hp n c hc
    have h2 := zbC_lt h N (hN t (by rw [h]; simp))
    omega
theorem zbF_lt {E : zbE} {N nd fr : Nat} {P : Nat → Nat → Bool} {F : Nat → Option Nat} (h : zbF E N nd fr P F) {t n : Nat} (ht : F t = some n) : n < N := by
  have h1 := zb_card h.2.1 (fun t n ht => by
    rcases h.2.2.2 t (n + 1) ht with ⟨e, -⟩ | ⟨c, d, k, -, -, -, h3, h4⟩
    · omega
    · exact ⟨c, by rw [h3, show k = n by omega]⟩) n t ht
  have h2 := zbC_le F n N
  omega
/-! the row in which they wait -/
def zbQ (F : Nat → Option Nat) (q : Nat → Nat) (fo : Nat) : Prop := (∀ i, i < fo → ∃ v, F (q i) = some v) ∧ (∀ i j, i < fo → j < fo → q i = q j → i = j) ∧ (∀ t, F t ≠ none → ∃ i, i < fo ∧ q i = t) ∧ ∀ i j v w, i ≤ j → j < fo → F (q i) = some v → F (q j) = some w → v ≤ w
theorem zb_pig : ∀ (N fo : Nat) (q : Nat → Nat), (∀ i, i < fo → q i < N) → (∀ i j, i < fo → j < fo → q i = q j → i = j) → fo ≤ N
  | 0, fo, q, h, _ => by
    rcases Nat.eq_zero_or_pos fo with e | e
    · omega
    · exact absurd (h 0 e) (Nat.not_lt_zero _)
  | N + 1, fo, q, h, hi => by
    by_cases hx : ∃ i, i < fo ∧ q i = N
    · obtain ⟨i0, hi0, e0⟩ := hx
      have h1 := zb_pig N (fo - 1) (fun j => if j = i0 then q (fo - 1) else q j) (fun j hj => by
        show (if j = i0 then q (fo - 1) else q j) < N
        by_cases e : j = i0
        · rw [if_pos e]
          have h2 := h (fo - 1) (by omega)
          have h3 : q (fo - 1) ≠ N := fun z => by have := hi (fo - 1) i0 (by omega) hi0 (z.trans e0.symm); omega
          omega
        · rw [if_neg e]
          have h2 := h j (by omega)
          have h3 : q j ≠ N := fun z => e (hi j i0 (by omega) hi0 (z.trans e0.symm))
          omega) (fun a b ha hb hab => by
        have hab2 : (if a = i0 then q (fo - 1) else q a) = (if b = i0 then q (fo - 1) else q b) := hab
        by_cases ea : a = i0
        · by_cases eb : b = i0
          · omega
          · rw [if_pos ea, if_neg eb] at hab2
            have := hi (fo - 1) b (by omega) (by omega) hab2
            omega
        · by_cases eb : b = i0
          · rw [if_neg ea, if_pos eb] at hab2
            have := hi a (fo - 1) (by omega) (by omega) hab2
            omega
          · rw [if_neg ea, if_neg eb] at hab2
            exact hi a b (by omega) (by omega) hab2)
      omega
    · have h1 := zb_pig N fo q (fun i hi2 => by
        have h2 := h i hi2
        have h3 : q i ≠ N := fun z => hx ⟨i, hi2, z⟩
        omega) hi
      omega
theorem zbQ_le {E : zbE} {N nd fr fo : Nat} {P : Nat → Nat → Bool} {F : Nat → Option Nat} {q : Nat → Nat} (h : zbF E N nd fr P F) (hQ : zbQ F q fo) : fo ≤ N := zb_pig N fo q (fun i hi => by obtain ⟨v, hv⟩ := hQ.1 i hi; exact h.2.1 _ (by rw [hv]; simp)) hQ.2.1
/-- one more waits -/
theorem zbQ_push {F : Nat → Option Nat} {q : Nat → Nat} {fo t n : Nat} (hQ : zbQ F q fo) (hn : F t = none) (hO : ∀ t k, F t = some k → k ≤ n + 1) : zbQ (fun j => if j = t then some (n + 1) else F j) (fun i => if i = fo then t else q i) (fo + 1) := by
  have hne : ∀ i, i < fo → q i ≠ t := fun i hi z => by obtain ⟨v, hv⟩ := hQ.1 i hi; rw [z, hn] at hv; cases hv
  have e1 : ∀ i, i < fo → (fun j => if j = t then some (n + 1) else F j) ((fun i => if i = fo then t else q i) i) = F (q i) := fun i hi => by
    show (if (if i = fo then t else q i) = t then some (n + 1) else F (if i = fo then t else q i)) = F (q i)
    rw [if_neg (show ¬ i = fo by omega), if_neg (hne i hi)]
  have e2 : (fun j => if j = t then some (n + 1) else F j) ((fun i => if i = fo then t else q i) fo) = some (n + 1) := by
    show (if (if fo = fo then t else q fo) = t then some (n + 1) else F (if fo = fo then t else q fo)) = some (n + 1)
    rw [if_pos rfl, if_pos rfl]
  refine ⟨fun i hi => ?_, fun i j hi hj hij => ?_, fun a ha => ?_, fun i j v w hij hj hv hw => ?_⟩
  · by_cases e : i = fo
    · subst e; exact ⟨n + 1, e2⟩
    · obtain ⟨v, hv⟩ := hQ.1 i (by omega)
      exact ⟨v, by rw [e1 i (by omega)]; exact hv⟩
  · have h1 : (if i = fo then t else q i) = (if j = fo then t else q j) := hij
    by_cases ei : i = fo
    · by_cases ej : j = fo
      · omega
      · rw [if_pos ei, if_neg ej] at h1; exact absurd h1.symm (hne j (by omega))
    · by_cases ej : j = fo
      · rw [if_neg ei, if_pos ej] at h1; exact absurd h1 (hne i (by omega))
      · rw [if_neg ei, if_neg ej] at h1; exact hQ.2.1 i j (by omega) (by omega) h1
  · by_cases e : a = t
    · exact ⟨fo, by omega, by show (if fo = fo then t else q fo) = a; rw [if_pos rfl, e]⟩
    · have h1 : (if a = t then some (n + 1) else F a) ≠ none := ha
      rw [if_neg e] at h1
      obtain ⟨i, hi, h2⟩ := hQ.2.2.1 a h1
      exact ⟨i, by omega, by show (if i = fo then t else q i) = a; rw [if_neg (show ¬ i = fo by omega)]; exact h2⟩
  · by_cases ej : j = fo
    · subst ej
      rw [e2] at hw
      injection hw with hw
      by_cases ei : i = j
      · subst ei; rw [e2] at hv; injection hv with hv; omega
      · rw [e1 i (by omega)] at hv
        have := hO _ _ hv
        omega
    · rw [e1 j (by omega)] at hw
      rw [e1 i (by omega)] at hv
      exact hQ.2.2.2 i j v w hij (by omega) hv hw
