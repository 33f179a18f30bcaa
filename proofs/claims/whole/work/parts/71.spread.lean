/-! the class's search and the reference's come to the same -/
theorem zb_it {α : Type} {F : Nat → α → α} (Q : Nat → α → Prop) {s : α} : ∀ n, (∀ k s, k < n → Q k s → Q (k + 1) (F k s)) → Q 0 s → Q n (it F n s)
  | 0, _, h0 => h0
  | n + 1, h, h0 => h n _ (by omega) (zb_it Q n (fun k s hk => h k s (by omega)) h0)
theorem zbS_zero {f : Nat → Nat} : ∀ {n : Nat}, (∀ j, j < n → f j = 0) → zbS f n = 0
  | 0, _ => rfl
  | n + 1, h => by rw [zbS, zbS_zero (fun j hj => h j (by omega)), h n (by omega)]
def zbF0 (fr : Nat) : Nat → Option Nat := fun j => if j = fr then some 0 else none
def zbH0 (fr : Nat) : Nat → Nat := fun j => if j = fr then 1 else 0
theorem zbF0_or {fr t k : Nat} (h : zbF0 fr t = some k) : t = fr ∧ k = 0 := by
  unfold zbF0 at h
  split at h
  · rename_i e
    injection h with h
    exact ⟨e, h.symm⟩
  · cases h
theorem zbF_0 {E : zbE} {N nd fr : Nat} (hfr : fr < N) : zbF E N nd fr (fun _ _ => false) (zbF0 fr) := by
  refine ⟨if_pos rfl, fun t ht => ?_, fun c d h => absurd h Bool.false_ne_true, fun t n ht => ?_⟩
  · cases e : zbF0 fr t with
    | none => exact absurd e ht
    | some k => rw [(zbF0_or e).1]; exact hfr
  · have := zbF0_or ht
    exact Or.inl ⟨this.2, this.1⟩
theorem zbH_0 {E : zbE} {N nd fr M : Nat} (hM : 1 < M) : zbH E N nd fr M (fun _ _ => false) (zbF0 fr) (zbH0 fr) := by
  intro t ht
  have h0 : zbS2 N nd (zbw E (fun _ _ => false) (zbF0 fr) (zbH0 fr) t) = 0 := zbS_zero (fun c _ => zbS_zero (fun d _ => if_neg (fun z => absurd z.1 Bool.false_ne_true)))
  rw [h0]
  unfold zbH0
  split
  · exact (Nat.mod_eq_of_lt hM).symm
  · exact (Nat.zero_mod M).symm
theorem zbO_0 {fr : Nat} {n : Nat} : zbO (fun _ _ => false) (zbF0 fr) n := ⟨fun t k ht => by have := zbF0_or ht; omega, fun c d k h _ => absurd h Bool.false_ne_true⟩
/-! the row in which they wait, behind a step -/
def zbX (E : zbE) (c d : Nat) (F : Nat → Option Nat) (q : (Nat → Nat) × Nat) : (Nat → Nat) × Nat := match E c d with
  | none => q
  | some t => if F t = none then (fun i => if i = q.2 then t else q.1 i, q.2 + 1) else q
theorem zbX_none {E : zbE} {c d : Nat} {F : Nat → Option Nat} {q : (Nat → Nat) × Nat} (h : E c d = none) : zbX E c d F q = q := by unfold zbX; rw [h]
theorem zbX_old {E : zbE} {c d t : Nat} {F : Nat → Option Nat} {q : (Nat → Nat) × Nat} (h : E c d = some t) (hF : ¬ F t = none) : zbX E c d F q = q := by unfold zbX; rw [h]; exact if_neg hF
theorem zbX_new {E : zbE} {c d t : Nat} {F : Nat → Option Nat} {q : (Nat → Nat) × Nat} (h : E c d = some t) (hF : F t = none) : zbX E c d F q = (fun i => if i = q.2 then t else q.1 i, q.2 + 1) := by unfold zbX; rw [h]; exact if_pos hF
theorem zbX_le {E : zbE} {c d : Nat} {F : Nat → Option Nat} {q : (Nat → Nat) × Nat} : q.2 ≤ (zbX E c d F q).2 ∧ ∀ i, i < q.2 → (zbX E c d F q).1 i = q.1 i := by
  cases e : E c d with
  | none => rw [zbX_none e]; exact ⟨Nat.le_refl _, fun _ _ => rfl⟩
  | some t =>
    by_cases h : F t = none
    · rw [zbX_new e h]
      exact ⟨Nat.le_succ _, fun i hi => if_neg (show ¬ i = q.2 by omega)⟩
    · rw [zbX_old e h]; exact ⟨Nat.le_refl _, fun _ _ => rfl⟩
theorem zbQ_step {E : zbE} {c d n : Nat} {F : Nat → Option Nat} {q : (Nat → Nat) × Nat} (hQ : zbQ F q.1 q.2) (hO : ∀ t k, F t = some k → k ≤ n + 1) : zbQ (zbT E n c d F) (zbX E c d F q).1 (zbX E c d F q).2 := by
  cases e : E c d with
  | none => rw [zbX_none e, zbT_none e]; exact hQ
  | some t =>
    by_cases h : F t = none
    · rw [zbX_new e h, zbT_new e h]; exact zbQ_push hQ h hO
    · rw [zbX_old e h, zbT_old e h]; exact hQ
theorem zbQ_0 {fr : Nat} : zbQ (zbF0 fr) (fun _ => fr) 1 := by
  refine ⟨fun i _ => ⟨0, if_pos rfl⟩, fun i j hi hj _ => by omega, fun t ht => ?_, fun i j v w _ _ hv hw => ?_⟩
  · cases e : zbF0 fr t with
    | none => exact absurd e ht
    | some k => exact ⟨0, by omega, (zbF0_or e).1.symm⟩
  · have h1 := zbF0_or hv
    omega
/-- the k-th of those who wait is dealt with, d doors of his so far -/
def zbK (E : zbE) (N nd fr k d : Nat) (P : Nat → Nat → Bool) (F : Nat → Option Nat) (q : (Nat → Nat) × Nat) : Prop :=
  zbF E N nd fr P F ∧ zbQ F q.1 q.2 ∧ (k < q.2 → ∃ n, F (q.1 k) = some n ∧ zbO P F n) ∧ ∀ c e, P c e = true ↔ (e < nd ∧ ∃ i, i < k ∧ i < q.2 ∧ q.1 i = c) ∨ (k < q.2 ∧ c = q.1 k ∧ e < d)
theorem zbK_0 {E : zbE} {N nd fr : Nat} (hfr : fr < N) : zbK E N nd fr 0 0 (fun _ _ => false) (zbF0 fr) (fun _ => fr, 1) := by
  refine ⟨zbF_0 hfr, zbQ_0, fun _ => ⟨0, if_pos rfl, zbO_0⟩, fun c e => ?_⟩
  constructor
  · intro h; exact absurd h Bool.false_ne_true
  · rintro (⟨-, i, hi, -⟩ | ⟨-, -, h⟩)
    · omega
    · omega
theorem zbK_free {E : zbE} {N nd fr k d : Nat} {P : Nat → Nat → Bool} {F : Nat → Option Nat} {q : (Nat → Nat) × Nat} (h : zbK E N nd fr k d P F q) (hk : k < q.2) : P (q.1 k) d = false := by
  rw [Bool.eq_false_iff]
  intro z
  rcases (h.2.2.2 _ _).mp z with ⟨-, i, h1, h2, h3⟩ | ⟨-, -, h1⟩
  · have := h.2.1.2.1 i k h2 hk h3
    omega
  · omega
theorem zbK_step {E : zbE} {N nd fr k d n : Nat} {P : Nat → Nat → Bool} {F : Nat → Option Nat} {q : (Nat → Nat) × Nat} (h : zbK E N nd fr k d P F q) (hE : ∀ c d t, E c d = some t → t < N) (hk : k < q.2) (hn : F (q.1 k) = some n) (hd : d < nd) : zbK E N nd fr k (d + 1) (zbA P (q.1 k) d) (zbT E n (q.1 k) d F) (zbX E (q.1 k) d F q) := by
  obtain ⟨h1, h2, h3, h4⟩ := h
  obtain ⟨n', hn', hO⟩ := h3 hk
  rw [hn] at hn'
  injection hn' with hn'
  subst hn'
  obtain ⟨hx1, hx2⟩ := zbX_le (E := E) (c := q.1 k) (d := d) (F := F) (q := q)
  refine ⟨zbF_step h1 hO (fun t ht => hE _ _ t ht) hd hn, zbQ_step h2 hO.1, fun _ => ⟨n, ?_, zbO_step h1 hO hn⟩, fun c e => ?_⟩
  · rw [hx2 k hk]; exact zbT_keep hn
  · rw [zbA_iff, h4, hx2 k hk]
    constructor
    · rintro ((⟨a, i, b1, b2, b3⟩ | ⟨a, b, c1⟩) | ⟨rfl, rfl⟩)
      · exact Or.inl ⟨a, i, b1, by omega, by rw [hx2 i b2]; exact b3⟩
      · exact Or.inr ⟨by omega, b, by omega⟩
      · exact Or.inr ⟨by omega, rfl, by omega⟩
    · rintro (⟨a, i, b1, b2, b3⟩ | ⟨a, b, c1⟩)
      · exact Or.inl (Or.inl ⟨a, i, b1, by omega, by rw [hx2 i (by omega)] at b3; exact b3⟩)
      · by_cases e2 : e = d
        · exact Or.inr ⟨b, e2⟩
        · exact Or.inl (Or.inr ⟨hk, b, by omega⟩)
theorem zbK_next {E : zbE} {N nd fr k : Nat} {P : Nat → Nat → Bool} {F : Nat → Option Nat} {q : (Nat → Nat) × Nat} (h : zbK E N nd fr k nd P F q) (hk : k < q.2) : zbK E N nd fr (k + 1) 0 P F q := by
  obtain ⟨h1, h2, h3, h4⟩ := h
  obtain ⟨n, hn, hO⟩ := h3 hk
  refine ⟨h1, h2, fun hk2 => ?_, fun c e => ?_⟩
  · obtain ⟨w, hw⟩ := h2.1 (k + 1) hk2
    have hle := h2.2.2.2 k (k + 1) n w (by omega) hk2 hn hw
    exact ⟨w, hw, fun t j ht => by have := hO.1 t j ht; omega, fun a b j hab hj => by have := hO.2 a b j hab hj; omega⟩
  · rw [h4]
    constructor
    · rintro (⟨a, i, b1, b2, b3⟩ | ⟨a, b, c1⟩)
      · exact Or.inl ⟨a, i, by omega, b2, b3⟩
      · exact Or.inl ⟨c1, k, by omega, hk, b.symm⟩
    · rintro (⟨a, i, b1, b2, b3⟩ | ⟨a, b, c1⟩)
      · by_cases e2 : i = k
        · subst e2; exact Or.inr ⟨hk, b3.symm, a⟩
        · exact Or.inl ⟨a, i, by omega, b2, b3⟩
      · omega
theorem zbK_skip {E : zbE} {N nd fr k : Nat} {P : Nat → Nat → Bool} {F : Nat → Option Nat} {q : (Nat → Nat) × Nat} (h : zbK E N nd fr k 0 P F q) (hk : q.2 ≤ k) : zbK E N nd fr (k + 1) 0 P F q := by
  obtain ⟨h1, h2, h3, h4⟩ := h
  refine ⟨h1, h2, fun hk2 => by omega, fun c e => ?_⟩
  rw [h4]
  constructor
  · rintro (⟨a, i, b1, b2, b3⟩ | ⟨a, b, c1⟩)
    · exact Or.inl ⟨a, i, by omega, b2, b3⟩
    · omega
  · rintro (⟨a, i, b1, b2, b3⟩ | ⟨a, b, c1⟩)
    · exact Or.inl ⟨a, i, by omega, b2, b3⟩
    · omega
theorem zbK_all {E : zbE} {N nd fr k : Nat} {P : Nat → Nat → Bool} {F : Nat → Option Nat} {q : (Nat → Nat) × Nat} (h : zbK E N nd fr k 0 P F q) (hk : q.2 ≤ k) : ∀ c d, F c ≠ none → d < nd → P c d = true := by
  intro c d hc hd
  obtain ⟨i, hi, e⟩ := h.2.1.2.2.1 c hc
  exact (h.2.2.2 c d).mpr (Or.inl ⟨hd, i, by omega, hi, e⟩)
/-! numbers -/
def zeC : Option Nat → Int32
  | none => -4
  | some v => nI v
def zeR : Option Nat → Int32
  | none => nI 1000000
  | some v => nI v
theorem rmF_nat {x y : Nat} (hx : x < 1000003) (hy : y < 1000003) : rmF (nI x + nI y) = nI ((x + y) % 1000003) := by
  unfold rmF
  rw [nI_add]
  exact pk_rem (by omega) (by decide) (by decide)
def zbEc (a op : Nat → Int32) (sh : Int32) (nd : Nat) : zbE := fun c d => if c < 8 ∧ d < nd ∧ ioB op c d sh = true then some (beN a d c) else none
def zbEr (g : Nat → Int32) (m : Nat) (sh : Int32) (nd : Nat) : zbE := fun c d => if c < 8 ∧ d < nd ∧ hasB sh d = false ∧ psB g m d (nI c) = true then some (btF g d c) else none
theorem zbEc_lt {a op : Nat → Int32} {sh : Int32} {nd : Nat} (hW : wfD a nd) : ∀ c d t, zbEc a op sh nd c d = some t → t < 8 := by
  intro c d t h
  unfold zbEc at h
  split at h
  · rename_i q
    injection h with h
    rw [← h]; exact (be_ok hW q.2.1).2
  · cases h
theorem zbEr_lt {g : Nat → Int32} {m : Nat} {sh : Int32} {nd : Nat} (hW : wfD g nd) : ∀ c d t, zbEr g m sh nd c d = some t → t < 8 := by
  intro c d t h
  unfold zbEr at h
  split at h
  · rename_i q
    injection h with h
    rw [← h]; exact (ps_ok hW q.2.1 q.2.2.2).2
  · cases h
theorem zbH_lt {E : zbE} {N nd fr M : Nat} {P : Nat → Nat → Bool} {F : Nat → Option Nat} {H : Nat → Nat} (hM : 0 < M) (h : zbH E N nd fr M P F H) {t : Nat} (ht : t < N) : H t < M := by
  rw [h t ht]; exact Nat.mod_lt _ hM
/-! the reference -/
def zrR (s : rr2) (F : Nat → Option Nat) (H : Nat → Nat) : Prop := ∀ j, j < 8 → s.1 j = zeR (F j) ∧ s.2 j = nI (H j)
theorem zr_eq {F : Nat → Option Nat} {c n : Nat} (hn : n < 8) (hb : ∀ k, F c = some k → k < 8) : zeR (F c) = nI n ↔ F c = some n := by
  cases e : F c with
  | none =>
    simp only [zeR, reduceCtorEq, iff_false]
    exact fun z => absurd ((nI_eq (by decide) (by omega)).mp z) (by omega)
  | some v =>
    have := hb v e
    simp only [zeR, Option.some.injEq]
    exact nI_eq (by omega) (by omega)
theorem zr_D {g : Nat → Int32} {m : Nat} {sh : Int32} {nd c d n : Nat} {s : rr2} {F : Nat → Option Nat} {H : Nat → Nat} (hW : wfD g nd) (hc : c < 8) (hd : d < nd) (hr : zrR s F H) (hF : F c = some n) (hbF : ∀ t k, F t = some k → k < 8) (hbH : ∀ t, t < 8 → H t < 1000003) : zrR (lsD g m sh n c d s) (zbT (zbEr g m sh nd) n c d F) (zbU (zbEr g m sh nd) 1000003 n c d F H) := by
  have hn8 := hbF c n hF
  have hsc : s.1 c = nI n := by rw [(hr c hc).1, hF]; rfl
  unfold lsD
  rw [if_pos hsc]
  by_cases hi : hasB sh d = false ∧ psB g m d (nI c) = true
  · have hE : zbEr g m sh nd c d = some (btF g d c) := if_pos ⟨hc, hd, hi⟩
    have ht := (ps_ok hW hd hi.2).2
    rw [if_pos hi]
    generalize btF g d c = t at ht hE
    cases eF : F t with
    | none =>
      have hst : s.1 t = nI 1000000 := by rw [(hr t ht).1, eF]; rfl
      have hT : zbT (zbEr g m sh nd) n c d F = fun j => if j = t then some (n + 1) else F j := zbT_new hE eF
      have hTt : zbT (zbEr g m sh nd) n c d F t = some (n + 1) := by rw [hT]; exact if_pos rfl
      rw [hst, if_pos rfl, if_pos rfl, hT, zbU_yes hE hTt]
      refine fun j hj => ⟨?_, ?_⟩
      · show upd s.1 t _ j = zeR (if j = t then some (n + 1) else F j)
        by_cases e : j = t
        · rw [e, pk_us, if_pos rfl]; rfl
        · rw [pk_un e, if_neg e]; exact (hr j hj).1
      · show upd s.2 t _ j = nI (if j = t then (H t + H c) % 1000003 else H j)
        by_cases e : j = t
        · rw [e, pk_us, if_pos rfl, (hr t ht).2, (hr c hc).2, rmF_nat (hbH t ht) (hbH c hc)]
        · rw [pk_un e, if_neg e]; exact (hr j hj).2
    | some v =>
      have hv := hbF t v eF
      have hst : s.1 t = nI v := by rw [(hr t ht).1, eF]; rfl
      have hT : zbT (zbEr g m sh nd) n c d F = F := zbT_old hE (by rw [eF]; simp)
      have hne : ¬ nI v = nI 1000000 := fun z => absurd ((nI_eq (by omega) (by decide)).mp z) (by omega)
      rw [hst, if_neg hne, hT]
      by_cases e : v = n + 1
      · have hTt : zbT (zbEr g m sh nd) n c d F t = some (n + 1) := by rw [hT, eF, e]
        rw [if_pos (by rw [e]), zbU_yes hE hTt]
        refine fun j hj => ⟨?_, ?_⟩
        · show upd s.1 t (nI v) j = zeR (F j)
          by_cases e : j = t
          · rw [e, pk_us, eF]; rfl
          · rw [pk_un e]; exact (hr j hj).1
        · show upd s.2 t _ j = nI (if j = t then (H t + H c) % 1000003 else H j)
          by_cases e : j = t
          · rw [e, pk_us, if_pos rfl, (hr t ht).2, (hr c hc).2, rmF_nat (hbH t ht) (hbH c hc)]
          · rw [pk_un e, if_neg e]; exact (hr j hj).2
      · have hTt : ¬ zbT (zbEr g m sh nd) n c d F t = some (n + 1) := by
          rw [hT, eF]
          intro z
          injection z with z
          exact e z
        rw [if_neg (fun z => e ((nI_eq (by omega) (by omega)).mp z)), zbU_no hE hTt]
        refine fun j hj => ⟨?_, ?_⟩
        · show upd s.1 t (nI v) j = zeR (F j)
          by_cases e : j = t
          · rw [e, pk_us, eF]; rfl
          · rw [pk_un e]; exact (hr j hj).1
        · show upd s.2 t (s.2 t) j = nI (H j)
          by_cases e : j = t
          · rw [e, pk_us]; exact (hr t ht).2
          · rw [pk_un e]; exact (hr j hj).2
  · have hE : zbEr g m sh nd c d = none := if_neg (fun z => hi z.2.2)
    rw [if_neg hi, zbT_none hE, zbU_none hE]
    exact hr
/-- the levels below n are done, of level n the nodes below c, of c the doors below d -/
def zbM (E : zbE) (N nd fr n c d : Nat) (P : Nat → Nat → Bool) (F : Nat → Option Nat) : Prop :=
  zbF E N nd fr P F ∧ zbO P F n ∧ ∀ a e, P a e = true ↔ e < nd ∧ ∃ k, F a = some k ∧ (k < n ∨ (k = n ∧ (a < c ∨ (a = c ∧ e < d))))
theorem zbM_0 {E : zbE} {N nd fr : Nat} (hfr : fr < N) : zbM E N nd fr 0 0 0 (fun _ _ => false) (zbF0 fr) := by
  refine ⟨zbF_0 hfr, zbO_0, fun a e => ⟨fun h => absurd h Bool.false_ne_true, ?_⟩⟩
  rintro ⟨-, k, -, h⟩
  omega
theorem zbM_step {E : zbE} {N nd fr n c d : Nat} {P : Nat → Nat → Bool} {F : Nat → Option Nat} (h : zbM E N nd fr n c d P F) (hE : ∀ c d t, E c d = some t → t < N) (hn : F c = some n) (hd : d < nd) : zbM E N nd fr n c (d + 1) (zbA P c d) (zbT E n c d F) := by
  obtain ⟨h1, h2, h3⟩ := h
  refine ⟨zbF_step h1 h2 (fun t ht => hE _ _ t ht) hd hn, zbO_step h1 h2 hn, fun a e => ?_⟩
  rw [zbA_iff, h3]
  constructor
  · rintro (⟨a1, k, a2, a3⟩ | ⟨rfl, rfl⟩)
    · exact ⟨a1, k, zbT_keep a2, by omega⟩
    · exact ⟨hd, n, zbT_keep hn, by omega⟩
  · rintro ⟨a1, k, a2, a3⟩
    rcases zbT_or a2 with a4 | ⟨a4, -, -⟩
    · by_cases e2 : a = c ∧ e = d
      · exact Or.inr e2
      · exact Or.inl ⟨a1, k, a4, by omega⟩
    · omega
theorem zbM_free {E : zbE} {N nd fr n c d : Nat} {P : Nat → Nat → Bool} {F : Nat → Option Nat} (h : zbM E N nd fr n c d P F) (hn : F c = some n) : P c d = false := by
  rw [Bool.eq_false_iff]
  intro z
  obtain ⟨-, k, h1, h2⟩ := (h.2.2 c d).mp z
  rw [hn] at h1
  injection h1 with h1
  omega
theorem zbM_skip {E : zbE} {N nd fr n c d : Nat} {P : Nat → Nat → Bool} {F : Nat → Option Nat} (h : zbM E N nd fr n c d P F) (hn : ¬ F c = some n) : zbM E N nd fr n c (d + 1) P F := by
  refine ⟨h.1, h.2.1, fun a e => ?_⟩
  rw [h.2.2]
  constructor
  · rintro ⟨a1, k, a2, a3⟩
    exact ⟨a1, k, a2, by omega⟩
  · rintro ⟨a1, k, a2, a3⟩
    refine ⟨a1, k, a2, ?_⟩
    have : ¬ (a = c ∧ k = n) := fun z => hn (by rw [← z.1, ← z.2]; exact a2)
    omega
theorem zbM_c {E : zbE} {N nd fr n c : Nat} {P : Nat → Nat → Bool} {F : Nat → Option Nat} (h : zbM E N nd fr n c nd P F) : zbM E N nd fr n (c + 1) 0 P F := by
  refine ⟨h.1, h.2.1, fun a e => ?_⟩
  rw [h.2.2]
  constructor
  · rintro ⟨a1, k, a2, a3⟩
    exact ⟨a1, k, a2, by omega⟩
  · rintro ⟨a1, k, a2, a3⟩
    exact ⟨a1, k, a2, by omega⟩
theorem zbM_n {E : zbE} {N nd fr n : Nat} {P : Nat → Nat → Bool} {F : Nat → Option Nat} (h : zbM E N nd fr n N 0 P F) : zbM E N nd fr (n + 1) 0 0 P F := by
  refine ⟨h.1, ⟨fun t k ht => by have := h.2.1.1 t k ht; omega, fun a b k hab hk => by have := h.2.1.2 a b k hab hk; omega⟩, fun a e => ?_⟩
  rw [h.2.2]
  constructor
  · rintro ⟨a1, k, a2, a3⟩
    exact ⟨a1, k, a2, by omega⟩
  · rintro ⟨a1, k, a2, a3⟩
    have := h.1.2.1 a (by rw [a2]; simp)
    exact ⟨a1, k, a2, by omega⟩
theorem zbM_all {E : zbE} {N nd fr : Nat} {P : Nat → Nat → Bool} {F : Nat → Option Nat} (h : zbM E N nd fr N 0 0 P F) : ∀ c d, F c ≠ none → d < nd → P c d = true := by
  intro c d hc hd
  cases e : F c with
  | none => exact absurd e hc
  | some k => exact (h.2.2 c d).mpr ⟨hd, k, e, Or.inl (zbF_lt h.1 e)⟩
def zrI (g : Nat → Int32) (m : Nat) (sh : Int32) (nd fr n c d : Nat) (s : rr2) : Prop := ∃ P F H, zrR s F H ∧ zbM (zbEr g m sh nd) 8 nd fr n c d P F ∧ zbH (zbEr g m sh nd) 8 nd fr 1000003 P F H
theorem zr_step {g : Nat → Int32} {m : Nat} {sh : Int32} {nd fr n c d : Nat} {s : rr2} (hW : wfD g nd) (hn : n < 8) (hc : c < 8) (hd : d < nd) (h : zrI g m sh nd fr n c d s) : zrI g m sh nd fr n c (d + 1) (lsD g m sh n c d s) := by
  obtain ⟨P, F, H, hr, hM, hH⟩ := h
  have hb : ∀ t k, F t = some k → k < 8 := fun t k ht => zbF_lt hM.1 ht
  by_cases e : F c = some n
  · exact ⟨_, _, _, zr_D hW hc hd hr e hb (fun t ht => zbH_lt (by decide) hH ht), zbM_step hM (zbEr_lt hW) e hd, zbH_step hM.1 hM.2.1 hH hc hd e (zbM_free hM e)⟩
  · have h2 : ¬ s.1 c = nI n := by
      rw [(hr c hc).1]
      exact fun z => e ((zr_eq hn (hb c)).mp z)
    unfold lsD
    rw [if_neg h2]
    exact ⟨P, F, H, hr, zbM_skip hM e, hH⟩
theorem zb_ref {g : Nat → Int32} {m : Nat} {sh : Int32} {nd fr : Nat} (hW : wfD g nd) (hfr : fr < 8) : ∃ F H, zbZ (zbEr g m sh nd) 8 nd fr 1000003 F H ∧ ∀ j, j < 8 → (lsZ g m sh fr nd).1 j = zeR (F j) ∧ (lsZ g m sh fr nd).2 j = nI (H j) := by
  have h0 : zrI g m sh nd fr 0 0 0 (inR8 (fun _ => nI 0) fr (nI 0) (nI 1000000) 8, inR8 (fun _ => nI 0) fr (nI 1) (nI 0) 8) := by
    refine ⟨_, _, _, fun j hj => ⟨?_, ?_⟩, zbM_0 hfr, zbH_0 (by decide)⟩
    · show inR8 (fun _ => nI 0) fr (nI 0) (nI 1000000) 8 j = zeR (zbF0 fr j)
      unfold inR8 zbF0
      rw [if_pos hj]
      split <;> rfl
    · show inR8 (fun _ => nI 0) fr (nI 1) (nI 0) 8 j = nI (zbH0 fr j)
      unfold inR8 zbH0
      rw [if_pos hj]
      split <;> rfl
  have hC : ∀ n c s, n < 8 → c < 8 → zrI g m sh nd fr n c 0 s → zrI g m sh nd fr n (c + 1) 0 (lsC g m sh nd n c s) := by
    intro n c s hn hc hs
    obtain ⟨P, F, H, hr, hM, hH⟩ := zb_it (F := lsD g m sh n c) (fun d s => zrI g m sh nd fr n c d s) nd (fun d s hd hs => zr_step hW hn hc hd hs) hs
    exact ⟨P, F, H, hr, zbM_c hM, hH⟩
  have hN : ∀ n s, n < 8 → zrI g m sh nd fr n 0 0 s → zrI g m sh nd fr (n + 1) 0 0 (lsN g m sh nd n s) := by
    intro n s hn hs
    obtain ⟨P, F, H, hr, hM, hH⟩ := zb_it (F := lsC g m sh nd n) (fun c s => zrI g m sh nd fr n c 0 s) 8 (fun c s hc hs => hC n c s hn hc hs) hs
    exact ⟨P, F, H, hr, zbM_n hM, hH⟩
  have e : lsZ g m sh fr nd = it (lsN g m sh nd) 8 (inR8 (fun _ => nI 0) fr (nI 0) (nI 1000000) 8, inR8 (fun _ => nI 0) fr (nI 1) (nI 0) 8) := rfl
  rw [e]
  obtain ⟨P, F, H, hr, hM, hH⟩ := zb_it (F := lsN g m sh nd) (fun n s => zrI g m sh nd fr n 0 0 s) 8 (fun n s hn hs => hN n s hn hs) h0
  exact ⟨F, H, zbZ_of hM.1 hH (zbM_all hM), hr⟩
/-! the class -/
def zcR (s : sp4) (F : Nat → Option Nat) (H : Nat → Nat) : Prop := ∀ j, j < 8 → s.1 j = zeC (F j) ∧ s.2 j = nI (H j)
theorem zc_pos {F : Nat → Option Nat} {t : Nat} (hb : ∀ k, F t = some k → k < 8) : 0 ≤ zeC (F t) ↔ ¬ F t = none := by
  cases e : F t with
  | none => simp [zeC]
  | some v =>
    have := hb v e
    simp only [zeC, reduceCtorEq, not_false_iff, iff_true]
    exact nI_pos' (by omega)
theorem zc_some {F : Nat → Option Nat} {t v : Nat} (hb : ∀ k, F t = some k → k < 8) (hv : v < 8) : zeC (F t) = nI v ↔ F t = some v := by
  cases e : F t with
  | none =>
    simp only [zeC, reduceCtorEq, iff_false]
    exact fun z => nI_n4 (show v < 2147483648 by omega) z.symm
  | some w =>
    have := hb w e
    simp only [zeC, Option.some.injEq]
    exact nI_eq (by omega) (by omega)
theorem zc_D {a op : Nat → Int32} {sh th : Int32} {nd c d n : Nat} {s : sp4} {F : Nat → Option Nat} {H : Nat → Nat} (hW : wfD a nd) (hc : c < 8) (hd : d < nd) (hth : th = nI (n + 1)) (hr : zcR s F H) (hF : F c = some n) (hbF : ∀ t k, F t = some k → k < 8) (hbH : ∀ t, t < 8 → H t < 1000003) : zcR (spD a op sh c th d s) (zbT (zbEc a op sh nd) n c d F) (zbU (zbEc a op sh nd) 1000003 n c d F H) := by
  have hn8 := hbF c n hF
  have ht := (be_ok (c := c) hW hd).2
  unfold spD
  by_cases hi : ioB op c d sh = true
  · have hE : zbEc a op sh nd c d = some (beN a d c) := if_pos ⟨hc, hd, hi⟩
    rw [if_pos hi]
    generalize beN a d c = t at ht hE
    cases eF : F t with
    | none =>
      have hst : s.1 t = -4 := by rw [(hr t ht).1, eF]; rfl
      have hT : zbT (zbEc a op sh nd) n c d F = fun j => if j = t then some (n + 1) else F j := zbT_new hE eF
      have hTt : zbT (zbEc a op sh nd) n c d F t = some (n + 1) := by rw [hT]; exact if_pos rfl
      rw [hst, if_neg (show ¬ (0 : Int32) ≤ -4 by decide), hT, zbU_yes hE hTt]
      refine fun j hj => ⟨?_, ?_⟩
      · show upd s.1 t _ j = zeC (if j = t then some (n + 1) else F j)
        by_cases e : j = t
        · rw [e, pk_us, if_pos rfl, hth]; rfl
        · rw [pk_un e, if_neg e]; exact (hr j hj).1
      · show upd s.2 t _ j = nI (if j = t then (H t + H c) % 1000003 else H j)
        by_cases e : j = t
        · rw [e, pk_us, if_pos rfl, (hr t ht).2, (hr c hc).2, rmF_nat (hbH t ht) (hbH c hc)]
        · rw [pk_un e, if_neg e]; exact (hr j hj).2
    | some v =>
      have hv := hbF t v eF
      have hst : s.1 t = nI v := by rw [(hr t ht).1, eF]; rfl
      have hT : zbT (zbEc a op sh nd) n c d F = F := zbT_old hE (by rw [eF]; simp)
      rw [hst, if_pos (nI_pos' (by omega)), hth]
      by_cases e : v = n + 1
      · have hTt : zbT (zbEc a op sh nd) n c d F t = some (n + 1) := by rw [hT, eF, e]
        rw [if_pos (by rw [e]), hT, zbU_yes hE hTt]
        refine fun j hj => ⟨(hr j hj).1, ?_⟩
        show upd s.2 t _ j = nI (if j = t then (H t + H c) % 1000003 else H j)
        by_cases e : j = t
        · rw [e, pk_us, if_pos rfl, (hr t ht).2, (hr c hc).2, rmF_nat (hbH t ht) (hbH c hc)]
        · rw [pk_un e, if_neg e]; exact (hr j hj).2
      · have hTt : ¬ zbT (zbEc a op sh nd) n c d F t = some (n + 1) := by
          rw [hT, eF]
          intro z
          injection z with z
          exact e z
        rw [if_neg (fun z => e ((nI_eq (by omega) (by omega)).mp z)), hT, zbU_no hE hTt]
        exact hr
  · have hE : zbEc a op sh nd c d = none := if_neg (fun z => hi z.2.2)
    rw [if_neg hi, zbT_none hE, zbU_none hE]
    exact hr
theorem zbM_pass {E : zbE} {N nd fr n c : Nat} {P : Nat → Nat → Bool} {F : Nat → Option Nat} (h : zbM E N nd fr n c 0 P F) (hn : ¬ F c = some n) : zbM E N nd fr n (c + 1) 0 P F := by
  refine ⟨h.1, h.2.1, fun a e => ?_⟩
  rw [h.2.2]
  constructor
  · rintro ⟨a1, k, a2, a3⟩
    exact ⟨a1, k, a2, by omega⟩
  · rintro ⟨a1, k, a2, a3⟩
    refine ⟨a1, k, a2, ?_⟩
    have : ¬ (a = c ∧ k = n) := fun z => hn (by rw [← z.1, ← z.2]; exact a2)
    omega
def zcI (a op : Nat → Int32) (sh : Int32) (nd fr n c : Nat) (s : sp4) : Prop := ∃ P F H, zcR s F H ∧ zbM (zbEc a op sh nd) 8 nd fr n c 0 P F ∧ zbH (zbEc a op sh nd) 8 nd fr 1000003 P F H
theorem zc_C {a op : Nat → Int32} {sh : Int32} {nd fr n c : Nat} {s : sp4} (hW : wfD a nd) (hn : n < 8) (hc : c < 8) (h : zcI a op sh nd fr n c s) : zcI a op sh nd fr n (c + 1) (spC a op sh nd n c s) := by
  obtain ⟨P, F, H, hr, hM, hH⟩ := h
  have hb : ∀ t k, F t = some k → k < 8 := fun t k ht => zbF_lt hM.1 ht
  unfold spC
  by_cases e : F c = some n
  · have hsc : s.1 c = nI n := by rw [(hr c hc).1, e]; rfl
    have hth : s.1 c + nI 1 = nI (n + 1) := by rw [hsc, nI_add]
    rw [if_pos hsc]
    generalize s.1 c + nI 1 = th at hth
    obtain ⟨P2, F2, H2, q1, q2, q3, -⟩ := zb_it (F := spD a op sh c th) (s := s) (fun d s => ∃ P F H, zcR s F H ∧ zbM (zbEc a op sh nd) 8 nd fr n c d P F ∧ zbH (zbEc a op sh nd) 8 nd fr 1000003 P F H ∧ F c = some n) nd (fun d s hd hs => by
      obtain ⟨P, F, H, h1, h2, h3, h4⟩ := hs
      exact ⟨_, _, _, zc_D hW hc hd hth h1 h4 (fun t k ht => zbF_lt h2.1 ht) (fun t ht => zbH_lt (by decide) h3 ht), zbM_step h2 (zbEc_lt hW) h4 hd, zbH_step h2.1 h2.2.1 h3 hc hd h4 (zbM_free h2 h4), zbT_keep h4⟩) ⟨P, F, H, hr, hM, hH, e⟩
    exact ⟨P2, F2, H2, q1, zbM_c q2, q3⟩
  · have h2 : ¬ s.1 c = nI n := by
      rw [(hr c hc).1]
      exact fun z => e ((zc_some (hb c) hn).mp z)
    rw [if_neg h2]
    exact ⟨P, F, H, hr, zbM_pass hM e, hH⟩
theorem zb_class {a op : Nat → Int32} {sh : Int32} {nd fr : Nat} (hW : wfD a nd) (hfr : fr < 8) : ∃ F H, zbZ (zbEc a op sh nd) 8 nd fr 1000003 F H ∧ ∀ j, j < 8 → (spZ a op sh fr nd).1 j = zeC (F j) ∧ (spZ a op sh fr nd).2 j = nI (H j) := by
  have h0 : zcI a op sh nd fr 0 0 (spI (fun _ => nI 0) (fun _ => nI 0) fr) := by
    refine ⟨_, _, _, fun j hj => ⟨?_, ?_⟩, zbM_0 hfr, zbH_0 (by decide)⟩
    · show upd (filI (fun _ => nI 0) (-4) 8) fr (nI 0) j = zeC (zbF0 fr j)
      unfold zbF0
      by_cases e : j = fr
      · rw [e, pk_us, if_pos rfl]; rfl
      · rw [pk_un e, if_neg e]; exact if_pos hj
    · show upd (filI (fun _ => nI 0) (nI 0) 8) fr (nI 1) j = nI (zbH0 fr j)
      unfold zbH0
      by_cases e : j = fr
      · rw [e, pk_us, if_pos rfl]
      · rw [pk_un e, if_neg e]; exact if_pos hj
  have hN : ∀ n s, n < 8 → zcI a op sh nd fr n 0 s → zcI a op sh nd fr (n + 1) 0 (spK a op sh nd n s) := by
    intro n s hn hs
    obtain ⟨P, F, H, hr, hM, hH⟩ := zb_it (F := spC a op sh nd n) (fun c s => zcI a op sh nd fr n c s) 8 (fun c s hc hs => zc_C hW hn hc hs) hs
    exact ⟨P, F, H, hr, zbM_n hM, hH⟩
  have e : spZ a op sh fr nd = it (spK a op sh nd) 8 (spI (fun _ => nI 0) (fun _ => nI 0) fr) := rfl
  rw [e]
  obtain ⟨P, F, H, hr, hM, hH⟩ := zb_it (F := spK a op sh nd) (fun n s => zcI a op sh nd fr n 0 s) 8 (fun n s hn hs => hN n s hn hs) h0
  exact ⟨F, H, zbZ_of hM.1 hH (zbM_all hM), hr⟩
