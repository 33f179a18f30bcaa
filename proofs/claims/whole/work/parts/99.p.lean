/-! the first state -/
def jokb (x : jP) : Bool := match x with
  | (0, a, b) => a == 0 && b == 0
  | (1, p, b) => decide (p < 19) && b == 0
  | (2, p, b) => decide (p < 19) && b == 0
  | (3, p, b) => decide (p < 19) && b == 0
  | (4, p, d) => decide (p < 19) && decide (d < 10)
  | (5, p, m) => (decide (p < 19) && decide (m < 4)) || ((p == 19 || p == 20) && m == 0)
  | (7, h, b) => decide (h < 2) && b == 0
  | (8, h, b) => decide (h < 2) && b == 0
  | (9, a, b) => a == 0 && b == 0
  | (10, a, b) => a == 0 && b == 0
  | (11, a, b) => a == 0 && b == 0
  | (14, a, b) => a == 0 && b == 0
  | (15, s, b) => decide (s < 4) && b == 0
  | (20, a, b) => a == 0 && b == 0
  | (21, k, b) => ((decide (27 ≤ k) && decide (k ≤ 31)) || (decide (41 ≤ k) && decide (k ≤ 53))) && b == 0
  | (22, k, b) => (decide (k < 6) || (decide (10 ≤ k) && decide (k ≤ 13))) && b == 0
  | _ => false
theorem jokb_iff : ∀ x : jP, jokb x = true ↔ jok x
  | (0, a, b) => by simp [jokb, jok]
  | (1, a, b) => by simp [jokb, jok]
  | (2, a, b) => by simp [jokb, jok]
  | (3, a, b) => by simp [jokb, jok]
  | (4, a, b) => by simp [jokb, jok]
  | (5, a, b) => by simp [jokb, jok]
  | (6, a, b) => by simp [jokb, jok]
  | (7, a, b) => by simp [jokb, jok]
  | (8, a, b) => by simp [jokb, jok]
  | (9, a, b) => by simp [jokb, jok]
  | (10, a, b) => by simp [jokb, jok]
  | (11, a, b) => by simp [jokb, jok]
  | (12, a, b) => by simp [jokb, jok]
  | (13, a, b) => by simp [jokb, jok]
  | (14, a, b) => by simp [jokb, jok]
  | (15, a, b) => by simp [jokb, jok]
  | (16, a, b) => by simp [jokb, jok]
  | (17, a, b) => by simp [jokb, jok]
  | (18, a, b) => by simp [jokb, jok]
  | (19, a, b) => by simp [jokb, jok]
  | (20, a, b) => by simp [jokb, jok]
  | (21, a, b) => by simp [jokb, jok]
  | (22, a, b) => by simp [jokb, jok]
  | (n + 23, a, b) => by simp [jokb, jok]
theorem jok_b : ∀ x : jP, jok x → x.1 < 23 ∧ x.2.1 < 54 ∧ x.2.2 < 10
  | (0, a, b), h => by simp only [jok] at h; dsimp only; omega
  | (1, a, b), h => by simp only [jok] at h; dsimp only; omega
  | (2, a, b), h => by simp only [jok] at h; dsimp only; omega
  | (3, a, b), h => by simp only [jok] at h; dsimp only; omega
  | (4, a, b), h => by simp only [jok] at h; dsimp only; omega
  | (5, a, b), h => by simp only [jok] at h; dsimp only; omega
  | (6, a, b), h => h.elim
  | (7, a, b), h => by simp only [jok] at h; dsimp only; omega
  | (8, a, b), h => by simp only [jok] at h; dsimp only; omega
  | (9, a, b), h => by simp only [jok] at h; dsimp only; omega
  | (10, a, b), h => by simp only [jok] at h; dsimp only; omega
  | (11, a, b), h => by simp only [jok] at h; dsimp only; omega
  | (12, a, b), h => h.elim
  | (13, a, b), h => h.elim
  | (14, a, b), h => by simp only [jok] at h; dsimp only; omega
  | (15, a, b), h => by simp only [jok] at h; dsimp only; omega
  | (16, a, b), h => h.elim
  | (17, a, b), h => h.elim
  | (18, a, b), h => h.elim
  | (19, a, b), h => h.elim
  | (20, a, b), h => by simp only [jok] at h; dsimp only; omega
  | (21, a, b), h => by simp only [jok] at h; dsimp only; omega
  | (22, a, b), h => by simp only [jok] at h; dsimp only; omega
  | (n + 23, a, b), h => h.elim
theorem pl_ok : ∀ x ∈ cp_plL, jokb x = true := by decide +kernel
theorem pl_all : ∀ a, a < 23 → ∀ b, b < 54 → ∀ c, c < 10 → (!jokb (a, b, c) || cp_plL.any (fun y => y.1 == a && (y.2.1 == b && y.2.2 == c))) = true := by decide +kernel
theorem pl_iff (x : jP) : x ∈ cp_plL ↔ jok x := ⟨fun h => (jokb_iff x).mp (pl_ok x h), fun h => by
  obtain ⟨h1, h2, h3⟩ := jok_b x h
  obtain ⟨a, b, c⟩ := x
  have q := pl_all a h1 b h2 c h3
  rw [(jokb_iff _).mpr h] at q
  simp only [Bool.not_true, Bool.false_or, List.any_eq_true, Bool.and_eq_true, beq_iff_eq] at q
  obtain ⟨⟨a', b', c'⟩, hy, rfl, rfl, rfl⟩ := q
  exact hy⟩
theorem st0_rel : jRel cp_st0 := by
  refine ⟨fun h hh => ⟨fun j hj => ?_, fun i j hi hj e => ?_⟩, ⟨0, 0, 0, by decide, by decide, by decide, by decide, by decide, ⟨⟨by decide, by decide, fun d hd => absurd hd (Nat.not_lt_zero _), fun d hd => absurd hd (Nat.not_lt_zero _), fun d hd => absurd hd (Nat.not_lt_zero _), fun d hd => absurd hd (Nat.not_lt_zero _)⟩, by decide, by decide, by decide⟩, fun j hj => absurd hj (Nat.not_lt_zero _)⟩, ⟨false, by decide, by decide, fun h => absurd h (by decide)⟩, ⟨0, by decide, by decide, by decide, ⟨false, by decide⟩, fun j hj => absurd hj (Nat.not_lt_zero _)⟩, fun s hs => ⟨false, 0, by decide, ?_, ?_, ?_, fun _ => ?_, fun h => absurd h (by decide)⟩⟩
  · show 3 + 8 * h ≤ 3 + 8 * h + j ∧ 3 + 8 * h + j < 11 + 8 * h
    omega
  · have e' : 3 + 8 * h + i = 3 + 8 * h + j := e
    omega
  · rcases (show s = 0 ∨ s = 1 ∨ s = 2 ∨ s = 3 by omega) with rfl | rfl | rfl | rfl <;> decide
  · rcases (show s = 0 ∨ s = 1 ∨ s = 2 ∨ s = 3 by omega) with rfl | rfl | rfl | rfl <;> decide
  · rcases (show s = 0 ∨ s = 1 ∨ s = 2 ∨ s = 3 by omega) with rfl | rfl | rfl | rfl <;> decide
  · rcases (show s = 0 ∨ s = 1 ∨ s = 2 ∨ s = 3 by omega) with rfl | rfl | rfl | rfl <;> decide
theorem jB_0 {D : va_G} {cA : Nat → ClassId} {tx : jP → Nat} {h0 : Nat} {A : Nat → Prop} {H0 H : Heap} {locs : List Loc} (h : ∀ k, k < 367 → va_at D vwCl (h0 + k, jw cA (cp_adH tx h0) cp_st0 (cp_pl k)) H) (hS : va_S A H0 H locs) (hA : ∀ q, h0 ≤ q → A q) : jB (D, cA, cp_adH tx h0, cp_plL) A H0 cp_st0 H locs := by
  have key : ∀ (k : Nat) (q : Nat × va_E), (jW (D, cA, cp_adH tx h0, cp_plL) cp_st0)[k]? = some q → k < 367 ∧ q = (h0 + k, jw cA (cp_adH tx h0) cp_st0 (cp_pl k)) := by
    intro k q hq
    have hq2 : (cp_plL.map (fun x => (cp_adH tx h0 x, jw cA (cp_adH tx h0) cp_st0 x)))[k]? = some q := hq
    rw [List.getElem?_map] at hq2
    cases hx : cp_plL[k]? with
    | none => rw [hx] at hq2; cases hq2
    | some x =>
      rw [hx] at hq2
      have hk : k < 367 := by rw [← cp_plL_len]; exact (List.getElem?_eq_some_iff.mp hx).1
      have hp : cp_pl k = x := by unfold cp_pl; rw [List.getD_eq_getElem?_getD, hx]; rfl
      have e : (cp_adH tx h0 x, jw cA (cp_adH tx h0) cp_st0 x) = q := Option.some.inj hq2
      have ea : cp_adH tx h0 (cp_pl k) = h0 + k := by unfold cp_adH; rw [if_pos (cp_pl_off k hk).2, (cp_pl_off k hk).1]
      refine ⟨hk, ?_⟩
      rw [← e, ← hp, ea]
  refine ⟨fun x => pl_iff x, fun k q hq => ?_, ⟨fun i j p q hi hj he => ?_, fun k q hq => ?_⟩, hS⟩
  · obtain ⟨hk, rfl⟩ := key k q hq
    exact h k hk
  · obtain ⟨_, rfl⟩ := key i p hi
    obtain ⟨_, rfl⟩ := key j q hj
    dsimp only at he
    omega
  · obtain ⟨_, rfl⟩ := key k q hq
    exact hA _ (Nat.le_add_right _ _)
