abbrev vwCl : List vw_C := [(RX0, TX0, 4), (RX1, TX1, 10), (RX2, TX2, 2), (RX3, TX3, 6), (RX4, TX4, 5), (RX5, TX5, 4), (RX6, TX6, 4), (RX7, TX7, 10), (RX8, TX8, 22)]
/-! MY WORLD: one heap for the class's objects and the reference's, by places; a state is three tables of numbers -/
abbrev jP : Type := Nat × Nat × Nat
/-- ints (row, place), longs (row, place), the order of the kept prisons -/
abbrev jS : Type := (Nat → Nat → Int32) × (Nat → Nat → Int64) × (Nat → Nat → Nat)
/-- the tables' numbers, the array classes, the addresses, the places -/
abbrev jG : Type := va_G × (Nat → ClassId) × (jP → Nat) × List jP
def u2 (I : Nat → Nat → Int32) (r j : Nat) (v : Int32) : Nat → Nat → Int32 := fun a b => if a = r ∧ b = j then v else I a b
def v2 (J : Nat → Nat → Int64) (r j : Nat) (v : Int64) : Nat → Nat → Int64 := fun a b => if a = r ∧ b = j then v else J a b
def o2 (O : Nat → Nat → Nat) (r j : Nat) (v : Nat) : Nat → Nat → Nat := fun a b => if a = r ∧ b = j then v else O a b
def sr (I : Nat → Nat → Int32) (r : Nat) (f : Nat → Int32) : Nat → Nat → Int32 := fun a => if a = r then f else I a
def srJ (J : Nat → Nat → Int64) (r : Nat) (f : Nat → Int64) : Nat → Nat → Int64 := fun a => if a = r then f else J a
theorem sr_self {I : Nat → Nat → Int32} {r : Nat} {f : Nat → Int32} : sr I r f r = f := if_pos rfl
theorem sr_ne {I : Nat → Nat → Int32} {r a : Nat} {f : Nat → Int32} (h : a ≠ r) : sr I r f a = I a := if_neg h
theorem srJ_self {I : Nat → Nat → Int64} {r : Nat} {f : Nat → Int64} : srJ I r f r = f := if_pos rfl
theorem srJ_ne {I : Nat → Nat → Int64} {r a : Nat} {f : Nat → Int64} (h : a ≠ r) : srJ I r f a = I a := if_neg h
theorem sr_id (I : Nat → Nat → Int32) (r : Nat) : sr I r (I r) = I := funext fun a => by by_cases h : a = r <;> simp [sr, h]
theorem srJ_id (I : Nat → Nat → Int64) (r : Nat) : srJ I r (I r) = I := funext fun a => by by_cases h : a = r <;> simp [srJ, h]
theorem sr_sr (I : Nat → Nat → Int32) (r : Nat) (f h : Nat → Int32) : sr (sr I r f) r h = sr I r h := funext fun a => by by_cases h : a = r <;> simp [sr, h]
theorem u2_eq (I : Nat → Nat → Int32) (r j : Nat) (v : Int32) : u2 I r j v = sr I r (upd (I r) j v) := by funext a b; by_cases h : a = r <;> simp [u2, sr, upd, h]
theorem v2_eq (I : Nat → Nat → Int64) (r j : Nat) (v : Int64) : v2 I r j v = srJ I r (vp_updL (I r) j v) := by funext a b; by_cases h : a = r <;> simp [v2, srJ, vp_updL, h]
theorem u2_sr (I : Nat → Nat → Int32) (r : Nat) (f : Nat → Int32) (j : Nat) (v : Int32) : u2 (sr I r f) r j v = sr I r (upd f j v) := by rw [u2_eq, sr_self, sr_sr]
theorem v2_srJ (I : Nat → Nat → Int64) (r : Nat) (f : Nat → Int64) (j : Nat) (v : Int64) : v2 (srJ I r f) r j v = srJ I r (vp_updL f j v) := by rw [v2_eq, srJ_self]; funext a; by_cases h : a = r <;> simp [srJ, h]
def lenI (k : Nat) : Nat := if k = 31 ∨ k = 46 then 2048 else if k = 41 ∨ k = 42 ∨ k = 49 then 364 else if k = 48 then 90 else if k = 50 ∨ k = 51 then 4 else 8
def lenJ (k : Nat) : Nat := if k = 12 then 96 else if k = 13 ∨ (2 ≤ k ∧ k ≤ 5) then 24 else 8
def jtys (cA : Nat → ClassId) : List (ClassId × FieldType) := [(cA 0, .char), (cA 1, .int), (cA 2, .long), (cA 3, .object RX0), (cA 4, .object RX3), (cA 5, .object RX4), (cA 6, .object RX5)]
abbrev jR (f : Nat → Option Nat) : (Nat → Int32) ⊕ (Nat → Int64) ⊕ (Nat → UInt32) ⊕ (Nat → UInt64) ⊕ (Nat → Option Nat) := .inr (.inr (.inr (.inr f)))
def jw (cA : Nat → ClassId) (ad : jP → Nat) (st : jS) : jP → va_E := fun x => match x with
  | (0, _, _) => .inr (7, [.ref (ad (1, 0, 0)), .ref (ad (7, 0, 0)), .ref (ad (1, 1, 0)), .ref (ad (7, 1, 0)), .int (st.1 24 0), .ref (ad (1, 2, 0)), .ref (ad (9, 0, 0)), .ref (ad (11, 0, 0)), .ref (ad (5, 20, 0)), .ref (ad (14, 0, 0))])
  | (1, p, _) => .inr (4, [.ref (ad (2, p, 0)), .ref (ad (3, p, 0)), .int (st.1 p 0), .int (st.1 p 1), .int (st.1 p 67)])
  | (2, p, _) => .inl (cA 3, 10, jR (fun d => some (ad (4, p, d))))
  | (3, p, _) => .inl (cA 4, 4, jR (fun m => some (ad (5, p, m))))
  | (4, p, d) => .inr (0, [.int (st.1 p (11 + d)), .int (st.1 p (21 + d)), .int (st.1 p (31 + d)), .int (st.1 p (41 + d))])
  | (5, p, m) => .inr (3, [.int (st.1 p (3 + m)), .int (st.1 p (63 + m)), .int (st.1 p (7 + m)), .int (st.1 p (51 + m)), .int (st.1 p (55 + m)), .int (st.1 p (59 + m))])
  | (7, h, _) => .inr (2, [.ref (ad (8, h, 0)), .int (st.1 21 h)])
  | (8, h, _) => .inl (cA 5, 8, jR (fun j => some (ad (1, st.2.2 h j, 0))))
  | (9, _, _) => .inr (6, [.ref (ad (10, 0, 0)), .int (st.1 23 0), .int (st.1 23 1), .int (st.1 23 2)])
  | (10, _, _) => .inl (cA 0, 90, .inl (st.1 22))
  | (11, _, _) => .inr (1, [.ref (ad (1, 0, 0)), .ref (ad (5, 19, 0)), .int (st.1 26 0), .ref (ad (21, 27, 0)), .ref (ad (21, 28, 0)), .ref (ad (21, 29, 0)), .ref (ad (21, 30, 0)), .ref (ad (21, 31, 0)), .ref (ad (22, 0, 0)), .ref (ad (22, 1, 0))])
  | (14, _, _) => .inl (cA 6, 4, jR (fun s => some (ad (15, s, 0))))
  | (15, s, _) => .inr (5, [.ref (ad (22, 2 + s, 0)), .int (st.1 33 (3 * s)), .int (st.1 33 (3 * s + 1)), .int (st.1 33 (3 * s + 2))])
  | (20, _, _) => .inr (8, [.ref (ad (21, 41, 0)), .ref (ad (21, 42, 0)), .int (st.1 40 0), .int (st.1 40 1), .ref (ad (21, 43, 0)), .ref (ad (21, 44, 0)), .ref (ad (21, 45, 0)), .ref (ad (21, 46, 0)), .ref (ad (21, 47, 0)), .ref (ad (22, 10, 0)), .ref (ad (22, 11, 0)), .ref (ad (21, 48, 0)), .int (st.1 40 2), .int (st.1 40 3), .ref (ad (21, 49, 0)), .int (st.1 40 4), .ref (ad (21, 50, 0)), .ref (ad (21, 51, 0)), .ref (ad (22, 12, 0)), .ref (ad (22, 13, 0)), .ref (ad (21, 52, 0)), .ref (ad (21, 53, 0))])
  | (21, k, _) => .inl (cA 1, lenI k, .inl (st.1 k))
  | (22, k, _) => .inl (cA 2, lenJ k, .inr (.inl (st.2.1 k)))
  | _ => .inr (0, [])
/-- which places there are -/
def jok (x : jP) : Prop := match x with
  | (0, a, b) => a = 0 ∧ b = 0
  | (1, p, b) => p < 19 ∧ b = 0
  | (2, p, b) => p < 19 ∧ b = 0
  | (3, p, b) => p < 19 ∧ b = 0
  | (4, p, d) => p < 19 ∧ d < 10
  | (5, p, m) => (p < 19 ∧ m < 4) ∨ ((p = 19 ∨ p = 20) ∧ m = 0)
  | (7, h, b) => h < 2 ∧ b = 0
  | (8, h, b) => h < 2 ∧ b = 0
  | (9, a, b) => a = 0 ∧ b = 0
  | (10, a, b) => a = 0 ∧ b = 0
  | (11, a, b) => a = 0 ∧ b = 0
  | (14, a, b) => a = 0 ∧ b = 0
  | (15, s, b) => s < 4 ∧ b = 0
  | (20, a, b) => a = 0 ∧ b = 0
  | (21, k, b) => ((27 ≤ k ∧ k ≤ 31) ∨ (41 ≤ k ∧ k ≤ 53)) ∧ b = 0
  | (22, k, b) => (k < 6 ∨ (10 ≤ k ∧ k ≤ 13)) ∧ b = 0
  | _ => False
theorem jk0 : jok (0, 0, 0) := And.intro rfl rfl
theorem jk1 {p : Nat} (h : p < 19) : jok (1, p, 0) := And.intro h rfl
theorem jk2 {p : Nat} (h : p < 19) : jok (2, p, 0) := And.intro h rfl
theorem jk3 {p : Nat} (h : p < 19) : jok (3, p, 0) := And.intro h rfl
theorem jk4 {p d : Nat} (h : p < 19) (h2 : d < 10) : jok (4, p, d) := And.intro h h2
theorem jk5 {p d : Nat} (h : p < 19) (h2 : d < 4) : jok (5, p, d) := Or.inl (And.intro h h2)
theorem jk5w : jok (5, 19, 0) := Or.inr (And.intro (Or.inl rfl) rfl)
theorem jk5t : jok (5, 20, 0) := Or.inr (And.intro (Or.inr rfl) rfl)
theorem jk7 {p : Nat} (h : p < 2) : jok (7, p, 0) := And.intro h rfl
theorem jk8 {p : Nat} (h : p < 2) : jok (8, p, 0) := And.intro h rfl
theorem jk9 : jok (9, 0, 0) := And.intro rfl rfl
theorem jk10 : jok (10, 0, 0) := And.intro rfl rfl
theorem jk11 : jok (11, 0, 0) := And.intro rfl rfl
theorem jk14 : jok (14, 0, 0) := And.intro rfl rfl
theorem jk15 {p : Nat} (h : p < 4) : jok (15, p, 0) := And.intro h rfl
theorem jk20 : jok (20, 0, 0) := And.intro rfl rfl
theorem jk21 {r : Nat} (h : (27 ≤ r ∧ r ≤ 31) ∨ (41 ≤ r ∧ r ≤ 53)) : jok (21, r, 0) := And.intro h rfl
theorem jk22 {r : Nat} (h : r < 6 ∨ (10 ≤ r ∧ r ≤ 13)) : jok (22, r, 0) := And.intro h rfl
theorem jk5b {p d : Nat} (h : jok (5, p, d)) : p ≤ 20 ∧ d < 4 := by rcases h with ⟨h, h'⟩ | ⟨h | h, h'⟩ <;> omega
/-- whose a number of the table of ints is -/
def jof (r j : Nat) : jP := if r ≤ 20 then (if j = 0 ∨ j = 1 ∨ j = 67 then (1, r, 0) else if j < 7 then (5, r, j - 3) else if j < 11 then (5, r, j - 7) else if j < 21 then (4, r, j - 11) else if j < 31 then (4, r, j - 21) else if j < 41 then (4, r, j - 31) else if j < 51 then (4, r, j - 41) else if j < 55 then (5, r, j - 51) else if j < 59 then (5, r, j - 55) else if j < 63 then (5, r, j - 59) else (5, r, j - 63)) else if r = 21 then (7, j, 0) else if r = 22 then (10, 0, 0) else if r = 23 then (9, 0, 0) else if r = 24 then (0, 0, 0) else if r = 26 then (11, 0, 0) else if r = 33 then (15, j / 3, 0) else if r = 40 then (20, 0, 0) else (21, r, 0)
theorem jof_m3 {p d : Nat} (h : p ≤ 20) (h2 : d < 4) : jof p (3 + d) = (5, p, d) := by
  unfold jof
  repeat' split
  all_goals first | (exfalso; omega) | (simp only [Prod.mk.injEq, true_and]; omega)
theorem jof_m7 {p d : Nat} (h : p ≤ 20) (h2 : d < 4) : jof p (7 + d) = (5, p, d) := by
  unfold jof
  repeat' split
  all_goals first | (exfalso; omega) | (simp only [Prod.mk.injEq, true_and]; omega)
theorem jof_m51 {p d : Nat} (h : p ≤ 20) (h2 : d < 4) : jof p (51 + d) = (5, p, d) := by
  unfold jof
  repeat' split
  all_goals first | (exfalso; omega) | (simp only [Prod.mk.injEq, true_and]; omega)
theorem jof_m55 {p d : Nat} (h : p ≤ 20) (h2 : d < 4) : jof p (55 + d) = (5, p, d) := by
  unfold jof
  repeat' split
  all_goals first | (exfalso; omega) | (simp only [Prod.mk.injEq, true_and]; omega)
theorem jof_m59 {p d : Nat} (h : p ≤ 20) (h2 : d < 4) : jof p (59 + d) = (5, p, d) := by
  unfold jof
  repeat' split
  all_goals first | (exfalso; omega) | (simp only [Prod.mk.injEq, true_and]; omega)
theorem jof_m63 {p d : Nat} (h : p ≤ 20) (h2 : d < 4) : jof p (63 + d) = (5, p, d) := by
  unfold jof
  repeat' split
  all_goals first | (exfalso; omega) | (simp only [Prod.mk.injEq, true_and]; omega)
theorem jof_d11 {p d : Nat} (h : p ≤ 20) (h2 : d < 10) : jof p (11 + d) = (4, p, d) := by
  unfold jof
  repeat' split
  all_goals first | (exfalso; omega) | (simp only [Prod.mk.injEq, true_and]; omega)
theorem jof_d21 {p d : Nat} (h : p ≤ 20) (h2 : d < 10) : jof p (21 + d) = (4, p, d) := by
  unfold jof
  repeat' split
  all_goals first | (exfalso; omega) | (simp only [Prod.mk.injEq, true_and]; omega)
theorem jof_d31 {p d : Nat} (h : p ≤ 20) (h2 : d < 10) : jof p (31 + d) = (4, p, d) := by
  unfold jof
  repeat' split
  all_goals first | (exfalso; omega) | (simp only [Prod.mk.injEq, true_and]; omega)
theorem jof_d41 {p d : Nat} (h : p ≤ 20) (h2 : d < 10) : jof p (41 + d) = (4, p, d) := by
  unfold jof
  repeat' split
  all_goals first | (exfalso; omega) | (simp only [Prod.mk.injEq, true_and]; omega)
theorem u2_ne {I : Nat → Nat → Int32} {r j a b : Nat} {v : Int32} (h : ¬ (a = r ∧ b = j)) : u2 I r j v a b = I a b := if_neg h
theorem u2_row {I : Nat → Nat → Int32} {r j a : Nat} {v : Int32} (h : ¬ a = r) : u2 I r j v a = I a := funext fun b => if_neg (fun q => h q.1)
theorem u2_self {I : Nat → Nat → Int32} {r j : Nat} {v : Int32} : u2 I r j v r j = v := if_pos ⟨rfl, rfl⟩
theorem u2_upd {I : Nat → Nat → Int32} {r j : Nat} {v : Int32} : u2 I r j v r = upd (I r) j v := funext fun b => by simp [u2, upd]
theorem v2_row {J : Nat → Nat → Int64} {r j a : Nat} {v : Int64} (h : ¬ a = r) : v2 J r j v a = J a := funext fun b => if_neg (fun q => h q.1)
theorem v2_upd {J : Nat → Nat → Int64} {r j : Nat} {v : Int64} : v2 J r j v r = vp_updL (J r) j v := funext fun b => by simp [v2, vp_updL]
set_option maxHeartbeats 4000000 in
theorem jw_fr {cA : Nat → ClassId} {ad : jP → Nat} {I : Nat → Nat → Int32} {J : Nat → Nat → Int64} {O : Nat → Nat → Nat} {r j : Nat} {v : Int32} : ∀ x, jok x → x ≠ jof r j → jw cA ad (u2 I r j v, J, O) x = jw cA ad (I, J, O) x := by
  rintro ⟨a, b, d⟩ hx hn
  match a, hx, hn with
  | 0, hx, hn => obtain ⟨rfl, rfl⟩ := hx; have h : ¬ (24 = r ∧ 0 = j) := (fun q => hn (by rw [← q.1, ← q.2]; rfl)); simp only [jw, u2_ne h]
  | 1, hx, hn =>
    obtain ⟨hb, rfl⟩ := hx
    have h1 : ∀ k, k = 0 ∨ k = 1 ∨ k = 67 → ¬ (b = r ∧ k = j) := by
      rintro k hk ⟨rfl, rfl⟩
      exact hn (by unfold jof; rw [if_pos (by omega), if_pos hk])
    simp only [jw, u2_ne (h1 0 (by decide)), u2_ne (h1 1 (by decide)), u2_ne (h1 67 (by decide))]
  | 2, hx, hn => rfl
  | 3, hx, hn => rfl
  | 4, hx, hn =>
    obtain ⟨hb, hd⟩ := hx
    have h1 : ¬ (b = r ∧ 11 + d = j) := by rintro ⟨rfl, rfl⟩; exact hn (jof_d11 (by omega) (by omega)).symm
    have h2 : ¬ (b = r ∧ 21 + d = j) := by rintro ⟨rfl, rfl⟩; exact hn (jof_d21 (by omega) (by omega)).symm
    have h3 : ¬ (b = r ∧ 31 + d = j) := by rintro ⟨rfl, rfl⟩; exact hn (jof_d31 (by omega) (by omega)).symm
    have h4 : ¬ (b = r ∧ 41 + d = j) := by rintro ⟨rfl, rfl⟩; exact hn (jof_d41 (by omega) (by omega)).symm
    simp only [jw, u2_ne h1, u2_ne h2, u2_ne h3, u2_ne h4]
  | 5, hx, hn =>
    have hb : b ≤ 20 ∧ d < 4 := by rcases hx with ⟨h, h'⟩ | ⟨h | h, h'⟩ <;> omega
    have h1 : ¬ (b = r ∧ 3 + d = j) := by rintro ⟨rfl, rfl⟩; exact hn (jof_m3 (by omega) (by omega)).symm
    have h2 : ¬ (b = r ∧ 63 + d = j) := by rintro ⟨rfl, rfl⟩; exact hn (jof_m63 (by omega) (by omega)).symm
    have h3 : ¬ (b = r ∧ 7 + d = j) := by rintro ⟨rfl, rfl⟩; exact hn (jof_m7 (by omega) (by omega)).symm
    have h4 : ¬ (b = r ∧ 51 + d = j) := by rintro ⟨rfl, rfl⟩; exact hn (jof_m51 (by omega) (by omega)).symm
    have h5 : ¬ (b = r ∧ 55 + d = j) := by rintro ⟨rfl, rfl⟩; exact hn (jof_m55 (by omega) (by omega)).symm
    have h6 : ¬ (b = r ∧ 59 + d = j) := by rintro ⟨rfl, rfl⟩; exact hn (jof_m59 (by omega) (by omega)).symm
    simp only [jw, u2_ne h1, u2_ne h2, u2_ne h3, u2_ne h4, u2_ne h5, u2_ne h6]
  | 7, hx, hn =>
    obtain ⟨hb, rfl⟩ := hx
    have h1 : ¬ (21 = r ∧ b = j) := by rintro ⟨rfl, rfl⟩; exact hn rfl
    simp only [jw, u2_ne h1]
  | 8, hx, hn => rfl
  | 9, hx, hn =>
    obtain ⟨rfl, rfl⟩ := hx
    have h1 : ∀ k, ¬ (23 = r ∧ k = j) := by rintro k ⟨rfl, rfl⟩; exact hn rfl
    simp only [jw, u2_ne (h1 0), u2_ne (h1 1), u2_ne (h1 2)]
  | 10, hx, hn =>
    obtain ⟨rfl, rfl⟩ := hx
    have h1 : ¬ 22 = r := by rintro rfl; exact hn rfl
    simp only [jw, u2_row h1]
  | 11, hx, hn =>
    obtain ⟨rfl, rfl⟩ := hx
    have h1 : ¬ (26 = r ∧ 0 = j) := by rintro ⟨rfl, rfl⟩; exact hn rfl
    simp only [jw, u2_ne h1]
  | 14, hx, hn => rfl
  | 15, hx, hn =>
    obtain ⟨hb, rfl⟩ := hx
    have h1 : ∀ k, k < 3 → ¬ (33 = r ∧ 3 * b + k = j) := by
      rintro k hk ⟨rfl, rfl⟩
      exact hn (by show _ = (15, (3 * b + k) / 3, 0); rw [show (3 * b + k) / 3 = b by omega])
    have h0 := h1 0 (by decide)
    rw [Nat.add_zero] at h0
    simp only [jw, u2_ne h0, u2_ne (h1 1 (by decide)), u2_ne (h1 2 (by decide))]
  | 20, hx, hn =>
    obtain ⟨rfl, rfl⟩ := hx
    have h1 : ∀ k, ¬ (40 = r ∧ k = j) := by rintro k ⟨rfl, rfl⟩; exact hn rfl
    simp only [jw, u2_ne (h1 0), u2_ne (h1 1), u2_ne (h1 2), u2_ne (h1 3), u2_ne (h1 4)]
  | 21, hx, hn =>
    obtain ⟨hb, rfl⟩ := hx
    have h1 : ¬ b = r := by
      rintro rfl
      exact hn (by unfold jof; repeat (first | rw [if_neg (by omega)]))
    simp only [jw, u2_row h1]
  | 22, hx, hn => rfl
  | 6, hx, hn => exact hx.elim
  | 12, hx, hn => exact hx.elim
  | 13, hx, hn => exact hx.elim
  | 16, hx, hn => exact hx.elim
  | 17, hx, hn => exact hx.elim
  | 18, hx, hn => exact hx.elim
  | 19, hx, hn => exact hx.elim
  | a + 23, hx, hn => exact hx.elim
theorem jw_frJ {cA : Nat → ClassId} {ad : jP → Nat} {I : Nat → Nat → Int32} {J : Nat → Nat → Int64} {O : Nat → Nat → Nat} {r j : Nat} {v : Int64} : ∀ x, jok x → x ≠ (22, r, 0) → jw cA ad (I, v2 J r j v, O) x = jw cA ad (I, J, O) x := by
  rintro ⟨a, b, d⟩ hx hn
  match a, hx, hn with
  | 0, hx, hn => rfl
  | 1, hx, hn => rfl
  | 2, hx, hn => rfl
  | 3, hx, hn => rfl
  | 4, hx, hn => rfl
  | 5, hx, hn => rfl
  | 6, hx, hn => rfl
  | 7, hx, hn => rfl
  | 8, hx, hn => rfl
  | 9, hx, hn => rfl
  | 10, hx, hn => rfl
  | 11, hx, hn => rfl
  | 12, hx, hn => rfl
  | 13, hx, hn => rfl
  | 14, hx, hn => rfl
  | 15, hx, hn => rfl
  | 16, hx, hn => rfl
  | 17, hx, hn => rfl
  | 18, hx, hn => rfl
  | 19, hx, hn => rfl
  | 20, hx, hn => rfl
  | 21, hx, hn => rfl
  | 22, hx, hn =>
    obtain ⟨hb, rfl⟩ := hx
    have h1 : ¬ b = r := by rintro rfl; exact hn rfl
    simp only [jw, v2_row h1]
  | a + 23, hx, hn => exact hx.elim
theorem jw_frO {cA : Nat → ClassId} {ad : jP → Nat} {I : Nat → Nat → Int32} {J : Nat → Nat → Int64} {O : Nat → Nat → Nat} {r j : Nat} {v : Nat} : ∀ x, jok x → x ≠ (8, r, 0) → jw cA ad (I, J, o2 O r j v) x = jw cA ad (I, J, O) x := by
  rintro ⟨a, b, d⟩ hx hn
  match a, hx, hn with
  | 0, hx, hn => rfl
  | 1, hx, hn => rfl
  | 2, hx, hn => rfl
  | 3, hx, hn => rfl
  | 4, hx, hn => rfl
  | 5, hx, hn => rfl
  | 6, hx, hn => rfl
  | 7, hx, hn => rfl
  | 8, hx, hn =>
    obtain ⟨hb, rfl⟩ := hx
    have h1 : ¬ b = r := by rintro rfl; exact hn rfl
    have h2 : ∀ k, o2 O r j v b k = O b k := fun k => if_neg (fun q => h1 q.1)
    simp only [jw, h2]
  | 9, hx, hn => rfl
  | 10, hx, hn => rfl
  | 11, hx, hn => rfl
  | 12, hx, hn => rfl
  | 13, hx, hn => rfl
  | 14, hx, hn => rfl
  | 15, hx, hn => rfl
  | 16, hx, hn => rfl
  | 17, hx, hn => rfl
  | 18, hx, hn => rfl
  | 19, hx, hn => rfl
  | 20, hx, hn => rfl
  | 21, hx, hn => rfl
  | 22, hx, hn => rfl
  | a + 23, hx, hn => exact hx.elim
