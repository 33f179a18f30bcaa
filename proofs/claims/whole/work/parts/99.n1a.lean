/-! pictures of what constructors make -/
theorem cn_kn {D : va_G} {cl : List vw_C} {a : Nat} {e : va_E} {H H1 : Heap} (h : va_at D cl (a, e) H) (o : H1[a]? = H[a]?) : va_at D cl (a, e) H1 := h.kept o
theorem cn_ad {D : va_G} {cl : List vw_C} {a b : Nat} {e : va_E} {H : Heap} (h : va_at D cl (a, e) H) (o : b = a) : va_at D cl (b, e) H := o ▸ h
theorem cn_ext {c : ClassId} {n : Nat} {F G : Nat → Value} (h : ∀ j, j < n → F j = G j) : arrV c n F = arrV c n G := by
  have e : (fun j : Fin n => F j.val) = (fun j : Fin n => G j.val) := funext fun j => h j.val j.isLt
  unfold arrV
  rw [e]
theorem cn_arr {D : va_G} {cl : List vw_C} {a n : Nat} {cX : ClassId} {f g : Nat → Option Nat} {H : Heap} (h : va_at D cl (a, .inl (cX, n, jR f)) H) (hf : ∀ d, d < n → f d = g d) : va_at D cl (a, .inl (cX, n, jR g)) H := by
  have h1 : H[a]? = some (arrV cX n (fun j => va_rf (f j))) := h
  have h2 : arrV cX n (fun j => va_rf (f j)) = arrV cX n (fun j => va_rf (g j)) := cn_ext (fun j hj => by rw [hf j hj])
  rw [h2] at h1
  exact h1
theorem cn_arrI {D : va_G} {cl : List vw_C} {a n : Nat} {cX : ClassId} {f g : Nat → Int32} {H : Heap} (h : va_at D cl (a, .inl (cX, n, .inl f)) H) (hf : ∀ d, d < n → f d = g d) : va_at D cl (a, .inl (cX, n, .inl g)) H := by
  have h1 : H[a]? = some (arrV cX n (fun j => .int (f j))) := h
  have h2 : arrV cX n (fun j => .int (f j)) = arrV cX n (fun j => .int (g j)) := cn_ext (fun j hj => by rw [hf j hj])
  rw [h2] at h1
  exact h1
theorem cn_fn {B w k : Nat} : va_up (fun d => if d < k then some (B + w * d) else none) k (some (B + w * k)) = fun d => if d < k + 1 then some (B + w * d) else none := by
  funext d
  by_cases h : d = k
  · subst h; simp [va_up]
  · rw [va_up_ne _ _ h]
    by_cases h2 : d < k
    · rw [if_pos h2, if_pos (by omega)]
    · rw [if_neg h2, if_neg (by omega)]
def cp_e4 (z : Nat) : va_E := .inr (4, [.ref (z + 0), .ref (z + 1), .int 0, .int 0, .int (nI 1)])
def cp_f4 (cA : Nat → ClassId) (z i : Nat) : va_E := if i = 0 then .inl (cA 3, 10, jR (fun d => some (z + 2 + 1 * d))) else if i = 1 then .inl (cA 4, 4, jR (fun d => some (z + 12 + 1 * d))) else if i < 12 then .inr (0, [.int 0, .int 0, .int 0, .int 0]) else .inr (3, [.int 0, .int 0, .int 0, .int 0, .int 0, .int 0])
def cp_e5 (z : Nat) : va_E := .inr (5, [.ref (z + 0), .int 0, .int 0, .int 0])
def cp_f5 (cA : Nat → ClassId) (_ _ : Nat) : va_E := .inl (cA 2, 24, .inr (.inl (fun _ => 0)))
def cp_e6 (z : Nat) : va_E := .inr (6, [.ref (z + 0), .int 0, .int 0, .int 0])
def cp_f6 (cA : Nat → ClassId) (_ _ : Nat) : va_E := .inl (cA 0, 90, .inl (fun _ => 0))
def cp_e2 (z : Nat) : va_E := .inr (2, [.ref (z + 0), .int 0])
def cp_f2 (cA : Nat → ClassId) (z i : Nat) : va_E := if i = 0 then .inl (cA 5, 8, jR (fun d => some (z + 1 + 17 * d))) else if (i - 1) % 17 = 0 then cp_e4 (z + 1 + 17 * ((i - 1) / 17) + 1) else cp_f4 cA (z + 1 + 17 * ((i - 1) / 17) + 1) ((i - 1) % 17 - 1)
def cp_e1I (pr z : Nat) : va_E := .inr (1, [.ref pr, .ref (z + 0), .int 0, .ref (z + 1), .ref (z + 2), .ref (z + 3), .ref (z + 4), .ref (z + 5), .ref (z + 6), .ref (z + 7)])
def cp_f1 (cA : Nat → ClassId) (_ i : Nat) : va_E := if i = 0 then .inr (3, [.int 0, .int 0, .int 0, .int 0, .int 0, .int 0]) else if i < 5 then .inl (cA 1, 8, .inl (fun _ => 0)) else if i < 6 then .inl (cA 1, 2048, .inl (fun _ => 0)) else .inl (cA 2, 8, .inr (.inl (fun _ => 0)))

abbrev rmI0 : Room := { frames := 1, cells := 0, slots := 0, locals := 12 }

abbrev rmI3 : Room := { frames := 1, cells := 0, slots := 0, locals := 12 }

abbrev rmI5 : Room := { frames := 1, cells := 1, slots := 24, locals := 12 }

abbrev rmI6 : Room := { frames := 1, cells := 1, slots := 90, locals := 12 }

abbrev rmI4 : Room := { frames := 2, cells := 16, slots := 78, locals := 32 }

abbrev rmI2 : Room := { frames := 3, cells := 137, slots := 672, locals := 53 }

abbrev rmI1 : Room := { frames := 2, cells := 8, slots := 2102, locals := 32 }

