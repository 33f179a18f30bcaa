/-! both states agree -/
def hiO (I : Nat → Nat → Int32) (O : Nat → Nat → Nat) (h : Nat) : Nat → Nat → Int32 := fun j => I (O h j)
def noRel (I : Nat → Nat → Int32) (O : Nat → Nat → Nat) : Prop := ∃ nd nm z, I 21 0 = nI z ∧ wR (I 0) (I 41) (hiO I O 0) z nd nm
def imRel (I : Nat → Nat → Int32) (O : Nat → Nat → Nat) : Prop := ∃ kp : Bool, I 24 0 = b2 kp ∧ I 40 0 = b2 kp ∧ (kp = true → ∃ nd nm z, I 21 1 = nI z ∧ wR (I 1) (I 42) (hiO I O 1) z nd nm)
def tpRel (I : Nat → Nat → Int32) : Prop := ∃ n, n ≤ 90 ∧ I 23 0 = nI n ∧ I 40 2 = nI n ∧ (∃ f, I 23 2 = b2 f) ∧ ∀ j, j < n → I 22 j = I 48 j ∧ ∃ k, 32 ≤ k ∧ k ≤ 126 ∧ I 22 j = nI k
def shRel (I : Nat → Nat → Int32) (J : Nat → Nat → Int64) : Prop := ∀ s, s < 4 → ∃ (hold : Bool) (sz : Nat), sz ≤ 24 ∧ I 33 (3 * s) = b2 hold ∧ I 33 (3 * s + 2) = nI sz ∧ I 51 s = nI sz ∧ (hold = false → I 50 s = -4) ∧ (hold = true → ∃ ln, ln < 4 ∧ I 33 (3 * s + 1) = nI ln ∧ I 50 s = nI ln ∧ ∀ k, k < sz → J (2 + s) k = J 12 (24 * s + k))
def jRel (st : jS) : Prop := okO st.2.2 ∧ noRel st.1 st.2.2 ∧ imRel st.1 st.2.2 ∧ tpRel st.1 ∧ shRel st.1 st.2.1
theorem wR_hi {a g : Nat → Int32} {hi hi2 : Nat → Nat → Int32} {z nd nm : Nat} (h : wR a g hi z nd nm) (hh : ∀ j, j < 8 → hi2 j = hi j) : wR a g hi2 z nd nm := by
  obtain ⟨h1, h2, h3, h4, h5, h6⟩ := h
  exact ⟨h1, h2, h3, h4, h5, fun j hj => by rw [hh j (by omega)]; exact h6 j hj⟩
theorem noRel_c {I I2 : Nat → Nat → Int32} {O O2 : Nat → Nat → Nat} (h : noRel I O) (h0 : I2 0 = I 0) (h41 : I2 41 = I 41) (h21 : I2 21 0 = I 21 0) (hh : ∀ j, j < 8 → I2 (O2 0 j) = I (O 0 j)) : noRel I2 O2 := by
  obtain ⟨nd, nm, z, e, hw⟩ := h
  exact ⟨nd, nm, z, by rw [h21]; exact e, by rw [h0, h41]; exact wR_hi hw hh⟩
theorem imRel_c {I I2 : Nat → Nat → Int32} {O O2 : Nat → Nat → Nat} (h : imRel I O) (h1 : I2 1 = I 1) (h42 : I2 42 = I 42) (h24 : I2 24 0 = I 24 0) (h40 : I2 40 0 = I 40 0) (h21 : I2 21 1 = I 21 1) (hh : ∀ j, j < 8 → I2 (O2 1 j) = I (O 1 j)) : imRel I2 O2 := by
  obtain ⟨kp, e1, e2, h⟩ := h
  refine ⟨kp, by rw [h24]; exact e1, by rw [h40]; exact e2, fun q => ?_⟩
  obtain ⟨nd, nm, z, e, hw⟩ := h q
  exact ⟨nd, nm, z, by rw [h21]; exact e, by rw [h1, h42]; exact wR_hi hw hh⟩
theorem tpRel_c {I I2 : Nat → Nat → Int32} (h : tpRel I) (h23 : I2 23 = I 23) (h22 : I2 22 = I 22) (h48 : I2 48 = I 48) (h40 : I2 40 2 = I 40 2) : tpRel I2 := by
  obtain ⟨n, h1, h2, h3, h4, h5⟩ := h
  exact ⟨n, h1, by rw [h23]; exact h2, by rw [h40]; exact h3, by rw [h23]; exact h4, by rw [h22, h48]; exact h5⟩
theorem shRel_c {I I2 : Nat → Nat → Int32} {J J2 : Nat → Nat → Int64} (h : shRel I J) (h33 : I2 33 = I 33) (h50 : I2 50 = I 50) (h51 : I2 51 = I 51) (hJ : ∀ s, s < 4 → J2 (2 + s) = J (2 + s)) (h12 : J2 12 = J 12) : shRel I2 J2 := by
  intro s hs
  obtain ⟨hold, sz, h1, h2, h3, h4, h5, h6⟩ := h s hs
  rw [h33, h50, h51, hJ s hs, h12]
  exact ⟨hold, sz, h1, h2, h3, h4, h5, h6⟩
/-- rows of the class and of the reference that count are the same -/
theorem jRel_c {I I2 : Nat → Nat → Int32} {J J2 : Nat → Nat → Int64} {O : Nat → Nat → Nat} (h : jRel (I, J, O)) (hI : ∀ r, r ≤ 18 ∨ (21 ≤ r ∧ r ≤ 24) ∨ r = 33 ∨ r = 41 ∨ r = 42 ∨ r = 48 ∨ r = 50 ∨ r = 51 → I2 r = I r) (h0 : I2 40 0 = I 40 0) (h2 : I2 40 2 = I 40 2) (hJ : ∀ r, (2 ≤ r ∧ r ≤ 5) ∨ r = 12 → J2 r = J r) : jRel (I2, J2, O) := by
  obtain ⟨hO0, a1, a2, a3, a4⟩ := h
  have hO : okO O := hO0
  have hh : ∀ k, k < 2 → ∀ j, j < 8 → I2 (O k j) = I (O k j) := fun k hk j hj => hI _ (by have := (hO k hk).1 j hj; omega)
  exact ⟨hO, noRel_c a1 (hI _ (by omega)) (hI _ (by omega)) (congrFun (hI 21 (by omega)) 0) (hh 0 (by decide)), imRel_c a2 (hI _ (by omega)) (hI _ (by omega)) (congrFun (hI 24 (by omega)) 0) h0 (congrFun (hI 21 (by omega)) 1) (hh 1 (by decide)), tpRel_c a3 (hI _ (by omega)) (hI _ (by omega)) (hI _ (by omega)) h2, shRel_c a4 (hI _ (by omega)) (hI _ (by omega)) (hI _ (by omega)) (fun s hs => hJ _ (by omega)) (hJ _ (by omega))⟩
theorem jRel_SC {st u : jS} (h : jRel st) (hs : SCs st u) : jRel u := by
  obtain ⟨I, J, O⟩ := st
  obtain ⟨I2, J2, O2⟩ := u
  obtain ⟨h1, h2, h3⟩ := hs
  have e : O2 = O := h3
  subst e
  exact jRel_c h (fun r hr => h1 r (by unfold scc; omega)) (congrFun (h1 40 (by unfold scc; omega)) 0) (congrFun (h1 40 (by unfold scc; omega)) 2) (fun r hr => h2 r (by omega) (by omega))
theorem jRel_SM {st u : jS} (h : jRel st) (hs : SMs st u) : jRel u := by
  obtain ⟨I, J, O⟩ := st
  obtain ⟨I2, J2, O2⟩ := u
  obtain ⟨h1, h2, h3⟩ := hs
  have e : O2 = O := h3
  subst e
  exact jRel_c h (fun r hr => h1.1 r (by omega) (by unfold scr; omega)) h1.2.1 h1.2.2 (fun r hr => h2 r (by omega) (by omega) (by omega))
/-- what is now, of both -/
theorem jR_now {I : Nat → Nat → Int32} {J : Nat → Nat → Int64} {O : Nat → Nat → Nat} (h : jRel (I, J, O)) : ∃ nd nm z, nd ≤ 10 ∧ nm ≤ 4 ∧ I 0 0 = nI nd ∧ I 0 1 = nI nm ∧ I 41 0 = nI nd ∧ I 41 1 = nI nm ∧ wfD (I 0) nd ∧ wfD (I 41) nd ∧ (∀ m, m < nm → ∃ c, c < 8 ∧ I 0 (51 + m) = nI c) ∧ (∀ m, m < nm → ∃ c, c < 8 ∧ I 41 (51 + m) = nI c) ∧ z ≤ 8 ∧ I 21 0 = nI z ∧ I 41 2 = nI z ∧ wR (I 0) (I 41) (hiO I O 0) z nd nm := by
  obtain ⟨hO, ⟨nd, nm, z, e, hw⟩, -⟩ := h
  obtain ⟨h1, h2, h3, h4, ⟨h5, h6, h7, h8⟩, h9⟩ := id hw
  refine ⟨nd, nm, z, h5.1, h5.2.1, h6, h7, h1, h2, wfD_to h5.2.2.1 h5.2.2.2.2.1, h5.2.2.2.2.1, fun m hm => ?_, fun m hm => (h5.2.2.2.2.2 m hm).1, h4, e, h3, hw⟩
  have e3 : I 0 (51 + m) = I 41 (51 + m) := (h5.2.2.2.1 m hm).2.2.1
  rw [e3]
  exact (h5.2.2.2.2.2 m hm).1
theorem fore_i {l : Launch} {G : jG} {y7 y8 : MethodName} {ws7 ws8 : List Cond} {rm7 rm8 : Room} {av7 av8 : List Value} {st : jS} {A B : Int32} (hR : jRel st) (hA : A = B) (hc : jMi l G y7 ws7 rm7 av7 st (fun r u => r = A ∧ SCs st u)) (hr : ∀ u, SCs st u → jMi l G y8 ws8 rm8 av8 u (fun r u2 => r = B ∧ SMs u u2)) : jMi l G y7 ws7 rm7 av7 st (fun r u => jMi l G y8 ws8 rm8 av8 u (fun r2 u2 => r2 = r ∧ jRel u2)) :=
  jMi_mono hc (fun r u h => jMi_mono (hr u h.2) (fun r2 u2 h2 => ⟨by rw [h2.1, h.1, hA], jRel_SM (jRel_SC hR h.2) h2.2⟩))
theorem SC_ref {I : Nat → Nat → Int32} {J : Nat → Nat → Int64} {O : Nat → Nat → Nat} {u : jS} (h : SCs (I, J, O) u) {r : Nat} (hr : 33 ≤ r) : u.1 r = I r := h.1 r (by unfold scc; omega)
theorem same_i {l : Launch} {G : jG} {y7 y8 : MethodName} {ws7 ws8 : List Cond} {rm7 rm8 : Room} {av7 av8 : List Value} {st : jS} {A B : Int32} (hR : jRel st) (hA : A = B) (hc : jMi l G y7 ws7 rm7 av7 st (fun r u => r = A ∧ u = st)) (hr : jMi l G y8 ws8 rm8 av8 st (fun r u2 => r = B ∧ u2 = st)) : jMi l G y7 ws7 rm7 av7 st (fun r u => jMi l G y8 ws8 rm8 av8 u (fun r2 u2 => r2 = r ∧ jRel u2)) :=
  jMi_mono hc (fun r u h => by rw [h.2]; exact jMi_mono hr (fun r2 u2 h2 => ⟨by rw [h2.1, h.1, hA], by rw [h2.2]; exact hR⟩))

theorem t_ways (l_ : Launch) (G : jG) (I : Nat → Nat → Int32) (J : Nat → Nat → Int64) (O : Nat → Nat → Nat) (man : Int32) (cell : Int32) (hR : jRel (I, J, O)) : jMi l_ G yX7_ways wsX7_ways ({ frames := 7, cells := 0, slots := 0, locals := 165 }) [.ref (G.2.2.1 (0, 0, 0)), .int man, .int cell] (I, J, O) (fun r u => jMi l_ G yX8_ways wsX8_ways ({ frames := 5, cells := 0, slots := 0, locals := 120 }) [.ref (G.2.2.1 (20, 0, 0)), .int man, .int cell] u (fun r2 u2 => r2 = r ∧ jRel u2)) := by
  obtain ⟨nd, nm, z, hnd, hnm, hD, hM, hD2, hM2, hW, hW2, hWc, hWc2, hz, hZ, hH, hw⟩ := jR_now hR
  refine fore_i hR (zs_ways hw.2.2.2.2.1.1 man cell) (c_X7_ways l_ G I J O man cell hnd hD hnm hM hW hWc) (fun u hu => ?_)
  have e : u.1 41 = I 41 := SC_ref hu (by decide)
  have h := c_X8_ways l_ G u.1 u.2.1 u.2.2 man cell (nd := nd) (nm := nm) hnd (by rw [e]; exact hD2) hnm (by rw [e]; exact hM2) (by rw [e]; exact hW2) (by rw [e]; exact hWc2)
  rw [e] at h
  exact h

theorem t_reach (l_ : Launch) (G : jG) (I : Nat → Nat → Int32) (J : Nat → Nat → Int64) (O : Nat → Nat → Nat) (man : Int32) (hR : jRel (I, J, O)) : jMi l_ G yX7_reach wsX7_reach ({ frames := 7, cells := 0, slots := 0, locals := 165 }) [.ref (G.2.2.1 (0, 0, 0)), .int man] (I, J, O) (fun r u => jMi l_ G yX8_reach wsX8_reach ({ frames := 5, cells := 0, slots := 0, locals := 120 }) [.ref (G.2.2.1 (20, 0, 0)), .int man] u (fun r2 u2 => r2 = r ∧ jRel u2)) := by
  obtain ⟨nd, nm, z, hnd, hnm, hD, hM, hD2, hM2, hW, hW2, hWc, hWc2, hz, hZ, hH, hw⟩ := jR_now hR
  refine fore_i hR (zs_reach hw.2.2.2.2.1.1 man) (c_X7_reach l_ G I J O man hnd hD hnm hM hW hWc) (fun u hu => ?_)
  have e : u.1 41 = I 41 := SC_ref hu (by decide)
  have h := c_X8_reach l_ G u.1 u.2.1 u.2.2 man (nd := nd) (nm := nm) hnd (by rw [e]; exact hD2) hnm (by rw [e]; exact hM2) (by rw [e]; exact hW2) (by rw [e]; exact hWc2)
  rw [e] at h
  exact h

theorem t_cut (l_ : Launch) (G : jG) (I : Nat → Nat → Int32) (J : Nat → Nat → Int64) (O : Nat → Nat → Nat) (man : Int32) (cell : Int32) (what : Int32) (hR : jRel (I, J, O)) : jMi l_ G yX7_cut wsX7_cut ({ frames := 7, cells := 0, slots := 0, locals := 165 }) [.ref (G.2.2.1 (0, 0, 0)), .int man, .int cell, .int what] (I, J, O) (fun r u => jMi l_ G yX8_cut wsX8_cut ({ frames := 5, cells := 0, slots := 0, locals := 122 }) [.ref (G.2.2.1 (20, 0, 0)), .int man, .int cell, .int what] u (fun r2 u2 => r2 = r ∧ jRel u2)) := by
  obtain ⟨nd, nm, z, hnd, hnm, hD, hM, hD2, hM2, hW, hW2, hWc, hWc2, hz, hZ, hH, hw⟩ := jR_now hR
  refine fore_i hR (zs_cut hw.2.2.2.2.1.1 man cell what) (c_X7_cut l_ G I J O man cell what hnd hD hnm hM hW hWc) (fun u hu => ?_)
  have e : u.1 41 = I 41 := SC_ref hu (by decide)
  have h := c_X8_cut l_ G u.1 u.2.1 u.2.2 man cell what (nd := nd) (nm := nm) hnd (by rw [e]; exact hD2) hnm (by rw [e]; exact hM2) (by rw [e]; exact hW2) (by rw [e]; exact hWc2)
  rw [e] at h
  exact h

theorem t_bridges (l_ : Launch) (G : jG) (I : Nat → Nat → Int32) (J : Nat → Nat → Int64) (O : Nat → Nat → Nat) (man : Int32) (cell : Int32) (hR : jRel (I, J, O)) : jMi l_ G yX7_bridges wsX7_bridges ({ frames := 7, cells := 0, slots := 0, locals := 165 }) [.ref (G.2.2.1 (0, 0, 0)), .int man, .int cell] (I, J, O) (fun r u => jMi l_ G yX8_bridges wsX8_bridges ({ frames := 5, cells := 0, slots := 0, locals := 122 }) [.ref (G.2.2.1 (20, 0, 0)), .int man, .int cell] u (fun r2 u2 => r2 = r ∧ jRel u2)) := by
  obtain ⟨nd, nm, z, hnd, hnm, hD, hM, hD2, hM2, hW, hW2, hWc, hWc2, hz, hZ, hH, hw⟩ := jR_now hR
  refine fore_i hR (zs_bridges hw.2.2.2.2.1.1 man cell) (c_X7_bridges l_ G I J O man cell hnd hD hnm hM hW hWc) (fun u hu => ?_)
  have e : u.1 41 = I 41 := SC_ref hu (by decide)
  have h := c_X8_bridges l_ G u.1 u.2.1 u.2.2 man cell (nd := nd) (nm := nm) hnd (by rw [e]; exact hD2) hnm (by rw [e]; exact hM2) (by rw [e]; exact hW2) (by rw [e]; exact hWc2)
  rw [e] at h
  exact h

theorem t_wit (l_ : Launch) (G : jG) (I : Nat → Nat → Int32) (J : Nat → Nat → Int64) (O : Nat → Nat → Nat) (man : Int32) (cell : Int32) (hR : jRel (I, J, O)) : jMi l_ G yX7_wit wsX7_wit ({ frames := 6, cells := 0, slots := 0, locals := 144 }) [.ref (G.2.2.1 (0, 0, 0)), .int man, .int cell] (I, J, O) (fun r u => jMi l_ G yX8_wit wsX8_wit ({ frames := 5, cells := 0, slots := 0, locals := 122 }) [.ref (G.2.2.1 (20, 0, 0)), .int man, .int cell] u (fun r2 u2 => r2 = r ∧ jRel u2)) := by
  obtain ⟨nd, nm, z, hnd, hnm, hD, hM, hD2, hM2, hW, hW2, hWc, hWc2, hz, hZ, hH, hw⟩ := jR_now hR
  refine fore_i hR (zs_wit hw.2.2.2.2.1.1 man cell) (c_X7_wit l_ G I J O man cell hnd hD hnm hM hW hWc) (fun u hu => ?_)
  have e : u.1 41 = I 41 := SC_ref hu (by decide)
  have h := c_X8_wit l_ G u.1 u.2.1 u.2.2 man cell (nd := nd) (nm := nm) hnd (by rw [e]; exact hD2) hnm (by rw [e]; exact hM2) (by rw [e]; exact hW2) (by rw [e]; exact hWc2)
  rw [e] at h
  exact h

theorem t_lesson (l_ : Launch) (G : jG) (I : Nat → Nat → Int32) (J : Nat → Nat → Int64) (O : Nat → Nat → Nat) (man : Int32) (what : Int32) (hR : jRel (I, J, O)) : jMi l_ G yX7_lesson wsX7_lesson ({ frames := 6, cells := 0, slots := 0, locals := 144 }) [.ref (G.2.2.1 (0, 0, 0)), .int man, .int what] (I, J, O) (fun r u => jMi l_ G yX8_lesson wsX8_lesson ({ frames := 5, cells := 0, slots := 0, locals := 120 }) [.ref (G.2.2.1 (20, 0, 0)), .int man, .int what] u (fun r2 u2 => r2 = r ∧ jRel u2)) := by
  obtain ⟨nd, nm, z, hnd, hnm, hD, hM, hD2, hM2, hW, hW2, hWc, hWc2, hz, hZ, hH, hw⟩ := jR_now hR
  refine fore_i hR (zs_lesson hw.2.2.2.2.1.1 man what) (c_X7_lesson l_ G I J O man what hnd hD hnm hM hW hWc) (fun u hu => ?_)
  have e : u.1 41 = I 41 := SC_ref hu (by decide)
  have h := c_X8_lesson l_ G u.1 u.2.1 u.2.2 man what (nd := nd) (nm := nm) hnd (by rw [e]; exact hD2) hnm (by rw [e]; exact hM2) (by rw [e]; exact hW2) (by rw [e]; exact hWc2)
  rw [e] at h
  exact h

theorem t_meet (l_ : Launch) (G : jG) (I : Nat → Nat → Int32) (J : Nat → Nat → Int64) (O : Nat → Nat → Nat) (man : Int32) (other : Int32) (what : Int32) (hR : jRel (I, J, O)) : jMi l_ G yX7_meet wsX7_meet ({ frames := 7, cells := 0, slots := 0, locals := 165 }) [.ref (G.2.2.1 (0, 0, 0)), .int man, .int other, .int what] (I, J, O) (fun r u => jMi l_ G yX8_meet wsX8_meet ({ frames := 5, cells := 0, slots := 0, locals := 120 }) [.ref (G.2.2.1 (20, 0, 0)), .int man, .int other, .int what] u (fun r2 u2 => r2 = r ∧ jRel u2)) := by
  obtain ⟨nd, nm, z, hnd, hnm, hD, hM, hD2, hM2, hW, hW2, hWc, hWc2, hz, hZ, hH, hw⟩ := jR_now hR
  refine fore_i hR (zs_meet hw.2.2.2.2.1.1 man other what) (c_X7_meet l_ G I J O man other what hnd hD hnm hM hW hWc) (fun u hu => ?_)
  have e : u.1 41 = I 41 := SC_ref hu (by decide)
  have h := c_X8_meet l_ G u.1 u.2.1 u.2.2 man other what (nd := nd) (nm := nm) hnd (by rw [e]; exact hD2) hnm (by rw [e]; exact hM2) (by rw [e]; exact hW2) (by rw [e]; exact hWc2)
  rw [e] at h
  exact h

theorem t_hunt (l_ : Launch) (G : jG) (I : Nat → Nat → Int32) (J : Nat → Nat → Int64) (O : Nat → Nat → Nat) (man : Int32) (cell : Int32) (n : Int32) (hR : jRel (I, J, O)) : jMi l_ G yX7_hunt wsX7_hunt ({ frames := 7, cells := 0, slots := 0, locals := 173 }) [.ref (G.2.2.1 (0, 0, 0)), .int man, .int cell, .int n] (I, J, O) (fun r u => jMi l_ G yX8_hunt wsX8_hunt ({ frames := 6, cells := 0, slots := 0, locals := 156 }) [.ref (G.2.2.1 (20, 0, 0)), .int man, .int cell, .int n] u (fun r2 u2 => r2 = r ∧ jRel u2)) := by
  obtain ⟨nd, nm, z, hnd, hnm, hD, hM, hD2, hM2, hW, hW2, hWc, hWc2, hz, hZ, hH, hw⟩ := jR_now hR
  refine fore_i hR (zs_hunt hw.2.2.2.2.1.1 man cell n) (c_X7_hunt l_ G I J O man cell n hnd hD hnm hM hW hWc) (fun u hu => ?_)
  have e : u.1 41 = I 41 := SC_ref hu (by decide)
  have h := c_X8_hunt l_ G u.1 u.2.1 u.2.2 man cell n (nd := nd) (nm := nm) hnd (by rw [e]; exact hD2) hnm (by rw [e]; exact hM2) (by rw [e]; exact hW2) (by rw [e]; exact hWc2)
  rw [e] at h
  exact h

theorem t_way (l_ : Launch) (G : jG) (I : Nat → Nat → Int32) (J : Nat → Nat → Int64) (O : Nat → Nat → Nat) (man : Int32) (cell : Int32) (k : Int32) (hR : jRel (I, J, O)) : jMi l_ G yX7_way wsX7_way ({ frames := 7, cells := 0, slots := 0, locals := 165 }) [.ref (G.2.2.1 (0, 0, 0)), .int man, .int cell, .int k] (I, J, O) (fun r u => jMi l_ G yX8_way wsX8_way ({ frames := 4, cells := 0, slots := 0, locals := 98 }) [.ref (G.2.2.1 (20, 0, 0)), .int man, .int cell, .int k] u (fun r2 u2 => r2 = r ∧ jRel u2)) := by
  obtain ⟨nd, nm, z, hnd, hnm, hD, hM, hD2, hM2, hW, hW2, hWc, hWc2, hz, hZ, hH, hw⟩ := jR_now hR
  refine fore_i hR (zs_way hw.2.2.2.2.1.1 man cell k) (c_X7_way l_ G I J O man cell k hnd hD hnm hM hW hWc) (fun u hu => ?_)
  have e : u.1 41 = I 41 := SC_ref hu (by decide)
  have h := c_X8_way l_ G u.1 u.2.1 u.2.2 man cell k (nd := nd) (nm := nm) hnd (by rw [e]; exact hD2) hnm (by rw [e]; exact hM2) (by rw [e]; exact hW2) (by rw [e]; exact hWc2)
  rw [e] at h
  exact h

theorem t_round (l_ : Launch) (G : jG) (I : Nat → Nat → Int32) (J : Nat → Nat → Int64) (O : Nat → Nat → Nat) (man : Int32) (cells : Int32) (hR : jRel (I, J, O)) : jMi l_ G yX7_round wsX7_round ({ frames := 7, cells := 0, slots := 0, locals := 165 }) [.ref (G.2.2.1 (0, 0, 0)), .int man, .int cells] (I, J, O) (fun r u => jMi l_ G yX8_round wsX8_round ({ frames := 4, cells := 0, slots := 0, locals := 100 }) [.ref (G.2.2.1 (20, 0, 0)), .int man, .int cells] u (fun r2 u2 => r2 = r ∧ jRel u2)) := by
  obtain ⟨nd, nm, z, hnd, hnm, hD, hM, hD2, hM2, hW, hW2, hWc, hWc2, hz, hZ, hH, hw⟩ := jR_now hR
  refine jMi_mono (c_X7_round l_ G I J O man cells hnd hD hnm hM hW hWc) (fun r u h => ?_)
  have e : u.1 41 = I 41 := SC_ref h.2 (by decide)
  have h2 := c_X8_round l_ G u.1 u.2.1 u.2.2 man cells (nd := nd) (nm := nm) hnd (by rw [e]; exact hD2) hnm (by rw [e]; exact hM2) (by rw [e]; exact hW2) (by rw [e]; exact hWc2)
  rw [e] at h2
  refine jMi_mono h2 (fun r2 u2 h3 => ⟨?_, jRel_SM (jRel_SC hR h.2) h3.2⟩)
  have q := zs_round hw.2.2.2.2.1.1 man cells
  rw [← h.1] at q
  have q2 := h3.1
  unfold rdA1 at q q2
  by_cases z2 : (isB man nm && isB cells 256) = true
  · rw [if_pos z2] at q q2
    exact isRd_eq q2 q
  · rw [if_neg z2] at q q2
    rw [q, q2]

theorem t_wander (l_ : Launch) (G : jG) (I : Nat → Nat → Int32) (J : Nat → Nat → Int64) (O : Nat → Nat → Nat) (man : Int32) (cell : Int32) (n : Int32) (what : Int32) (hR : jRel (I, J, O)) : jMl l_ G yX7_wander wsX7_wander ({ frames := 7, cells := 0, slots := 0, locals := 165 }) [.ref (G.2.2.1 (0, 0, 0)), .int man, .int cell, .int n, .int what] (I, J, O) (fun r u => jMl l_ G yX8_wander wsX8_wander ({ frames := 4, cells := 0, slots := 0, locals := 97 }) [.ref (G.2.2.1 (20, 0, 0)), .int man, .int cell, .int n, .int what] u (fun r2 u2 => r2 = r ∧ jRel u2)) := by
  obtain ⟨nd, nm, z, hnd, hnm, hD, hM, hD2, hM2, hW, hW2, hWc, hWc2, hz, hZ, hH, hw⟩ := jR_now hR
  refine jMl_mono (c_X7_wander l_ G I J O man cell n what hnd hD hnm hM hW hWc) (fun r u h => ?_)
  have e : u.1 41 = I 41 := SC_ref h.2 (by decide)
  have h2 := c_X8_wander l_ G u.1 u.2.1 u.2.2 man cell n what (nd := nd) (nm := nm) hnd (by rw [e]; exact hD2) hnm (by rw [e]; exact hM2) (by rw [e]; exact hW2) (by rw [e]; exact hWc2)
  rw [e] at h2
  exact jMl_mono h2 (fun r2 u2 h3 => ⟨by rw [h3.1, h.1, zs_wander hw.2.2.2.2.1.1], jRel_SM (jRel_SC hR h.2) h3.2⟩)

theorem t_of (l_ : Launch) (G : jG) (I : Nat → Nat → Int32) (J : Nat → Nat → Int64) (O : Nat → Nat → Nat) (door : Int32) (what : Int32) (hR : jRel (I, J, O)) : jMi l_ G yX7_of wsX7_of ({ frames := 5, cells := 0, slots := 0, locals := 120 }) [.ref (G.2.2.1 (0, 0, 0)), .int door, .int what] (I, J, O) (fun r u => jMi l_ G yX8_of wsX8_of ({ frames := 3, cells := 0, slots := 0, locals := 73 }) [.ref (G.2.2.1 (20, 0, 0)), .int door, .int what] u (fun r2 u2 => r2 = r ∧ jRel u2)) := by
  obtain ⟨nd, nm, z, hnd, hnm, hD, hM, hD2, hM2, hW, hW2, hWc, hWc2, hz, hZ, hH, hw⟩ := jR_now hR
  exact same_i hR (zs_of hw.2.2.2.2.1.1 door what) (c_X7_of l_ G I J O door what hnd hD hnm hM) (c_X8_of l_ G I J O door what hnd hD2 hnm hM2)

theorem t_at (l_ : Launch) (G : jG) (I : Nat → Nat → Int32) (J : Nat → Nat → Int64) (O : Nat → Nat → Nat) (man : Int32) (what : Int32) (hR : jRel (I, J, O)) : jMi l_ G yX7_at wsX7_at ({ frames := 5, cells := 0, slots := 0, locals := 120 }) [.ref (G.2.2.1 (0, 0, 0)), .int man, .int what] (I, J, O) (fun r u => jMi l_ G yX8_at wsX8_at ({ frames := 4, cells := 0, slots := 0, locals := 96 }) [.ref (G.2.2.1 (20, 0, 0)), .int man, .int what] u (fun r2 u2 => r2 = r ∧ jRel u2)) := by
  obtain ⟨nd, nm, z, hnd, hnm, hD, hM, hD2, hM2, hW, hW2, hWc, hWc2, hz, hZ, hH, hw⟩ := jR_now hR
  exact same_i hR (zs_at hw.2.2.2.2.1.1 man what) (c_X7_at l_ G I J O man what hnd hD hnm hM) (c_X8_at l_ G I J O man what hnd hD2 hnm hM2)

theorem t_power (l_ : Launch) (G : jG) (I : Nat → Nat → Int32) (J : Nat → Nat → Int64) (O : Nat → Nat → Nat) (man : Int32) (door : Int32) (hR : jRel (I, J, O)) : jMi l_ G yX7_power wsX7_power ({ frames := 2, cells := 0, slots := 0, locals := 53 }) [.ref (G.2.2.1 (0, 0, 0)), .int man, .int door] (I, J, O) (fun r u => jMi l_ G yX8_power wsX8_power ({ frames := 2, cells := 0, slots := 0, locals := 50 }) [.ref (G.2.2.1 (20, 0, 0)), .int man, .int door] u (fun r2 u2 => r2 = r ∧ jRel u2)) := by
  obtain ⟨nd, nm, z, hnd, hnm, hD, hM, hD2, hM2, hW, hW2, hWc, hWc2, hz, hZ, hH, hw⟩ := jR_now hR
  exact same_i hR (zs_power hw.2.2.2.2.1.1 man door) (c_X7_power l_ G I J O man door hnd hD hnm hM) (c_X8_power l_ G I J O man door hnd hD2 hnm hM2)

theorem t_count (l_ : Launch) (G : jG) (I : Nat → Nat → Int32) (J : Nat → Nat → Int64) (O : Nat → Nat → Nat) (what : Int32) (hR : jRel (I, J, O)) : jMi l_ G yX7_count wsX7_count ({ frames := 1, cells := 0, slots := 0, locals := 22 }) [.ref (G.2.2.1 (0, 0, 0)), .int what] (I, J, O) (fun r u => jMi l_ G yX8_count wsX8_count ({ frames := 1, cells := 0, slots := 0, locals := 22 }) [.ref (G.2.2.1 (20, 0, 0)), .int what] u (fun r2 u2 => r2 = r ∧ jRel u2)) := by
  obtain ⟨nd, nm, z, hnd, hnm, hD, hM, hD2, hM2, hW, hW2, hWc, hWc2, hz, hZ, hH, hw⟩ := jR_now hR
  exact same_i hR (by rw [hZ, hH]; exact zs_count hw.2.2.2.2.1.1 (nI z) what) (c_X7_count l_ G I J O what hnd hD hnm hM) (c_X8_count l_ G I J O what hnd hD2 hnm hM2)
