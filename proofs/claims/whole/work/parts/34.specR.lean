/-! the class: the kept prisons' order; what the face's simple calls answer -/
def okO (O : Nat → Nat → Nat) : Prop := ∀ h, h < 2 → (∀ j, j < 8 → 3 + 8 * h ≤ O h j ∧ O h j < 11 + 8 * h) ∧ ∀ i j, i < 8 → j < 8 → O h i = O h j → i = j
section JA
variable {p : Program} {l : Launch} {e : Env} {R : Room} {s : State} {m : MethodId} {args : Array Value} {below : List Frame} {meth : Method} {c : Code} {H : Heap} {locs : List Loc} {cells slots : Nat} {Q : State → Prop} {cc : ByteArray} {pc : Nat} {ls : Array Slot} {rest : List Value}
variable {G : jG} {A : Nat → Prop} {H0 : Heap} {I : Nat → Nat → Int32} {J : Nat → Nat → Int64} {O : Nat → Nat → Nat} {ret : Option FieldType} {maxL : Nat} {own : String} {Ts : List Cond}
theorem j_ast (h n X : Nat) {i : Int32} (hC : jC p G s m meth c A cc ret maxL own Ts args) (hB : jB G A H0 (I, J, O) H locs) (hdg : decode cc pc = .ok (.aastore, 1)) (hh : h < 2) (hX : X < 19) (hi : i = nI n) (hn : n < 8)
    (kk : ∀ H locs, jB G A H0 (I, J, o2 O h n X) H locs → W p l e R s m args below meth c H locs cells slots Q (F0 m (pc + 1) ls rest)) : W p l e R s m args below meth c H locs cells slots Q (F0 m pc ls (.ref (G.2.2.1 (1, X, 0)) :: .int i :: .ref (G.2.2.1 (8, h, 0)) :: rest)) := by
  obtain ⟨hx', hb, hr', hml, hown, hts, hlocks, hK, hA, hN, hTx⟩ := hC
  obtain ⟨q0, hq⟩ := jW_get (I, J, O) hB.1 (jk8 hh)
  obtain ⟨q1, hq1⟩ := jW_get (I, J, O) hB.1 (jk1 hX)
  subst hi
  have hs := jW_set (e' := .inl (G.2.1 5, 8, jR (va_up (fun j => some (G.2.2.1 (1, O h j, 0))) n (some (G.2.2.1 (1, X, 0)))))) (st' := (I, J, o2 O h n X)) hB.1 hB.2.2.1 (jk8 hh) hq (fun z hz hne => jw_frO z hz hne) (by
    show _ = Sum.inl (G.2.1 5, 8, jR (fun j => some (G.2.2.1 (1, o2 O h n X h j, 0))))
    congr 3
    refine congrArg jR (funext fun j => ?_)
    by_cases hj : j = n
    · subst hj; simp [va_up, o2]
    · simp [va_up, o2, hj])
  refine va_astq hx' hb hK hB.2.1 hB.2.2.1 hB.2.2.2 q0 5 q1 4 (r := (RX4, TX4, 5)) hq rfl hq1 rfl (vp_in_nI hn (by decide)) hdg (fun H locs hP hD hS => ?_)
  rw [nI_clamp (by omega)] at hP hD
  rw [hs] at hP hD
  exact kk H locs ⟨hB.1, hP, hD, hS⟩
end JA
/-- the oldest goes to the end, so far -/
def rotN (O : Nat → Nat → Nat) (k : Nat) : Nat → Nat → Nat := fun h j => if h = 0 ∧ j < k then O 0 (j + 1) else O h j
def rotO (O : Nat → Nat → Nat) : Nat → Nat → Nat := o2 (rotN O 7) 0 7 (O 0 0)
theorem rotN_0 (O : Nat → Nat → Nat) : rotN O 0 = O := by funext h j; simp [rotN]
theorem rotN_at (O : Nat → Nat → Nat) {k : Nat} : rotN O k 0 (k + 1) = O 0 (k + 1) := if_neg (by omega)
theorem rotN_step (O : Nat → Nat → Nat) (k : Nat) : o2 (rotN O k) 0 k (rotN O k 0 (k + 1)) = rotN O (k + 1) := by
  rw [rotN_at]
  funext h j
  simp only [o2, rotN]
  by_cases h1 : h = 0
  · by_cases h2 : j = k
    · subst h2; simp [h1]
    · by_cases h3 : j < k
      · simp [h1, h2, h3, show j < k + 1 by omega]
      · simp [h1, h2, h3, show ¬ j < k + 1 by omega]
  · simp [h1]
theorem rotO_ok {O : Nat → Nat → Nat} (h : okO O) : okO (rotO O) := by
  have e0 : ∀ j, j < 8 → rotO O 0 j = if j < 7 then O 0 (j + 1) else O 0 0 := by
    intro j hj
    simp only [rotO, o2, rotN]
    by_cases h7 : j = 7
    · subst h7; simp
    · simp [h7, show j < 7 by omega]
  have e1 : ∀ k j, k ≠ 0 → rotO O k j = O k j := by
    intro k j hk
    simp [rotO, o2, rotN, hk]
  intro k hk
  by_cases hk0 : k = 0
  · subst hk0
    obtain ⟨h1, h2⟩ := h 0 (by decide)
    refine ⟨fun j hj => ?_, fun i j hi hj he => ?_⟩
    · rw [e0 j hj]; split
      · exact h1 _ (by omega)
      · exact h1 _ (by omega)
    · rw [e0 i hi, e0 j hj] at he
      split at he <;> split at he
      · have := h2 _ _ (by omega) (by omega) he; omega
      · have := h2 _ _ (by omega) (by omega) he; omega
      · have := h2 _ _ (by omega) (by omega) he; omega
      · omega
  · obtain ⟨h1, h2⟩ := h k hk
    exact ⟨fun j hj => by rw [e1 k j hk0]; exact h1 j hj, fun i j hi hj he => h2 i j hi hj (by rw [e1 k i hk0, e1 k j hk0] at he; exact he)⟩
def ofC (a : Nat → Int32) (nd nm : Nat) (door what : Int32) : Int32 :=
  if isB door nd = true then
    if what = nI 0 then a (11 + tN door) else if what = nI 1 then a (21 + tN door) else if what = nI 2 then a (31 + tN door) else if what = nI 3 then a (41 + tN door)
    else if what = nI 4 then mkF a (tN door) nm else if what = nI 5 then mpF a (tN door) nm else -1
  else -1
def atC (a : Nat → Int32) (nd nm : Nat) (man what : Int32) : Int32 :=
  if isB man nm = true then
    if what = nI 0 then a (3 + tN man) else if what = nI 1 then a (63 + tN man) else if what = nI 2 then a (7 + tN man) else if what = nI 3 then a (51 + tN man) else if what = nI 4 then a (55 + tN man) else if what = nI 5 then a (59 + tN man)
    else if what = nI 6 then doF a a (tN man) nd else -1
  else -1
def powC (a : Nat → Int32) (nd nm : Nat) (man door : Int32) : Int32 :=
  if isB man nm && isB door nd then (if atB a (tN door) (a (51 + tN man)) then pwM a a (tN man) (tN door) else -2) else -1
def cntC (a : Nat → Int32) (nd nm : Nat) (h what : Int32) : Int32 :=
  if what = nI 0 then nI nd else if what = nI 1 then nI nm else if what = nI 2 then hsF a nd else if what = nI 3 then fsF a nm else if what = nI 4 then clF a nm else if what = nI 5 then h else -1
def quB (sort hard : Int32) : Bool := isB sort 4 && (!decide (hard < nI 1) && !decide (nI 19 < hard))
def doorOkC (cell other sort hard : Int32) : Bool := isB cell 8 && (isB other 8 && (!decide (cell = other) && quB sort hard))
theorem isBelow_0 {v : Int32} {n : Nat} (h : v < 0) : nI 0 = b2 (isB v n) := by
  have h2 : isB v n = false := by
    rw [Bool.eq_false_iff]
    intro q
    have := (isB_iff.mp q).1
    rw [Int32.lt_iff_toInt_lt, show (0 : Int32).toInt = 0 from rfl] at h
    omega
  rw [h2]; rfl
theorem isBelow_1 {v : Int32} {n : Nat} (hn : n < 2 ^ 31) (h : nI n ≤ v) : nI 0 = b2 (isB v n) := by
  have h2 : isB v n = false := by
    rw [Bool.eq_false_iff]
    intro q
    have := (isB_iff.mp q).2
    rw [Int32.le_iff_toInt_le, nI_toInt hn] at h
    omega
  rw [h2]; rfl
theorem isBelow_2 {v : Int32} {n : Nat} (hn : n < 2 ^ 31) (h0 : ¬ v < 0) (h : ¬ nI n ≤ v) : nI 1 = b2 (isB v n) := by
  have h2 : isB v n = true := isB_iff.mpr (by
    rw [Int32.le_iff_toInt_le, nI_toInt hn] at h
    rw [Int32.lt_iff_toInt_lt, show (0 : Int32).toInt = 0 from rfl] at h0
    omega)
  rw [h2]; rfl
