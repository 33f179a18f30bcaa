set_option maxRecDepth 20000 in
theorem inNs : ∀ w ∈ nsW, w ∈ lw_tbl := in_tbl [99, 103, 106, 160, 124, 128, 132, 136, 139, 142, 206, 169, 192, 232, 234, 238, 275, 279, 277, 273, 162, 167, 157, 96, 125, 129, 134, 158, 164, 101, 107, 95, 98, 102, 105, 123, 127, 131, 135, 138, 141, 163, 166] (by decide +kernel)
set_option maxRecDepth 20000 in
theorem inMs : ∀ w ∈ msW, w ∈ lw_tbl := in_tbl [200, 264, 268, 226, 90, 118] (by decide +kernel)
set_option maxRecDepth 20000 in
theorem inAo : ∀ C ∈ aoL, Cond.arrayOver (.object C) ∈ lw_tbl := by decide +kernel
set_option maxRecDepth 20000 in
theorem inSt : ∀ i, i < 4 → Cond.stringRef RX6 (jtI i) (jtT i) ∈ lw_tbl := by decide +kernel
abbrev txT (i : Nat) : Term := Term.string RX6 (jtI i)
set_option maxRecDepth 20000 in
theorem tx_ex : ∀ i, i < 4 → Cond.exactly (txT i) "java/lang/String" ∈ flatC (Jvm.Cond.and given_1 narrow_1) := by decide +kernel
set_option maxRecDepth 20000 in
theorem tx_co : ∀ i, i < 4 → Cond.eq (.field (txT i) "java/lang/String" "coder" "B") (.int 0) ∈ flatC (Jvm.Cond.and given_1 narrow_1) := by decide +kernel
set_option maxRecDepth 20000 in
theorem tx_ar : ∀ i, i < 4 → Cond.arrayOf (.field (txT i) "java/lang/String" "value" "[B") .byte ∈ flatC (Jvm.Cond.and given_1 narrow_1) := by decide +kernel
set_option maxRecDepth 20000 in
theorem tx_le : ∀ i, i < 4 → Cond.eq (.length (.field (txT i) "java/lang/String" "value" "[B")) (.int (Int32.ofNat (jtL.getD i 0))) ∈ flatC (Jvm.Cond.and given_1 narrow_1) := by decide +kernel
set_option maxRecDepth 20000 in
theorem tx_el : ∀ i, i < 4 → ∀ j, j < jtL.getD i 0 → Cond.eq (.elem (.field (txT i) "java/lang/String" "value" "[B") (.int (Int32.ofNat j))) (.int ((jtB.getD i []).getD j 0)) ∈ flatC (Jvm.Cond.and given_1 narrow_1) := by decide +kernel
set_option maxRecDepth 20000 in
theorem tx_ne : ∀ i, i < 4 → ∀ j, j < 4 → i ≠ j → Cond.not (Cond.eq (txT i) (txT j)) ∈ flatC (Jvm.Cond.and given_1 narrow_1) ∨ Cond.not (Cond.eq (txT j) (txT i)) ∈ flatC (Jvm.Cond.and given_1 narrow_1) := by decide +kernel
set_option maxRecDepth 20000 in
theorem tx_cs : Cond.eq (.static "java/lang/String" "COMPACT_STRINGS" "Z") (.int 1) ∈ flatC (Jvm.Cond.and given_1 narrow_1) := by decide +kernel
set_option maxRecDepth 20000 in
theorem tx_ls : Cond.laysStatic "java/lang/String" "COMPACT_STRINGS" "Z" ∈ lw_tbl := by decide +kernel
set_option maxRecDepth 20000 in
theorem tx_in : Cond.initialized "java/lang/String" ∈ lw_tbl := by decide +kernel
theorem ar_p {ty : FieldType} {args : Array Value} {s : State} (h : (Cond.arrayClass ty).before args s = true) : ∃ cX : ClassId, ArrOfT s cX ty ∧ s.vm.findClass ("[" ++ ty.toString) = some cX := by
  obtain ⟨cX, kA, comp, h1, h2, h3⟩ := Cond.arrayClass_spec h
  exact ⟨cX, fun n z => ⟨fun k h => (by cases h), kA, h2, comp, h3⟩, h1⟩
theorem ar_o {C : String} {args : Array Value} {s : State} (h : (Cond.arrayOver (.object C)).before args s = true) : ∃ cX : ClassId, ArrOfT s cX (.object C) ∧ va_RA s cX (.object C) := by
  obtain ⟨comp, cX, k, h1, h2, h3, h4, h5⟩ := Cond.arrayOver_spec h
  exact ⟨cX, fun n z => ⟨fun k h => (by cases h), k, h3, comp, h4⟩, k, comp, h3, h4, h1, h5⟩

set_option maxRecDepth 20000 in
theorem inIn0 : Cond.instantiable RX0 4 ∈ lw_tbl := by decide +kernel

set_option maxRecDepth 20000 in
theorem inIn1 : Cond.instantiable RX1 10 ∈ lw_tbl := by decide +kernel

set_option maxRecDepth 20000 in
theorem inIn2 : Cond.instantiable RX2 2 ∈ lw_tbl := by decide +kernel

set_option maxRecDepth 20000 in
theorem inIn3 : Cond.instantiable RX3 6 ∈ lw_tbl := by decide +kernel

set_option maxRecDepth 20000 in
theorem inIn4 : Cond.instantiable RX4 5 ∈ lw_tbl := by decide +kernel

set_option maxRecDepth 20000 in
theorem inIn5 : Cond.instantiable RX5 4 ∈ lw_tbl := by decide +kernel

set_option maxRecDepth 20000 in
theorem inIn6 : Cond.instantiable RX6 4 ∈ lw_tbl := by decide +kernel

set_option maxRecDepth 20000 in
theorem inIn7 : Cond.instantiable RX7 10 ∈ lw_tbl := by decide +kernel

set_option maxRecDepth 20000 in
theorem inIn8 : Cond.instantiable RX8 22 ∈ lw_tbl := by decide +kernel

set_option maxRecDepth 20000 in
theorem inAr_char : Cond.arrayClass .char ∈ lw_tbl := by decide +kernel

set_option maxRecDepth 20000 in
theorem inAr_int : Cond.arrayClass .int ∈ lw_tbl := by decide +kernel

set_option maxRecDepth 20000 in
theorem inAr_long : Cond.arrayClass .long ∈ lw_tbl := by decide +kernel

/-- what holds at the law's entry, in the words of the world -/
theorem ws_world {p : Program} {s : State} {m : MethodId} {meth : Method} {c : Code} {b L : Nat} {xs : Nat → Int32} (C0 : lw_At p s m meth c b L xs) : ∃ (D : va_G) (cA : Nat → ClassId) (tx : jP → Nat), cnP D cA s ∧ jNs s ∧ jSt (D, cA, cp_adH tx s.heap.size, cp_plL) (fun q : Nat => s.heap.size ≤ q) s := by
  obtain ⟨hx, hb, hr, hml, hown, hts, hX, hbl, hlocks, hgv⟩ := id C0

  obtain ⟨k0, w0, hK0⟩ := u_known (C := RX0) (T := TX0) (N := 4) (n := 4) hts inLc0 (hts _ inIn0)

  obtain ⟨k1, w1, hK1⟩ := u_known (C := RX1) (T := TX1) (N := 10) (n := 10) hts inLc1 (hts _ inIn1)

  obtain ⟨k2, w2, hK2⟩ := u_known (C := RX2) (T := TX2) (N := 2) (n := 2) hts inLc2 (hts _ inIn2)

  obtain ⟨k3, w3, hK3⟩ := u_known (C := RX3) (T := TX3) (N := 6) (n := 6) hts inLc3 (hts _ inIn3)

  obtain ⟨k4, w4, hK4⟩ := u_known (C := RX4) (T := TX4) (N := 5) (n := 5) hts inLc4 (hts _ inIn4)

  obtain ⟨k5, w5, hK5⟩ := u_known (C := RX5) (T := TX5) (N := 4) (n := 4) hts inLc5 (hts _ inIn5)

  obtain ⟨k6, w6, hK6⟩ := u_known (C := RX6) (T := TX6) (N := 4) (n := 4) hts inLc6 (hts _ inIn6)

  obtain ⟨k7, w7, hK7⟩ := u_known (C := RX7) (T := TX7) (N := 10) (n := 10) hts inLc7 (hts _ inIn7)

  obtain ⟨k8, w8, hK8⟩ := u_known (C := RX8) (T := TX8) (N := 22) (n := 22) hts inLc8 (hts _ inIn8)

  obtain ⟨dC, dI, hKc⟩ : ∃ (dC : Nat → ClassId) (dI : Nat → Nat → Nat), ∀ (k : Nat) (q : vw_C), vwCl[k]? = some q → u_Kn s q.1 q.2.1 q.2.2 (dC k) (dI k) := by
    refine ⟨fun k => match k with | 0 => k0 | 1 => k1 | 2 => k2 | 3 => k3 | 4 => k4 | 5 => k5 | 6 => k6 | 7 => k7 | _ => k8, fun k => match k with | 0 => w0 | 1 => w1 | 2 => w2 | 3 => w3 | 4 => w4 | 5 => w5 | 6 => w6 | 7 => w7 | _ => w8, ?_⟩
    intro k q hq
    match k, hq with
    | 0, hq => cases hq; exact hK0
    | 1, hq => cases hq; exact hK1
    | 2, hq => cases hq; exact hK2
    | 3, hq => cases hq; exact hK3
    | 4, hq => cases hq; exact hK4
    | 5, hq => cases hq; exact hK5
    | 6, hq => cases hq; exact hK6
    | 7, hq => cases hq; exact hK7
    | 8, hq => cases hq; exact hK8
    | k + 9, hq => simp [vwCl] at hq

  obtain ⟨a0, r0, q0⟩ := ar_p (hts _ inAr_char)
  obtain ⟨a1, r1, q1⟩ := ar_p (hts _ inAr_int)
  obtain ⟨a2, r2, q2⟩ := ar_p (hts _ inAr_long)
  obtain ⟨a3, r3, q3⟩ := ar_o (hts _ (inAo RX0 (List.mem_of_getElem? (i := 0) rfl)))
  obtain ⟨a4, r4, q4⟩ := ar_o (hts _ (inAo RX3 (List.mem_of_getElem? (i := 1) rfl)))
  obtain ⟨a5, r5, q5⟩ := ar_o (hts _ (inAo RX4 (List.mem_of_getElem? (i := 2) rfl)))
  obtain ⟨a6, r6, q6⟩ := ar_o (hts _ (inAo RX5 (List.mem_of_getElem? (i := 3) rfl)))
  have hs := flat_of_before _ hgv
  obtain ⟨adK, adV, t1, t2⟩ := vk_Sof (args := #[Value.ref b]) (s := s) (N := 4) (tm := txT) (len := jtL) (byt := jtB) (A := fun q : Nat => s.heap.size ≤ q) (by decide) (fun i hi => hs _ (tx_ex i hi)) (fun i hi => hs _ (tx_co i hi)) (fun i hi => hs _ (tx_ar i hi)) (fun i hi => hs _ (tx_le i hi)) (fun i hi j hj => hs _ (tx_el i hi j hj)) (fun i j hi hj hne => (tx_ne i hi j hj hne).imp (hs _) (hs _)) (fun a h => Nat.not_le.mpr h)
  refine ⟨(dC, dI), fun k => match k with | 0 => a0 | 1 => a1 | 2 => a2 | 3 => a3 | 4 => a4 | 5 => a5 | _ => a6, fun x => if x.1 = 30 then adK x.2.1 else adV x.2.1, ⟨⟨hKc, fun k q hq => ?_⟩, fun C hC => va_AO.of (hts _ (inAo C hC)), fun w hw => ?_⟩, fun w hw => ?_, t1, fun i hi => vk_R.of (hts _ (inSt i hi)) (t2 i hi), va_Zof (hts _ tx_ls) (hts _ tx_in) (va_eqi (hs _ tx_cs)) (fun a h => Nat.not_le.mpr h)⟩
  · match k, hq with
    | 0, hq => cases hq; exact ⟨r0, q0⟩
    | 1, hq => cases hq; exact ⟨r1, q1⟩
    | 2, hq => cases hq; exact ⟨r2, q2⟩
    | 3, hq => cases hq; exact ⟨r3, q3⟩
    | 4, hq => cases hq; exact ⟨r4, q4⟩
    | 5, hq => cases hq; exact ⟨r5, q5⟩
    | 6, hq => cases hq; exact ⟨r6, q6⟩
    | k + 7, hq => simp [jtys] at hq
  · obtain ⟨a, i, x, k, rfl⟩ := msW_f w hw
    exact va_Nw.of rfl (hts _ (inMs _ hw))
  · obtain ⟨a, i, b', n, d, k, rfl⟩ := nsW_f w hw
    exact va_Nw.of rfl (hts _ (inNs _ hw))
