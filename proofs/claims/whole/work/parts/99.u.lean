theorem lw_new {p : Program} {l : Launch} {e : Env} {R : Room} {s : State} {m : MethodId} {args : Array Value} {below : List Frame} {meth : Method} {c : Code} {H H0 : Heap} {locs : List Loc} {cells slots : Nat} {Q : State → Prop} {D : va_G} {cA : Nat → ClassId} {cc : ByteArray} {pc : Nat} {ls : Array Slot} {rest : List Value} {A : Nat → Prop} {Ts : List Cond} {own C : String} {T : u_T} {N ci index : Nat} {ty : Nat → FieldType} (hx : p.tables.exec = Jvm.exec) (hb : c.code = cc) (hown : s.vm.findClass own = some m.cls) (hts : ∀ w ∈ Ts, w.before args s = true) (hP : cnP D cA s) (hin : ∀ w ∈ u_ws C T N, w ∈ Ts) (hty : ∀ k, k < N → parseFieldDescriptor (T k).2.2.1 = some (ty k)) (hcl : Cond.classLink own index C ∈ Ts) (hinst : Cond.instantiable C N ∈ Ts) (hini : Cond.initialized C ∈ Ts)
    (hc : vwCl[ci]? = some (C, T, N)) (fs : List Value) (hfs : ∀ j, j < N → defaultValue (ty j) = vp_V fs j) (hcells : cells + 1 ≤ R.cells) (hslots : slots + N ≤ R.slots) (hdg : decode cc pc = .ok (.new index, 3)) {z : Nat} (hz : H.size = z) (hS : va_S A H0 H locs)
    (kk : ∀ H1 : Heap, va_at D vwCl (z, .inr (ci, fs)) H1 → H1.size = z + 1 → (∀ q, q < z → H1[q]? = H[q]?) → va_S A H0 H1 locs →
      W p l e R s m args below meth c H1 locs (cells + 1) (slots + N) Q (F0 m (pc + 3) ls (.ref z :: rest))) : W p l e R s m args below meth c H locs cells slots Q (F0 m pc ls rest) := by
  have hKn := hP.1.1 ci _ hc
  refine W.newcK hx hb hown (hts _ hcl) (hts _ hinst) (hts _ hini) rfl hdg hcells hslots hKn.2.1 hz fun H1 kC hkC e1 z1 o1 => ?_
  exact kk H1 ⟨_, hc, (u_born ty hts hin hKn hkC e1 hty).to hfs⟩ z1 o1 (cn_S hS hz (by omega) o1)
set_option maxHeartbeats 4000000 in
set_option maxRecDepth 100000 in
theorem whole_start {p : Program} {e : Env} {s : State} {m : MethodId} {below : List Frame} {meth : Method} {c : Code} (l : Launch) {b L : Nat} {xs : Nat → Int32} (hL : L ≤ 448) (C0 : lw_At p s m meth c b L xs) : W p l e room_1 s m #[Value.ref b] below meth c s.heap [] 0 0 (lw_Z below #[Value.ref b] s) (entryFrame m ([Value.ref b] : List Value).toArray 4) := by
  obtain ⟨hx, hb, hr, hml, hown, hts0, hX, hbl, hlocks, hgv⟩ := id C0
  obtain ⟨D, cA, tx, hP, hN, hT⟩ := ws_world C0
  have hts : ∀ w ∈ wsL_law, w.before #[Value.ref b] s = true := fun w h => hts0 w (wsL_law_in w h)
  have hA : ∀ q : Nat, s.heap.size ≤ q → (fun q : Nat => s.heap.size ≤ q) q := fun _ h => h
  have hbA : ¬ (fun q : Nat => s.heap.size ≤ q) b := Nat.not_le.mpr hbl
  have hS : va_S (fun q : Nat => s.heap.size ≤ q) s.heap s.heap [] := va_S.rf
  have hl := lv_entry ([.ref b]) (n := 4) (Nat.le_of_ble_eq_true rfl)
  rw [lg_entry_eq]
  generalize (lg_sl ([.ref b]) ++ List.replicate (4 - (lg_sl ([.ref b])).length) Slot.unset).toArray = ls at hl ⊢
  have hl : lv_has ls 4 [(0, .ref b)] := hl
  obtain ⟨s0, hs0⟩ : ∃ z, s.heap.size = z := ⟨_, rfl⟩
  refine lw_new (C := RX7) (T := TX7) (N := 10) (ci := 7) hx hb hown hts hP (fun w h => List.mem_append_left _ (List.mem_append_left _ (List.mem_append_left _ (List.mem_append_left _ (List.mem_append_left _ (List.mem_append_left _ (List.mem_append_left _ (List.mem_append_left _ (List.mem_append_left _ (List.mem_append_right _ h)))))))))) tyX7_ok (List.mem_of_getElem? (i := 0) rfl) (List.mem_of_getElem? (i := 1) rfl) (List.mem_of_getElem? (i := 2) rfl) rfl [.null, .null, .null, .null, .int 0, .null, .null, .null, .null, .null] (fun j hj => by rcases (show j = 0 ∨ j = 1 ∨ j = 2 ∨ j = 3 ∨ j = 4 ∨ j = 5 ∨ j = 6 ∨ j = 7 ∨ j = 8 ∨ j = 9 by omega) with rfl | rfl | rfl | rfl | rfl | rfl | rfl | rfl | rfl | rfl <;> rfl) (Nat.le_of_ble_eq_true rfl) (Nat.le_of_ble_eq_true rfl) dL_law_0 hs0 hS (fun H n1 n2 o1 hS => ?_)
  refine lv_dup hx hb dL_law_3 rfl ?_
  refine cn_call (as := []) (r := s0) (z := s0 + 1) (rm := rmI7) hS hA (by show s.heap.size ≤ s0; omega) n2 (va_runI (As := []) (rest := [.ref s0]) ⟨hx, hb, hml, hown, hts⟩ (ciX7 l D cA s0 (s0 + 1) tx rfl) (cwI 0 hts ggL_law_X7_init rfl rfl rfl (hts _ (List.mem_of_getElem? (i := 2) rfl)) (hts _ (List.mem_of_getElem? (i := 7) rfl)) (hts _ (List.mem_of_getElem? (i := 8) rfl)) rfl (by decide +kernel) ⟨by decide, by decide⟩) ⟨cnPc_blind, fun U hU hW => ⟨rfl, by rw [hU]; exact n2, hP.warm hW, by rw [hU]; exact n1⟩⟩ rfl rfl hl.1 rfl (lv_room (Nat.le_of_ble_eq_true rfl)) dL_law_4 ⟨Nat.le_of_ble_eq_true rfl, Nat.le_of_ble_eq_true rfl⟩) (fun H locs m1 m2 m3 o2 hS => ?_)
  refine lv_astore_n (lv' := [(1, .ref s0), (0, .ref b)]) hx hb dL_law_7 rfl hl (by decide) rfl (fun ls hl => ?_)
  refine lw_new (C := RX8) (T := TX8) (N := 22) (ci := 8) (z := s0 + 349) hx hb hown hts hP (fun w h => List.mem_append_left _ (List.mem_append_left _ (List.mem_append_left _ (List.mem_append_left _ (List.mem_append_left _ (List.mem_append_left _ (List.mem_append_left _ (List.mem_append_left _ (List.mem_append_right _ h))))))))) tyX8_ok (List.mem_of_getElem? (i := 3) rfl) (List.mem_of_getElem? (i := 4) rfl) (List.mem_of_getElem? (i := 5) rfl) rfl [.null, .null, .int 0, .int 0, .null, .null, .null, .null, .null, .null, .null, .null, .int 0, .int 0, .null, .int 0, .null, .null, .null, .null, .null, .null] (fun j hj => by rcases (show j = 0 ∨ j = 1 ∨ j = 2 ∨ j = 3 ∨ j = 4 ∨ j = 5 ∨ j = 6 ∨ j = 7 ∨ j = 8 ∨ j = 9 ∨ j = 10 ∨ j = 11 ∨ j = 12 ∨ j = 13 ∨ j = 14 ∨ j = 15 ∨ j = 16 ∨ j = 17 ∨ j = 18 ∨ j = 19 ∨ j = 20 ∨ j = 21 by omega) with rfl | rfl | rfl | rfl | rfl | rfl | rfl | rfl | rfl | rfl | rfl | rfl | rfl | rfl | rfl | rfl | rfl | rfl | rfl | rfl | rfl | rfl <;> rfl) (Nat.le_of_ble_eq_true rfl) (Nat.le_of_ble_eq_true rfl) dL_law_8 (by omega) hS (fun H n3 n4 o3 hS => ?_)
  refine lv_dup hx hb dL_law_11 rfl ?_
  refine cn_call (as := []) (r := s0 + 349) (z := s0 + 349 + 1) (rm := rmI8) hS hA (by show s.heap.size ≤ s0 + 349; omega) n4 (va_runI (As := []) (rest := [.ref (s0 + 349)]) ⟨hx, hb, hml, hown, hts⟩ (ciX8 l D cA (s0 + 349) (s0 + 349 + 1)) (cwI 0 hts ggL_law_X8_init rfl rfl rfl (hts _ (List.mem_of_getElem? (i := 5) rfl)) (hts _ (List.mem_of_getElem? (i := 89) rfl)) (hts _ (List.mem_of_getElem? (i := 90) rfl)) rfl (by decide +kernel) ⟨by decide, by decide⟩) ⟨cnPc_blind, fun U hU hW => ⟨rfl, by rw [hU]; exact n4, hP.warm hW, by rw [hU]; exact n3⟩⟩ rfl rfl hl.1 rfl (lv_room (Nat.le_of_ble_eq_true rfl)) dL_law_12 ⟨Nat.le_of_ble_eq_true rfl, Nat.le_of_ble_eq_true rfl⟩) (fun H locs j1 j2 j3 o4 hS => ?_)
  refine lv_astore_n (lv' := [(2, .ref (s0 + 349)), (1, .ref s0), (0, .ref b)]) hx hb dL_law_15 rfl hl (by decide) rfl (fun ls hl => ?_)
  refine lv_iconst (v := nI 0) hx hb dL_law_16 (by decide) ?_
  refine lv_istore_n (lv' := [(3, .int (nI 0)), (2, .ref (s0 + 349)), (1, .ref s0), (0, .ref b)]) hx hb dL_law_17 rfl hl (by decide) rfl (fun ls hl => ?_)
  have hB : jB (D, cA, cp_adH tx s0, cp_plL) (fun q : Nat => s.heap.size ≤ q) s.heap cp_st0 H locs := by
    refine jB_0 (fun k hk => ?_) hS (fun q h => by show s.heap.size ≤ q; omega)
    by_cases c0 : k = 0
    · subst c0
      have e : cp_pl 0 = (0, 0, 0) := by decide +kernel
      rw [e]
      exact cn_kn m2 ((o4 _ (by omega) (by omega)).trans (o3 _ (by omega)))
    · by_cases c1 : k < 349
      · have q := m3 (k - 1) (by omega)
        have e : k - 1 + 1 = k := by omega
        rw [e] at q
        exact cn_ad (cn_kn q ((o4 _ (by omega) (by omega)).trans (o3 _ (by omega)))) (by omega)
      · exact cp_md_at j2 j3 k (by omega) hk
  have hT : jSt (D, cA, cp_adH tx s0, cp_plL) (fun q : Nat => s.heap.size ≤ q) s := by rw [← hs0]; exact hT
  exact ll_loop (G := (D, cA, cp_adH tx s0, cp_plL)) ⟨hx, hb, hr, hml, hown, hts, hlocks, hP.1, hA, hN, hT⟩ hX hbl hbA hL (fun _ h => h) ⟨Nat.le_of_ble_eq_true rfl, Nat.le_of_ble_eq_true rfl⟩ (L + 1) 0 (by omega) (Nat.zero_le _) cp_st0 H locs ls hB st0_rel (lv_sub hl [3, 2, 1, 0] rfl)
