theorem inI4_4 : ∀ w ∈ u_ws RX4 TX4 5, w ∈ wsX4_init := fun w h => List.mem_cons_of_mem _ (List.mem_append_left _ (List.mem_append_left _ (List.mem_append_right _ h)))

theorem inI4_0 : ∀ w ∈ u_ws RX0 TX0 4, w ∈ wsX4_init := fun w h => List.mem_cons_of_mem _ (List.mem_append_left _ (List.mem_append_right _ h))

theorem inI4_3 : ∀ w ∈ u_ws RX3 TX3 6, w ∈ wsX4_init := fun w h => List.mem_cons_of_mem _ (List.mem_append_right _ h)

set_option maxHeartbeats 4000000 in
set_option maxRecDepth 100000 in
theorem cl4d {p : Program} {l : Launch} {e : Env} {s : State} {m : MethodId} {below : List Frame} {meth : Method} {c : Code} {args : Array Value} {Q : State → Prop} {D : va_G} {cA : Nat → ClassId} {A : Nat → Prop} {H0 Hs : Heap} {h0 : Nat} {fs : List Value} (B arr : Nat) (hC : cnC p D cA s m meth c cX4_init 2 RX4 wsX4_init args) (hfs : fs[0]? = some (.ref arr)) (he : va_at D vwCl (h0, .inr (4, fs)) Hs) (h0B : h0 < B) (h0a : h0 ≠ arr) (haB : arr < B) (hAa : A arr) (hAB : ∀ q, B ≤ q → A q) (hA : ∀ q, H0.size ≤ q → A q)
    (kk : ∀ H locs ls, H.size = B + 1 * 10 → va_at D vwCl (arr, .inl (cA 3, 10, jR (fun d => if d < 10 then some (B + 1 * d) else none))) H → (∀ j, j < 10 → va_at D vwCl (B + 1 * j, .inr (0, [.int 0, .int 0, .int 0, .int 0])) H) → (∀ q, q < B → q ≠ arr → H[q]? = Hs[q]?) → va_S A H0 H locs → lv_has ls 2 [(1, .int (nI 10)), (0, .ref h0)] → W p l e rmI4 s m args below meth c H locs (2 + 1 * 10) (14 + 4 * 10) Q (F0 m 53 ls [])) : ∀ f k, k + f = 10 → ∀ H locs ls, H.size = B + 1 * k → va_at D vwCl (arr, .inl (cA 3, 10, jR (fun d => if d < k then some (B + 1 * d) else none))) H → (∀ j, j < k → va_at D vwCl (B + 1 * j, .inr (0, [.int 0, .int 0, .int 0, .int 0])) H) → (∀ q, q < B → q ≠ arr → H[q]? = Hs[q]?) → va_S A H0 H locs → lv_has ls 2 [(1, .int (nI k)), (0, .ref h0)] → W p l e rmI4 s m args below meth c H locs (2 + 1 * k) (14 + 4 * k) Q (F0 m 28 ls []) := by
  obtain ⟨hx, hb, hr, hml, hown, hts, hlocks, hin, hP⟩ := id hC
  intro f
  induction f with
  | zero =>
    intro k hk H locs ls i1 i2 i3 i4 hS hl
    refine lv_iload_n hx hb dX4_init_28 rfl (lv_at hl 0 rfl) ?_
    refine lv_bipush (v := nI 10) hx hb dX4_init_29 (by decide) ?_
    obtain rfl : k = 10 := by omega
    exact jn_icmp_ge (tgt := 53) hx hb dX4_init_31 (by decide) (by decide) (by decide) (fun _ => kk H locs ls i1 i2 i3 i4 hS hl) (fun q => absurd q (by omega))
  | succ f ih =>
    intro k hk H locs ls i1 i2 i3 i4 hS hl
    refine lv_iload_n hx hb dX4_init_28 rfl (lv_at hl 0 rfl) ?_
    refine lv_bipush (v := nI 10) hx hb dX4_init_29 (by decide) ?_
    refine jn_icmp_ge (tgt := 53) hx hb dX4_init_31 (by decide) (by omega) (by decide) (fun q => absurd q (by omega)) (fun _ => ?_)
    refine lv_aload_n hx hb dX4_init_34 rfl (lv_at hl 1 rfl) ?_
    refine cn_get (T := TX4) 0 hC inI4_4 (List.mem_of_getElem? (i := 5) rfl) dX4_init_35 (cn_kn he (i4 _ h0B h0a)) rfl (by decide) hfs ?_
    refine lv_iload_n hx hb dX4_init_38 rfl (lv_at hl 0 rfl) ?_
    refine cn_new (C := RX0) (T := TX0) (N := 4) (ci := 0) hC inI4_0 tyX0_ok (List.mem_of_getElem? (i := 4) rfl) (List.mem_of_getElem? (i := 9) rfl) (List.mem_of_getElem? (i := 10) rfl) rfl [.int 0, .int 0, .int 0, .int 0] (fun j hj => by rcases (show j = 0 ∨ j = 1 ∨ j = 2 ∨ j = 3 by omega) with rfl | rfl | rfl | rfl <;> rfl) (show _ ≤ 16 by omega) (show _ ≤ 78 by omega) dX4_init_39 i1 hS (fun H1 n1 n2 o1 hS => ?_)
    refine lv_dup hx hb dX4_init_42 rfl ?_
    refine cn_callN (host := "RiddlePrison") hC hl.1 (ciX0 l D cA (B + 1 * k) (B + 1 * k + 1)) ⟨va_cnB 0 hts ggX4_init_X0_init rfl rfl rfl (hP.2.2 _ (List.mem_of_getElem? (i := 4) rfl)) (hts _ (List.mem_of_getElem? (i := 10) rfl)) (by decide +kernel) ⟨by decide, by decide⟩, rfl, hts _ (List.mem_of_getElem? (i := 13) rfl)⟩ rfl rfl (Nat.le_of_ble_eq_true rfl) dX4_init_43 ⟨show _ + 0 ≤ 16 by omega, show _ + 0 ≤ 78 by omega⟩ n1 hS hA (hAB _ (by omega)) n2 (fun H2 locs2 m1 m2 m3 o2 hS => ?_)
    refine cn_astq (r := (RX0, TX0, 4)) (t0 := 3) (j := k) hC (cn_kn i2 ((o2 _ (by omega) (by omega)).trans (o1 _ (by omega)))) rfl m2 rfl (by omega) (by decide) dX4_init_46 hS hAa (fun H3 locs3 u1 u2 o3 hS => ?_)
    rw [cn_fn] at u1
    refine lv_iinc (v := nI (k + 1)) (lv' := [(1, .int (nI (k + 1))), (0, .ref h0)]) hx hb dX4_init_47 hl (k := 0) rfl (jn_inc _ 1) (by decide) rfl (fun ls hl => ?_)
    refine lv_goto (tgt := 28) hx hb dX4_init_50 (by decide) ?_
    refine W.widen (k := 2 + 1 * (k + 1)) (n := 14 + 4 * (k + 1)) (by show _ + 0 ≤ _; omega) (by show _ + 0 ≤ _; omega) ?_
    refine ih (k + 1) (by omega) H3 locs3 ls (by omega) u1 (fun j hj => ?_) (fun q hq hne => (o3 q hne).trans ((o2 q (by omega) (by omega)).trans ((o1 q (by omega)).trans (i4 q hq hne)))) hS hl
    by_cases hjk : j < k
    · exact cn_kn (i3 j hjk) ((o3 _ (by omega)).trans ((o2 _ (by omega) (by omega)).trans (o1 _ (by omega))))
    · obtain rfl : j = k := by omega
      exact cn_kn m2 (o3 _ (by omega))

set_option maxHeartbeats 4000000 in
set_option maxRecDepth 100000 in
theorem cl4m {p : Program} {l : Launch} {e : Env} {s : State} {m : MethodId} {below : List Frame} {meth : Method} {c : Code} {args : Array Value} {Q : State → Prop} {D : va_G} {cA : Nat → ClassId} {A : Nat → Prop} {H0 Hs : Heap} {h0 : Nat} {fs : List Value} (B arr : Nat) (hC : cnC p D cA s m meth c cX4_init 2 RX4 wsX4_init args) (hfs : fs[1]? = some (.ref arr)) (he : va_at D vwCl (h0, .inr (4, fs)) Hs) (h0B : h0 < B) (h0a : h0 ≠ arr) (haB : arr < B) (hAa : A arr) (hAB : ∀ q, B ≤ q → A q) (hA : ∀ q, H0.size ≤ q → A q)
    (kk : ∀ H locs ls, H.size = B + 1 * 4 → va_at D vwCl (arr, .inl (cA 4, 4, jR (fun d => if d < 4 then some (B + 1 * d) else none))) H → (∀ j, j < 4 → va_at D vwCl (B + 1 * j, .inr (3, [.int 0, .int 0, .int 0, .int 0, .int 0, .int 0])) H) → (∀ q, q < B → q ≠ arr → H[q]? = Hs[q]?) → va_S A H0 H locs → lv_has ls 2 [(1, .int (nI 4)), (0, .ref h0)] → W p l e rmI4 s m args below meth c H locs (12 + 1 * 4) (54 + 6 * 4) Q (F0 m 79 ls [])) : ∀ f k, k + f = 4 → ∀ H locs ls, H.size = B + 1 * k → va_at D vwCl (arr, .inl (cA 4, 4, jR (fun d => if d < k then some (B + 1 * d) else none))) H → (∀ j, j < k → va_at D vwCl (B + 1 * j, .inr (3, [.int 0, .int 0, .int 0, .int 0, .int 0, .int 0])) H) → (∀ q, q < B → q ≠ arr → H[q]? = Hs[q]?) → va_S A H0 H locs → lv_has ls 2 [(1, .int (nI k)), (0, .ref h0)] → W p l e rmI4 s m args below meth c H locs (12 + 1 * k) (54 + 6 * k) Q (F0 m 55 ls []) := by
  obtain ⟨hx, hb, hr, hml, hown, hts, hlocks, hin, hP⟩ := id hC
  intro f
  induction f with
  | zero =>
    intro k hk H locs ls i1 i2 i3 i4 hS hl
    refine lv_iload_n hx hb dX4_init_55 rfl (lv_at hl 0 rfl) ?_
    refine lv_iconst (v := nI 4) hx hb dX4_init_56 (by decide) ?_
    obtain rfl : k = 4 := by omega
    exact jn_icmp_ge (tgt := 79) hx hb dX4_init_57 (by decide) (by decide) (by decide) (fun _ => kk H locs ls i1 i2 i3 i4 hS hl) (fun q => absurd q (by omega))
  | succ f ih =>
    intro k hk H locs ls i1 i2 i3 i4 hS hl
    refine lv_iload_n hx hb dX4_init_55 rfl (lv_at hl 0 rfl) ?_
    refine lv_iconst (v := nI 4) hx hb dX4_init_56 (by decide) ?_
    refine jn_icmp_ge (tgt := 79) hx hb dX4_init_57 (by decide) (by omega) (by decide) (fun q => absurd q (by omega)) (fun _ => ?_)
    refine lv_aload_n hx hb dX4_init_60 rfl (lv_at hl 1 rfl) ?_
    refine cn_get (T := TX4) 1 hC inI4_4 (List.mem_of_getElem? (i := 7) rfl) dX4_init_61 (cn_kn he (i4 _ h0B h0a)) rfl (by decide) hfs ?_
    refine lv_iload_n hx hb dX4_init_64 rfl (lv_at hl 0 rfl) ?_
    refine cn_new (C := RX3) (T := TX3) (N := 6) (ci := 3) hC inI4_3 tyX3_ok (List.mem_of_getElem? (i := 6) rfl) (List.mem_of_getElem? (i := 11) rfl) (List.mem_of_getElem? (i := 12) rfl) rfl [.int 0, .int 0, .int 0, .int 0, .int 0, .int 0] (fun j hj => by rcases (show j = 0 ∨ j = 1 ∨ j = 2 ∨ j = 3 ∨ j = 4 ∨ j = 5 by omega) with rfl | rfl | rfl | rfl | rfl | rfl <;> rfl) (show _ ≤ 16 by omega) (show _ ≤ 78 by omega) dX4_init_65 i1 hS (fun H1 n1 n2 o1 hS => ?_)
    refine lv_dup hx hb dX4_init_68 rfl ?_
    refine cn_callN (host := "RiddlePrison") hC hl.1 (ciX3 l D cA (B + 1 * k) (B + 1 * k + 1)) ⟨va_cnB 0 hts ggX4_init_X3_init rfl rfl rfl (hP.2.2 _ (List.mem_of_getElem? (i := 5) rfl)) (hts _ (List.mem_of_getElem? (i := 12) rfl)) (by decide +kernel) ⟨by decide, by decide⟩, rfl, hts _ (List.mem_of_getElem? (i := 16) rfl)⟩ rfl rfl (Nat.le_of_ble_eq_true rfl) dX4_init_69 ⟨show _ + 0 ≤ 16 by omega, show _ + 0 ≤ 78 by omega⟩ n1 hS hA (hAB _ (by omega)) n2 (fun H2 locs2 m1 m2 m3 o2 hS => ?_)
    refine cn_astq (r := (RX3, TX3, 6)) (t0 := 4) (j := k) hC (cn_kn i2 ((o2 _ (by omega) (by omega)).trans (o1 _ (by omega)))) rfl m2 rfl (by omega) (by decide) dX4_init_72 hS hAa (fun H3 locs3 u1 u2 o3 hS => ?_)
    rw [cn_fn] at u1
    refine lv_iinc (v := nI (k + 1)) (lv' := [(1, .int (nI (k + 1))), (0, .ref h0)]) hx hb dX4_init_73 hl (k := 0) rfl (jn_inc _ 1) (by decide) rfl (fun ls hl => ?_)
    refine lv_goto (tgt := 55) hx hb dX4_init_76 (by decide) ?_
    refine W.widen (k := 12 + 1 * (k + 1)) (n := 54 + 6 * (k + 1)) (by show _ + 0 ≤ _; omega) (by show _ + 0 ≤ _; omega) ?_
    refine ih (k + 1) (by omega) H3 locs3 ls (by omega) u1 (fun j hj => ?_) (fun q hq hne => (o3 q hne).trans ((o2 q (by omega) (by omega)).trans ((o1 q (by omega)).trans (i4 q hq hne)))) hS hl
    by_cases hjk : j < k
    · exact cn_kn (i3 j hjk) ((o3 _ (by omega)).trans ((o2 _ (by omega) (by omega)).trans (o1 _ (by omega))))
    · obtain rfl : j = k := by omega
      exact cn_kn m2 (o3 _ (by omega))

