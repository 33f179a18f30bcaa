theorem inI2_2 : ∀ w ∈ u_ws RX2 TX2 2, w ∈ wsX2_init := fun w h => List.mem_cons_of_mem _ (List.mem_append_left _ (List.mem_append_left _ (List.mem_append_left _ (List.mem_append_right _ h))))

theorem inI2_4 : ∀ w ∈ u_ws RX4 TX4 5, w ∈ wsX2_init := fun w h => List.mem_cons_of_mem _ (List.mem_append_left _ (List.mem_append_left _ (List.mem_append_right _ h)))

set_option maxHeartbeats 4000000 in
set_option maxRecDepth 100000 in
theorem cl2p {p : Program} {l : Launch} {e : Env} {s : State} {m : MethodId} {below : List Frame} {meth : Method} {c : Code} {args : Array Value} {Q : State → Prop} {D : va_G} {cA : Nat → ClassId} {A : Nat → Prop} {H0 Hs : Heap} {h0 : Nat} {fs : List Value} (B arr : Nat) (hC : cnC p D cA s m meth c cX2_init 2 RX2 wsX2_init args) (hfs : fs[0]? = some (.ref arr)) (he : va_at D vwCl (h0, .inr (2, fs)) Hs) (h0B : h0 < B) (h0a : h0 ≠ arr) (haB : arr < B) (hAa : A arr) (hAB : ∀ q, B ≤ q → A q) (hA : ∀ q, H0.size ≤ q → A q)
    (kk : ∀ H locs ls, H.size = B + 17 * 8 → va_at D vwCl (arr, .inl (cA 5, 8, jR (fun d => if d < 8 then some (B + 17 * d) else none))) H → (∀ j, j < 8 → va_at D vwCl (B + 17 * j, cp_e4 (B + 17 * j + 1)) H ∧ ∀ i, i < 16 → va_at D vwCl (B + 17 * j + 1 + i, cp_f4 cA (B + 17 * j + 1) i) H) → (∀ q, q < B → q ≠ arr → H[q]? = Hs[q]?) → va_S A H0 H locs → lv_has ls 2 [(1, .int (nI 8)), (0, .ref h0)] → W p l e rmI2 s m args below meth c H locs (1 + 17 * 8) (8 + 83 * 8) Q (F0 m 40 ls [])) : ∀ f k, k + f = 8 → ∀ H locs ls, H.size = B + 17 * k → va_at D vwCl (arr, .inl (cA 5, 8, jR (fun d => if d < k then some (B + 17 * d) else none))) H → (∀ j, j < k → va_at D vwCl (B + 17 * j, cp_e4 (B + 17 * j + 1)) H ∧ ∀ i, i < 16 → va_at D vwCl (B + 17 * j + 1 + i, cp_f4 cA (B + 17 * j + 1) i) H) → (∀ q, q < B → q ≠ arr → H[q]? = Hs[q]?) → va_S A H0 H locs → lv_has ls 2 [(1, .int (nI k)), (0, .ref h0)] → W p l e rmI2 s m args below meth c H locs (1 + 17 * k) (8 + 83 * k) Q (F0 m 15 ls []) := by
  obtain ⟨hx, hb, hr, hml, hown, hts, hlocks, hin, hP⟩ := id hC
  intro f
  induction f with
  | zero =>
    intro k hk H locs ls i1 i2 i3 i4 hS hl
    refine lv_iload_n hx hb dX2_init_15 rfl (lv_at hl 0 rfl) ?_
    refine lv_bipush (v := nI 8) hx hb dX2_init_16 (by decide) ?_
    obtain rfl : k = 8 := by omega
    exact jn_icmp_ge (tgt := 40) hx hb dX2_init_18 (by decide) (by decide) (by decide) (fun _ => kk H locs ls i1 i2 i3 i4 hS hl) (fun q => absurd q (by omega))
  | succ f ih =>
    intro k hk H locs ls i1 i2 i3 i4 hS hl
    refine lv_iload_n hx hb dX2_init_15 rfl (lv_at hl 0 rfl) ?_
    refine lv_bipush (v := nI 8) hx hb dX2_init_16 (by decide) ?_
    refine jn_icmp_ge (tgt := 40) hx hb dX2_init_18 (by decide) (by omega) (by decide) (fun q => absurd q (by omega)) (fun _ => ?_)
    refine lv_aload_n hx hb dX2_init_21 rfl (lv_at hl 1 rfl) ?_
    refine cn_get (T := TX2) 0 hC inI2_2 (List.mem_of_getElem? (i := 5) rfl) dX2_init_22 (cn_kn he (i4 _ h0B h0a)) rfl (by decide) hfs ?_
    refine lv_iload_n hx hb dX2_init_25 rfl (lv_at hl 0 rfl) ?_
    refine cn_new (C := RX4) (T := TX4) (N := 5) (ci := 4) hC inI2_4 tyX4_ok (List.mem_of_getElem? (i := 4) rfl) (List.mem_of_getElem? (i := 6) rfl) (List.mem_of_getElem? (i := 7) rfl) rfl [.null, .null, .int 0, .int 0, .int 0] (fun j hj => by rcases (show j = 0 ∨ j = 1 ∨ j = 2 ∨ j = 3 ∨ j = 4 by omega) with rfl | rfl | rfl | rfl | rfl <;> rfl) (show _ ≤ 137 by omega) (show _ ≤ 672 by omega) dX2_init_26 i1 hS (fun H1 n1 n2 o1 hS => ?_)
    refine lv_dup hx hb dX2_init_29 rfl ?_
    refine cn_callI hC hl.1 (ciX4 l D cA (B + 17 * k) (B + 17 * k + 1)) (cwI 0 hts ggX2_init_X4_init rfl rfl rfl (hts _ (List.mem_of_getElem? (i := 7) rfl)) (hts _ (List.mem_of_getElem? (i := 8) rfl)) (hts _ (List.mem_of_getElem? (i := 9) rfl)) rfl (by decide +kernel) ⟨by decide, by decide⟩) rfl rfl (Nat.le_of_ble_eq_true rfl) dX2_init_30 ⟨show _ + 16 ≤ 137 by omega, show _ + 78 ≤ 672 by omega⟩ n1 hS hA (hAB _ (by omega)) n2 (fun H2 locs2 m1 m2 m3 o2 hS => ?_)
    refine cn_astq (r := (RX4, TX4, 5)) (t0 := 5) (j := k) hC (cn_kn i2 ((o2 _ (by omega) (by omega)).trans (o1 _ (by omega)))) rfl m2 rfl (by omega) (by decide) dX2_init_33 hS hAa (fun H3 locs3 u1 u2 o3 hS => ?_)
    rw [cn_fn] at u1
    refine lv_iinc (v := nI (k + 1)) (lv' := [(1, .int (nI (k + 1))), (0, .ref h0)]) hx hb dX2_init_34 hl (k := 0) rfl (jn_inc _ 1) (by decide) rfl (fun ls hl => ?_)
    refine lv_goto (tgt := 15) hx hb dX2_init_37 (by decide) ?_
    refine W.widen (k := 1 + 17 * (k + 1)) (n := 8 + 83 * (k + 1)) (by show _ + 16 ≤ _; omega) (by show _ + 78 ≤ _; omega) ?_
    refine ih (k + 1) (by omega) H3 locs3 ls (by omega) u1 (fun j hj => ?_) (fun q hq hne => (o3 q hne).trans ((o2 q (by omega) (by omega)).trans ((o1 q (by omega)).trans (i4 q hq hne)))) hS hl
    by_cases hjk : j < k
    · exact ⟨cn_kn (i3 j hjk).1 ((o3 _ (by omega)).trans ((o2 _ (by omega) (by omega)).trans (o1 _ (by omega)))), fun i hi => cn_kn ((i3 j hjk).2 i hi) ((o3 _ (by omega)).trans ((o2 _ (by omega) (by omega)).trans (o1 _ (by omega))))⟩
    · obtain rfl : j = k := by omega
      exact ⟨cn_kn m2 (o3 _ (by omega)), fun i hi => cn_kn (m3 i hi) (o3 _ (by omega))⟩

set_option maxHeartbeats 4000000 in
set_option maxRecDepth 100000 in
theorem ciX2 (l : Launch) (D : va_G) (cA : Nat → ClassId) (h0 sz : Nat) : cnM l D cA yX2_init wsX2_init rmI2 h0 sz [] (.inr (2, [.null, .int 0])) (cp_e2 (sz)) 137 (cp_f2 cA (sz)) := by
  refine cnM_of (cc := cX2_init) (maxL := 2) (lv0 := [(0, .ref h0)]) (by decide) rfl rfl (by show _ ≤ 2; exact Nat.le_of_ble_eq_true rfl) rfl ?_
  intro p e s m below meth c ls hC hsz hE hl
  obtain ⟨hx, hb, hr, hml, hown, hts, hlocks, hin, hP⟩ := id hC
  have hA : ∀ q, s.heap.size ≤ q → cnA h0 sz q := fun q h => Or.inr (by omega)
  have hlt : h0 < sz := by have h := hE.lt; dsimp only at h; omega
  have hS : va_S (cnA h0 sz) s.heap s.heap [] := va_S.rf
  have hz : s.heap.size = sz + 0 := hsz
  refine lv_aload_n hx hb dX2_init_0 rfl (lv_at hl 0 rfl) ?_
  refine cn_obj hC hl.1 (List.mem_of_getElem? (i := 1) rfl) (List.mem_of_getElem? (i := 2) rfl) (List.mem_of_getElem? (i := 3) rfl) dX2_init_1 (by decide) (by decide) ?_
  refine lv_aload_n hx hb dX2_init_4 rfl (lv_at hl 0 rfl) ?_
  refine lv_bipush (v := nI 8) hx hb dX2_init_5 (by decide) ?_
  refine cn_newq (C := RX4) (t0 := 5) (N' := 8) hC (List.mem_of_getElem? (i := 4) rfl) (List.mem_of_getElem? (i := 2) rfl) rfl (by decide) (by decide) (by decide) (Nat.le_of_ble_eq_true rfl) (Nat.le_of_ble_eq_true rfl) dX2_init_7 hz hS (fun H hc1 hz2 o hS => ?_)
  have hE := cn_kn hE (o _ (by omega))
  have hz : H.size = sz + 1 := by omega
  refine cn_put (T := TX2) (ci := 2) (v := .ref (sz + 0)) 0 hC inI2_2 tyX2_ok nmX2 (List.mem_of_getElem? (i := 5) rfl) dX2_init_10 hE rfl (by decide) rfl (tyX2_ok 0 (by decide)) rfl rfl (Nat.le_of_ble_eq_true rfl) hS (Or.inl rfl) (fun H locs hE hz2 o hS => ?_)
  have hc1 := cn_kn hc1 (o _ (by omega))
  have hE : va_at D vwCl (h0, .inr (2, [.ref (sz + 0), .int 0])) H := hE
  have hz : H.size = sz + 1 := by omega
  refine lv_iconst (v := nI 0) hx hb dX2_init_13 (by decide) ?_
  refine lv_istore_n (lv' := [(1, .int (nI 0)), (0, .ref h0)]) hx hb dX2_init_14 rfl hl (by decide) rfl (fun ls hl => ?_)
  refine cl2p (sz + 1) (sz + 0) hC rfl hE (by omega) (by omega) (by omega) (Or.inr (by omega)) (fun q h => Or.inr (by omega)) hA (fun H2 locs ls k1 k2 k3 k4 hS hl => ?_) 8 0 rfl H locs ls (by omega) (cn_arr hc1 (fun d _ => (if_neg (Nat.not_lt_zero _)).symm)) (fun j hj => absurd hj (by omega)) (fun q _ _ => rfl) hS hl
  have hE := cn_kn hE (k4 _ (by omega) (by omega))
  have k2 := cn_arr k2 (g := fun d => some (sz + 1 + 17 * d)) (fun d hd => if_pos hd)
  refine cn_ret hC hS (by omega) hE (fun i hi => ?_) dX2_init_40
  unfold cp_f2
  by_cases i0 : i = 0
  · subst i0; exact k2
  · rw [if_neg i0]
    have hj := k3 ((i - 1) / 17) (by omega)
    by_cases i1 : (i - 1) % 17 = 0
    · rw [if_pos i1]; exact cn_ad hj.1 (by omega)
    · rw [if_neg i1]; exact cn_ad (hj.2 ((i - 1) % 17 - 1) (by omega)) (by omega)

