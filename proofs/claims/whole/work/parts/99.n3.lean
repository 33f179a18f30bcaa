/-! which place is made as which cell -/
def cp_po (p : Nat) : Nat := if p < 3 then 1 + 155 * p else if p < 11 then 20 + 17 * (p - 3) else 175 + 17 * (p - 11)
def cp_off (x : jP) : Nat := match x with
  | (0, _, _) => 0
  | (1, p, _) => cp_po p
  | (2, p, _) => cp_po p + 1
  | (3, p, _) => cp_po p + 2
  | (4, p, d) => cp_po p + 3 + d
  | (5, p, m) => if p = 19 then 331 else if p = 20 then 339 else cp_po p + 13 + m
  | (7, h, _) => 18 + 155 * h
  | (8, h, _) => 19 + 155 * h
  | (9, _, _) => 328
  | (10, _, _) => 329
  | (11, _, _) => 330
  | (14, _, _) => 340
  | (15, s, _) => 341 + 2 * s
  | (20, _, _) => 349
  | (21, k, _) => if k < 41 then 305 + k else if k < 48 then 309 + k else if k < 52 then 311 + k else 313 + k
  | (22, k, _) => if k < 2 then 337 + k else if k < 10 then 342 + 2 * (k - 2) else if k < 12 then 347 + k else 351 + k
  | _ => 0
def cp_prPl (p i : Nat) : jP := if i = 0 then (1, p, 0) else if i = 1 then (2, p, 0) else if i = 2 then (3, p, 0) else if i < 13 then (4, p, i - 3) else (5, p, i - 13)
def cp_prL (p : Nat) : List jP := (List.range 17).map (cp_prPl p)
def cp_htL (h : Nat) : List jP := [(7, h, 0), (8, h, 0)] ++ (List.range 8).flatMap (fun j => cp_prL (3 + 8 * h + j))
def cp_plL : List jP := [(0, 0, 0)] ++ cp_prL 0 ++ cp_htL 0 ++ cp_prL 1 ++ cp_htL 1 ++ cp_prL 2 ++ [(9, 0, 0), (10, 0, 0), (11, 0, 0), (5, 19, 0), (21, 27, 0), (21, 28, 0), (21, 29, 0), (21, 30, 0), (21, 31, 0), (22, 0, 0), (22, 1, 0), (5, 20, 0), (14, 0, 0), (15, 0, 0), (22, 2, 0), (15, 1, 0), (22, 3, 0), (15, 2, 0), (22, 4, 0), (15, 3, 0), (22, 5, 0), (20, 0, 0), (21, 41, 0), (21, 42, 0), (21, 43, 0), (21, 44, 0), (21, 45, 0), (21, 46, 0), (21, 47, 0), (22, 10, 0), (22, 11, 0), (21, 48, 0), (21, 49, 0), (21, 50, 0), (21, 51, 0), (22, 12, 0), (22, 13, 0), (21, 52, 0), (21, 53, 0)]
def cp_pl (i : Nat) : jP := cp_plL.getD i (0, 0, 0)
theorem cp_plL_len : cp_plL.length = 367 := by decide +kernel
theorem cp_pl_off : ∀ i, i < 367 → cp_off (cp_pl i) = i ∧ (cp_pl i).1 < 30 := by decide +kernel
theorem cp_plP : ∀ p, p < 19 → ∀ i, i < 17 → cp_pl (cp_po p + i) = cp_prPl p i := by decide +kernel
theorem cp_plH : ∀ h, h < 2 → cp_pl (18 + 155 * h) = (7, h, 0) ∧ cp_pl (19 + 155 * h) = (8, h, 0) := by decide +kernel
def cp_I0 : Nat → Nat → Int32 := fun r j => if j = 67 ∧ (r < 19 ∨ r = 41) then nI 1 else if r = 50 ∧ j < 4 then -4 else 0
theorem cp_I0z {r d : Nat} (h1 : ¬ (r < 19 ∨ r = 41)) (h2 : r ≠ 50) : (0 : Int32) = cp_I0 r d := by unfold cp_I0; rw [if_neg (fun q => h1 q.2), if_neg (fun q => h2 q.1)]
theorem cp_I0n {d : Nat} : (if d = 67 then nI 1 else 0) = cp_I0 41 d := by
  unfold cp_I0
  by_cases c : d = 67
  · rw [if_pos c, if_pos ⟨c, Or.inr rfl⟩]
  · rw [if_neg c, if_neg (fun q => c q.1), if_neg (fun q => absurd q.1 (by decide))]
def cp_J0 : Nat → Nat → Int64 := fun _ _ => 0
def cp_O0 : Nat → Nat → Nat := fun h j => 3 + 8 * h + j
def cp_st0 : jS := (cp_I0, cp_J0, cp_O0)
def cp_adH (tx : jP → Nat) (h0 : Nat) (x : jP) : Nat := if x.1 < 30 then h0 + cp_off x else tx x
section PL
variable {D : va_G} {cA : Nat → ClassId} {tx : jP → Nat} {h0 : Nat} {H : Heap}
theorem cp_pr_at {p : Nat} (hp : p < 19) (h : va_at D vwCl (h0 + cp_po p, cp_e4 (h0 + cp_po p + 1)) H) (h2 : ∀ i, i < 16 → va_at D vwCl (h0 + cp_po p + 1 + i, cp_f4 cA (h0 + cp_po p + 1) i) H) : ∀ k, cp_po p ≤ k → k < cp_po p + 17 → va_at D vwCl (h0 + k, jw cA (cp_adH tx h0) cp_st0 (cp_pl k)) H := by
  intro k hk1 hk2
  obtain ⟨i, rfl⟩ : ∃ i, k = cp_po p + i := ⟨k - cp_po p, by omega⟩
  rw [cp_plP p hp i (by omega)]
  have hI : ∀ j, j ≠ 67 → cp_I0 p j = 0 := fun j hj => by unfold cp_I0; rw [if_neg (fun q => hj q.1), if_neg (fun q => by omega)]
  have h67 : cp_I0 p 67 = nI 1 := if_pos ⟨rfl, Or.inl hp⟩
  unfold cp_prPl
  by_cases i0 : i = 0
  · subst i0
    rw [if_pos rfl]
    have e : jw cA (cp_adH tx h0) cp_st0 (1, p, 0) = cp_e4 (h0 + cp_po p + 1) := by
      show (Sum.inr (4, [Value.ref (h0 + (cp_po p + 1)), Value.ref (h0 + (cp_po p + 2)), Value.int (cp_I0 p 0), Value.int (cp_I0 p 1), Value.int (cp_I0 p 67)]) : va_E) = _
      rw [hI 0 (by decide), hI 1 (by decide), h67]
      rfl
    rw [e]
    exact cn_ad h (by omega)
  · rw [if_neg i0]
    by_cases i1 : i = 1
    · subst i1
      rw [if_pos rfl]
      show va_at D vwCl (h0 + (cp_po p + 1), .inl (cA 3, 10, jR (fun d => some (h0 + (cp_po p + 3 + d))))) H
      refine cn_ad (cn_arr (f := fun d => some (h0 + cp_po p + 1 + 2 + 1 * d)) (h2 0 (by decide)) (fun d _ => ?_)) (by omega)
      show some _ = some _
      congr 1
      omega
    · rw [if_neg i1]
      by_cases i2 : i = 2
      · subst i2
        rw [if_pos rfl]
        show va_at D vwCl (h0 + (cp_po p + 2), .inl (cA 4, 4, jR (fun d => some (h0 + (if p = 19 then 331 else if p = 20 then 339 else cp_po p + 13 + d))))) H
        refine cn_ad (cn_arr (f := fun d => some (h0 + cp_po p + 1 + 12 + 1 * d)) (h2 1 (by decide)) (fun d _ => ?_)) (by omega)
        show some _ = some _
        rw [if_neg (by omega), if_neg (by omega)]
        congr 1
        omega
      · rw [if_neg i2]
        have q := h2 (i - 1) (by omega)
        unfold cp_f4 at q
        rw [if_neg (by omega), if_neg (by omega)] at q
        by_cases i3 : i < 13
        · rw [if_pos i3]
          rw [if_pos (by omega)] at q
          have e : jw cA (cp_adH tx h0) cp_st0 (4, p, i - 3) = .inr (0, [.int 0, .int 0, .int 0, .int 0]) := by
            show (Sum.inr (0, [Value.int (cp_I0 p (11 + (i - 3))), Value.int (cp_I0 p (21 + (i - 3))), Value.int (cp_I0 p (31 + (i - 3))), Value.int (cp_I0 p (41 + (i - 3)))]) : va_E) = _
            rw [hI _ (by omega), hI _ (by omega), hI _ (by omega), hI _ (by omega)]
          rw [e]
          exact cn_ad q (by omega)
        · rw [if_neg i3]
          rw [if_neg (by omega)] at q
          have e : jw cA (cp_adH tx h0) cp_st0 (5, p, i - 13) = .inr (3, [.int 0, .int 0, .int 0, .int 0, .int 0, .int 0]) := by
            show (Sum.inr (3, [Value.int (cp_I0 p (3 + (i - 13))), Value.int (cp_I0 p (63 + (i - 13))), Value.int (cp_I0 p (7 + (i - 13))), Value.int (cp_I0 p (51 + (i - 13))), Value.int (cp_I0 p (55 + (i - 13))), Value.int (cp_I0 p (59 + (i - 13)))]) : va_E) = _
            rw [hI _ (by omega), hI _ (by omega), hI _ (by omega), hI _ (by omega), hI _ (by omega), hI _ (by omega)]
          rw [e]
          exact cn_ad q (by omega)
theorem cp_po_h {h j : Nat} (hh : h < 2) (hj : j < 8) : cp_po (3 + 8 * h + j) = 20 + 155 * h + 17 * j := by
  unfold cp_po
  rw [if_neg (by omega)]
  rcases (show h = 0 ∨ h = 1 by omega) with rfl | rfl
  · rw [if_pos (by omega)]; omega
  · rw [if_neg (by omega)]; omega
theorem cp_ht_at {h : Nat} (hh : h < 2) (a : va_at D vwCl (h0 + (18 + 155 * h), cp_e2 (h0 + (18 + 155 * h) + 1)) H) (h2 : ∀ i, i < 137 → va_at D vwCl (h0 + (18 + 155 * h) + 1 + i, cp_f2 cA (h0 + (18 + 155 * h) + 1) i) H) : ∀ k, 18 + 155 * h ≤ k → k < 18 + 155 * h + 138 → va_at D vwCl (h0 + k, jw cA (cp_adH tx h0) cp_st0 (cp_pl k)) H := by
  intro k hk1 hk2
  by_cases i0 : k = 18 + 155 * h
  · subst i0
    rw [(cp_plH h hh).1]
    have e : jw cA (cp_adH tx h0) cp_st0 (7, h, 0) = cp_e2 (h0 + (18 + 155 * h) + 1) := by
      show (Sum.inr (2, [Value.ref (h0 + (19 + 155 * h)), Value.int (cp_I0 21 h)]) : va_E) = _
      have hI : cp_I0 21 h = 0 := by unfold cp_I0; rw [if_neg (fun q => by omega), if_neg (fun q => by omega)]
      rw [hI]
      unfold cp_e2
      rw [show h0 + (19 + 155 * h) = h0 + (18 + 155 * h) + 1 + 0 by omega]
    rw [e]
    exact a
  · by_cases i1 : k = 19 + 155 * h
    · subst i1
      rw [(cp_plH h hh).2]
      show va_at D vwCl (h0 + (19 + 155 * h), .inl (cA 5, 8, jR (fun j => some (h0 + cp_po (3 + 8 * h + j))))) H
      refine cn_ad (cn_arr (f := fun d => some (h0 + (18 + 155 * h) + 1 + 1 + 17 * d)) (h2 0 (by decide)) (fun d hd => ?_)) (by omega)
      show some _ = some _
      rw [cp_po_h hh hd]
      congr 1
      omega
    · have hj : (k - (20 + 155 * h)) / 17 < 8 := by omega
      have hpo := cp_po_h hh hj
      generalize hjj : (k - (20 + 155 * h)) / 17 = j at hj hpo
      refine cp_pr_at (p := 3 + 8 * h + j) (by omega) ?_ ?_ k (by omega) (by omega)
      · have q := h2 (1 + 17 * j) (by omega)
        unfold cp_f2 at q
        rw [if_neg (by omega), if_pos (by omega), show (1 + 17 * j - 1) / 17 = j by omega] at q
        rw [hpo]
        rw [show h0 + (20 + 155 * h + 17 * j) + 1 = h0 + (18 + 155 * h) + 1 + 1 + 17 * j + 1 by omega]
        exact cn_ad q (by omega)
      · intro i hi
        have q := h2 (2 + 17 * j + i) (by omega)
        unfold cp_f2 at q
        rw [if_neg (by omega), if_neg (by omega), show (2 + 17 * j + i - 1) / 17 = j by omega, show (2 + 17 * j + i - 1) % 17 - 1 = i by omega] at q
        rw [hpo]
        rw [show h0 + (20 + 155 * h + 17 * j) + 1 = h0 + (18 + 155 * h) + 1 + 1 + 17 * j + 1 by omega]
        exact cn_ad q (by omega)
end PL

abbrev rmI7 : Room := { frames := 4, cells := 348, slots := 3925, locals := 74 }

theorem inI7_4 : ∀ w ∈ u_ws RX4 TX4 5, w ∈ wsX7_init := fun w h => List.mem_cons_of_mem _ (List.mem_append_left _ (List.mem_append_left _ (List.mem_append_left _ (List.mem_append_left _ (List.mem_append_left _ (List.mem_append_left _ (List.mem_append_left _ (List.mem_append_right _ h))))))))

theorem inI7_7 : ∀ w ∈ u_ws RX7 TX7 10, w ∈ wsX7_init := fun w h => List.mem_cons_of_mem _ (List.mem_append_left _ (List.mem_append_left _ (List.mem_append_left _ (List.mem_append_left _ (List.mem_append_left _ (List.mem_append_left _ (List.mem_append_right _ h)))))))

theorem inI7_2 : ∀ w ∈ u_ws RX2 TX2 2, w ∈ wsX7_init := fun w h => List.mem_cons_of_mem _ (List.mem_append_left _ (List.mem_append_left _ (List.mem_append_left _ (List.mem_append_left _ (List.mem_append_left _ (List.mem_append_right _ h))))))

theorem inI7_6 : ∀ w ∈ u_ws RX6 TX6 4, w ∈ wsX7_init := fun w h => List.mem_cons_of_mem _ (List.mem_append_left _ (List.mem_append_left _ (List.mem_append_left _ (List.mem_append_left _ (List.mem_append_right _ h)))))

theorem inI7_1 : ∀ w ∈ u_ws RX1 TX1 10, w ∈ wsX7_init := fun w h => List.mem_cons_of_mem _ (List.mem_append_left _ (List.mem_append_left _ (List.mem_append_left _ (List.mem_append_right _ h))))

theorem inI7_3 : ∀ w ∈ u_ws RX3 TX3 6, w ∈ wsX7_init := fun w h => List.mem_cons_of_mem _ (List.mem_append_left _ (List.mem_append_left _ (List.mem_append_right _ h)))

theorem inI7_5 : ∀ w ∈ u_ws RX5 TX5 4, w ∈ wsX7_init := fun w h => List.mem_cons_of_mem _ (List.mem_append_left _ (List.mem_append_right _ h))

set_option maxHeartbeats 4000000 in
set_option maxRecDepth 100000 in
theorem cl7s {p : Program} {l : Launch} {e : Env} {s : State} {m : MethodId} {below : List Frame} {meth : Method} {c : Code} {args : Array Value} {Q : State → Prop} {D : va_G} {cA : Nat → ClassId} {A : Nat → Prop} {H0 Hs : Heap} {h0 : Nat} {fs : List Value} (B arr : Nat) (hC : cnC p D cA s m meth c cX7_init 2 RX7 wsX7_init args) (hfs : fs[9]? = some (.ref arr)) (he : va_at D vwCl (h0, .inr (7, fs)) Hs) (h0B : h0 < B) (h0a : h0 ≠ arr) (haB : arr < B) (hAa : A arr) (hAB : ∀ q, B ≤ q → A q) (hA : ∀ q, H0.size ≤ q → A q)
    (kk : ∀ H locs ls, H.size = B + 2 * 4 → va_at D vwCl (arr, .inl (cA 6, 4, jR (fun d => if d < 4 then some (B + 2 * d) else none))) H → (∀ j, j < 4 → va_at D vwCl (B + 2 * j, cp_e5 (B + 2 * j + 1)) H ∧ ∀ i, i < 1 → va_at D vwCl (B + 2 * j + 1 + i, cp_f5 cA (B + 2 * j + 1) i) H) → (∀ q, q < B → q ≠ arr → H[q]? = Hs[q]?) → va_S A H0 H locs → lv_has ls 2 [(1, .int (nI 4)), (0, .ref h0)] → W p l e rmI7 s m args below meth c H locs (340 + 2 * 4) (3813 + 28 * 4) Q (F0 m 130 ls [])) : ∀ f k, k + f = 4 → ∀ H locs ls, H.size = B + 2 * k → va_at D vwCl (arr, .inl (cA 6, 4, jR (fun d => if d < k then some (B + 2 * d) else none))) H → (∀ j, j < k → va_at D vwCl (B + 2 * j, cp_e5 (B + 2 * j + 1)) H ∧ ∀ i, i < 1 → va_at D vwCl (B + 2 * j + 1 + i, cp_f5 cA (B + 2 * j + 1) i) H) → (∀ q, q < B → q ≠ arr → H[q]? = Hs[q]?) → va_S A H0 H locs → lv_has ls 2 [(1, .int (nI k)), (0, .ref h0)] → W p l e rmI7 s m args below meth c H locs (340 + 2 * k) (3813 + 28 * k) Q (F0 m 106 ls []) := by
  obtain ⟨hx, hb, hr, hml, hown, hts, hlocks, hin, hP⟩ := id hC
  intro f
  induction f with
  | zero =>
    intro k hk H locs ls i1 i2 i3 i4 hS hl
    refine lv_iload_n hx hb dX7_init_106 rfl (lv_at hl 0 rfl) ?_
    refine lv_iconst (v := nI 4) hx hb dX7_init_107 (by decide) ?_
    obtain rfl : k = 4 := by omega
    exact jn_icmp_ge (tgt := 130) hx hb dX7_init_108 (by decide) (by decide) (by decide) (fun _ => kk H locs ls i1 i2 i3 i4 hS hl) (fun q => absurd q (by omega))
  | succ f ih =>
    intro k hk H locs ls i1 i2 i3 i4 hS hl
    refine lv_iload_n hx hb dX7_init_106 rfl (lv_at hl 0 rfl) ?_
    refine lv_iconst (v := nI 4) hx hb dX7_init_107 (by decide) ?_
    refine jn_icmp_ge (tgt := 130) hx hb dX7_init_108 (by decide) (by omega) (by decide) (fun q => absurd q (by omega)) (fun _ => ?_)
    refine lv_aload_n hx hb dX7_init_111 rfl (lv_at hl 1 rfl) ?_
    refine cn_get (T := TX7) 9 hC inI7_7 (List.mem_of_getElem? (i := 28) rfl) dX7_init_112 (cn_kn he (i4 _ h0B h0a)) rfl (by decide) hfs ?_
    refine lv_iload_n hx hb dX7_init_115 rfl (lv_at hl 0 rfl) ?_
    refine cn_new (C := RX5) (T := TX5) (N := 4) (ci := 5) hC inI7_5 tyX5_ok (List.mem_of_getElem? (i := 27) rfl) (List.mem_of_getElem? (i := 29) rfl) (List.mem_of_getElem? (i := 30) rfl) rfl [.null, .int 0, .int 0, .int 0] (fun j hj => by rcases (show j = 0 ∨ j = 1 ∨ j = 2 ∨ j = 3 by omega) with rfl | rfl | rfl | rfl <;> rfl) (show _ ≤ 348 by omega) (show _ ≤ 3925 by omega) dX7_init_116 i1 hS (fun H1 n1 n2 o1 hS => ?_)
    refine lv_dup hx hb dX7_init_119 rfl ?_
    refine cn_callN (host := "RiddlePrison") hC hl.1 (ciX5 l D cA (B + 2 * k) (B + 2 * k + 1)) ⟨va_cnB 0 hts ggX7_init_X5_init rfl rfl rfl (hP.2.2 _ (List.mem_of_getElem? (i := 2) rfl)) (hts _ (List.mem_of_getElem? (i := 30) rfl)) (by decide +kernel) ⟨by decide, by decide⟩, rfl, hts _ (List.mem_of_getElem? (i := 76) rfl)⟩ rfl rfl (Nat.le_of_ble_eq_true rfl) dX7_init_120 ⟨show _ + 1 ≤ 348 by omega, show _ + 24 ≤ 3925 by omega⟩ n1 hS hA (hAB _ (by omega)) n2 (fun H2 locs2 m1 m2 m3 o2 hS => ?_)
    refine cn_astq (r := (RX5, TX5, 4)) (t0 := 6) (j := k) hC (cn_kn i2 ((o2 _ (by omega) (by omega)).trans (o1 _ (by omega)))) rfl m2 rfl (by omega) (by decide) dX7_init_123 hS hAa (fun H3 locs3 u1 u2 o3 hS => ?_)
    rw [cn_fn] at u1
    refine lv_iinc (v := nI (k + 1)) (lv' := [(1, .int (nI (k + 1))), (0, .ref h0)]) hx hb dX7_init_124 hl (k := 0) rfl (jn_inc _ 1) (by decide) rfl (fun ls hl => ?_)
    refine lv_goto (tgt := 106) hx hb dX7_init_127 (by decide) ?_
    refine W.widen (k := 340 + 2 * (k + 1)) (n := 3813 + 28 * (k + 1)) (by show _ + 1 ≤ _; omega) (by show _ + 24 ≤ _; omega) ?_
    refine ih (k + 1) (by omega) H3 locs3 ls (by omega) u1 (fun j hj => ?_) (fun q hq hne => (o3 q hne).trans ((o2 q (by omega) (by omega)).trans ((o1 q (by omega)).trans (i4 q hq hne)))) hS hl
    by_cases hjk : j < k
    · exact ⟨cn_kn (i3 j hjk).1 ((o3 _ (by omega)).trans ((o2 _ (by omega) (by omega)).trans (o1 _ (by omega)))), fun i hi => cn_kn ((i3 j hjk).2 i hi) ((o3 _ (by omega)).trans ((o2 _ (by omega) (by omega)).trans (o1 _ (by omega))))⟩
    · obtain rfl : j = k := by omega
      exact ⟨cn_kn m2 (o3 _ (by omega)), fun i hi => cn_kn (m3 i hi) (o3 _ (by omega))⟩

section X7
variable {D : va_G} {cA : Nat → ClassId} {tx : jP → Nat} {h0 sz : Nat} {H : Heap}
theorem cp_pr_mk {z : Nat} (p : Nat) (hs : sz = h0 + 1) (hp : p < 19) (hz : cp_po p = z + 1) (m2 : va_at D vwCl (sz + z, cp_e4 (sz + (z + 1))) H) (m3 : ∀ i, i < 16 → va_at D vwCl (sz + (z + 1) + i, cp_f4 cA (sz + (z + 1)) i) H) : ∀ i, z ≤ i → i < z + 17 → va_at D vwCl (sz + i, jw cA (cp_adH tx h0) cp_st0 (cp_pl (i + 1))) H := by
  subst hs
  have e : h0 + cp_po p + 1 = h0 + 1 + (z + 1) := by omega
  intro i h1 h2
  exact cn_ad (cp_pr_at hp (by rw [e]; exact cn_ad m2 (by omega)) (fun j hj => by rw [e]; exact m3 j hj) (i + 1) (by omega) (by omega)) (by omega)
theorem cp_ht_mk {z : Nat} (h : Nat) (hs : sz = h0 + 1) (hh : h < 2) (hz : 18 + 155 * h = z + 1) (m2 : va_at D vwCl (sz + z, cp_e2 (sz + (z + 1))) H) (m3 : ∀ i, i < 137 → va_at D vwCl (sz + (z + 1) + i, cp_f2 cA (sz + (z + 1)) i) H) : ∀ i, z ≤ i → i < z + 138 → va_at D vwCl (sz + i, jw cA (cp_adH tx h0) cp_st0 (cp_pl (i + 1))) H := by
  subst hs
  have e : h0 + (18 + 155 * h) + 1 = h0 + 1 + (z + 1) := by omega
  intro i h1 h2
  exact cn_ad (cp_ht_at hh (by rw [e]; exact cn_ad m2 (by omega)) (fun j hj => by rw [e]; exact m3 j hj) (i + 1) (by omega) (by omega)) (by omega)
theorem cp_tp_mk (hs : sz = h0 + 1) (m2 : va_at D vwCl (sz + 327, cp_e6 (sz + 328)) H) (m3 : ∀ i, i < 1 → va_at D vwCl (sz + 328 + i, cp_f6 cA (sz + 328) i) H) : ∀ i, 327 ≤ i → i < 327 + 2 → va_at D vwCl (sz + i, jw cA (cp_adH tx h0) cp_st0 (cp_pl (i + 1))) H := by
  subst hs
  intro i h1 h2
  rcases (show i = 327 ∨ i = 328 by omega) with rfl | rfl
  · rw [show cp_pl (327 + 1) = (9, 0, 0) from by decide +kernel]
    exact m2
  · rw [show cp_pl (328 + 1) = (10, 0, 0) from by decide +kernel]
    exact cn_ad (cn_arrI (m3 0 (by decide)) (g := cp_I0 22) (fun d _ => cp_I0z (r := 22) (by decide) (by decide))) (by omega)
theorem cp_fs_mk (hs : sz = h0 + 1) (m2 : va_at D vwCl (sz + 329, cp_e1I (sz + 0) (sz + 330)) H) (m3 : ∀ i, i < 8 → va_at D vwCl (sz + 330 + i, cp_f1 cA (sz + 330) i) H) : ∀ i, 329 ≤ i → i < 329 + 9 → va_at D vwCl (sz + i, jw cA (cp_adH tx h0) cp_st0 (cp_pl (i + 1))) H := by
  subst hs
  intro i h1 h2
  rcases (show i = 329 ∨ i = 330 ∨ i = 331 ∨ i = 332 ∨ i = 333 ∨ i = 334 ∨ i = 335 ∨ i = 336 ∨ i = 337 by omega) with rfl | rfl | rfl | rfl | rfl | rfl | rfl | rfl | rfl
  · rw [show cp_pl (329 + 1) = (11, 0, 0) from by decide +kernel]
    exact m2
  · rw [show cp_pl (330 + 1) = (5, 19, 0) from by decide +kernel]
    exact m3 0 (by decide)
  · rw [show cp_pl (331 + 1) = (21, 27, 0) from by decide +kernel]
    exact cn_ad (cn_arrI (m3 1 (by decide)) (g := cp_I0 27) (fun d _ => cp_I0z (r := 27) (by decide) (by decide))) (by omega)
  · rw [show cp_pl (332 + 1) = (21, 28, 0) from by decide +kernel]
    exact cn_ad (cn_arrI (m3 2 (by decide)) (g := cp_I0 28) (fun d _ => cp_I0z (r := 28) (by decide) (by decide))) (by omega)
  · rw [show cp_pl (333 + 1) = (21, 29, 0) from by decide +kernel]
    exact cn_ad (cn_arrI (m3 3 (by decide)) (g := cp_I0 29) (fun d _ => cp_I0z (r := 29) (by decide) (by decide))) (by omega)
  · rw [show cp_pl (334 + 1) = (21, 30, 0) from by decide +kernel]
    exact cn_ad (cn_arrI (m3 4 (by decide)) (g := cp_I0 30) (fun d _ => cp_I0z (r := 30) (by decide) (by decide))) (by omega)
  · rw [show cp_pl (335 + 1) = (21, 31, 0) from by decide +kernel]
    exact cn_ad (cn_arrI (m3 5 (by decide)) (g := cp_I0 31) (fun d _ => cp_I0z (r := 31) (by decide) (by decide))) (by omega)
  · rw [show cp_pl (336 + 1) = (22, 0, 0) from by decide +kernel]
    exact cn_ad (m3 6 (by decide)) (by omega)
  · rw [show cp_pl (337 + 1) = (22, 1, 0) from by decide +kernel]
    exact cn_ad (m3 7 (by decide)) (by omega)
theorem cp_tr_mk (hs : sz = h0 + 1) (m2 : va_at D vwCl (sz + 338, .inr (3, [.int 0, .int 0, .int 0, .int 0, .int 0, .int 0])) H) : ∀ i, 338 ≤ i → i < 338 + 1 → va_at D vwCl (sz + i, jw cA (cp_adH tx h0) cp_st0 (cp_pl (i + 1))) H := by
  subst hs
  intro i h1 h2
  obtain rfl : i = 338 := by omega
  rw [show cp_pl (338 + 1) = (5, 20, 0) from by decide +kernel]
  exact m2
theorem cp_sh_mk (hs : sz = h0 + 1) (k2 : va_at D vwCl (sz + 339, .inl (cA 6, 4, jR (fun d => some (sz + 340 + 2 * d)))) H) (k3 : ∀ j, j < 4 → va_at D vwCl (sz + 340 + 2 * j, cp_e5 (sz + 340 + 2 * j + 1)) H ∧ ∀ i, i < 1 → va_at D vwCl (sz + 340 + 2 * j + 1 + i, cp_f5 cA (sz + 340 + 2 * j + 1) i) H) : ∀ i, 339 ≤ i → i < 339 + 9 → va_at D vwCl (sz + i, jw cA (cp_adH tx h0) cp_st0 (cp_pl (i + 1))) H := by
  subst hs
  intro i h1 h2
  rcases (show i = 339 ∨ i = 340 ∨ i = 341 ∨ i = 342 ∨ i = 343 ∨ i = 344 ∨ i = 345 ∨ i = 346 ∨ i = 347 by omega) with rfl | rfl | rfl | rfl | rfl | rfl | rfl | rfl | rfl
  · rw [show cp_pl (339 + 1) = (14, 0, 0) from by decide +kernel]
    show va_at D vwCl (h0 + 1 + 339, .inl (cA 6, 4, jR (fun s => some (h0 + (341 + 2 * s))))) H
    exact cn_arr k2 (fun d _ => by show some _ = some _; congr 1; omega)
  · rw [show cp_pl (340 + 1) = (15, 0, 0) from by decide +kernel]
    exact cn_ad (k3 0 (by decide)).1 (by omega)
  · rw [show cp_pl (341 + 1) = (22, 2, 0) from by decide +kernel]
    exact cn_ad ((k3 0 (by decide)).2 0 (by decide)) (by omega)
  · rw [show cp_pl (342 + 1) = (15, 1, 0) from by decide +kernel]
    exact cn_ad (k3 1 (by decide)).1 (by omega)
  · rw [show cp_pl (343 + 1) = (22, 3, 0) from by decide +kernel]
    exact cn_ad ((k3 1 (by decide)).2 0 (by decide)) (by omega)
  · rw [show cp_pl (344 + 1) = (15, 2, 0) from by decide +kernel]
    exact cn_ad (k3 2 (by decide)).1 (by omega)
  · rw [show cp_pl (345 + 1) = (22, 4, 0) from by decide +kernel]
    exact cn_ad ((k3 2 (by decide)).2 0 (by decide)) (by omega)
  · rw [show cp_pl (346 + 1) = (15, 3, 0) from by decide +kernel]
    exact cn_ad (k3 3 (by decide)).1 (by omega)
  · rw [show cp_pl (347 + 1) = (22, 5, 0) from by decide +kernel]
    exact cn_ad ((k3 3 (by decide)).2 0 (by decide)) (by omega)
end X7

set_option maxHeartbeats 4000000 in
set_option maxRecDepth 100000 in
theorem ciX7 (l : Launch) (D : va_G) (cA : Nat → ClassId) (h0 sz : Nat) (tx : jP → Nat) (hs : sz = h0 + 1) : cnM l D cA yX7_init wsX7_init rmI7 h0 sz [] (.inr (7, [.null, .null, .null, .null, .int 0, .null, .null, .null, .null, .null])) (jw cA (cp_adH tx h0) cp_st0 (0, 0, 0)) 348 (fun i => jw cA (cp_adH tx h0) cp_st0 (cp_pl (i + 1))) := by
  refine cnM_of (cc := cX7_init) (maxL := 2) (lv0 := [(0, .ref h0)]) (by decide) rfl rfl (by show _ ≤ 2; exact Nat.le_of_ble_eq_true rfl) rfl ?_
  intro p e s m below meth c ls hC hsz hE hl
  obtain ⟨hx, hb, hr, hml, hown, hts, hlocks, hin, hP⟩ := id hC
  have hA : ∀ q, s.heap.size ≤ q → cnA h0 sz q := fun q h => Or.inr (by omega)
  have hlt : h0 < sz := by have h := hE.lt; dsimp only at h; omega
  have hS : va_S (cnA h0 sz) s.heap s.heap [] := va_S.rf
  have hz : s.heap.size = sz + 0 := hsz
  have hF : ∀ i, i < 0 → va_at D vwCl (sz + i, (fun i => jw cA (cp_adH tx h0) cp_st0 (cp_pl (i + 1))) i) s.heap := fun i hi => absurd hi (Nat.not_lt_zero _)
  refine lv_aload_n hx hb dX7_init_0 rfl (lv_at hl 0 rfl) ?_
  refine cn_obj hC hl.1 (List.mem_of_getElem? (i := 1) rfl) (List.mem_of_getElem? (i := 2) rfl) (List.mem_of_getElem? (i := 3) rfl) dX7_init_1 (by decide) (by decide) ?_
  refine lv_aload_n hx hb dX7_init_4 rfl (lv_at hl 0 rfl) ?_
  refine cn_new (C := RX4) (T := TX4) (N := 5) (ci := 4) hC inI7_4 tyX4_ok (List.mem_of_getElem? (i := 4) rfl) (List.mem_of_getElem? (i := 5) rfl) (List.mem_of_getElem? (i := 6) rfl) rfl [.null, .null, .int 0, .int 0, .int 0] (fun j hj => by rcases (show j = 0 ∨ j = 1 ∨ j = 2 ∨ j = 3 ∨ j = 4 by omega) with rfl | rfl | rfl | rfl | rfl <;> rfl) (Nat.le_of_ble_eq_true rfl) (Nat.le_of_ble_eq_true rfl) dX7_init_5 hz hS (fun H n1 n2 o1 hS => ?_)
  have hE := cn_kn hE (o1 _ (cn_lt hlt))
  refine lv_dup hx hb dX7_init_8 rfl ?_
  refine cn_callI hC hl.1 (ciX4 l D cA (sz + 0) (sz + 1)) (cwI 0 hts ggX7_init_X4_init rfl rfl rfl (hts _ (List.mem_of_getElem? (i := 6) rfl)) (hts _ (List.mem_of_getElem? (i := 31) rfl)) (hts _ (List.mem_of_getElem? (i := 32) rfl)) rfl (by decide +kernel) ⟨by decide, by decide⟩) rfl rfl (Nat.le_of_ble_eq_true rfl) dX7_init_9 ⟨Nat.le_of_ble_eq_true rfl, Nat.le_of_ble_eq_true rfl⟩ n1 hS hA (Or.inr (Nat.le_add_right _ _)) n2 (fun H locs m1 m2 m3 o2 hS => ?_)
  have hE := cn_kn hE (o2 _ (cn_lt hlt) (cn_ne hlt))
  have hF : ∀ i, i < 17 → va_at D vwCl (sz + i, (fun i => jw cA (cp_adH tx h0) cp_st0 (cp_pl (i + 1))) i) H := cn_moreK 17 hF (cn_o2 o1 o2 (Nat.le_succ _)) (cp_pr_mk 0 hs (by decide) rfl m2 m3)
  have hz : H.size = sz + 17 := m1
  refine cn_put (T := TX7) (ci := 7) (v := .ref (sz + 0)) 0 hC inI7_7 tyX7_ok nmX7 (List.mem_of_getElem? (i := 7) rfl) dX7_init_12 hE rfl (by decide) rfl (tyX7_ok 0 (by decide)) rfl rfl (Nat.le_of_ble_eq_true rfl) hS (Or.inl rfl) (fun H locs hE hz2 o hS => ?_)
  have hE : va_at D vwCl (h0, .inr (7, [.ref (sz + 0), .null, .null, .null, .int 0, .null, .null, .null, .null, .null])) H := hE
  have hF := cn_moreP hF hlt o
  have hz : H.size = sz + 17 := hz2.trans hz
  refine lv_aload_n hx hb dX7_init_15 rfl (lv_at hl 0 rfl) ?_
  refine cn_new (C := RX2) (T := TX2) (N := 2) (ci := 2) hC inI7_2 tyX2_ok (List.mem_of_getElem? (i := 8) rfl) (List.mem_of_getElem? (i := 9) rfl) (List.mem_of_getElem? (i := 10) rfl) rfl [.null, .int 0] (fun j hj => by rcases (show j = 0 ∨ j = 1 by omega) with rfl | rfl <;> rfl) (Nat.le_of_ble_eq_true rfl) (Nat.le_of_ble_eq_true rfl) dX7_init_16 hz hS (fun H n1 n2 o1 hS => ?_)
  have hE := cn_kn hE (o1 _ (cn_lt hlt))
  refine lv_dup hx hb dX7_init_19 rfl ?_
  refine cn_callI hC hl.1 (ciX2 l D cA (sz + 17) (sz + 18)) (cwI 0 hts ggX7_init_X2_init rfl rfl rfl (hts _ (List.mem_of_getElem? (i := 10) rfl)) (hts _ (List.mem_of_getElem? (i := 48) rfl)) (hts _ (List.mem_of_getElem? (i := 49) rfl)) rfl (by decide +kernel) ⟨by decide, by decide⟩) rfl rfl (Nat.le_of_ble_eq_true rfl) dX7_init_20 ⟨Nat.le_of_ble_eq_true rfl, Nat.le_of_ble_eq_true rfl⟩ n1 hS hA (Or.inr (Nat.le_add_right _ _)) n2 (fun H locs m1 m2 m3 o2 hS => ?_)
  have hE := cn_kn hE (o2 _ (cn_lt hlt) (cn_ne hlt))
  have hF : ∀ i, i < 155 → va_at D vwCl (sz + i, (fun i => jw cA (cp_adH tx h0) cp_st0 (cp_pl (i + 1))) i) H := cn_moreK 138 hF (cn_o2 o1 o2 (Nat.le_succ _)) (cp_ht_mk 0 hs (by decide) rfl m2 m3)
  have hz : H.size = sz + 155 := m1
  refine cn_put (T := TX7) (ci := 7) (v := .ref (sz + 17)) 1 hC inI7_7 tyX7_ok nmX7 (List.mem_of_getElem? (i := 11) rfl) dX7_init_23 hE rfl (by decide) rfl (tyX7_ok 1 (by decide)) rfl rfl (Nat.le_of_ble_eq_true rfl) hS (Or.inl rfl) (fun H locs hE hz2 o hS => ?_)
  have hE : va_at D vwCl (h0, .inr (7, [.ref (sz + 0), .ref (sz + 17), .null, .null, .int 0, .null, .null, .null, .null, .null])) H := hE
  have hF := cn_moreP hF hlt o
  have hz : H.size = sz + 155 := hz2.trans hz
  refine lv_aload_n hx hb dX7_init_26 rfl (lv_at hl 0 rfl) ?_
  refine cn_new (C := RX4) (T := TX4) (N := 5) (ci := 4) hC inI7_4 tyX4_ok (List.mem_of_getElem? (i := 4) rfl) (List.mem_of_getElem? (i := 5) rfl) (List.mem_of_getElem? (i := 6) rfl) rfl [.null, .null, .int 0, .int 0, .int 0] (fun j hj => by rcases (show j = 0 ∨ j = 1 ∨ j = 2 ∨ j = 3 ∨ j = 4 by omega) with rfl | rfl | rfl | rfl | rfl <;> rfl) (Nat.le_of_ble_eq_true rfl) (Nat.le_of_ble_eq_true rfl) dX7_init_27 hz hS (fun H n1 n2 o1 hS => ?_)
  have hE := cn_kn hE (o1 _ (cn_lt hlt))
  refine lv_dup hx hb dX7_init_30 rfl ?_
  refine cn_callI hC hl.1 (ciX4 l D cA (sz + 155) (sz + 156)) (cwI 0 hts ggX7_init_X4_init rfl rfl rfl (hts _ (List.mem_of_getElem? (i := 6) rfl)) (hts _ (List.mem_of_getElem? (i := 31) rfl)) (hts _ (List.mem_of_getElem? (i := 32) rfl)) rfl (by decide +kernel) ⟨by decide, by decide⟩) rfl rfl (Nat.le_of_ble_eq_true rfl) dX7_init_31 ⟨Nat.le_of_ble_eq_true rfl, Nat.le_of_ble_eq_true rfl⟩ n1 hS hA (Or.inr (Nat.le_add_right _ _)) n2 (fun H locs m1 m2 m3 o2 hS => ?_)
  have hE := cn_kn hE (o2 _ (cn_lt hlt) (cn_ne hlt))
  have hF : ∀ i, i < 172 → va_at D vwCl (sz + i, (fun i => jw cA (cp_adH tx h0) cp_st0 (cp_pl (i + 1))) i) H := cn_moreK 17 hF (cn_o2 o1 o2 (Nat.le_succ _)) (cp_pr_mk 1 hs (by decide) rfl m2 m3)
  have hz : H.size = sz + 172 := m1
  refine cn_put (T := TX7) (ci := 7) (v := .ref (sz + 155)) 2 hC inI7_7 tyX7_ok nmX7 (List.mem_of_getElem? (i := 12) rfl) dX7_init_34 hE rfl (by decide) rfl (tyX7_ok 2 (by decide)) rfl rfl (Nat.le_of_ble_eq_true rfl) hS (Or.inl rfl) (fun H locs hE hz2 o hS => ?_)
  have hE : va_at D vwCl (h0, .inr (7, [.ref (sz + 0), .ref (sz + 17), .ref (sz + 155), .null, .int 0, .null, .null, .null, .null, .null])) H := hE
  have hF := cn_moreP hF hlt o
  have hz : H.size = sz + 172 := hz2.trans hz
  refine lv_aload_n hx hb dX7_init_37 rfl (lv_at hl 0 rfl) ?_
  refine cn_new (C := RX2) (T := TX2) (N := 2) (ci := 2) hC inI7_2 tyX2_ok (List.mem_of_getElem? (i := 8) rfl) (List.mem_of_getElem? (i := 9) rfl) (List.mem_of_getElem? (i := 10) rfl) rfl [.null, .int 0] (fun j hj => by rcases (show j = 0 ∨ j = 1 by omega) with rfl | rfl <;> rfl) (Nat.le_of_ble_eq_true rfl) (Nat.le_of_ble_eq_true rfl) dX7_init_38 hz hS (fun H n1 n2 o1 hS => ?_)
  have hE := cn_kn hE (o1 _ (cn_lt hlt))
  refine lv_dup hx hb dX7_init_41 rfl ?_
  refine cn_callI hC hl.1 (ciX2 l D cA (sz + 172) (sz + 173)) (cwI 0 hts ggX7_init_X2_init rfl rfl rfl (hts _ (List.mem_of_getElem? (i := 10) rfl)) (hts _ (List.mem_of_getElem? (i := 48) rfl)) (hts _ (List.mem_of_getElem? (i := 49) rfl)) rfl (by decide +kernel) ⟨by decide, by decide⟩) rfl rfl (Nat.le_of_ble_eq_true rfl) dX7_init_42 ⟨Nat.le_of_ble_eq_true rfl, Nat.le_of_ble_eq_true rfl⟩ n1 hS hA (Or.inr (Nat.le_add_right _ _)) n2 (fun H locs m1 m2 m3 o2 hS => ?_)
  have hE := cn_kn hE (o2 _ (cn_lt hlt) (cn_ne hlt))
  have hF : ∀ i, i < 310 → va_at D vwCl (sz + i, (fun i => jw cA (cp_adH tx h0) cp_st0 (cp_pl (i + 1))) i) H := cn_moreK 138 hF (cn_o2 o1 o2 (Nat.le_succ _)) (cp_ht_mk 1 hs (by decide) rfl m2 m3)
  have hz : H.size = sz + 310 := m1
  refine cn_put (T := TX7) (ci := 7) (v := .ref (sz + 172)) 3 hC inI7_7 tyX7_ok nmX7 (List.mem_of_getElem? (i := 13) rfl) dX7_init_45 hE rfl (by decide) rfl (tyX7_ok 3 (by decide)) rfl rfl (Nat.le_of_ble_eq_true rfl) hS (Or.inl rfl) (fun H locs hE hz2 o hS => ?_)
  have hE : va_at D vwCl (h0, .inr (7, [.ref (sz + 0), .ref (sz + 17), .ref (sz + 155), .ref (sz + 172), .int 0, .null, .null, .null, .null, .null])) H := hE
  have hF := cn_moreP hF hlt o
  have hz : H.size = sz + 310 := hz2.trans hz
  refine lv_aload_n hx hb dX7_init_48 rfl (lv_at hl 0 rfl) ?_
  refine cn_new (C := RX4) (T := TX4) (N := 5) (ci := 4) hC inI7_4 tyX4_ok (List.mem_of_getElem? (i := 4) rfl) (List.mem_of_getElem? (i := 5) rfl) (List.mem_of_getElem? (i := 6) rfl) rfl [.null, .null, .int 0, .int 0, .int 0] (fun j hj => by rcases (show j = 0 ∨ j = 1 ∨ j = 2 ∨ j = 3 ∨ j = 4 by omega) with rfl | rfl | rfl | rfl | rfl <;> rfl) (Nat.le_of_ble_eq_true rfl) (Nat.le_of_ble_eq_true rfl) dX7_init_49 hz hS (fun H n1 n2 o1 hS => ?_)
  have hE := cn_kn hE (o1 _ (cn_lt hlt))
  refine lv_dup hx hb dX7_init_52 rfl ?_
  refine cn_callI hC hl.1 (ciX4 l D cA (sz + 310) (sz + 311)) (cwI 0 hts ggX7_init_X4_init rfl rfl rfl (hts _ (List.mem_of_getElem? (i := 6) rfl)) (hts _ (List.mem_of_getElem? (i := 31) rfl)) (hts _ (List.mem_of_getElem? (i := 32) rfl)) rfl (by decide +kernel) ⟨by decide, by decide⟩) rfl rfl (Nat.le_of_ble_eq_true rfl) dX7_init_53 ⟨Nat.le_of_ble_eq_true rfl, Nat.le_of_ble_eq_true rfl⟩ n1 hS hA (Or.inr (Nat.le_add_right _ _)) n2 (fun H locs m1 m2 m3 o2 hS => ?_)
  have hE := cn_kn hE (o2 _ (cn_lt hlt) (cn_ne hlt))
  have hF : ∀ i, i < 327 → va_at D vwCl (sz + i, (fun i => jw cA (cp_adH tx h0) cp_st0 (cp_pl (i + 1))) i) H := cn_moreK 17 hF (cn_o2 o1 o2 (Nat.le_succ _)) (cp_pr_mk 2 hs (by decide) rfl m2 m3)
  have hz : H.size = sz + 327 := m1
  refine cn_put (T := TX7) (ci := 7) (v := .ref (sz + 310)) 5 hC inI7_7 tyX7_ok nmX7 (List.mem_of_getElem? (i := 14) rfl) dX7_init_56 hE rfl (by decide) rfl (tyX7_ok 5 (by decide)) rfl rfl (Nat.le_of_ble_eq_true rfl) hS (Or.inl rfl) (fun H locs hE hz2 o hS => ?_)
  have hE : va_at D vwCl (h0, .inr (7, [.ref (sz + 0), .ref (sz + 17), .ref (sz + 155), .ref (sz + 172), .int 0, .ref (sz + 310), .null, .null, .null, .null])) H := hE
  have hF := cn_moreP hF hlt o
  have hz : H.size = sz + 327 := hz2.trans hz
  refine lv_aload_n hx hb dX7_init_59 rfl (lv_at hl 0 rfl) ?_
  refine cn_new (C := RX6) (T := TX6) (N := 4) (ci := 6) hC inI7_6 tyX6_ok (List.mem_of_getElem? (i := 15) rfl) (List.mem_of_getElem? (i := 16) rfl) (List.mem_of_getElem? (i := 17) rfl) rfl [.null, .int 0, .int 0, .int 0] (fun j hj => by rcases (show j = 0 ∨ j = 1 ∨ j = 2 ∨ j = 3 by omega) with rfl | rfl | rfl | rfl <;> rfl) (Nat.le_of_ble_eq_true rfl) (Nat.le_of_ble_eq_true rfl) dX7_init_60 hz hS (fun H n1 n2 o1 hS => ?_)
  have hE := cn_kn hE (o1 _ (cn_lt hlt))
  refine lv_dup hx hb dX7_init_63 rfl ?_
  refine cn_callN (host := "RiddlePrison") hC hl.1 (ciX6 l D cA (sz + 327) (sz + 328)) ⟨va_cnB 0 hts ggX7_init_X6_init rfl rfl rfl (hP.2.2 _ (List.mem_of_getElem? (i := 0) rfl)) (hts _ (List.mem_of_getElem? (i := 17) rfl)) (by decide +kernel) ⟨by decide, by decide⟩, rfl, hts _ (List.mem_of_getElem? (i := 55) rfl)⟩ rfl rfl (Nat.le_of_ble_eq_true rfl) dX7_init_64 ⟨Nat.le_of_ble_eq_true rfl, Nat.le_of_ble_eq_true rfl⟩ n1 hS hA (Or.inr (Nat.le_add_right _ _)) n2 (fun H locs m1 m2 m3 o2 hS => ?_)
  have hE := cn_kn hE (o2 _ (cn_lt hlt) (cn_ne hlt))
  have hF : ∀ i, i < 329 → va_at D vwCl (sz + i, (fun i => jw cA (cp_adH tx h0) cp_st0 (cp_pl (i + 1))) i) H := cn_moreK 2 hF (cn_o2 o1 o2 (Nat.le_succ _)) (cp_tp_mk hs m2 m3)
  have hz : H.size = sz + 329 := m1
  refine cn_put (T := TX7) (ci := 7) (v := .ref (sz + 327)) 6 hC inI7_7 tyX7_ok nmX7 (List.mem_of_getElem? (i := 18) rfl) dX7_init_67 hE rfl (by decide) rfl (tyX7_ok 6 (by decide)) rfl rfl (Nat.le_of_ble_eq_true rfl) hS (Or.inl rfl) (fun H locs hE hz2 o hS => ?_)
  have hE : va_at D vwCl (h0, .inr (7, [.ref (sz + 0), .ref (sz + 17), .ref (sz + 155), .ref (sz + 172), .int 0, .ref (sz + 310), .ref (sz + 327), .null, .null, .null])) H := hE
  have hF := cn_moreP hF hlt o
  have hz : H.size = sz + 329 := hz2.trans hz
  refine lv_aload_n hx hb dX7_init_70 rfl (lv_at hl 0 rfl) ?_
  refine cn_new (C := RX1) (T := TX1) (N := 10) (ci := 1) hC inI7_1 tyX1_ok (List.mem_of_getElem? (i := 19) rfl) (List.mem_of_getElem? (i := 20) rfl) (List.mem_of_getElem? (i := 21) rfl) rfl [.null, .null, .int 0, .null, .null, .null, .null, .null, .null, .null] (fun j hj => by rcases (show j = 0 ∨ j = 1 ∨ j = 2 ∨ j = 3 ∨ j = 4 ∨ j = 5 ∨ j = 6 ∨ j = 7 ∨ j = 8 ∨ j = 9 by omega) with rfl | rfl | rfl | rfl | rfl | rfl | rfl | rfl | rfl | rfl <;> rfl) (Nat.le_of_ble_eq_true rfl) (Nat.le_of_ble_eq_true rfl) dX7_init_71 hz hS (fun H n1 n2 o1 hS => ?_)
  have hE := cn_kn hE (o1 _ (cn_lt hlt))
  refine lv_dup hx hb dX7_init_74 rfl ?_
  refine lv_aload_n hx hb dX7_init_75 rfl (lv_at hl 0 rfl) ?_
  refine cn_get (T := TX7) 0 hC inI7_7 (List.mem_of_getElem? (i := 7) rfl) dX7_init_76 hE rfl (by decide) rfl ?_
  refine cn_callI hC hl.1 (ciX1 l D cA (sz + 329) (sz + 330) (sz + 0)) (cwI 1 hts ggX7_init_X1_init rfl rfl rfl (hts _ (List.mem_of_getElem? (i := 21) rfl)) (hts _ (List.mem_of_getElem? (i := 60) rfl)) (hts _ (List.mem_of_getElem? (i := 61) rfl)) rfl (by decide +kernel) ⟨by decide, by decide⟩) rfl rfl (Nat.le_of_ble_eq_true rfl) dX7_init_79 ⟨Nat.le_of_ble_eq_true rfl, Nat.le_of_ble_eq_true rfl⟩ n1 hS hA (Or.inr (Nat.le_add_right _ _)) n2 (fun H locs m1 m2 m3 o2 hS => ?_)
  have hE := cn_kn hE (o2 _ (cn_lt hlt) (cn_ne hlt))
  have hF : ∀ i, i < 338 → va_at D vwCl (sz + i, (fun i => jw cA (cp_adH tx h0) cp_st0 (cp_pl (i + 1))) i) H := cn_moreK 9 hF (cn_o2 o1 o2 (Nat.le_succ _)) (cp_fs_mk hs m2 m3)
  have hz : H.size = sz + 338 := m1
  refine cn_put (T := TX7) (ci := 7) (v := .ref (sz + 329)) 7 hC inI7_7 tyX7_ok nmX7 (List.mem_of_getElem? (i := 22) rfl) dX7_init_82 hE rfl (by decide) rfl (tyX7_ok 7 (by decide)) rfl rfl (Nat.le_of_ble_eq_true rfl) hS (Or.inl rfl) (fun H locs hE hz2 o hS => ?_)
  have hE : va_at D vwCl (h0, .inr (7, [.ref (sz + 0), .ref (sz + 17), .ref (sz + 155), .ref (sz + 172), .int 0, .ref (sz + 310), .ref (sz + 327), .ref (sz + 329), .null, .null])) H := hE
  have hF := cn_moreP hF hlt o
  have hz : H.size = sz + 338 := hz2.trans hz
  refine lv_aload_n hx hb dX7_init_85 rfl (lv_at hl 0 rfl) ?_
  refine cn_new (C := RX3) (T := TX3) (N := 6) (ci := 3) hC inI7_3 tyX3_ok (List.mem_of_getElem? (i := 23) rfl) (List.mem_of_getElem? (i := 24) rfl) (List.mem_of_getElem? (i := 25) rfl) rfl [.int 0, .int 0, .int 0, .int 0, .int 0, .int 0] (fun j hj => by rcases (show j = 0 ∨ j = 1 ∨ j = 2 ∨ j = 3 ∨ j = 4 ∨ j = 5 by omega) with rfl | rfl | rfl | rfl | rfl | rfl <;> rfl) (Nat.le_of_ble_eq_true rfl) (Nat.le_of_ble_eq_true rfl) dX7_init_86 hz hS (fun H n1 n2 o1 hS => ?_)
  have hE := cn_kn hE (o1 _ (cn_lt hlt))
  refine lv_dup hx hb dX7_init_89 rfl ?_
  refine cn_callN (host := "RiddlePrison") hC hl.1 (ciX3 l D cA (sz + 338) (sz + 339)) ⟨va_cnB 0 hts ggX7_init_X3_init rfl rfl rfl (hP.2.2 _ (List.mem_of_getElem? (i := 1) rfl)) (hts _ (List.mem_of_getElem? (i := 25) rfl)) (by decide +kernel) ⟨by decide, by decide⟩, rfl, hts _ (List.mem_of_getElem? (i := 45) rfl)⟩ rfl rfl (Nat.le_of_ble_eq_true rfl) dX7_init_90 ⟨Nat.le_of_ble_eq_true rfl, Nat.le_of_ble_eq_true rfl⟩ n1 hS hA (Or.inr (Nat.le_add_right _ _)) n2 (fun H locs m1 m2 m3 o2 hS => ?_)
  have hE := cn_kn hE (o2 _ (cn_lt hlt) (cn_ne hlt))
  have hF : ∀ i, i < 339 → va_at D vwCl (sz + i, (fun i => jw cA (cp_adH tx h0) cp_st0 (cp_pl (i + 1))) i) H := cn_moreK 1 hF (cn_o2 o1 o2 (Nat.le_succ _)) (cp_tr_mk hs m2)
  have hz : H.size = sz + 339 := m1
  refine cn_put (T := TX7) (ci := 7) (v := .ref (sz + 338)) 8 hC inI7_7 tyX7_ok nmX7 (List.mem_of_getElem? (i := 26) rfl) dX7_init_93 hE rfl (by decide) rfl (tyX7_ok 8 (by decide)) rfl rfl (Nat.le_of_ble_eq_true rfl) hS (Or.inl rfl) (fun H locs hE hz2 o hS => ?_)
  have hE : va_at D vwCl (h0, .inr (7, [.ref (sz + 0), .ref (sz + 17), .ref (sz + 155), .ref (sz + 172), .int 0, .ref (sz + 310), .ref (sz + 327), .ref (sz + 329), .ref (sz + 338), .null])) H := hE
  have hF := cn_moreP hF hlt o
  have hz : H.size = sz + 339 := hz2.trans hz
  refine lv_aload_n hx hb dX7_init_96 rfl (lv_at hl 0 rfl) ?_
  refine lv_iconst (v := nI 4) hx hb dX7_init_97 (by decide) ?_
  refine cn_newq (C := RX5) (t0 := 6) (N' := 4) hC (List.mem_of_getElem? (i := 27) rfl) (List.mem_of_getElem? (i := 3) rfl) rfl (by decide) (by decide) (by decide) (Nat.le_of_ble_eq_true rfl) (Nat.le_of_ble_eq_true rfl) dX7_init_98 hz hS (fun H ha hz2 o hS => ?_)
  have hE := cn_kn hE (o _ (cn_lt hlt))
  have hF : ∀ i, i < 339 → va_at D vwCl (sz + i, (fun i => jw cA (cp_adH tx h0) cp_st0 (cp_pl (i + 1))) i) H := fun i hi => cn_kn (hF i hi) (o _ (by omega))
  have hz : H.size = sz + 340 := hz2
  refine cn_put (T := TX7) (ci := 7) (v := .ref (sz + 339)) 9 hC inI7_7 tyX7_ok nmX7 (List.mem_of_getElem? (i := 28) rfl) dX7_init_101 hE rfl (by decide) rfl (tyX7_ok 9 (by decide)) rfl rfl (Nat.le_of_ble_eq_true rfl) hS (Or.inl rfl) (fun H locs hE hz2 o hS => ?_)
  have hE : va_at D vwCl (h0, .inr (7, [.ref (sz + 0), .ref (sz + 17), .ref (sz + 155), .ref (sz + 172), .int 0, .ref (sz + 310), .ref (sz + 327), .ref (sz + 329), .ref (sz + 338), .ref (sz + 339)])) H := hE
  have hF := cn_moreP hF hlt o
  have ha := cn_kn ha (o _ (cn_ne hlt).symm)
  have hz : H.size = sz + 340 := hz2.trans hz
  refine lv_iconst (v := nI 0) hx hb dX7_init_104 (by decide) ?_
  refine lv_istore_n (lv' := [(1, .int (nI 0)), (0, .ref h0)]) hx hb dX7_init_105 rfl hl (by decide) rfl (fun ls hl => ?_)
  refine cl7s (sz + 340) (sz + 339) hC rfl hE (cn_lt hlt) (cn_ne hlt) (by omega) (Or.inr (Nat.le_add_right _ _)) (fun q h => Or.inr (Nat.le_trans (Nat.le_add_right _ _) h)) hA (fun H2 locs ls k1 k2 k3 k4 hS hl => ?_) 4 0 rfl H locs ls hz (cn_arr ha (fun d _ => (if_neg (Nat.not_lt_zero _)).symm)) (fun j hj => absurd hj (Nat.not_lt_zero _)) (fun q _ _ => rfl) hS hl
  have hE := cn_kn hE (k4 _ (cn_lt hlt) (cn_ne hlt))
  have hF : ∀ i, i < 339 → va_at D vwCl (sz + i, (fun i => jw cA (cp_adH tx h0) cp_st0 (cp_pl (i + 1))) i) H2 := fun i hi => cn_kn (hF i hi) (k4 _ (by omega) (by omega))
  have k2 := cn_arr k2 (g := fun d => some (sz + 340 + 2 * d)) (fun d hd => if_pos hd)
  refine cn_ret hC hS k1 (by subst hs; exact hE) (fun i hi => ?_) dX7_init_130
  by_cases c : i < 339
  · exact hF i c
  · exact cp_sh_mk hs k2 k3 i (by omega) hi

theorem cp_md_at {D : va_G} {cA : Nat → ClassId} {tx : jP → Nat} {h0 : Nat} {H : Heap} (h : va_at D vwCl (h0 + 349, cp_e8 (h0 + 349 + 1)) H) (h2 : ∀ i, i < 17 → va_at D vwCl (h0 + 349 + 1 + i, cp_f8 cA (h0 + 349 + 1) i) H) : ∀ k, 349 ≤ k → k < 367 → va_at D vwCl (h0 + k, jw cA (cp_adH tx h0) cp_st0 (cp_pl k)) H := by
  intro k hk1 hk2
  rcases (show k = 349 ∨ k = 350 ∨ k = 351 ∨ k = 352 ∨ k = 353 ∨ k = 354 ∨ k = 355 ∨ k = 356 ∨ k = 357 ∨ k = 358 ∨ k = 359 ∨ k = 360 ∨ k = 361 ∨ k = 362 ∨ k = 363 ∨ k = 364 ∨ k = 365 ∨ k = 366 by omega) with rfl | rfl | rfl | rfl | rfl | rfl | rfl | rfl | rfl | rfl | rfl | rfl | rfl | rfl | rfl | rfl | rfl | rfl
  · rw [show cp_pl 349 = (20, 0, 0) from by decide +kernel]
    exact h
  · rw [show cp_pl 350 = (21, 41, 0) from by decide +kernel]
    exact cn_ad (cn_arrI (h2 0 (by decide)) (g := cp_I0 41) (fun d _ => cp_I0n)) (by omega)
  · rw [show cp_pl 351 = (21, 42, 0) from by decide +kernel]
    exact cn_ad (cn_arrI (h2 1 (by decide)) (g := cp_I0 42) (fun d _ => cp_I0z (r := 42) (by decide) (by decide))) (by omega)
  · rw [show cp_pl 352 = (21, 43, 0) from by decide +kernel]
    exact cn_ad (cn_arrI (h2 2 (by decide)) (g := cp_I0 43) (fun d _ => cp_I0z (r := 43) (by decide) (by decide))) (by omega)
  · rw [show cp_pl 353 = (21, 44, 0) from by decide +kernel]
    exact cn_ad (cn_arrI (h2 3 (by decide)) (g := cp_I0 44) (fun d _ => cp_I0z (r := 44) (by decide) (by decide))) (by omega)
  · rw [show cp_pl 354 = (21, 45, 0) from by decide +kernel]
    exact cn_ad (cn_arrI (h2 4 (by decide)) (g := cp_I0 45) (fun d _ => cp_I0z (r := 45) (by decide) (by decide))) (by omega)
  · rw [show cp_pl 355 = (21, 46, 0) from by decide +kernel]
    exact cn_ad (cn_arrI (h2 5 (by decide)) (g := cp_I0 46) (fun d _ => cp_I0z (r := 46) (by decide) (by decide))) (by omega)
  · rw [show cp_pl 356 = (21, 47, 0) from by decide +kernel]
    exact cn_ad (cn_arrI (h2 6 (by decide)) (g := cp_I0 47) (fun d _ => cp_I0z (r := 47) (by decide) (by decide))) (by omega)
  · rw [show cp_pl 357 = (22, 10, 0) from by decide +kernel]
    exact cn_ad (h2 7 (by decide)) (by omega)
  · rw [show cp_pl 358 = (22, 11, 0) from by decide +kernel]
    exact cn_ad (h2 8 (by decide)) (by omega)
  · rw [show cp_pl 359 = (21, 48, 0) from by decide +kernel]
    exact cn_ad (cn_arrI (h2 9 (by decide)) (g := cp_I0 48) (fun d _ => cp_I0z (r := 48) (by decide) (by decide))) (by omega)
  · rw [show cp_pl 360 = (21, 49, 0) from by decide +kernel]
    exact cn_ad (cn_arrI (h2 10 (by decide)) (g := cp_I0 49) (fun d _ => cp_I0z (r := 49) (by decide) (by decide))) (by omega)
  · rw [show cp_pl 361 = (21, 50, 0) from by decide +kernel]
    exact cn_ad (cn_arrI (h2 11 (by decide)) (g := cp_I0 50) (fun d (hd : d < 4) => by rcases (show d = 0 ∨ d = 1 ∨ d = 2 ∨ d = 3 by omega) with rfl | rfl | rfl | rfl <;> rfl)) (by omega)
  · rw [show cp_pl 362 = (21, 51, 0) from by decide +kernel]
    exact cn_ad (cn_arrI (h2 12 (by decide)) (g := cp_I0 51) (fun d _ => cp_I0z (r := 51) (by decide) (by decide))) (by omega)
  · rw [show cp_pl 363 = (22, 12, 0) from by decide +kernel]
    exact cn_ad (h2 13 (by decide)) (by omega)
  · rw [show cp_pl 364 = (22, 13, 0) from by decide +kernel]
    exact cn_ad (h2 14 (by decide)) (by omega)
  · rw [show cp_pl 365 = (21, 52, 0) from by decide +kernel]
    exact cn_ad (cn_arrI (h2 15 (by decide)) (g := cp_I0 52) (fun d _ => cp_I0z (r := 52) (by decide) (by decide))) (by omega)
  · rw [show cp_pl 366 = (21, 53, 0) from by decide +kernel]
    exact cn_ad (cn_arrI (h2 16 (by decide)) (g := cp_I0 53) (fun d _ => cp_I0z (r := 53) (by decide) (by decide))) (by omega)
