/-! a contract that says less -/
theorem jMi_mono {l : Launch} {G : jG} {y : MethodName} {ws : List Cond} {rm : Room} {av : List Value} {st : jS} {post post2 : Int32 → jS → Prop} (h : jMi l G y ws rm av st post) (hp : ∀ r u, post r u → post2 r u) : jMi l G y ws rm av st post2 := by
  intro sz p e ha hc hk s m args below hf happ hP ht
  obtain ⟨k, o, h1, h2, h3, ⟨⟨r, u, e1, e2, e3⟩, hF⟩, hL⟩ := h sz p e ha hc hk s m args below hf happ hP ht
  exact ⟨k, o, h1, h2, h3, ⟨⟨r, u, e1, hp r u e2, e3⟩, hF⟩, hL⟩
theorem jMl_mono {l : Launch} {G : jG} {y : MethodName} {ws : List Cond} {rm : Room} {av : List Value} {st : jS} {post post2 : Int64 → jS → Prop} (h : jMl l G y ws rm av st post) (hp : ∀ r u, post r u → post2 r u) : jMl l G y ws rm av st post2 := by
  intro sz p e ha hc hk s m args below hf happ hP ht
  obtain ⟨k, o, h1, h2, h3, ⟨⟨r, u, e1, e2, e3⟩, hF⟩, hL⟩ := h sz p e ha hc hk s m args below hf happ hP ht
  exact ⟨k, o, h1, h2, h3, ⟨⟨r, u, e1, hp r u e2, e3⟩, hF⟩, hL⟩
/-! how both states agree -/
/-- the reference's row as it was before the j-th kept step -/
def pst (g : Nat → Int32) (j : Nat) : Nat → Int32 := fun i => if 31 ≤ i ∧ i < 68 then g (68 + 37 * j + (i - 31)) else g i
def prR (a g : Nat → Int32) (nd nm : Nat) : Prop := pRel a g nd nm ∧ a 0 = nI nd ∧ a 1 = nI nm ∧ a 67 = g 67
def wR (a g : Nat → Int32) (hi : Nat → Nat → Int32) (z nd nm : Nat) : Prop := g 0 = nI nd ∧ g 1 = nI nm ∧ g 2 = nI z ∧ z ≤ 8 ∧ prR a g nd nm ∧ ∀ j, j < z → prR (hi j) (pst g j) nd nm
def eqN (f g : Nat → Int32) : Prop := ∀ i, i < 68 → i ≠ 2 → f i = g i
theorem eqN.rf {f : Nat → Int32} : eqN f f := fun _ _ _ => rfl
theorem prR_c {a g a2 g2 : Nat → Int32} {nd nm : Nat} (h : prR a g nd nm) (ha : eqN a2 a) (hg : eqN g2 g) : prR a2 g2 nd nm := by
  obtain ⟨⟨h1, h2, h3, h4, h5, h6⟩, h7, h8, h9⟩ := h
  refine ⟨⟨h1, h2, fun d hd => ?_, fun m hm => ?_, fun d hd => ?_, fun m hm => ?_⟩, ?_, ?_, ?_⟩
  · have := h3 d hd
    rw [ha _ (by omega) (by omega), ha _ (by omega) (by omega), ha _ (by omega) (by omega), ha _ (by omega) (by omega), hg _ (by omega) (by omega), hg _ (by omega) (by omega), hg _ (by omega) (by omega), hg _ (by omega) (by omega)]
    exact this
  · have := h4 m hm
    rw [ha _ (by omega) (by omega), ha _ (by omega) (by omega), ha _ (by omega) (by omega), ha _ (by omega) (by omega), ha _ (by omega) (by omega), ha _ (by omega) (by omega), hg _ (by omega) (by omega), hg _ (by omega) (by omega), hg _ (by omega) (by omega), hg _ (by omega) (by omega), hg _ (by omega) (by omega), hg _ (by omega) (by omega)]
    exact this
  · have := h5 d hd
    rw [hg _ (by omega) (by omega), hg _ (by omega) (by omega)]
    exact this
  · have := h6 m hm
    rw [hg _ (by omega) (by omega), hg _ (by omega) (by omega), hg _ (by omega) (by omega)]
    exact this
  · rw [ha _ (by omega) (by omega)]; exact h7
  · rw [ha _ (by omega) (by omega)]; exact h8
  · rw [ha _ (by omega) (by omega), hg _ (by omega) (by omega)]; exact h9
/-! a prison becomes another -/
def dbI (X b : Nat → Int32) (k : Nat) : Nat → Int32 := fun j => if (11 ≤ j ∧ j < 11 + k) ∨ (21 ≤ j ∧ j < 21 + k) ∨ (31 ≤ j ∧ j < 31 + k) ∨ (41 ≤ j ∧ j < 41 + k) then b j else X j
theorem dbI_step {X b : Nat → Int32} {k : Nat} (hk : k < 10) : dbR (dbI X b k) b k k = dbI X b (k + 1) := by
  funext j
  unfold dbR
  by_cases h4 : j = 41 + k
  · rw [h4, pk_us]; unfold dbI; rw [if_pos (by omega)]
  · rw [pk_un h4]
    by_cases h3 : j = 31 + k
    · rw [h3, pk_us]; unfold dbI; rw [if_pos (by omega)]
    · rw [pk_un h3]
      by_cases h2 : j = 21 + k
      · rw [h2, pk_us]; unfold dbI; rw [if_pos (by omega)]
      · rw [pk_un h2]
        by_cases h1 : j = 11 + k
        · rw [h1, pk_us]; unfold dbI; rw [if_pos (by omega)]
        · rw [pk_un h1]
          unfold dbI
          by_cases q : (11 ≤ j ∧ j < 11 + k) ∨ (21 ≤ j ∧ j < 21 + k) ∨ (31 ≤ j ∧ j < 31 + k) ∨ (41 ≤ j ∧ j < 41 + k)
          · rw [if_pos q, if_pos (by omega)]
          · rw [if_neg q, if_neg (by omega)]
theorem dbI_it {X b : Nat → Int32} : ∀ k, k ≤ 10 → it (fun k s => dbR s b k k) k X = dbI X b k
  | 0, _ => by funext j; unfold dbI; rw [if_neg (by omega)]; rfl
  | k + 1, h => by rw [it_s, dbI_it k (by omega), dbI_step (by omega)]
def mbI (X b : Nat → Int32) (k : Nat) : Nat → Int32 := fun j => if (3 ≤ j ∧ j < 3 + k) ∨ (7 ≤ j ∧ j < 7 + k) ∨ (51 ≤ j ∧ j < 51 + k) ∨ (55 ≤ j ∧ j < 55 + k) ∨ (59 ≤ j ∧ j < 59 + k) ∨ (63 ≤ j ∧ j < 63 + k) then b j else X j
theorem mbI_step {X b : Nat → Int32} {k : Nat} (hk : k < 4) : mbR (mbI X b k) b k k = mbI X b (k + 1) := by
  funext j
  unfold mbR
  by_cases h6 : j = 59 + k
  · rw [h6, pk_us]; unfold mbI; rw [if_pos (by omega)]
  · rw [pk_un h6]
    by_cases h5 : j = 55 + k
    · rw [h5, pk_us]; unfold mbI; rw [if_pos (by omega)]
    · rw [pk_un h5]
      by_cases h4 : j = 51 + k
      · rw [h4, pk_us]; unfold mbI; rw [if_pos (by omega)]
      · rw [pk_un h4]
        by_cases h3 : j = 7 + k
        · rw [h3, pk_us]; unfold mbI; rw [if_pos (by omega)]
        · rw [pk_un h3]
          by_cases h2 : j = 63 + k
          · rw [h2, pk_us]; unfold mbI; rw [if_pos (by omega)]
          · rw [pk_un h2]
            by_cases h1 : j = 3 + k
            · rw [h1, pk_us]; unfold mbI; rw [if_pos (by omega)]
            · rw [pk_un h1]
              unfold mbI
              by_cases q : (3 ≤ j ∧ j < 3 + k) ∨ (7 ≤ j ∧ j < 7 + k) ∨ (51 ≤ j ∧ j < 51 + k) ∨ (55 ≤ j ∧ j < 55 + k) ∨ (59 ≤ j ∧ j < 59 + k) ∨ (63 ≤ j ∧ j < 63 + k)
              · rw [if_pos q, if_pos (by omega)]
              · rw [if_neg q, if_neg (by omega)]
theorem mbI_it {X b : Nat → Int32} : ∀ k, k ≤ 4 → it (fun k s => mbR s b k k) k X = mbI X b k
  | 0, _ => by funext j; unfold mbI; rw [if_neg (by omega)]; rfl
  | k + 1, h => by rw [it_s, mbI_it k (by omega), mbI_step (by omega)]
theorem pcR_eq {a b : Nat → Int32} {nd nm : Nat} (hnd : nd ≤ 10) (hnm : nm ≤ 4) : pcR a b nd nm = mbI (dbI (upd (upd (upd a 0 (b 0)) 1 (b 1)) 67 (b 67)) b nd) b nm := by
  unfold pcR
  rw [dbI_it nd hnd, mbI_it nm hnm]
theorem pcR_d {a b : Nat → Int32} {nd nm d : Nat} (hnd : nd ≤ 10) (hnm : nm ≤ 4) (hd : d < nd) : pcR a b nd nm (11 + d) = b (11 + d) ∧ pcR a b nd nm (21 + d) = b (21 + d) ∧ pcR a b nd nm (31 + d) = b (31 + d) ∧ pcR a b nd nm (41 + d) = b (41 + d) := by
  rw [pcR_eq hnd hnm]
  unfold mbI
  refine ⟨?_, ?_, ?_, ?_⟩
  · rw [if_neg (by omega)]; unfold dbI; rw [if_pos (by omega)]
  · rw [if_neg (by omega)]; unfold dbI; rw [if_pos (by omega)]
  · rw [if_neg (by omega)]; unfold dbI; rw [if_pos (by omega)]
  · rw [if_neg (by omega)]; unfold dbI; rw [if_pos (by omega)]
theorem pcR_m {a b : Nat → Int32} {nd nm m : Nat} (hnd : nd ≤ 10) (hnm : nm ≤ 4) (hm : m < nm) : pcR a b nd nm (3 + m) = b (3 + m) ∧ pcR a b nd nm (7 + m) = b (7 + m) ∧ pcR a b nd nm (51 + m) = b (51 + m) ∧ pcR a b nd nm (55 + m) = b (55 + m) ∧ pcR a b nd nm (59 + m) = b (59 + m) ∧ pcR a b nd nm (63 + m) = b (63 + m) := by
  rw [pcR_eq hnd hnm]
  unfold mbI
  refine ⟨?_, ?_, ?_, ?_, ?_, ?_⟩ <;> rw [if_pos (by omega)]
theorem pcR_0 {a b : Nat → Int32} {nd nm : Nat} (hnd : nd ≤ 10) (hnm : nm ≤ 4) : pcR a b nd nm 0 = b 0 ∧ pcR a b nd nm 1 = b 1 ∧ pcR a b nd nm 67 = b 67 := by
  rw [pcR_eq hnd hnm]
  unfold mbI
  refine ⟨?_, ?_, ?_⟩
  · rw [if_neg (by omega)]; unfold dbI; rw [if_neg (by omega), pk_un (by decide), pk_un (by decide), pk_us]
  · rw [if_neg (by omega)]; unfold dbI; rw [if_neg (by omega), pk_un (by decide), pk_us]
  · rw [if_neg (by omega)]; unfold dbI; rw [if_neg (by omega), pk_us]
theorem prR_pc {a b g : Nat → Int32} {nd nm : Nat} (h : prR b g nd nm) : prR (pcR a b nd nm) g nd nm := by
  obtain ⟨⟨h1, h2, h3, h4, h5, h6⟩, h7, h8, h9⟩ := h
  obtain ⟨p0, p1, p2⟩ := pcR_0 (a := a) (b := b) h1 h2
  refine ⟨⟨h1, h2, fun d hd => ?_, fun m hm => ?_, h5, h6⟩, p0.trans h7, p1.trans h8, p2.trans h9⟩
  · obtain ⟨q1, q2, q3, q4⟩ := pcR_d (a := a) (b := b) h1 h2 hd
    rw [q1, q2, q3, q4]; exact h3 d hd
  · obtain ⟨q1, q2, q3, q4, q5, q6⟩ := pcR_m (a := a) (b := b) h1 h2 hm
    rw [q1, q2, q3, q4, q5, q6]; exact h4 m hm
/-! what is kept -/
theorem pst_c {g g2 : Nat → Int32} {j k : Nat} (h1 : ∀ i, i < 31 → i ≠ 2 → g2 i = g i) (h2 : ∀ i, i < 37 → g2 (68 + 37 * j + i) = g (68 + 37 * k + i)) : eqN (pst g2 j) (pst g k) := by
  intro i hi hne
  unfold pst
  by_cases q : 31 ≤ i ∧ i < 68
  · rw [if_pos q, if_pos q]; exact h2 _ (by omega)
  · rw [if_neg q, if_neg q]; exact h1 i (by omega) hne
theorem pst_now {g g2 : Nat → Int32} {j : Nat} (h1 : ∀ i, i < 31 → i ≠ 2 → g2 i = g i) (h2 : ∀ i, i < 37 → g2 (68 + 37 * j + i) = g (31 + i)) : eqN (pst g2 j) g := by
  intro i hi hne
  unfold pst
  by_cases q : 31 ≤ i ∧ i < 68
  · rw [if_pos q, h2 _ (by omega)]; congr 1; omega
  · rw [if_neg q]; exact h1 i (by omega) hne
theorem keepR_hi {g : Nat → Int32} {z : Nat} (hz : z < 8) (e : g 2 = nI z) : (∀ j i, j < z → i < 37 → keepR g (68 + 37 * j + i) = g (68 + 37 * j + i)) ∧ ∀ i, i < 37 → keepR g (68 + 37 * z + i) = g (31 + i) := by
  unfold keepR
  rw [e, nIc (by omega), if_neg (show ¬ z = 8 by omega)]
  refine ⟨fun j i hj hi => ?_, fun i hi => ?_⟩
  · have h37 : 37 * j + 37 ≤ 37 * z := by have := Nat.mul_le_mul_left 37 (show j + 1 ≤ z by omega); omega
    rw [pk_un (by omega)]; unfold stR; rw [if_neg (by omega)]
  · rw [pk_un (by omega)]; unfold stR; rw [if_pos (by omega)]; congr 1; omega
set_option maxRecDepth 100000 in
theorem keepR_8 {g : Nat → Int32} (e : g 2 = nI 8) : (∀ j i, j < 7 → i < 37 → keepR g (68 + 37 * j + i) = g (68 + 37 * (j + 1) + i)) ∧ ∀ i, i < 37 → keepR g (68 + 37 * 7 + i) = g (31 + i) := by
  unfold keepR
  rw [e, nIc (by omega), if_pos rfl]
  refine ⟨fun j i hj hi => ?_, fun i hi => ?_⟩
  · rw [pk_un (by omega)]; unfold stR; rw [if_neg (by omega), pk_un (by omega)]; unfold shR; rw [if_pos (by omega)]; congr 1; omega
  · rw [pk_un (by omega)]; unfold stR; rw [if_pos (by omega), pk_un (by omega)]; unfold shR; rw [if_neg (by omega)]; congr 1; omega
/-- one more step is kept -/
def hKe (hi hi2 : Nat → Nat → Int32) (a : Nat → Int32) (z nd nm : Nat) : Prop := (z < 8 → (∀ j, j < z → hi2 j = hi j) ∧ ∃ x, hi2 z = pcR x a nd nm) ∧ (z = 8 → (∀ j, j < 7 → hi2 j = hi (j + 1)) ∧ ∃ x, hi2 7 = pcR x a nd nm)
theorem wR_keep {a g : Nat → Int32} {hi hi2 : Nat → Nat → Int32} {z nd nm : Nat} (h : wR a g hi z nd nm) (hk : hKe hi hi2 a z nd nm) : wR a (keepR g) hi2 (remZ z + 1) nd nm := by
  obtain ⟨h1, h2, h3, h4, h5, h6⟩ := h
  have hlo : ∀ i, i < 31 → i ≠ 2 → keepR g i = g i := fun i hi hne => keepR_lo g (by omega) hne
  refine ⟨(keepR_lo g (by decide) (by decide)).trans h1, (keepR_lo g (by decide) (by decide)).trans h2, ?_, ?_, prR_c h5 eqN.rf (fun i hi hne => keepR_lo g hi hne), fun j hj => ?_⟩
  · rw [keepR_2 g h4 h3]; unfold remZ; split <;> rfl
  · unfold remZ; split <;> omega
  · unfold remZ at hj
    by_cases e : z = 8
    · subst e
      rw [if_pos rfl] at hj
      obtain ⟨k1, x, k2⟩ := hk.2 rfl
      obtain ⟨q1, q2⟩ := keepR_8 h3
      by_cases e7 : j = 7
      · rw [e7, k2]
        exact prR_c (prR_pc h5) eqN.rf (pst_now hlo q2)
      · rw [k1 j (by omega)]
        exact prR_c (h6 (j + 1) (by omega)) eqN.rf (pst_c hlo (fun i hi => q1 j i (by omega) hi))
    · rw [if_neg e] at hj
      obtain ⟨k1, x, k2⟩ := hk.1 (by omega)
      obtain ⟨q1, q2⟩ := keepR_hi (by omega) h3
      by_cases ez : j = z
      · rw [ez, k2]
        exact prR_c (prR_pc h5) eqN.rf (pst_now hlo q2)
      · rw [k1 j (by omega)]
        exact prR_c (h6 j (by omega)) eqN.rf (pst_c hlo (fun i hi => q1 j i (by omega) hi))
/-- only what is now changes -/
theorem wR_now {a g a2 g2 : Nat → Int32} {hi : Nat → Nat → Int32} {z nd nm : Nat} (h : wR a g hi z nd nm) (h5 : prR a2 g2 nd nm) (hlo : ∀ i, i < 31 → g2 i = g i) (hhi : ∀ i, 68 ≤ i → g2 i = g i) : wR a2 g2 hi z nd nm := by
  obtain ⟨h1, h2, h3, h4, -, h6⟩ := h
  refine ⟨(hlo 0 (by decide)).trans h1, (hlo 1 (by decide)).trans h2, (hlo 2 (by decide)).trans h3, h4, h5, fun j hj => ?_⟩
  exact prR_c (h6 j hj) eqN.rf (pst_c (fun i hi _ => hlo i hi) (fun i hi => hhi _ (by omega)))
/-- a man moves, or fails -/
theorem prR_man {a g : Nat → Int32} {nd nm m : Nat} {v : Int32} {b : Nat} (h : prR a g nd nm) (hm : m < nm) (hb : (b = 51 ∧ ∃ c, c < 8 ∧ v = nI c) ∨ b = 55 ∨ (b = 59 ∧ ∃ f, f ≤ 99 ∧ v = nI f) ∨ (b = 63 ∧ ∃ w, w ≤ 9 ∧ v = nI w)) : prR (upd a (b + m) v) (upd g (b + m) v) nd nm := by
  obtain ⟨⟨h1, h2, h3, h4, h5, h6⟩, h7, h8, h9⟩ := h
  have hb2 : 51 ≤ b ∧ b ≤ 63 ∧ (b = 51 ∨ b = 55 ∨ b = 59 ∨ b = 63) := by omega
  have hu : ∀ (f : Nat → Int32) (i : Nat), i ≠ b + m → upd f (b + m) v i = f i := fun f i hi => pk_un hi
  have hs : ∀ i, upd a (b + m) v i = upd g (b + m) v i ∨ i ≠ b + m := fun i => by
    by_cases e : i = b + m
    · left; rw [e, pk_us, pk_us]
    · exact Or.inr e
  have hq : ∀ i, a i = g i → upd a (b + m) v i = upd g (b + m) v i := fun i hi => by
    rcases hs i with z | z
    · exact z
    · rw [hu a i z, hu g i z]; exact hi
  refine ⟨⟨h1, h2, fun d hd => ?_, fun k hk => ?_, fun d hd => ?_, fun k hk => ?_⟩, ?_, ?_, ?_⟩
  · obtain ⟨q1, q2, q3, q4⟩ := h3 d hd
    exact ⟨hq _ q1, hq _ q2, hq _ q3, hq _ q4⟩
  · obtain ⟨q1, q2, q3, q4, q5, q6⟩ := h4 k hk
    exact ⟨hq _ q1, hq _ q2, hq _ q3, hq _ q4, hq _ q5, hq _ q6⟩
  · rw [hu g _ (by omega), hu g _ (by omega)]; exact h5 d hd
  · obtain ⟨q1, q2, q3⟩ := h6 k hk
    refine ⟨?_, ?_, ?_⟩
    · by_cases e : 51 + k = b + m
      · rw [e, pk_us]
        rcases hb with ⟨-, z⟩ | z | ⟨z, -⟩ | ⟨z, -⟩
        · exact z
        · omega
        · omega
        · omega
      · rw [hu g _ e]; exact q1
    · by_cases e : 59 + k = b + m
      · rw [e, pk_us]
        rcases hb with ⟨z, -⟩ | z | ⟨-, z⟩ | ⟨z, -⟩
        · omega
        · omega
        · exact z
        · omega
      · rw [hu g _ e]; exact q2
    · by_cases e : 63 + k = b + m
      · rw [e, pk_us]
        rcases hb with ⟨z, -⟩ | z | ⟨z, -⟩ | ⟨-, z⟩
        · omega
        · omega
        · omega
        · exact z
      · rw [hu g _ e]; exact q3
  · rw [hu a _ (by omega)]; exact h7
  · rw [hu a _ (by omega)]; exact h8
  · rw [hu a _ (by omega), hu g _ (by omega)]; exact h9
