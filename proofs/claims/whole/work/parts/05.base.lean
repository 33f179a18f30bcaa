theorem lenI_lt (r : Nat) : lenI r < 2 ^ 31 := by unfold lenI; (repeat' split) <;> decide
theorem lenJ_lt (r : Nat) : lenJ r < 2 ^ 31 := by unfold lenJ; (repeat' split) <;> decide
/-! the world's list, its reads and writes; a contract; calls -/
def jW (G : jG) (st : jS) : va_W := G.2.2.2.map (fun x => (G.2.2.1 x, jw G.2.1 G.2.2.1 st x))
def jpl (G : jG) : Prop := ∀ x, x ∈ G.2.2.2 ↔ jok x
theorem jW_get {G : jG} (st : jS) (hG : jpl G) {x : jP} (hx : jok x) : ∃ k : Nat, (jW G st)[k]? = some (G.2.2.1 x, jw G.2.1 G.2.2.1 st x) := by
  obtain ⟨k, hk⟩ := List.mem_iff_getElem?.mp ((hG x).mpr hx)
  exact ⟨k, by unfold jW; rw [List.getElem?_map, hk]; rfl⟩
theorem jW_set {G : jG} {A : Nat → Prop} {st st' : jS} {x : jP} {k : Nat} {e e' : va_E} (hG : jpl G) (hD : va_D A (jW G st)) (hx : jok x) (hk : (jW G st)[k]? = some (G.2.2.1 x, e)) (hf : ∀ y, jok y → y ≠ x → jw G.2.1 G.2.2.1 st' y = jw G.2.1 G.2.2.1 st y) (he : e' = jw G.2.1 G.2.2.1 st' x) : (jW G st).set k (G.2.2.1 x, e') = jW G st' := by
  obtain ⟨k0, hk0⟩ := List.mem_iff_getElem?.mp ((hG x).mpr hx)
  have hw : ∀ (s : jS) (i : Nat) (y : jP), G.2.2.2[i]? = some y → (jW G s)[i]? = some (G.2.2.1 y, jw G.2.1 G.2.2.1 s y) := fun s i y h => by unfold jW; rw [List.getElem?_map, h]; rfl
  have hkk : k0 = k := hD.1 k0 k _ _ (hw st k0 x hk0) hk rfl
  subst hkk
  refine List.ext_getElem? (fun i => ?_)
  by_cases hi : i = k0
  · subst hi
    have hlt : i < (jW G st).length := (List.getElem?_eq_some_iff.mp hk).1
    rw [List.getElem?_set_self hlt, hw st' i x hk0, he]
  · rw [List.getElem?_set_ne (fun q => hi q.symm)]
    cases hy : G.2.2.2[i]? with
    | none => unfold jW; rw [List.getElem?_map, List.getElem?_map, hy]; rfl
    | some y =>
      rw [hw st i y hy, hw st' i y hy]
      have hne : y ≠ x := by
        rintro rfl
        exact hi (hD.1 i k0 _ _ (hw st i y hy) (hw st k0 y hk0) rfl)
      rw [hf y ((hG y).mp (List.mem_of_getElem? hy)) hne]
/-- the links between nest mates -/
def nsW : List Cond := [
  .fieldLinkNest RX7 102 "RiddlePrison$Door" "other" "I" "RiddlePrison",
  .fieldLinkNest RX7 105 "RiddlePrison$Door" "sort" "I" "RiddlePrison",
  .fieldLinkNest RX7 108 "RiddlePrison$Door" "hard" "I" "RiddlePrison",
  .fieldLinkNest RX7 121 "RiddlePrison$Prison" "men" "[LRiddlePrison$Man;" "RiddlePrison",
  .fieldLinkNest RX7 125 "RiddlePrison$Man" "kind" "I" "RiddlePrison",
  .fieldLinkNest RX7 128 "RiddlePrison$Man" "wit" "I" "RiddlePrison",
  .fieldLinkNest RX7 131 "RiddlePrison$Man" "own" "I" "RiddlePrison",
  .fieldLinkNest RX7 134 "RiddlePrison$Man" "cell" "I" "RiddlePrison",
  .fieldLinkNest RX7 137 "RiddlePrison$Man" "known" "I" "RiddlePrison",
  .fieldLinkNest RX7 140 "RiddlePrison$Man" "failed" "I" "RiddlePrison",
  .fieldLinkNest RX7 158 "RiddlePrison$Tape" "size" "I" "RiddlePrison",
  .fieldLinkNest RX7 165 "RiddlePrison$Prison" "draw" "I" "RiddlePrison",
  .fieldLinkNest RX7 181 "RiddlePrison$History" "size" "I" "RiddlePrison",
  .fieldLinkNest RX7 207 "RiddlePrison$Foresight" "far" "[I" "RiddlePrison",
  .fieldLinkNest RX7 215 "RiddlePrison$Foresight" "rows" "[I" "RiddlePrison",
  .fieldLinkNest RX7 257 "RiddlePrison$Foresight" "odds" "[J" "RiddlePrison",
  .fieldLinkNest RX7 296 "RiddlePrison$Sheet" "holds" "Z" "RiddlePrison",
  .fieldLinkNest RX7 299 "RiddlePrison$Sheet" "size" "I" "RiddlePrison",
  .fieldLinkNest RX7 300 "RiddlePrison$Sheet" "lane" "I" "RiddlePrison",
  .fieldLinkNest RX7 303 "RiddlePrison$Sheet" "items" "[J" "RiddlePrison",
  .fieldLinkNest RX7 70 "RiddlePrison$Prison" "doorCount" "I" "RiddlePrison",
  .fieldLinkNest RX7 84 "RiddlePrison$Prison" "manCount" "I" "RiddlePrison",
  .fieldLinkNest RX7 93 "RiddlePrison$Prison" "doors" "[LRiddlePrison$Door;" "RiddlePrison",
  .fieldLinkNest RX7 97 "RiddlePrison$Door" "first" "I" "RiddlePrison",
  .fieldLinkNest RX1 45 "RiddlePrison$Man" "wit" "I" "RiddlePrison",
  .fieldLinkNest RX1 49 "RiddlePrison$Man" "own" "I" "RiddlePrison",
  .fieldLinkNest RX1 60 "RiddlePrison$Man" "cell" "I" "RiddlePrison",
  .fieldLinkNest RX1 92 "RiddlePrison$Prison" "doors" "[LRiddlePrison$Door;" "RiddlePrison",
  .fieldLinkNest RX1 85 "RiddlePrison$Prison" "doorCount" "I" "RiddlePrison",
  .fieldLinkNest RX3 28 "RiddlePrison$Door" "sort" "I" "RiddlePrison",
  .fieldLinkNest RX3 47 "RiddlePrison$Door" "hard" "I" "RiddlePrison",
  .fieldLinkNest RX4 42 "RiddlePrison$Door" "first" "I" "RiddlePrison",
  .fieldLinkNest RX4 45 "RiddlePrison$Door" "other" "I" "RiddlePrison",
  .fieldLinkNest RX4 48 "RiddlePrison$Door" "sort" "I" "RiddlePrison",
  .fieldLinkNest RX4 51 "RiddlePrison$Door" "hard" "I" "RiddlePrison",
  .fieldLinkNest RX4 54 "RiddlePrison$Man" "kind" "I" "RiddlePrison",
  .fieldLinkNest RX4 57 "RiddlePrison$Man" "wit" "I" "RiddlePrison",
  .fieldLinkNest RX4 60 "RiddlePrison$Man" "own" "I" "RiddlePrison",
  .fieldLinkNest RX4 63 "RiddlePrison$Man" "cell" "I" "RiddlePrison",
  .fieldLinkNest RX4 66 "RiddlePrison$Man" "known" "I" "RiddlePrison",
  .fieldLinkNest RX4 69 "RiddlePrison$Man" "failed" "I" "RiddlePrison",
  .fieldLinkNest RX6 26 "RiddlePrison$Prison" "doorCount" "I" "RiddlePrison",
  .fieldLinkNest RX6 31 "RiddlePrison$Prison" "manCount" "I" "RiddlePrison"]
theorem nsW_f : ∀ w ∈ nsW, ∃ a i b n d h, w = .fieldLinkNest a i b n d h := by
  intro w hw
  simp only [nsW, List.mem_cons, List.not_mem_nil, or_false] at hw
  rcases hw with rfl | rfl | rfl | rfl | rfl | rfl | rfl | rfl | rfl | rfl | rfl | rfl | rfl | rfl | rfl | rfl | rfl | rfl | rfl | rfl | rfl | rfl | rfl | rfl | rfl | rfl | rfl | rfl | rfl | rfl | rfl | rfl | rfl | rfl | rfl | rfl | rfl | rfl | rfl | rfl | rfl | rfl | rfl <;> exact ⟨_, _, _, _, _, _, rfl⟩
def jNs (U : State) : Prop := ∀ w ∈ nsW, va_Nw w U
theorem jNs.warm {s U : State} (h : jNs s) (hW : s.WarmedH U.vm) : jNs U := by
  intro w hw
  obtain ⟨a, i, b, n, d, k, rfl⟩ := nsW_f w hw
  exact va_Nw.warmF hW (h _ hw)
theorem jNs.same {s U : State} (h : jNs s) (hv : s.vm = U.vm) : jNs U := by
  intro w hw
  obtain ⟨a, i, b, n, d, k, rfl⟩ := nsW_f w hw
  exact va_Nw.same rfl hv (h _ hw)
/-- the texts: their places in the pool, the texts, their bytes -/
def jtI (i : Nat) : Nat := if i = 0 then 55 else if i = 1 then 61 else if i = 2 then 71 else 82
def jtT (i : Nat) : String := if i = 0 then "01234567" else if i = 1 then "+?=&" else if i = 2 then "0123456789" else "pswuc"
def jtL : List Nat := [8, 4, 10, 5]
def jtB : List (List Int32) := [[48, 49, 50, 51, 52, 53, 54, 55], [43, 63, 61, 38], [48, 49, 50, 51, 52, 53, 54, 55, 56, 57], [112, 115, 119, 117, 99]]
/-- the texts lie outside the world -/
def jSt (G : jG) (A : Nat → Prop) (U : State) : Prop := vk_S 4 jtL jtB (fun i => G.2.2.1 (30, i, 0)) (fun i => G.2.2.1 (31, i, 0)) A U U.heap ∧ (∀ i, i < 4 → vk_R RX6 (jtI i) (jtT i) (G.2.2.1 (30, i, 0)) U) ∧ va_Z "java/lang/String" "COMPACT_STRINGS" "Z" (.int 1) A U U.heap
theorem jSt.go {G : jG} {A B : Nat → Prop} {s U : State} {locs : List Loc} (h : jSt G A s) (hW : s.WarmedH U.vm) (hS : va_S A s.heap U.heap locs) (hAB : ∀ q, B q → A q) : jSt G B U :=
  ⟨((h.1.moved hW.alike).kept hS.2.1).narrow hAB, fun i hi => (h.2.1 i hi).warm hW, ((h.2.2.moved hW.alike).kept hS.2.1).narrow hAB⟩
/-- the heap holds the state, and what has changed since H0 is the world's -/
def jB (G : jG) (A : Nat → Prop) (H0 : Heap) (st : jS) (H : Heap) (locs : List Loc) : Prop := jpl G ∧ va_P G.1 vwCl (jW G st) H ∧ va_D A (jW G st) ∧ va_S A H0 H locs
def jWd (G : jG) (A : Nat → Prop) (st : jS) (t : State) : Prop := jpl G ∧ va_P G.1 vwCl (jW G st) t.heap ∧ va_K G.1 vwCl (jtys G.2.1) t ∧ va_D A (jW G st) ∧ jNs t
abbrev jPc (G : jG) (av : List Value) (st : jS) (sz : Nat) : Array Value → State → Prop := va_Pc av (fun U => U.heap.size = sz ∧ jWd G (fun _ => True) st U ∧ jSt G (va_A (jW G st) sz) U)
/-- a method that answers an int (a boolean, too); one that answers nothing; one that answers a long -/
def jMi (l : Launch) (G : jG) (y : MethodName) (ws : List Cond) (rm : Room) (av : List Value) (st : jS) (post : Int32 → jS → Prop) : Prop := ∀ sz : Nat, Met l y ws rm (jPc G av st sz) (va_Qi post (fun u t => jWd G (va_A (jW G st) sz) u t) (va_A (jW G st) sz)) 0 0 (va_A (jW G st) sz)
def jMv (l : Launch) (G : jG) (y : MethodName) (ws : List Cond) (rm : Room) (av : List Value) (st : jS) (post : jS → Prop) : Prop := ∀ sz : Nat, Met l y ws rm (jPc G av st sz) (va_Qv post (fun u t => jWd G (va_A (jW G st) sz) u t) (va_A (jW G st) sz)) 0 0 (va_A (jW G st) sz)
def jMl (l : Launch) (G : jG) (y : MethodName) (ws : List Cond) (rm : Room) (av : List Value) (st : jS) (post : Int64 → jS → Prop) : Prop := ∀ sz : Nat, Met l y ws rm (jPc G av st sz) (va_Ql post (fun u t => jWd G (va_A (jW G st) sz) u t) (va_A (jW G st) sz)) 0 0 (va_A (jW G st) sz)
abbrev jQi (G : jG) (A : Nat → Prop) (below : List Frame) (av : List Value) (s : State) (post : Int32 → jS → Prop) : State → Prop := MQ below (va_Qi post (fun u t => jWd G A u t) A) av.toArray s 0 0 A
abbrev jQv (G : jG) (A : Nat → Prop) (below : List Frame) (av : List Value) (s : State) (post : jS → Prop) : State → Prop := MQ below (va_Qv post (fun u t => jWd G A u t) A) av.toArray s 0 0 A
abbrev jQl (G : jG) (A : Nat → Prop) (below : List Frame) (av : List Value) (s : State) (post : Int64 → jS → Prop) : State → Prop := MQ below (va_Ql post (fun u t => jWd G A u t) A) av.toArray s 0 0 A
/-- what holds in a method's body -/
def jC (p : Program) (G : jG) (s : State) (m : MethodId) (meth : Method) (c : Code) (A : Nat → Prop) (cc : ByteArray) (ret : Option FieldType) (maxL : Nat) (own : String) (ws : List Cond) (args : Array Value) : Prop :=
  p.tables.exec = Jvm.exec ∧ c.code = cc ∧ meth.sig.returnType = ret ∧ c.maxLocals = maxL ∧ s.vm.findClass own = some m.cls ∧ (∀ w ∈ ws, w.before args s = true) ∧ meth.locks = false ∧ va_K G.1 vwCl (jtys G.2.1) s ∧ (∀ q, s.heap.size ≤ q → A q) ∧ jNs s ∧ jSt G A s
section JM
variable {l : Launch} {G : jG} {y : MethodName} {ws ws' : List Cond} {rm : Room} {av : List Value} {st : jS} {cc : ByteArray} {maxL : Nat} {ret : Option FieldType} {lv0 : List (Nat × Value)}
theorem jMi_of {post : Int32 → jS → Prop} (hy : plainName y.cls = true) (hw : ws = Cond.code y cc maxL ret :: ws') (hle : (lg_sl av).length ≤ maxL) (hlv : lv_args 0 av = lv0)
    (body : ∀ p e s m below meth c A ls, jC p G s m meth c A cc ret maxL y.cls ws av.toArray → jB G A s.heap st s.heap [] → lv_has ls maxL lv0 → W p l e rm s m av.toArray below meth c s.heap [] 0 0 (jQi G A below av s post) (F0 m 0 ls [])) : jMi l G y ws rm av st post := by
  intro sz
  refine Met.ofW (cc := cc) (maxL := maxL) (ret := ret) hy hw ?_
  intro p e s m args below meth c s₁ B hml hv
  obtain ⟨rfl, hsz, ⟨hG, hP, hK, hD0, hN⟩, hTx⟩ := hv
  have hts := atoms_spec (ws := ws) B.pre
  have hown : s.vm.findClass y.cls = some m.cls := findClass_of_methodNamed B.named
  subst hsz
  have hD := hD0.self (sz := s.heap.size)
  have hA : ∀ q : Nat, s.heap.size ≤ q → va_A (jW G st) s.heap.size q := fun q h => Or.inr h
  have hl := lv_entry av (n := maxL) hle
  rw [lg_entry_eq]
  rw [hlv] at hl
  exact body p e s m below meth c _ _ ⟨B.exec, B.bytes, B.returns, hml, hown, hts, B.notSynchronized, hK, hA, hN, hTx⟩ ⟨hG, hP, hD, va_S.rf⟩ hl
theorem jMv_of {post : jS → Prop} (hy : plainName y.cls = true) (hw : ws = Cond.code y cc maxL ret :: ws') (hle : (lg_sl av).length ≤ maxL) (hlv : lv_args 0 av = lv0)
    (body : ∀ p e s m below meth c A ls, jC p G s m meth c A cc ret maxL y.cls ws av.toArray → jB G A s.heap st s.heap [] → lv_has ls maxL lv0 → W p l e rm s m av.toArray below meth c s.heap [] 0 0 (jQv G A below av s post) (F0 m 0 ls [])) : jMv l G y ws rm av st post := by
  intro sz
  refine Met.ofW (cc := cc) (maxL := maxL) (ret := ret) hy hw ?_
  intro p e s m args below meth c s₁ B hml hv
  obtain ⟨rfl, hsz, ⟨hG, hP, hK, hD0, hN⟩, hTx⟩ := hv
  have hts := atoms_spec (ws := ws) B.pre
  have hown : s.vm.findClass y.cls = some m.cls := findClass_of_methodNamed B.named
  subst hsz
  have hD := hD0.self (sz := s.heap.size)
  have hA : ∀ q : Nat, s.heap.size ≤ q → va_A (jW G st) s.heap.size q := fun q h => Or.inr h
  have hl := lv_entry av (n := maxL) hle
  rw [lg_entry_eq]
  rw [hlv] at hl
  exact body p e s m below meth c _ _ ⟨B.exec, B.bytes, B.returns, hml, hown, hts, B.notSynchronized, hK, hA, hN, hTx⟩ ⟨hG, hP, hD, va_S.rf⟩ hl
theorem jMl_of {post : Int64 → jS → Prop} (hy : plainName y.cls = true) (hw : ws = Cond.code y cc maxL ret :: ws') (hle : (lg_sl av).length ≤ maxL) (hlv : lv_args 0 av = lv0)
    (body : ∀ p e s m below meth c A ls, jC p G s m meth c A cc ret maxL y.cls ws av.toArray → jB G A s.heap st s.heap [] → lv_has ls maxL lv0 → W p l e rm s m av.toArray below meth c s.heap [] 0 0 (jQl G A below av s post) (F0 m 0 ls [])) : jMl l G y ws rm av st post := by
  intro sz
  refine Met.ofW (cc := cc) (maxL := maxL) (ret := ret) hy hw ?_
  intro p e s m args below meth c s₁ B hml hv
  obtain ⟨rfl, hsz, ⟨hG, hP, hK, hD0, hN⟩, hTx⟩ := hv
  have hts := atoms_spec (ws := ws) B.pre
  have hown : s.vm.findClass y.cls = some m.cls := findClass_of_methodNamed B.named
  subst hsz
  have hD := hD0.self (sz := s.heap.size)
  have hA : ∀ q : Nat, s.heap.size ≤ q → va_A (jW G st) s.heap.size q := fun q h => Or.inr h
  have hl := lv_entry av (n := maxL) hle
  rw [lg_entry_eq]
  rw [hlv] at hl
  exact body p e s m below meth c _ _ ⟨B.exec, B.bytes, B.returns, hml, hown, hts, B.notSynchronized, hK, hA, hN, hTx⟩ ⟨hG, hP, hD, va_S.rf⟩ hl
end JM
section JR
variable {p : Program} {l : Launch} {e : Env} {R : Room} {s : State} {m : MethodId} {av : List Value} {args : Array Value} {below : List Frame} {meth : Method} {c : Code} {H : Heap} {locs : List Loc} {cells slots : Nat} {Q : State → Prop} {cc : ByteArray} {pc : Nat} {ls : Array Slot} {rest : List Value}
variable {G : jG} {A : Nat → Prop} {H0 : Heap} {st : jS} {ret : Option FieldType} {maxL : Nat} {own : String} {Ts : List Cond}
theorem j_iret {post : Int32 → jS → Prop} {v : Int32} (hC : jC p G s m meth c A cc (some .int) maxL own Ts av.toArray) (hB : jB G A s.heap st H locs) (hdg : decode cc pc = .ok (.ireturn, 1)) (hp : post v st) : W p l e R s m av.toArray below meth c H locs 0 0 (jQi G A below av s post) (F0 m pc ls [.int v]) := by
  obtain ⟨hx, hb, hr, hml, hown, hts, hlocks, hK, hA, hN, hTx⟩ := hC
  exact W.iret (v := v) hx hb hr (fun t ht hW => ⟨⟨v, st, rfl, hp, hB.1, by rw [ht]; exact hB.2.1, va_K.moved hW.alike hK, hB.2.2.1, hN.warm hW⟩, hB.2.2.2.F ht⟩) hB.2.2.2.2.2 hdg
theorem j_zret {post : Int32 → jS → Prop} {v : Int32} (hC : jC p G s m meth c A cc (some .boolean) maxL own Ts av.toArray) (hB : jB G A s.heap st H locs) (hdg : decode cc pc = .ok (.ireturn, 1)) (hn : v = 0 ∨ v = 1) (hp : post v st) : W p l e R s m av.toArray below meth c H locs 0 0 (jQi G A below av s post) (F0 m pc ls [.int v]) := by
  obtain ⟨hx, hb, hr, hml, hown, hts, hlocks, hK, hA, hN, hTx⟩ := hC
  exact W.zret (v := v) hx hb hr (by rcases hn with rfl | rfl <;> rfl) (fun t ht hW => ⟨⟨v, st, rfl, hp, hB.1, by rw [ht]; exact hB.2.1, va_K.moved hW.alike hK, hB.2.2.1, hN.warm hW⟩, hB.2.2.2.F ht⟩) hB.2.2.2.2.2 hdg
theorem j_vret {post : jS → Prop} (hC : jC p G s m meth c A cc none maxL own Ts av.toArray) (hB : jB G A s.heap st H locs) (hdg : decode cc pc = .ok (.return_, 1)) (hp : post st) : W p l e R s m av.toArray below meth c H locs 0 0 (jQv G A below av s post) (F0 m pc ls []) := by
  obtain ⟨hx, hb, hr, hml, hown, hts, hlocks, hK, hA, hN, hTx⟩ := hC
  exact W.vret hx hb hr (fun t ht hW => ⟨⟨st, rfl, hp, hB.1, by rw [ht]; exact hB.2.1, va_K.moved hW.alike hK, hB.2.2.1, hN.warm hW⟩, hB.2.2.2.F ht⟩) hB.2.2.2.2.2 hdg
theorem j_lret {post : Int64 → jS → Prop} {v : Int64} (hC : jC p G s m meth c A cc (some .long) maxL own Ts av.toArray) (hB : jB G A s.heap st H locs) (hdg : decode cc pc = .ok (.lreturn, 1)) (hp : post v st) : W p l e R s m av.toArray below meth c H locs 0 0 (jQl G A below av s post) (F0 m pc ls [.long v]) := by
  obtain ⟨hx, hb, hr, hml, hown, hts, hlocks, hK, hA, hN, hTx⟩ := hC
  exact W.lret (v := v) hx hb hr (fun t ht hW => ⟨⟨v, st, rfl, hp, hB.1, by rw [ht]; exact hB.2.1, va_K.moved hW.alike hK, hB.2.2.1, hN.warm hW⟩, hB.2.2.2.F ht⟩) hB.2.2.2.2.2 hdg
/-- getfield of the object at a place -/
theorem j_get {C : String} {T : u_T} {N ci index : Nat} (x : jP) (k : Nat) {fs : List Value} {v : Value} (hC : jC p G s m meth c A cc ret maxL own Ts args) (hB : jB G A H0 st H locs) (hin : ∀ w ∈ u_ws C T N, w ∈ Ts) (hlink : (Cond.fieldLink own index (T k).1 (T k).2.1 (T k).2.2.1).before args s = true) (hdg : decode cc pc = .ok (.getfield index, 3)) (hx : jok x) (he : jw G.2.1 G.2.2.1 st x = .inr (ci, fs)) (hc : vwCl[ci]? = some (C, T, N)) (hk : k < N) (hv : fs[k]? = some v)
    (kk : W p l e R s m args below meth c H locs cells slots Q (F0 m (pc + 3) ls (v :: rest))) : W p l e R s m args below meth c H locs cells slots Q (F0 m pc ls (.ref (G.2.2.1 x) :: rest)) := by
  obtain ⟨hx', hb, hr, hml, hown, hts, hlocks, hK, hA, hN, hTx⟩ := hC
  obtain ⟨q0, hq⟩ := jW_get st hB.1 hx
  rw [he] at hq
  exact va_get hx' hb hts hin hown hK hB.2.1 q0 hq hc k hk hlink (fun _ h9 => h9) hv hdg kk
theorem j_getN {C host : String} {T : u_T} {N ci index : Nat} (x : jP) (k : Nat) {fs : List Value} {v : Value} (hC : jC p G s m meth c A cc ret maxL own Ts args) (hB : jB G A H0 st H locs) (hin : ∀ w ∈ u_ws C T N, w ∈ Ts) (hlk : Cond.fieldLinkNest own index (T k).1 (T k).2.1 (T k).2.2.1 host ∈ nsW) (hdg : decode cc pc = .ok (.getfield index, 3)) (hx : jok x) (he : jw G.2.1 G.2.2.1 st x = .inr (ci, fs)) (hc : vwCl[ci]? = some (C, T, N)) (hk : k < N) (hv : fs[k]? = some v)
    (kk : W p l e R s m args below meth c H locs cells slots Q (F0 m (pc + 3) ls (v :: rest))) : W p l e R s m args below meth c H locs cells slots Q (F0 m pc ls (.ref (G.2.2.1 x) :: rest)) := by
  obtain ⟨hx', hb, hr, hml, hown, hts, hlocks, hK, hA, hN, hTx⟩ := hC
  obtain ⟨q0, hq⟩ := jW_get st hB.1 hx
  rw [he] at hq
  exact va_getN hx' hb hts hin hown hK hB.2.1 q0 hq hc k hk ((hN _ hlk).use rfl) (fun _ h9 => h9) hv hdg kk
/-- putfield: the state behind it is told -/
theorem j_put {C : String} {T : u_T} {N ci index : Nat} (x : jP) (k : Nat) (st' : jS) {ty0 : Nat → FieldType} {ty : FieldType} {fs : List Value} {v : Value} (hC : jC p G s m meth c A cc ret maxL own Ts args) (hB : jB G A H0 st H locs) (hin : ∀ w ∈ u_ws C T N, w ∈ Ts) (hty : ∀ k, k < N → parseFieldDescriptor (T k).2.2.1 = some (ty0 k)) (hnm : ∀ a, a < N → ∀ b, b < N → a ≠ b → (T a).2.1 ≠ (T b).2.1) (hlink : (Cond.fieldLink own index (T k).1 (T k).2.1 (T k).2.2.1).before args s = true) (hdg : decode cc pc = .ok (.putfield index, 3)) (hx : jok x) (he : jw G.2.1 G.2.2.1 st x = .inr (ci, fs)) (hc : vwCl[ci]? = some (C, T, N)) (hk : k < N) (hfin : (T k).2.2.2 = false) (hd : parseFieldDescriptor (T k).2.2.1 = some ty) (hn : narrow ty v = v) (hfit : fits ty v = true) (hl : k < fs.length)
    (hf : ∀ y, jok y → y ≠ x → jw G.2.1 G.2.2.1 st' y = jw G.2.1 G.2.2.1 st y) (he' : jw G.2.1 G.2.2.1 st' x = .inr (ci, fs.set k v))
    (kk : ∀ H locs, jB G A H0 st' H locs → W p l e R s m args below meth c H locs cells slots Q (F0 m (pc + 3) ls rest)) : W p l e R s m args below meth c H locs cells slots Q (F0 m pc ls (v :: .ref (G.2.2.1 x) :: rest)) := by
  obtain ⟨hx', hb, hr, hml, hown, hts, hlocks, hK, hA, hN, hTx⟩ := hC
  obtain ⟨q0, hq⟩ := jW_get st hB.1 hx
  rw [he] at hq
  have hs := jW_set (e' := .inr (ci, fs.set k v)) hB.1 hB.2.2.1 hx hq hf he'.symm
  refine va_put hx' hb hts hin ty0 hty hnm hown hK hB.2.1 hB.2.2.1 hB.2.2.2 q0 hq hc k hk hlink (fun _ h9 => h9) hfin hd hn hfit hl hdg (fun H locs hP hD hS => ?_)
  rw [hs] at hP hD
  exact kk H locs ⟨hB.1, hP, hD, hS⟩
theorem j_putN {C host : String} {T : u_T} {N ci index : Nat} (x : jP) (k : Nat) (st' : jS) {ty0 : Nat → FieldType} {ty : FieldType} {fs : List Value} {v : Value} (hC : jC p G s m meth c A cc ret maxL own Ts args) (hB : jB G A H0 st H locs) (hin : ∀ w ∈ u_ws C T N, w ∈ Ts) (hty : ∀ k, k < N → parseFieldDescriptor (T k).2.2.1 = some (ty0 k)) (hnm : ∀ a, a < N → ∀ b, b < N → a ≠ b → (T a).2.1 ≠ (T b).2.1) (hlk : Cond.fieldLinkNest own index (T k).1 (T k).2.1 (T k).2.2.1 host ∈ nsW) (hdg : decode cc pc = .ok (.putfield index, 3)) (hx : jok x) (he : jw G.2.1 G.2.2.1 st x = .inr (ci, fs)) (hc : vwCl[ci]? = some (C, T, N)) (hk : k < N) (hfin : (T k).2.2.2 = false) (hd : parseFieldDescriptor (T k).2.2.1 = some ty) (hn : narrow ty v = v) (hfit : fits ty v = true) (hl : k < fs.length)
    (hf : ∀ y, jok y → y ≠ x → jw G.2.1 G.2.2.1 st' y = jw G.2.1 G.2.2.1 st y) (he' : jw G.2.1 G.2.2.1 st' x = .inr (ci, fs.set k v))
    (kk : ∀ H locs, jB G A H0 st' H locs → W p l e R s m args below meth c H locs cells slots Q (F0 m (pc + 3) ls rest)) : W p l e R s m args below meth c H locs cells slots Q (F0 m pc ls (v :: .ref (G.2.2.1 x) :: rest)) := by
  obtain ⟨hx', hb, hr, hml, hown, hts, hlocks, hK, hA, hN, hTx⟩ := hC
  obtain ⟨q0, hq⟩ := jW_get st hB.1 hx
  rw [he] at hq
  have hs := jW_set (e' := .inr (ci, fs.set k v)) hB.1 hB.2.2.1 hx hq hf he'.symm
  refine va_putN hx' hb hts hin ty0 hty hnm hown hK hB.2.1 hB.2.2.1 hB.2.2.2 q0 hq hc k hk ((hN _ hlk).use rfl) (fun _ h9 => h9) hfin hd hn hfit hl hdg (fun H locs hP hD hS => ?_)
  rw [hs] at hP hD
  exact kk H locs ⟨hB.1, hP, hD, hS⟩
/-- int rows: by the row's number, at a place n -/
theorem j_ild (r n : Nat) {i : Int32} (hC : jC p G s m meth c A cc ret maxL own Ts args) (hB : jB G A H0 st H locs) (hdg : decode cc pc = .ok (.iaload, 1)) (hr : (27 ≤ r ∧ r ≤ 31) ∨ (41 ≤ r ∧ r ≤ 53)) (hi : i = nI n) (hn : n < lenI r)
    (kk : W p l e R s m args below meth c H locs cells slots Q (F0 m (pc + 1) ls (.int (st.1 r n) :: rest))) : W p l e R s m args below meth c H locs cells slots Q (F0 m pc ls (.int i :: .ref (G.2.2.1 (21, r, 0)) :: rest)) := by
  obtain ⟨hx', hb, hr', hml, hown, hts, hlocks, hK, hA, hN, hTx⟩ := hC
  obtain ⟨q0, hq⟩ := jW_get st hB.1 (x := (21, r, 0)) (jk21 hr)
  have hl := lenI_lt r
  subst hi
  refine va_iald hx' hb hK hB.2.1 q0 1 hq rfl (vp_in_nI hn hl) hdg ?_
  rw [nI_clamp (by omega)]
  exact kk
theorem j_ist (r n : Nat) {i v : Int32} (hC : jC p G s m meth c A cc ret maxL own Ts args) (hB : jB G A H0 st H locs) (hdg : decode cc pc = .ok (.iastore, 1)) (hr : (27 ≤ r ∧ r ≤ 31) ∨ (41 ≤ r ∧ r ≤ 53)) (hi : i = nI n) (hn : n < lenI r)
    (kk : ∀ H locs, jB G A H0 (u2 st.1 r n v, st.2) H locs → W p l e R s m args below meth c H locs cells slots Q (F0 m (pc + 1) ls rest)) : W p l e R s m args below meth c H locs cells slots Q (F0 m pc ls (.int v :: .int i :: .ref (G.2.2.1 (21, r, 0)) :: rest)) := by
  obtain ⟨hx', hb, hr', hml, hown, hts, hlocks, hK, hA, hN, hTx⟩ := hC
  have hx : jok (21, r, 0) := jk21 hr
  obtain ⟨q0, hq⟩ := jW_get st hB.1 hx
  have hl := lenI_lt r
  have hof : jof r n = (21, r, 0) := by unfold jof; repeat (first | rw [if_neg (by omega)])
  subst hi
  have hs := jW_set (e' := .inl (G.2.1 1, lenI r, .inl (upd (st.1 r) n v))) (st' := (u2 st.1 r n v, st.2)) hB.1 hB.2.2.1 hx hq (fun z hz hne => jw_fr z hz (by rw [hof]; exact hne)) (by show _ = Sum.inl (G.2.1 1, lenI r, Sum.inl (u2 st.1 r n v r)); rw [u2_upd])
  refine va_iast hx' hb hK hB.2.1 hB.2.2.1 hB.2.2.2 q0 1 hq rfl (vp_in_nI hn hl) hdg (fun H locs hP hD hS => ?_)
  rw [nI_clamp (by omega)] at hP hD
  rw [hs] at hP hD
  exact kk H locs ⟨hB.1, hP, hD, hS⟩
theorem j_lld (r n : Nat) {i : Int32} (hC : jC p G s m meth c A cc ret maxL own Ts args) (hB : jB G A H0 st H locs) (hdg : decode cc pc = .ok (.laload, 1)) (hr : r < 6 ∨ (10 ≤ r ∧ r ≤ 13)) (hi : i = nI n) (hn : n < lenJ r)
    (kk : W p l e R s m args below meth c H locs cells slots Q (F0 m (pc + 1) ls (.long (st.2.1 r n) :: rest))) : W p l e R s m args below meth c H locs cells slots Q (F0 m pc ls (.int i :: .ref (G.2.2.1 (22, r, 0)) :: rest)) := by
  obtain ⟨hx', hb, hr', hml, hown, hts, hlocks, hK, hA, hN, hTx⟩ := hC
  obtain ⟨q0, hq⟩ := jW_get st hB.1 (x := (22, r, 0)) (jk22 hr)
  have hl := lenJ_lt r
  subst hi
  refine va_lald hx' hb hK hB.2.1 q0 2 hq rfl (vp_in_nI hn hl) hdg ?_
  rw [nI_clamp (by omega)]
  exact kk
theorem j_lst (r n : Nat) {i : Int32} {v : Int64} (hC : jC p G s m meth c A cc ret maxL own Ts args) (hB : jB G A H0 st H locs) (hdg : decode cc pc = .ok (.lastore, 1)) (hr : r < 6 ∨ (10 ≤ r ∧ r ≤ 13)) (hi : i = nI n) (hn : n < lenJ r)
    (kk : ∀ H locs, jB G A H0 (st.1, v2 st.2.1 r n v, st.2.2) H locs → W p l e R s m args below meth c H locs cells slots Q (F0 m (pc + 1) ls rest)) : W p l e R s m args below meth c H locs cells slots Q (F0 m pc ls (.long v :: .int i :: .ref (G.2.2.1 (22, r, 0)) :: rest)) := by
  obtain ⟨hx', hb, hr', hml, hown, hts, hlocks, hK, hA, hN, hTx⟩ := hC
  have hx : jok (22, r, 0) := jk22 hr
  obtain ⟨q0, hq⟩ := jW_get st hB.1 hx
  have hl := lenJ_lt r
  subst hi
  have hs := jW_set (e' := .inl (G.2.1 2, lenJ r, .inr (.inl (vp_updL (st.2.1 r) n v)))) (st' := (st.1, v2 st.2.1 r n v, st.2.2)) hB.1 hB.2.2.1 hx hq (fun z hz hne => jw_frJ z hz hne) (by show _ = Sum.inl (G.2.1 2, lenJ r, Sum.inr (Sum.inl (v2 st.2.1 r n v r))); rw [v2_upd])
  refine va_last hx' hb hK hB.2.1 hB.2.2.1 hB.2.2.2 q0 2 hq rfl (vp_in_nI hn hl) hdg (fun H locs hP hD hS => ?_)
  rw [nI_clamp (by omega)] at hP hD
  rw [hs] at hP hD
  exact kk H locs ⟨hB.1, hP, hD, hS⟩
/-- a row of references: what stands at place n is the cell at the place z -/
theorem j_ald (x z : jP) (t0 n : Nat) {i : Int32} {C : String} {cX : ClassId} {len : Nat} {f : Nat → Option Nat} (hC : jC p G s m meth c A cc ret maxL own Ts args) (hB : jB G A H0 st H locs) (hdg : decode cc pc = .ok (.aaload, 1)) (hx : jok x) (he : jw G.2.1 G.2.2.1 st x = .inl (cX, len, jR f)) (ht : (jtys G.2.1)[t0]? = some (cX, .object C)) (hi : i = nI n) (hn : n < len) (hlen : len < 2 ^ 31) (hz : f n = some (G.2.2.1 z))
    (kk : W p l e R s m args below meth c H locs cells slots Q (F0 m (pc + 1) ls (.ref (G.2.2.1 z) :: rest))) : W p l e R s m args below meth c H locs cells slots Q (F0 m pc ls (.int i :: .ref (G.2.2.1 x) :: rest)) := by
  obtain ⟨hx', hb, hr', hml, hown, hts, hlocks, hK, hA, hN, hTx⟩ := hC
  obtain ⟨q0, hq⟩ := jW_get st hB.1 hx
  rw [he] at hq
  subst hi
  refine va_aldq hx' hb hK hB.2.1 q0 t0 hq ht (vp_in_nI hn hlen) hdg ?_
  rw [nI_clamp (by omega), hz]
  exact kk
/-- what a call needs of the world -/
theorem jB_free (hA : ∀ q, H0.size ≤ q → A q) (hB : jB G A H0 st H locs) : ∀ q, va_A (jW G st) H.size q → A q := by
  rintro q (⟨k, e, h⟩ | h)
  · exact hB.2.2.1.2 k _ h
  · exact hA q (Nat.le_trans hB.2.2.2.1 h)
theorem jB_pre {U : State} (hK : va_K G.1 vwCl (jtys G.2.1) s) (hA : ∀ q, s.heap.size ≤ q → A q) (hN : jNs s ∧ jSt G A s) (hB : jB G A s.heap st H locs) (hU : U.heap = H) (hW : s.WarmedH U.vm) : U.heap.size = H.size ∧ jWd G (fun _ => True) st U ∧ jSt G (va_A (jW G st) H.size) U := ⟨by rw [hU], ⟨hB.1, by rw [hU]; exact hB.2.1, va_K.moved hW.alike hK, hB.2.2.1.weaken (fun _ _ _ _ => trivial), hN.1.warm hW⟩, hN.2.go hW (by rw [hU]; exact hB.2.2.2) (jB_free hA hB)⟩
theorem jPc_blind {av : List Value} {sz : Nat} : FrameBlind (jPc G av st sz) := by
  intro a U g mk q
  obtain ⟨q0, q1, ⟨qG, qP, qK, qD, qN⟩, qT⟩ := q
  exact ⟨q0, q1, ⟨qG, qP, va_K.moved (u := U) (U := U.calling g mk a) (Vm.Alike.refl U.vm) qK, qD, qN.same (U := U.calling g mk a) rfl⟩, qT.1.moved (U := U.calling g mk a) (Vm.Alike.refl U.vm), fun i hi => (qT.2.1 i hi).same (U := U.calling g mk a) rfl, qT.2.2.moved (U := U.calling g mk a) (Vm.Alike.refl U.vm)⟩
theorem jB_post {st' : jS} {t : State} {H1 : Heap} {locs1 : List Loc} (hA : ∀ q, H0.size ≤ q → A q) (hB : jB G A H0 st H locs) (ht : t.heap = H1) (hb : jWd G (va_A (jW G st) H.size) st' t) (hS : va_S A H0 H1 locs1) : jB G A H0 st' H1 locs1 := ⟨hB.1, by rw [← ht]; exact hb.2.1, hb.2.2.2.1.weaken (fun _ _ _ h => jB_free hA hB _ h), hS⟩
variable {y : MethodName} {bytes : ByteArray} {nL n index : Nat} {ws : List Cond} {rm : Room} {As st0 : List Value} {C : String} {T : u_T} {N ci : Nat} {fs : List Value} {mL : Nat} {rt : Option FieldType}
theorem j_cvi {post : Int32 → jS → Prop} (x : jP) (As : List Value) (hC : jC p G s m meth c A cc ret maxL own Ts args) (hB : jB G A s.heap st H locs) (hl : ls.size = maxL) (hM : jMi l G y ws rm (.ref (G.2.2.1 x) :: As) st post) (cw : CallW R s args own C index y bytes mL rt ws rm 0 0 n) (hdg : decode cc pc = .ok (.invokevirtual index, 3)) (hx : jok x) (he : jw G.2.1 G.2.2.1 st x = .inr (ci, fs)) (hc : vwCl[ci]? = some (C, T, N)) (hn : As.length = n) (hstack : st0 = As.reverse ++ .ref (G.2.2.1 x) :: rest) (hW : (rest.map fun v => v.category).sum ≤ 8)
    (kk : ∀ r st' H locs, post r st' → jB G A s.heap st' H locs → W p l e R s m args below meth c H locs 0 0 Q (F0 m (pc + 3) ls (.int r :: rest))) : W p l e R s m args below meth c H locs 0 0 Q (F0 m pc ls st0) := by
  obtain ⟨hx', hb, hr', hml, hown, hts, hlocks, hK, hA, hN, hTx⟩ := hC
  obtain ⟨q0, hq⟩ := jW_get st hB.1 hx
  rw [he] at hq
  exact va_calli (va_runV (As := As) (rest := rest) ⟨hx', hb, hml, hown, hts⟩ (hM H.size) cw ⟨jPc_blind, va_recv hK hB.2.1 hc hq, fun U hU hWm => ⟨rfl, jB_pre hK hA ⟨hN, hTx⟩ hB hU hWm⟩⟩ rfl hn hl hstack (lv_room hW) hdg ⟨Nat.zero_le _, Nat.zero_le _⟩) hB.2.2.2 (fun q _ h => jB_free hA hB q h) (jB_free hA hB) (fun r u t H1 locs1 ht _ hp hb _ _ hS => kk r u H1 locs1 hp (jB_post hA hB ht hb hS))
theorem j_cvv {post : jS → Prop} (x : jP) (As : List Value) (hC : jC p G s m meth c A cc ret maxL own Ts args) (hB : jB G A s.heap st H locs) (hl : ls.size = maxL) (hM : jMv l G y ws rm (.ref (G.2.2.1 x) :: As) st post) (cw : CallW R s args own C index y bytes mL rt ws rm 0 0 n) (hdg : decode cc pc = .ok (.invokevirtual index, 3)) (hx : jok x) (he : jw G.2.1 G.2.2.1 st x = .inr (ci, fs)) (hc : vwCl[ci]? = some (C, T, N)) (hn : As.length = n) (hstack : st0 = As.reverse ++ .ref (G.2.2.1 x) :: rest) (hW : (rest.map fun v => v.category).sum ≤ 8)
    (kk : ∀ st' H locs, post st' → jB G A s.heap st' H locs → W p l e R s m args below meth c H locs 0 0 Q (F0 m (pc + 3) ls (rest))) : W p l e R s m args below meth c H locs 0 0 Q (F0 m pc ls st0) := by
  obtain ⟨hx', hb, hr', hml, hown, hts, hlocks, hK, hA, hN, hTx⟩ := hC
  obtain ⟨q0, hq⟩ := jW_get st hB.1 hx
  rw [he] at hq
  exact va_callv (va_runV (As := As) (rest := rest) ⟨hx', hb, hml, hown, hts⟩ (hM H.size) cw ⟨jPc_blind, va_recv hK hB.2.1 hc hq, fun U hU hWm => ⟨rfl, jB_pre hK hA ⟨hN, hTx⟩ hB hU hWm⟩⟩ rfl hn hl hstack (lv_room hW) hdg ⟨Nat.zero_le _, Nat.zero_le _⟩) hB.2.2.2 (fun q _ h => jB_free hA hB q h) (jB_free hA hB) (fun u t H1 locs1 ht _ hp hb _ _ hS => kk u H1 locs1 hp (jB_post hA hB ht hb hS))
theorem j_cvl {post : Int64 → jS → Prop} (x : jP) (As : List Value) (hC : jC p G s m meth c A cc ret maxL own Ts args) (hB : jB G A s.heap st H locs) (hl : ls.size = maxL) (hM : jMl l G y ws rm (.ref (G.2.2.1 x) :: As) st post) (cw : CallW R s args own C index y bytes mL rt ws rm 0 0 n) (hdg : decode cc pc = .ok (.invokevirtual index, 3)) (hx : jok x) (he : jw G.2.1 G.2.2.1 st x = .inr (ci, fs)) (hc : vwCl[ci]? = some (C, T, N)) (hn : As.length = n) (hstack : st0 = As.reverse ++ .ref (G.2.2.1 x) :: rest) (hW : (rest.map fun v => v.category).sum ≤ 8)
    (kk : ∀ r st' H locs, post r st' → jB G A s.heap st' H locs → W p l e R s m args below meth c H locs 0 0 Q (F0 m (pc + 3) ls (.long r :: rest))) : W p l e R s m args below meth c H locs 0 0 Q (F0 m pc ls st0) := by
  obtain ⟨hx', hb, hr', hml, hown, hts, hlocks, hK, hA, hN, hTx⟩ := hC
  obtain ⟨q0, hq⟩ := jW_get st hB.1 hx
  rw [he] at hq
  exact va_calll (va_runV (As := As) (rest := rest) ⟨hx', hb, hml, hown, hts⟩ (hM H.size) cw ⟨jPc_blind, va_recv hK hB.2.1 hc hq, fun U hU hWm => ⟨rfl, jB_pre hK hA ⟨hN, hTx⟩ hB hU hWm⟩⟩ rfl hn hl hstack (lv_room hW) hdg ⟨Nat.zero_le _, Nat.zero_le _⟩) hB.2.2.2 (fun q _ h => jB_free hA hB q h) (jB_free hA hB) (fun r u t H1 locs1 ht _ hp hb _ _ hS => kk r u H1 locs1 hp (jB_post hA hB ht hb hS))
theorem j_csi {post : Int32 → jS → Prop} (As : List Value) (hC : jC p G s m meth c A cc ret maxL own Ts args) (hB : jB G A s.heap st H locs) (hl : ls.size = maxL) (hM : jMi l G y ws rm As st post) (cw : CallB R s args own index y bytes mL rt ws rm 0 0 n ∧ (Cond.static y).before args s = true) (hdg : decode cc pc = .ok (.invokestatic index, 3)) (hn : As.length = n) (hstack : st0 = As.reverse ++ rest) (hW : (rest.map fun v => v.category).sum ≤ 8)
    (kk : ∀ r st' H locs, post r st' → jB G A s.heap st' H locs → W p l e R s m args below meth c H locs 0 0 Q (F0 m (pc + 3) ls (.int r :: rest))) : W p l e R s m args below meth c H locs 0 0 Q (F0 m pc ls st0) := by
  obtain ⟨hx', hb, hr', hml, hown, hts, hlocks, hK, hA, hN, hTx⟩ := hC
  exact va_calli (va_runS (As := As) (rest := rest) ⟨hx', hb, hml, hown, hts⟩ (hM H.size) cw ⟨jPc_blind, fun U hU hWm => ⟨rfl, jB_pre hK hA ⟨hN, hTx⟩ hB hU hWm⟩⟩ rfl hn hl hstack (lv_room hW) hdg ⟨Nat.zero_le _, Nat.zero_le _⟩) hB.2.2.2 (fun q _ h => jB_free hA hB q h) (jB_free hA hB) (fun r u t H1 locs1 ht _ hp hb _ _ hS => kk r u H1 locs1 hp (jB_post hA hB ht hb hS))
theorem j_csv {post : jS → Prop} (As : List Value) (hC : jC p G s m meth c A cc ret maxL own Ts args) (hB : jB G A s.heap st H locs) (hl : ls.size = maxL) (hM : jMv l G y ws rm As st post) (cw : CallB R s args own index y bytes mL rt ws rm 0 0 n ∧ (Cond.static y).before args s = true) (hdg : decode cc pc = .ok (.invokestatic index, 3)) (hn : As.length = n) (hstack : st0 = As.reverse ++ rest) (hW : (rest.map fun v => v.category).sum ≤ 8)
    (kk : ∀ st' H locs, post st' → jB G A s.heap st' H locs → W p l e R s m args below meth c H locs 0 0 Q (F0 m (pc + 3) ls (rest))) : W p l e R s m args below meth c H locs 0 0 Q (F0 m pc ls st0) := by
  obtain ⟨hx', hb, hr', hml, hown, hts, hlocks, hK, hA, hN, hTx⟩ := hC
  exact va_callv (va_runS (As := As) (rest := rest) ⟨hx', hb, hml, hown, hts⟩ (hM H.size) cw ⟨jPc_blind, fun U hU hWm => ⟨rfl, jB_pre hK hA ⟨hN, hTx⟩ hB hU hWm⟩⟩ rfl hn hl hstack (lv_room hW) hdg ⟨Nat.zero_le _, Nat.zero_le _⟩) hB.2.2.2 (fun q _ h => jB_free hA hB q h) (jB_free hA hB) (fun u t H1 locs1 ht _ hp hb _ _ hS => kk u H1 locs1 hp (jB_post hA hB ht hb hS))
theorem j_csl {post : Int64 → jS → Prop} (As : List Value) (hC : jC p G s m meth c A cc ret maxL own Ts args) (hB : jB G A s.heap st H locs) (hl : ls.size = maxL) (hM : jMl l G y ws rm As st post) (cw : CallB R s args own index y bytes mL rt ws rm 0 0 n ∧ (Cond.static y).before args s = true) (hdg : decode cc pc = .ok (.invokestatic index, 3)) (hn : As.length = n) (hstack : st0 = As.reverse ++ rest) (hW : (rest.map fun v => v.category).sum ≤ 8)
    (kk : ∀ r st' H locs, post r st' → jB G A s.heap st' H locs → W p l e R s m args below meth c H locs 0 0 Q (F0 m (pc + 3) ls (.long r :: rest))) : W p l e R s m args below meth c H locs 0 0 Q (F0 m pc ls st0) := by
  obtain ⟨hx', hb, hr', hml, hown, hts, hlocks, hK, hA, hN, hTx⟩ := hC
  exact va_calll (va_runS (As := As) (rest := rest) ⟨hx', hb, hml, hown, hts⟩ (hM H.size) cw ⟨jPc_blind, fun U hU hWm => ⟨rfl, jB_pre hK hA ⟨hN, hTx⟩ hB hU hWm⟩⟩ rfl hn hl hstack (lv_room hW) hdg ⟨Nat.zero_le _, Nat.zero_le _⟩) hB.2.2.2 (fun q _ h => jB_free hA hB q h) (jB_free hA hB) (fun r u t H1 locs1 ht _ hp hb _ _ hS => kk r u H1 locs1 hp (jB_post hA hB ht hb hS))
end JR
