/-! constructors: rows that tell the new heap exactly; contracts of constructors -/
def cnA (h0 sz : Nat) : Nat → Prop := fun q => q = h0 ∨ sz ≤ q
def msW : List Cond := [.methodLinkNest RX7 34 yX6_init "RiddlePrison", .methodLinkNest RX7 50 yX3_init "RiddlePrison", .methodLinkNest RX7 61 yX5_init "RiddlePrison", .methodLinkNest RX1 13 yX3_init "RiddlePrison", .methodLinkNest RX4 27 yX0_init "RiddlePrison", .methodLinkNest RX4 28 yX3_init "RiddlePrison"]
theorem msW_f : ∀ w ∈ msW, ∃ a i x h, w = .methodLinkNest a i x h := by
  intro w hw
  simp only [msW, List.mem_cons, List.not_mem_nil, or_false] at hw
  rcases hw with rfl | rfl | rfl | rfl | rfl | rfl <;> exact ⟨_, _, _, _, rfl⟩
def aoL : List String := [RX0, RX3, RX4, RX5]
/-- what a constructor needs of the tables beside its words -/
def cnP (D : va_G) (cA : Nat → ClassId) (U : State) : Prop := va_K D vwCl (jtys cA) U ∧ (∀ C ∈ aoL, va_AO C U) ∧ ∀ w ∈ msW, va_Nw w U
theorem cnP.warm {D : va_G} {cA : Nat → ClassId} {s U : State} (h : cnP D cA s) (hW : s.WarmedH U.vm) : cnP D cA U := ⟨va_K.moved hW.alike h.1, fun C hC => va_AO.moved hW.alike (h.2.1 C hC), fun w hw => by
  obtain ⟨a, i, x, k, rfl⟩ := msW_f w hw
  exact va_Nw.warmM hW (h.2.2 _ hw)⟩
theorem cnP.same {D : va_G} {cA : Nat → ClassId} {s U : State} (h : cnP D cA s) (hv : s.vm = U.vm) : cnP D cA U := ⟨va_K.moved (by rw [← hv]; exact Vm.Alike.refl _) h.1, fun C hC => va_AO.moved (by rw [← hv]; exact Vm.Alike.refl _) (h.2.1 C hC), fun w hw => by
  obtain ⟨a, i, x, k, rfl⟩ := msW_f w hw
  exact va_Nw.same rfl hv (h.2.2 _ hw)⟩
/-- behind a constructor: n new cells from sz on, and the receiver -/
def cnQ (D : va_G) (h0 sz n : Nat) (e1 : va_E) (F : Nat → va_E) (t : State) : Prop := t.heap.size = sz + n ∧ va_at D vwCl (h0, e1) t.heap ∧ ∀ i, i < n → va_at D vwCl (sz + i, F i) t.heap
def cnPc (D : va_G) (cA : Nat → ClassId) (h0 sz : Nat) (as : List Value) (e0 : va_E) : Array Value → State → Prop := va_Pc (.ref h0 :: as) (fun U => U.heap.size = sz ∧ cnP D cA U ∧ va_at D vwCl (h0, e0) U.heap)
def cnM (l : Launch) (D : va_G) (cA : Nat → ClassId) (y : MethodName) (ws : List Cond) (rm : Room) (h0 sz : Nat) (as : List Value) (e0 e1 : va_E) (n : Nat) (F : Nat → va_E) : Prop :=
  Met l y ws rm (cnPc D cA h0 sz as e0) (va_Qv (fun _ : Unit => True) (fun _ t => cnQ D h0 sz n e1 F t) (cnA h0 sz)) rm.cells rm.slots (cnA h0 sz)
abbrev cnZ (D : va_G) (below : List Frame) (s : State) (h0 sz : Nat) (as : List Value) (e1 : va_E) (n : Nat) (F : Nat → va_E) (cells slots : Nat) : State → Prop := MQ below (va_Qv (fun _ : Unit => True) (fun _ t => cnQ D h0 sz n e1 F t) (cnA h0 sz)) (Value.ref h0 :: as).toArray s cells slots (cnA h0 sz)
/-- what holds in a constructor's body -/
def cnC (p : Program) (D : va_G) (cA : Nat → ClassId) (s : State) (m : MethodId) (meth : Method) (c : Code) (cc : ByteArray) (maxL : Nat) (own : String) (ws : List Cond) (args : Array Value) : Prop :=
  p.tables.exec = Jvm.exec ∧ c.code = cc ∧ meth.sig.returnType = none ∧ c.maxLocals = maxL ∧ s.vm.findClass own = some m.cls ∧ (∀ w ∈ ws, w.before args s = true) ∧ meth.locks = false ∧ meth.name = "<init>" ∧ cnP D cA s
theorem cnM_of {l : Launch} {D : va_G} {cA : Nat → ClassId} {y : MethodName} {ws ws' : List Cond} {rm : Room} {h0 sz : Nat} {as : List Value} {e0 e1 : va_E} {n : Nat} {F : Nat → va_E} {cc : ByteArray} {maxL : Nat} {lv0 : List (Nat × Value)} (hy : plainName y.cls = true) (hyi : y.name = "<init>") (hw : ws = Cond.code y cc maxL none :: ws') (hle : (lg_sl (.ref h0 :: as)).length ≤ maxL) (hlv : lv_args 0 (.ref h0 :: as) = lv0)
    (body : ∀ p e s m below meth c ls, cnC p D cA s m meth c cc maxL y.cls ws (Value.ref h0 :: as).toArray → s.heap.size = sz → va_at D vwCl (h0, e0) s.heap → lv_has ls maxL lv0 → W p l e rm s m (Value.ref h0 :: as).toArray below meth c s.heap [] 0 0 (cnZ D below s h0 sz as e1 n F rm.cells rm.slots) (F0 m 0 ls [])) : cnM l D cA y ws rm h0 sz as e0 e1 n F := by
  refine Met.ofW (cc := cc) (maxL := maxL) (ret := none) hy hw ?_
  intro p e s m args below meth c s₁ B hml hv
  obtain ⟨rfl, hsz, hP, hE⟩ := hv
  have hts := atoms_spec (ws := ws) B.pre
  have hown : s.vm.findClass y.cls = some m.cls := findClass_of_methodNamed B.named
  have hin : meth.name = "<init>" := ((name_of_methodNamed B.named B.method).1).trans hyi
  have hl := lv_entry (.ref h0 :: as) (n := maxL) hle
  rw [lg_entry_eq]
  rw [hlv] at hl
  exact body p e s m below meth c _ ⟨B.exec, B.bytes, B.returns, hml, hown, hts, B.notSynchronized, hin, hP⟩ hsz hE hl
section CN
variable {p : Program} {l : Launch} {e : Env} {R : Room} {s : State} {m : MethodId} {args : Array Value} {below : List Frame} {meth : Method} {c : Code} {H H0 : Heap} {locs : List Loc} {cells slots : Nat} {Q : State → Prop} {D : va_G} {cA : Nat → ClassId} {cl : List vw_C} {tys : List (ClassId × FieldType)} {cc : ByteArray} {pc : Nat} {ls : Array Slot} {rest : List Value} {a : Nat} {A : Nat → Prop} {Ts : List Cond} {own : String} {maxL : Nat}
theorem cn_P1 {q : Nat × va_E} (h : va_at D cl q H) : va_P D cl [q] H := fun k x hx => by
  match k, hx with
  | 0, hx => cases hx; exact h
theorem cn_S {H1 : Heap} {z : Nat} (hS : va_S A H0 H locs) (hz : H.size = z) (z1 : z ≤ H1.size) (o1 : ∀ q, q < z → H1[q]? = H[q]?) : va_S A H0 H1 locs := by
  have h := hS.1
  exact ⟨by omega, fun q h1 h2 => (o1 q (by omega)).trans (hS.2.1 q h1 h2), hS.2.2⟩
theorem cn_ret {h0 sz n : Nat} {as : List Value} {e1 : va_E} {F : Nat → va_E} (hC : cnC p D cA s m meth c cc maxL own Ts (Value.ref h0 :: as).toArray) (hS : va_S (cnA h0 sz) s.heap H locs) (hH : H.size = sz + n) (h1 : va_at D vwCl (h0, e1) H) (hF : ∀ i, i < n → va_at D vwCl (sz + i, F i) H) (hdg : decode cc pc = .ok (.return_, 1)) : W p l e R s m (Value.ref h0 :: as).toArray below meth c H locs cells slots (cnZ D below s h0 sz as e1 n F cells slots) (F0 m pc ls []) := by
  obtain ⟨hx, hb, hr, hml, hown, hts, hlocks, hin, hP⟩ := hC
  exact W.vret hx hb hr (fun t ht hW => ⟨⟨(), rfl, trivial, by rw [ht]; exact hH, by rw [ht]; exact h1, fun i hi => by rw [ht]; exact hF i hi⟩, hS.F ht⟩) hS.2.2 hdg
theorem cn_obj {idx : Nat} (hC : cnC p D cA s m meth c cc maxL own Ts args) (hl : ls.size = maxL) (hlink : Cond.methodLink own idx objectInit ∈ Ts) (hinst : Cond.instanceMethod objectInit ∈ Ts) (hcode : Cond.code objectInit ⟨#[0xb1]⟩ 1 none ∈ Ts) (hd : decode cc pc = .ok (.invokespecial idx, 3)) (hframes : 1 ≤ R.frames) (hlocals : 12 ≤ R.locals)
    (kk : W p l e R s m args below meth c H locs cells slots Q (F0 m (pc + 3) ls [])) : W p l e R s m args below meth c H locs cells slots Q (F0 m pc ls [.ref a]) := by
  obtain ⟨hx, hb, hr, hml, hown, hts, hlocks, hin, hP⟩ := hC
  exact W.objInit hx hb hown (hts _ hlink) (hts _ hinst) (hts _ hcode) rfl (by rw [hml]; exact hl) rfl hd hframes hlocals kk
theorem cn_new {C : String} {T : u_T} {N ci index : Nat} {ty : Nat → FieldType} (hC : cnC p D cA s m meth c cc maxL own Ts args) (hin : ∀ w ∈ u_ws C T N, w ∈ Ts) (hty : ∀ k, k < N → parseFieldDescriptor (T k).2.2.1 = some (ty k)) (hcl : Cond.classLink own index C ∈ Ts) (hinst : Cond.instantiable C N ∈ Ts) (hini : Cond.initialized C ∈ Ts)
    (hc : vwCl[ci]? = some (C, T, N)) (fs : List Value) (hfs : ∀ j, j < N → defaultValue (ty j) = vp_V fs j) (hcells : cells + 1 ≤ R.cells) (hslots : slots + N ≤ R.slots) (hdg : decode cc pc = .ok (.new index, 3)) {z : Nat} (hz : H.size = z) (hS : va_S A H0 H locs)
    (kk : ∀ H1 : Heap, va_at D vwCl (z, .inr (ci, fs)) H1 → H1.size = z + 1 → (∀ q, q < z → H1[q]? = H[q]?) → va_S A H0 H1 locs →
      W p l e R s m args below meth c H1 locs (cells + 1) (slots + N) Q (F0 m (pc + 3) ls (.ref z :: rest))) : W p l e R s m args below meth c H locs cells slots Q (F0 m pc ls rest) := by
  obtain ⟨hx, hb, hr, hml, hown, hts, hlocks, hin2, hP⟩ := hC
  have hKn := hP.1.1 ci _ hc
  refine W.newcK hx hb hown (hts _ hcl) (hts _ hinst) (hts _ hini) rfl hdg hcells hslots hKn.2.1 hz fun H1 kC hkC e1 z1 o1 => ?_
  exact kk H1 ⟨_, hc, (u_born ty hts hin hKn hkC e1 hty).to hfs⟩ z1 o1 (cn_S hS hz (by omega) o1)
theorem cn_newa {atype : ArrayType} {ty : FieldType} {cX : ClassId} {t0 : Nat} (hC : cnC p D cA s m meth c cc maxL own Ts args) (harr : Cond.arrayClass (newarray.typeOf atype) ∈ Ts) (hty : newarray.typeOf atype = ty) (ht : (jtys cA)[t0]? = some (cX, ty)) (hno : ∀ C, ty ≠ .object C)
    {n : Int32} {N' : Nat} {a0 : vp_A} (ha : ∀ cA : ClassId, vp_cell cA a0 = arrV cA N' (fun _ => defaultValue ty)) (hn : ¬ n < 0) (hN : n.toNatClampNeg = N') (hbytes : N' * componentBytes ty ≤ 536870912) (hcells : cells + 1 ≤ R.cells) (hslots : slots + N' ≤ R.slots) (hdg : decode cc pc = .ok (.newarray atype, 2)) {z : Nat} (hz : H.size = z) (hS : va_S A H0 H locs)
    (kk : ∀ H1 : Heap, va_at D vwCl (z, .inl (cX, a0)) H1 → H1.size = z + 1 → (∀ q, q < z → H1[q]? = H[q]?) → va_S A H0 H1 locs →
      W p l e R s m args below meth c H1 locs (cells + 1) (slots + N') Q (F0 m (pc + 2) ls (.ref z :: rest))) : W p l e R s m args below meth c H locs cells slots Q (F0 m pc ls (.int n :: rest)) := by
  obtain ⟨hx, hb, hr, hml, hown, hts, hlocks, hin2, hP⟩ := hC
  subst hty
  refine va_newaK hx hb (hts _ harr) rfl hdg rfl hn hN hbytes hcells hslots hz fun H1 cX' e1 z1 o1 hAr hNm => ?_
  have hRA := (hP.1.2 t0 _ ht).2
  have hsame : cX' = cX := by
    have h2 : s.vm.findClass ("[" ++ (newarray.typeOf atype).toString) = some cX := by
      cases atype <;> exact hRA
    exact Option.some.inj (hNm.symm.trans h2)
  subst hsame
  refine kk H1 ?_ z1 o1 (cn_S hS hz (by omega) o1)
  show H1[z]? = some (vp_cell _ _)
  rw [ha]
  exact e1
theorem cn_newq {C : String} {index : Nat} {cX : ClassId} {t0 : Nat} (hC : cnC p D cA s m meth c cc maxL own Ts args) (hcl : Cond.classLink own index C ∈ Ts) (hover : C ∈ aoL) (ht : (jtys cA)[t0]? = some (cX, .object C))
    {n : Int32} {N' : Nat} (hn : ¬ n < 0) (hN : n.toNatClampNeg = N') (hbytes : N' * 4 ≤ 536870912) (hcells : cells + 1 ≤ R.cells) (hslots : slots + N' ≤ R.slots) (hdg : decode cc pc = .ok (.anewarray index, 3)) {z : Nat} (hz : H.size = z) (hS : va_S A H0 H locs)
    (kk : ∀ H1 : Heap, va_at D vwCl (z, .inl (cX, N', jR (fun _ => none))) H1 → H1.size = z + 1 → (∀ q, q < z → H1[q]? = H[q]?) → va_S A H0 H1 locs →
      W p l e R s m args below meth c H1 locs (cells + 1) (slots + N') Q (F0 m (pc + 3) ls (.ref z :: rest))) : W p l e R s m args below meth c H locs cells slots Q (F0 m pc ls (.int n :: rest)) := by
  obtain ⟨hx, hb, hr, hml, hown, hts, hlocks, hin2, hP⟩ := hC
  subst hN
  refine W.anew hx hb hown (hts _ hcl) (va_AO.use (hP.2.1 C hover)) rfl hdg rfl hn hbytes hcells hslots fun cX' kA comp f1 f2 f3 f4 => ?_
  obtain ⟨kA2, comp2, k1, k2, k3, k4⟩ := (hP.1.2 t0 _ ht).2
  have hsame : cX' = cX := Option.some.inj (f1.symm.trans k4)
  subst hsame
  subst hz
  generalize hH1 : H.push ({ cls := cX', slots := Array.replicate n.toNatClampNeg .null, vm := .none } : Cell) = H1
  have z1 : H1.size = H.size + 1 := by rw [← hH1, Array.size_push]
  have e1 : H1[H.size]? = some (arrV cX' n.toNatClampNeg (fun _ => .null)) := by rw [← hH1, Array.getElem?_push_size, ← arrV_new]
  have o1 : ∀ q : Nat, q < H.size → H1[q]? = H[q]? := fun q hq => by rw [← hH1, Array.getElem?_push, if_neg (Nat.ne_of_lt hq)]
  refine kk H1 ?_ z1 o1 (cn_S hS rfl (by omega) o1)
  show H1[H.size]? = some (vp_cell _ _)
  rw [vp_cell_q]
  exact e1
theorem cn_get {C : String} {T : u_T} {N ci index : Nat} (k : Nat) {fs : List Value} {v : Value} (hC : cnC p D cA s m meth c cc maxL own Ts args) (hin : ∀ w ∈ u_ws C T N, w ∈ Ts) (hlink : Cond.fieldLink own index (T k).1 (T k).2.1 (T k).2.2.1 ∈ Ts) (hdg : decode cc pc = .ok (.getfield index, 3)) (he : va_at D vwCl (a, .inr (ci, fs)) H) (hc : vwCl[ci]? = some (C, T, N)) (hk : k < N) (hv : fs[k]? = some v)
    (kk : W p l e R s m args below meth c H locs cells slots Q (F0 m (pc + 3) ls (v :: rest))) : W p l e R s m args below meth c H locs cells slots Q (F0 m pc ls (.ref a :: rest)) := by
  obtain ⟨hx, hb, hr, hml, hown, hts, hlocks, hin2, hP⟩ := hC
  exact va_get hx hb hts hin hown hP.1 (cn_P1 he) 0 rfl hc k hk (hts _ hlink) (fun _ h9 => h9) hv hdg kk
/-- putfield in a constructor: a final field of its own class, or one that is not final -/
theorem cn_put {C : String} {T : u_T} {N ci index : Nat} (k : Nat) {ty0 : Nat → FieldType} {ty : FieldType} {fs : List Value} {v : Value} (hC : cnC p D cA s m meth c cc maxL own Ts args) (hin : ∀ w ∈ u_ws C T N, w ∈ Ts) (hty : ∀ k, k < N → parseFieldDescriptor (T k).2.2.1 = some (ty0 k)) (hnm : ∀ a, a < N → ∀ b, b < N → a ≠ b → (T a).2.1 ≠ (T b).2.1) (hlink : Cond.fieldLink own index (T k).1 (T k).2.1 (T k).2.2.1 ∈ Ts) (hdg : decode cc pc = .ok (.putfield index, 3)) (he : va_at D vwCl (a, .inr (ci, fs)) H) (hc : vwCl[ci]? = some (C, T, N)) (hk : k < N) (hdecl : (T k).1 = own) (hd : parseFieldDescriptor (T k).2.2.1 = some ty) (hn : narrow ty v = v) (hfit : fits ty v = true) (hl : k < fs.length) (hS : va_S A H0 H locs) (hAa : A a)
    (kk : ∀ (H1 : Heap) (locs1 : List Loc), va_at D vwCl (a, .inr (ci, fs.set k v)) H1 → H1.size = H.size → (∀ q, q ≠ a → H1[q]? = H[q]?) → va_S A H0 H1 locs1 → W p l e R s m args below meth c H1 locs1 cells slots Q (F0 m (pc + 3) ls rest)) : W p l e R s m args below meth c H locs cells slots Q (F0 m pc ls (v :: .ref a :: rest)) := by
  obtain ⟨hx, hb, hr, hml, hown, hts, hlocks, hin2, hP⟩ := hC
  have hK := hP.1
  have hap := va_apart (own := own) hts hin ty0 hty hnm hK hc
  obtain ⟨r, h1, cell, q1, q2, q3, q4⟩ := he
  have hr : r = (C, T, N) := Option.some.inj (h1.symm.trans hc)
  subst hr
  obtain ⟨hSl, hfc, kC, hkC, hkind⟩ := hK.1 ci _ hc
  obtain ⟨cf, kf, fi, f, hi, hsl⟩ := hSl k hk
  have hlay := hts _ (hin _ (u_in_lay hk))
  have hst := (u_facts hfc hkC (u_lays hts hin hk) hi).1
  by_cases hfin : (T k).2.2.2 = true
  · unfold u_lay at hlay
    rw [if_pos hfin] at hlay
    have hcf : m.cls = cf := by
      obtain ⟨_, _, c', _, _, _, -, -, hf', -, -, -, hown2, -⟩ := Cond.laysFinal_spec hlay
      have e1 : c' = cf := by have := hi.symm.trans hf'; simp at this; exact this.1.symm
      rw [hdecl] at hown2
      rw [← e1]; exact Option.some.inj (hown.symm.trans hown2)
    have h6 := u_fits hfc hkC hkind (Or.inr hlay) hi hd hn hfit
    refine W.putFinK hx hb hown (hts _ hlink) hi hst hcf hin2 (by rw [q2]; exact h6) q1 q3 (by rw [hsl]; exact k2_hasslot (q4 k hk)) rfl rfl hdg fun H' e1 e2 e3 => ?_
    rw [hsl] at e1 ⊢
    exact kk H' _ ⟨_, hc, t_OB.to (V := updV (vp_V fs) k v) ⟨_, e1, q2, q3, t_set q4 hap hk v⟩ (fun j _ => vp_updV_set hl v j)⟩ e2 e3 (hS.put e2 e3 hAa)
  · unfold u_lay at hlay
    rw [if_neg hfin] at hlay
    have h6 := u_store hfc hkC hkind hlay hi hd hn hfit
    refine W.putK hx hb (f := f) ⟨hown, hts _ hlink, ⟨_, _, _, hi⟩, hst⟩ (by rw [q2]; exact h6) q1 q3 (by rw [hsl]; exact k2_hasslot (q4 k hk)) rfl rfl hdg fun H' e1 e2 e3 => ?_
    rw [hsl] at e1 ⊢
    exact kk H' _ ⟨_, hc, t_OB.to (V := updV (vp_V fs) k v) ⟨_, e1, q2, q3, t_set q4 hap hk v⟩ (fun j _ => vp_updV_set hl v j)⟩ e2 e3 (hS.put e2 e3 hAa)
theorem cn_astq {cX : ClassId} {r : vw_C} {n v t0 ci j : Nat} {vs : List Value} {f : Nat → Option Nat} (hC : cnC p D cA s m meth c cc maxL own Ts args) (ha : va_at D vwCl (a, .inl (cX, n, jR f)) H) (ht : (jtys cA)[t0]? = some (cX, .object r.1)) (hv : va_at D vwCl (v, .inr (ci, vs)) H) (hc : vwCl[ci]? = some r) (hj : j < n) (hn : n < 2 ^ 31) (hdg : decode cc pc = .ok (.aastore, 1)) (hS : va_S A H0 H locs) (hAa : A a)
    (kk : ∀ (H1 : Heap) (locs1 : List Loc), va_at D vwCl (a, .inl (cX, n, jR (va_up f j (some v)))) H1 → H1.size = H.size → (∀ q, q ≠ a → H1[q]? = H[q]?) → va_S A H0 H1 locs1 → W p l e R s m args below meth c H1 locs1 cells slots Q (F0 m (pc + 1) ls rest)) : W p l e R s m args below meth c H locs cells slots Q (F0 m pc ls (.ref v :: .int (nI j) :: .ref a :: rest)) := by
  obtain ⟨hx, hb, hr, hml, hown, hts, hlocks, hin2, hP⟩ := hC
  have hK := hP.1
  have hin : vp_in (nI j) n := vp_in_nI hj hn
  have hj2 : (nI j).toNatClampNeg = j := nI_clamp (by omega)
  have hlt : (nI j).toNatClampNeg < n := Nat.not_le.mp fun q => hin (Or.inr q)
  have h0 : ¬ nI j < 0 := fun q => hin (Or.inl q)
  obtain ⟨r', hr', cellV, g1, g2, g3, -⟩ := hv
  have hcls := (hK.1 ci r hc).2
  obtain ⟨kA, comp, k1, k2, k3, -⟩ := (hK.2 t0 _ ht).2
  have hcomp : comp = D.1 ci := Option.some.inj (k3.symm.trans hcls.1)
  subst hcomp
  obtain ⟨kC, hkC, -⟩ := hcls.2
  refine W.aast hx hb ha (fun q h => by cases h) (fun h => by cases h) k1 k2 rfl hkC ⟨h0, by show _ < (arrV _ _ _).slots.size; rw [arrV_size]; exact hlt⟩ g1 (fun q h => by rw [g3] at h; cases h) (by rw [g2]; exact hkC) (by rw [g2]; exact va_assign hcls) rfl rfl hdg fun H1 e z oq => ?_
  refine kk H1 _ ?_ z oq (hS.put z oq hAa)
  show H1[a]? = some (vp_cell _ _)
  rw [e]
  rw [vp_cell_q, vp_cell_q, arrV_store]
  congr 2
  funext q
  rw [hj2]
  by_cases hq : q = j
  · subst hq
    simp [updV, va_up, va_rf]
  · simp [updV, va_up, hq]
theorem cn_iast {cX : ClassId} {n t0 j : Nat} {x : Int32} {f : Nat → Int32} (hC : cnC p D cA s m meth c cc maxL own Ts args) (ha : va_at D vwCl (a, .inl (cX, n, .inl f)) H) (ht : (jtys cA)[t0]? = some (cX, .int)) (hj : j < n) (hn : n < 2 ^ 31) (hdg : decode cc pc = .ok (.iastore, 1)) (hS : va_S A H0 H locs) (hAa : A a)
    (kk : ∀ (H1 : Heap) (locs1 : List Loc), va_at D vwCl (a, .inl (cX, n, .inl (upd f j x))) H1 → H1.size = H.size → (∀ q, q ≠ a → H1[q]? = H[q]?) → va_S A H0 H1 locs1 → W p l e R s m args below meth c H1 locs1 cells slots Q (F0 m (pc + 1) ls rest)) : W p l e R s m args below meth c H locs cells slots Q (F0 m pc ls (.int x :: .int (nI j) :: .ref a :: rest)) := by
  obtain ⟨hx, hb, hr, hml, hown, hts, hlocks, hin2, hP⟩ := hC
  have hK := hP.1
  have hin : vp_in (nI j) n := vp_in_nI hj hn
  have hj2 : (nI j).toNatClampNeg = j := nI_clamp (by omega)
  refine W.iast hx hb ha ((hK.2 t0 _ ht).1 n (fun j => .int (f j))) (fun q => by cases q) (by show ¬ (nI j < 0 ∨ (arrV _ _ _).slots.size ≤ _); rw [arrV_size]; exact hin) rfl rfl hdg fun H1 e z oq => ?_
  refine kk H1 _ ?_ z oq (hS.put z oq hAa)
  show H1[a]? = some (vp_cell _ _)
  rw [e]
  rw [vp_cell_i, vp_cell_i, arrV_store]
  congr 2
  funext q
  rw [hj2]
  by_cases hq : q = j
  · subst hq
    simp [updV, upd]
  · simp [updV, upd, hq]
theorem cnPc_blind {h0 sz : Nat} {as : List Value} {e0 : va_E} : FrameBlind (cnPc D cA h0 sz as e0) := by
  intro a U g mk q
  obtain ⟨q0, q1, q2, q3⟩ := q
  exact ⟨q0, q1, q2.same (U := U.calling g mk a) rfl, q3⟩
variable {y : MethodName} {bytes : ByteArray} {n index mL : Nat} {ws : List Cond} {rm : Room} {e0 e1 : va_E} {r z : Nat} {as st0 : List Value} {F : Nat → va_E}
/-- a constructor's call: on a receiver at r, the heap's size z -/
theorem cn_call (hS : va_S A H0 H locs) (hA : ∀ q, H0.size ≤ q → A q) (hAr : A r) (hz : H.size = z) (run : va_Run p l e R s m args below meth c H locs cells slots rm.cells rm.slots (F0 m pc ls st0) rest (va_Qv (fun _ : Unit => True) (fun _ t => cnQ D r z n e1 F t) (cnA r z) (Value.ref r :: as).toArray) (cnA r z))
    (kk : ∀ (H1 : Heap) (locs1 : List Loc), H1.size = z + n → va_at D vwCl (r, e1) H1 → (∀ i, i < n → va_at D vwCl (z + i, F i) H1) → (∀ q, q < z → q ≠ r → H1[q]? = H[q]?) → va_S A H0 H1 locs1 → W p l e R s m args below meth c H1 locs1 (cells + rm.cells) (slots + rm.slots) Q (F0 m (pc + 3) ls rest)) : W p l e R s m args below meth c H locs cells slots Q (F0 m pc ls st0) := by
  have hfr : ∀ q, cnA r z q → A q := by
    rintro q (h | h)
    · rw [h]; exact hAr
    · exact hA q (Nat.le_trans hS.1 (by omega))
  refine va_callv run hS (fun q _ h => hfr q h) hfr (fun u t H1 locs1 ht hvm hp hB hz1 hk1 hS1 => ?_)
  obtain ⟨b1, b2, b3⟩ := hB
  subst ht
  refine kk _ locs1 b1 b2 b3 (fun q hq hne => hk1 q (by omega) ?_) hS1
  rintro (h | h)
  · exact hne h
  · omega
theorem cn_callI {n' : Nat} (hC : cnC p D cA s m meth c cc maxL own Ts args) (hl : ls.size = maxL) (hM : cnM l D cA y ws rm r z as e0 e1 n F) (cw : CallB R s args own index y bytes mL none ws rm rm.cells rm.slots n' ∧ y.name = "<init>" ∧ (Cond.instanceMethod y).before args s = true) (hn : as.length = n') (hstack : st0 = as.reverse ++ .ref r :: rest) (hW : (rest.map fun v => v.category).sum ≤ 8) (hdg : decode cc pc = .ok (.invokespecial index, 3)) (hf : cells + rm.cells ≤ R.cells ∧ slots + rm.slots ≤ R.slots) (he : va_at D vwCl (r, e0) H) (hS : va_S A H0 H locs) (hA : ∀ q, H0.size ≤ q → A q) (hAr : A r) (hz : H.size = z)
    (kk : ∀ (H1 : Heap) (locs1 : List Loc), H1.size = z + n → va_at D vwCl (r, e1) H1 → (∀ i, i < n → va_at D vwCl (z + i, F i) H1) → (∀ q, q < z → q ≠ r → H1[q]? = H[q]?) → va_S A H0 H1 locs1 → W p l e R s m args below meth c H1 locs1 (cells + rm.cells) (slots + rm.slots) Q (F0 m (pc + 3) ls rest)) : W p l e R s m args below meth c H locs cells slots Q (F0 m pc ls st0) := by
  obtain ⟨hx, hb, hr, hml, hown, hts, hlocks, hin2, hP⟩ := hC
  exact cn_call (as := as) hS hA hAr hz (va_runI (As := as) (rest := rest) ⟨hx, hb, hml, hown, hts⟩ hM cw ⟨cnPc_blind, fun U hU hW => ⟨rfl, by rw [hU]; exact hz, hP.warm hW, by rw [hU]; exact he⟩⟩ rfl hn hl hstack (lv_room hW) hdg hf) kk
theorem cn_callN {n' : Nat} {host : String} (hC : cnC p D cA s m meth c cc maxL own Ts args) (hl : ls.size = maxL) (hM : cnM l D cA y ws rm r z as e0 e1 n F) (cw : va_CN R s args own index y host bytes mL none ws rm rm.cells rm.slots n' ∧ y.name = "<init>" ∧ (Cond.instanceMethod y).before args s = true) (hn : as.length = n') (hstack : st0 = as.reverse ++ .ref r :: rest) (hW : (rest.map fun v => v.category).sum ≤ 8) (hdg : decode cc pc = .ok (.invokespecial index, 3)) (hf : cells + rm.cells ≤ R.cells ∧ slots + rm.slots ≤ R.slots) (he : va_at D vwCl (r, e0) H) (hS : va_S A H0 H locs) (hA : ∀ q, H0.size ≤ q → A q) (hAr : A r) (hz : H.size = z)
    (kk : ∀ (H1 : Heap) (locs1 : List Loc), H1.size = z + n → va_at D vwCl (r, e1) H1 → (∀ i, i < n → va_at D vwCl (z + i, F i) H1) → (∀ q, q < z → q ≠ r → H1[q]? = H[q]?) → va_S A H0 H1 locs1 → W p l e R s m args below meth c H1 locs1 (cells + rm.cells) (slots + rm.slots) Q (F0 m (pc + 3) ls rest)) : W p l e R s m args below meth c H locs cells slots Q (F0 m pc ls st0) := by
  obtain ⟨hx, hb, hr, hml, hown, hts, hlocks, hin2, hP⟩ := hC
  exact cn_call (as := as) hS hA hAr hz (va_runIN (As := as) (rest := rest) ⟨hx, hb, hml, hown, hts⟩ hM cw ⟨cnPc_blind, fun U hU hW => ⟨rfl, by rw [hU]; exact hz, hP.warm hW, by rw [hU]; exact he⟩⟩ rfl hn hl hstack (lv_room hW) hdg hf) kk
end CN
