/-! one step of the script -/
theorem jl_ld {p : Program} {l : Launch} {e : Env} {s : State} {m : MethodId} {below : List Frame} {meth : Method} {c : Code} {H : Heap} {locs : List Loc} {cells slots : Nat} {Q : State → Prop} {G : jG} {A : Nat → Prop} {ret : Option FieldType} {ls : Array Slot} {b L i : Nat} {xs : Nat → Int32} {st : jS} {pc : Nat} {rest : List Value} {j : Int} {jn : Nat} (hC : jC p G s m meth c A cL_law ret 4 RL wsL_law #[Value.ref b]) (hl : lv_has ls 4 [(0, .ref b), (1, .ref (G.2.2.1 (0, 0, 0))), (2, .ref (G.2.2.1 (20, 0, 0))), (3, .int (nI i))]) (hX : va_X b L xs s s.heap) (hbl : b < s.heap.size) (hbA : ¬ A b) (hL : L ≤ 448) (hB : jB G A s.heap st H locs) (hin : i + jn < L) (d0 : decode cL_law pc = .ok (.aload_n 0, 1)) (d1 : decode cL_law (pc + 1) = .ok (.iload_n 3, 1)) (d2 : decode cL_law (pc + 1 + 1) = .ok (.iconst j, 1)) (d3 : decode cL_law (pc + 1 + 1 + 1) = .ok (.iadd, 1)) (d4 : decode cL_law (pc + 1 + 1 + 1 + 1) = .ok (.iaload, 1)) (hj : Int32.ofInt j = nI jn) (kk : W p l e room_1 s m #[Value.ref b] below meth c H locs cells slots Q (F0 m (pc + 1 + 1 + 1 + 1 + 1) ls (.int (xs (i + jn)) :: rest))) : W p l e room_1 s m #[Value.ref b] below meth c H locs cells slots Q (F0 m pc ls rest) := by
  obtain ⟨hx, hb, -⟩ := id hC
  refine lv_aload_n hx hb d0 rfl (lv_at hl 0 rfl) ?_
  refine lv_iload_n hx hb d1 rfl (lv_at hl 3 rfl) ?_
  refine lv_iconst hx hb d2 hj ?_
  refine lv_iadd hx hb d3 ?_
  rw [nI_add]
  refine va_sld hx hb hX hbl hbA hB.2.2.2 (nI_in hin (by omega)) d4 ?_
  rw [nI_clamp (by omega)]
  exact kk

theorem jl_ld6 {p : Program} {l : Launch} {e : Env} {s : State} {m : MethodId} {below : List Frame} {meth : Method} {c : Code} {H : Heap} {locs : List Loc} {cells slots : Nat} {Q : State → Prop} {G : jG} {A : Nat → Prop} {ret : Option FieldType} {ls : Array Slot} {b L i : Nat} {xs : Nat → Int32} {st : jS} {pc : Nat} {rest : List Value} (hC : jC p G s m meth c A cL_law ret 4 RL wsL_law #[Value.ref b]) (hl : lv_has ls 4 [(0, .ref b), (1, .ref (G.2.2.1 (0, 0, 0))), (2, .ref (G.2.2.1 (20, 0, 0))), (3, .int (nI i))]) (hX : va_X b L xs s s.heap) (hbl : b < s.heap.size) (hbA : ¬ A b) (hL : L ≤ 448) (hB : jB G A s.heap st H locs) (hin : i + 6 < L) (d0 : decode cL_law pc = .ok (.aload_n 0, 1)) (d1 : decode cL_law (pc + 1) = .ok (.iload_n 3, 1)) (d2 : decode cL_law (pc + 1 + 1) = .ok (.bipush 6, 2)) (d3 : decode cL_law (pc + 1 + 1 + 2) = .ok (.iadd, 1)) (d4 : decode cL_law (pc + 1 + 1 + 2 + 1) = .ok (.iaload, 1)) (kk : W p l e room_1 s m #[Value.ref b] below meth c H locs cells slots Q (F0 m (pc + 1 + 1 + 2 + 1 + 1) ls (.int (xs (i + 6)) :: rest))) : W p l e room_1 s m #[Value.ref b] below meth c H locs cells slots Q (F0 m pc ls rest) := by
  obtain ⟨hx, hb, -⟩ := id hC
  refine lv_aload_n hx hb d0 rfl (lv_at hl 0 rfl) ?_
  refine lv_iload_n hx hb d1 rfl (lv_at hl 3 rfl) ?_
  refine lv_bipush (v := nI 6) hx hb d2 (by decide) ?_
  refine lv_iadd hx hb d3 ?_
  rw [nI_add]
  refine va_sld hx hb hX hbl hbA hB.2.2.2 (nI_in hin (by omega)) d4 ?_
  rw [nI_clamp (by omega)]
  exact kk

theorem lc_door {p : Program} {l : Launch} {e : Env} {s : State} {m : MethodId} {below : List Frame} {meth : Method} {c : Code} {H : Heap} {locs : List Loc} {cells slots : Nat} {Q : State → Prop} {G : jG} {A : Nat → Prop} {ret : Option FieldType} {ls : Array Slot} {b L i : Nat} {xs : Nat → Int32} {I : Nat → Nat → Int32} {J : Nat → Nat → Int64} {O : Nat → Nat → Nat} (hC : jC p G s m meth c A cL_law ret 4 RL wsL_law #[Value.ref b]) (hl : lv_has ls 4 [(0, .ref b), (1, .ref (G.2.2.1 (0, 0, 0))), (2, .ref (G.2.2.1 (20, 0, 0))), (3, .int (nI i))]) (hX : va_X b L xs s s.heap) (hbl : b < s.heap.size) (hbA : ¬ A b) (hL : L ≤ 448) (hB : jB G A s.heap (I, J, O) H locs) (hR : jRel (I, J, O)) (hi : i + 7 ≤ L) (hf : cells ≤ room_1.cells ∧ slots ≤ room_1.slots) (kk : ∀ st H locs, jB G A s.heap st H locs → jRel st → W p l e room_1 s m #[Value.ref b] below meth c H locs cells slots Q (F0 m 1429 ls [])) : W p l e room_1 s m #[Value.ref b] below meth c H locs cells slots Q (F0 m 184 ls []) := by
  obtain ⟨hx, hb, hr, hml, hown, hts, hlocks, hK, hA⟩ := id hC
  refine lv_aload_n hx hb dL_law_184 rfl (lv_at hl 1 rfl) ?_
  refine jl_ld (jn := 1) hC hl hX hbl hbA hL hB (by omega) dL_law_185 dL_law_186 dL_law_187 dL_law_188 dL_law_189 (by decide) ?_
  refine jl_ld (jn := 2) hC hl hX hbl hbA hL hB (by omega) dL_law_190 dL_law_191 dL_law_192 dL_law_193 dL_law_194 (by decide) ?_
  refine jl_ld (jn := 3) hC hl hX hbl hbA hL hB (by omega) dL_law_195 dL_law_196 dL_law_197 dL_law_198 dL_law_199 (by decide) ?_
  refine jl_ld (jn := 4) hC hl hX hbl hbA hL hB (by omega) dL_law_200 dL_law_201 dL_law_202 dL_law_203 dL_law_204 (by decide) ?_
  refine jl_cvi (0, 0, 0) [.int (xs (i + 1)), .int (xs (i + 2)), .int (xs (i + 3)), .int (xs (i + 4))] hC hB hl.1 (t_door l G I J O (xs (i + 1)) (xs (i + 2)) (xs (i + 3)) (xs (i + 4)) hR) (cwV 4 hts gL_law_X7_door rfl rfl rfl (by decide +kernel) ⟨by decide, by decide⟩) dL_law_205 jk0 rfl rfl rfl rfl (Nat.le_of_ble_eq_true rfl) hf (fun r0 u0 H locs hp hB => ?_)
  refine lv_aload_n hx hb dL_law_208 rfl (lv_at hl 2 rfl) ?_
  refine jl_ld (jn := 1) hC hl hX hbl hbA hL hB (by omega) dL_law_209 dL_law_210 dL_law_211 dL_law_212 dL_law_213 (by decide) ?_
  refine jl_ld (jn := 2) hC hl hX hbl hbA hL hB (by omega) dL_law_214 dL_law_215 dL_law_216 dL_law_217 dL_law_218 (by decide) ?_
  refine jl_ld (jn := 3) hC hl hX hbl hbA hL hB (by omega) dL_law_219 dL_law_220 dL_law_221 dL_law_222 dL_law_223 (by decide) ?_
  refine jl_ld (jn := 4) hC hl hX hbl hbA hL hB (by omega) dL_law_224 dL_law_225 dL_law_226 dL_law_227 dL_law_228 (by decide) ?_
  refine jl_cvi (20, 0, 0) [.int (xs (i + 1)), .int (xs (i + 2)), .int (xs (i + 3)), .int (xs (i + 4))] hC hB hl.1 hp (cwV 4 hts gL_law_X8_door rfl rfl rfl (by decide +kernel) ⟨by decide, by decide⟩) dL_law_229 jk20 rfl rfl rfl rfl (Nat.le_of_ble_eq_true rfl) hf (fun r1 u1 H locs hp hB => ?_)
  exact lv_icmp_eq (tgt := 1429) hx hb dL_law_232 (by decide) (fun _ => kk _ H locs hB hp.2) (fun q => absurd hp.1.symm q)

theorem lc_man {p : Program} {l : Launch} {e : Env} {s : State} {m : MethodId} {below : List Frame} {meth : Method} {c : Code} {H : Heap} {locs : List Loc} {cells slots : Nat} {Q : State → Prop} {G : jG} {A : Nat → Prop} {ret : Option FieldType} {ls : Array Slot} {b L i : Nat} {xs : Nat → Int32} {I : Nat → Nat → Int32} {J : Nat → Nat → Int64} {O : Nat → Nat → Nat} (hC : jC p G s m meth c A cL_law ret 4 RL wsL_law #[Value.ref b]) (hl : lv_has ls 4 [(0, .ref b), (1, .ref (G.2.2.1 (0, 0, 0))), (2, .ref (G.2.2.1 (20, 0, 0))), (3, .int (nI i))]) (hX : va_X b L xs s s.heap) (hbl : b < s.heap.size) (hbA : ¬ A b) (hL : L ≤ 448) (hB : jB G A s.heap (I, J, O) H locs) (hR : jRel (I, J, O)) (hi : i + 7 ≤ L) (hf : cells ≤ room_1.cells ∧ slots ≤ room_1.slots) (kk : ∀ st H locs, jB G A s.heap st H locs → jRel st → W p l e room_1 s m #[Value.ref b] below meth c H locs cells slots Q (F0 m 1429 ls [])) : W p l e room_1 s m #[Value.ref b] below meth c H locs cells slots Q (F0 m 237 ls []) := by
  obtain ⟨hx, hb, hr, hml, hown, hts, hlocks, hK, hA⟩ := id hC
  refine lv_aload_n hx hb dL_law_237 rfl (lv_at hl 1 rfl) ?_
  refine jl_ld (jn := 1) hC hl hX hbl hbA hL hB (by omega) dL_law_238 dL_law_239 dL_law_240 dL_law_241 dL_law_242 (by decide) ?_
  refine jl_ld (jn := 2) hC hl hX hbl hbA hL hB (by omega) dL_law_243 dL_law_244 dL_law_245 dL_law_246 dL_law_247 (by decide) ?_
  refine jl_ld (jn := 3) hC hl hX hbl hbA hL hB (by omega) dL_law_248 dL_law_249 dL_law_250 dL_law_251 dL_law_252 (by decide) ?_
  refine jl_ld (jn := 4) hC hl hX hbl hbA hL hB (by omega) dL_law_253 dL_law_254 dL_law_255 dL_law_256 dL_law_257 (by decide) ?_
  refine jl_cvi (0, 0, 0) [.int (xs (i + 1)), .int (xs (i + 2)), .int (xs (i + 3)), .int (xs (i + 4))] hC hB hl.1 (t_man l G I J O (xs (i + 1)) (xs (i + 2)) (xs (i + 3)) (xs (i + 4)) hR) (cwV 4 hts gL_law_X7_man rfl rfl rfl (by decide +kernel) ⟨by decide, by decide⟩) dL_law_258 jk0 rfl rfl rfl rfl (Nat.le_of_ble_eq_true rfl) hf (fun r0 u0 H locs hp hB => ?_)
  refine lv_aload_n hx hb dL_law_261 rfl (lv_at hl 2 rfl) ?_
  refine jl_ld (jn := 1) hC hl hX hbl hbA hL hB (by omega) dL_law_262 dL_law_263 dL_law_264 dL_law_265 dL_law_266 (by decide) ?_
  refine jl_ld (jn := 2) hC hl hX hbl hbA hL hB (by omega) dL_law_267 dL_law_268 dL_law_269 dL_law_270 dL_law_271 (by decide) ?_
  refine jl_ld (jn := 3) hC hl hX hbl hbA hL hB (by omega) dL_law_272 dL_law_273 dL_law_274 dL_law_275 dL_law_276 (by decide) ?_
  refine jl_ld (jn := 4) hC hl hX hbl hbA hL hB (by omega) dL_law_277 dL_law_278 dL_law_279 dL_law_280 dL_law_281 (by decide) ?_
  refine jl_cvi (20, 0, 0) [.int (xs (i + 1)), .int (xs (i + 2)), .int (xs (i + 3)), .int (xs (i + 4))] hC hB hl.1 hp (cwV 4 hts gL_law_X8_man rfl rfl rfl (by decide +kernel) ⟨by decide, by decide⟩) dL_law_282 jk20 rfl rfl rfl rfl (Nat.le_of_ble_eq_true rfl) hf (fun r1 u1 H locs hp hB => ?_)
  exact lv_icmp_eq (tgt := 1429) hx hb dL_law_285 (by decide) (fun _ => kk _ H locs hB hp.2) (fun q => absurd hp.1.symm q)

theorem lc_of {p : Program} {l : Launch} {e : Env} {s : State} {m : MethodId} {below : List Frame} {meth : Method} {c : Code} {H : Heap} {locs : List Loc} {cells slots : Nat} {Q : State → Prop} {G : jG} {A : Nat → Prop} {ret : Option FieldType} {ls : Array Slot} {b L i : Nat} {xs : Nat → Int32} {I : Nat → Nat → Int32} {J : Nat → Nat → Int64} {O : Nat → Nat → Nat} (hC : jC p G s m meth c A cL_law ret 4 RL wsL_law #[Value.ref b]) (hl : lv_has ls 4 [(0, .ref b), (1, .ref (G.2.2.1 (0, 0, 0))), (2, .ref (G.2.2.1 (20, 0, 0))), (3, .int (nI i))]) (hX : va_X b L xs s s.heap) (hbl : b < s.heap.size) (hbA : ¬ A b) (hL : L ≤ 448) (hB : jB G A s.heap (I, J, O) H locs) (hR : jRel (I, J, O)) (hi : i + 7 ≤ L) (hf : cells ≤ room_1.cells ∧ slots ≤ room_1.slots) (kk : ∀ st H locs, jB G A s.heap st H locs → jRel st → W p l e room_1 s m #[Value.ref b] below meth c H locs cells slots Q (F0 m 1429 ls [])) : W p l e room_1 s m #[Value.ref b] below meth c H locs cells slots Q (F0 m 290 ls []) := by
  obtain ⟨hx, hb, hr, hml, hown, hts, hlocks, hK, hA⟩ := id hC
  refine lv_aload_n hx hb dL_law_290 rfl (lv_at hl 1 rfl) ?_
  refine jl_ld (jn := 1) hC hl hX hbl hbA hL hB (by omega) dL_law_291 dL_law_292 dL_law_293 dL_law_294 dL_law_295 (by decide) ?_
  refine jl_ld (jn := 2) hC hl hX hbl hbA hL hB (by omega) dL_law_296 dL_law_297 dL_law_298 dL_law_299 dL_law_300 (by decide) ?_
  refine jl_cvi (0, 0, 0) [.int (xs (i + 1)), .int (xs (i + 2))] hC hB hl.1 (t_of l G I J O (xs (i + 1)) (xs (i + 2)) hR) (cwV 2 hts gL_law_X7_of rfl rfl rfl (by decide +kernel) ⟨by decide, by decide⟩) dL_law_301 jk0 rfl rfl rfl rfl (Nat.le_of_ble_eq_true rfl) hf (fun r0 u0 H locs hp hB => ?_)
  refine lv_aload_n hx hb dL_law_304 rfl (lv_at hl 2 rfl) ?_
  refine jl_ld (jn := 1) hC hl hX hbl hbA hL hB (by omega) dL_law_305 dL_law_306 dL_law_307 dL_law_308 dL_law_309 (by decide) ?_
  refine jl_ld (jn := 2) hC hl hX hbl hbA hL hB (by omega) dL_law_310 dL_law_311 dL_law_312 dL_law_313 dL_law_314 (by decide) ?_
  refine jl_cvi (20, 0, 0) [.int (xs (i + 1)), .int (xs (i + 2))] hC hB hl.1 hp (cwV 2 hts gL_law_X8_of rfl rfl rfl (by decide +kernel) ⟨by decide, by decide⟩) dL_law_315 jk20 rfl rfl rfl rfl (Nat.le_of_ble_eq_true rfl) hf (fun r1 u1 H locs hp hB => ?_)
  exact lv_icmp_eq (tgt := 1429) hx hb dL_law_318 (by decide) (fun _ => kk _ H locs hB hp.2) (fun q => absurd hp.1.symm q)

theorem lc_at {p : Program} {l : Launch} {e : Env} {s : State} {m : MethodId} {below : List Frame} {meth : Method} {c : Code} {H : Heap} {locs : List Loc} {cells slots : Nat} {Q : State → Prop} {G : jG} {A : Nat → Prop} {ret : Option FieldType} {ls : Array Slot} {b L i : Nat} {xs : Nat → Int32} {I : Nat → Nat → Int32} {J : Nat → Nat → Int64} {O : Nat → Nat → Nat} (hC : jC p G s m meth c A cL_law ret 4 RL wsL_law #[Value.ref b]) (hl : lv_has ls 4 [(0, .ref b), (1, .ref (G.2.2.1 (0, 0, 0))), (2, .ref (G.2.2.1 (20, 0, 0))), (3, .int (nI i))]) (hX : va_X b L xs s s.heap) (hbl : b < s.heap.size) (hbA : ¬ A b) (hL : L ≤ 448) (hB : jB G A s.heap (I, J, O) H locs) (hR : jRel (I, J, O)) (hi : i + 7 ≤ L) (hf : cells ≤ room_1.cells ∧ slots ≤ room_1.slots) (kk : ∀ st H locs, jB G A s.heap st H locs → jRel st → W p l e room_1 s m #[Value.ref b] below meth c H locs cells slots Q (F0 m 1429 ls [])) : W p l e room_1 s m #[Value.ref b] below meth c H locs cells slots Q (F0 m 323 ls []) := by
  obtain ⟨hx, hb, hr, hml, hown, hts, hlocks, hK, hA⟩ := id hC
  refine lv_aload_n hx hb dL_law_323 rfl (lv_at hl 1 rfl) ?_
  refine jl_ld (jn := 1) hC hl hX hbl hbA hL hB (by omega) dL_law_324 dL_law_325 dL_law_326 dL_law_327 dL_law_328 (by decide) ?_
  refine jl_ld (jn := 2) hC hl hX hbl hbA hL hB (by omega) dL_law_329 dL_law_330 dL_law_331 dL_law_332 dL_law_333 (by decide) ?_
  refine jl_cvi (0, 0, 0) [.int (xs (i + 1)), .int (xs (i + 2))] hC hB hl.1 (t_at l G I J O (xs (i + 1)) (xs (i + 2)) hR) (cwV 2 hts gL_law_X7_at rfl rfl rfl (by decide +kernel) ⟨by decide, by decide⟩) dL_law_334 jk0 rfl rfl rfl rfl (Nat.le_of_ble_eq_true rfl) hf (fun r0 u0 H locs hp hB => ?_)
  refine lv_aload_n hx hb dL_law_337 rfl (lv_at hl 2 rfl) ?_
  refine jl_ld (jn := 1) hC hl hX hbl hbA hL hB (by omega) dL_law_338 dL_law_339 dL_law_340 dL_law_341 dL_law_342 (by decide) ?_
  refine jl_ld (jn := 2) hC hl hX hbl hbA hL hB (by omega) dL_law_343 dL_law_344 dL_law_345 dL_law_346 dL_law_347 (by decide) ?_
  refine jl_cvi (20, 0, 0) [.int (xs (i + 1)), .int (xs (i + 2))] hC hB hl.1 hp (cwV 2 hts gL_law_X8_at rfl rfl rfl (by decide +kernel) ⟨by decide, by decide⟩) dL_law_348 jk20 rfl rfl rfl rfl (Nat.le_of_ble_eq_true rfl) hf (fun r1 u1 H locs hp hB => ?_)
  exact lv_icmp_eq (tgt := 1429) hx hb dL_law_351 (by decide) (fun _ => kk _ H locs hB hp.2) (fun q => absurd hp.1.symm q)

theorem lc_power {p : Program} {l : Launch} {e : Env} {s : State} {m : MethodId} {below : List Frame} {meth : Method} {c : Code} {H : Heap} {locs : List Loc} {cells slots : Nat} {Q : State → Prop} {G : jG} {A : Nat → Prop} {ret : Option FieldType} {ls : Array Slot} {b L i : Nat} {xs : Nat → Int32} {I : Nat → Nat → Int32} {J : Nat → Nat → Int64} {O : Nat → Nat → Nat} (hC : jC p G s m meth c A cL_law ret 4 RL wsL_law #[Value.ref b]) (hl : lv_has ls 4 [(0, .ref b), (1, .ref (G.2.2.1 (0, 0, 0))), (2, .ref (G.2.2.1 (20, 0, 0))), (3, .int (nI i))]) (hX : va_X b L xs s s.heap) (hbl : b < s.heap.size) (hbA : ¬ A b) (hL : L ≤ 448) (hB : jB G A s.heap (I, J, O) H locs) (hR : jRel (I, J, O)) (hi : i + 7 ≤ L) (hf : cells ≤ room_1.cells ∧ slots ≤ room_1.slots) (kk : ∀ st H locs, jB G A s.heap st H locs → jRel st → W p l e room_1 s m #[Value.ref b] below meth c H locs cells slots Q (F0 m 1429 ls [])) : W p l e room_1 s m #[Value.ref b] below meth c H locs cells slots Q (F0 m 356 ls []) := by
  obtain ⟨hx, hb, hr, hml, hown, hts, hlocks, hK, hA⟩ := id hC
  refine lv_aload_n hx hb dL_law_356 rfl (lv_at hl 1 rfl) ?_
  refine jl_ld (jn := 1) hC hl hX hbl hbA hL hB (by omega) dL_law_357 dL_law_358 dL_law_359 dL_law_360 dL_law_361 (by decide) ?_
  refine jl_ld (jn := 2) hC hl hX hbl hbA hL hB (by omega) dL_law_362 dL_law_363 dL_law_364 dL_law_365 dL_law_366 (by decide) ?_
  refine jl_cvi (0, 0, 0) [.int (xs (i + 1)), .int (xs (i + 2))] hC hB hl.1 (t_power l G I J O (xs (i + 1)) (xs (i + 2)) hR) (cwV 2 hts gL_law_X7_power rfl rfl rfl (by decide +kernel) ⟨by decide, by decide⟩) dL_law_367 jk0 rfl rfl rfl rfl (Nat.le_of_ble_eq_true rfl) hf (fun r0 u0 H locs hp hB => ?_)
  refine lv_aload_n hx hb dL_law_370 rfl (lv_at hl 2 rfl) ?_
  refine jl_ld (jn := 1) hC hl hX hbl hbA hL hB (by omega) dL_law_371 dL_law_372 dL_law_373 dL_law_374 dL_law_375 (by decide) ?_
  refine jl_ld (jn := 2) hC hl hX hbl hbA hL hB (by omega) dL_law_376 dL_law_377 dL_law_378 dL_law_379 dL_law_380 (by decide) ?_
  refine jl_cvi (20, 0, 0) [.int (xs (i + 1)), .int (xs (i + 2))] hC hB hl.1 hp (cwV 2 hts gL_law_X8_power rfl rfl rfl (by decide +kernel) ⟨by decide, by decide⟩) dL_law_381 jk20 rfl rfl rfl rfl (Nat.le_of_ble_eq_true rfl) hf (fun r1 u1 H locs hp hB => ?_)
  exact lv_icmp_eq (tgt := 1429) hx hb dL_law_384 (by decide) (fun _ => kk _ H locs hB hp.2) (fun q => absurd hp.1.symm q)

theorem lc_type {p : Program} {l : Launch} {e : Env} {s : State} {m : MethodId} {below : List Frame} {meth : Method} {c : Code} {H : Heap} {locs : List Loc} {cells slots : Nat} {Q : State → Prop} {G : jG} {A : Nat → Prop} {ret : Option FieldType} {ls : Array Slot} {b L i : Nat} {xs : Nat → Int32} {I : Nat → Nat → Int32} {J : Nat → Nat → Int64} {O : Nat → Nat → Nat} (hC : jC p G s m meth c A cL_law ret 4 RL wsL_law #[Value.ref b]) (hl : lv_has ls 4 [(0, .ref b), (1, .ref (G.2.2.1 (0, 0, 0))), (2, .ref (G.2.2.1 (20, 0, 0))), (3, .int (nI i))]) (hX : va_X b L xs s s.heap) (hbl : b < s.heap.size) (hbA : ¬ A b) (hL : L ≤ 448) (hB : jB G A s.heap (I, J, O) H locs) (hR : jRel (I, J, O)) (hi : i + 7 ≤ L) (hf : cells ≤ room_1.cells ∧ slots ≤ room_1.slots) (kk : ∀ st H locs, jB G A s.heap st H locs → jRel st → W p l e room_1 s m #[Value.ref b] below meth c H locs cells slots Q (F0 m 1429 ls [])) : W p l e room_1 s m #[Value.ref b] below meth c H locs cells slots Q (F0 m 389 ls []) := by
  obtain ⟨hx, hb, hr, hml, hown, hts, hlocks, hK, hA⟩ := id hC
  refine lv_aload_n hx hb dL_law_389 rfl (lv_at hl 1 rfl) ?_
  refine jl_ld (jn := 1) hC hl hX hbl hbA hL hB (by omega) dL_law_390 dL_law_391 dL_law_392 dL_law_393 dL_law_394 (by decide) ?_
  refine jl_cvi (0, 0, 0) [.int (xs (i + 1))] hC hB hl.1 (t_type l G I J O (xs (i + 1)) hR) (cwV 1 hts gL_law_X7_type rfl rfl rfl (by decide +kernel) ⟨by decide, by decide⟩) dL_law_395 jk0 rfl rfl rfl rfl (Nat.le_of_ble_eq_true rfl) hf (fun r0 u0 H locs hp hB => ?_)
  refine lv_aload_n hx hb dL_law_398 rfl (lv_at hl 2 rfl) ?_
  refine jl_ld (jn := 1) hC hl hX hbl hbA hL hB (by omega) dL_law_399 dL_law_400 dL_law_401 dL_law_402 dL_law_403 (by decide) ?_
  refine jl_cvi (20, 0, 0) [.int (xs (i + 1))] hC hB hl.1 hp (cwV 1 hts gL_law_X8_type rfl rfl rfl (by decide +kernel) ⟨by decide, by decide⟩) dL_law_404 jk20 rfl rfl rfl rfl (Nat.le_of_ble_eq_true rfl) hf (fun r1 u1 H locs hp hB => ?_)
  exact lv_icmp_eq (tgt := 1429) hx hb dL_law_407 (by decide) (fun _ => kk _ H locs hB hp.2) (fun q => absurd hp.1.symm q)

theorem lc_read {p : Program} {l : Launch} {e : Env} {s : State} {m : MethodId} {below : List Frame} {meth : Method} {c : Code} {H : Heap} {locs : List Loc} {cells slots : Nat} {Q : State → Prop} {G : jG} {A : Nat → Prop} {ret : Option FieldType} {ls : Array Slot} {b L i : Nat} {xs : Nat → Int32} {I : Nat → Nat → Int32} {J : Nat → Nat → Int64} {O : Nat → Nat → Nat} (hC : jC p G s m meth c A cL_law ret 4 RL wsL_law #[Value.ref b]) (hl : lv_has ls 4 [(0, .ref b), (1, .ref (G.2.2.1 (0, 0, 0))), (2, .ref (G.2.2.1 (20, 0, 0))), (3, .int (nI i))]) (hX : va_X b L xs s s.heap) (hbl : b < s.heap.size) (hbA : ¬ A b) (hL : L ≤ 448) (hB : jB G A s.heap (I, J, O) H locs) (hR : jRel (I, J, O)) (hi : i + 7 ≤ L) (hf : cells ≤ room_1.cells ∧ slots ≤ room_1.slots) (kk : ∀ st H locs, jB G A s.heap st H locs → jRel st → W p l e room_1 s m #[Value.ref b] below meth c H locs cells slots Q (F0 m 1429 ls [])) : W p l e room_1 s m #[Value.ref b] below meth c H locs cells slots Q (F0 m 412 ls []) := by
  obtain ⟨hx, hb, hr, hml, hown, hts, hlocks, hK, hA⟩ := id hC
  refine lv_aload_n hx hb dL_law_412 rfl (lv_at hl 1 rfl) ?_
  refine jl_cvi (0, 0, 0) [] hC hB hl.1 (t_read l G I J O  hR) (cwV 0 hts gL_law_X7_read rfl rfl rfl (by decide +kernel) ⟨by decide, by decide⟩) dL_law_413 jk0 rfl rfl rfl rfl (Nat.le_of_ble_eq_true rfl) hf (fun r0 u0 H locs hp hB => ?_)
  refine lv_aload_n hx hb dL_law_416 rfl (lv_at hl 2 rfl) ?_
  refine jl_cvi (20, 0, 0) [] hC hB hl.1 hp (cwV 0 hts gL_law_X8_read rfl rfl rfl (by decide +kernel) ⟨by decide, by decide⟩) dL_law_417 jk20 rfl rfl rfl rfl (Nat.le_of_ble_eq_true rfl) hf (fun r1 u1 H locs hp hB => ?_)
  exact lv_icmp_eq (tgt := 1429) hx hb dL_law_420 (by decide) (fun _ => kk _ H locs hB hp.2) (fun q => absurd hp.1.symm q)

theorem lc_count {p : Program} {l : Launch} {e : Env} {s : State} {m : MethodId} {below : List Frame} {meth : Method} {c : Code} {H : Heap} {locs : List Loc} {cells slots : Nat} {Q : State → Prop} {G : jG} {A : Nat → Prop} {ret : Option FieldType} {ls : Array Slot} {b L i : Nat} {xs : Nat → Int32} {I : Nat → Nat → Int32} {J : Nat → Nat → Int64} {O : Nat → Nat → Nat} (hC : jC p G s m meth c A cL_law ret 4 RL wsL_law #[Value.ref b]) (hl : lv_has ls 4 [(0, .ref b), (1, .ref (G.2.2.1 (0, 0, 0))), (2, .ref (G.2.2.1 (20, 0, 0))), (3, .int (nI i))]) (hX : va_X b L xs s s.heap) (hbl : b < s.heap.size) (hbA : ¬ A b) (hL : L ≤ 448) (hB : jB G A s.heap (I, J, O) H locs) (hR : jRel (I, J, O)) (hi : i + 7 ≤ L) (hf : cells ≤ room_1.cells ∧ slots ≤ room_1.slots) (kk : ∀ st H locs, jB G A s.heap st H locs → jRel st → W p l e room_1 s m #[Value.ref b] below meth c H locs cells slots Q (F0 m 1429 ls [])) : W p l e room_1 s m #[Value.ref b] below meth c H locs cells slots Q (F0 m 425 ls []) := by
  obtain ⟨hx, hb, hr, hml, hown, hts, hlocks, hK, hA⟩ := id hC
  refine lv_aload_n hx hb dL_law_425 rfl (lv_at hl 1 rfl) ?_
  refine jl_ld (jn := 1) hC hl hX hbl hbA hL hB (by omega) dL_law_426 dL_law_427 dL_law_428 dL_law_429 dL_law_430 (by decide) ?_
  refine jl_cvi (0, 0, 0) [.int (xs (i + 1))] hC hB hl.1 (t_count l G I J O (xs (i + 1)) hR) (cwV 1 hts gL_law_X7_count rfl rfl rfl (by decide +kernel) ⟨by decide, by decide⟩) dL_law_431 jk0 rfl rfl rfl rfl (Nat.le_of_ble_eq_true rfl) hf (fun r0 u0 H locs hp hB => ?_)
  refine lv_aload_n hx hb dL_law_434 rfl (lv_at hl 2 rfl) ?_
  refine jl_ld (jn := 1) hC hl hX hbl hbA hL hB (by omega) dL_law_435 dL_law_436 dL_law_437 dL_law_438 dL_law_439 (by decide) ?_
  refine jl_cvi (20, 0, 0) [.int (xs (i + 1))] hC hB hl.1 hp (cwV 1 hts gL_law_X8_count rfl rfl rfl (by decide +kernel) ⟨by decide, by decide⟩) dL_law_440 jk20 rfl rfl rfl rfl (Nat.le_of_ble_eq_true rfl) hf (fun r1 u1 H locs hp hB => ?_)
  exact lv_icmp_eq (tgt := 1429) hx hb dL_law_443 (by decide) (fun _ => kk _ H locs hB hp.2) (fun q => absurd hp.1.symm q)

theorem lc_attempt {p : Program} {l : Launch} {e : Env} {s : State} {m : MethodId} {below : List Frame} {meth : Method} {c : Code} {H : Heap} {locs : List Loc} {cells slots : Nat} {Q : State → Prop} {G : jG} {A : Nat → Prop} {ret : Option FieldType} {ls : Array Slot} {b L i : Nat} {xs : Nat → Int32} {I : Nat → Nat → Int32} {J : Nat → Nat → Int64} {O : Nat → Nat → Nat} (hC : jC p G s m meth c A cL_law ret 4 RL wsL_law #[Value.ref b]) (hl : lv_has ls 4 [(0, .ref b), (1, .ref (G.2.2.1 (0, 0, 0))), (2, .ref (G.2.2.1 (20, 0, 0))), (3, .int (nI i))]) (hX : va_X b L xs s s.heap) (hbl : b < s.heap.size) (hbA : ¬ A b) (hL : L ≤ 448) (hB : jB G A s.heap (I, J, O) H locs) (hR : jRel (I, J, O)) (hi : i + 7 ≤ L) (hf : cells ≤ room_1.cells ∧ slots ≤ room_1.slots) (kk : ∀ st H locs, jB G A s.heap st H locs → jRel st → W p l e room_1 s m #[Value.ref b] below meth c H locs cells slots Q (F0 m 1429 ls [])) : W p l e room_1 s m #[Value.ref b] below meth c H locs cells slots Q (F0 m 448 ls []) := by
  obtain ⟨hx, hb, hr, hml, hown, hts, hlocks, hK, hA⟩ := id hC
  refine lv_aload_n hx hb dL_law_448 rfl (lv_at hl 1 rfl) ?_
  refine jl_ld (jn := 1) hC hl hX hbl hbA hL hB (by omega) dL_law_449 dL_law_450 dL_law_451 dL_law_452 dL_law_453 (by decide) ?_
  refine jl_ld (jn := 2) hC hl hX hbl hbA hL hB (by omega) dL_law_454 dL_law_455 dL_law_456 dL_law_457 dL_law_458 (by decide) ?_
  refine jl_cvi (0, 0, 0) [.int (xs (i + 1)), .int (xs (i + 2))] hC hB hl.1 (t_attempt l G I J O (xs (i + 1)) (xs (i + 2)) hR) (cwV 2 hts gL_law_X7_attempt rfl rfl rfl (by decide +kernel) ⟨by decide, by decide⟩) dL_law_459 jk0 rfl rfl rfl rfl (Nat.le_of_ble_eq_true rfl) hf (fun r0 u0 H locs hp hB => ?_)
  refine lv_aload_n hx hb dL_law_462 rfl (lv_at hl 2 rfl) ?_
  refine jl_ld (jn := 1) hC hl hX hbl hbA hL hB (by omega) dL_law_463 dL_law_464 dL_law_465 dL_law_466 dL_law_467 (by decide) ?_
  refine jl_ld (jn := 2) hC hl hX hbl hbA hL hB (by omega) dL_law_468 dL_law_469 dL_law_470 dL_law_471 dL_law_472 (by decide) ?_
  refine jl_cvi (20, 0, 0) [.int (xs (i + 1)), .int (xs (i + 2))] hC hB hl.1 hp (cwV 2 hts gL_law_X8_attempt rfl rfl rfl (by decide +kernel) ⟨by decide, by decide⟩) dL_law_473 jk20 rfl rfl rfl rfl (Nat.le_of_ble_eq_true rfl) hf (fun r1 u1 H locs hp hB => ?_)
  exact lv_icmp_eq (tgt := 1429) hx hb dL_law_476 (by decide) (fun _ => kk _ H locs hB hp.2) (fun q => absurd hp.1.symm q)

theorem lc_whisper {p : Program} {l : Launch} {e : Env} {s : State} {m : MethodId} {below : List Frame} {meth : Method} {c : Code} {H : Heap} {locs : List Loc} {cells slots : Nat} {Q : State → Prop} {G : jG} {A : Nat → Prop} {ret : Option FieldType} {ls : Array Slot} {b L i : Nat} {xs : Nat → Int32} {I : Nat → Nat → Int32} {J : Nat → Nat → Int64} {O : Nat → Nat → Nat} (hC : jC p G s m meth c A cL_law ret 4 RL wsL_law #[Value.ref b]) (hl : lv_has ls 4 [(0, .ref b), (1, .ref (G.2.2.1 (0, 0, 0))), (2, .ref (G.2.2.1 (20, 0, 0))), (3, .int (nI i))]) (hX : va_X b L xs s s.heap) (hbl : b < s.heap.size) (hbA : ¬ A b) (hL : L ≤ 448) (hB : jB G A s.heap (I, J, O) H locs) (hR : jRel (I, J, O)) (hi : i + 7 ≤ L) (hf : cells ≤ room_1.cells ∧ slots ≤ room_1.slots) (kk : ∀ st H locs, jB G A s.heap st H locs → jRel st → W p l e room_1 s m #[Value.ref b] below meth c H locs cells slots Q (F0 m 1429 ls [])) : W p l e room_1 s m #[Value.ref b] below meth c H locs cells slots Q (F0 m 481 ls []) := by
  obtain ⟨hx, hb, hr, hml, hown, hts, hlocks, hK, hA⟩ := id hC
  refine lv_aload_n hx hb dL_law_481 rfl (lv_at hl 1 rfl) ?_
  refine jl_ld (jn := 1) hC hl hX hbl hbA hL hB (by omega) dL_law_482 dL_law_483 dL_law_484 dL_law_485 dL_law_486 (by decide) ?_
  refine jl_ld (jn := 2) hC hl hX hbl hbA hL hB (by omega) dL_law_487 dL_law_488 dL_law_489 dL_law_490 dL_law_491 (by decide) ?_
  refine jl_cvi (0, 0, 0) [.int (xs (i + 1)), .int (xs (i + 2))] hC hB hl.1 (t_whisper l G I J O (xs (i + 1)) (xs (i + 2)) hR) (cwV 2 hts gL_law_X7_whisper rfl rfl rfl (by decide +kernel) ⟨by decide, by decide⟩) dL_law_492 jk0 rfl rfl rfl rfl (Nat.le_of_ble_eq_true rfl) hf (fun r0 u0 H locs hp hB => ?_)
  refine lv_aload_n hx hb dL_law_495 rfl (lv_at hl 2 rfl) ?_
  refine jl_ld (jn := 1) hC hl hX hbl hbA hL hB (by omega) dL_law_496 dL_law_497 dL_law_498 dL_law_499 dL_law_500 (by decide) ?_
  refine jl_ld (jn := 2) hC hl hX hbl hbA hL hB (by omega) dL_law_501 dL_law_502 dL_law_503 dL_law_504 dL_law_505 (by decide) ?_
  refine jl_cvi (20, 0, 0) [.int (xs (i + 1)), .int (xs (i + 2))] hC hB hl.1 hp (cwV 2 hts gL_law_X8_whisper rfl rfl rfl (by decide +kernel) ⟨by decide, by decide⟩) dL_law_506 jk20 rfl rfl rfl rfl (Nat.le_of_ble_eq_true rfl) hf (fun r1 u1 H locs hp hB => ?_)
  exact lv_icmp_eq (tgt := 1429) hx hb dL_law_509 (by decide) (fun _ => kk _ H locs hB hp.2) (fun q => absurd hp.1.symm q)

theorem lc_set {p : Program} {l : Launch} {e : Env} {s : State} {m : MethodId} {below : List Frame} {meth : Method} {c : Code} {H : Heap} {locs : List Loc} {cells slots : Nat} {Q : State → Prop} {G : jG} {A : Nat → Prop} {ret : Option FieldType} {ls : Array Slot} {b L i : Nat} {xs : Nat → Int32} {I : Nat → Nat → Int32} {J : Nat → Nat → Int64} {O : Nat → Nat → Nat} (hC : jC p G s m meth c A cL_law ret 4 RL wsL_law #[Value.ref b]) (hl : lv_has ls 4 [(0, .ref b), (1, .ref (G.2.2.1 (0, 0, 0))), (2, .ref (G.2.2.1 (20, 0, 0))), (3, .int (nI i))]) (hX : va_X b L xs s s.heap) (hbl : b < s.heap.size) (hbA : ¬ A b) (hL : L ≤ 448) (hB : jB G A s.heap (I, J, O) H locs) (hR : jRel (I, J, O)) (hi : i + 7 ≤ L) (hf : cells ≤ room_1.cells ∧ slots ≤ room_1.slots) (kk : ∀ st H locs, jB G A s.heap st H locs → jRel st → W p l e room_1 s m #[Value.ref b] below meth c H locs cells slots Q (F0 m 1429 ls [])) : W p l e room_1 s m #[Value.ref b] below meth c H locs cells slots Q (F0 m 514 ls []) := by
  obtain ⟨hx, hb, hr, hml, hown, hts, hlocks, hK, hA⟩ := id hC
  refine lv_aload_n hx hb dL_law_514 rfl (lv_at hl 1 rfl) ?_
  refine jl_ld (jn := 1) hC hl hX hbl hbA hL hB (by omega) dL_law_515 dL_law_516 dL_law_517 dL_law_518 dL_law_519 (by decide) ?_
  refine jl_ld (jn := 2) hC hl hX hbl hbA hL hB (by omega) dL_law_520 dL_law_521 dL_law_522 dL_law_523 dL_law_524 (by decide) ?_
  refine jl_ld (jn := 3) hC hl hX hbl hbA hL hB (by omega) dL_law_525 dL_law_526 dL_law_527 dL_law_528 dL_law_529 (by decide) ?_
  refine jl_cvi (0, 0, 0) [.int (xs (i + 1)), .int (xs (i + 2)), .int (xs (i + 3))] hC hB hl.1 (t_setq l G I J O (xs (i + 1)) (xs (i + 2)) (xs (i + 3)) hR) (cwV 3 hts gL_law_X7_set rfl rfl rfl (by decide +kernel) ⟨by decide, by decide⟩) dL_law_530 jk0 rfl rfl rfl rfl (Nat.le_of_ble_eq_true rfl) hf (fun r0 u0 H locs hp hB => ?_)
  refine lv_aload_n hx hb dL_law_533 rfl (lv_at hl 2 rfl) ?_
  refine jl_ld (jn := 1) hC hl hX hbl hbA hL hB (by omega) dL_law_534 dL_law_535 dL_law_536 dL_law_537 dL_law_538 (by decide) ?_
  refine jl_ld (jn := 2) hC hl hX hbl hbA hL hB (by omega) dL_law_539 dL_law_540 dL_law_541 dL_law_542 dL_law_543 (by decide) ?_
  refine jl_ld (jn := 3) hC hl hX hbl hbA hL hB (by omega) dL_law_544 dL_law_545 dL_law_546 dL_law_547 dL_law_548 (by decide) ?_
  refine jl_cvi (20, 0, 0) [.int (xs (i + 1)), .int (xs (i + 2)), .int (xs (i + 3))] hC hB hl.1 hp (cwV 3 hts gL_law_X8_set rfl rfl rfl (by decide +kernel) ⟨by decide, by decide⟩) dL_law_549 jk20 rfl rfl rfl rfl (Nat.le_of_ble_eq_true rfl) hf (fun r1 u1 H locs hp hB => ?_)
  exact lv_icmp_eq (tgt := 1429) hx hb dL_law_552 (by decide) (fun _ => kk _ H locs hB hp.2) (fun q => absurd hp.1.symm q)

theorem lc_study {p : Program} {l : Launch} {e : Env} {s : State} {m : MethodId} {below : List Frame} {meth : Method} {c : Code} {H : Heap} {locs : List Loc} {cells slots : Nat} {Q : State → Prop} {G : jG} {A : Nat → Prop} {ret : Option FieldType} {ls : Array Slot} {b L i : Nat} {xs : Nat → Int32} {I : Nat → Nat → Int32} {J : Nat → Nat → Int64} {O : Nat → Nat → Nat} (hC : jC p G s m meth c A cL_law ret 4 RL wsL_law #[Value.ref b]) (hl : lv_has ls 4 [(0, .ref b), (1, .ref (G.2.2.1 (0, 0, 0))), (2, .ref (G.2.2.1 (20, 0, 0))), (3, .int (nI i))]) (hX : va_X b L xs s s.heap) (hbl : b < s.heap.size) (hbA : ¬ A b) (hL : L ≤ 448) (hB : jB G A s.heap (I, J, O) H locs) (hR : jRel (I, J, O)) (hi : i + 7 ≤ L) (hf : cells ≤ room_1.cells ∧ slots ≤ room_1.slots) (kk : ∀ st H locs, jB G A s.heap st H locs → jRel st → W p l e room_1 s m #[Value.ref b] below meth c H locs cells slots Q (F0 m 1429 ls [])) : W p l e room_1 s m #[Value.ref b] below meth c H locs cells slots Q (F0 m 557 ls []) := by
  obtain ⟨hx, hb, hr, hml, hown, hts, hlocks, hK, hA⟩ := id hC
  refine lv_aload_n hx hb dL_law_557 rfl (lv_at hl 1 rfl) ?_
  refine jl_ld (jn := 1) hC hl hX hbl hbA hL hB (by omega) dL_law_558 dL_law_559 dL_law_560 dL_law_561 dL_law_562 (by decide) ?_
  refine jl_cvi (0, 0, 0) [.int (xs (i + 1))] hC hB hl.1 (t_study l G I J O (xs (i + 1)) hR) (cwV 1 hts gL_law_X7_study rfl rfl rfl (by decide +kernel) ⟨by decide, by decide⟩) dL_law_563 jk0 rfl rfl rfl rfl (Nat.le_of_ble_eq_true rfl) hf (fun r0 u0 H locs hp hB => ?_)
  refine lv_aload_n hx hb dL_law_566 rfl (lv_at hl 2 rfl) ?_
  refine jl_ld (jn := 1) hC hl hX hbl hbA hL hB (by omega) dL_law_567 dL_law_568 dL_law_569 dL_law_570 dL_law_571 (by decide) ?_
  refine jl_cvi (20, 0, 0) [.int (xs (i + 1))] hC hB hl.1 hp (cwV 1 hts gL_law_X8_study rfl rfl rfl (by decide +kernel) ⟨by decide, by decide⟩) dL_law_572 jk20 rfl rfl rfl rfl (Nat.le_of_ble_eq_true rfl) hf (fun r1 u1 H locs hp hB => ?_)
  exact lv_icmp_eq (tgt := 1429) hx hb dL_law_575 (by decide) (fun _ => kk _ H locs hB hp.2) (fun q => absurd hp.1.symm q)

theorem lc_drift {p : Program} {l : Launch} {e : Env} {s : State} {m : MethodId} {below : List Frame} {meth : Method} {c : Code} {H : Heap} {locs : List Loc} {cells slots : Nat} {Q : State → Prop} {G : jG} {A : Nat → Prop} {ret : Option FieldType} {ls : Array Slot} {b L i : Nat} {xs : Nat → Int32} {I : Nat → Nat → Int32} {J : Nat → Nat → Int64} {O : Nat → Nat → Nat} (hC : jC p G s m meth c A cL_law ret 4 RL wsL_law #[Value.ref b]) (hl : lv_has ls 4 [(0, .ref b), (1, .ref (G.2.2.1 (0, 0, 0))), (2, .ref (G.2.2.1 (20, 0, 0))), (3, .int (nI i))]) (hX : va_X b L xs s s.heap) (hbl : b < s.heap.size) (hbA : ¬ A b) (hL : L ≤ 448) (hB : jB G A s.heap (I, J, O) H locs) (hR : jRel (I, J, O)) (hi : i + 7 ≤ L) (hf : cells ≤ room_1.cells ∧ slots ≤ room_1.slots) (kk : ∀ st H locs, jB G A s.heap st H locs → jRel st → W p l e room_1 s m #[Value.ref b] below meth c H locs cells slots Q (F0 m 1429 ls [])) : W p l e room_1 s m #[Value.ref b] below meth c H locs cells slots Q (F0 m 580 ls []) := by
  obtain ⟨hx, hb, hr, hml, hown, hts, hlocks, hK, hA⟩ := id hC
  refine lv_aload_n hx hb dL_law_580 rfl (lv_at hl 1 rfl) ?_
  refine jl_ld (jn := 1) hC hl hX hbl hbA hL hB (by omega) dL_law_581 dL_law_582 dL_law_583 dL_law_584 dL_law_585 (by decide) ?_
  refine jl_cvi (0, 0, 0) [.int (xs (i + 1))] hC hB hl.1 (t_drift l G I J O (xs (i + 1)) hR) (cwV 1 hts gL_law_X7_drift rfl rfl rfl (by decide +kernel) ⟨by decide, by decide⟩) dL_law_586 jk0 rfl rfl rfl rfl (Nat.le_of_ble_eq_true rfl) hf (fun r0 u0 H locs hp hB => ?_)
  refine lv_aload_n hx hb dL_law_589 rfl (lv_at hl 2 rfl) ?_
  refine jl_ld (jn := 1) hC hl hX hbl hbA hL hB (by omega) dL_law_590 dL_law_591 dL_law_592 dL_law_593 dL_law_594 (by decide) ?_
  refine jl_cvi (20, 0, 0) [.int (xs (i + 1))] hC hB hl.1 hp (cwV 1 hts gL_law_X8_drift rfl rfl rfl (by decide +kernel) ⟨by decide, by decide⟩) dL_law_595 jk20 rfl rfl rfl rfl (Nat.le_of_ble_eq_true rfl) hf (fun r1 u1 H locs hp hB => ?_)
  exact lv_icmp_eq (tgt := 1429) hx hb dL_law_598 (by decide) (fun _ => kk _ H locs hB hp.2) (fun q => absurd hp.1.symm q)

theorem lc_undo {p : Program} {l : Launch} {e : Env} {s : State} {m : MethodId} {below : List Frame} {meth : Method} {c : Code} {H : Heap} {locs : List Loc} {cells slots : Nat} {Q : State → Prop} {G : jG} {A : Nat → Prop} {ret : Option FieldType} {ls : Array Slot} {b L i : Nat} {xs : Nat → Int32} {I : Nat → Nat → Int32} {J : Nat → Nat → Int64} {O : Nat → Nat → Nat} (hC : jC p G s m meth c A cL_law ret 4 RL wsL_law #[Value.ref b]) (hl : lv_has ls 4 [(0, .ref b), (1, .ref (G.2.2.1 (0, 0, 0))), (2, .ref (G.2.2.1 (20, 0, 0))), (3, .int (nI i))]) (hX : va_X b L xs s s.heap) (hbl : b < s.heap.size) (hbA : ¬ A b) (hL : L ≤ 448) (hB : jB G A s.heap (I, J, O) H locs) (hR : jRel (I, J, O)) (hi : i + 7 ≤ L) (hf : cells ≤ room_1.cells ∧ slots ≤ room_1.slots) (kk : ∀ st H locs, jB G A s.heap st H locs → jRel st → W p l e room_1 s m #[Value.ref b] below meth c H locs cells slots Q (F0 m 1429 ls [])) : W p l e room_1 s m #[Value.ref b] below meth c H locs cells slots Q (F0 m 603 ls []) := by
  obtain ⟨hx, hb, hr, hml, hown, hts, hlocks, hK, hA⟩ := id hC
  refine lv_aload_n hx hb dL_law_603 rfl (lv_at hl 1 rfl) ?_
  refine jl_cvi (0, 0, 0) [] hC hB hl.1 (t_undo l G I J O  hR) (cwV 0 hts gL_law_X7_undo rfl rfl rfl (by decide +kernel) ⟨by decide, by decide⟩) dL_law_604 jk0 rfl rfl rfl rfl (Nat.le_of_ble_eq_true rfl) hf (fun r0 u0 H locs hp hB => ?_)
  refine lv_aload_n hx hb dL_law_607 rfl (lv_at hl 2 rfl) ?_
  refine jl_cvi (20, 0, 0) [] hC hB hl.1 hp (cwV 0 hts gL_law_X8_undo rfl rfl rfl (by decide +kernel) ⟨by decide, by decide⟩) dL_law_608 jk20 rfl rfl rfl rfl (Nat.le_of_ble_eq_true rfl) hf (fun r1 u1 H locs hp hB => ?_)
  exact lv_icmp_eq (tgt := 1429) hx hb dL_law_611 (by decide) (fun _ => kk _ H locs hB hp.2) (fun q => absurd hp.1.symm q)

theorem lc_seed {p : Program} {l : Launch} {e : Env} {s : State} {m : MethodId} {below : List Frame} {meth : Method} {c : Code} {H : Heap} {locs : List Loc} {cells slots : Nat} {Q : State → Prop} {G : jG} {A : Nat → Prop} {ret : Option FieldType} {ls : Array Slot} {b L i : Nat} {xs : Nat → Int32} {I : Nat → Nat → Int32} {J : Nat → Nat → Int64} {O : Nat → Nat → Nat} (hC : jC p G s m meth c A cL_law ret 4 RL wsL_law #[Value.ref b]) (hl : lv_has ls 4 [(0, .ref b), (1, .ref (G.2.2.1 (0, 0, 0))), (2, .ref (G.2.2.1 (20, 0, 0))), (3, .int (nI i))]) (hX : va_X b L xs s s.heap) (hbl : b < s.heap.size) (hbA : ¬ A b) (hL : L ≤ 448) (hB : jB G A s.heap (I, J, O) H locs) (hR : jRel (I, J, O)) (hi : i + 7 ≤ L) (hf : cells ≤ room_1.cells ∧ slots ≤ room_1.slots) (kk : ∀ st H locs, jB G A s.heap st H locs → jRel st → W p l e room_1 s m #[Value.ref b] below meth c H locs cells slots Q (F0 m 1429 ls [])) : W p l e room_1 s m #[Value.ref b] below meth c H locs cells slots Q (F0 m 616 ls []) := by
  obtain ⟨hx, hb, hr, hml, hown, hts, hlocks, hK, hA⟩ := id hC
  refine lv_aload_n hx hb dL_law_616 rfl (lv_at hl 1 rfl) ?_
  refine jl_ld (jn := 1) hC hl hX hbl hbA hL hB (by omega) dL_law_617 dL_law_618 dL_law_619 dL_law_620 dL_law_621 (by decide) ?_
  refine jl_cvi (0, 0, 0) [.int (xs (i + 1))] hC hB hl.1 (t_seed l G I J O (xs (i + 1)) hR) (cwV 1 hts gL_law_X7_seed rfl rfl rfl (by decide +kernel) ⟨by decide, by decide⟩) dL_law_622 jk0 rfl rfl rfl rfl (Nat.le_of_ble_eq_true rfl) hf (fun r0 u0 H locs hp hB => ?_)
  refine lv_aload_n hx hb dL_law_625 rfl (lv_at hl 2 rfl) ?_
  refine jl_ld (jn := 1) hC hl hX hbl hbA hL hB (by omega) dL_law_626 dL_law_627 dL_law_628 dL_law_629 dL_law_630 (by decide) ?_
  refine jl_cvi (20, 0, 0) [.int (xs (i + 1))] hC hB hl.1 hp (cwV 1 hts gL_law_X8_seed rfl rfl rfl (by decide +kernel) ⟨by decide, by decide⟩) dL_law_631 jk20 rfl rfl rfl rfl (Nat.le_of_ble_eq_true rfl) hf (fun r1 u1 H locs hp hB => ?_)
  exact lv_icmp_eq (tgt := 1429) hx hb dL_law_634 (by decide) (fun _ => kk _ H locs hB hp.2) (fun q => absurd hp.1.symm q)

theorem lc_way {p : Program} {l : Launch} {e : Env} {s : State} {m : MethodId} {below : List Frame} {meth : Method} {c : Code} {H : Heap} {locs : List Loc} {cells slots : Nat} {Q : State → Prop} {G : jG} {A : Nat → Prop} {ret : Option FieldType} {ls : Array Slot} {b L i : Nat} {xs : Nat → Int32} {I : Nat → Nat → Int32} {J : Nat → Nat → Int64} {O : Nat → Nat → Nat} (hC : jC p G s m meth c A cL_law ret 4 RL wsL_law #[Value.ref b]) (hl : lv_has ls 4 [(0, .ref b), (1, .ref (G.2.2.1 (0, 0, 0))), (2, .ref (G.2.2.1 (20, 0, 0))), (3, .int (nI i))]) (hX : va_X b L xs s s.heap) (hbl : b < s.heap.size) (hbA : ¬ A b) (hL : L ≤ 448) (hB : jB G A s.heap (I, J, O) H locs) (hR : jRel (I, J, O)) (hi : i + 7 ≤ L) (hf : cells ≤ room_1.cells ∧ slots ≤ room_1.slots) (kk : ∀ st H locs, jB G A s.heap st H locs → jRel st → W p l e room_1 s m #[Value.ref b] below meth c H locs cells slots Q (F0 m 1429 ls [])) : W p l e room_1 s m #[Value.ref b] below meth c H locs cells slots Q (F0 m 639 ls []) := by
  obtain ⟨hx, hb, hr, hml, hown, hts, hlocks, hK, hA⟩ := id hC
  refine lv_aload_n hx hb dL_law_639 rfl (lv_at hl 1 rfl) ?_
  refine jl_ld (jn := 1) hC hl hX hbl hbA hL hB (by omega) dL_law_640 dL_law_641 dL_law_642 dL_law_643 dL_law_644 (by decide) ?_
  refine jl_ld (jn := 2) hC hl hX hbl hbA hL hB (by omega) dL_law_645 dL_law_646 dL_law_647 dL_law_648 dL_law_649 (by decide) ?_
  refine jl_ld (jn := 3) hC hl hX hbl hbA hL hB (by omega) dL_law_650 dL_law_651 dL_law_652 dL_law_653 dL_law_654 (by decide) ?_
  refine jl_cvi (0, 0, 0) [.int (xs (i + 1)), .int (xs (i + 2)), .int (xs (i + 3))] hC hB hl.1 (t_way l G I J O (xs (i + 1)) (xs (i + 2)) (xs (i + 3)) hR) (cwV 3 hts gL_law_X7_way rfl rfl rfl (by decide +kernel) ⟨by decide, by decide⟩) dL_law_655 jk0 rfl rfl rfl rfl (Nat.le_of_ble_eq_true rfl) hf (fun r0 u0 H locs hp hB => ?_)
  refine lv_aload_n hx hb dL_law_658 rfl (lv_at hl 2 rfl) ?_
  refine jl_ld (jn := 1) hC hl hX hbl hbA hL hB (by omega) dL_law_659 dL_law_660 dL_law_661 dL_law_662 dL_law_663 (by decide) ?_
  refine jl_ld (jn := 2) hC hl hX hbl hbA hL hB (by omega) dL_law_664 dL_law_665 dL_law_666 dL_law_667 dL_law_668 (by decide) ?_
  refine jl_ld (jn := 3) hC hl hX hbl hbA hL hB (by omega) dL_law_669 dL_law_670 dL_law_671 dL_law_672 dL_law_673 (by decide) ?_
  refine jl_cvi (20, 0, 0) [.int (xs (i + 1)), .int (xs (i + 2)), .int (xs (i + 3))] hC hB hl.1 hp (cwV 3 hts gL_law_X8_way rfl rfl rfl (by decide +kernel) ⟨by decide, by decide⟩) dL_law_674 jk20 rfl rfl rfl rfl (Nat.le_of_ble_eq_true rfl) hf (fun r1 u1 H locs hp hB => ?_)
  exact lv_icmp_eq (tgt := 1429) hx hb dL_law_677 (by decide) (fun _ => kk _ H locs hB hp.2) (fun q => absurd hp.1.symm q)

theorem lc_ways {p : Program} {l : Launch} {e : Env} {s : State} {m : MethodId} {below : List Frame} {meth : Method} {c : Code} {H : Heap} {locs : List Loc} {cells slots : Nat} {Q : State → Prop} {G : jG} {A : Nat → Prop} {ret : Option FieldType} {ls : Array Slot} {b L i : Nat} {xs : Nat → Int32} {I : Nat → Nat → Int32} {J : Nat → Nat → Int64} {O : Nat → Nat → Nat} (hC : jC p G s m meth c A cL_law ret 4 RL wsL_law #[Value.ref b]) (hl : lv_has ls 4 [(0, .ref b), (1, .ref (G.2.2.1 (0, 0, 0))), (2, .ref (G.2.2.1 (20, 0, 0))), (3, .int (nI i))]) (hX : va_X b L xs s s.heap) (hbl : b < s.heap.size) (hbA : ¬ A b) (hL : L ≤ 448) (hB : jB G A s.heap (I, J, O) H locs) (hR : jRel (I, J, O)) (hi : i + 7 ≤ L) (hf : cells ≤ room_1.cells ∧ slots ≤ room_1.slots) (kk : ∀ st H locs, jB G A s.heap st H locs → jRel st → W p l e room_1 s m #[Value.ref b] below meth c H locs cells slots Q (F0 m 1429 ls [])) : W p l e room_1 s m #[Value.ref b] below meth c H locs cells slots Q (F0 m 682 ls []) := by
  obtain ⟨hx, hb, hr, hml, hown, hts, hlocks, hK, hA⟩ := id hC
  refine lv_aload_n hx hb dL_law_682 rfl (lv_at hl 1 rfl) ?_
  refine jl_ld (jn := 1) hC hl hX hbl hbA hL hB (by omega) dL_law_683 dL_law_684 dL_law_685 dL_law_686 dL_law_687 (by decide) ?_
  refine jl_ld (jn := 2) hC hl hX hbl hbA hL hB (by omega) dL_law_688 dL_law_689 dL_law_690 dL_law_691 dL_law_692 (by decide) ?_
  refine jl_cvi (0, 0, 0) [.int (xs (i + 1)), .int (xs (i + 2))] hC hB hl.1 (t_ways l G I J O (xs (i + 1)) (xs (i + 2)) hR) (cwV 2 hts gL_law_X7_ways rfl rfl rfl (by decide +kernel) ⟨by decide, by decide⟩) dL_law_693 jk0 rfl rfl rfl rfl (Nat.le_of_ble_eq_true rfl) hf (fun r0 u0 H locs hp hB => ?_)
  refine lv_aload_n hx hb dL_law_696 rfl (lv_at hl 2 rfl) ?_
  refine jl_ld (jn := 1) hC hl hX hbl hbA hL hB (by omega) dL_law_697 dL_law_698 dL_law_699 dL_law_700 dL_law_701 (by decide) ?_
  refine jl_ld (jn := 2) hC hl hX hbl hbA hL hB (by omega) dL_law_702 dL_law_703 dL_law_704 dL_law_705 dL_law_706 (by decide) ?_
  refine jl_cvi (20, 0, 0) [.int (xs (i + 1)), .int (xs (i + 2))] hC hB hl.1 hp (cwV 2 hts gL_law_X8_ways rfl rfl rfl (by decide +kernel) ⟨by decide, by decide⟩) dL_law_707 jk20 rfl rfl rfl rfl (Nat.le_of_ble_eq_true rfl) hf (fun r1 u1 H locs hp hB => ?_)
  exact lv_icmp_eq (tgt := 1429) hx hb dL_law_710 (by decide) (fun _ => kk _ H locs hB hp.2) (fun q => absurd hp.1.symm q)

theorem lc_reach {p : Program} {l : Launch} {e : Env} {s : State} {m : MethodId} {below : List Frame} {meth : Method} {c : Code} {H : Heap} {locs : List Loc} {cells slots : Nat} {Q : State → Prop} {G : jG} {A : Nat → Prop} {ret : Option FieldType} {ls : Array Slot} {b L i : Nat} {xs : Nat → Int32} {I : Nat → Nat → Int32} {J : Nat → Nat → Int64} {O : Nat → Nat → Nat} (hC : jC p G s m meth c A cL_law ret 4 RL wsL_law #[Value.ref b]) (hl : lv_has ls 4 [(0, .ref b), (1, .ref (G.2.2.1 (0, 0, 0))), (2, .ref (G.2.2.1 (20, 0, 0))), (3, .int (nI i))]) (hX : va_X b L xs s s.heap) (hbl : b < s.heap.size) (hbA : ¬ A b) (hL : L ≤ 448) (hB : jB G A s.heap (I, J, O) H locs) (hR : jRel (I, J, O)) (hi : i + 7 ≤ L) (hf : cells ≤ room_1.cells ∧ slots ≤ room_1.slots) (kk : ∀ st H locs, jB G A s.heap st H locs → jRel st → W p l e room_1 s m #[Value.ref b] below meth c H locs cells slots Q (F0 m 1429 ls [])) : W p l e room_1 s m #[Value.ref b] below meth c H locs cells slots Q (F0 m 715 ls []) := by
  obtain ⟨hx, hb, hr, hml, hown, hts, hlocks, hK, hA⟩ := id hC
  refine lv_aload_n hx hb dL_law_715 rfl (lv_at hl 1 rfl) ?_
  refine jl_ld (jn := 1) hC hl hX hbl hbA hL hB (by omega) dL_law_716 dL_law_717 dL_law_718 dL_law_719 dL_law_720 (by decide) ?_
  refine jl_cvi (0, 0, 0) [.int (xs (i + 1))] hC hB hl.1 (t_reach l G I J O (xs (i + 1)) hR) (cwV 1 hts gL_law_X7_reach rfl rfl rfl (by decide +kernel) ⟨by decide, by decide⟩) dL_law_721 jk0 rfl rfl rfl rfl (Nat.le_of_ble_eq_true rfl) hf (fun r0 u0 H locs hp hB => ?_)
  refine lv_aload_n hx hb dL_law_724 rfl (lv_at hl 2 rfl) ?_
  refine jl_ld (jn := 1) hC hl hX hbl hbA hL hB (by omega) dL_law_725 dL_law_726 dL_law_727 dL_law_728 dL_law_729 (by decide) ?_
  refine jl_cvi (20, 0, 0) [.int (xs (i + 1))] hC hB hl.1 hp (cwV 1 hts gL_law_X8_reach rfl rfl rfl (by decide +kernel) ⟨by decide, by decide⟩) dL_law_730 jk20 rfl rfl rfl rfl (Nat.le_of_ble_eq_true rfl) hf (fun r1 u1 H locs hp hB => ?_)
  exact lv_icmp_eq (tgt := 1429) hx hb dL_law_733 (by decide) (fun _ => kk _ H locs hB hp.2) (fun q => absurd hp.1.symm q)

theorem lc_round {p : Program} {l : Launch} {e : Env} {s : State} {m : MethodId} {below : List Frame} {meth : Method} {c : Code} {H : Heap} {locs : List Loc} {cells slots : Nat} {Q : State → Prop} {G : jG} {A : Nat → Prop} {ret : Option FieldType} {ls : Array Slot} {b L i : Nat} {xs : Nat → Int32} {I : Nat → Nat → Int32} {J : Nat → Nat → Int64} {O : Nat → Nat → Nat} (hC : jC p G s m meth c A cL_law ret 4 RL wsL_law #[Value.ref b]) (hl : lv_has ls 4 [(0, .ref b), (1, .ref (G.2.2.1 (0, 0, 0))), (2, .ref (G.2.2.1 (20, 0, 0))), (3, .int (nI i))]) (hX : va_X b L xs s s.heap) (hbl : b < s.heap.size) (hbA : ¬ A b) (hL : L ≤ 448) (hB : jB G A s.heap (I, J, O) H locs) (hR : jRel (I, J, O)) (hi : i + 7 ≤ L) (hf : cells ≤ room_1.cells ∧ slots ≤ room_1.slots) (kk : ∀ st H locs, jB G A s.heap st H locs → jRel st → W p l e room_1 s m #[Value.ref b] below meth c H locs cells slots Q (F0 m 1429 ls [])) : W p l e room_1 s m #[Value.ref b] below meth c H locs cells slots Q (F0 m 738 ls []) := by
  obtain ⟨hx, hb, hr, hml, hown, hts, hlocks, hK, hA⟩ := id hC
  refine lv_aload_n hx hb dL_law_738 rfl (lv_at hl 1 rfl) ?_
  refine jl_ld (jn := 1) hC hl hX hbl hbA hL hB (by omega) dL_law_739 dL_law_740 dL_law_741 dL_law_742 dL_law_743 (by decide) ?_
  refine jl_ld (jn := 2) hC hl hX hbl hbA hL hB (by omega) dL_law_744 dL_law_745 dL_law_746 dL_law_747 dL_law_748 (by decide) ?_
  refine jl_cvi (0, 0, 0) [.int (xs (i + 1)), .int (xs (i + 2))] hC hB hl.1 (t_round l G I J O (xs (i + 1)) (xs (i + 2)) hR) (cwV 2 hts gL_law_X7_round rfl rfl rfl (by decide +kernel) ⟨by decide, by decide⟩) dL_law_749 jk0 rfl rfl rfl rfl (Nat.le_of_ble_eq_true rfl) hf (fun r0 u0 H locs hp hB => ?_)
  refine lv_aload_n hx hb dL_law_752 rfl (lv_at hl 2 rfl) ?_
  refine jl_ld (jn := 1) hC hl hX hbl hbA hL hB (by omega) dL_law_753 dL_law_754 dL_law_755 dL_law_756 dL_law_757 (by decide) ?_
  refine jl_ld (jn := 2) hC hl hX hbl hbA hL hB (by omega) dL_law_758 dL_law_759 dL_law_760 dL_law_761 dL_law_762 (by decide) ?_
  refine jl_cvi (20, 0, 0) [.int (xs (i + 1)), .int (xs (i + 2))] hC hB hl.1 hp (cwV 2 hts gL_law_X8_round rfl rfl rfl (by decide +kernel) ⟨by decide, by decide⟩) dL_law_763 jk20 rfl rfl rfl rfl (Nat.le_of_ble_eq_true rfl) hf (fun r1 u1 H locs hp hB => ?_)
  exact lv_icmp_eq (tgt := 1429) hx hb dL_law_766 (by decide) (fun _ => kk _ H locs hB hp.2) (fun q => absurd hp.1.symm q)

theorem lc_cut {p : Program} {l : Launch} {e : Env} {s : State} {m : MethodId} {below : List Frame} {meth : Method} {c : Code} {H : Heap} {locs : List Loc} {cells slots : Nat} {Q : State → Prop} {G : jG} {A : Nat → Prop} {ret : Option FieldType} {ls : Array Slot} {b L i : Nat} {xs : Nat → Int32} {I : Nat → Nat → Int32} {J : Nat → Nat → Int64} {O : Nat → Nat → Nat} (hC : jC p G s m meth c A cL_law ret 4 RL wsL_law #[Value.ref b]) (hl : lv_has ls 4 [(0, .ref b), (1, .ref (G.2.2.1 (0, 0, 0))), (2, .ref (G.2.2.1 (20, 0, 0))), (3, .int (nI i))]) (hX : va_X b L xs s s.heap) (hbl : b < s.heap.size) (hbA : ¬ A b) (hL : L ≤ 448) (hB : jB G A s.heap (I, J, O) H locs) (hR : jRel (I, J, O)) (hi : i + 7 ≤ L) (hf : cells ≤ room_1.cells ∧ slots ≤ room_1.slots) (kk : ∀ st H locs, jB G A s.heap st H locs → jRel st → W p l e room_1 s m #[Value.ref b] below meth c H locs cells slots Q (F0 m 1429 ls [])) : W p l e room_1 s m #[Value.ref b] below meth c H locs cells slots Q (F0 m 771 ls []) := by
  obtain ⟨hx, hb, hr, hml, hown, hts, hlocks, hK, hA⟩ := id hC
  refine lv_aload_n hx hb dL_law_771 rfl (lv_at hl 1 rfl) ?_
  refine jl_ld (jn := 1) hC hl hX hbl hbA hL hB (by omega) dL_law_772 dL_law_773 dL_law_774 dL_law_775 dL_law_776 (by decide) ?_
  refine jl_ld (jn := 2) hC hl hX hbl hbA hL hB (by omega) dL_law_777 dL_law_778 dL_law_779 dL_law_780 dL_law_781 (by decide) ?_
  refine jl_ld (jn := 3) hC hl hX hbl hbA hL hB (by omega) dL_law_782 dL_law_783 dL_law_784 dL_law_785 dL_law_786 (by decide) ?_
  refine jl_cvi (0, 0, 0) [.int (xs (i + 1)), .int (xs (i + 2)), .int (xs (i + 3))] hC hB hl.1 (t_cut l G I J O (xs (i + 1)) (xs (i + 2)) (xs (i + 3)) hR) (cwV 3 hts gL_law_X7_cut rfl rfl rfl (by decide +kernel) ⟨by decide, by decide⟩) dL_law_787 jk0 rfl rfl rfl rfl (Nat.le_of_ble_eq_true rfl) hf (fun r0 u0 H locs hp hB => ?_)
  refine lv_aload_n hx hb dL_law_790 rfl (lv_at hl 2 rfl) ?_
  refine jl_ld (jn := 1) hC hl hX hbl hbA hL hB (by omega) dL_law_791 dL_law_792 dL_law_793 dL_law_794 dL_law_795 (by decide) ?_
  refine jl_ld (jn := 2) hC hl hX hbl hbA hL hB (by omega) dL_law_796 dL_law_797 dL_law_798 dL_law_799 dL_law_800 (by decide) ?_
  refine jl_ld (jn := 3) hC hl hX hbl hbA hL hB (by omega) dL_law_801 dL_law_802 dL_law_803 dL_law_804 dL_law_805 (by decide) ?_
  refine jl_cvi (20, 0, 0) [.int (xs (i + 1)), .int (xs (i + 2)), .int (xs (i + 3))] hC hB hl.1 hp (cwV 3 hts gL_law_X8_cut rfl rfl rfl (by decide +kernel) ⟨by decide, by decide⟩) dL_law_806 jk20 rfl rfl rfl rfl (Nat.le_of_ble_eq_true rfl) hf (fun r1 u1 H locs hp hB => ?_)
  exact lv_icmp_eq (tgt := 1429) hx hb dL_law_809 (by decide) (fun _ => kk _ H locs hB hp.2) (fun q => absurd hp.1.symm q)

theorem lc_bridges {p : Program} {l : Launch} {e : Env} {s : State} {m : MethodId} {below : List Frame} {meth : Method} {c : Code} {H : Heap} {locs : List Loc} {cells slots : Nat} {Q : State → Prop} {G : jG} {A : Nat → Prop} {ret : Option FieldType} {ls : Array Slot} {b L i : Nat} {xs : Nat → Int32} {I : Nat → Nat → Int32} {J : Nat → Nat → Int64} {O : Nat → Nat → Nat} (hC : jC p G s m meth c A cL_law ret 4 RL wsL_law #[Value.ref b]) (hl : lv_has ls 4 [(0, .ref b), (1, .ref (G.2.2.1 (0, 0, 0))), (2, .ref (G.2.2.1 (20, 0, 0))), (3, .int (nI i))]) (hX : va_X b L xs s s.heap) (hbl : b < s.heap.size) (hbA : ¬ A b) (hL : L ≤ 448) (hB : jB G A s.heap (I, J, O) H locs) (hR : jRel (I, J, O)) (hi : i + 7 ≤ L) (hf : cells ≤ room_1.cells ∧ slots ≤ room_1.slots) (kk : ∀ st H locs, jB G A s.heap st H locs → jRel st → W p l e room_1 s m #[Value.ref b] below meth c H locs cells slots Q (F0 m 1429 ls [])) : W p l e room_1 s m #[Value.ref b] below meth c H locs cells slots Q (F0 m 814 ls []) := by
  obtain ⟨hx, hb, hr, hml, hown, hts, hlocks, hK, hA⟩ := id hC
  refine lv_aload_n hx hb dL_law_814 rfl (lv_at hl 1 rfl) ?_
  refine jl_ld (jn := 1) hC hl hX hbl hbA hL hB (by omega) dL_law_815 dL_law_816 dL_law_817 dL_law_818 dL_law_819 (by decide) ?_
  refine jl_ld (jn := 2) hC hl hX hbl hbA hL hB (by omega) dL_law_820 dL_law_821 dL_law_822 dL_law_823 dL_law_824 (by decide) ?_
  refine jl_cvi (0, 0, 0) [.int (xs (i + 1)), .int (xs (i + 2))] hC hB hl.1 (t_bridges l G I J O (xs (i + 1)) (xs (i + 2)) hR) (cwV 2 hts gL_law_X7_bridges rfl rfl rfl (by decide +kernel) ⟨by decide, by decide⟩) dL_law_825 jk0 rfl rfl rfl rfl (Nat.le_of_ble_eq_true rfl) hf (fun r0 u0 H locs hp hB => ?_)
  refine lv_aload_n hx hb dL_law_828 rfl (lv_at hl 2 rfl) ?_
  refine jl_ld (jn := 1) hC hl hX hbl hbA hL hB (by omega) dL_law_829 dL_law_830 dL_law_831 dL_law_832 dL_law_833 (by decide) ?_
  refine jl_ld (jn := 2) hC hl hX hbl hbA hL hB (by omega) dL_law_834 dL_law_835 dL_law_836 dL_law_837 dL_law_838 (by decide) ?_
  refine jl_cvi (20, 0, 0) [.int (xs (i + 1)), .int (xs (i + 2))] hC hB hl.1 hp (cwV 2 hts gL_law_X8_bridges rfl rfl rfl (by decide +kernel) ⟨by decide, by decide⟩) dL_law_839 jk20 rfl rfl rfl rfl (Nat.le_of_ble_eq_true rfl) hf (fun r1 u1 H locs hp hB => ?_)
  exact lv_icmp_eq (tgt := 1429) hx hb dL_law_842 (by decide) (fun _ => kk _ H locs hB hp.2) (fun q => absurd hp.1.symm q)

theorem lc_wit {p : Program} {l : Launch} {e : Env} {s : State} {m : MethodId} {below : List Frame} {meth : Method} {c : Code} {H : Heap} {locs : List Loc} {cells slots : Nat} {Q : State → Prop} {G : jG} {A : Nat → Prop} {ret : Option FieldType} {ls : Array Slot} {b L i : Nat} {xs : Nat → Int32} {I : Nat → Nat → Int32} {J : Nat → Nat → Int64} {O : Nat → Nat → Nat} (hC : jC p G s m meth c A cL_law ret 4 RL wsL_law #[Value.ref b]) (hl : lv_has ls 4 [(0, .ref b), (1, .ref (G.2.2.1 (0, 0, 0))), (2, .ref (G.2.2.1 (20, 0, 0))), (3, .int (nI i))]) (hX : va_X b L xs s s.heap) (hbl : b < s.heap.size) (hbA : ¬ A b) (hL : L ≤ 448) (hB : jB G A s.heap (I, J, O) H locs) (hR : jRel (I, J, O)) (hi : i + 7 ≤ L) (hf : cells ≤ room_1.cells ∧ slots ≤ room_1.slots) (kk : ∀ st H locs, jB G A s.heap st H locs → jRel st → W p l e room_1 s m #[Value.ref b] below meth c H locs cells slots Q (F0 m 1429 ls [])) : W p l e room_1 s m #[Value.ref b] below meth c H locs cells slots Q (F0 m 847 ls []) := by
  obtain ⟨hx, hb, hr, hml, hown, hts, hlocks, hK, hA⟩ := id hC
  refine lv_aload_n hx hb dL_law_847 rfl (lv_at hl 1 rfl) ?_
  refine jl_ld (jn := 1) hC hl hX hbl hbA hL hB (by omega) dL_law_848 dL_law_849 dL_law_850 dL_law_851 dL_law_852 (by decide) ?_
  refine jl_ld (jn := 2) hC hl hX hbl hbA hL hB (by omega) dL_law_853 dL_law_854 dL_law_855 dL_law_856 dL_law_857 (by decide) ?_
  refine jl_cvi (0, 0, 0) [.int (xs (i + 1)), .int (xs (i + 2))] hC hB hl.1 (t_wit l G I J O (xs (i + 1)) (xs (i + 2)) hR) (cwV 2 hts gL_law_X7_wit rfl rfl rfl (by decide +kernel) ⟨by decide, by decide⟩) dL_law_858 jk0 rfl rfl rfl rfl (Nat.le_of_ble_eq_true rfl) hf (fun r0 u0 H locs hp hB => ?_)
  refine lv_aload_n hx hb dL_law_861 rfl (lv_at hl 2 rfl) ?_
  refine jl_ld (jn := 1) hC hl hX hbl hbA hL hB (by omega) dL_law_862 dL_law_863 dL_law_864 dL_law_865 dL_law_866 (by decide) ?_
  refine jl_ld (jn := 2) hC hl hX hbl hbA hL hB (by omega) dL_law_867 dL_law_868 dL_law_869 dL_law_870 dL_law_871 (by decide) ?_
  refine jl_cvi (20, 0, 0) [.int (xs (i + 1)), .int (xs (i + 2))] hC hB hl.1 hp (cwV 2 hts gL_law_X8_wit rfl rfl rfl (by decide +kernel) ⟨by decide, by decide⟩) dL_law_872 jk20 rfl rfl rfl rfl (Nat.le_of_ble_eq_true rfl) hf (fun r1 u1 H locs hp hB => ?_)
  exact lv_icmp_eq (tgt := 1429) hx hb dL_law_875 (by decide) (fun _ => kk _ H locs hB hp.2) (fun q => absurd hp.1.symm q)

theorem lc_lesson {p : Program} {l : Launch} {e : Env} {s : State} {m : MethodId} {below : List Frame} {meth : Method} {c : Code} {H : Heap} {locs : List Loc} {cells slots : Nat} {Q : State → Prop} {G : jG} {A : Nat → Prop} {ret : Option FieldType} {ls : Array Slot} {b L i : Nat} {xs : Nat → Int32} {I : Nat → Nat → Int32} {J : Nat → Nat → Int64} {O : Nat → Nat → Nat} (hC : jC p G s m meth c A cL_law ret 4 RL wsL_law #[Value.ref b]) (hl : lv_has ls 4 [(0, .ref b), (1, .ref (G.2.2.1 (0, 0, 0))), (2, .ref (G.2.2.1 (20, 0, 0))), (3, .int (nI i))]) (hX : va_X b L xs s s.heap) (hbl : b < s.heap.size) (hbA : ¬ A b) (hL : L ≤ 448) (hB : jB G A s.heap (I, J, O) H locs) (hR : jRel (I, J, O)) (hi : i + 7 ≤ L) (hf : cells ≤ room_1.cells ∧ slots ≤ room_1.slots) (kk : ∀ st H locs, jB G A s.heap st H locs → jRel st → W p l e room_1 s m #[Value.ref b] below meth c H locs cells slots Q (F0 m 1429 ls [])) : W p l e room_1 s m #[Value.ref b] below meth c H locs cells slots Q (F0 m 880 ls []) := by
  obtain ⟨hx, hb, hr, hml, hown, hts, hlocks, hK, hA⟩ := id hC
  refine lv_aload_n hx hb dL_law_880 rfl (lv_at hl 1 rfl) ?_
  refine jl_ld (jn := 1) hC hl hX hbl hbA hL hB (by omega) dL_law_881 dL_law_882 dL_law_883 dL_law_884 dL_law_885 (by decide) ?_
  refine jl_ld (jn := 2) hC hl hX hbl hbA hL hB (by omega) dL_law_886 dL_law_887 dL_law_888 dL_law_889 dL_law_890 (by decide) ?_
  refine jl_cvi (0, 0, 0) [.int (xs (i + 1)), .int (xs (i + 2))] hC hB hl.1 (t_lesson l G I J O (xs (i + 1)) (xs (i + 2)) hR) (cwV 2 hts gL_law_X7_lesson rfl rfl rfl (by decide +kernel) ⟨by decide, by decide⟩) dL_law_891 jk0 rfl rfl rfl rfl (Nat.le_of_ble_eq_true rfl) hf (fun r0 u0 H locs hp hB => ?_)
  refine lv_aload_n hx hb dL_law_894 rfl (lv_at hl 2 rfl) ?_
  refine jl_ld (jn := 1) hC hl hX hbl hbA hL hB (by omega) dL_law_895 dL_law_896 dL_law_897 dL_law_898 dL_law_899 (by decide) ?_
  refine jl_ld (jn := 2) hC hl hX hbl hbA hL hB (by omega) dL_law_900 dL_law_901 dL_law_902 dL_law_903 dL_law_904 (by decide) ?_
  refine jl_cvi (20, 0, 0) [.int (xs (i + 1)), .int (xs (i + 2))] hC hB hl.1 hp (cwV 2 hts gL_law_X8_lesson rfl rfl rfl (by decide +kernel) ⟨by decide, by decide⟩) dL_law_905 jk20 rfl rfl rfl rfl (Nat.le_of_ble_eq_true rfl) hf (fun r1 u1 H locs hp hB => ?_)
  exact lv_icmp_eq (tgt := 1429) hx hb dL_law_908 (by decide) (fun _ => kk _ H locs hB hp.2) (fun q => absurd hp.1.symm q)

theorem lc_meet {p : Program} {l : Launch} {e : Env} {s : State} {m : MethodId} {below : List Frame} {meth : Method} {c : Code} {H : Heap} {locs : List Loc} {cells slots : Nat} {Q : State → Prop} {G : jG} {A : Nat → Prop} {ret : Option FieldType} {ls : Array Slot} {b L i : Nat} {xs : Nat → Int32} {I : Nat → Nat → Int32} {J : Nat → Nat → Int64} {O : Nat → Nat → Nat} (hC : jC p G s m meth c A cL_law ret 4 RL wsL_law #[Value.ref b]) (hl : lv_has ls 4 [(0, .ref b), (1, .ref (G.2.2.1 (0, 0, 0))), (2, .ref (G.2.2.1 (20, 0, 0))), (3, .int (nI i))]) (hX : va_X b L xs s s.heap) (hbl : b < s.heap.size) (hbA : ¬ A b) (hL : L ≤ 448) (hB : jB G A s.heap (I, J, O) H locs) (hR : jRel (I, J, O)) (hi : i + 7 ≤ L) (hf : cells ≤ room_1.cells ∧ slots ≤ room_1.slots) (kk : ∀ st H locs, jB G A s.heap st H locs → jRel st → W p l e room_1 s m #[Value.ref b] below meth c H locs cells slots Q (F0 m 1429 ls [])) : W p l e room_1 s m #[Value.ref b] below meth c H locs cells slots Q (F0 m 913 ls []) := by
  obtain ⟨hx, hb, hr, hml, hown, hts, hlocks, hK, hA⟩ := id hC
  refine lv_aload_n hx hb dL_law_913 rfl (lv_at hl 1 rfl) ?_
  refine jl_ld (jn := 1) hC hl hX hbl hbA hL hB (by omega) dL_law_914 dL_law_915 dL_law_916 dL_law_917 dL_law_918 (by decide) ?_
  refine jl_ld (jn := 2) hC hl hX hbl hbA hL hB (by omega) dL_law_919 dL_law_920 dL_law_921 dL_law_922 dL_law_923 (by decide) ?_
  refine jl_ld (jn := 3) hC hl hX hbl hbA hL hB (by omega) dL_law_924 dL_law_925 dL_law_926 dL_law_927 dL_law_928 (by decide) ?_
  refine jl_cvi (0, 0, 0) [.int (xs (i + 1)), .int (xs (i + 2)), .int (xs (i + 3))] hC hB hl.1 (t_meet l G I J O (xs (i + 1)) (xs (i + 2)) (xs (i + 3)) hR) (cwV 3 hts gL_law_X7_meet rfl rfl rfl (by decide +kernel) ⟨by decide, by decide⟩) dL_law_929 jk0 rfl rfl rfl rfl (Nat.le_of_ble_eq_true rfl) hf (fun r0 u0 H locs hp hB => ?_)
  refine lv_aload_n hx hb dL_law_932 rfl (lv_at hl 2 rfl) ?_
  refine jl_ld (jn := 1) hC hl hX hbl hbA hL hB (by omega) dL_law_933 dL_law_934 dL_law_935 dL_law_936 dL_law_937 (by decide) ?_
  refine jl_ld (jn := 2) hC hl hX hbl hbA hL hB (by omega) dL_law_938 dL_law_939 dL_law_940 dL_law_941 dL_law_942 (by decide) ?_
  refine jl_ld (jn := 3) hC hl hX hbl hbA hL hB (by omega) dL_law_943 dL_law_944 dL_law_945 dL_law_946 dL_law_947 (by decide) ?_
  refine jl_cvi (20, 0, 0) [.int (xs (i + 1)), .int (xs (i + 2)), .int (xs (i + 3))] hC hB hl.1 hp (cwV 3 hts gL_law_X8_meet rfl rfl rfl (by decide +kernel) ⟨by decide, by decide⟩) dL_law_948 jk20 rfl rfl rfl rfl (Nat.le_of_ble_eq_true rfl) hf (fun r1 u1 H locs hp hB => ?_)
  exact lv_icmp_eq (tgt := 1429) hx hb dL_law_951 (by decide) (fun _ => kk _ H locs hB hp.2) (fun q => absurd hp.1.symm q)

theorem lc_hunt {p : Program} {l : Launch} {e : Env} {s : State} {m : MethodId} {below : List Frame} {meth : Method} {c : Code} {H : Heap} {locs : List Loc} {cells slots : Nat} {Q : State → Prop} {G : jG} {A : Nat → Prop} {ret : Option FieldType} {ls : Array Slot} {b L i : Nat} {xs : Nat → Int32} {I : Nat → Nat → Int32} {J : Nat → Nat → Int64} {O : Nat → Nat → Nat} (hC : jC p G s m meth c A cL_law ret 4 RL wsL_law #[Value.ref b]) (hl : lv_has ls 4 [(0, .ref b), (1, .ref (G.2.2.1 (0, 0, 0))), (2, .ref (G.2.2.1 (20, 0, 0))), (3, .int (nI i))]) (hX : va_X b L xs s s.heap) (hbl : b < s.heap.size) (hbA : ¬ A b) (hL : L ≤ 448) (hB : jB G A s.heap (I, J, O) H locs) (hR : jRel (I, J, O)) (hi : i + 7 ≤ L) (hf : cells ≤ room_1.cells ∧ slots ≤ room_1.slots) (kk : ∀ st H locs, jB G A s.heap st H locs → jRel st → W p l e room_1 s m #[Value.ref b] below meth c H locs cells slots Q (F0 m 1429 ls [])) : W p l e room_1 s m #[Value.ref b] below meth c H locs cells slots Q (F0 m 956 ls []) := by
  obtain ⟨hx, hb, hr, hml, hown, hts, hlocks, hK, hA⟩ := id hC
  refine lv_aload_n hx hb dL_law_956 rfl (lv_at hl 1 rfl) ?_
  refine jl_ld (jn := 1) hC hl hX hbl hbA hL hB (by omega) dL_law_957 dL_law_958 dL_law_959 dL_law_960 dL_law_961 (by decide) ?_
  refine jl_ld (jn := 2) hC hl hX hbl hbA hL hB (by omega) dL_law_962 dL_law_963 dL_law_964 dL_law_965 dL_law_966 (by decide) ?_
  refine jl_ld (jn := 3) hC hl hX hbl hbA hL hB (by omega) dL_law_967 dL_law_968 dL_law_969 dL_law_970 dL_law_971 (by decide) ?_
  refine jl_cvi (0, 0, 0) [.int (xs (i + 1)), .int (xs (i + 2)), .int (xs (i + 3))] hC hB hl.1 (t_hunt l G I J O (xs (i + 1)) (xs (i + 2)) (xs (i + 3)) hR) (cwV 3 hts gL_law_X7_hunt rfl rfl rfl (by decide +kernel) ⟨by decide, by decide⟩) dL_law_972 jk0 rfl rfl rfl rfl (Nat.le_of_ble_eq_true rfl) hf (fun r0 u0 H locs hp hB => ?_)
  refine lv_aload_n hx hb dL_law_975 rfl (lv_at hl 2 rfl) ?_
  refine jl_ld (jn := 1) hC hl hX hbl hbA hL hB (by omega) dL_law_976 dL_law_977 dL_law_978 dL_law_979 dL_law_980 (by decide) ?_
  refine jl_ld (jn := 2) hC hl hX hbl hbA hL hB (by omega) dL_law_981 dL_law_982 dL_law_983 dL_law_984 dL_law_985 (by decide) ?_
  refine jl_ld (jn := 3) hC hl hX hbl hbA hL hB (by omega) dL_law_986 dL_law_987 dL_law_988 dL_law_989 dL_law_990 (by decide) ?_
  refine jl_cvi (20, 0, 0) [.int (xs (i + 1)), .int (xs (i + 2)), .int (xs (i + 3))] hC hB hl.1 hp (cwV 3 hts gL_law_X8_hunt rfl rfl rfl (by decide +kernel) ⟨by decide, by decide⟩) dL_law_991 jk20 rfl rfl rfl rfl (Nat.le_of_ble_eq_true rfl) hf (fun r1 u1 H locs hp hB => ?_)
  exact lv_icmp_eq (tgt := 1429) hx hb dL_law_994 (by decide) (fun _ => kk _ H locs hB hp.2) (fun q => absurd hp.1.symm q)

theorem lc_wander {p : Program} {l : Launch} {e : Env} {s : State} {m : MethodId} {below : List Frame} {meth : Method} {c : Code} {H : Heap} {locs : List Loc} {cells slots : Nat} {Q : State → Prop} {G : jG} {A : Nat → Prop} {ret : Option FieldType} {ls : Array Slot} {b L i : Nat} {xs : Nat → Int32} {I : Nat → Nat → Int32} {J : Nat → Nat → Int64} {O : Nat → Nat → Nat} (hC : jC p G s m meth c A cL_law ret 4 RL wsL_law #[Value.ref b]) (hl : lv_has ls 4 [(0, .ref b), (1, .ref (G.2.2.1 (0, 0, 0))), (2, .ref (G.2.2.1 (20, 0, 0))), (3, .int (nI i))]) (hX : va_X b L xs s s.heap) (hbl : b < s.heap.size) (hbA : ¬ A b) (hL : L ≤ 448) (hB : jB G A s.heap (I, J, O) H locs) (hR : jRel (I, J, O)) (hi : i + 7 ≤ L) (hf : cells ≤ room_1.cells ∧ slots ≤ room_1.slots) (kk : ∀ st H locs, jB G A s.heap st H locs → jRel st → W p l e room_1 s m #[Value.ref b] below meth c H locs cells slots Q (F0 m 1429 ls [])) : W p l e room_1 s m #[Value.ref b] below meth c H locs cells slots Q (F0 m 999 ls []) := by
  obtain ⟨hx, hb, hr, hml, hown, hts, hlocks, hK, hA⟩ := id hC
  refine lv_aload_n hx hb dL_law_999 rfl (lv_at hl 1 rfl) ?_
  refine jl_ld (jn := 1) hC hl hX hbl hbA hL hB (by omega) dL_law_1000 dL_law_1001 dL_law_1002 dL_law_1003 dL_law_1004 (by decide) ?_
  refine jl_ld (jn := 2) hC hl hX hbl hbA hL hB (by omega) dL_law_1005 dL_law_1006 dL_law_1007 dL_law_1008 dL_law_1009 (by decide) ?_
  refine jl_ld (jn := 3) hC hl hX hbl hbA hL hB (by omega) dL_law_1010 dL_law_1011 dL_law_1012 dL_law_1013 dL_law_1014 (by decide) ?_
  refine jl_ld (jn := 4) hC hl hX hbl hbA hL hB (by omega) dL_law_1015 dL_law_1016 dL_law_1017 dL_law_1018 dL_law_1019 (by decide) ?_
  refine jl_cvl (0, 0, 0) [.int (xs (i + 1)), .int (xs (i + 2)), .int (xs (i + 3)), .int (xs (i + 4))] hC hB hl.1 (t_wander l G I J O (xs (i + 1)) (xs (i + 2)) (xs (i + 3)) (xs (i + 4)) hR) (cwV 4 hts gL_law_X7_wander rfl rfl rfl (by decide +kernel) ⟨by decide, by decide⟩) dL_law_1020 jk0 rfl rfl rfl rfl (Nat.le_of_ble_eq_true rfl) hf (fun r0 u0 H locs hp hB => ?_)
  refine lv_aload_n hx hb dL_law_1023 rfl (lv_at hl 2 rfl) ?_
  refine jl_ld (jn := 1) hC hl hX hbl hbA hL hB (by omega) dL_law_1024 dL_law_1025 dL_law_1026 dL_law_1027 dL_law_1028 (by decide) ?_
  refine jl_ld (jn := 2) hC hl hX hbl hbA hL hB (by omega) dL_law_1029 dL_law_1030 dL_law_1031 dL_law_1032 dL_law_1033 (by decide) ?_
  refine jl_ld (jn := 3) hC hl hX hbl hbA hL hB (by omega) dL_law_1034 dL_law_1035 dL_law_1036 dL_law_1037 dL_law_1038 (by decide) ?_
  refine jl_ld (jn := 4) hC hl hX hbl hbA hL hB (by omega) dL_law_1039 dL_law_1040 dL_law_1041 dL_law_1042 dL_law_1043 (by decide) ?_
  refine jl_cvl (20, 0, 0) [.int (xs (i + 1)), .int (xs (i + 2)), .int (xs (i + 3)), .int (xs (i + 4))] hC hB hl.1 hp (cwV 4 hts gL_law_X8_wander rfl rfl rfl (by decide +kernel) ⟨by decide, by decide⟩) dL_law_1044 jk20 rfl rfl rfl rfl (Nat.le_of_ble_eq_true rfl) hf (fun r1 u1 H locs hp hB => ?_)
  refine W.lcmp hx hb dL_law_1047 ?_
  exact jl_if_eq (tgt := 1429) hx hb dL_law_1048 (by decide) (fun _ => kk _ H locs hB hp.2) (fun q => absurd hp.1.symm q)

theorem lc_image {p : Program} {l : Launch} {e : Env} {s : State} {m : MethodId} {below : List Frame} {meth : Method} {c : Code} {H : Heap} {locs : List Loc} {cells slots : Nat} {Q : State → Prop} {G : jG} {A : Nat → Prop} {ret : Option FieldType} {ls : Array Slot} {b L i : Nat} {xs : Nat → Int32} {I : Nat → Nat → Int32} {J : Nat → Nat → Int64} {O : Nat → Nat → Nat} (hC : jC p G s m meth c A cL_law ret 4 RL wsL_law #[Value.ref b]) (hl : lv_has ls 4 [(0, .ref b), (1, .ref (G.2.2.1 (0, 0, 0))), (2, .ref (G.2.2.1 (20, 0, 0))), (3, .int (nI i))]) (hX : va_X b L xs s s.heap) (hbl : b < s.heap.size) (hbA : ¬ A b) (hL : L ≤ 448) (hB : jB G A s.heap (I, J, O) H locs) (hR : jRel (I, J, O)) (hi : i + 7 ≤ L) (hf : cells ≤ room_1.cells ∧ slots ≤ room_1.slots) (kk : ∀ st H locs, jB G A s.heap st H locs → jRel st → W p l e room_1 s m #[Value.ref b] below meth c H locs cells slots Q (F0 m 1429 ls [])) : W p l e room_1 s m #[Value.ref b] below meth c H locs cells slots Q (F0 m 1053 ls []) := by
  obtain ⟨hx, hb, hr, hml, hown, hts, hlocks, hK, hA⟩ := id hC
  refine lv_aload_n hx hb dL_law_1053 rfl (lv_at hl 1 rfl) ?_
  refine jl_cvi (0, 0, 0) [] hC hB hl.1 (t_image l G I J O  hR) (cwV 0 hts gL_law_X7_image rfl rfl rfl (by decide +kernel) ⟨by decide, by decide⟩) dL_law_1054 jk0 rfl rfl rfl rfl (Nat.le_of_ble_eq_true rfl) hf (fun r0 u0 H locs hp hB => ?_)
  refine lv_aload_n hx hb dL_law_1057 rfl (lv_at hl 2 rfl) ?_
  refine jl_cvi (20, 0, 0) [] hC hB hl.1 hp (cwV 0 hts gL_law_X8_image rfl rfl rfl (by decide +kernel) ⟨by decide, by decide⟩) dL_law_1058 jk20 rfl rfl rfl rfl (Nat.le_of_ble_eq_true rfl) hf (fun r1 u1 H locs hp hB => ?_)
  exact lv_icmp_eq (tgt := 1429) hx hb dL_law_1061 (by decide) (fun _ => kk _ H locs hB hp.2) (fun q => absurd hp.1.symm q)

theorem lc_restore {p : Program} {l : Launch} {e : Env} {s : State} {m : MethodId} {below : List Frame} {meth : Method} {c : Code} {H : Heap} {locs : List Loc} {cells slots : Nat} {Q : State → Prop} {G : jG} {A : Nat → Prop} {ret : Option FieldType} {ls : Array Slot} {b L i : Nat} {xs : Nat → Int32} {I : Nat → Nat → Int32} {J : Nat → Nat → Int64} {O : Nat → Nat → Nat} (hC : jC p G s m meth c A cL_law ret 4 RL wsL_law #[Value.ref b]) (hl : lv_has ls 4 [(0, .ref b), (1, .ref (G.2.2.1 (0, 0, 0))), (2, .ref (G.2.2.1 (20, 0, 0))), (3, .int (nI i))]) (hX : va_X b L xs s s.heap) (hbl : b < s.heap.size) (hbA : ¬ A b) (hL : L ≤ 448) (hB : jB G A s.heap (I, J, O) H locs) (hR : jRel (I, J, O)) (hi : i + 7 ≤ L) (hf : cells ≤ room_1.cells ∧ slots ≤ room_1.slots) (kk : ∀ st H locs, jB G A s.heap st H locs → jRel st → W p l e room_1 s m #[Value.ref b] below meth c H locs cells slots Q (F0 m 1429 ls [])) : W p l e room_1 s m #[Value.ref b] below meth c H locs cells slots Q (F0 m 1066 ls []) := by
  obtain ⟨hx, hb, hr, hml, hown, hts, hlocks, hK, hA⟩ := id hC
  refine lv_aload_n hx hb dL_law_1066 rfl (lv_at hl 1 rfl) ?_
  refine jl_cvi (0, 0, 0) [] hC hB hl.1 (t_restore l G I J O  hR) (cwV 0 hts gL_law_X7_restore rfl rfl rfl (by decide +kernel) ⟨by decide, by decide⟩) dL_law_1067 jk0 rfl rfl rfl rfl (Nat.le_of_ble_eq_true rfl) hf (fun r0 u0 H locs hp hB => ?_)
  refine lv_aload_n hx hb dL_law_1070 rfl (lv_at hl 2 rfl) ?_
  refine jl_cvi (20, 0, 0) [] hC hB hl.1 hp (cwV 0 hts gL_law_X8_restore rfl rfl rfl (by decide +kernel) ⟨by decide, by decide⟩) dL_law_1071 jk20 rfl rfl rfl rfl (Nat.le_of_ble_eq_true rfl) hf (fun r1 u1 H locs hp hB => ?_)
  exact lv_icmp_eq (tgt := 1429) hx hb dL_law_1074 (by decide) (fun _ => kk _ H locs hB hp.2) (fun q => absurd hp.1.symm q)

theorem lc_heard {p : Program} {l : Launch} {e : Env} {s : State} {m : MethodId} {below : List Frame} {meth : Method} {c : Code} {H : Heap} {locs : List Loc} {cells slots : Nat} {Q : State → Prop} {G : jG} {A : Nat → Prop} {ret : Option FieldType} {ls : Array Slot} {b L i : Nat} {xs : Nat → Int32} {I : Nat → Nat → Int32} {J : Nat → Nat → Int64} {O : Nat → Nat → Nat} (hC : jC p G s m meth c A cL_law ret 4 RL wsL_law #[Value.ref b]) (hl : lv_has ls 4 [(0, .ref b), (1, .ref (G.2.2.1 (0, 0, 0))), (2, .ref (G.2.2.1 (20, 0, 0))), (3, .int (nI i))]) (hX : va_X b L xs s s.heap) (hbl : b < s.heap.size) (hbA : ¬ A b) (hL : L ≤ 448) (hB : jB G A s.heap (I, J, O) H locs) (hR : jRel (I, J, O)) (hi : i + 7 ≤ L) (hf : cells ≤ room_1.cells ∧ slots ≤ room_1.slots) (kk : ∀ st H locs, jB G A s.heap st H locs → jRel st → W p l e room_1 s m #[Value.ref b] below meth c H locs cells slots Q (F0 m 1429 ls [])) : W p l e room_1 s m #[Value.ref b] below meth c H locs cells slots Q (F0 m 1079 ls []) := by
  obtain ⟨hx, hb, hr, hml, hown, hts, hlocks, hK, hA⟩ := id hC
  refine lv_aload_n hx hb dL_law_1079 rfl (lv_at hl 1 rfl) ?_
  refine jl_ld (jn := 1) hC hl hX hbl hbA hL hB (by omega) dL_law_1080 dL_law_1081 dL_law_1082 dL_law_1083 dL_law_1084 (by decide) ?_
  refine jl_ld (jn := 2) hC hl hX hbl hbA hL hB (by omega) dL_law_1085 dL_law_1086 dL_law_1087 dL_law_1088 dL_law_1089 (by decide) ?_
  refine jl_ld (jn := 3) hC hl hX hbl hbA hL hB (by omega) dL_law_1090 dL_law_1091 dL_law_1092 dL_law_1093 dL_law_1094 (by decide) ?_
  refine jl_ld (jn := 4) hC hl hX hbl hbA hL hB (by omega) dL_law_1095 dL_law_1096 dL_law_1097 dL_law_1098 dL_law_1099 (by decide) ?_
  refine jl_ld (jn := 5) hC hl hX hbl hbA hL hB (by omega) dL_law_1100 dL_law_1101 dL_law_1102 dL_law_1103 dL_law_1104 (by decide) ?_
  refine jl_ld6 hC hl hX hbl hbA hL hB (by omega) dL_law_1105 dL_law_1106 dL_law_1107 dL_law_1109 dL_law_1110 ?_
  refine jl_cvi (0, 0, 0) [.int (xs (i + 1)), .int (xs (i + 2)), .int (xs (i + 3)), .int (xs (i + 4)), .int (xs (i + 5)), .int (xs (i + 6))] hC hB hl.1 (t_heard l G I J O (xs (i + 1)) (xs (i + 2)) (xs (i + 3)) (xs (i + 4)) (xs (i + 5)) (xs (i + 6)) hR) (cwV 6 hts gL_law_X7_heard rfl rfl rfl (by decide +kernel) ⟨by decide, by decide⟩) dL_law_1111 jk0 rfl rfl rfl rfl (Nat.le_of_ble_eq_true rfl) hf (fun r0 u0 H locs hp hB => ?_)
  refine lv_aload_n hx hb dL_law_1114 rfl (lv_at hl 2 rfl) ?_
  refine jl_ld (jn := 1) hC hl hX hbl hbA hL hB (by omega) dL_law_1115 dL_law_1116 dL_law_1117 dL_law_1118 dL_law_1119 (by decide) ?_
  refine jl_ld (jn := 2) hC hl hX hbl hbA hL hB (by omega) dL_law_1120 dL_law_1121 dL_law_1122 dL_law_1123 dL_law_1124 (by decide) ?_
  refine jl_ld (jn := 3) hC hl hX hbl hbA hL hB (by omega) dL_law_1125 dL_law_1126 dL_law_1127 dL_law_1128 dL_law_1129 (by decide) ?_
  refine jl_ld (jn := 4) hC hl hX hbl hbA hL hB (by omega) dL_law_1130 dL_law_1131 dL_law_1132 dL_law_1133 dL_law_1134 (by decide) ?_
  refine jl_ld (jn := 5) hC hl hX hbl hbA hL hB (by omega) dL_law_1135 dL_law_1136 dL_law_1137 dL_law_1138 dL_law_1139 (by decide) ?_
  refine jl_ld6 hC hl hX hbl hbA hL hB (by omega) dL_law_1140 dL_law_1141 dL_law_1142 dL_law_1144 dL_law_1145 ?_
  refine jl_cvi (20, 0, 0) [.int (xs (i + 1)), .int (xs (i + 2)), .int (xs (i + 3)), .int (xs (i + 4)), .int (xs (i + 5)), .int (xs (i + 6))] hC hB hl.1 hp (cwV 6 hts gL_law_X8_heard rfl rfl rfl (by decide +kernel) ⟨by decide, by decide⟩) dL_law_1146 jk20 rfl rfl rfl rfl (Nat.le_of_ble_eq_true rfl) hf (fun r1 u1 H locs hp hB => ?_)
  exact lv_icmp_eq (tgt := 1429) hx hb dL_law_1149 (by decide) (fun _ => kk _ H locs hB hp.2) (fun q => absurd hp.1.symm q)

theorem lc_film {p : Program} {l : Launch} {e : Env} {s : State} {m : MethodId} {below : List Frame} {meth : Method} {c : Code} {H : Heap} {locs : List Loc} {cells slots : Nat} {Q : State → Prop} {G : jG} {A : Nat → Prop} {ret : Option FieldType} {ls : Array Slot} {b L i : Nat} {xs : Nat → Int32} {I : Nat → Nat → Int32} {J : Nat → Nat → Int64} {O : Nat → Nat → Nat} (hC : jC p G s m meth c A cL_law ret 4 RL wsL_law #[Value.ref b]) (hl : lv_has ls 4 [(0, .ref b), (1, .ref (G.2.2.1 (0, 0, 0))), (2, .ref (G.2.2.1 (20, 0, 0))), (3, .int (nI i))]) (hX : va_X b L xs s s.heap) (hbl : b < s.heap.size) (hbA : ¬ A b) (hL : L ≤ 448) (hB : jB G A s.heap (I, J, O) H locs) (hR : jRel (I, J, O)) (hi : i + 7 ≤ L) (hf : cells ≤ room_1.cells ∧ slots ≤ room_1.slots) (kk : ∀ st H locs, jB G A s.heap st H locs → jRel st → W p l e room_1 s m #[Value.ref b] below meth c H locs cells slots Q (F0 m 1429 ls [])) : W p l e room_1 s m #[Value.ref b] below meth c H locs cells slots Q (F0 m 1154 ls []) := by
  obtain ⟨hx, hb, hr, hml, hown, hts, hlocks, hK, hA⟩ := id hC
  refine lv_aload_n hx hb dL_law_1154 rfl (lv_at hl 1 rfl) ?_
  refine jl_ld (jn := 1) hC hl hX hbl hbA hL hB (by omega) dL_law_1155 dL_law_1156 dL_law_1157 dL_law_1158 dL_law_1159 (by decide) ?_
  refine jl_ld (jn := 2) hC hl hX hbl hbA hL hB (by omega) dL_law_1160 dL_law_1161 dL_law_1162 dL_law_1163 dL_law_1164 (by decide) ?_
  refine jl_ld (jn := 3) hC hl hX hbl hbA hL hB (by omega) dL_law_1165 dL_law_1166 dL_law_1167 dL_law_1168 dL_law_1169 (by decide) ?_
  refine jl_ld (jn := 4) hC hl hX hbl hbA hL hB (by omega) dL_law_1170 dL_law_1171 dL_law_1172 dL_law_1173 dL_law_1174 (by decide) ?_
  refine jl_ld (jn := 5) hC hl hX hbl hbA hL hB (by omega) dL_law_1175 dL_law_1176 dL_law_1177 dL_law_1178 dL_law_1179 (by decide) ?_
  refine jl_cvi (0, 0, 0) [.int (xs (i + 1)), .int (xs (i + 2)), .int (xs (i + 3)), .int (xs (i + 4)), .int (xs (i + 5))] hC hB hl.1 (t_film l G I J O (xs (i + 1)) (xs (i + 2)) (xs (i + 3)) (xs (i + 4)) (xs (i + 5)) hR) (cwV 5 hts gL_law_X7_film rfl rfl rfl (by decide +kernel) ⟨by decide, by decide⟩) dL_law_1180 jk0 rfl rfl rfl rfl (Nat.le_of_ble_eq_true rfl) hf (fun r0 u0 H locs hp hB => ?_)
  refine lv_aload_n hx hb dL_law_1183 rfl (lv_at hl 2 rfl) ?_
  refine jl_ld (jn := 1) hC hl hX hbl hbA hL hB (by omega) dL_law_1184 dL_law_1185 dL_law_1186 dL_law_1187 dL_law_1188 (by decide) ?_
  refine jl_ld (jn := 2) hC hl hX hbl hbA hL hB (by omega) dL_law_1189 dL_law_1190 dL_law_1191 dL_law_1192 dL_law_1193 (by decide) ?_
  refine jl_ld (jn := 3) hC hl hX hbl hbA hL hB (by omega) dL_law_1194 dL_law_1195 dL_law_1196 dL_law_1197 dL_law_1198 (by decide) ?_
  refine jl_ld (jn := 4) hC hl hX hbl hbA hL hB (by omega) dL_law_1199 dL_law_1200 dL_law_1201 dL_law_1202 dL_law_1203 (by decide) ?_
  refine jl_ld (jn := 5) hC hl hX hbl hbA hL hB (by omega) dL_law_1204 dL_law_1205 dL_law_1206 dL_law_1207 dL_law_1208 (by decide) ?_
  refine jl_cvi (20, 0, 0) [.int (xs (i + 1)), .int (xs (i + 2)), .int (xs (i + 3)), .int (xs (i + 4)), .int (xs (i + 5))] hC hB hl.1 hp (cwV 5 hts gL_law_X8_film rfl rfl rfl (by decide +kernel) ⟨by decide, by decide⟩) dL_law_1209 jk20 rfl rfl rfl rfl (Nat.le_of_ble_eq_true rfl) hf (fun r1 u1 H locs hp hB => ?_)
  exact lv_icmp_eq (tgt := 1429) hx hb dL_law_1212 (by decide) (fun _ => kk _ H locs hB hp.2) (fun q => absurd hp.1.symm q)

theorem lc_sheet {p : Program} {l : Launch} {e : Env} {s : State} {m : MethodId} {below : List Frame} {meth : Method} {c : Code} {H : Heap} {locs : List Loc} {cells slots : Nat} {Q : State → Prop} {G : jG} {A : Nat → Prop} {ret : Option FieldType} {ls : Array Slot} {b L i : Nat} {xs : Nat → Int32} {I : Nat → Nat → Int32} {J : Nat → Nat → Int64} {O : Nat → Nat → Nat} (hC : jC p G s m meth c A cL_law ret 4 RL wsL_law #[Value.ref b]) (hl : lv_has ls 4 [(0, .ref b), (1, .ref (G.2.2.1 (0, 0, 0))), (2, .ref (G.2.2.1 (20, 0, 0))), (3, .int (nI i))]) (hX : va_X b L xs s s.heap) (hbl : b < s.heap.size) (hbA : ¬ A b) (hL : L ≤ 448) (hB : jB G A s.heap (I, J, O) H locs) (hR : jRel (I, J, O)) (hi : i + 7 ≤ L) (hf : cells ≤ room_1.cells ∧ slots ≤ room_1.slots) (kk : ∀ st H locs, jB G A s.heap st H locs → jRel st → W p l e room_1 s m #[Value.ref b] below meth c H locs cells slots Q (F0 m 1429 ls [])) : W p l e room_1 s m #[Value.ref b] below meth c H locs cells slots Q (F0 m 1217 ls []) := by
  obtain ⟨hx, hb, hr, hml, hown, hts, hlocks, hK, hA⟩ := id hC
  refine lv_aload_n hx hb dL_law_1217 rfl (lv_at hl 1 rfl) ?_
  refine jl_ld (jn := 1) hC hl hX hbl hbA hL hB (by omega) dL_law_1218 dL_law_1219 dL_law_1220 dL_law_1221 dL_law_1222 (by decide) ?_
  refine jl_ld (jn := 2) hC hl hX hbl hbA hL hB (by omega) dL_law_1223 dL_law_1224 dL_law_1225 dL_law_1226 dL_law_1227 (by decide) ?_
  refine jl_ld (jn := 3) hC hl hX hbl hbA hL hB (by omega) dL_law_1228 dL_law_1229 dL_law_1230 dL_law_1231 dL_law_1232 (by decide) ?_
  refine jl_cvi (0, 0, 0) [.int (xs (i + 1)), .int (xs (i + 2)), .int (xs (i + 3))] hC hB hl.1 (t_sheet l G I J O (xs (i + 1)) (xs (i + 2)) (xs (i + 3)) hR) (cwV 3 hts gL_law_X7_sheet rfl rfl rfl (by decide +kernel) ⟨by decide, by decide⟩) dL_law_1233 jk0 rfl rfl rfl rfl (Nat.le_of_ble_eq_true rfl) hf (fun r0 u0 H locs hp hB => ?_)
  refine lv_aload_n hx hb dL_law_1236 rfl (lv_at hl 2 rfl) ?_
  refine jl_ld (jn := 1) hC hl hX hbl hbA hL hB (by omega) dL_law_1237 dL_law_1238 dL_law_1239 dL_law_1240 dL_law_1241 (by decide) ?_
  refine jl_ld (jn := 2) hC hl hX hbl hbA hL hB (by omega) dL_law_1242 dL_law_1243 dL_law_1244 dL_law_1245 dL_law_1246 (by decide) ?_
  refine jl_ld (jn := 3) hC hl hX hbl hbA hL hB (by omega) dL_law_1247 dL_law_1248 dL_law_1249 dL_law_1250 dL_law_1251 (by decide) ?_
  refine jl_cvi (20, 0, 0) [.int (xs (i + 1)), .int (xs (i + 2)), .int (xs (i + 3))] hC hB hl.1 hp (cwV 3 hts gL_law_X8_sheet rfl rfl rfl (by decide +kernel) ⟨by decide, by decide⟩) dL_law_1252 jk20 rfl rfl rfl rfl (Nat.le_of_ble_eq_true rfl) hf (fun r1 u1 H locs hp hB => ?_)
  exact lv_icmp_eq (tgt := 1429) hx hb dL_law_1255 (by decide) (fun _ => kk _ H locs hB hp.2) (fun q => absurd hp.1.symm q)

theorem lc_drop {p : Program} {l : Launch} {e : Env} {s : State} {m : MethodId} {below : List Frame} {meth : Method} {c : Code} {H : Heap} {locs : List Loc} {cells slots : Nat} {Q : State → Prop} {G : jG} {A : Nat → Prop} {ret : Option FieldType} {ls : Array Slot} {b L i : Nat} {xs : Nat → Int32} {I : Nat → Nat → Int32} {J : Nat → Nat → Int64} {O : Nat → Nat → Nat} (hC : jC p G s m meth c A cL_law ret 4 RL wsL_law #[Value.ref b]) (hl : lv_has ls 4 [(0, .ref b), (1, .ref (G.2.2.1 (0, 0, 0))), (2, .ref (G.2.2.1 (20, 0, 0))), (3, .int (nI i))]) (hX : va_X b L xs s s.heap) (hbl : b < s.heap.size) (hbA : ¬ A b) (hL : L ≤ 448) (hB : jB G A s.heap (I, J, O) H locs) (hR : jRel (I, J, O)) (hi : i + 7 ≤ L) (hf : cells ≤ room_1.cells ∧ slots ≤ room_1.slots) (kk : ∀ st H locs, jB G A s.heap st H locs → jRel st → W p l e room_1 s m #[Value.ref b] below meth c H locs cells slots Q (F0 m 1429 ls [])) : W p l e room_1 s m #[Value.ref b] below meth c H locs cells slots Q (F0 m 1260 ls []) := by
  obtain ⟨hx, hb, hr, hml, hown, hts, hlocks, hK, hA⟩ := id hC
  refine lv_aload_n hx hb dL_law_1260 rfl (lv_at hl 1 rfl) ?_
  refine jl_ld (jn := 1) hC hl hX hbl hbA hL hB (by omega) dL_law_1261 dL_law_1262 dL_law_1263 dL_law_1264 dL_law_1265 (by decide) ?_
  refine jl_cvi (0, 0, 0) [.int (xs (i + 1))] hC hB hl.1 (t_drop l G I J O (xs (i + 1)) hR) (cwV 1 hts gL_law_X7_drop rfl rfl rfl (by decide +kernel) ⟨by decide, by decide⟩) dL_law_1266 jk0 rfl rfl rfl rfl (Nat.le_of_ble_eq_true rfl) hf (fun r0 u0 H locs hp hB => ?_)
  refine lv_aload_n hx hb dL_law_1269 rfl (lv_at hl 2 rfl) ?_
  refine jl_ld (jn := 1) hC hl hX hbl hbA hL hB (by omega) dL_law_1270 dL_law_1271 dL_law_1272 dL_law_1273 dL_law_1274 (by decide) ?_
  refine jl_cvi (20, 0, 0) [.int (xs (i + 1))] hC hB hl.1 hp (cwV 1 hts gL_law_X8_drop rfl rfl rfl (by decide +kernel) ⟨by decide, by decide⟩) dL_law_1275 jk20 rfl rfl rfl rfl (Nat.le_of_ble_eq_true rfl) hf (fun r1 u1 H locs hp hB => ?_)
  exact lv_icmp_eq (tgt := 1429) hx hb dL_law_1278 (by decide) (fun _ => kk _ H locs hB hp.2) (fun q => absurd hp.1.symm q)

theorem lc_item {p : Program} {l : Launch} {e : Env} {s : State} {m : MethodId} {below : List Frame} {meth : Method} {c : Code} {H : Heap} {locs : List Loc} {cells slots : Nat} {Q : State → Prop} {G : jG} {A : Nat → Prop} {ret : Option FieldType} {ls : Array Slot} {b L i : Nat} {xs : Nat → Int32} {I : Nat → Nat → Int32} {J : Nat → Nat → Int64} {O : Nat → Nat → Nat} (hC : jC p G s m meth c A cL_law ret 4 RL wsL_law #[Value.ref b]) (hl : lv_has ls 4 [(0, .ref b), (1, .ref (G.2.2.1 (0, 0, 0))), (2, .ref (G.2.2.1 (20, 0, 0))), (3, .int (nI i))]) (hX : va_X b L xs s s.heap) (hbl : b < s.heap.size) (hbA : ¬ A b) (hL : L ≤ 448) (hB : jB G A s.heap (I, J, O) H locs) (hR : jRel (I, J, O)) (hi : i + 7 ≤ L) (hf : cells ≤ room_1.cells ∧ slots ≤ room_1.slots) (kk : ∀ st H locs, jB G A s.heap st H locs → jRel st → W p l e room_1 s m #[Value.ref b] below meth c H locs cells slots Q (F0 m 1429 ls [])) : W p l e room_1 s m #[Value.ref b] below meth c H locs cells slots Q (F0 m 1283 ls []) := by
  obtain ⟨hx, hb, hr, hml, hown, hts, hlocks, hK, hA⟩ := id hC
  refine lv_aload_n hx hb dL_law_1283 rfl (lv_at hl 1 rfl) ?_
  refine jl_ld (jn := 1) hC hl hX hbl hbA hL hB (by omega) dL_law_1284 dL_law_1285 dL_law_1286 dL_law_1287 dL_law_1288 (by decide) ?_
  refine jl_ld (jn := 2) hC hl hX hbl hbA hL hB (by omega) dL_law_1289 dL_law_1290 dL_law_1291 dL_law_1292 dL_law_1293 (by decide) ?_
  refine jl_ld (jn := 3) hC hl hX hbl hbA hL hB (by omega) dL_law_1294 dL_law_1295 dL_law_1296 dL_law_1297 dL_law_1298 (by decide) ?_
  refine jl_ld (jn := 4) hC hl hX hbl hbA hL hB (by omega) dL_law_1299 dL_law_1300 dL_law_1301 dL_law_1302 dL_law_1303 (by decide) ?_
  refine lv_i2l (v := (xs (i + 4)).toInt64) hx hb dL_law_1304 rfl ?_
  refine lv_bipush (v := nI 32) hx hb dL_law_1305 (by decide) ?_
  refine lv_lshl (v := ((xs (i + 4)).toInt64) <<< ((nI 32).toInt64 &&& 63)) hx hb dL_law_1307 rfl ?_
  refine jl_ld (jn := 5) hC hl hX hbl hbA hL hB (by omega) dL_law_1308 dL_law_1309 dL_law_1310 dL_law_1311 dL_law_1312 (by decide) ?_
  refine lv_i2l (v := (xs (i + 5)).toInt64) hx hb dL_law_1313 rfl ?_
  refine lv_ldc2 (v := 4294967295) hx hb hown (hts (.constantLong RL 149 (4294967295)) (List.mem_append_left _ (List.mem_append_left _ (List.mem_append_left _ (List.mem_append_left _ (List.mem_append_left _ (List.mem_append_left _ (List.mem_append_left _ (List.mem_append_left _ (List.mem_append_left _ (List.mem_append_left _ (List.mem_append_left _ (List.mem_of_getElem? (i := 6) rfl))))))))))))) dL_law_1314 ?_
  refine lv_land hx hb dL_law_1317 ?_
  refine lv_lor hx hb dL_law_1318 ?_
  refine jl_cvi (0, 0, 0) [.int (xs (i + 1)), .int (xs (i + 2)), .int (xs (i + 3)), .long ((((xs (i + 4)).toInt64) <<< ((nI 32).toInt64 &&& 63)) ||| (((xs (i + 5)).toInt64) &&& (4294967295)))] hC hB hl.1 (t_item l G I J O (xs (i + 1)) (xs (i + 2)) (xs (i + 3)) ((((xs (i + 4)).toInt64) <<< ((nI 32).toInt64 &&& 63)) ||| (((xs (i + 5)).toInt64) &&& (4294967295))) hR) (cwV 4 hts gL_law_X7_item rfl rfl rfl (by decide +kernel) ⟨by decide, by decide⟩) dL_law_1319 jk0 rfl rfl rfl rfl (Nat.le_of_ble_eq_true rfl) hf (fun r0 u0 H locs hp hB => ?_)
  refine lv_aload_n hx hb dL_law_1322 rfl (lv_at hl 2 rfl) ?_
  refine jl_ld (jn := 1) hC hl hX hbl hbA hL hB (by omega) dL_law_1323 dL_law_1324 dL_law_1325 dL_law_1326 dL_law_1327 (by decide) ?_
  refine jl_ld (jn := 2) hC hl hX hbl hbA hL hB (by omega) dL_law_1328 dL_law_1329 dL_law_1330 dL_law_1331 dL_law_1332 (by decide) ?_
  refine jl_ld (jn := 3) hC hl hX hbl hbA hL hB (by omega) dL_law_1333 dL_law_1334 dL_law_1335 dL_law_1336 dL_law_1337 (by decide) ?_
  refine jl_ld (jn := 4) hC hl hX hbl hbA hL hB (by omega) dL_law_1338 dL_law_1339 dL_law_1340 dL_law_1341 dL_law_1342 (by decide) ?_
  refine lv_i2l (v := (xs (i + 4)).toInt64) hx hb dL_law_1343 rfl ?_
  refine lv_bipush (v := nI 32) hx hb dL_law_1344 (by decide) ?_
  refine lv_lshl (v := ((xs (i + 4)).toInt64) <<< ((nI 32).toInt64 &&& 63)) hx hb dL_law_1346 rfl ?_
  refine jl_ld (jn := 5) hC hl hX hbl hbA hL hB (by omega) dL_law_1347 dL_law_1348 dL_law_1349 dL_law_1350 dL_law_1351 (by decide) ?_
  refine lv_i2l (v := (xs (i + 5)).toInt64) hx hb dL_law_1352 rfl ?_
  refine lv_ldc2 (v := 4294967295) hx hb hown (hts (.constantLong RL 149 (4294967295)) (List.mem_append_left _ (List.mem_append_left _ (List.mem_append_left _ (List.mem_append_left _ (List.mem_append_left _ (List.mem_append_left _ (List.mem_append_left _ (List.mem_append_left _ (List.mem_append_left _ (List.mem_append_left _ (List.mem_append_left _ (List.mem_of_getElem? (i := 6) rfl))))))))))))) dL_law_1353 ?_
  refine lv_land hx hb dL_law_1356 ?_
  refine lv_lor hx hb dL_law_1357 ?_
  refine jl_cvi (20, 0, 0) [.int (xs (i + 1)), .int (xs (i + 2)), .int (xs (i + 3)), .long ((((xs (i + 4)).toInt64) <<< ((nI 32).toInt64 &&& 63)) ||| (((xs (i + 5)).toInt64) &&& (4294967295)))] hC hB hl.1 hp (cwV 4 hts gL_law_X8_item rfl rfl rfl (by decide +kernel) ⟨by decide, by decide⟩) dL_law_1358 jk20 rfl rfl rfl rfl (Nat.le_of_ble_eq_true rfl) hf (fun r1 u1 H locs hp hB => ?_)
  exact lv_icmp_eq (tgt := 1429) hx hb dL_law_1361 (by decide) (fun _ => kk _ H locs hB hp.2) (fun q => absurd hp.1.symm q)

theorem lc_copy {p : Program} {l : Launch} {e : Env} {s : State} {m : MethodId} {below : List Frame} {meth : Method} {c : Code} {H : Heap} {locs : List Loc} {cells slots : Nat} {Q : State → Prop} {G : jG} {A : Nat → Prop} {ret : Option FieldType} {ls : Array Slot} {b L i : Nat} {xs : Nat → Int32} {I : Nat → Nat → Int32} {J : Nat → Nat → Int64} {O : Nat → Nat → Nat} (hC : jC p G s m meth c A cL_law ret 4 RL wsL_law #[Value.ref b]) (hl : lv_has ls 4 [(0, .ref b), (1, .ref (G.2.2.1 (0, 0, 0))), (2, .ref (G.2.2.1 (20, 0, 0))), (3, .int (nI i))]) (hX : va_X b L xs s s.heap) (hbl : b < s.heap.size) (hbA : ¬ A b) (hL : L ≤ 448) (hB : jB G A s.heap (I, J, O) H locs) (hR : jRel (I, J, O)) (hi : i + 7 ≤ L) (hf : cells ≤ room_1.cells ∧ slots ≤ room_1.slots) (kk : ∀ st H locs, jB G A s.heap st H locs → jRel st → W p l e room_1 s m #[Value.ref b] below meth c H locs cells slots Q (F0 m 1429 ls [])) : W p l e room_1 s m #[Value.ref b] below meth c H locs cells slots Q (F0 m 1366 ls []) := by
  obtain ⟨hx, hb, hr, hml, hown, hts, hlocks, hK, hA⟩ := id hC
  refine lv_aload_n hx hb dL_law_1366 rfl (lv_at hl 1 rfl) ?_
  refine jl_ld (jn := 1) hC hl hX hbl hbA hL hB (by omega) dL_law_1367 dL_law_1368 dL_law_1369 dL_law_1370 dL_law_1371 (by decide) ?_
  refine jl_ld (jn := 2) hC hl hX hbl hbA hL hB (by omega) dL_law_1372 dL_law_1373 dL_law_1374 dL_law_1375 dL_law_1376 (by decide) ?_
  refine jl_ld (jn := 3) hC hl hX hbl hbA hL hB (by omega) dL_law_1377 dL_law_1378 dL_law_1379 dL_law_1380 dL_law_1381 (by decide) ?_
  refine jl_ld (jn := 4) hC hl hX hbl hbA hL hB (by omega) dL_law_1382 dL_law_1383 dL_law_1384 dL_law_1385 dL_law_1386 (by decide) ?_
  refine jl_ld (jn := 5) hC hl hX hbl hbA hL hB (by omega) dL_law_1387 dL_law_1388 dL_law_1389 dL_law_1390 dL_law_1391 (by decide) ?_
  refine jl_cvi (0, 0, 0) [.int (xs (i + 1)), .int (xs (i + 2)), .int (xs (i + 3)), .int (xs (i + 4)), .int (xs (i + 5))] hC hB hl.1 (t_copy l G I J O (xs (i + 1)) (xs (i + 2)) (xs (i + 3)) (xs (i + 4)) (xs (i + 5)) hR) (cwV 5 hts gL_law_X7_copy rfl rfl rfl (by decide +kernel) ⟨by decide, by decide⟩) dL_law_1392 jk0 rfl rfl rfl rfl (Nat.le_of_ble_eq_true rfl) hf (fun r0 u0 H locs hp hB => ?_)
  refine lv_aload_n hx hb dL_law_1395 rfl (lv_at hl 2 rfl) ?_
  refine jl_ld (jn := 1) hC hl hX hbl hbA hL hB (by omega) dL_law_1396 dL_law_1397 dL_law_1398 dL_law_1399 dL_law_1400 (by decide) ?_
  refine jl_ld (jn := 2) hC hl hX hbl hbA hL hB (by omega) dL_law_1401 dL_law_1402 dL_law_1403 dL_law_1404 dL_law_1405 (by decide) ?_
  refine jl_ld (jn := 3) hC hl hX hbl hbA hL hB (by omega) dL_law_1406 dL_law_1407 dL_law_1408 dL_law_1409 dL_law_1410 (by decide) ?_
  refine jl_ld (jn := 4) hC hl hX hbl hbA hL hB (by omega) dL_law_1411 dL_law_1412 dL_law_1413 dL_law_1414 dL_law_1415 (by decide) ?_
  refine jl_ld (jn := 5) hC hl hX hbl hbA hL hB (by omega) dL_law_1416 dL_law_1417 dL_law_1418 dL_law_1419 dL_law_1420 (by decide) ?_
  refine jl_cvi (20, 0, 0) [.int (xs (i + 1)), .int (xs (i + 2)), .int (xs (i + 3)), .int (xs (i + 4)), .int (xs (i + 5))] hC hB hl.1 hp (cwV 5 hts gL_law_X8_copy rfl rfl rfl (by decide +kernel) ⟨by decide, by decide⟩) dL_law_1421 jk20 rfl rfl rfl rfl (Nat.le_of_ble_eq_true rfl) hf (fun r1 u1 H locs hp hB => ?_)
  exact lv_icmp_eq (tgt := 1429) hx hb dL_law_1424 (by decide) (fun _ => kk _ H locs hB hp.2) (fun q => absurd hp.1.symm q)
