/-! THE LAW'S CASES, one by one: given what both sides answer. -/
section LT
variable {p : Program} {l : Launch} {e : Env} {R : Room} {s : State} {m : MethodId} {args : Array Value} {below : List Frame} {meth : Method} {c : Code} {H : Heap} {locs : List Loc} {Q : State → Prop}
variable {D : va_G} {E : rEn} {L : Nat → Nat} {cg : Nat → ClassId} {cr : rC} {cl : ClassId} {o b : Nat} {xs : Nat → Int32} {f g : Nat → Int64} {st : gSt} {ls : Array Slot} {km ks kp kt kw kc kpr kwk kq kst ko kr kd : Nat} {rm rm2 : Room} {mc ms mc2 ms2 : Nat} {k v : Int32}
set_option maxHeartbeats 4000000 in
set_option maxRecDepth 100000 in
theorem t_addJob (S : CallFix p m c cL_law 9 s args wsL_law RL) (hR : lR R) (hX : va_X b 4 xs s s.heap ∧ b < s.heap.size) (h : lH D E L cg cr cl o f st (rW0 E cr km ks kp kt kw kc kpr kwk kq kst ko kr kd) s H locs) (hl : lv_has ls 9 [(4, .int 0), (3, .ref o), (2, .ref km), (1, .ref (L 0)), (0, .ref b)]) (hH : hMt l yL_addJob wsL_addJob rm D L cg cl (rW0 E cr km ks kp kt kw kc kpr kwk kq kst ko kr kd) o (lA0 s) f st [.ref (L 0), .ref o] k g mc ms) (hf : lFit rm mc ms) (hM : rMi l yX10_addJob wsX10_addJob rm2 D E cr [lA cl o g] (rW0 E cr km ks kp kt kw kc kpr kwk kq kst ko kr kd) (lA0 s) [.ref km] v (fun _ : Unit => [(km, .inr (12, [.int k, .ref ks, .ref kp]))]) (fun _ => True) mc2 ms2) (hf2 : lFit rm2 mc2 ms2) (hk : k = 0 → g 0 = v.toInt64) (K : lK p l e R s m args below meth c b Q) : W p l e R s m args below meth c H locs 1000 10000 Q (F0 m 180 ls []) := by
  have hx := S.1
  have hb := S.2.1
  have hKl := h.2.2.1.2.2
  refine lv_aload_n hx hb dL_law_180 rfl (lv_at hl 3 rfl) ?_
  refine lv_aload_n hx hb dL_law_181 rfl (lv_at hl 1 rfl) ?_
  refine l_helper (n := 2) S hR h hH hf gL_law_L_addJob rfl (by decide +kernel) (by decide) rfl hl.1 rfl dL_law_182 (fun H locs h => ?_)
  refine lv_istore (lv' := [(5, .int k), (4, .int 0), (3, .ref o), (2, .ref km), (1, .ref (L 0)), (0, .ref b)]) hx hb dL_law_185 hl (by decide) rfl (fun ls hl => ?_)
  refine lv_aload_n hx hb dL_law_187 rfl (lv_at hl 3 rfl) ?_
  refine l_model (n := 0) S hR h hM hf2 gL_law_X10_addJob rfl (by decide +kernel) (by decide) rfl hl.1 rfl dL_law_188 (fun H locs h => ?_)
  exact l_tail S hR hKl h (lv_sub hl [0, 1, 2, 3, 5] rfl) ⟨dL_law_191, dL_law_193, dL_law_194, dL_law_197, dL_law_199, dL_law_204, dL_law_206, dL_law_209, dL_law_210, dL_law_211, dL_law_212, dL_law_214, dL_law_215, dL_law_216, dL_law_221⟩ (by decide) hk K
set_option maxHeartbeats 4000000 in
set_option maxRecDepth 100000 in
theorem t_addStep (S : CallFix p m c cL_law 9 s args wsL_law RL) (hR : lR R) (hX : va_X b 4 xs s s.heap ∧ b < s.heap.size) (h : lH D E L cg cr cl o f st (rW0 E cr km ks kp kt kw kc kpr kwk kq kst ko kr kd) s H locs) (hl : lv_has ls 9 [(4, .int 0), (3, .ref o), (2, .ref km), (1, .ref (L 0)), (0, .ref b)]) (hH : hMt l yL_addStep wsL_addStep rm D L cg cl (rW0 E cr km ks kp kt kw kc kpr kwk kq kst ko kr kd) o (lA0 s) f st [.ref (L 0), .int (xs 1), .int (xs 2), .int (xs 3), .ref o] k g mc ms) (hf : lFit rm mc ms) (hM : rMi l yX10_addStep wsX10_addStep rm2 D E cr [lA cl o g] (rW0 E cr km ks kp kt kw kc kpr kwk kq kst ko kr kd) (lA0 s) [.ref km, .int (xs 1), .int (xs 2), .int (xs 3)] v (fun _ : Unit => [(km, .inr (12, [.int k, .ref ks, .ref kp]))]) (fun _ => True) mc2 ms2) (hf2 : lFit rm2 mc2 ms2) (hk : k = 0 → g 0 = v.toInt64) (K : lK p l e R s m args below meth c b Q) : W p l e R s m args below meth c H locs 1000 10000 Q (F0 m 224 ls []) := by
  have hx := S.1
  have hb := S.2.1
  have hKl := h.2.2.1.2.2
  refine lv_aload_n hx hb dL_law_224 rfl (lv_at hl 3 rfl) ?_
  refine lv_aload_n hx hb dL_law_225 rfl (lv_at hl 4 rfl) ?_
  refine lv_iload hx hb dL_law_226 (lv_at hl 0 rfl) ?_
  refine lv_iconst (v := 1) hx hb dL_law_228 (by decide) ?_
  refine lv_iadd hx hb dL_law_229 ?_
  refine l_el 1 hx hb hX h.2.1 (fun q => absurd q (by decide)) (by decide) dL_law_230 ?_
  refine lv_aload_n hx hb dL_law_231 rfl (lv_at hl 4 rfl) ?_
  refine lv_iload hx hb dL_law_232 (lv_at hl 0 rfl) ?_
  refine lv_iconst (v := 2) hx hb dL_law_234 (by decide) ?_
  refine lv_iadd hx hb dL_law_235 ?_
  refine l_el 2 hx hb hX h.2.1 (fun q => absurd q (by decide)) (by decide) dL_law_236 ?_
  refine lv_aload_n hx hb dL_law_237 rfl (lv_at hl 4 rfl) ?_
  refine lv_iload hx hb dL_law_238 (lv_at hl 0 rfl) ?_
  refine lv_iconst (v := 3) hx hb dL_law_240 (by decide) ?_
  refine lv_iadd hx hb dL_law_241 ?_
  refine l_el 3 hx hb hX h.2.1 (fun q => absurd q (by decide)) (by decide) dL_law_242 ?_
  refine lv_aload_n hx hb dL_law_243 rfl (lv_at hl 1 rfl) ?_
  refine l_helper (n := 5) S hR h hH hf gL_law_L_addStep rfl (by decide +kernel) (by decide) rfl hl.1 rfl dL_law_244 (fun H locs h => ?_)
  refine lv_istore (lv' := [(5, .int k), (4, .int 0), (3, .ref o), (2, .ref km), (1, .ref (L 0)), (0, .ref b)]) hx hb dL_law_247 hl (by decide) rfl (fun ls hl => ?_)
  refine lv_aload_n hx hb dL_law_249 rfl (lv_at hl 3 rfl) ?_
  refine lv_aload_n hx hb dL_law_250 rfl (lv_at hl 5 rfl) ?_
  refine lv_iload hx hb dL_law_251 (lv_at hl 1 rfl) ?_
  refine lv_iconst (v := 1) hx hb dL_law_253 (by decide) ?_
  refine lv_iadd hx hb dL_law_254 ?_
  refine l_el 1 hx hb hX h.2.1 (fun q => absurd q (by decide)) (by decide) dL_law_255 ?_
  refine lv_aload_n hx hb dL_law_256 rfl (lv_at hl 5 rfl) ?_
  refine lv_iload hx hb dL_law_257 (lv_at hl 1 rfl) ?_
  refine lv_iconst (v := 2) hx hb dL_law_259 (by decide) ?_
  refine lv_iadd hx hb dL_law_260 ?_
  refine l_el 2 hx hb hX h.2.1 (fun q => absurd q (by decide)) (by decide) dL_law_261 ?_
  refine lv_aload_n hx hb dL_law_262 rfl (lv_at hl 5 rfl) ?_
  refine lv_iload hx hb dL_law_263 (lv_at hl 1 rfl) ?_
  refine lv_iconst (v := 3) hx hb dL_law_265 (by decide) ?_
  refine lv_iadd hx hb dL_law_266 ?_
  refine l_el 3 hx hb hX h.2.1 (fun q => absurd q (by decide)) (by decide) dL_law_267 ?_
  refine l_model (n := 3) S hR h hM hf2 gL_law_X10_addStep rfl (by decide +kernel) (by decide) rfl hl.1 rfl dL_law_268 (fun H locs h => ?_)
  exact l_tail S hR hKl h (lv_sub hl [0, 1, 2, 3, 5] rfl) ⟨dL_law_271, dL_law_273, dL_law_274, dL_law_277, dL_law_279, dL_law_284, dL_law_286, dL_law_289, dL_law_290, dL_law_291, dL_law_292, dL_law_294, dL_law_295, dL_law_296, dL_law_301⟩ (by decide) hk K
set_option maxHeartbeats 4000000 in
set_option maxRecDepth 100000 in
theorem t_setWorkers (S : CallFix p m c cL_law 9 s args wsL_law RL) (hR : lR R) (hX : va_X b 4 xs s s.heap ∧ b < s.heap.size) (h : lH D E L cg cr cl o f st (rW0 E cr km ks kp kt kw kc kpr kwk kq kst ko kr kd) s H locs) (hl : lv_has ls 9 [(4, .int 0), (3, .ref o), (2, .ref km), (1, .ref (L 0)), (0, .ref b)]) (hH : hMt l yL_setWorkers wsL_setWorkers rm D L cg cl (rW0 E cr km ks kp kt kw kc kpr kwk kq kst ko kr kd) o (lA0 s) f st [.ref (L 0), .int (xs 1), .ref o] k g mc ms) (hf : lFit rm mc ms) (hM : rMi l yX10_setWorkers wsX10_setWorkers rm2 D E cr [lA cl o g] (rW0 E cr km ks kp kt kw kc kpr kwk kq kst ko kr kd) (lA0 s) [.ref km, .int (xs 1)] v (fun _ : Unit => [(km, .inr (12, [.int k, .ref ks, .ref kp]))]) (fun _ => True) mc2 ms2) (hf2 : lFit rm2 mc2 ms2) (hk : k = 0 → g 0 = v.toInt64) (K : lK p l e R s m args below meth c b Q) : W p l e R s m args below meth c H locs 1000 10000 Q (F0 m 304 ls []) := by
  have hx := S.1
  have hb := S.2.1
  have hKl := h.2.2.1.2.2
  refine lv_aload_n hx hb dL_law_304 rfl (lv_at hl 3 rfl) ?_
  refine lv_aload_n hx hb dL_law_305 rfl (lv_at hl 4 rfl) ?_
  refine lv_iload hx hb dL_law_306 (lv_at hl 0 rfl) ?_
  refine lv_iconst (v := 1) hx hb dL_law_308 (by decide) ?_
  refine lv_iadd hx hb dL_law_309 ?_
  refine l_el 1 hx hb hX h.2.1 (fun q => absurd q (by decide)) (by decide) dL_law_310 ?_
  refine lv_aload_n hx hb dL_law_311 rfl (lv_at hl 1 rfl) ?_
  refine l_helper (n := 3) S hR h hH hf gL_law_L_setWorkers rfl (by decide +kernel) (by decide) rfl hl.1 rfl dL_law_312 (fun H locs h => ?_)
  refine lv_istore (lv' := [(5, .int k), (4, .int 0), (3, .ref o), (2, .ref km), (1, .ref (L 0)), (0, .ref b)]) hx hb dL_law_315 hl (by decide) rfl (fun ls hl => ?_)
  refine lv_aload_n hx hb dL_law_317 rfl (lv_at hl 3 rfl) ?_
  refine lv_aload_n hx hb dL_law_318 rfl (lv_at hl 5 rfl) ?_
  refine lv_iload hx hb dL_law_319 (lv_at hl 1 rfl) ?_
  refine lv_iconst (v := 1) hx hb dL_law_321 (by decide) ?_
  refine lv_iadd hx hb dL_law_322 ?_
  refine l_el 1 hx hb hX h.2.1 (fun q => absurd q (by decide)) (by decide) dL_law_323 ?_
  refine l_model (n := 1) S hR h hM hf2 gL_law_X10_setWorkers rfl (by decide +kernel) (by decide) rfl hl.1 rfl dL_law_324 (fun H locs h => ?_)
  exact l_tail S hR hKl h (lv_sub hl [0, 1, 2, 3, 5] rfl) ⟨dL_law_327, dL_law_329, dL_law_330, dL_law_333, dL_law_335, dL_law_340, dL_law_342, dL_law_345, dL_law_346, dL_law_347, dL_law_348, dL_law_350, dL_law_351, dL_law_352, dL_law_357⟩ (by decide) hk K
set_option maxHeartbeats 4000000 in
set_option maxRecDepth 100000 in
theorem t_setWay (S : CallFix p m c cL_law 9 s args wsL_law RL) (hR : lR R) (hX : va_X b 4 xs s s.heap ∧ b < s.heap.size) (h : lH D E L cg cr cl o f st (rW0 E cr km ks kp kt kw kc kpr kwk kq kst ko kr kd) s H locs) (hl : lv_has ls 9 [(4, .int 0), (3, .ref o), (2, .ref km), (1, .ref (L 0)), (0, .ref b)]) (hH : hMt l yL_setWay wsL_setWay rm D L cg cl (rW0 E cr km ks kp kt kw kc kpr kwk kq kst ko kr kd) o (lA0 s) f st [.ref (L 0), .int (xs 1), .int (xs 2), .ref o] k g mc ms) (hf : lFit rm mc ms) (hM : rMi l yX10_setWay wsX10_setWay rm2 D E cr [lA cl o g] (rW0 E cr km ks kp kt kw kc kpr kwk kq kst ko kr kd) (lA0 s) [.ref km, .int (xs 1), .int (xs 2)] v (fun _ : Unit => [(km, .inr (12, [.int k, .ref ks, .ref kp]))]) (fun _ => True) mc2 ms2) (hf2 : lFit rm2 mc2 ms2) (hk : k = 0 → g 0 = v.toInt64) (K : lK p l e R s m args below meth c b Q) : W p l e R s m args below meth c H locs 1000 10000 Q (F0 m 360 ls []) := by
  have hx := S.1
  have hb := S.2.1
  have hKl := h.2.2.1.2.2
  refine lv_aload_n hx hb dL_law_360 rfl (lv_at hl 3 rfl) ?_
  refine lv_aload_n hx hb dL_law_361 rfl (lv_at hl 4 rfl) ?_
  refine lv_iload hx hb dL_law_362 (lv_at hl 0 rfl) ?_
  refine lv_iconst (v := 1) hx hb dL_law_364 (by decide) ?_
  refine lv_iadd hx hb dL_law_365 ?_
  refine l_el 1 hx hb hX h.2.1 (fun q => absurd q (by decide)) (by decide) dL_law_366 ?_
  refine lv_aload_n hx hb dL_law_367 rfl (lv_at hl 4 rfl) ?_
  refine lv_iload hx hb dL_law_368 (lv_at hl 0 rfl) ?_
  refine lv_iconst (v := 2) hx hb dL_law_370 (by decide) ?_
  refine lv_iadd hx hb dL_law_371 ?_
  refine l_el 2 hx hb hX h.2.1 (fun q => absurd q (by decide)) (by decide) dL_law_372 ?_
  refine lv_aload_n hx hb dL_law_373 rfl (lv_at hl 1 rfl) ?_
  refine l_helper (n := 4) S hR h hH hf gL_law_L_setWay rfl (by decide +kernel) (by decide) rfl hl.1 rfl dL_law_374 (fun H locs h => ?_)
  refine lv_istore (lv' := [(5, .int k), (4, .int 0), (3, .ref o), (2, .ref km), (1, .ref (L 0)), (0, .ref b)]) hx hb dL_law_377 hl (by decide) rfl (fun ls hl => ?_)
  refine lv_aload_n hx hb dL_law_379 rfl (lv_at hl 3 rfl) ?_
  refine lv_aload_n hx hb dL_law_380 rfl (lv_at hl 5 rfl) ?_
  refine lv_iload hx hb dL_law_381 (lv_at hl 1 rfl) ?_
  refine lv_iconst (v := 1) hx hb dL_law_383 (by decide) ?_
  refine lv_iadd hx hb dL_law_384 ?_
  refine l_el 1 hx hb hX h.2.1 (fun q => absurd q (by decide)) (by decide) dL_law_385 ?_
  refine lv_aload_n hx hb dL_law_386 rfl (lv_at hl 5 rfl) ?_
  refine lv_iload hx hb dL_law_387 (lv_at hl 1 rfl) ?_
  refine lv_iconst (v := 2) hx hb dL_law_389 (by decide) ?_
  refine lv_iadd hx hb dL_law_390 ?_
  refine l_el 2 hx hb hX h.2.1 (fun q => absurd q (by decide)) (by decide) dL_law_391 ?_
  refine l_model (n := 2) S hR h hM hf2 gL_law_X10_setWay rfl (by decide +kernel) (by decide) rfl hl.1 rfl dL_law_392 (fun H locs h => ?_)
  exact l_tail S hR hKl h (lv_sub hl [0, 1, 2, 3, 5] rfl) ⟨dL_law_395, dL_law_397, dL_law_398, dL_law_401, dL_law_403, dL_law_408, dL_law_410, dL_law_413, dL_law_414, dL_law_415, dL_law_416, dL_law_418, dL_law_419, dL_law_420, dL_law_425⟩ (by decide) hk K
set_option maxHeartbeats 4000000 in
set_option maxRecDepth 100000 in
theorem t_submit (S : CallFix p m c cL_law 9 s args wsL_law RL) (hR : lR R) (hX : va_X b 4 xs s s.heap ∧ b < s.heap.size) (h : lH D E L cg cr cl o f st (rW0 E cr km ks kp kt kw kc kpr kwk kq kst ko kr kd) s H locs) (hl : lv_has ls 9 [(4, .int 0), (3, .ref o), (2, .ref km), (1, .ref (L 0)), (0, .ref b)]) (hH : hMt l yL_submit wsL_submit rm D L cg cl (rW0 E cr km ks kp kt kw kc kpr kwk kq kst ko kr kd) o (lA0 s) f st [.ref (L 0), .int (xs 1), .ref o] k g mc ms) (hf : lFit rm mc ms) (hM : rMi l yX10_submit wsX10_submit rm2 D E cr [lA cl o g] (rW0 E cr km ks kp kt kw kc kpr kwk kq kst ko kr kd) (lA0 s) [.ref km, .int (xs 1)] v (fun _ : Unit => [(km, .inr (12, [.int k, .ref ks, .ref kp]))]) (fun _ => True) mc2 ms2) (hf2 : lFit rm2 mc2 ms2) (hk : k = 0 → g 0 = v.toInt64) (K : lK p l e R s m args below meth c b Q) : W p l e R s m args below meth c H locs 1000 10000 Q (F0 m 428 ls []) := by
  have hx := S.1
  have hb := S.2.1
  have hKl := h.2.2.1.2.2
  refine lv_aload_n hx hb dL_law_428 rfl (lv_at hl 3 rfl) ?_
  refine lv_aload_n hx hb dL_law_429 rfl (lv_at hl 4 rfl) ?_
  refine lv_iload hx hb dL_law_430 (lv_at hl 0 rfl) ?_
  refine lv_iconst (v := 1) hx hb dL_law_432 (by decide) ?_
  refine lv_iadd hx hb dL_law_433 ?_
  refine l_el 1 hx hb hX h.2.1 (fun q => absurd q (by decide)) (by decide) dL_law_434 ?_
  refine lv_aload_n hx hb dL_law_435 rfl (lv_at hl 1 rfl) ?_
  refine l_helper (n := 3) S hR h hH hf gL_law_L_submit rfl (by decide +kernel) (by decide) rfl hl.1 rfl dL_law_436 (fun H locs h => ?_)
  refine lv_istore (lv' := [(5, .int k), (4, .int 0), (3, .ref o), (2, .ref km), (1, .ref (L 0)), (0, .ref b)]) hx hb dL_law_439 hl (by decide) rfl (fun ls hl => ?_)
  refine lv_aload_n hx hb dL_law_441 rfl (lv_at hl 3 rfl) ?_
  refine lv_aload_n hx hb dL_law_442 rfl (lv_at hl 5 rfl) ?_
  refine lv_iload hx hb dL_law_443 (lv_at hl 1 rfl) ?_
  refine lv_iconst (v := 1) hx hb dL_law_445 (by decide) ?_
  refine lv_iadd hx hb dL_law_446 ?_
  refine l_el 1 hx hb hX h.2.1 (fun q => absurd q (by decide)) (by decide) dL_law_447 ?_
  refine l_model (n := 1) S hR h hM hf2 gL_law_X10_submit rfl (by decide +kernel) (by decide) rfl hl.1 rfl dL_law_448 (fun H locs h => ?_)
  exact l_tail S hR hKl h (lv_sub hl [0, 1, 2, 3, 5] rfl) ⟨dL_law_451, dL_law_453, dL_law_454, dL_law_457, dL_law_459, dL_law_464, dL_law_466, dL_law_469, dL_law_470, dL_law_471, dL_law_472, dL_law_474, dL_law_475, dL_law_476, dL_law_481⟩ (by decide) hk K
set_option maxHeartbeats 4000000 in
set_option maxRecDepth 100000 in
theorem t_cancel (S : CallFix p m c cL_law 9 s args wsL_law RL) (hR : lR R) (hX : va_X b 4 xs s s.heap ∧ b < s.heap.size) (h : lH D E L cg cr cl o f st (rW0 E cr km ks kp kt kw kc kpr kwk kq kst ko kr kd) s H locs) (hl : lv_has ls 9 [(4, .int 0), (3, .ref o), (2, .ref km), (1, .ref (L 0)), (0, .ref b)]) (hH : hMt l yL_cancel wsL_cancel rm D L cg cl (rW0 E cr km ks kp kt kw kc kpr kwk kq kst ko kr kd) o (lA0 s) f st [.ref (L 0), .int (xs 1), .ref o] k g mc ms) (hf : lFit rm mc ms) (hM : rMi l yX10_cancel wsX10_cancel rm2 D E cr [lA cl o g] (rW0 E cr km ks kp kt kw kc kpr kwk kq kst ko kr kd) (lA0 s) [.ref km, .int (xs 1)] v (fun _ : Unit => [(km, .inr (12, [.int k, .ref ks, .ref kp]))]) (fun _ => True) mc2 ms2) (hf2 : lFit rm2 mc2 ms2) (hk : k = 0 → g 0 = v.toInt64) (K : lK p l e R s m args below meth c b Q) : W p l e R s m args below meth c H locs 1000 10000 Q (F0 m 484 ls []) := by
  have hx := S.1
  have hb := S.2.1
  have hKl := h.2.2.1.2.2
  refine lv_aload_n hx hb dL_law_484 rfl (lv_at hl 3 rfl) ?_
  refine lv_aload_n hx hb dL_law_485 rfl (lv_at hl 4 rfl) ?_
  refine lv_iload hx hb dL_law_486 (lv_at hl 0 rfl) ?_
  refine lv_iconst (v := 1) hx hb dL_law_488 (by decide) ?_
  refine lv_iadd hx hb dL_law_489 ?_
  refine l_el 1 hx hb hX h.2.1 (fun q => absurd q (by decide)) (by decide) dL_law_490 ?_
  refine lv_aload_n hx hb dL_law_491 rfl (lv_at hl 1 rfl) ?_
  refine l_helper (n := 3) S hR h hH hf gL_law_L_cancel rfl (by decide +kernel) (by decide) rfl hl.1 rfl dL_law_492 (fun H locs h => ?_)
  refine lv_istore (lv' := [(5, .int k), (4, .int 0), (3, .ref o), (2, .ref km), (1, .ref (L 0)), (0, .ref b)]) hx hb dL_law_495 hl (by decide) rfl (fun ls hl => ?_)
  refine lv_aload_n hx hb dL_law_497 rfl (lv_at hl 3 rfl) ?_
  refine lv_aload_n hx hb dL_law_498 rfl (lv_at hl 5 rfl) ?_
  refine lv_iload hx hb dL_law_499 (lv_at hl 1 rfl) ?_
  refine lv_iconst (v := 1) hx hb dL_law_501 (by decide) ?_
  refine lv_iadd hx hb dL_law_502 ?_
  refine l_el 1 hx hb hX h.2.1 (fun q => absurd q (by decide)) (by decide) dL_law_503 ?_
  refine l_model (n := 1) S hR h hM hf2 gL_law_X10_cancel rfl (by decide +kernel) (by decide) rfl hl.1 rfl dL_law_504 (fun H locs h => ?_)
  exact l_tail S hR hKl h (lv_sub hl [0, 1, 2, 3, 5] rfl) ⟨dL_law_507, dL_law_509, dL_law_510, dL_law_513, dL_law_515, dL_law_520, dL_law_522, dL_law_525, dL_law_526, dL_law_527, dL_law_528, dL_law_530, dL_law_531, dL_law_532, dL_law_537⟩ (by decide) hk K
set_option maxHeartbeats 4000000 in
set_option maxRecDepth 100000 in
theorem t_keep (S : CallFix p m c cL_law 9 s args wsL_law RL) (hR : lR R) (hX : va_X b 4 xs s s.heap ∧ b < s.heap.size) (h : lH D E L cg cr cl o f st (rW0 E cr km ks kp kt kw kc kpr kwk kq kst ko kr kd) s H locs) (hl : lv_has ls 9 [(4, .int 0), (3, .ref o), (2, .ref km), (1, .ref (L 0)), (0, .ref b)]) (hH : hMt l yL_keep wsL_keep rm D L cg cl (rW0 E cr km ks kp kt kw kc kpr kwk kq kst ko kr kd) o (lA0 s) f st [.ref (L 0), .int (xs 1), .int (xs 2), .ref o] k g mc ms) (hf : lFit rm mc ms) (hM : rMi l yX10_keep wsX10_keep rm2 D E cr [lA cl o g] (rW0 E cr km ks kp kt kw kc kpr kwk kq kst ko kr kd) (lA0 s) [.ref km, .int (xs 1), .int (xs 2)] v (fun _ : Unit => [(km, .inr (12, [.int k, .ref ks, .ref kp]))]) (fun _ => True) mc2 ms2) (hf2 : lFit rm2 mc2 ms2) (hk : k = 0 → v = 1 ∧ g 0 = 1) (K : lK p l e R s m args below meth c b Q) : W p l e R s m args below meth c H locs 1000 10000 Q (F0 m 540 ls []) := by
  have hx := S.1
  have hb := S.2.1
  have hKl := h.2.2.1.2.2
  refine lv_aload_n hx hb dL_law_540 rfl (lv_at hl 3 rfl) ?_
  refine lv_aload_n hx hb dL_law_541 rfl (lv_at hl 4 rfl) ?_
  refine lv_iload hx hb dL_law_542 (lv_at hl 0 rfl) ?_
  refine lv_iconst (v := 1) hx hb dL_law_544 (by decide) ?_
  refine lv_iadd hx hb dL_law_545 ?_
  refine l_el 1 hx hb hX h.2.1 (fun q => absurd q (by decide)) (by decide) dL_law_546 ?_
  refine lv_aload_n hx hb dL_law_547 rfl (lv_at hl 4 rfl) ?_
  refine lv_iload hx hb dL_law_548 (lv_at hl 0 rfl) ?_
  refine lv_iconst (v := 2) hx hb dL_law_550 (by decide) ?_
  refine lv_iadd hx hb dL_law_551 ?_
  refine l_el 2 hx hb hX h.2.1 (fun q => absurd q (by decide)) (by decide) dL_law_552 ?_
  refine lv_aload_n hx hb dL_law_553 rfl (lv_at hl 1 rfl) ?_
  refine l_helper (n := 4) S hR h hH hf gL_law_L_keep rfl (by decide +kernel) (by decide) rfl hl.1 rfl dL_law_554 (fun H locs h => ?_)
  refine lv_istore (lv' := [(5, .int k), (4, .int 0), (3, .ref o), (2, .ref km), (1, .ref (L 0)), (0, .ref b)]) hx hb dL_law_557 hl (by decide) rfl (fun ls hl => ?_)
  refine lv_aload_n hx hb dL_law_559 rfl (lv_at hl 3 rfl) ?_
  refine lv_aload_n hx hb dL_law_560 rfl (lv_at hl 5 rfl) ?_
  refine lv_iload hx hb dL_law_561 (lv_at hl 1 rfl) ?_
  refine lv_iconst (v := 1) hx hb dL_law_563 (by decide) ?_
  refine lv_iadd hx hb dL_law_564 ?_
  refine l_el 1 hx hb hX h.2.1 (fun q => absurd q (by decide)) (by decide) dL_law_565 ?_
  refine lv_aload_n hx hb dL_law_566 rfl (lv_at hl 5 rfl) ?_
  refine lv_iload hx hb dL_law_567 (lv_at hl 1 rfl) ?_
  refine lv_iconst (v := 2) hx hb dL_law_569 (by decide) ?_
  refine lv_iadd hx hb dL_law_570 ?_
  refine l_el 2 hx hb hX h.2.1 (fun q => absurd q (by decide)) (by decide) dL_law_571 ?_
  refine l_model (n := 2) S hR h hM hf2 gL_law_X10_keep rfl (by decide +kernel) (by decide) rfl hl.1 rfl dL_law_572 (fun H locs h => ?_)
  refine lv_istore (lv' := [(6, .int v), (5, .int k), (4, .int 0), (3, .ref o), (2, .ref km), (1, .ref (L 0)), (0, .ref b)]) hx hb dL_law_575 hl (by decide) rfl (fun ls hl => ?_)
  refine lv_aload_n hx hb dL_law_577 rfl (lv_at hl 4 rfl) ?_
  refine l_thrown S hR h hl.1 dL_law_578 (fun H locs h => ?_)
  refine lv_iload hx hb dL_law_581 (lv_at hl 1 rfl) ?_
  refine lv_icmp_eq (tgt := 588) hx hb dL_law_583 (by decide) (fun _ => ?_) (fun c1 => absurd rfl c1)
  refine lv_iload hx hb dL_law_588 (lv_at hl 1 rfl) ?_
  refine lv_if_ne (tgt := 612) hx hb dL_law_590 (by decide) (fun _ => ?_) (fun c2 => ?_)
  · exact lv_goto (tgt := 1870) hx hb dL_law_612 (by decide) (K _ _ _ h.2.1 (lv_sub hl [2, 6] rfl))
  · obtain ⟨v1, g1⟩ := hk c2
    subst v1
    refine lv_aload_n hx hb dL_law_593 rfl (lv_at hl 3 rfl) ?_
    refine lv_iconst (v := 0) hx hb dL_law_594 (by decide) ?_
    refine va_lald hx hb hKl h.1 0 0 rfl rfl (fun q => absurd q (by decide)) dL_law_595 ?_
    refine lv_iload hx hb dL_law_596 (lv_at hl 0 rfl) ?_
    refine lv_if_eq (tgt := 605) hx hb dL_law_598 (by decide) (fun c3 => absurd c3 (by decide)) (fun _ => ?_)
    refine lv_lconst (v := g 0) hx hb dL_law_601 (by rw [g1]; rfl) ?_
    refine lv_goto (tgt := 606) hx hb dL_law_602 (by decide) ?_
    refine l_lcmp hx hb dL_law_606 ?_
    refine lv_if_eq (tgt := 612) hx hb dL_law_607 (by decide) (fun _ => ?_) (fun c3 => absurd rfl c3)
    exact lv_goto (tgt := 1870) hx hb dL_law_612 (by decide) (K _ _ _ h.2.1 (lv_sub hl [2, 6] rfl))
set_option maxHeartbeats 4000000 in
set_option maxRecDepth 100000 in
theorem t_tick (S : CallFix p m c cL_law 9 s args wsL_law RL) (hR : lR R) (hX : va_X b 4 xs s s.heap ∧ b < s.heap.size) (h : lH D E L cg cr cl o f st (rW0 E cr km ks kp kt kw kc kpr kwk kq kst ko kr kd) s H locs) (hl : lv_has ls 9 [(4, .int 0), (3, .ref o), (2, .ref km), (1, .ref (L 0)), (0, .ref b)]) (hH : hMt l yL_tick wsL_tick rm D L cg cl (rW0 E cr km ks kp kt kw kc kpr kwk kq kst ko kr kd) o (lA0 s) f st [.ref (L 0), .int (xs 1), .ref o] k g mc ms) (hf : lFit rm mc ms) (hM : rMi l yX10_tick wsX10_tick rm2 D E cr [lA cl o g] (rW0 E cr km ks kp kt kw kc kpr kwk kq kst ko kr kd) (lA0 s) [.ref km, .int (xs 1)] v (fun _ : Unit => [(km, .inr (12, [.int k, .ref ks, .ref kp]))]) (fun _ => True) mc2 ms2) (hf2 : lFit rm2 mc2 ms2) (hk : k = 0 → g 0 = v.toInt64) (K : lK p l e R s m args below meth c b Q) : W p l e R s m args below meth c H locs 1000 10000 Q (F0 m 615 ls []) := by
  have hx := S.1
  have hb := S.2.1
  have hKl := h.2.2.1.2.2
  refine lv_aload_n hx hb dL_law_615 rfl (lv_at hl 3 rfl) ?_
  refine lv_aload_n hx hb dL_law_616 rfl (lv_at hl 4 rfl) ?_
  refine lv_iload hx hb dL_law_617 (lv_at hl 0 rfl) ?_
  refine lv_iconst (v := 1) hx hb dL_law_619 (by decide) ?_
  refine lv_iadd hx hb dL_law_620 ?_
  refine l_el 1 hx hb hX h.2.1 (fun q => absurd q (by decide)) (by decide) dL_law_621 ?_
  refine lv_aload_n hx hb dL_law_622 rfl (lv_at hl 1 rfl) ?_
  refine l_helper (n := 3) S hR h hH hf gL_law_L_tick rfl (by decide +kernel) (by decide) rfl hl.1 rfl dL_law_623 (fun H locs h => ?_)
  refine lv_istore (lv' := [(5, .int k), (4, .int 0), (3, .ref o), (2, .ref km), (1, .ref (L 0)), (0, .ref b)]) hx hb dL_law_626 hl (by decide) rfl (fun ls hl => ?_)
  refine lv_aload_n hx hb dL_law_628 rfl (lv_at hl 3 rfl) ?_
  refine lv_aload_n hx hb dL_law_629 rfl (lv_at hl 5 rfl) ?_
  refine lv_iload hx hb dL_law_630 (lv_at hl 1 rfl) ?_
  refine lv_iconst (v := 1) hx hb dL_law_632 (by decide) ?_
  refine lv_iadd hx hb dL_law_633 ?_
  refine l_el 1 hx hb hX h.2.1 (fun q => absurd q (by decide)) (by decide) dL_law_634 ?_
  refine l_model (n := 1) S hR h hM hf2 gL_law_X10_tick rfl (by decide +kernel) (by decide) rfl hl.1 rfl dL_law_635 (fun H locs h => ?_)
  exact l_tail S hR hKl h (lv_sub hl [0, 1, 2, 3, 5] rfl) ⟨dL_law_638, dL_law_640, dL_law_641, dL_law_644, dL_law_646, dL_law_651, dL_law_653, dL_law_656, dL_law_657, dL_law_658, dL_law_659, dL_law_661, dL_law_662, dL_law_663, dL_law_668⟩ (by decide) hk K
set_option maxHeartbeats 4000000 in
set_option maxRecDepth 100000 in
theorem t_stateOf (S : CallFix p m c cL_law 9 s args wsL_law RL) (hR : lR R) (hX : va_X b 4 xs s s.heap ∧ b < s.heap.size) (h : lH D E L cg cr cl o f st (rW0 E cr km ks kp kt kw kc kpr kwk kq kst ko kr kd) s H locs) (hl : lv_has ls 9 [(4, .int 0), (3, .ref o), (2, .ref km), (1, .ref (L 0)), (0, .ref b)]) (hH : hMt l yL_stateOf wsL_stateOf rm D L cg cl (rW0 E cr km ks kp kt kw kc kpr kwk kq kst ko kr kd) o (lA0 s) f st [.ref (L 0), .int (xs 1), .ref o] k g mc ms) (hf : lFit rm mc ms) (hM : rMi l yX10_stateOf wsX10_stateOf rm2 D E cr [lA cl o g] (rW0 E cr km ks kp kt kw kc kpr kwk kq kst ko kr kd) (lA0 s) [.ref km, .int (xs 1)] v (fun _ : Unit => [(km, .inr (12, [.int k, .ref ks, .ref kp]))]) (fun _ => True) mc2 ms2) (hf2 : lFit rm2 mc2 ms2) (hk : k = 0 → g 0 = v.toInt64) (K : lK p l e R s m args below meth c b Q) : W p l e R s m args below meth c H locs 1000 10000 Q (F0 m 697 ls []) := by
  have hx := S.1
  have hb := S.2.1
  have hKl := h.2.2.1.2.2
  refine lv_aload_n hx hb dL_law_697 rfl (lv_at hl 3 rfl) ?_
  refine lv_aload_n hx hb dL_law_698 rfl (lv_at hl 4 rfl) ?_
  refine lv_iload hx hb dL_law_699 (lv_at hl 0 rfl) ?_
  refine lv_iconst (v := 1) hx hb dL_law_701 (by decide) ?_
  refine lv_iadd hx hb dL_law_702 ?_
  refine l_el 1 hx hb hX h.2.1 (fun q => absurd q (by decide)) (by decide) dL_law_703 ?_
  refine lv_aload_n hx hb dL_law_704 rfl (lv_at hl 1 rfl) ?_
  refine l_helper (n := 3) S hR h hH hf gL_law_L_stateOf rfl (by decide +kernel) (by decide) rfl hl.1 rfl dL_law_705 (fun H locs h => ?_)
  refine lv_istore (lv' := [(5, .int k), (4, .int 0), (3, .ref o), (2, .ref km), (1, .ref (L 0)), (0, .ref b)]) hx hb dL_law_708 hl (by decide) rfl (fun ls hl => ?_)
  refine lv_aload_n hx hb dL_law_710 rfl (lv_at hl 3 rfl) ?_
  refine lv_aload_n hx hb dL_law_711 rfl (lv_at hl 5 rfl) ?_
  refine lv_iload hx hb dL_law_712 (lv_at hl 1 rfl) ?_
  refine lv_iconst (v := 1) hx hb dL_law_714 (by decide) ?_
  refine lv_iadd hx hb dL_law_715 ?_
  refine l_el 1 hx hb hX h.2.1 (fun q => absurd q (by decide)) (by decide) dL_law_716 ?_
  refine l_model (n := 1) S hR h hM hf2 gL_law_X10_stateOf rfl (by decide +kernel) (by decide) rfl hl.1 rfl dL_law_717 (fun H locs h => ?_)
  exact l_tail S hR hKl h (lv_sub hl [0, 1, 2, 3, 5] rfl) ⟨dL_law_720, dL_law_722, dL_law_723, dL_law_726, dL_law_728, dL_law_733, dL_law_735, dL_law_738, dL_law_739, dL_law_740, dL_law_741, dL_law_743, dL_law_744, dL_law_745, dL_law_750⟩ (by decide) hk K
set_option maxHeartbeats 4000000 in
set_option maxRecDepth 100000 in
theorem t_valueOf (S : CallFix p m c cL_law 9 s args wsL_law RL) (hR : lR R) (hX : va_X b 4 xs s s.heap ∧ b < s.heap.size) (h : lH D E L cg cr cl o f st (rW0 E cr km ks kp kt kw kc kpr kwk kq kst ko kr kd) s H locs) (hl : lv_has ls 9 [(4, .int 0), (3, .ref o), (2, .ref km), (1, .ref (L 0)), (0, .ref b)]) (hH : hMt l yL_valueOf wsL_valueOf rm D L cg cl (rW0 E cr km ks kp kt kw kc kpr kwk kq kst ko kr kd) o (lA0 s) f st [.ref (L 0), .int (xs 1), .ref o] k g mc ms) (hf : lFit rm mc ms) (hM : rMi l yX10_valueOf wsX10_valueOf rm2 D E cr [lA cl o g] (rW0 E cr km ks kp kt kw kc kpr kwk kq kst ko kr kd) (lA0 s) [.ref km, .int (xs 1)] v (fun _ : Unit => [(km, .inr (12, [.int k, .ref ks, .ref kp]))]) (fun _ => True) mc2 ms2) (hf2 : lFit rm2 mc2 ms2) (hk : k = 0 → g 0 = v.toInt64) (K : lK p l e R s m args below meth c b Q) : W p l e R s m args below meth c H locs 1000 10000 Q (F0 m 753 ls []) := by
  have hx := S.1
  have hb := S.2.1
  have hKl := h.2.2.1.2.2
  refine lv_aload_n hx hb dL_law_753 rfl (lv_at hl 3 rfl) ?_
  refine lv_aload_n hx hb dL_law_754 rfl (lv_at hl 4 rfl) ?_
  refine lv_iload hx hb dL_law_755 (lv_at hl 0 rfl) ?_
  refine lv_iconst (v := 1) hx hb dL_law_757 (by decide) ?_
  refine lv_iadd hx hb dL_law_758 ?_
  refine l_el 1 hx hb hX h.2.1 (fun q => absurd q (by decide)) (by decide) dL_law_759 ?_
  refine lv_aload_n hx hb dL_law_760 rfl (lv_at hl 1 rfl) ?_
  refine l_helper (n := 3) S hR h hH hf gL_law_L_valueOf rfl (by decide +kernel) (by decide) rfl hl.1 rfl dL_law_761 (fun H locs h => ?_)
  refine lv_istore (lv' := [(5, .int k), (4, .int 0), (3, .ref o), (2, .ref km), (1, .ref (L 0)), (0, .ref b)]) hx hb dL_law_764 hl (by decide) rfl (fun ls hl => ?_)
  refine lv_aload_n hx hb dL_law_766 rfl (lv_at hl 3 rfl) ?_
  refine lv_aload_n hx hb dL_law_767 rfl (lv_at hl 5 rfl) ?_
  refine lv_iload hx hb dL_law_768 (lv_at hl 1 rfl) ?_
  refine lv_iconst (v := 1) hx hb dL_law_770 (by decide) ?_
  refine lv_iadd hx hb dL_law_771 ?_
  refine l_el 1 hx hb hX h.2.1 (fun q => absurd q (by decide)) (by decide) dL_law_772 ?_
  refine l_model (n := 1) S hR h hM hf2 gL_law_X10_valueOf rfl (by decide +kernel) (by decide) rfl hl.1 rfl dL_law_773 (fun H locs h => ?_)
  exact l_tail S hR hKl h (lv_sub hl [0, 1, 2, 3, 5] rfl) ⟨dL_law_776, dL_law_778, dL_law_779, dL_law_782, dL_law_784, dL_law_789, dL_law_791, dL_law_794, dL_law_795, dL_law_796, dL_law_797, dL_law_799, dL_law_800, dL_law_801, dL_law_806⟩ (by decide) hk K
set_option maxHeartbeats 4000000 in
set_option maxRecDepth 100000 in
theorem t_stepOf (S : CallFix p m c cL_law 9 s args wsL_law RL) (hR : lR R) (hX : va_X b 4 xs s s.heap ∧ b < s.heap.size) (h : lH D E L cg cr cl o f st (rW0 E cr km ks kp kt kw kc kpr kwk kq kst ko kr kd) s H locs) (hl : lv_has ls 9 [(4, .int 0), (3, .ref o), (2, .ref km), (1, .ref (L 0)), (0, .ref b)]) (hH : hMt l yL_stepOf wsL_stepOf rm D L cg cl (rW0 E cr km ks kp kt kw kc kpr kwk kq kst ko kr kd) o (lA0 s) f st [.ref (L 0), .int (xs 1), .ref o] k g mc ms) (hf : lFit rm mc ms) (hM : rMi l yX10_stepOf wsX10_stepOf rm2 D E cr [lA cl o g] (rW0 E cr km ks kp kt kw kc kpr kwk kq kst ko kr kd) (lA0 s) [.ref km, .int (xs 1)] v (fun _ : Unit => [(km, .inr (12, [.int k, .ref ks, .ref kp]))]) (fun _ => True) mc2 ms2) (hf2 : lFit rm2 mc2 ms2) (hk : k = 0 → g 0 = v.toInt64) (K : lK p l e R s m args below meth c b Q) : W p l e R s m args below meth c H locs 1000 10000 Q (F0 m 809 ls []) := by
  have hx := S.1
  have hb := S.2.1
  have hKl := h.2.2.1.2.2
  refine lv_aload_n hx hb dL_law_809 rfl (lv_at hl 3 rfl) ?_
  refine lv_aload_n hx hb dL_law_810 rfl (lv_at hl 4 rfl) ?_
  refine lv_iload hx hb dL_law_811 (lv_at hl 0 rfl) ?_
  refine lv_iconst (v := 1) hx hb dL_law_813 (by decide) ?_
  refine lv_iadd hx hb dL_law_814 ?_
  refine l_el 1 hx hb hX h.2.1 (fun q => absurd q (by decide)) (by decide) dL_law_815 ?_
  refine lv_aload_n hx hb dL_law_816 rfl (lv_at hl 1 rfl) ?_
  refine l_helper (n := 3) S hR h hH hf gL_law_L_stepOf rfl (by decide +kernel) (by decide) rfl hl.1 rfl dL_law_817 (fun H locs h => ?_)
  refine lv_istore (lv' := [(5, .int k), (4, .int 0), (3, .ref o), (2, .ref km), (1, .ref (L 0)), (0, .ref b)]) hx hb dL_law_820 hl (by decide) rfl (fun ls hl => ?_)
  refine lv_aload_n hx hb dL_law_822 rfl (lv_at hl 3 rfl) ?_
  refine lv_aload_n hx hb dL_law_823 rfl (lv_at hl 5 rfl) ?_
  refine lv_iload hx hb dL_law_824 (lv_at hl 1 rfl) ?_
  refine lv_iconst (v := 1) hx hb dL_law_826 (by decide) ?_
  refine lv_iadd hx hb dL_law_827 ?_
  refine l_el 1 hx hb hX h.2.1 (fun q => absurd q (by decide)) (by decide) dL_law_828 ?_
  refine l_model (n := 1) S hR h hM hf2 gL_law_X10_stepOf rfl (by decide +kernel) (by decide) rfl hl.1 rfl dL_law_829 (fun H locs h => ?_)
  exact l_tail S hR hKl h (lv_sub hl [0, 1, 2, 3, 5] rfl) ⟨dL_law_832, dL_law_834, dL_law_835, dL_law_838, dL_law_840, dL_law_845, dL_law_847, dL_law_850, dL_law_851, dL_law_852, dL_law_853, dL_law_855, dL_law_856, dL_law_857, dL_law_862⟩ (by decide) hk K
set_option maxHeartbeats 4000000 in
set_option maxRecDepth 100000 in
theorem t_parentOf (S : CallFix p m c cL_law 9 s args wsL_law RL) (hR : lR R) (hX : va_X b 4 xs s s.heap ∧ b < s.heap.size) (h : lH D E L cg cr cl o f st (rW0 E cr km ks kp kt kw kc kpr kwk kq kst ko kr kd) s H locs) (hl : lv_has ls 9 [(4, .int 0), (3, .ref o), (2, .ref km), (1, .ref (L 0)), (0, .ref b)]) (hH : hMt l yL_parentOf wsL_parentOf rm D L cg cl (rW0 E cr km ks kp kt kw kc kpr kwk kq kst ko kr kd) o (lA0 s) f st [.ref (L 0), .int (xs 1), .ref o] k g mc ms) (hf : lFit rm mc ms) (hM : rMi l yX10_parentOf wsX10_parentOf rm2 D E cr [lA cl o g] (rW0 E cr km ks kp kt kw kc kpr kwk kq kst ko kr kd) (lA0 s) [.ref km, .int (xs 1)] v (fun _ : Unit => [(km, .inr (12, [.int k, .ref ks, .ref kp]))]) (fun _ => True) mc2 ms2) (hf2 : lFit rm2 mc2 ms2) (hk : k = 0 → g 0 = v.toInt64) (K : lK p l e R s m args below meth c b Q) : W p l e R s m args below meth c H locs 1000 10000 Q (F0 m 865 ls []) := by
  have hx := S.1
  have hb := S.2.1
  have hKl := h.2.2.1.2.2
  refine lv_aload_n hx hb dL_law_865 rfl (lv_at hl 3 rfl) ?_
  refine lv_aload_n hx hb dL_law_866 rfl (lv_at hl 4 rfl) ?_
  refine lv_iload hx hb dL_law_867 (lv_at hl 0 rfl) ?_
  refine lv_iconst (v := 1) hx hb dL_law_869 (by decide) ?_
  refine lv_iadd hx hb dL_law_870 ?_
  refine l_el 1 hx hb hX h.2.1 (fun q => absurd q (by decide)) (by decide) dL_law_871 ?_
  refine lv_aload_n hx hb dL_law_872 rfl (lv_at hl 1 rfl) ?_
  refine l_helper (n := 3) S hR h hH hf gL_law_L_parentOf rfl (by decide +kernel) (by decide) rfl hl.1 rfl dL_law_873 (fun H locs h => ?_)
  refine lv_istore (lv' := [(5, .int k), (4, .int 0), (3, .ref o), (2, .ref km), (1, .ref (L 0)), (0, .ref b)]) hx hb dL_law_876 hl (by decide) rfl (fun ls hl => ?_)
  refine lv_aload_n hx hb dL_law_878 rfl (lv_at hl 3 rfl) ?_
  refine lv_aload_n hx hb dL_law_879 rfl (lv_at hl 5 rfl) ?_
  refine lv_iload hx hb dL_law_880 (lv_at hl 1 rfl) ?_
  refine lv_iconst (v := 1) hx hb dL_law_882 (by decide) ?_
  refine lv_iadd hx hb dL_law_883 ?_
  refine l_el 1 hx hb hX h.2.1 (fun q => absurd q (by decide)) (by decide) dL_law_884 ?_
  refine l_model (n := 1) S hR h hM hf2 gL_law_X10_parentOf rfl (by decide +kernel) (by decide) rfl hl.1 rfl dL_law_885 (fun H locs h => ?_)
  exact l_tail S hR hKl h (lv_sub hl [0, 1, 2, 3, 5] rfl) ⟨dL_law_888, dL_law_890, dL_law_891, dL_law_894, dL_law_896, dL_law_901, dL_law_903, dL_law_906, dL_law_907, dL_law_908, dL_law_909, dL_law_911, dL_law_912, dL_law_913, dL_law_918⟩ (by decide) hk K
set_option maxHeartbeats 4000000 in
set_option maxRecDepth 100000 in
theorem t_childrenOf (S : CallFix p m c cL_law 9 s args wsL_law RL) (hR : lR R) (hX : va_X b 4 xs s s.heap ∧ b < s.heap.size) (h : lH D E L cg cr cl o f st (rW0 E cr km ks kp kt kw kc kpr kwk kq kst ko kr kd) s H locs) (hl : lv_has ls 9 [(4, .int 0), (3, .ref o), (2, .ref km), (1, .ref (L 0)), (0, .ref b)]) (hH : hMt l yL_childrenOf wsL_childrenOf rm D L cg cl (rW0 E cr km ks kp kt kw kc kpr kwk kq kst ko kr kd) o (lA0 s) f st [.ref (L 0), .int (xs 1), .ref o] k g mc ms) (hf : lFit rm mc ms) (hM : rMi l yX10_childrenOf wsX10_childrenOf rm2 D E cr [lA cl o g] (rW0 E cr km ks kp kt kw kc kpr kwk kq kst ko kr kd) (lA0 s) [.ref km, .int (xs 1)] v (fun _ : Unit => [(km, .inr (12, [.int k, .ref ks, .ref kp]))]) (fun _ => True) mc2 ms2) (hf2 : lFit rm2 mc2 ms2) (hk : k = 0 → g 0 = v.toInt64) (K : lK p l e R s m args below meth c b Q) : W p l e R s m args below meth c H locs 1000 10000 Q (F0 m 921 ls []) := by
  have hx := S.1
  have hb := S.2.1
  have hKl := h.2.2.1.2.2
  refine lv_aload_n hx hb dL_law_921 rfl (lv_at hl 3 rfl) ?_
  refine lv_aload_n hx hb dL_law_922 rfl (lv_at hl 4 rfl) ?_
  refine lv_iload hx hb dL_law_923 (lv_at hl 0 rfl) ?_
  refine lv_iconst (v := 1) hx hb dL_law_925 (by decide) ?_
  refine lv_iadd hx hb dL_law_926 ?_
  refine l_el 1 hx hb hX h.2.1 (fun q => absurd q (by decide)) (by decide) dL_law_927 ?_
  refine lv_aload_n hx hb dL_law_928 rfl (lv_at hl 1 rfl) ?_
  refine l_helper (n := 3) S hR h hH hf gL_law_L_childrenOf rfl (by decide +kernel) (by decide) rfl hl.1 rfl dL_law_929 (fun H locs h => ?_)
  refine lv_istore (lv' := [(5, .int k), (4, .int 0), (3, .ref o), (2, .ref km), (1, .ref (L 0)), (0, .ref b)]) hx hb dL_law_932 hl (by decide) rfl (fun ls hl => ?_)
  refine lv_aload_n hx hb dL_law_934 rfl (lv_at hl 3 rfl) ?_
  refine lv_aload_n hx hb dL_law_935 rfl (lv_at hl 5 rfl) ?_
  refine lv_iload hx hb dL_law_936 (lv_at hl 1 rfl) ?_
  refine lv_iconst (v := 1) hx hb dL_law_938 (by decide) ?_
  refine lv_iadd hx hb dL_law_939 ?_
  refine l_el 1 hx hb hX h.2.1 (fun q => absurd q (by decide)) (by decide) dL_law_940 ?_
  refine l_model (n := 1) S hR h hM hf2 gL_law_X10_childrenOf rfl (by decide +kernel) (by decide) rfl hl.1 rfl dL_law_941 (fun H locs h => ?_)
  exact l_tail S hR hKl h (lv_sub hl [0, 1, 2, 3, 5] rfl) ⟨dL_law_944, dL_law_946, dL_law_947, dL_law_950, dL_law_952, dL_law_957, dL_law_959, dL_law_962, dL_law_963, dL_law_964, dL_law_965, dL_law_967, dL_law_968, dL_law_969, dL_law_974⟩ (by decide) hk K
set_option maxHeartbeats 4000000 in
set_option maxRecDepth 100000 in
theorem t_workOf (S : CallFix p m c cL_law 9 s args wsL_law RL) (hR : lR R) (hX : va_X b 4 xs s s.heap ∧ b < s.heap.size) (h : lH D E L cg cr cl o f st (rW0 E cr km ks kp kt kw kc kpr kwk kq kst ko kr kd) s H locs) (hl : lv_has ls 9 [(4, .int 0), (3, .ref o), (2, .ref km), (1, .ref (L 0)), (0, .ref b)]) (hH : hMt l yL_workOf wsL_workOf rm D L cg cl (rW0 E cr km ks kp kt kw kc kpr kwk kq kst ko kr kd) o (lA0 s) f st [.ref (L 0), .int (xs 1), .ref o] k g mc ms) (hf : lFit rm mc ms) (hM : rMi l yX10_workOf wsX10_workOf rm2 D E cr [lA cl o g] (rW0 E cr km ks kp kt kw kc kpr kwk kq kst ko kr kd) (lA0 s) [.ref km, .int (xs 1)] v (fun _ : Unit => [(km, .inr (12, [.int k, .ref ks, .ref kp]))]) (fun _ => True) mc2 ms2) (hf2 : lFit rm2 mc2 ms2) (hk : k = 0 → g 0 = v.toInt64) (K : lK p l e R s m args below meth c b Q) : W p l e R s m args below meth c H locs 1000 10000 Q (F0 m 977 ls []) := by
  have hx := S.1
  have hb := S.2.1
  have hKl := h.2.2.1.2.2
  refine lv_aload_n hx hb dL_law_977 rfl (lv_at hl 3 rfl) ?_
  refine lv_aload_n hx hb dL_law_978 rfl (lv_at hl 4 rfl) ?_
  refine lv_iload hx hb dL_law_979 (lv_at hl 0 rfl) ?_
  refine lv_iconst (v := 1) hx hb dL_law_981 (by decide) ?_
  refine lv_iadd hx hb dL_law_982 ?_
  refine l_el 1 hx hb hX h.2.1 (fun q => absurd q (by decide)) (by decide) dL_law_983 ?_
  refine lv_aload_n hx hb dL_law_984 rfl (lv_at hl 1 rfl) ?_
  refine l_helper (n := 3) S hR h hH hf gL_law_L_workOf rfl (by decide +kernel) (by decide) rfl hl.1 rfl dL_law_985 (fun H locs h => ?_)
  refine lv_istore (lv' := [(5, .int k), (4, .int 0), (3, .ref o), (2, .ref km), (1, .ref (L 0)), (0, .ref b)]) hx hb dL_law_988 hl (by decide) rfl (fun ls hl => ?_)
  refine lv_aload_n hx hb dL_law_990 rfl (lv_at hl 3 rfl) ?_
  refine lv_aload_n hx hb dL_law_991 rfl (lv_at hl 5 rfl) ?_
  refine lv_iload hx hb dL_law_992 (lv_at hl 1 rfl) ?_
  refine lv_iconst (v := 1) hx hb dL_law_994 (by decide) ?_
  refine lv_iadd hx hb dL_law_995 ?_
  refine l_el 1 hx hb hX h.2.1 (fun q => absurd q (by decide)) (by decide) dL_law_996 ?_
  refine l_model (n := 1) S hR h hM hf2 gL_law_X10_workOf rfl (by decide +kernel) (by decide) rfl hl.1 rfl dL_law_997 (fun H locs h => ?_)
  exact l_tail S hR hKl h (lv_sub hl [0, 1, 2, 3, 5] rfl) ⟨dL_law_1000, dL_law_1002, dL_law_1003, dL_law_1006, dL_law_1008, dL_law_1013, dL_law_1015, dL_law_1018, dL_law_1019, dL_law_1020, dL_law_1021, dL_law_1023, dL_law_1024, dL_law_1025, dL_law_1030⟩ (by decide) hk K
set_option maxHeartbeats 4000000 in
set_option maxRecDepth 100000 in
theorem t_overAt (S : CallFix p m c cL_law 9 s args wsL_law RL) (hR : lR R) (hX : va_X b 4 xs s s.heap ∧ b < s.heap.size) (h : lH D E L cg cr cl o f st (rW0 E cr km ks kp kt kw kc kpr kwk kq kst ko kr kd) s H locs) (hl : lv_has ls 9 [(4, .int 0), (3, .ref o), (2, .ref km), (1, .ref (L 0)), (0, .ref b)]) (hH : hMt l yL_overAt wsL_overAt rm D L cg cl (rW0 E cr km ks kp kt kw kc kpr kwk kq kst ko kr kd) o (lA0 s) f st [.ref (L 0), .int (xs 1), .ref o] k g mc ms) (hf : lFit rm mc ms) (hM : rMi l yX10_overAt wsX10_overAt rm2 D E cr [lA cl o g] (rW0 E cr km ks kp kt kw kc kpr kwk kq kst ko kr kd) (lA0 s) [.ref km, .int (xs 1)] v (fun _ : Unit => [(km, .inr (12, [.int k, .ref ks, .ref kp]))]) (fun _ => True) mc2 ms2) (hf2 : lFit rm2 mc2 ms2) (hk : k = 0 → g 0 = v.toInt64) (K : lK p l e R s m args below meth c b Q) : W p l e R s m args below meth c H locs 1000 10000 Q (F0 m 1033 ls []) := by
  have hx := S.1
  have hb := S.2.1
  have hKl := h.2.2.1.2.2
  refine lv_aload_n hx hb dL_law_1033 rfl (lv_at hl 3 rfl) ?_
  refine lv_aload_n hx hb dL_law_1034 rfl (lv_at hl 4 rfl) ?_
  refine lv_iload hx hb dL_law_1035 (lv_at hl 0 rfl) ?_
  refine lv_iconst (v := 1) hx hb dL_law_1037 (by decide) ?_
  refine lv_iadd hx hb dL_law_1038 ?_
  refine l_el 1 hx hb hX h.2.1 (fun q => absurd q (by decide)) (by decide) dL_law_1039 ?_
  refine lv_aload_n hx hb dL_law_1040 rfl (lv_at hl 1 rfl) ?_
  refine l_helper (n := 3) S hR h hH hf gL_law_L_overAt rfl (by decide +kernel) (by decide) rfl hl.1 rfl dL_law_1041 (fun H locs h => ?_)
  refine lv_istore (lv' := [(5, .int k), (4, .int 0), (3, .ref o), (2, .ref km), (1, .ref (L 0)), (0, .ref b)]) hx hb dL_law_1044 hl (by decide) rfl (fun ls hl => ?_)
  refine lv_aload_n hx hb dL_law_1046 rfl (lv_at hl 3 rfl) ?_
  refine lv_aload_n hx hb dL_law_1047 rfl (lv_at hl 5 rfl) ?_
  refine lv_iload hx hb dL_law_1048 (lv_at hl 1 rfl) ?_
  refine lv_iconst (v := 1) hx hb dL_law_1050 (by decide) ?_
  refine lv_iadd hx hb dL_law_1051 ?_
  refine l_el 1 hx hb hX h.2.1 (fun q => absurd q (by decide)) (by decide) dL_law_1052 ?_
  refine l_model (n := 1) S hR h hM hf2 gL_law_X10_overAt rfl (by decide +kernel) (by decide) rfl hl.1 rfl dL_law_1053 (fun H locs h => ?_)
  exact l_tail S hR hKl h (lv_sub hl [0, 1, 2, 3, 5] rfl) ⟨dL_law_1056, dL_law_1058, dL_law_1059, dL_law_1062, dL_law_1064, dL_law_1069, dL_law_1071, dL_law_1074, dL_law_1075, dL_law_1076, dL_law_1077, dL_law_1079, dL_law_1080, dL_law_1081, dL_law_1086⟩ (by decide) hk K
set_option maxHeartbeats 4000000 in
set_option maxRecDepth 100000 in
theorem t_promise (S : CallFix p m c cL_law 9 s args wsL_law RL) (hR : lR R) (hX : va_X b 4 xs s s.heap ∧ b < s.heap.size) (h : lH D E L cg cr cl o f st (rW0 E cr km ks kp kt kw kc kpr kwk kq kst ko kr kd) s H locs) (hl : lv_has ls 9 [(4, .int 0), (3, .ref o), (2, .ref km), (1, .ref (L 0)), (0, .ref b)]) (hH : hMt l yL_promise wsL_promise rm D L cg cl (rW0 E cr km ks kp kt kw kc kpr kwk kq kst ko kr kd) o (lA0 s) f st [.ref (L 0), .int (xs 1), .ref o] k g mc ms) (hf : lFit rm mc ms) (hM : rMi l yX10_promise wsX10_promise rm2 D E cr [lA cl o g] (rW0 E cr km ks kp kt kw kc kpr kwk kq kst ko kr kd) (lA0 s) [.ref km, .int (xs 1)] v (fun _ : Unit => [(km, .inr (12, [.int k, .ref ks, .ref kp]))]) (fun _ => True) mc2 ms2) (hf2 : lFit rm2 mc2 ms2) (hk : k = 0 → g 0 = v.toInt64) (K : lK p l e R s m args below meth c b Q) : W p l e R s m args below meth c H locs 1000 10000 Q (F0 m 1089 ls []) := by
  have hx := S.1
  have hb := S.2.1
  have hKl := h.2.2.1.2.2
  refine lv_aload_n hx hb dL_law_1089 rfl (lv_at hl 3 rfl) ?_
  refine lv_aload_n hx hb dL_law_1090 rfl (lv_at hl 4 rfl) ?_
  refine lv_iload hx hb dL_law_1091 (lv_at hl 0 rfl) ?_
  refine lv_iconst (v := 1) hx hb dL_law_1093 (by decide) ?_
  refine lv_iadd hx hb dL_law_1094 ?_
  refine l_el 1 hx hb hX h.2.1 (fun q => absurd q (by decide)) (by decide) dL_law_1095 ?_
  refine lv_aload_n hx hb dL_law_1096 rfl (lv_at hl 1 rfl) ?_
  refine l_helper (n := 3) S hR h hH hf gL_law_L_promise rfl (by decide +kernel) (by decide) rfl hl.1 rfl dL_law_1097 (fun H locs h => ?_)
  refine lv_istore (lv' := [(5, .int k), (4, .int 0), (3, .ref o), (2, .ref km), (1, .ref (L 0)), (0, .ref b)]) hx hb dL_law_1100 hl (by decide) rfl (fun ls hl => ?_)
  refine lv_aload_n hx hb dL_law_1102 rfl (lv_at hl 3 rfl) ?_
  refine lv_aload_n hx hb dL_law_1103 rfl (lv_at hl 5 rfl) ?_
  refine lv_iload hx hb dL_law_1104 (lv_at hl 1 rfl) ?_
  refine lv_iconst (v := 1) hx hb dL_law_1106 (by decide) ?_
  refine lv_iadd hx hb dL_law_1107 ?_
  refine l_el 1 hx hb hX h.2.1 (fun q => absurd q (by decide)) (by decide) dL_law_1108 ?_
  refine l_model (n := 1) S hR h hM hf2 gL_law_X10_promise rfl (by decide +kernel) (by decide) rfl hl.1 rfl dL_law_1109 (fun H locs h => ?_)
  exact l_tail S hR hKl h (lv_sub hl [0, 1, 2, 3, 5] rfl) ⟨dL_law_1112, dL_law_1114, dL_law_1115, dL_law_1118, dL_law_1120, dL_law_1125, dL_law_1127, dL_law_1130, dL_law_1131, dL_law_1132, dL_law_1133, dL_law_1135, dL_law_1136, dL_law_1137, dL_law_1142⟩ (by decide) hk K
set_option maxHeartbeats 4000000 in
set_option maxRecDepth 100000 in
theorem t_top (S : CallFix p m c cL_law 9 s args wsL_law RL) (hR : lR R) (hX : va_X b 4 xs s s.heap ∧ b < s.heap.size) (h : lH D E L cg cr cl o f st (rW0 E cr km ks kp kt kw kc kpr kwk kq kst ko kr kd) s H locs) (hl : lv_has ls 9 [(4, .int 0), (3, .ref o), (2, .ref km), (1, .ref (L 0)), (0, .ref b)]) (hH : hMt l yL_top wsL_top rm D L cg cl (rW0 E cr km ks kp kt kw kc kpr kwk kq kst ko kr kd) o (lA0 s) f st [.ref (L 0), .int (xs 1), .ref o] k g mc ms) (hf : lFit rm mc ms) (hM : rMi l yX10_top wsX10_top rm2 D E cr [lA cl o g] (rW0 E cr km ks kp kt kw kc kpr kwk kq kst ko kr kd) (lA0 s) [.ref km, .int (xs 1)] v (fun _ : Unit => [(km, .inr (12, [.int k, .ref ks, .ref kp]))]) (fun _ => True) mc2 ms2) (hf2 : lFit rm2 mc2 ms2) (hk : k = 0 → g 0 = v.toInt64) (K : lK p l e R s m args below meth c b Q) : W p l e R s m args below meth c H locs 1000 10000 Q (F0 m 1158 ls []) := by
  have hx := S.1
  have hb := S.2.1
  have hKl := h.2.2.1.2.2
  refine lv_aload_n hx hb dL_law_1158 rfl (lv_at hl 3 rfl) ?_
  refine lv_aload_n hx hb dL_law_1159 rfl (lv_at hl 4 rfl) ?_
  refine lv_iload hx hb dL_law_1160 (lv_at hl 0 rfl) ?_
  refine lv_iconst (v := 1) hx hb dL_law_1162 (by decide) ?_
  refine lv_iadd hx hb dL_law_1163 ?_
  refine l_el 1 hx hb hX h.2.1 (fun q => absurd q (by decide)) (by decide) dL_law_1164 ?_
  refine lv_aload_n hx hb dL_law_1165 rfl (lv_at hl 1 rfl) ?_
  refine l_helper (n := 3) S hR h hH hf gL_law_L_top rfl (by decide +kernel) (by decide) rfl hl.1 rfl dL_law_1166 (fun H locs h => ?_)
  refine lv_istore (lv' := [(5, .int k), (4, .int 0), (3, .ref o), (2, .ref km), (1, .ref (L 0)), (0, .ref b)]) hx hb dL_law_1169 hl (by decide) rfl (fun ls hl => ?_)
  refine lv_aload_n hx hb dL_law_1171 rfl (lv_at hl 3 rfl) ?_
  refine lv_aload_n hx hb dL_law_1172 rfl (lv_at hl 5 rfl) ?_
  refine lv_iload hx hb dL_law_1173 (lv_at hl 1 rfl) ?_
  refine lv_iconst (v := 1) hx hb dL_law_1175 (by decide) ?_
  refine lv_iadd hx hb dL_law_1176 ?_
  refine l_el 1 hx hb hX h.2.1 (fun q => absurd q (by decide)) (by decide) dL_law_1177 ?_
  refine l_model (n := 1) S hR h hM hf2 gL_law_X10_top rfl (by decide +kernel) (by decide) rfl hl.1 rfl dL_law_1178 (fun H locs h => ?_)
  exact l_tail S hR hKl h (lv_sub hl [0, 1, 2, 3, 5] rfl) ⟨dL_law_1181, dL_law_1183, dL_law_1184, dL_law_1187, dL_law_1189, dL_law_1194, dL_law_1196, dL_law_1199, dL_law_1200, dL_law_1201, dL_law_1202, dL_law_1204, dL_law_1205, dL_law_1206, dL_law_1211⟩ (by decide) hk K
set_option maxHeartbeats 4000000 in
set_option maxRecDepth 100000 in
theorem t_stack (S : CallFix p m c cL_law 9 s args wsL_law RL) (hR : lR R) (hX : va_X b 4 xs s s.heap ∧ b < s.heap.size) (h : lH D E L cg cr cl o f st (rW0 E cr km ks kp kt kw kc kpr kwk kq kst ko kr kd) s H locs) (hl : lv_has ls 9 [(4, .int 0), (3, .ref o), (2, .ref km), (1, .ref (L 0)), (0, .ref b)]) (hH : hMt l yL_stack wsL_stack rm D L cg cl (rW0 E cr km ks kp kt kw kc kpr kwk kq kst ko kr kd) o (lA0 s) f st [.ref (L 0), .int (xs 1), .ref o] k g mc ms) (hf : lFit rm mc ms) (hM : rMi l yX10_stack wsX10_stack rm2 D E cr [lA cl o g] (rW0 E cr km ks kp kt kw kc kpr kwk kq kst ko kr kd) (lA0 s) [.ref km, .int (xs 1)] v (fun _ : Unit => [(km, .inr (12, [.int k, .ref ks, .ref kp]))]) (fun _ => True) mc2 ms2) (hf2 : lFit rm2 mc2 ms2) (hk : k = 0 → g 0 = v.toInt64) (K : lK p l e R s m args below meth c b Q) : W p l e R s m args below meth c H locs 1000 10000 Q (F0 m 1214 ls []) := by
  have hx := S.1
  have hb := S.2.1
  have hKl := h.2.2.1.2.2
  refine lv_aload_n hx hb dL_law_1214 rfl (lv_at hl 3 rfl) ?_
  refine lv_aload_n hx hb dL_law_1215 rfl (lv_at hl 4 rfl) ?_
  refine lv_iload hx hb dL_law_1216 (lv_at hl 0 rfl) ?_
  refine lv_iconst (v := 1) hx hb dL_law_1218 (by decide) ?_
  refine lv_iadd hx hb dL_law_1219 ?_
  refine l_el 1 hx hb hX h.2.1 (fun q => absurd q (by decide)) (by decide) dL_law_1220 ?_
  refine lv_aload_n hx hb dL_law_1221 rfl (lv_at hl 1 rfl) ?_
  refine l_helper (n := 3) S hR h hH hf gL_law_L_stack rfl (by decide +kernel) (by decide) rfl hl.1 rfl dL_law_1222 (fun H locs h => ?_)
  refine lv_istore (lv' := [(5, .int k), (4, .int 0), (3, .ref o), (2, .ref km), (1, .ref (L 0)), (0, .ref b)]) hx hb dL_law_1225 hl (by decide) rfl (fun ls hl => ?_)
  refine lv_aload_n hx hb dL_law_1227 rfl (lv_at hl 3 rfl) ?_
  refine lv_aload_n hx hb dL_law_1228 rfl (lv_at hl 5 rfl) ?_
  refine lv_iload hx hb dL_law_1229 (lv_at hl 1 rfl) ?_
  refine lv_iconst (v := 1) hx hb dL_law_1231 (by decide) ?_
  refine lv_iadd hx hb dL_law_1232 ?_
  refine l_el 1 hx hb hX h.2.1 (fun q => absurd q (by decide)) (by decide) dL_law_1233 ?_
  refine l_model (n := 1) S hR h hM hf2 gL_law_X10_stack rfl (by decide +kernel) (by decide) rfl hl.1 rfl dL_law_1234 (fun H locs h => ?_)
  exact l_tail S hR hKl h (lv_sub hl [0, 1, 2, 3, 5] rfl) ⟨dL_law_1237, dL_law_1239, dL_law_1240, dL_law_1243, dL_law_1245, dL_law_1250, dL_law_1252, dL_law_1255, dL_law_1256, dL_law_1257, dL_law_1258, dL_law_1260, dL_law_1261, dL_law_1262, dL_law_1267⟩ (by decide) hk K
set_option maxHeartbeats 4000000 in
set_option maxRecDepth 100000 in
theorem t_row (S : CallFix p m c cL_law 9 s args wsL_law RL) (hR : lR R) (hX : va_X b 4 xs s s.heap ∧ b < s.heap.size) (h : lH D E L cg cr cl o f st (rW0 E cr km ks kp kt kw kc kpr kwk kq kst ko kr kd) s H locs) (hl : lv_has ls 9 [(4, .int 0), (3, .ref o), (2, .ref km), (1, .ref (L 0)), (0, .ref b)]) (hH : hMt l yL_row wsL_row rm D L cg cl (rW0 E cr km ks kp kt kw kc kpr kwk kq kst ko kr kd) o (lA0 s) f st [.ref (L 0), .int (xs 1), .ref o] k g mc ms) (hf : lFit rm mc ms) (hM : rMi l yX10_row wsX10_row rm2 D E cr [lA cl o g] (rW0 E cr km ks kp kt kw kc kpr kwk kq kst ko kr kd) (lA0 s) [.ref km, .int (xs 1)] v (fun _ : Unit => [(km, .inr (12, [.int k, .ref ks, .ref kp]))]) (fun _ => True) mc2 ms2) (hf2 : lFit rm2 mc2 ms2) (hk : k = 0 → g 0 = v.toInt64) (K : lK p l e R s m args below meth c b Q) : W p l e R s m args below meth c H locs 1000 10000 Q (F0 m 1270 ls []) := by
  have hx := S.1
  have hb := S.2.1
  have hKl := h.2.2.1.2.2
  refine lv_aload_n hx hb dL_law_1270 rfl (lv_at hl 3 rfl) ?_
  refine lv_aload_n hx hb dL_law_1271 rfl (lv_at hl 4 rfl) ?_
  refine lv_iload hx hb dL_law_1272 (lv_at hl 0 rfl) ?_
  refine lv_iconst (v := 1) hx hb dL_law_1274 (by decide) ?_
  refine lv_iadd hx hb dL_law_1275 ?_
  refine l_el 1 hx hb hX h.2.1 (fun q => absurd q (by decide)) (by decide) dL_law_1276 ?_
  refine lv_aload_n hx hb dL_law_1277 rfl (lv_at hl 1 rfl) ?_
  refine l_helper (n := 3) S hR h hH hf gL_law_L_row rfl (by decide +kernel) (by decide) rfl hl.1 rfl dL_law_1278 (fun H locs h => ?_)
  refine lv_istore (lv' := [(5, .int k), (4, .int 0), (3, .ref o), (2, .ref km), (1, .ref (L 0)), (0, .ref b)]) hx hb dL_law_1281 hl (by decide) rfl (fun ls hl => ?_)
  refine lv_aload_n hx hb dL_law_1283 rfl (lv_at hl 3 rfl) ?_
  refine lv_aload_n hx hb dL_law_1284 rfl (lv_at hl 5 rfl) ?_
  refine lv_iload hx hb dL_law_1285 (lv_at hl 1 rfl) ?_
  refine lv_iconst (v := 1) hx hb dL_law_1287 (by decide) ?_
  refine lv_iadd hx hb dL_law_1288 ?_
  refine l_el 1 hx hb hX h.2.1 (fun q => absurd q (by decide)) (by decide) dL_law_1289 ?_
  refine l_model (n := 1) S hR h hM hf2 gL_law_X10_row rfl (by decide +kernel) (by decide) rfl hl.1 rfl dL_law_1290 (fun H locs h => ?_)
  exact l_tail S hR hKl h (lv_sub hl [0, 1, 2, 3, 5] rfl) ⟨dL_law_1293, dL_law_1295, dL_law_1296, dL_law_1299, dL_law_1301, dL_law_1306, dL_law_1308, dL_law_1311, dL_law_1312, dL_law_1313, dL_law_1314, dL_law_1316, dL_law_1317, dL_law_1318, dL_law_1323⟩ (by decide) hk K
set_option maxHeartbeats 4000000 in
set_option maxRecDepth 100000 in
theorem t_inRow (S : CallFix p m c cL_law 9 s args wsL_law RL) (hR : lR R) (hX : va_X b 4 xs s s.heap ∧ b < s.heap.size) (h : lH D E L cg cr cl o f st (rW0 E cr km ks kp kt kw kc kpr kwk kq kst ko kr kd) s H locs) (hl : lv_has ls 9 [(4, .int 0), (3, .ref o), (2, .ref km), (1, .ref (L 0)), (0, .ref b)]) (hH : hMt l yL_inRow wsL_inRow rm D L cg cl (rW0 E cr km ks kp kt kw kc kpr kwk kq kst ko kr kd) o (lA0 s) f st [.ref (L 0), .int (xs 1), .int (xs 2), .ref o] k g mc ms) (hf : lFit rm mc ms) (hM : rMi l yX10_inRow wsX10_inRow rm2 D E cr [lA cl o g] (rW0 E cr km ks kp kt kw kc kpr kwk kq kst ko kr kd) (lA0 s) [.ref km, .int (xs 1), .int (xs 2)] v (fun _ : Unit => [(km, .inr (12, [.int k, .ref ks, .ref kp]))]) (fun _ => True) mc2 ms2) (hf2 : lFit rm2 mc2 ms2) (hk : k = 0 → g 0 = v.toInt64) (K : lK p l e R s m args below meth c b Q) : W p l e R s m args below meth c H locs 1000 10000 Q (F0 m 1326 ls []) := by
  have hx := S.1
  have hb := S.2.1
  have hKl := h.2.2.1.2.2
  refine lv_aload_n hx hb dL_law_1326 rfl (lv_at hl 3 rfl) ?_
  refine lv_aload_n hx hb dL_law_1327 rfl (lv_at hl 4 rfl) ?_
  refine lv_iload hx hb dL_law_1328 (lv_at hl 0 rfl) ?_
  refine lv_iconst (v := 1) hx hb dL_law_1330 (by decide) ?_
  refine lv_iadd hx hb dL_law_1331 ?_
  refine l_el 1 hx hb hX h.2.1 (fun q => absurd q (by decide)) (by decide) dL_law_1332 ?_
  refine lv_aload_n hx hb dL_law_1333 rfl (lv_at hl 4 rfl) ?_
  refine lv_iload hx hb dL_law_1334 (lv_at hl 0 rfl) ?_
  refine lv_iconst (v := 2) hx hb dL_law_1336 (by decide) ?_
  refine lv_iadd hx hb dL_law_1337 ?_
  refine l_el 2 hx hb hX h.2.1 (fun q => absurd q (by decide)) (by decide) dL_law_1338 ?_
  refine lv_aload_n hx hb dL_law_1339 rfl (lv_at hl 1 rfl) ?_
  refine l_helper (n := 4) S hR h hH hf gL_law_L_inRow rfl (by decide +kernel) (by decide) rfl hl.1 rfl dL_law_1340 (fun H locs h => ?_)
  refine lv_istore (lv' := [(5, .int k), (4, .int 0), (3, .ref o), (2, .ref km), (1, .ref (L 0)), (0, .ref b)]) hx hb dL_law_1343 hl (by decide) rfl (fun ls hl => ?_)
  refine lv_aload_n hx hb dL_law_1345 rfl (lv_at hl 3 rfl) ?_
  refine lv_aload_n hx hb dL_law_1346 rfl (lv_at hl 5 rfl) ?_
  refine lv_iload hx hb dL_law_1347 (lv_at hl 1 rfl) ?_
  refine lv_iconst (v := 1) hx hb dL_law_1349 (by decide) ?_
  refine lv_iadd hx hb dL_law_1350 ?_
  refine l_el 1 hx hb hX h.2.1 (fun q => absurd q (by decide)) (by decide) dL_law_1351 ?_
  refine lv_aload_n hx hb dL_law_1352 rfl (lv_at hl 5 rfl) ?_
  refine lv_iload hx hb dL_law_1353 (lv_at hl 1 rfl) ?_
  refine lv_iconst (v := 2) hx hb dL_law_1355 (by decide) ?_
  refine lv_iadd hx hb dL_law_1356 ?_
  refine l_el 2 hx hb hX h.2.1 (fun q => absurd q (by decide)) (by decide) dL_law_1357 ?_
  refine l_model (n := 2) S hR h hM hf2 gL_law_X10_inRow rfl (by decide +kernel) (by decide) rfl hl.1 rfl dL_law_1358 (fun H locs h => ?_)
  exact l_tail S hR hKl h (lv_sub hl [0, 1, 2, 3, 5] rfl) ⟨dL_law_1361, dL_law_1363, dL_law_1364, dL_law_1367, dL_law_1369, dL_law_1374, dL_law_1376, dL_law_1379, dL_law_1380, dL_law_1381, dL_law_1382, dL_law_1384, dL_law_1385, dL_law_1386, dL_law_1391⟩ (by decide) hk K
set_option maxHeartbeats 4000000 in
set_option maxRecDepth 100000 in
theorem t_told (S : CallFix p m c cL_law 9 s args wsL_law RL) (hR : lR R) (hX : va_X b 4 xs s s.heap ∧ b < s.heap.size) (h : lH D E L cg cr cl o f st (rW0 E cr km ks kp kt kw kc kpr kwk kq kst ko kr kd) s H locs) (hl : lv_has ls 9 [(4, .int 0), (3, .ref o), (2, .ref km), (1, .ref (L 0)), (0, .ref b)]) (hH : hMt l yL_told wsL_told rm D L cg cl (rW0 E cr km ks kp kt kw kc kpr kwk kq kst ko kr kd) o (lA0 s) f st [.ref (L 0), .int (xs 1), .int (xs 2), .ref o] k g mc ms) (hf : lFit rm mc ms) (hM : rMi l yX10_told wsX10_told rm2 D E cr [lA cl o g] (rW0 E cr km ks kp kt kw kc kpr kwk kq kst ko kr kd) (lA0 s) [.ref km, .int (xs 1), .int (xs 2)] v (fun _ : Unit => [(km, .inr (12, [.int k, .ref ks, .ref kp]))]) (fun _ => True) mc2 ms2) (hf2 : lFit rm2 mc2 ms2) (hk : k = 0 → g 0 = v.toInt64) (K : lK p l e R s m args below meth c b Q) : W p l e R s m args below meth c H locs 1000 10000 Q (F0 m 1394 ls []) := by
  have hx := S.1
  have hb := S.2.1
  have hKl := h.2.2.1.2.2
  refine lv_aload_n hx hb dL_law_1394 rfl (lv_at hl 3 rfl) ?_
  refine lv_aload_n hx hb dL_law_1395 rfl (lv_at hl 4 rfl) ?_
  refine lv_iload hx hb dL_law_1396 (lv_at hl 0 rfl) ?_
  refine lv_iconst (v := 1) hx hb dL_law_1398 (by decide) ?_
  refine lv_iadd hx hb dL_law_1399 ?_
  refine l_el 1 hx hb hX h.2.1 (fun q => absurd q (by decide)) (by decide) dL_law_1400 ?_
  refine lv_aload_n hx hb dL_law_1401 rfl (lv_at hl 4 rfl) ?_
  refine lv_iload hx hb dL_law_1402 (lv_at hl 0 rfl) ?_
  refine lv_iconst (v := 2) hx hb dL_law_1404 (by decide) ?_
  refine lv_iadd hx hb dL_law_1405 ?_
  refine l_el 2 hx hb hX h.2.1 (fun q => absurd q (by decide)) (by decide) dL_law_1406 ?_
  refine lv_aload_n hx hb dL_law_1407 rfl (lv_at hl 1 rfl) ?_
  refine l_helper (n := 4) S hR h hH hf gL_law_L_told rfl (by decide +kernel) (by decide) rfl hl.1 rfl dL_law_1408 (fun H locs h => ?_)
  refine lv_istore (lv' := [(5, .int k), (4, .int 0), (3, .ref o), (2, .ref km), (1, .ref (L 0)), (0, .ref b)]) hx hb dL_law_1411 hl (by decide) rfl (fun ls hl => ?_)
  refine lv_aload_n hx hb dL_law_1413 rfl (lv_at hl 3 rfl) ?_
  refine lv_aload_n hx hb dL_law_1414 rfl (lv_at hl 5 rfl) ?_
  refine lv_iload hx hb dL_law_1415 (lv_at hl 1 rfl) ?_
  refine lv_iconst (v := 1) hx hb dL_law_1417 (by decide) ?_
  refine lv_iadd hx hb dL_law_1418 ?_
  refine l_el 1 hx hb hX h.2.1 (fun q => absurd q (by decide)) (by decide) dL_law_1419 ?_
  refine lv_aload_n hx hb dL_law_1420 rfl (lv_at hl 5 rfl) ?_
  refine lv_iload hx hb dL_law_1421 (lv_at hl 1 rfl) ?_
  refine lv_iconst (v := 2) hx hb dL_law_1423 (by decide) ?_
  refine lv_iadd hx hb dL_law_1424 ?_
  refine l_el 2 hx hb hX h.2.1 (fun q => absurd q (by decide)) (by decide) dL_law_1425 ?_
  refine l_model (n := 2) S hR h hM hf2 gL_law_X10_told rfl (by decide +kernel) (by decide) rfl hl.1 rfl dL_law_1426 (fun H locs h => ?_)
  exact l_tail S hR hKl h (lv_sub hl [0, 1, 2, 3, 5] rfl) ⟨dL_law_1429, dL_law_1431, dL_law_1432, dL_law_1435, dL_law_1437, dL_law_1442, dL_law_1444, dL_law_1447, dL_law_1448, dL_law_1449, dL_law_1450, dL_law_1452, dL_law_1453, dL_law_1454, dL_law_1459⟩ (by decide) hk K
set_option maxHeartbeats 4000000 in
set_option maxRecDepth 100000 in
theorem t_ran (S : CallFix p m c cL_law 9 s args wsL_law RL) (hR : lR R) (hX : va_X b 4 xs s s.heap ∧ b < s.heap.size) (h : lH D E L cg cr cl o f st (rW0 E cr km ks kp kt kw kc kpr kwk kq kst ko kr kd) s H locs) (hl : lv_has ls 9 [(4, .int 0), (3, .ref o), (2, .ref km), (1, .ref (L 0)), (0, .ref b)]) (hH : hMt l yL_ran wsL_ran rm D L cg cl (rW0 E cr km ks kp kt kw kc kpr kwk kq kst ko kr kd) o (lA0 s) f st [.ref (L 0), .int (xs 1), .int (xs 2), .ref o] k g mc ms) (hf : lFit rm mc ms) (hM : rMi l yX10_ran wsX10_ran rm2 D E cr [lA cl o g] (rW0 E cr km ks kp kt kw kc kpr kwk kq kst ko kr kd) (lA0 s) [.ref km, .int (xs 1), .int (xs 2)] v (fun _ : Unit => [(km, .inr (12, [.int k, .ref ks, .ref kp]))]) (fun _ => True) mc2 ms2) (hf2 : lFit rm2 mc2 ms2) (hk : k = 0 → g 0 = v.toInt64) (K : lK p l e R s m args below meth c b Q) : W p l e R s m args below meth c H locs 1000 10000 Q (F0 m 1462 ls []) := by
  have hx := S.1
  have hb := S.2.1
  have hKl := h.2.2.1.2.2
  refine lv_aload_n hx hb dL_law_1462 rfl (lv_at hl 3 rfl) ?_
  refine lv_aload_n hx hb dL_law_1463 rfl (lv_at hl 4 rfl) ?_
  refine lv_iload hx hb dL_law_1464 (lv_at hl 0 rfl) ?_
  refine lv_iconst (v := 1) hx hb dL_law_1466 (by decide) ?_
  refine lv_iadd hx hb dL_law_1467 ?_
  refine l_el 1 hx hb hX h.2.1 (fun q => absurd q (by decide)) (by decide) dL_law_1468 ?_
  refine lv_aload_n hx hb dL_law_1469 rfl (lv_at hl 4 rfl) ?_
  refine lv_iload hx hb dL_law_1470 (lv_at hl 0 rfl) ?_
  refine lv_iconst (v := 2) hx hb dL_law_1472 (by decide) ?_
  refine lv_iadd hx hb dL_law_1473 ?_
  refine l_el 2 hx hb hX h.2.1 (fun q => absurd q (by decide)) (by decide) dL_law_1474 ?_
  refine lv_aload_n hx hb dL_law_1475 rfl (lv_at hl 1 rfl) ?_
  refine l_helper (n := 4) S hR h hH hf gL_law_L_ran rfl (by decide +kernel) (by decide) rfl hl.1 rfl dL_law_1476 (fun H locs h => ?_)
  refine lv_istore (lv' := [(5, .int k), (4, .int 0), (3, .ref o), (2, .ref km), (1, .ref (L 0)), (0, .ref b)]) hx hb dL_law_1479 hl (by decide) rfl (fun ls hl => ?_)
  refine lv_aload_n hx hb dL_law_1481 rfl (lv_at hl 3 rfl) ?_
  refine lv_aload_n hx hb dL_law_1482 rfl (lv_at hl 5 rfl) ?_
  refine lv_iload hx hb dL_law_1483 (lv_at hl 1 rfl) ?_
  refine lv_iconst (v := 1) hx hb dL_law_1485 (by decide) ?_
  refine lv_iadd hx hb dL_law_1486 ?_
  refine l_el 1 hx hb hX h.2.1 (fun q => absurd q (by decide)) (by decide) dL_law_1487 ?_
  refine lv_aload_n hx hb dL_law_1488 rfl (lv_at hl 5 rfl) ?_
  refine lv_iload hx hb dL_law_1489 (lv_at hl 1 rfl) ?_
  refine lv_iconst (v := 2) hx hb dL_law_1491 (by decide) ?_
  refine lv_iadd hx hb dL_law_1492 ?_
  refine l_el 2 hx hb hX h.2.1 (fun q => absurd q (by decide)) (by decide) dL_law_1493 ?_
  refine l_model (n := 2) S hR h hM hf2 gL_law_X10_ran rfl (by decide +kernel) (by decide) rfl hl.1 rfl dL_law_1494 (fun H locs h => ?_)
  exact l_tail S hR hKl h (lv_sub hl [0, 1, 2, 3, 5] rfl) ⟨dL_law_1497, dL_law_1499, dL_law_1500, dL_law_1503, dL_law_1505, dL_law_1510, dL_law_1512, dL_law_1515, dL_law_1516, dL_law_1517, dL_law_1518, dL_law_1520, dL_law_1521, dL_law_1522, dL_law_1527⟩ (by decide) hk K
set_option maxHeartbeats 4000000 in
set_option maxRecDepth 100000 in
theorem t_overIn (S : CallFix p m c cL_law 9 s args wsL_law RL) (hR : lR R) (hX : va_X b 4 xs s s.heap ∧ b < s.heap.size) (h : lH D E L cg cr cl o f st (rW0 E cr km ks kp kt kw kc kpr kwk kq kst ko kr kd) s H locs) (hl : lv_has ls 9 [(4, .int 0), (3, .ref o), (2, .ref km), (1, .ref (L 0)), (0, .ref b)]) (hH : hMt l yL_overIn wsL_overIn rm D L cg cl (rW0 E cr km ks kp kt kw kc kpr kwk kq kst ko kr kd) o (lA0 s) f st [.ref (L 0), .int (xs 1), .int (xs 2), .ref o] k g mc ms) (hf : lFit rm mc ms) (hM : rMi l yX10_overIn wsX10_overIn rm2 D E cr [lA cl o g] (rW0 E cr km ks kp kt kw kc kpr kwk kq kst ko kr kd) (lA0 s) [.ref km, .int (xs 1), .int (xs 2)] v (fun _ : Unit => [(km, .inr (12, [.int k, .ref ks, .ref kp]))]) (fun _ => True) mc2 ms2) (hf2 : lFit rm2 mc2 ms2) (hk : k = 0 → g 0 = v.toInt64) (K : lK p l e R s m args below meth c b Q) : W p l e R s m args below meth c H locs 1000 10000 Q (F0 m 1584 ls []) := by
  have hx := S.1
  have hb := S.2.1
  have hKl := h.2.2.1.2.2
  refine lv_aload_n hx hb dL_law_1584 rfl (lv_at hl 3 rfl) ?_
  refine lv_aload_n hx hb dL_law_1585 rfl (lv_at hl 4 rfl) ?_
  refine lv_iload hx hb dL_law_1586 (lv_at hl 0 rfl) ?_
  refine lv_iconst (v := 1) hx hb dL_law_1588 (by decide) ?_
  refine lv_iadd hx hb dL_law_1589 ?_
  refine l_el 1 hx hb hX h.2.1 (fun q => absurd q (by decide)) (by decide) dL_law_1590 ?_
  refine lv_aload_n hx hb dL_law_1591 rfl (lv_at hl 4 rfl) ?_
  refine lv_iload hx hb dL_law_1592 (lv_at hl 0 rfl) ?_
  refine lv_iconst (v := 2) hx hb dL_law_1594 (by decide) ?_
  refine lv_iadd hx hb dL_law_1595 ?_
  refine l_el 2 hx hb hX h.2.1 (fun q => absurd q (by decide)) (by decide) dL_law_1596 ?_
  refine lv_aload_n hx hb dL_law_1597 rfl (lv_at hl 1 rfl) ?_
  refine l_helper (n := 4) S hR h hH hf gL_law_L_overIn rfl (by decide +kernel) (by decide) rfl hl.1 rfl dL_law_1598 (fun H locs h => ?_)
  refine lv_istore (lv' := [(5, .int k), (4, .int 0), (3, .ref o), (2, .ref km), (1, .ref (L 0)), (0, .ref b)]) hx hb dL_law_1601 hl (by decide) rfl (fun ls hl => ?_)
  refine lv_aload_n hx hb dL_law_1603 rfl (lv_at hl 3 rfl) ?_
  refine lv_aload_n hx hb dL_law_1604 rfl (lv_at hl 5 rfl) ?_
  refine lv_iload hx hb dL_law_1605 (lv_at hl 1 rfl) ?_
  refine lv_iconst (v := 1) hx hb dL_law_1607 (by decide) ?_
  refine lv_iadd hx hb dL_law_1608 ?_
  refine l_el 1 hx hb hX h.2.1 (fun q => absurd q (by decide)) (by decide) dL_law_1609 ?_
  refine lv_aload_n hx hb dL_law_1610 rfl (lv_at hl 5 rfl) ?_
  refine lv_iload hx hb dL_law_1611 (lv_at hl 1 rfl) ?_
  refine lv_iconst (v := 2) hx hb dL_law_1613 (by decide) ?_
  refine lv_iadd hx hb dL_law_1614 ?_
  refine l_el 2 hx hb hX h.2.1 (fun q => absurd q (by decide)) (by decide) dL_law_1615 ?_
  refine l_model (n := 2) S hR h hM hf2 gL_law_X10_overIn rfl (by decide +kernel) (by decide) rfl hl.1 rfl dL_law_1616 (fun H locs h => ?_)
  exact l_tail S hR hKl h (lv_sub hl [0, 1, 2, 3, 5] rfl) ⟨dL_law_1619, dL_law_1621, dL_law_1622, dL_law_1625, dL_law_1627, dL_law_1632, dL_law_1634, dL_law_1637, dL_law_1638, dL_law_1639, dL_law_1640, dL_law_1642, dL_law_1643, dL_law_1644, dL_law_1649⟩ (by decide) hk K
set_option maxHeartbeats 4000000 in
set_option maxRecDepth 100000 in
theorem t_valueIn (S : CallFix p m c cL_law 9 s args wsL_law RL) (hR : lR R) (hX : va_X b 4 xs s s.heap ∧ b < s.heap.size) (h : lH D E L cg cr cl o f st (rW0 E cr km ks kp kt kw kc kpr kwk kq kst ko kr kd) s H locs) (hl : lv_has ls 9 [(4, .int 0), (3, .ref o), (2, .ref km), (1, .ref (L 0)), (0, .ref b)]) (hH : hMt l yL_valueIn wsL_valueIn rm D L cg cl (rW0 E cr km ks kp kt kw kc kpr kwk kq kst ko kr kd) o (lA0 s) f st [.ref (L 0), .int (xs 1), .int (xs 2), .ref o] k g mc ms) (hf : lFit rm mc ms) (hM : rMi l yX10_valueIn wsX10_valueIn rm2 D E cr [lA cl o g] (rW0 E cr km ks kp kt kw kc kpr kwk kq kst ko kr kd) (lA0 s) [.ref km, .int (xs 1), .int (xs 2)] v (fun _ : Unit => [(km, .inr (12, [.int k, .ref ks, .ref kp]))]) (fun _ => True) mc2 ms2) (hf2 : lFit rm2 mc2 ms2) (hk : k = 0 → g 0 = v.toInt64) (K : lK p l e R s m args below meth c b Q) : W p l e R s m args below meth c H locs 1000 10000 Q (F0 m 1652 ls []) := by
  have hx := S.1
  have hb := S.2.1
  have hKl := h.2.2.1.2.2
  refine lv_aload_n hx hb dL_law_1652 rfl (lv_at hl 3 rfl) ?_
  refine lv_aload_n hx hb dL_law_1653 rfl (lv_at hl 4 rfl) ?_
  refine lv_iload hx hb dL_law_1654 (lv_at hl 0 rfl) ?_
  refine lv_iconst (v := 1) hx hb dL_law_1656 (by decide) ?_
  refine lv_iadd hx hb dL_law_1657 ?_
  refine l_el 1 hx hb hX h.2.1 (fun q => absurd q (by decide)) (by decide) dL_law_1658 ?_
  refine lv_aload_n hx hb dL_law_1659 rfl (lv_at hl 4 rfl) ?_
  refine lv_iload hx hb dL_law_1660 (lv_at hl 0 rfl) ?_
  refine lv_iconst (v := 2) hx hb dL_law_1662 (by decide) ?_
  refine lv_iadd hx hb dL_law_1663 ?_
  refine l_el 2 hx hb hX h.2.1 (fun q => absurd q (by decide)) (by decide) dL_law_1664 ?_
  refine lv_aload_n hx hb dL_law_1665 rfl (lv_at hl 1 rfl) ?_
  refine l_helper (n := 4) S hR h hH hf gL_law_L_valueIn rfl (by decide +kernel) (by decide) rfl hl.1 rfl dL_law_1666 (fun H locs h => ?_)
  refine lv_istore (lv' := [(5, .int k), (4, .int 0), (3, .ref o), (2, .ref km), (1, .ref (L 0)), (0, .ref b)]) hx hb dL_law_1669 hl (by decide) rfl (fun ls hl => ?_)
  refine lv_aload_n hx hb dL_law_1671 rfl (lv_at hl 3 rfl) ?_
  refine lv_aload_n hx hb dL_law_1672 rfl (lv_at hl 5 rfl) ?_
  refine lv_iload hx hb dL_law_1673 (lv_at hl 1 rfl) ?_
  refine lv_iconst (v := 1) hx hb dL_law_1675 (by decide) ?_
  refine lv_iadd hx hb dL_law_1676 ?_
  refine l_el 1 hx hb hX h.2.1 (fun q => absurd q (by decide)) (by decide) dL_law_1677 ?_
  refine lv_aload_n hx hb dL_law_1678 rfl (lv_at hl 5 rfl) ?_
  refine lv_iload hx hb dL_law_1679 (lv_at hl 1 rfl) ?_
  refine lv_iconst (v := 2) hx hb dL_law_1681 (by decide) ?_
  refine lv_iadd hx hb dL_law_1682 ?_
  refine l_el 2 hx hb hX h.2.1 (fun q => absurd q (by decide)) (by decide) dL_law_1683 ?_
  refine l_model (n := 2) S hR h hM hf2 gL_law_X10_valueIn rfl (by decide +kernel) (by decide) rfl hl.1 rfl dL_law_1684 (fun H locs h => ?_)
  exact l_tail S hR hKl h (lv_sub hl [0, 1, 2, 3, 5] rfl) ⟨dL_law_1687, dL_law_1689, dL_law_1690, dL_law_1693, dL_law_1695, dL_law_1700, dL_law_1702, dL_law_1705, dL_law_1706, dL_law_1707, dL_law_1708, dL_law_1710, dL_law_1711, dL_law_1712, dL_law_1717⟩ (by decide) hk K
set_option maxHeartbeats 4000000 in
set_option maxRecDepth 100000 in
theorem t_haltsIn (S : CallFix p m c cL_law 9 s args wsL_law RL) (hR : lR R) (hX : va_X b 4 xs s s.heap ∧ b < s.heap.size) (h : lH D E L cg cr cl o f st (rW0 E cr km ks kp kt kw kc kpr kwk kq kst ko kr kd) s H locs) (hl : lv_has ls 9 [(4, .int 0), (3, .ref o), (2, .ref km), (1, .ref (L 0)), (0, .ref b)]) (hH : hMt l yL_haltsIn wsL_haltsIn rm D L cg cl (rW0 E cr km ks kp kt kw kc kpr kwk kq kst ko kr kd) o (lA0 s) f st [.ref (L 0), .int (xs 1), .ref o] k g mc ms) (hf : lFit rm mc ms) (hM : rMi l yX10_haltsIn wsX10_haltsIn rm2 D E cr [lA cl o g] (rW0 E cr km ks kp kt kw kc kpr kwk kq kst ko kr kd) (lA0 s) [.ref km, .int (xs 1)] v (fun _ : Unit => [(km, .inr (12, [.int k, .ref ks, .ref kp]))]) (fun _ => True) mc2 ms2) (hf2 : lFit rm2 mc2 ms2) (hk : k = 0 → g 0 = v.toInt64) (K : lK p l e R s m args below meth c b Q) : W p l e R s m args below meth c H locs 1000 10000 Q (F0 m 1720 ls []) := by
  have hx := S.1
  have hb := S.2.1
  have hKl := h.2.2.1.2.2
  refine lv_aload_n hx hb dL_law_1720 rfl (lv_at hl 3 rfl) ?_
  refine lv_aload_n hx hb dL_law_1721 rfl (lv_at hl 4 rfl) ?_
  refine lv_iload hx hb dL_law_1722 (lv_at hl 0 rfl) ?_
  refine lv_iconst (v := 1) hx hb dL_law_1724 (by decide) ?_
  refine lv_iadd hx hb dL_law_1725 ?_
  refine l_el 1 hx hb hX h.2.1 (fun q => absurd q (by decide)) (by decide) dL_law_1726 ?_
  refine lv_aload_n hx hb dL_law_1727 rfl (lv_at hl 1 rfl) ?_
  refine l_helper (n := 3) S hR h hH hf gL_law_L_haltsIn rfl (by decide +kernel) (by decide) rfl hl.1 rfl dL_law_1728 (fun H locs h => ?_)
  refine lv_istore (lv' := [(5, .int k), (4, .int 0), (3, .ref o), (2, .ref km), (1, .ref (L 0)), (0, .ref b)]) hx hb dL_law_1731 hl (by decide) rfl (fun ls hl => ?_)
  refine lv_aload_n hx hb dL_law_1733 rfl (lv_at hl 3 rfl) ?_
  refine lv_aload_n hx hb dL_law_1734 rfl (lv_at hl 5 rfl) ?_
  refine lv_iload hx hb dL_law_1735 (lv_at hl 1 rfl) ?_
  refine lv_iconst (v := 1) hx hb dL_law_1737 (by decide) ?_
  refine lv_iadd hx hb dL_law_1738 ?_
  refine l_el 1 hx hb hX h.2.1 (fun q => absurd q (by decide)) (by decide) dL_law_1739 ?_
  refine l_model (n := 1) S hR h hM hf2 gL_law_X10_haltsIn rfl (by decide +kernel) (by decide) rfl hl.1 rfl dL_law_1740 (fun H locs h => ?_)
  exact l_tail S hR hKl h (lv_sub hl [0, 1, 2, 3, 5] rfl) ⟨dL_law_1743, dL_law_1745, dL_law_1746, dL_law_1749, dL_law_1751, dL_law_1756, dL_law_1758, dL_law_1761, dL_law_1762, dL_law_1763, dL_law_1764, dL_law_1766, dL_law_1767, dL_law_1768, dL_law_1773⟩ (by decide) hk K
set_option maxHeartbeats 4000000 in
set_option maxRecDepth 100000 in
theorem t_alone (S : CallFix p m c cL_law 9 s args wsL_law RL) (hR : lR R) (hX : va_X b 4 xs s s.heap ∧ b < s.heap.size) (h : lH D E L cg cr cl o f st (rW0 E cr km ks kp kt kw kc kpr kwk kq kst ko kr kd) s H locs) (hl : lv_has ls 9 [(4, .int 0), (3, .ref o), (2, .ref km), (1, .ref (L 0)), (0, .ref b)]) (hH : hMt l yL_alone wsL_alone rm D L cg cl (rW0 E cr km ks kp kt kw kc kpr kwk kq kst ko kr kd) o (lA0 s) f st [.ref (L 0), .int (xs 1), .int (xs 2), .int (xs 3), .ref o] k g mc ms) (hf : lFit rm mc ms) (hM : rMi l yX10_alone wsX10_alone rm2 D E cr [lA cl o g] (rW0 E cr km ks kp kt kw kc kpr kwk kq kst ko kr kd) (lA0 s) [.ref km, .int (xs 1), .int (xs 2), .int (xs 3)] v (fun _ : Unit => [(km, .inr (12, [.int k, .ref ks, .ref kp]))]) (fun _ => True) mc2 ms2) (hf2 : lFit rm2 mc2 ms2) (hk : k = 0 → g 0 = v.toInt64) (K : lK p l e R s m args below meth c b Q) : W p l e R s m args below meth c H locs 1000 10000 Q (F0 m 1776 ls []) := by
  have hx := S.1
  have hb := S.2.1
  have hKl := h.2.2.1.2.2
  refine lv_aload_n hx hb dL_law_1776 rfl (lv_at hl 3 rfl) ?_
  refine lv_aload_n hx hb dL_law_1777 rfl (lv_at hl 4 rfl) ?_
  refine lv_iload hx hb dL_law_1778 (lv_at hl 0 rfl) ?_
  refine lv_iconst (v := 1) hx hb dL_law_1780 (by decide) ?_
  refine lv_iadd hx hb dL_law_1781 ?_
  refine l_el 1 hx hb hX h.2.1 (fun q => absurd q (by decide)) (by decide) dL_law_1782 ?_
  refine lv_aload_n hx hb dL_law_1783 rfl (lv_at hl 4 rfl) ?_
  refine lv_iload hx hb dL_law_1784 (lv_at hl 0 rfl) ?_
  refine lv_iconst (v := 2) hx hb dL_law_1786 (by decide) ?_
  refine lv_iadd hx hb dL_law_1787 ?_
  refine l_el 2 hx hb hX h.2.1 (fun q => absurd q (by decide)) (by decide) dL_law_1788 ?_
  refine lv_aload_n hx hb dL_law_1789 rfl (lv_at hl 4 rfl) ?_
  refine lv_iload hx hb dL_law_1790 (lv_at hl 0 rfl) ?_
  refine lv_iconst (v := 3) hx hb dL_law_1792 (by decide) ?_
  refine lv_iadd hx hb dL_law_1793 ?_
  refine l_el 3 hx hb hX h.2.1 (fun q => absurd q (by decide)) (by decide) dL_law_1794 ?_
  refine lv_aload_n hx hb dL_law_1795 rfl (lv_at hl 1 rfl) ?_
  refine l_helper (n := 5) S hR h hH hf gL_law_L_alone rfl (by decide +kernel) (by decide) rfl hl.1 rfl dL_law_1796 (fun H locs h => ?_)
  refine lv_istore (lv' := [(5, .int k), (4, .int 0), (3, .ref o), (2, .ref km), (1, .ref (L 0)), (0, .ref b)]) hx hb dL_law_1799 hl (by decide) rfl (fun ls hl => ?_)
  refine lv_aload_n hx hb dL_law_1801 rfl (lv_at hl 3 rfl) ?_
  refine lv_aload_n hx hb dL_law_1802 rfl (lv_at hl 5 rfl) ?_
  refine lv_iload hx hb dL_law_1803 (lv_at hl 1 rfl) ?_
  refine lv_iconst (v := 1) hx hb dL_law_1805 (by decide) ?_
  refine lv_iadd hx hb dL_law_1806 ?_
  refine l_el 1 hx hb hX h.2.1 (fun q => absurd q (by decide)) (by decide) dL_law_1807 ?_
  refine lv_aload_n hx hb dL_law_1808 rfl (lv_at hl 5 rfl) ?_
  refine lv_iload hx hb dL_law_1809 (lv_at hl 1 rfl) ?_
  refine lv_iconst (v := 2) hx hb dL_law_1811 (by decide) ?_
  refine lv_iadd hx hb dL_law_1812 ?_
  refine l_el 2 hx hb hX h.2.1 (fun q => absurd q (by decide)) (by decide) dL_law_1813 ?_
  refine lv_aload_n hx hb dL_law_1814 rfl (lv_at hl 5 rfl) ?_
  refine lv_iload hx hb dL_law_1815 (lv_at hl 1 rfl) ?_
  refine lv_iconst (v := 3) hx hb dL_law_1817 (by decide) ?_
  refine lv_iadd hx hb dL_law_1818 ?_
  refine l_el 3 hx hb hX h.2.1 (fun q => absurd q (by decide)) (by decide) dL_law_1819 ?_
  refine l_model (n := 3) S hR h hM hf2 gL_law_X10_alone rfl (by decide +kernel) (by decide) rfl hl.1 rfl dL_law_1820 (fun H locs h => ?_)
  exact l_tail S hR hKl h (lv_sub hl [0, 1, 2, 3, 5] rfl) ⟨dL_law_1823, dL_law_1825, dL_law_1826, dL_law_1829, dL_law_1831, dL_law_1836, dL_law_1838, dL_law_1841, dL_law_1842, dL_law_1843, dL_law_1844, dL_law_1846, dL_law_1847, dL_law_1848, dL_law_1853⟩ (by decide) hk K
end LT
