/-! THE LAW'S CASES without a helper. -/
section LT
variable {p : Program} {l : Launch} {e : Env} {R : Room} {s : State} {m : MethodId} {args : Array Value} {below : List Frame} {meth : Method} {c : Code} {H : Heap} {locs : List Loc} {Q : State → Prop}
variable {D : va_G} {E : rEn} {L : Nat → Nat} {cg : Nat → ClassId} {cr : rC} {cl : ClassId} {o b : Nat} {xs : Nat → Int32} {f g : Nat → Int64} {st : gSt} {ls : Array Slot} {km ks kp kt kw kc kpr kwk kq kst ko kr kd : Nat} {rm rm2 : Room} {mc ms mc2 ms2 : Nat} {k v : Int32}
theorem l_gH {rw9 : va_W} (h : lH D E L cg cr cl o f st rw9 s H locs) : gH D L cg (rw9 ++ [lA cl o f]) (lA0 s) st s H locs := ⟨h.1, h.2.1, h.2.2.1.1, h.2.2.2.1.1, fun st' => gW_D h.2.2.2.2.2 st'⟩
theorem l_back {rw9 : va_W} {H0 : Heap} {locs0 : List Loc} {st' : gSt} (h : lH D E L cg cr cl o f st rw9 s H0 locs0) (h1 : gH D L cg (rw9 ++ [lA cl o f]) (lA0 s) st' s H locs) : rH D E cr [lA cl o f] rw9 (lA0 s) s H locs := ⟨va_P.swap (a := []) (b := rw9) (c := [lA cl o f]) (h_front h1.1), h1.2.1, h.2.2.1.2.1, h.2.2.2.2.1, l_D f h.2.2.2.2.2, fun q h => h⟩
def lKs (p : Program) (l : Launch) (e : Env) (R : Room) (s : State) (m : MethodId) (args : Array Value) (below : List Frame) (meth : Method) (c : Code) (Q : State → Prop) (pc : Nat) (ls : Array Slot) (st1 : List Value) : Prop := ∀ (H1 : Heap) (locs1 : List Loc), va_S (lA0 s) s.heap H1 locs1 → W p l e R s m args below meth c H1 locs1 3000 50000 Q (F0 m pc ls st1)
theorem l_modelL {n idx maxL : Nat} {y : MethodName} {ws ws' : List Cond} {rm : Room} {cc : ByteArray} {v : Int64} {st0 : List Value} {pc : Nat} {As : List Value} {mc ms : Nat} (rest : List Value) (S : CallFix p m c cL_law 9 s args wsL_law RL) (hR : lR R) (h : rH D E cr [lA cl o g] (rW0 E cr km ks kp kt kw kc kpr kwk kq kst ko kr kd) (lA0 s) s H locs) (hM : rMl l y ws rm D E cr [lA cl o g] (rW0 E cr km ks kp kt kw kc kpr kwk kq kst ko kr kd) (lA0 s) (.ref km :: As) v (fun _ : Unit => [(km, .inr (12, [.int 0, .ref ks, .ref kp]))]) (fun _ => True) mc ms) (hf : lFit rm mc ms) {ret : Option FieldType} (hT : GoodIn wsL_law (wsV RL idx RX10 y ws)) (hw : ws = Cond.code y cc maxL ret :: ws') (hd : y.cls = RX10 ∧ y.cls ≠ "java/lang/invoke/MethodHandle" ∧ y.cls ≠ "java/lang/invoke/VarHandle" ∧ (parseMethodDescriptor y.desc).map (fun d => d.parameters.length) = some n) (hml : maxL ≤ 20)
    (hn : As.length = n) (hsize : ls.size = 9) (hstack : st0 = As.reverse ++ .ref km :: rest) (hW : 2 * 0 + (rest.map fun v => v.category).sum ≤ 8) (hdg : decode cL_law pc = .ok (.invokevirtual idx, 3)) (kk : lKs p l e R s m args below meth c Q (pc + 3) ls (.long v :: rest)) : W p l e R s m args below meth c H locs 2000 30000 Q (F0 m pc ls st0) := by
  obtain ⟨f1, f2, f3, f4, f5, f6⟩ := hf
  obtain ⟨r1, r2, r3, r4⟩ := hR
  have hp := r_preV h [] [0, 1, 2, 3, 4, 5, 6, 7, 8, 9, 10, 11, 12] (wr := []) (wc := (rW0 E cr km ks kp kt kw kc kpr kwk kq kst ko kr kd)) rfl rfl rfl 0 rfl rfl As
  refine va_calll (rest := rest) (va_runV S hM (cwV n S.2.2.2.2 hT hw f1 f2 hd ⟨by omega, by omega⟩) hp rfl hn hsize hstack hW hdg ⟨by omega, by omega⟩) h.2.1 (fun q _ h => h) (fun q h => h) (fun r u t H1 locs1 ht hvm hw hB hz1 hk1 hS1 => ?_)
  obtain ⟨hw, hok⟩ := hw
  subst hw
  refine W.widen (k := 3000) (n := 50000) (by omega) (by omega) ?_
  exact kk H1 locs1 hS1
theorem l_modelD {n idx maxL : Nat} {y : MethodName} {ws ws' : List Cond} {rm : Room} {cc : ByteArray} {v : UInt64} {st0 : List Value} {pc : Nat} {As : List Value} {mc ms : Nat} (rest : List Value) (S : CallFix p m c cL_law 9 s args wsL_law RL) (hR : lR R) (h : rH D E cr [lA cl o g] (rW0 E cr km ks kp kt kw kc kpr kwk kq kst ko kr kd) (lA0 s) s H locs) (hM : rMd l y ws rm D E cr [lA cl o g] (rW0 E cr km ks kp kt kw kc kpr kwk kq kst ko kr kd) (lA0 s) (.ref km :: As) v (fun _ : Unit => [(km, .inr (12, [.int 0, .ref ks, .ref kp]))]) (fun _ => True) mc ms) (hf : lFit rm mc ms) {ret : Option FieldType} (hT : GoodIn wsL_law (wsV RL idx RX10 y ws)) (hw : ws = Cond.code y cc maxL ret :: ws') (hd : y.cls = RX10 ∧ y.cls ≠ "java/lang/invoke/MethodHandle" ∧ y.cls ≠ "java/lang/invoke/VarHandle" ∧ (parseMethodDescriptor y.desc).map (fun d => d.parameters.length) = some n) (hml : maxL ≤ 20)
    (hn : As.length = n) (hsize : ls.size = 9) (hstack : st0 = As.reverse ++ .ref km :: rest) (hW : 2 * 0 + (rest.map fun v => v.category).sum ≤ 8) (hdg : decode cL_law pc = .ok (.invokevirtual idx, 3)) (kk : lKs p l e R s m args below meth c Q (pc + 3) ls (.double v :: rest)) : W p l e R s m args below meth c H locs 2000 30000 Q (F0 m pc ls st0) := by
  obtain ⟨f1, f2, f3, f4, f5, f6⟩ := hf
  obtain ⟨r1, r2, r3, r4⟩ := hR
  have hp := r_preV h [] [0, 1, 2, 3, 4, 5, 6, 7, 8, 9, 10, 11, 12] (wr := []) (wc := (rW0 E cr km ks kp kt kw kc kpr kwk kq kst ko kr kd)) rfl rfl rfl 0 rfl rfl As
  refine va_calld (rest := rest) (va_runV S hM (cwV n S.2.2.2.2 hT hw f1 f2 hd ⟨by omega, by omega⟩) hp rfl hn hsize hstack hW hdg ⟨by omega, by omega⟩) h.2.1 (fun q _ h => h) (fun q h => h) (fun r u t H1 locs1 ht hvm hw hB hz1 hk1 hS1 => ?_)
  obtain ⟨hw, hok⟩ := hw
  subst hw
  refine W.widen (k := 3000) (n := 50000) (by omega) (by omega) ?_
  exact kk H1 locs1 hS1
set_option maxHeartbeats 4000000 in
set_option maxRecDepth 100000 in
theorem t_clock (S : CallFix p m c cL_law 9 s args wsL_law RL) (hR : lR R) (hX : va_X b 4 xs s s.heap ∧ b < s.heap.size) (h : lH D E L cg cr cl o f st (rW0 E cr km ks kp kt kw kc kpr kwk kq kst ko kr kd) s H locs) (hl : lv_has ls 9 [(4, .int 0), (3, .ref o), (2, .ref km), (1, .ref (L 0)), (0, .ref b)]) (hv : f_X6_clock st = v) (hM : rMi l yX10_clock wsX10_clock rm2 D E cr [lA cl o f] (rW0 E cr km ks kp kt kw kc kpr kwk kq kst ko kr kd) (lA0 s) [.ref km] v (fun _ : Unit => [(km, .inr (12, [.int k, .ref ks, .ref kp]))]) (fun _ => True) mc2 ms2) (hf2 : lFit rm2 mc2 ms2) (K : lK p l e R s m args below meth c b Q) : W p l e R s m args below meth c H locs 1000 10000 Q (F0 m 671 ls []) := by
  have hx := S.1
  have hb := S.2.1
  refine lv_aload_n hx hb dL_law_671 rfl (lv_at hl 3 rfl) ?_
  refine g_calli S (l_gH h) (c_X6_clock l D L cg _ (lA0 s) st h.2.2.2.2.2) (cwV 0 S.2.2.2.2 gL_law_X6_clock rfl rfl rfl (by decide +kernel) ⟨Nat.le_trans (Nat.le_of_ble_eq_true rfl) hR.1, Nat.le_trans (Nat.le_of_ble_eq_true rfl) hR.2.2.2⟩) (g_pre (l_gH h) gk_c0 (by decide) rfl rfl _) rfl hl.1 rfl (Nat.le_of_ble_eq_true rfl) dL_law_672 ⟨Nat.le_trans (Nat.le_of_ble_eq_true rfl) hR.2.1, Nat.le_trans (Nat.le_of_ble_eq_true rfl) hR.2.2.1⟩ (fun H locs h1 => ?_)
  have h := l_back h h1
  refine W.widen (k := 2000) (n := 30000) (by omega) (by omega) ?_
  refine lv_aload_n hx hb dL_law_675 rfl (lv_at hl 2 rfl) ?_
  refine l_modelR (n := 0) [.int (f_X6_clock st)] S hR h hM hf2 gL_law_X10_clock rfl (by decide +kernel) (by decide) rfl hl.1 rfl (Nat.le_of_ble_eq_true rfl) dL_law_676 (fun H locs h => ?_)
  exact lv_icmp_eq (tgt := 1870) hx hb dL_law_679 (by decide) (fun _ => K _ _ _ h.2.1 (lv_sub hl [0, 4] rfl)) (fun c1 => absurd hv c1)
set_option maxHeartbeats 4000000 in
set_option maxRecDepth 100000 in
theorem t_tasks (S : CallFix p m c cL_law 9 s args wsL_law RL) (hR : lR R) (hX : va_X b 4 xs s s.heap ∧ b < s.heap.size) (h : lH D E L cg cr cl o f st (rW0 E cr km ks kp kt kw kc kpr kwk kq kst ko kr kd) s H locs) (hl : lv_has ls 9 [(4, .int 0), (3, .ref o), (2, .ref km), (1, .ref (L 0)), (0, .ref b)]) (hv : f_X6_tasks st = v) (hM : rMi l yX10_tasks wsX10_tasks rm2 D E cr [lA cl o f] (rW0 E cr km ks kp kt kw kc kpr kwk kq kst ko kr kd) (lA0 s) [.ref km] v (fun _ : Unit => [(km, .inr (12, [.int k, .ref ks, .ref kp]))]) (fun _ => True) mc2 ms2) (hf2 : lFit rm2 mc2 ms2) (K : lK p l e R s m args below meth c b Q) : W p l e R s m args below meth c H locs 1000 10000 Q (F0 m 684 ls []) := by
  have hx := S.1
  have hb := S.2.1
  refine lv_aload_n hx hb dL_law_684 rfl (lv_at hl 3 rfl) ?_
  refine g_calli S (l_gH h) (c_X6_tasks l D L cg _ (lA0 s) st h.2.2.2.2.2) (cwV 0 S.2.2.2.2 gL_law_X6_tasks rfl rfl rfl (by decide +kernel) ⟨Nat.le_trans (Nat.le_of_ble_eq_true rfl) hR.1, Nat.le_trans (Nat.le_of_ble_eq_true rfl) hR.2.2.2⟩) (g_pre (l_gH h) gk_c0 (by decide) rfl rfl _) rfl hl.1 rfl (Nat.le_of_ble_eq_true rfl) dL_law_685 ⟨Nat.le_trans (Nat.le_of_ble_eq_true rfl) hR.2.1, Nat.le_trans (Nat.le_of_ble_eq_true rfl) hR.2.2.1⟩ (fun H locs h1 => ?_)
  have h := l_back h h1
  refine W.widen (k := 2000) (n := 30000) (by omega) (by omega) ?_
  refine lv_aload_n hx hb dL_law_688 rfl (lv_at hl 2 rfl) ?_
  refine l_modelR (n := 0) [.int (f_X6_tasks st)] S hR h hM hf2 gL_law_X10_tasks rfl (by decide +kernel) (by decide) rfl hl.1 rfl (Nat.le_of_ble_eq_true rfl) dL_law_689 (fun H locs h => ?_)
  exact lv_icmp_eq (tgt := 1870) hx hb dL_law_692 (by decide) (fun _ => K _ _ _ h.2.1 (lv_sub hl [0, 4] rfl)) (fun c1 => absurd hv c1)
set_option maxHeartbeats 4000000 in
set_option maxRecDepth 100000 in
theorem t_workers (S : CallFix p m c cL_law 9 s args wsL_law RL) (hR : lR R) (hX : va_X b 4 xs s s.heap ∧ b < s.heap.size) (h : lH D E L cg cr cl o f st (rW0 E cr km ks kp kt kw kc kpr kwk kq kst ko kr kd) s H locs) (hl : lv_has ls 9 [(4, .int 0), (3, .ref o), (2, .ref km), (1, .ref (L 0)), (0, .ref b)]) (hv : f_X6_workers st = v) (hM : rMi l yX10_workers wsX10_workers rm2 D E cr [lA cl o f] (rW0 E cr km ks kp kt kw kc kpr kwk kq kst ko kr kd) (lA0 s) [.ref km] v (fun _ : Unit => [(km, .inr (12, [.int k, .ref ks, .ref kp]))]) (fun _ => True) mc2 ms2) (hf2 : lFit rm2 mc2 ms2) (K : lK p l e R s m args below meth c b Q) : W p l e R s m args below meth c H locs 1000 10000 Q (F0 m 1145 ls []) := by
  have hx := S.1
  have hb := S.2.1
  refine lv_aload_n hx hb dL_law_1145 rfl (lv_at hl 3 rfl) ?_
  refine g_calli S (l_gH h) (c_X6_workers l D L cg _ (lA0 s) st h.2.2.2.2.2) (cwV 0 S.2.2.2.2 gL_law_X6_workers rfl rfl rfl (by decide +kernel) ⟨Nat.le_trans (Nat.le_of_ble_eq_true rfl) hR.1, Nat.le_trans (Nat.le_of_ble_eq_true rfl) hR.2.2.2⟩) (g_pre (l_gH h) gk_c0 (by decide) rfl rfl _) rfl hl.1 rfl (Nat.le_of_ble_eq_true rfl) dL_law_1146 ⟨Nat.le_trans (Nat.le_of_ble_eq_true rfl) hR.2.1, Nat.le_trans (Nat.le_of_ble_eq_true rfl) hR.2.2.1⟩ (fun H locs h1 => ?_)
  have h := l_back h h1
  refine W.widen (k := 2000) (n := 30000) (by omega) (by omega) ?_
  refine lv_aload_n hx hb dL_law_1149 rfl (lv_at hl 2 rfl) ?_
  refine l_modelR (n := 0) [.int (f_X6_workers st)] S hR h hM hf2 gL_law_X10_workers rfl (by decide +kernel) (by decide) rfl hl.1 rfl (Nat.le_of_ble_eq_true rfl) dL_law_1150 (fun H locs h => ?_)
  exact lv_icmp_eq (tgt := 1870) hx hb dL_law_1153 (by decide) (fun _ => K _ _ _ h.2.1 (lv_sub hl [0, 4] rfl)) (fun c1 => absurd hv c1)
set_option maxHeartbeats 4000000 in
set_option maxRecDepth 100000 in
theorem t_halted (S : CallFix p m c cL_law 9 s args wsL_law RL) (hR : lR R) (hX : va_X b 4 xs s s.heap ∧ b < s.heap.size) (h : lH D E L cg cr cl o f st (rW0 E cr km ks kp kt kw kc kpr kwk kq kst ko kr kd) s H locs) (hl : lv_has ls 9 [(4, .int 0), (3, .ref o), (2, .ref km), (1, .ref (L 0)), (0, .ref b)]) (hv : f_X6_halted st = v) (hM : rMi l yX10_halted wsX10_halted rm2 D E cr [lA cl o f] (rW0 E cr km ks kp kt kw kc kpr kwk kq kst ko kr kd) (lA0 s) [.ref km] v (fun _ : Unit => [(km, .inr (12, [.int k, .ref ks, .ref kp]))]) (fun _ => True) mc2 ms2) (hf2 : lFit rm2 mc2 ms2) (K : lK p l e R s m args below meth c b Q) : W p l e R s m args below meth c H locs 1000 10000 Q (F0 m 1530 ls []) := by
  have hx := S.1
  have hb := S.2.1
  refine lv_aload_n hx hb dL_law_1530 rfl (lv_at hl 3 rfl) ?_
  refine g_calli S (l_gH h) (c_X6_halted l D L cg _ (lA0 s) st h.2.2.2.2.2) (cwV 0 S.2.2.2.2 gL_law_X6_halted rfl rfl rfl (by decide +kernel) ⟨Nat.le_trans (Nat.le_of_ble_eq_true rfl) hR.1, Nat.le_trans (Nat.le_of_ble_eq_true rfl) hR.2.2.2⟩) (g_pre (l_gH h) gk_c0 (by decide) rfl rfl _) rfl hl.1 rfl (Nat.le_of_ble_eq_true rfl) dL_law_1531 ⟨Nat.le_trans (Nat.le_of_ble_eq_true rfl) hR.2.1, Nat.le_trans (Nat.le_of_ble_eq_true rfl) hR.2.2.1⟩ (fun H locs h1 => ?_)
  have h := l_back h h1
  refine W.widen (k := 2000) (n := 30000) (by omega) (by omega) ?_
  refine lv_aload_n hx hb dL_law_1534 rfl (lv_at hl 2 rfl) ?_
  refine l_modelR (n := 0) [.int (f_X6_halted st)] S hR h hM hf2 gL_law_X10_halted rfl (by decide +kernel) (by decide) rfl hl.1 rfl (Nat.le_of_ble_eq_true rfl) dL_law_1535 (fun H locs h => ?_)
  exact lv_icmp_eq (tgt := 1870) hx hb dL_law_1538 (by decide) (fun _ => K _ _ _ h.2.1 (lv_sub hl [0, 4] rfl)) (fun c1 => absurd hv c1)
set_option maxHeartbeats 4000000 in
set_option maxRecDepth 100000 in
theorem t_digest {w : Int64} (S : CallFix p m c cL_law 9 s args wsL_law RL) (hR : lR R) (hX : va_X b 4 xs s s.heap ∧ b < s.heap.size) (h : lH D E L cg cr cl o f st (rW0 E cr km ks kp kt kw kc kpr kwk kq kst ko kr kd) s H locs) (hl : lv_has ls 9 [(4, .int 0), (3, .ref o), (2, .ref km), (1, .ref (L 0)), (0, .ref b)]) (hv : f_X6_digest st = w) (hM : rMl l yX10_digest wsX10_digest rm2 D E cr [lA cl o f] (rW0 E cr km ks kp kt kw kc kpr kwk kq kst ko kr kd) (lA0 s) [.ref km] w (fun _ : Unit => [(km, .inr (12, [.int 0, .ref ks, .ref kp]))]) (fun _ => True) mc2 ms2) (hf2 : lFit rm2 mc2 ms2) (K : lK p l e R s m args below meth c b Q) : W p l e R s m args below meth c H locs 1000 10000 Q (F0 m 1856 ls []) := by
  have hx := S.1
  have hb := S.2.1
  subst hv
  refine lv_aload_n hx hb dL_law_1856 rfl (lv_at hl 3 rfl) ?_
  refine g_calll S (l_gH h) (c_X6_digest l D L cg _ (lA0 s) st h.2.2.2.2.2) (cwV 0 S.2.2.2.2 gL_law_X6_digest rfl rfl rfl (by decide +kernel) ⟨Nat.le_trans (Nat.le_of_ble_eq_true rfl) hR.1, Nat.le_trans (Nat.le_of_ble_eq_true rfl) hR.2.2.2⟩) (g_pre (l_gH h) gk_c0 (by decide) rfl rfl _) rfl hl.1 rfl (Nat.le_of_ble_eq_true rfl) dL_law_1857 ⟨Nat.le_trans (Nat.le_of_ble_eq_true rfl) hR.2.1, Nat.le_trans (Nat.le_of_ble_eq_true rfl) hR.2.2.1⟩ (fun H locs h1 => ?_)
  have h := l_back h h1
  refine W.widen (k := 2000) (n := 30000) (by omega) (by omega) ?_
  refine lv_aload_n hx hb dL_law_1860 rfl (lv_at hl 2 rfl) ?_
  refine l_modelL (n := 0) [.long (f_X6_digest st)] S hR h hM hf2 gL_law_X10_digest rfl (by decide +kernel) (by decide) rfl hl.1 rfl (Nat.le_of_ble_eq_true rfl) dL_law_1861 (fun H locs hS => ?_)
  refine l_lcmp hx hb dL_law_1864 ?_
  exact lv_if_eq (tgt := 1870) hx hb dL_law_1865 (by decide) (fun _ => K _ _ _ hS (lv_sub hl [0, 4] rfl)) (fun c1 => absurd rfl c1)
set_option maxHeartbeats 4000000 in
set_option maxRecDepth 100000 in
theorem t_load (S : CallFix p m c cL_law 9 s args wsL_law RL) (hR : lR R) (hX : va_X b 4 xs s s.heap ∧ b < s.heap.size) (h : lH D E L cg cr cl o f st (rW0 E cr km ks kp kt kw kc kpr kwk kq kst ko kr kd) s H locs) (hl : lv_has ls 9 [(4, .int 0), (3, .ref o), (2, .ref km), (1, .ref (L 0)), (0, .ref b)]) (hC : gMd l yX6_load wsX6_load { frames := 2, cells := 0, slots := 0, locals := 60 } D L cg ((rW0 E cr km ks kp kt kw kc kpr kwk kq kst ko kr kd) ++ [lA cl o f]) (lA0 s) [.ref (L 0)] st FP.dconst0 st) (hM : rMd l yX10_load wsX10_load rm2 D E cr [lA cl o f] (rW0 E cr km ks kp kt kw kc kpr kwk kq kst ko kr kd) (lA0 s) [.ref km] FP.dconst0 (fun _ : Unit => [(km, .inr (12, [.int 0, .ref ks, .ref kp]))]) (fun _ => True) mc2 ms2) (hf2 : lFit rm2 mc2 ms2) (K : lK p l e R s m args below meth c b Q) : W p l e R s m args below meth c H locs 1000 10000 Q (F0 m 1543 ls []) := by
  have hx := S.1
  have hb := S.2.1
  refine lv_aload_n hx hb dL_law_1543 rfl (lv_at hl 3 rfl) ?_
  refine va_calld (rest := []) (va_runV S hC (cwV 0 S.2.2.2.2 gL_law_X6_load rfl rfl rfl (by decide +kernel) ⟨Nat.le_trans (Nat.le_of_ble_eq_true rfl) hR.1, Nat.le_trans (Nat.le_of_ble_eq_true rfl) hR.2.2.2⟩) (g_pre (l_gH h) gk_c0 (by decide) rfl rfl _) rfl rfl hl.1 rfl (Nat.le_of_ble_eq_true rfl) dL_law_1544 ⟨Nat.le_trans (Nat.le_of_ble_eq_true rfl) hR.2.1, Nat.le_trans (Nat.le_of_ble_eq_true rfl) hR.2.2.1⟩) h.2.1 (fun q _ h => h) (fun q h => h) (fun r u t H1 locs1 ht hvm hw hB hz1 hk1 hS1 => ?_)
  rw [ht] at hB
  subst hw
  have h : rH D E cr [lA cl o f] (rW0 E cr km ks kp kt kw kc kpr kwk kq kst ko kr kd) (lA0 s) s H1 locs1 := ⟨va_P.swap (a := []) (b := (rW0 E cr km ks kp kt kw kc kpr kwk kq kst ko kr kd)) (c := [lA cl o f]) (h_front hB), hS1, h.2.2.1.2.1, h.2.2.2.2.1, l_D f h.2.2.2.2.2, fun q h => h⟩
  refine W.widen (k := 2000) (n := 30000) (by omega) (by omega) ?_
  refine lv_dstore (lv' := [(5, .double FP.dconst0), (4, .int 0), (3, .ref o), (2, .ref km), (1, .ref (L 0)), (0, .ref b)]) hx hb dL_law_1547 hl (by decide) rfl (fun ls hl => ?_)
  refine lv_aload_n hx hb dL_law_1549 rfl (lv_at hl 3 rfl) ?_
  refine l_modelD (n := 0) [] S hR h hM hf2 gL_law_X10_load rfl (by decide +kernel) (by decide) rfl hl.1 rfl (Nat.le_of_ble_eq_true rfl) dL_law_1550 (fun H locs hS => ?_)
  refine lv_dstore (lv' := [(7, .double FP.dconst0), (5, .double FP.dconst0), (4, .int 0), (3, .ref o), (2, .ref km), (1, .ref (L 0)), (0, .ref b)]) hx hb dL_law_1553 hl (by decide) rfl (fun ls hl => ?_)
  refine lv_dload hx hb dL_law_1555 (lv_at hl 1 rfl) ?_
  refine lv_dload hx hb dL_law_1557 (lv_at hl 0 rfl) ?_
  refine lv_dcmp hx hb dL_law_1559 ?_
  refine lv_if_eq (tgt := 1581) hx hb dL_law_1560 (by decide) (fun _ => ?_) (fun c1 => absurd (by decide +kernel) c1)
  exact lv_goto (tgt := 1870) hx hb dL_law_1581 (by decide) (K _ _ _ hS (lv_sub hl [2, 6] rfl))
end LT
