/-! THE LAW'S WORLD: the reference's cells, the answer's row, the object's cells; one call of each side, and what is held of the two answers. -/
abbrev rW0 (E : rEn) (cy : rC) (km ks kp kt kw kc kpr kwk kq kst ko kr kd : Nat) : va_W := [(km, .inr (12, [.int 0, .ref ks, .ref kp])), (ks, .inr (1, [.int 0, .ref E.1, .int 0])), (kp, .inr (9, [.ref ks, .ref kt, .ref kw, .ref kc, .ref kpr, .int 0, .int 0, .int 0])), (kt, .inr (1, [.int 0, .ref E.1, .int 0])), (kc, .inr (1, [.int 0, .ref E.1, .int 0])), rAi cy kpr 6 rPr, (kwk, .inr (11, [.ref kq, .ref kst, .ref ko, .ref kr])), (kq, .inr (1, [.int 0, .ref E.1, .int 0])), (kst, .inr (1, [.int 0, .ref E.1, .int 0])), rAi cy ko 3 (fun _ => 0), (kr, .inr (1, [.int 0, .ref E.1, .int 0])), (kw, .inr (1, [.int 1, .ref kd, .int 1])), rAr cy kd 10 (va_up (fun _ => none) 0 (some kwk))]
def lA0 (s : State) : Nat → Prop := fun q => s.heap.size ≤ q
def lH (D : va_G) (E : rEn) (L : Nat → Nat) (cg : Nat → ClassId) (cr : rC) (cl : ClassId) (o : Nat) (f : Nat → Int64) (st : gSt) (rw0 : va_W) (s : State) (H : Heap) (locs : List Loc) : Prop :=
  va_P D vwCl ((rw0 ++ [lA cl o f]) ++ gW L cg st) H ∧ va_S (lA0 s) s.heap H locs ∧ (va_K D vwCl (gty cg) s ∧ va_K D vwCl (rty cr) s ∧ va_K D vwCl [(cl, .long)] s) ∧ (gN s ∧ xF (lA0 s) s s.heap ∧ xN s ∧ xT s ∧ hF s) ∧ (rE E (lA0 s) s s.heap ∧ rS E s) ∧ va_D (lA0 s) ((rw0 ++ [lA cl o f]) ++ gW L cg st)
theorem l_front {A : Nat → Prop} {a b : va_W} (h : va_D A (a ++ b)) : va_D A a := h.by (fun k => k) (fun k q hk => by
  have hl : k < a.length := by
    rcases Nat.lt_or_ge k a.length with q1 | q1
    · exact q1
    · rw [List.getElem?_eq_none q1] at hk; cases hk
  rw [List.getElem?_append_left hl]
  exact hk) (fun i j _ _ e => e)
theorem l_D {A : Nat → Prop} {rw0 Y : va_W} {cl : ClassId} {o : Nat} {f : Nat → Int64} (g : Nat → Int64) (h : va_D A ((rw0 ++ [lA cl o f]) ++ Y)) : va_D A ([lA cl o g] ++ rw0) := by
  have h1 : va_D A (([] ++ rw0) ++ [lA cl o f]) := l_front h
  have h2 : va_D A ([lA cl o f] ++ rw0) := h1.swap
  exact h2.set (p := 0) rfl
section LW
variable {p : Program} {l : Launch} {e : Env} {R : Room} {s : State} {m : MethodId} {args : Array Value} {below : List Frame} {meth : Method} {c : Code} {H : Heap} {locs : List Loc} {cells slots : Nat} {Q : State → Prop}
variable {D : va_G} {E : rEn} {L : Nat → Nat} {cg : Nat → ClassId} {cr : rC} {cl : ClassId} {o b : Nat} {xs : Nat → Int32} {f g : Nat → Int64} {st : gSt} {rw0 : va_W} {pc : Nat} {ls : Array Slot} {rest st0 : List Value}
theorem l_lcmp {x : Int64} (hexec : p.tables.exec = Jvm.exec) (hb : c.code = cL_law) (hdg : decode cL_law pc = .ok (.lcmp, 1))
    (k : W p l e R s m args below meth c H locs cells slots Q (F0 m (pc + 1) ls (.int 0 :: rest))) : W p l e R s m args below meth c H locs cells slots Q (F0 m pc ls (.long x :: .long x :: rest)) := by
  intro T hT X
  obtain ⟨t, a, b⟩ := k T hT X
  refine ⟨t, ?_, b⟩
  have h1 : ¬ x > x := Int64.lt_irrefl
  jvm_step X.here [X.here.top, hexec, hb, hdg, h1]
  first | exact a | (simp [h1]; exact a) | (simp; exact a)
/-- the script's j-th number -/
theorem l_el (j : Nat) {v : Int32} (hx : p.tables.exec = Jvm.exec) (hb : c.code = cL_law) (hX : va_X b 4 xs s s.heap ∧ b < s.heap.size) (hS : va_S (lA0 s) s.heap H locs) (hin : vp_in v 4) (hv : v.toNatClampNeg = j) (hdg : decode cL_law pc = .ok (.iaload, 1))
    (kk : W p l e R s m args below meth c H locs cells slots Q (F0 m (pc + 1) ls (.int (xs j) :: rest))) : W p l e R s m args below meth c H locs cells slots Q (F0 m pc ls (.int v :: .ref b :: rest)) := by
  subst hv
  exact va_sld hx hb hX.1 hX.2 (Nat.not_le.mpr hX.2) hS hin hdg kk
theorem l_preS (h : lH D E L cg cr cl o f st rw0 s H locs) (av : List Value) : PreS s H (hPc D L cg cl rw0 o (lA0 s) f st av) av := by
  obtain ⟨hP, hS, ⟨hK, hKr, hKl⟩, ⟨hN, hF, hB, hT, hC⟩, -, hD⟩ := h
  exact ⟨hPc_blind D L cg cl rw0 o (lA0 s) f st _, fun U hU hW => ⟨rfl, by rw [hU]; exact hP, va_K.moved hW.alike hK, gN.warm hW hN, by rw [hU]; exact xF.moved hW.alike (hF.kept hS.2.1), hB.warm hW, hT.warm hW, va_K.moved hW.alike hKl, hC.warm hW⟩⟩
/-- what is small enough for the law's room -/
def lFit (rm : Room) (mc ms : Nat) : Prop := rm.cells = mc ∧ rm.slots = ms ∧ rm.frames ≤ 100 ∧ rm.locals ≤ 2000 ∧ mc ≤ 1000 ∧ ms ≤ 20000
def lR (R : Room) : Prop := 1000 ≤ R.frames ∧ 10000 ≤ R.cells ∧ 100000 ≤ R.slots ∧ 10000 ≤ R.locals
theorem l_helper {y : MethodName} {ws ws' : List Cond} {rm : Room} {cc : ByteArray} {maxL n idx mc ms : Nat} {hh : List (Nat × Nat × Nat × Nat)} {k : Int32} {av : List Value} (S : CallFix p m c cL_law 9 s args wsL_law RL) (hR : lR R) (h : lH D E L cg cr cl o f st rw0 s H locs) (hM : hMt l y ws rm D L cg cl rw0 o (lA0 s) f st av k g mc ms) (hf : lFit rm mc ms) (hT : GoodIn wsL_law (va_wsS RL idx y ws)) (hw : ws = Cond.codeWith y cc maxL (some .int) hh :: ws') (hd : y.cls ≠ "java/lang/invoke/MethodHandle" ∧ y.cls ≠ "java/lang/invoke/VarHandle" ∧ (parseMethodDescriptor y.desc).map (fun d => d.parameters.length) = some n) (hml : maxL ≤ 20)
    (hn : av.length = n) (hsize : ls.size = 9) (hstack : st0 = av.reverse) (hdg : decode cL_law pc = .ok (.invokestatic idx, 3))
    (kk : ∀ (H1 : Heap) (locs1 : List Loc), rH D E cr [lA cl o g] rw0 (lA0 s) s H1 locs1 → W p l e R s m args below meth c H1 locs1 2000 30000 Q (F0 m (pc + 3) ls [.int k])) : W p l e R s m args below meth c H locs 1000 10000 Q (F0 m pc ls st0) := by
  obtain ⟨f1, f2, f3, f4, f5, f6⟩ := hf
  obtain ⟨r1, r2, r3, r4⟩ := hR
  refine vx_calli (rest := []) (vx_runSX S hM (vx_cwSW n S.2.2.2.2 hT hw f1 f2 hd ⟨by omega, by omega⟩) (l_preS h av) rfl hn hsize (by rw [hstack, List.append_nil]) (Nat.zero_le _) hdg ⟨by omega, by omega⟩) h.2.1 (fun q _ h => h) (fun q h => h) (fun q _ h => h) (fun E9 ce q9 u t H1 locs1 ht1 hvm hpx => hpx.elim) (fun r u t H1 locs1 ht hvm hw1 hB hz hk hS1 => ?_)
  subst hw1
  rw [ht] at hB
  refine W.widen (k := 2000) (n := 30000) (by omega) (by omega) ?_
  obtain ⟨hP, hS, ⟨hK, hKr, hKl⟩, -, hE, hD⟩ := h
  exact kk H1 locs1 ⟨va_P.swap (a := []) (b := rw0) (c := [lA cl o g]) hB, hS1, hKr, hE, l_D g hD, fun q h => h⟩
/-- the reference's method, on its new object -/
theorem l_modelR {km ks kp kt kw kc kpr kwk kq kst ko kr kd : Nat} {y : MethodName} {ws ws' : List Cond} {rm : Room} {cc : ByteArray} {maxL n idx mc ms : Nat} {v k : Int32} {As : List Value} (rest : List Value) (S : CallFix p m c cL_law 9 s args wsL_law RL) (hR : lR R) (h : rH D E cr [lA cl o g] (rW0 E cr km ks kp kt kw kc kpr kwk kq kst ko kr kd) (lA0 s) s H locs) (hM : rMi l y ws rm D E cr [lA cl o g] (rW0 E cr km ks kp kt kw kc kpr kwk kq kst ko kr kd) (lA0 s) (.ref km :: As) v (fun _ : Unit => [(km, .inr (12, [.int k, .ref ks, .ref kp]))]) (fun _ => True) mc ms) (hf : lFit rm mc ms) {ret : Option FieldType} (hT : GoodIn wsL_law (wsV RL idx RX10 y ws)) (hw : ws = Cond.code y cc maxL ret :: ws') (hd : y.cls = RX10 ∧ y.cls ≠ "java/lang/invoke/MethodHandle" ∧ y.cls ≠ "java/lang/invoke/VarHandle" ∧ (parseMethodDescriptor y.desc).map (fun d => d.parameters.length) = some n) (hml : maxL ≤ 20)
    (hn : As.length = n) (hsize : ls.size = 9) (hstack : st0 = As.reverse ++ .ref km :: rest) (hW : 2 * 0 + (rest.map fun v => v.category).sum ≤ 8) (hdg : decode cL_law pc = .ok (.invokevirtual idx, 3))
    (kk : ∀ (H1 : Heap) (locs1 : List Loc), rH D E cr [lA cl o g] [(km, .inr (12, [.int k, .ref ks, .ref kp]))] (lA0 s) s H1 locs1 → W p l e R s m args below meth c H1 locs1 3000 50000 Q (F0 m (pc + 3) ls (.int v :: rest))) : W p l e R s m args below meth c H locs 2000 30000 Q (F0 m pc ls st0) := by
  obtain ⟨f1, f2, f3, f4, f5, f6⟩ := hf
  obtain ⟨r1, r2, r3, r4⟩ := hR
  refine r_calli (X := [lA cl o g]) (wr := []) (rest := rest) S h hM (cwV n S.2.2.2.2 hT hw f1 f2 hd ⟨by omega, by omega⟩) (r_preV h [] [0, 1, 2, 3, 4, 5, 6, 7, 8, 9, 10, 11, 12] (wr := []) (wc := rW0 E cr km ks kp kt kw kc kpr kwk kq kst ko kr kd) rfl rfl rfl 0 rfl rfl _) hn hsize hstack hW hdg ⟨by omega, by omega⟩ (fun u H1 locs1 k1 h1 => ?_)
  refine W.widen (k := 3000) (n := 50000) (by omega) (by omega) ?_
  exact kk H1 locs1 h1
theorem l_model {km ks kp kt kw kc kpr kwk kq kst ko kr kd : Nat} {y : MethodName} {ws ws' : List Cond} {rm : Room} {cc : ByteArray} {maxL n idx mc ms : Nat} {v k : Int32} {As : List Value} (S : CallFix p m c cL_law 9 s args wsL_law RL) (hR : lR R) (h : rH D E cr [lA cl o g] (rW0 E cr km ks kp kt kw kc kpr kwk kq kst ko kr kd) (lA0 s) s H locs) (hM : rMi l y ws rm D E cr [lA cl o g] (rW0 E cr km ks kp kt kw kc kpr kwk kq kst ko kr kd) (lA0 s) (.ref km :: As) v (fun _ : Unit => [(km, .inr (12, [.int k, .ref ks, .ref kp]))]) (fun _ => True) mc ms) (hf : lFit rm mc ms) {ret : Option FieldType} (hT : GoodIn wsL_law (wsV RL idx RX10 y ws)) (hw : ws = Cond.code y cc maxL ret :: ws') (hd : y.cls = RX10 ∧ y.cls ≠ "java/lang/invoke/MethodHandle" ∧ y.cls ≠ "java/lang/invoke/VarHandle" ∧ (parseMethodDescriptor y.desc).map (fun d => d.parameters.length) = some n) (hml : maxL ≤ 20)
    (hn : As.length = n) (hsize : ls.size = 9) (hstack : st0 = As.reverse ++ [.ref km]) (hdg : decode cL_law pc = .ok (.invokevirtual idx, 3))
    (kk : ∀ (H1 : Heap) (locs1 : List Loc), rH D E cr [lA cl o g] [(km, .inr (12, [.int k, .ref ks, .ref kp]))] (lA0 s) s H1 locs1 → W p l e R s m args below meth c H1 locs1 3000 50000 Q (F0 m (pc + 3) ls [.int v])) : W p l e R s m args below meth c H locs 2000 30000 Q (F0 m pc ls st0) :=
  l_modelR [] S hR h hM hf hT hw hd hml hn hsize hstack (Nat.zero_le _) hdg kk
/-- thrown() -/
theorem l_thrown {km ks kp : Nat} {k : Int32} (S : CallFix p m c cL_law 9 s args wsL_law RL) (hR : lR R) (h : rH D E cr [lA cl o g] [(km, .inr (12, [.int k, .ref ks, .ref kp]))] (lA0 s) s H locs) (hsize : ls.size = 9) (hdg : decode cL_law pc = .ok (.invokevirtual 108, 3))
    (kk : ∀ (H1 : Heap) (locs1 : List Loc), rH D E cr [lA cl o g] [(km, .inr (12, [.int k, .ref ks, .ref kp]))] (lA0 s) s H1 locs1 → W p l e R s m args below meth c H1 locs1 3000 50000 Q (F0 m (pc + 3) ls [.int k])) : W p l e R s m args below meth c H locs 3000 50000 Q (F0 m pc ls [.ref km]) := by
  obtain ⟨r1, r2, r3, r4⟩ := hR
  refine r_calli (X := [lA cl o g]) (wr := []) (rest := []) S h (k_thrown l D E cr _ (lA0 s) km ks kp k) (cwV 0 S.2.2.2.2 gL_law_X10_thrown rfl rfl rfl (by decide +kernel) ⟨Nat.le_trans (Nat.le_of_ble_eq_true rfl) r1, Nat.le_trans (Nat.le_of_ble_eq_true rfl) r4⟩) (r_preV h [] [0] (wr := []) (wc := [(km, .inr (12, [.int k, .ref ks, .ref kp]))]) rfl rfl rfl 0 rfl rfl _) rfl hsize rfl (Nat.zero_le _) hdg ⟨by omega, by omega⟩ (fun u H1 locs1 k1 h1 => ?_)
  exact kk H1 locs1 h1
def lTail (q : Nat) (w : Int) : Prop := decode cL_law q = .ok (.istore 6, 2) ∧ decode cL_law (q + 2) = .ok (.aload_n 2, 1) ∧ decode cL_law (q + 3) = .ok (.invokevirtual 108, 3) ∧ decode cL_law (q + 6) = .ok (.iload 5, 2) ∧ decode cL_law (q + 8) = .ok (.if_icmp .eq 5, 3) ∧ decode cL_law (q + 13) = .ok (.iload 5, 2) ∧ decode cL_law (q + 15) = .ok (.ifCond .ne 15, 3) ∧ decode cL_law (q + 18) = .ok (.aload_n 3, 1) ∧ decode cL_law (q + 19) = .ok (.iconst 0, 1) ∧ decode cL_law (q + 20) = .ok (.laload, 1) ∧ decode cL_law (q + 21) = .ok (.iload 6, 2) ∧ decode cL_law (q + 23) = .ok (.i2l, 1) ∧ decode cL_law (q + 24) = .ok (.lcmp, 1) ∧ decode cL_law (q + 25) = .ok (.ifCond .eq 5, 3) ∧ decode cL_law (q + 30) = .ok (.goto w, 3)
/-- where the law goes on: the loop's end -/
def lK (p : Program) (l : Launch) (e : Env) (R : Room) (s : State) (m : MethodId) (args : Array Value) (below : List Frame) (meth : Method) (c : Code) (b : Nat) (Q : State → Prop) : Prop := ∀ (H1 : Heap) (locs1 : List Loc) (ls1 : Array Slot), va_S (lA0 s) s.heap H1 locs1 → lv_has ls1 9 [(4, .int 0), (0, .ref b)] → W p l e R s m args below meth c H1 locs1 3000 50000 Q (F0 m 1870 ls1 [])
/-- what is held of the two answers -/
theorem l_tail {km ks kp : Nat} {k v : Int32} {w : Int} (S : CallFix p m c cL_law 9 s args wsL_law RL) (hR : lR R) (hKl : va_K D vwCl [(cl, .long)] s) (h : rH D E cr [lA cl o g] [(km, .inr (12, [.int k, .ref ks, .ref kp]))] (lA0 s) s H locs) (hl : lv_has ls 9 [(5, .int k), (4, .int 0), (3, .ref o), (2, .ref km), (0, .ref b)]) (hT : lTail pc w) (ht : ((pc + 30 : Nat) : Int) + w = ((1870 : Nat) : Int)) (hk : k = 0 → g 0 = v.toInt64) (K : lK p l e R s m args below meth c b Q) :
    W p l e R s m args below meth c H locs 3000 50000 Q (F0 m pc ls [.int v]) := by
  obtain ⟨d0, d2, d3, d6, d8, d13, d15, d18, d19, d20, d21, d23, d24, d25, d30⟩ := hT
  have hx := S.1
  have hb := S.2.1
  refine lv_istore (lv' := [(6, .int v), (5, .int k), (4, .int 0), (3, .ref o), (2, .ref km), (0, .ref b)]) hx hb d0 hl (by decide) rfl (fun ls hl => ?_)
  refine lv_aload_n hx hb d2 rfl (lv_at hl 4 rfl) ?_
  refine l_thrown S hR h hl.1 d3 (fun H locs h => ?_)
  refine lv_iload hx hb d6 (lv_at hl 1 rfl) ?_
  refine lv_icmp_eq (tgt := pc + 13) hx hb d8 (by omega) (fun _ => ?_) (fun c1 => absurd rfl c1)
  refine lv_iload hx hb d13 (lv_at hl 1 rfl) ?_
  refine lv_if_ne (tgt := pc + 30) hx hb d15 (by omega) (fun _ => ?_) (fun c2 => ?_)
  · exact lv_goto (tgt := 1870) hx hb d30 ht (K _ _ _ h.2.1 (lv_sub hl [2, 5] rfl))
  · refine lv_aload_n hx hb d18 rfl (lv_at hl 3 rfl) ?_
    refine lv_iconst (v := 0) hx hb d19 (by decide) ?_
    refine va_lald hx hb hKl h.1 0 0 rfl rfl (fun q => absurd q (by decide)) d20 ?_
    refine lv_iload hx hb d21 (lv_at hl 0 rfl) ?_
    refine lv_i2l (v := g 0) hx hb d23 (hk c2).symm ?_
    refine l_lcmp hx hb d24 ?_
    refine lv_if_eq (tgt := pc + 30) hx hb d25 (by omega) (fun _ => ?_) (fun c3 => absurd rfl c3)
    exact lv_goto (tgt := 1870) hx hb d30 ht (K _ _ _ h.2.1 (lv_sub hl [2, 5] rfl))
end LW
