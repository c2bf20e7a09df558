/-! CALLS THAT THROW: the world as it was, the exception's class by its name. -/
abbrev xIS : String := "java/lang/IllegalStateException"
abbrev xIO : String := "java/lang/IndexOutOfBoundsException"
abbrev xIA : String := "java/lang/IllegalArgumentException"
abbrev xNm : List String := ["java/lang/RuntimeException", "java/lang/Exception"]
def xB : List Cond := [.castable xIS xIS, .castable xIO xIO, .castable xIA xIA, .declares (Bundle.initS "java/lang/RuntimeException"), .declares (Bundle.initS "java/lang/Exception"), .declares (Bundle.initS Bundle.tN)]
theorem xB_ot : ∀ w ∈ xB, w.onTables = true := by decide +kernel
def xN (U : State) : Prop := ∀ w ∈ xB, va_Nw w U
theorem xN.warm {s U : State} (hW : s.WarmedH U.vm) (h : xN s) : xN U := by
  intro w hw
  have h1 := h w hw
  simp only [xB, List.mem_cons, List.not_mem_nil, or_false] at hw
  rcases hw with rfl | rfl | rfl | rfl | rfl | rfl
  · exact va_Nw.warmC hW h1
  · exact va_Nw.warmC hW h1
  · exact va_Nw.warmC hW h1
  · exact va_Nw.warmD hW h1
  · exact va_Nw.warmD hW h1
  · exact va_Nw.warmD hW h1
theorem xN.same {s U : State} (hv : s.vm = U.vm) (h : xN s) : xN U := fun w hw => va_Nw.same (xB_ot w hw) hv (h w hw)
def xSt : List (Nat × String) := [(34, "there are 8 jobs"), (53, "no such step"), (65, "there are 12 steps"), (71, "there is a task of the job"), (82, "a worker that would be gone has a task"), (93, "no such theft"), (102, "a task is on a stack"), (110, "there are 24 tasks"), (128, "the task is over"), (141, "number is not -999 to 999"), (146, "ticks is not 1 to 40"), (209, "no such place"), (215, "what is not 0 to 2"), (226, "back is not 1 to 20"), (316, "no such job"), (318, "no such task"), (320, "no such worker"), (325, "no such promise"), (327, "workers is not 1 to 5"), (329, "no such way"), (331, "ticks is not 1 to 60")]
def xT (U : State) : Prop := ∀ q ∈ xSt, ∃ sa : Nat, vk_R RX6 q.1 q.2 sa U
theorem xT.warm {s U : State} (hW : s.WarmedH U.vm) (h : xT s) : xT U := fun q hq => by
  obtain ⟨sa, h1⟩ := h q hq
  exact ⟨sa, vk_R.warm hW h1⟩
theorem xT.same {s U : State} (hv : s.vm = U.vm) (h : xT s) : xT U := fun q hq => by
  obtain ⟨sa, h1⟩ := h q hq
  exact ⟨sa, vk_R.same hv.symm h1⟩
def xF (A : Nat → Prop) (U : State) (H : Heap) : Prop := vx_Zq Bundle.tN "UNASSIGNED_STACK" Bundle.steD A U H ∧ vx_Zq Bundle.tN "SUPPRESSED_SENTINEL" Bundle.listD A U H
theorem xF.moved {A : Nat → Prop} {u U : State} {H : Heap} (hvm : u.vm.Alike U.vm) (h : xF A u H) : xF A U H := ⟨vx_Zq.moved hvm h.1, vx_Zq.moved hvm h.2⟩
theorem xF.kept {A : Nat → Prop} {U : State} {H H1 : Heap} (h : xF A U H) (hq : ∀ a : Nat, a < H.size → ¬ A a → H1[a]? = H[a]?) : xF A U H1 := ⟨h.1.kept hq, h.2.kept hq⟩
def xG (D : va_G) (L : Nat → Nat) (cy : Nat → ClassId) (X : va_W) (A : Nat → Prop) (st : gSt) (s : State) (H : Heap) (locs : List Loc) : Prop := gH D L cy X A st s H locs ∧ xF A s s.heap ∧ xN s ∧ xT s
def xPc (D : va_G) (L : Nat → Nat) (cy : Nat → ClassId) (X : va_W) (A : Nat → Prop) (st : gSt) (av : List Value) : Array Value → State → Prop := va_Pc av (fun U => va_P D vwCl (X ++ gW L cy st) U.heap ∧ va_K D vwCl (gty cy) U ∧ gN U ∧ xF A U U.heap ∧ xN U ∧ xT U)
theorem xPc_blind (D : va_G) (L : Nat → Nat) (cy : Nat → ClassId) (X : va_W) (A : Nat → Prop) (st : gSt) (av : List Value) : FrameBlind (xPc D L cy X A st av) := by
  intro a U g mk q
  obtain ⟨q0, qP, qK, qN, qF, qB, qT⟩ := q
  exact ⟨q0, qP, va_K.moved (u := U) (U := U.calling g mk a) (Vm.Alike.refl U.vm) qK, gN.same (s := U) (U := U.calling g mk a) rfl qN, xF.moved (u := U) (U := U.calling g mk a) (Vm.Alike.refl U.vm) qF, xN.same (s := U) (U := U.calling g mk a) rfl qB, xT.same (s := U) (U := U.calling g mk a) rfl qT⟩
def xX (D : va_G) (L : Nat → Nat) (cy : Nat → ClassId) (X : va_W) (A : Nat → Prop) (st : gSt) (E : String) : String → State → State → Prop := vx_X (fun _ : Unit => True) (fun E' _ t => E' = E ∧ va_P D vwCl (X ++ gW L cy st) t.heap) A
/-- the method throws an E (and never returns) -/
def xMv (l : Launch) (y : MethodName) (ws : List Cond) (rm : Room) (D : va_G) (L : Nat → Nat) (cy : Nat → ClassId) (X : va_W) (A : Nat → Prop) (av : List Value) (st : gSt) (E : String) : Prop :=
  vx_Met l y ws rm (xPc D L cy X A st av) (va_Qv (fun _ : Unit => False) (fun _ _ => True) A) (xX D L cy X A st E) 1 6 A
def xMi (l : Launch) (y : MethodName) (ws : List Cond) (rm : Room) (D : va_G) (L : Nat → Nat) (cy : Nat → ClassId) (X : va_W) (A : Nat → Prop) (av : List Value) (st : gSt) (E : String) : Prop :=
  vx_Met l y ws rm (xPc D L cy X A st av) (va_Qi (fun (_ : Int32) (_ : Unit) => False) (fun _ _ => True) A) (xX D L cy X A st E) 1 6 A
section XW
variable {p : Program} {l : Launch} {e : Env} {R : Room} {s : State} {m : MethodId} {args : Array Value} {below : List Frame} {meth : Method} {c : Code} {H : Heap} {locs : List Loc} {cells slots : Nat} {Q : State → Prop}
variable {cc : ByteArray} {nL : Nat} {Ts : List Cond} {own : String} {D : va_G} {L : Nat → Nat} {cy : Nat → ClassId} {X : va_W} {A : Nat → Prop} {st : gSt} {pc : Nat} {ls : Array Slot} {rest : List Value} {E : String}
theorem xG.to (h : xG D L cy X A st s H locs) {H1 : Heap} {locs1 : List Loc} {st' : gSt} (h1 : gH D L cy X A st' s H1 locs1) : xG D L cy X A st' s H1 locs1 := ⟨h1, h.2⟩
theorem xX.of (h : xG D L cy X A st s H locs) {t : State} (hz : H.size ≤ t.heap.size) (hk : ∀ q : Nat, q < H.size → t.heap[q]? = H[q]?) : xX D L cy X A st E E s t := by
  obtain ⟨⟨hP, hS, -⟩, -⟩ := h
  refine ⟨(), trivial, ⟨rfl, hP.kept (fun k q hq => hk q.1 (vx_lt hP hq))⟩, Nat.le_trans hS.1 hz, fun q h1 h2 => ?_⟩
  rw [hk q (Nat.lt_of_lt_of_le h1 hS.1)]
  exact hS.2.1 q h1 h2
theorem x_hat (hts : ∀ w ∈ Ts, w.before args s = true) (hN : xN s) {ic : Nat} {cls : String} (hg : ∀ w ∈ (vx_atS RX6 ic cls xNm).filter goodWord, w ∈ Ts) (hb : ∀ w ∈ (vx_atS RX6 ic cls xNm).filter (fun w => !goodWord w), w ∈ xB) : ∀ w ∈ vx_atS RX6 ic cls xNm, w.before args s = true :=
  vx_hat (fun w h => hts w (hg w h)) hb (fun w h => va_Nw.use (xB_ot w h) (hN w h))
theorem x_throwS {Qc : Array Value → State → Outcome → State → Prop} (S : CallFix p m c cc nL s args Ts RX6) (hl0 : l.stackTraces = false) (ht : ∀ x ∈ c.exceptionTable.toList, False) (h : xG D L cy X A st s H locs) {text : String} {ik is ic mc ms : Nat} (hcls : Bundle.fit E = true) (hq : (is, text) ∈ xSt) (hk : Cond.classLink RX6 ik E ∈ Ts) (hini : Cond.initialized E ∈ Ts) (hg : ∀ w ∈ (vx_atS RX6 ic E xNm).filter goodWord, w ∈ Ts) (hb2 : ∀ w ∈ (vx_atS RX6 ic E xNm).filter (fun w => !goodWord w), w ∈ xB) (hgood : ∀ w ∈ Cond.classLink RX6 ik E :: Cond.initialized E :: vx_atS RX6 ic E xNm, vx_ot w = true) (hsize : ls.size = nL)
    (d0 : decode cc pc = .ok (.new ik, 3)) (d3 : decode cc (pc + 3) = .ok (.dup, 1)) (d4 : decode cc (pc + 4) = .ok (.ldc is, 2)) (d6 : decode cc (pc + 6) = .ok (.invokespecial ic, 3)) (d9 : decode cc (pc + 9) = .ok (.athrow, 1))
    (hRf : 5 < R.frames) (hRl : (rest.map fun v => v.category).sum + 82 ≤ R.locals) (hRc : cells + 1 ≤ R.cells) (hRs : slots + 6 ≤ R.slots) (hlocks : meth.locks = false) (hc : cells + 1 ≤ mc) (hs : slots + 6 ≤ ms) :
    W p l e R s m args below meth c H locs cells slots (vx_MQ below Qc (xX D L cy X A st E) args s mc ms A) (F0 m pc ls rest) := by
  obtain ⟨hx, hb, hml, hown, hts⟩ := S
  obtain ⟨sa, hstr⟩ := h.2.2.2 _ hq
  exact vx_throwS hx hb hl0 hown hcls (by decide +kernel) (hts _ hk) (hts _ hini) hstr (x_hat hts h.2.2.1 hg hb2) hgood h.2.1.1 h.2.1.2 h.1.2.1 (hsize.trans hml.symm) d0 d3 d4 d6 d9 (fun x hx => (ht x hx).elim) hRf hRl hRc hRs hlocks (fun t _ hz hk => xX.of h hz hk) h.1.2.1.2.2 hc hs
theorem x_throwSW {Qc : Array Value → State → Outcome → State → Prop} (S : CallFix p m c cc nL s args Ts RX6) (hl0 : l.stackTraces = false) (ht : ∀ x ∈ c.exceptionTable.toList, False) (h : xG D L cy X A st s H locs) {text : String} {ik is ic mc ms : Nat} (hcls : Bundle.fit E = true) (hq : (is, text) ∈ xSt) (hk : Cond.classLink RX6 ik E ∈ Ts) (hini : Cond.initialized E ∈ Ts) (hg : ∀ w ∈ (vx_atS RX6 ic E xNm).filter goodWord, w ∈ Ts) (hb2 : ∀ w ∈ (vx_atS RX6 ic E xNm).filter (fun w => !goodWord w), w ∈ xB) (hgood : ∀ w ∈ Cond.classLink RX6 ik E :: Cond.initialized E :: vx_atS RX6 ic E xNm, vx_ot w = true) (hsize : ls.size = nL)
    (d0 : decode cc pc = .ok (.new ik, 3)) (d3 : decode cc (pc + 3) = .ok (.dup, 1)) (d4 : decode cc (pc + 4) = .ok (.ldc_w is, 3)) (d7 : decode cc (pc + 7) = .ok (.invokespecial ic, 3)) (d10 : decode cc (pc + 10) = .ok (.athrow, 1))
    (hRf : 5 < R.frames) (hRl : (rest.map fun v => v.category).sum + 82 ≤ R.locals) (hRc : cells + 1 ≤ R.cells) (hRs : slots + 6 ≤ R.slots) (hlocks : meth.locks = false) (hc : cells + 1 ≤ mc) (hs : slots + 6 ≤ ms) :
    W p l e R s m args below meth c H locs cells slots (vx_MQ below Qc (xX D L cy X A st E) args s mc ms A) (F0 m pc ls rest) := by
  obtain ⟨hx, hb, hml, hown, hts⟩ := S
  obtain ⟨sa, hstr⟩ := h.2.2.2 _ hq
  exact vx_throwSW hx hb hl0 hown hcls (by decide +kernel) (hts _ hk) (hts _ hini) hstr (x_hat hts h.2.2.1 hg hb2) hgood h.2.1.1 h.2.1.2 h.1.2.1 (hsize.trans hml.symm) d0 d3 d4 d7 d10 (fun x hx => (ht x hx).elim) hRf hRl hRc hRs hlocks (fun t _ hz hk => xX.of h hz hk) h.1.2.1.2.2 hc hs
theorem x_preS (h : xG D L cy X A st s H locs) (As : List Value) : PreS s H (xPc D L cy X A st As) As := by
  obtain ⟨⟨hP, hS, hK, hN, hD⟩, hF, hB, hT⟩ := h
  exact ⟨xPc_blind D L cy X A st _, fun U hU hW => ⟨rfl, by rw [hU]; exact hP, va_K.moved hW.alike hK, gN.warm hW hN, by rw [hU]; exact xF.moved hW.alike (hF.kept hS.2.1), hB.warm hW, hT.warm hW⟩⟩
theorem x_pre (h : xG D L cy X A st s H locs) {i κ ci : Nat} {C : String} {T : u_T} {N : Nat} {fs : List Value} (hκ : gkd i = κ) (h9 : κ < 14) (hfs : gce κ L cy i (st i) = .inr (ci, fs)) (hc : vwCl[ci]? = some (C, T, N)) (As : List Value) : PreV s H C (L i) (xPc D L cy X A st (.ref (L i) :: As)) As := by
  obtain ⟨p1, p2⟩ := x_preS h (.ref (L i) :: As)
  obtain ⟨q1, q2, q3⟩ := g_pre h.1 hκ h9 hfs hc As
  exact ⟨p1, q2, p2⟩
section calls
variable {y : MethodName} {bytes : ByteArray} {maxL n idx mc ms : Nat} {ret : Option FieldType} {ws : List Cond} {rm : Room} {C : String} {As : List Value} {i : Nat} {st0 : List Value} {Qc : Array Value → State → Outcome → State → Prop}
/-- a callee that throws, no handler here -/
theorem x_callv (S : CallFix p m c cc nL s args Ts own) (ht : ∀ x ∈ c.exceptionTable.toList, False) (h : xG D L cy X A st s H locs) (hM : xMv l y ws rm D L cy X A (.ref (L i) :: As) st E) (cw : CallW R s args own C idx y bytes maxL ret ws rm 1 6 n) (hp : PreV s H C (L i) (xPc D L cy X A st (.ref (L i) :: As)) As)
    (hn : As.length = n) (hsize : ls.size = nL) (hstack : st0 = As.reverse ++ .ref (L i) :: rest) (hW : 2 * 0 + (rest.map fun v => v.category).sum ≤ 8) (hdg : decode cc pc = .ok (.invokevirtual idx, 3)) (hf : cells + 1 ≤ R.cells ∧ slots + 6 ≤ R.slots) (hlocks : meth.locks = false) (hc : cells + 1 ≤ mc) (hs : slots + 6 ≤ ms) :
    W p l e R s m args below meth c H locs cells slots (vx_MQ below Qc (xX D L cy X A st E) args s mc ms A) (F0 m pc ls st0) := by
  refine vx_callv (vx_runV S hM cw hp rfl hn hsize hstack hW hdg hf) h.1.2.1 (fun q _ h => h) (fun q h => h) (fun q _ h => h) (fun E9 ce q9 u t H1 locs1 ht1 hvm hpx hB hz hk hS1 hq9 hce hcl => ?_) (fun u t H1 locs1 ht1 hvm hw => hw.elim)
  obtain ⟨hE, hP1⟩ := hB
  subst hE
  rw [ht1] at hP1
  exact vx_out (fun x hx => (ht x hx).elim) hlocks hq9 hce hcl (fun t2 ht2 _ => ⟨(), trivial, ⟨rfl, by rw [ht2]; exact hP1⟩, hS1.F ht2⟩) hS1.2.2 hc hs
theorem x_callvS (S : CallFix p m c cc nL s args Ts own) (ht : ∀ x ∈ c.exceptionTable.toList, False) (h : xG D L cy X A st s H locs) (hM : xMv l y ws rm D L cy X A As st E) (cw : CallB R s args own idx y bytes maxL ret ws rm 1 6 n ∧ (Cond.static y).before args s = true)
    (hn : As.length = n) (hsize : ls.size = nL) (hstack : st0 = As.reverse ++ rest) (hW : 2 * 0 + (rest.map fun v => v.category).sum ≤ 8) (hdg : decode cc pc = .ok (.invokestatic idx, 3)) (hf : cells + 1 ≤ R.cells ∧ slots + 6 ≤ R.slots) (hlocks : meth.locks = false) (hc : cells + 1 ≤ mc) (hs : slots + 6 ≤ ms) :
    W p l e R s m args below meth c H locs cells slots (vx_MQ below Qc (xX D L cy X A st E) args s mc ms A) (F0 m pc ls st0) := by
  refine vx_callv (vx_runS S hM cw (x_preS h As) rfl hn hsize hstack hW hdg hf) h.1.2.1 (fun q _ h => h) (fun q h => h) (fun q _ h => h) (fun E9 ce q9 u t H1 locs1 ht1 hvm hpx hB hz hk hS1 hq9 hce hcl => ?_) (fun u t H1 locs1 ht1 hvm hw => hw.elim)
  obtain ⟨hE, hP1⟩ := hB
  subst hE
  rw [ht1] at hP1
  exact vx_out (fun x hx => (ht x hx).elim) hlocks hq9 hce hcl (fun t2 ht2 _ => ⟨(), trivial, ⟨rfl, by rw [ht2]; exact hP1⟩, hS1.F ht2⟩) hS1.2.2 hc hs
end calls
/-- the entry -/
def xE (p : Program) (m : MethodId) (meth : Method) (c : Code) (cc : ByteArray) (nL : Nat) (s : State) (args : Array Value) (Ts : List Cond) (own : String) (ret : Option FieldType) (D : va_G) (L : Nat → Nat) (cy : Nat → ClassId) (X : va_W) (A : Nat → Prop) (st : gSt) (av : List Value) (ls : Array Slot) : Prop :=
  CallFix p m c cc nL s args Ts own ∧ meth.sig.returnType = ret ∧ meth.locks = false ∧ (∀ x ∈ c.exceptionTable.toList, False) ∧ xG D L cy X A st s s.heap [] ∧ lv_has ls nL (lv_args 0 av)
theorem x_entry {y : MethodName} {ws ws' : List Cond} {rm : Room} {cc : ByteArray} {maxL mc ms : Nat} {ret : Option FieldType} {av : List Value} {Qc : Array Value → State → Outcome → State → Prop} {XC : String → State → State → Prop} (hD : va_D A (X ++ gW L cy st)) (hy : plainName y.cls = true) (hw : ws = Cond.code y cc maxL ret :: ws') (hlen : (lg_sl av).length ≤ maxL)
    (body : ∀ (p : Program) (e : Env) (s : State) (m : MethodId) (args : Array Value) (below : List Frame) (meth : Method) (c : Code) (ls : Array Slot), xE p m meth c cc maxL s args ws y.cls ret D L cy X A st av ls → W p l e rm s m args below meth c s.heap [] 0 0 (vx_MQ below Qc XC args s mc ms A) (F0 m 0 ls [])) :
    vx_Met l y ws rm (xPc D L cy X A st av) Qc XC mc ms A := by
  refine vx_ofW (cc := cc) (maxL := maxL) (ret := ret) hy hw ?_
  intro p e s m args below meth c s₁ B hml ht hv
  obtain ⟨rfl, hP, hK, hN, hF, hB, hT⟩ := hv
  have hts := atoms_spec (ws := ws) B.pre
  have hown : s.vm.findClass y.cls = some m.cls := findClass_of_methodNamed B.named
  rw [lg_entry_eq]
  exact body p e s m _ below meth c _ ⟨⟨B.exec, B.bytes, hml, hown, hts⟩, B.returns, B.notSynchronized, ht, ⟨⟨hP, va_S.rf, hK, hN, fun st' => gW_D hD st'⟩, hF, hB, hT⟩, lv_entry av hlen⟩
end XW
