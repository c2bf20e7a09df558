/-! THE LAW'S HELPERS: a call of the class in a try; its answer into a long[1], 0; or the number of the exception. -/
abbrev lA (cl : ClassId) (o : Nat) (f : Nat → Int64) : Nat × va_E := (o, .inl (cl, 1, .inr (.inl f)))
def hF (U : State) : Prop := va_Nc xIA xIO U ∧ va_Nc xIS xIO U ∧ va_Nc xIS xIA U
theorem hF.warm {s U : State} (hW : s.WarmedH U.vm) (h : hF s) : hF U := ⟨h.1.moved hW.alike, h.2.1.moved hW.alike, h.2.2.moved hW.alike⟩
theorem hF.moved {s U : State} (hW : s.vm.Alike U.vm) (h : hF s) : hF U := ⟨h.1.moved hW, h.2.1.moved hW, h.2.2.moved hW⟩
def hPc (D : va_G) (L : Nat → Nat) (cy : Nat → ClassId) (cl : ClassId) (X : va_W) (o : Nat) (A : Nat → Prop) (f : Nat → Int64) (st : gSt) (av : List Value) : Array Value → State → Prop := va_Pc av (fun U => va_P D vwCl ((X ++ [lA cl o f]) ++ gW L cy st) U.heap ∧ va_K D vwCl (gty cy) U ∧ gN U ∧ xF A U U.heap ∧ xN U ∧ xT U ∧ va_K D vwCl [(cl, .long)] U ∧ hF U)
theorem hPc_blind (D : va_G) (L : Nat → Nat) (cy : Nat → ClassId) (cl : ClassId) (X : va_W) (o : Nat) (A : Nat → Prop) (f : Nat → Int64) (st : gSt) (av : List Value) : FrameBlind (hPc D L cy cl X o A f st av) := by
  intro a U g mk q
  obtain ⟨q0, qP, qK, qN, qF, qB, qT, qL, qC⟩ := q
  exact ⟨q0, qP, va_K.moved (u := U) (U := U.calling g mk a) (Vm.Alike.refl U.vm) qK, gN.same (s := U) (U := U.calling g mk a) rfl qN, xF.moved (u := U) (U := U.calling g mk a) (Vm.Alike.refl U.vm) qF, xN.same (s := U) (U := U.calling g mk a) rfl qB, xT.same (s := U) (U := U.calling g mk a) rfl qT, va_K.moved (u := U) (U := U.calling g mk a) (Vm.Alike.refl U.vm) qL, hF.moved (s := U) (U := U.calling g mk a) (Vm.Alike.refl U.vm) qC⟩
def hQ (D : va_G) (X : va_W) (cl : ClassId) (o : Nat) (A : Nat → Prop) (k : Int32) (g : Nat → Int64) : Array Value → State → Outcome → State → Prop := va_Qi (fun (q : Int32) (_ : Unit) => q = k) (fun _ t => va_P D vwCl (X ++ [lA cl o g]) t.heap) A
def hX (A : Nat → Prop) : String → State → State → Prop := vx_X (fun _ : Unit => False) (fun _ _ _ => True) A
/-- the helper answers k, and leaves g in the row -/
def hMt (l : Launch) (y : MethodName) (ws : List Cond) (rm : Room) (D : va_G) (L : Nat → Nat) (cy : Nat → ClassId) (cl : ClassId) (X : va_W) (o : Nat) (A : Nat → Prop) (f : Nat → Int64) (st : gSt) (av : List Value) (k : Int32) (g : Nat → Int64) (mc ms : Nat) : Prop :=
  vx_Met l y ws rm (hPc D L cy cl X o A f st av) (hQ D X cl o A k g) (hX A) mc ms A
theorem h_at {X : va_W} {L : Nat → Nat} {cy : Nat → ClassId} {st : gSt} {q : Nat × va_E} : ((X ++ [q]) ++ gW L cy st)[X.length]? = some q := by
  rw [List.getElem?_append_left (by simp)]
  simp
theorem h_set {X : va_W} {L : Nat → Nat} {cy : Nat → ClassId} {st : gSt} {q q' : Nat × va_E} : ((X ++ [q]) ++ gW L cy st).set X.length q' = (X ++ [q']) ++ gW L cy st := by
  rw [List.append_assoc, List.append_assoc, List.set_append_right _ _ (Nat.le_refl _), Nat.sub_self]
  rfl
theorem h_front {D : va_G} {cl : List vw_C} {a b : va_W} {H : Heap} (h : va_P D cl (a ++ b) H) : va_P D cl a H := h.by (fun k => k) (fun k q hk => by
  have hl : k < a.length := by
    rcases Nat.lt_or_ge k a.length with q1 | q1
    · exact q1
    · rw [List.getElem?_eq_none q1] at hk; cases hk
  rw [List.getElem?_append_left hl]
  exact hk)
def hG (D : va_G) (L : Nat → Nat) (cy : Nat → ClassId) (cl : ClassId) (X : va_W) (o : Nat) (A : Nat → Prop) (f : Nat → Int64) (st : gSt) (s : State) (H : Heap) (locs : List Loc) : Prop := xG D L cy (X ++ [lA cl o f]) A st s H locs ∧ va_K D vwCl [(cl, .long)] s ∧ hF s
def hE (p : Program) (m : MethodId) (meth : Method) (c : Code) (cc : ByteArray) (nL : Nat) (s : State) (args : Array Value) (Ts : List Cond) (own : String) (hh : List (Nat × Nat × Nat × Nat)) (D : va_G) (L : Nat → Nat) (cy : Nat → ClassId) (cl : ClassId) (X : va_W) (o : Nat) (A : Nat → Prop) (f : Nat → Int64) (st : gSt) (av : List Value) (ls : Array Slot) : Prop :=
  CallFix p m c cc nL s args Ts own ∧ meth.sig.returnType = some .int ∧ meth.locks = false ∧ c.exceptionTable.toList = tableOf hh ∧ hG D L cy cl X o A f st s s.heap [] ∧ lv_has ls nL (lv_args 0 av)
section HW
variable {p : Program} {l : Launch} {e : Env} {R : Room} {s : State} {m : MethodId} {args : Array Value} {below : List Frame} {meth : Method} {c : Code} {H : Heap} {locs : List Loc} {cells slots : Nat} {Q : State → Prop}
variable {cc : ByteArray} {nL : Nat} {Ts : List Cond} {own : String} {D : va_G} {L : Nat → Nat} {cy : Nat → ClassId} {cl : ClassId} {X : va_W} {o : Nat} {A : Nat → Prop} {f : Nat → Int64} {st : gSt} {pc : Nat} {ls : Array Slot} {rest : List Value} {E : String}
theorem h_entry {y : MethodName} {ws ws' : List Cond} {rm : Room} {cc : ByteArray} {maxL mc ms : Nat} {hh : List (Nat × Nat × Nat × Nat)} {av : List Value} {Qc : Array Value → State → Outcome → State → Prop} {XC : String → State → State → Prop} (hD : va_D A ((X ++ [lA cl o f]) ++ gW L cy st)) (hy : plainName y.cls = true) (hw : ws = Cond.codeWith y cc maxL (some .int) hh :: ws') (hlen : (lg_sl av).length ≤ maxL)
    (body : ∀ (p : Program) (e : Env) (s : State) (m : MethodId) (args : Array Value) (below : List Frame) (meth : Method) (c : Code) (ls : Array Slot), hE p m meth c cc maxL s args ws y.cls hh D L cy cl X o A f st av ls → W p l e rm s m args below meth c s.heap [] 0 0 (vx_MQ below Qc XC args s mc ms A) (F0 m 0 ls [])) :
    vx_Met l y ws rm (hPc D L cy cl X o A f st av) Qc XC mc ms A := by
  refine vx_ofWH (cc := cc) (maxL := maxL) (ret := some .int) (hh := hh) hy hw ?_
  intro p e s m args below meth c s₁ B hml hv
  obtain ⟨rfl, hP, hK, hN, hF, hB, hT, hL, hC⟩ := hv
  have hts := atoms_spec (ws := ws) B.pre
  have hown : s.vm.findClass y.cls = some m.cls := findClass_of_methodNamed B.named
  have htab := vx_table (x := y) B (hts (Cond.codeWith y cc maxL (some .int) hh) (by rw [hw]; exact List.mem_cons_self))
  rw [lg_entry_eq]
  exact body p e s m _ below meth c _ ⟨⟨B.exec, B.bytes, hml, hown, hts⟩, B.returns, B.notSynchronized, htab, ⟨⟨⟨hP, va_S.rf, hK, hN, fun st' => gW_D hD st'⟩, hF, hB, hT⟩, hL, hC⟩, lv_entry av hlen⟩
/-- the answer into the row -/
theorem h_put {st' : gSt} (hx : p.tables.exec = Jvm.exec) (hb : c.code = cc) (hL : va_K D vwCl [(cl, .long)] s) (h : gH D L cy (X ++ [lA cl o f]) A st' s H locs) {v : Int64} (hdg : decode cc pc = .ok (.lastore, 1))
    (kk : ∀ (H1 : Heap) (locs1 : List Loc), va_P D vwCl (X ++ [lA cl o (vp_updL f 0 v)]) H1 → va_S A s.heap H1 locs1 → W p l e R s m args below meth c H1 locs1 cells slots Q (F0 m (pc + 1) ls rest)) : W p l e R s m args below meth c H locs cells slots Q (F0 m pc ls (.long v :: .int 0 :: .ref o :: rest)) := by
  obtain ⟨hP, hS, hK, hN, hD⟩ := h
  refine va_last hx hb hL hP (hD st') hS X.length 0 h_at rfl (fun q => absurd q (by decide)) hdg (fun H1 locs1 hP1 hD1 hS1 => ?_)
  rw [h_set] at hP1
  exact kk H1 locs1 (h_front hP1) hS1
theorem h_ret {XC : String → State → State → Prop} {g : Nat → Int64} {v k : Int32} (hx : p.tables.exec = Jvm.exec) (hb : c.code = cc) (hr : meth.sig.returnType = some .int) (hlocks : meth.locks = false) (hP : va_P D vwCl (X ++ [lA cl o g]) H) (hS : va_S A s.heap H locs) (hv : v = k) (hdg : decode cc pc = .ok (.ireturn, 1)) :
    W p l e R s m args below meth c H locs cells slots (vx_MQ below (hQ D X cl o A k g) XC args s cells slots A) (F0 m pc ls [.int v]) := by
  refine vx_ret ?_
  exact W.zret hx hb hr rfl (fun t ht hW => ⟨⟨v, (), rfl, hv, by show va_P D vwCl (X ++ [lA cl o g]) t.heap; rw [ht]; exact hP⟩, hS.F ht⟩) hS.2.2 hdg hlocks
section calls
variable {y : MethodName} {bytes : ByteArray} {maxL n idx mc ms : Nat} {ret : Option FieldType} {ws : List Cond} {rm : Room} {C : String} {As : List Value} {i : Nat} {st0 : List Value}
/-- a call that throws, caught here -/
theorem h_callx {Y : va_W} (S : CallFix p m c cc nL s args Ts own) (h : xG D L cy Y A st s H locs) (hM : xMi l y ws rm D L cy Y A (.ref (L i) :: As) st E) (cw : CallW R s args own C idx y bytes maxL ret ws rm 1 6 n) (hp : PreV s H C (L i) (xPc D L cy Y A st (.ref (L i) :: As)) As)
    (hn : As.length = n) (hsize : ls.size = nL) (hstack : st0 = As.reverse ++ .ref (L i) :: rest) (hW : 2 * 0 + (rest.map fun v => v.category).sum ≤ 8) (hdg : decode cc pc = .ok (.invokevirtual idx, 3)) (hf : cells + 1 ≤ R.cells ∧ slots + 6 ≤ R.slots)
    (pre : List ExceptionTableEntry) (x : ExceptionTableEntry) (suf : List ExceptionTableEntry) (hsplit : c.exceptionTable.toList = pre ++ x :: suf)
    (hpass : ∀ z ∈ pre, covers z pc = false ∨ (z.catchType ≠ 0 ∧ ∃ nm : String, (Cond.classLink own z.catchType nm).before args s = true ∧ va_Nc E nm s)) (hcov : covers x pc = true) (h0 : x.catchType ≠ 0)
    (hlink : (Cond.classLink own x.catchType E).before args s = true) (hcast : Cond.castable E E ∈ xB)
    (kk : ∀ (q : Nat) (H1 : Heap) (locs1 : List Loc), va_P D vwCl (Y ++ gW L cy st) H1 → va_S A s.heap H1 locs1 → W p l e R s m args below meth c H1 locs1 (cells + 1) (slots + 6) Q (F0 m x.handlerPc ls [.ref q])) :
    W p l e R s m args below meth c H locs cells slots Q (F0 m pc ls st0) := by
  refine vx_calli (vx_runV S hM cw hp rfl hn hsize hstack hW hdg hf) h.1.2.1 (fun q _ h => h) (fun q h => h) (fun q _ h => h) (fun E9 ce q9 u t H1 locs1 ht1 hvm hpx hB hz hk hS1 hq9 hce hcl => ?_) (fun r u t H1 locs1 ht1 hvm hw => hw.elim)
  obtain ⟨hE, hP1⟩ := hB
  subst hE
  rw [ht1] at hP1
  exact vx_catch S.2.2.2.1 pre x suf hsplit hpass hcov h0 hlink (va_Nw.use (xB_ot _ hcast) (h.2.2.1 _ hcast)) hq9 hce hcl (kk q9 H1 locs1 hP1 hS1)
end calls
end HW
