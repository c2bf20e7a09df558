/-! ROWS OF ROWS: arrays whose places hold arrays. -/
theorem as_self (vm : Vm) (c : ClassId) : vm.assignable c c = true := by
  first | (show vm.assignableAux (255 + 1) c c = true; rw [Vm.assignableAux]; simp only [beq_self_eq_true, Bool.true_or]) | (show vm.assignableAux _ c c = true; unfold Vm.assignableAux; simp)
theorem aoA.moved {t : FieldType} {u U : State} (hvm : u.vm.Alike U.vm) (h : aoA t u) : aoA t U := by
  obtain ⟨comp, c, k, h1, h2, h3, h4, h5⟩ := arrayOverA_spec h
  obtain ⟨k', hk', he⟩ := hvm.2.2 _ _ h3
  have hi : (U.vm.classes.findIdx? fun (x : Class) => match x.kind with | .array component _ => component == comp | _ => false) = some c := by
    rw [hvm.findIdx?_eq _ (fun _ => rfl)]
    exact h2
  have hkind : k'.kind = .array comp (.array t) := by rw [he]; exact h4
  have f1 : U.vm.findClass (FieldType.array t).toString = some comp := by rw [hvm.findClass]; exact h1
  have f2 : U.vm.findClass ("[" ++ (FieldType.array t).toString) = some c := by rw [hvm.findClass]; exact h5
  unfold aoA Cond.before Cond.holds
  simp only [Cond.value]
  rw [f1, Option.bind_some]
  refine (congrArg (fun o : Option Nat => (o.bind (fun c => (U.vm.classes[c]?).map fun (k : Class) => match k.kind with | .array _ ty => decide (ty = FieldType.array t) && decide (U.vm.findClass ("[" ++ (FieldType.array t).toString) = some c) | _ => false) == some true)) hi).trans ?_
  simp [hk', hkind, f2]
/-- what jobs needs of the tables beside its words -/
def jX (U : State) : Prop := (Cond.classLink RL 9 "[[I").before #[] U = true ∧ aoA .int U ∧ aoA (.array .int) U
theorem jX.warm {s U : State} (hW : s.WarmedH U.vm) (h : jX s) : jX U := ⟨word_at hW (good_of_word (by decide)) h.1, aoA.moved hW.alike h.2.1, aoA.moved hW.alike h.2.2⟩
theorem jX.same {s U : State} (hal : s.vm.Alike U.vm) (hv : s.vm = U.vm) (h : jX s) : jX U := ⟨va_tabs (by decide) hv h.1, aoA.moved hal h.2.1, aoA.moved hal h.2.2⟩
def jPc (D : va_G) (L : Nat → Nat) (cy : Nat → ClassId) (X : va_W) (A : Nat → Prop) (st : gSt) (b Lb : Nat) (xs : Nat → Int32) (av : List Value) : Array Value → State → Prop := va_Pc av (fun U => (va_P D vwCl (X ++ gW L cy st) U.heap ∧ va_K D vwCl (gty cy) U ∧ gN U ∧ (∀ q, U.heap.size ≤ q → A q) ∧ scr b Lb xs A U) ∧ jX U)
theorem jPc_blind (D : va_G) (L : Nat → Nat) (cy : Nat → ClassId) (X : va_W) (A : Nat → Prop) (st : gSt) (b Lb : Nat) (xs : Nat → Int32) (av : List Value) : FrameBlind (jPc D L cy X A st b Lb xs av) := by
  intro a U g mk q
  obtain ⟨q0, ⟨qP, qK, qN, qA, qX⟩, qJ⟩ := q
  exact ⟨q0, ⟨qP, va_K.moved (u := U) (U := U.calling g mk a) (Vm.Alike.refl U.vm) qK, gN.same (s := U) (U := U.calling g mk a) rfl qN, qA, ⟨va_X.moved (u := U) (U := U.calling g mk a) (Vm.Alike.refl U.vm) qX.1, qX.2⟩⟩, jX.same (s := U) (U := U.calling g mk a) (Vm.Alike.refl U.vm) rfl qJ⟩
/-- the class of a row of rows -/
def aC (s : State) (cA : ClassId) (t : FieldType) : Prop := ∃ (kA : Class) (comp : ClassId), s.vm.classes[cA]? = some kA ∧ kA.kind = .array comp (.array t) ∧ s.vm.findClass (FieldType.array t).toString = some comp
section LA
variable {p : Program} {l : Launch} {e : Env} {R : Room} {s : State} {m : MethodId} {args : Array Value} {below : List Frame} {meth : Method} {c : Code} {H : Heap} {locs : List Loc} {cells slots : Nat} {Q : State → Prop}
variable {cc : ByteArray} {nL : Nat} {Ts : List Cond} {own : String} {D : va_G} {L : Nat → Nat} {cy : Nat → ClassId} {X : va_W} {A : Nat → Prop} {st st' : gSt} {pc : Nat} {ls : Array Slot} {rest : List Value} {b Lb : Nat} {xs : Nat → Int32}
def jB (p : Program) (m : MethodId) (meth : Method) (c : Code) (cc : ByteArray) (nL : Nat) (s : State) (args : Array Value) (Ts : List Cond) (own : String) (ret : Option FieldType) (D : va_G) (L : Nat → Nat) (cy : Nat → ClassId) (X : va_W) (A : Nat → Prop) (st : gSt) (b Lb : Nat) (xs : Nat → Int32) (av : List Value) (ls : Array Slot) : Prop :=
  sB p m meth c cc nL s args Ts own ret D L cy X A st b Lb xs av ls ∧ jX s
theorem j_entry {y : MethodName} {ws ws' : List Cond} {rm : Room} {cc : ByteArray} {maxL mc ms : Nat} {ret : Option FieldType} {av : List Value} {Qc : Array Value → State → Outcome → State → Prop} (hD : va_D A (X ++ gW L cy st)) (hy : plainName y.cls = true) (hw : ws = Cond.code y cc maxL ret :: ws') (hlen : (lg_sl av).length ≤ maxL)
    (body : ∀ (p : Program) (e : Env) (s : State) (m : MethodId) (args : Array Value) (below : List Frame) (meth : Method) (c : Code) (ls : Array Slot), jB p m meth c cc maxL s args ws y.cls ret D L cy X A st b Lb xs av ls → W p l e rm s m args below meth c s.heap [] 0 0 (MQ below Qc args s mc ms A) (F0 m 0 ls [])) :
    Met l y ws rm (jPc D L cy X A st b Lb xs av) Qc mc ms A := by
  refine Met.ofW (cc := cc) (maxL := maxL) (ret := ret) hy hw ?_
  intro p e s m args below meth c s₁ B hml hv
  obtain ⟨rfl, ⟨hP, hK, hN, hA, hX⟩, hJ⟩ := hv
  have hts := atoms_spec (ws := ws) B.pre
  have hown : s.vm.findClass y.cls = some m.cls := findClass_of_methodNamed B.named
  rw [lg_entry_eq]
  exact body p e s m _ below meth c _ ⟨⟨⟨B.exec, B.bytes, hml, hown, hts⟩, B.returns, B.notSynchronized, ⟨hP, va_S.rf, hK, hN, fun st' => gW_D hD st'⟩, lv_entry av hlen, hA, hX⟩, hJ⟩
theorem j_preS (h : gH D L cy X A st s H locs) (hA : ∀ q, s.heap.size ≤ q → A q) (hX : scr b Lb xs A s) (hJ : jX s) (As : List Value) : PreS s H (jPc D L cy X A st b Lb xs As) As := by
  obtain ⟨-, h2⟩ := s_preS h hA hX As
  refine ⟨jPc_blind D L cy X A st b Lb xs _, fun U hU hW => ?_⟩
  obtain ⟨q0, q⟩ := h2 U hU hW
  exact ⟨q0, q, jX.warm hW hJ⟩
/-- a row of rows is made; it lies ahead -/
theorem s_newA (S : CallFix p m c cc nL s args Ts own) (h : gH D L cy X A st s H locs) (hA : ∀ q, s.heap.size ≤ q → A q) {t : FieldType} {idx : Nat} (h1 : (Cond.classLink own idx (FieldType.array t).toString).before args s = true) (h2 : aoA t s) {n : Int32} {N : Nat} (hn : ¬ n < 0) (hN : n.toNatClampNeg = N) (hby : N * 4 ≤ 536870912) (hcells : cells + 1 ≤ R.cells) (hslots : slots + N ≤ R.slots) (hdg : decode cc pc = .ok (.anewarray idx, 3))
    (kk : ∀ (q : Nat) (cA : ClassId) (H1 : Heap), aC s cA t → s.vm.findClass ("[" ++ (FieldType.array t).toString) = some cA → gH D L cy ((q, .inl (cA, N, .inr (.inr (.inr (.inr (fun _ => none)))))) :: X) A st s H1 locs → W p l e R s m args below meth c H1 locs (cells + 1) (slots + N) Q (F0 m (pc + 3) ls (.ref q :: rest))) : W p l e R s m args below meth c H locs cells slots Q (F0 m pc ls (.int n :: rest)) := by
  subst hN
  obtain ⟨hx, hb, -, hown, hts⟩ := S
  obtain ⟨hP, hS, hK, hN2, hD⟩ := h
  refine W.anewA hx hb hown h1 h2 rfl hdg rfl hn hby hcells hslots fun cA kA comp f1 f2 f3 f4 => ?_
  generalize hH1 : H.push ({ cls := cA, slots := Array.replicate n.toNatClampNeg .null, vm := .none } : Cell) = H1
  have z1 : H1.size = H.size + 1 := by rw [← hH1, Array.size_push]
  have e1 : H1[H.size]? = some (arrV cA n.toNatClampNeg (fun _ => .null)) := by rw [← hH1, Array.getElem?_push_size, ← arrV_new]
  have o1 : ∀ q : Nat, q < H.size → H1[q]? = H[q]? := fun q hq => by rw [← hH1, Array.getElem?_push, if_neg (Nat.ne_of_lt hq)]
  have hk : ∀ (k : Nat) (x : Nat × va_E), (X ++ gW L cy st)[k]? = some x → H1[x.1]? = H[x.1]? := fun k x hx => o1 x.1 ((hP k x hx).lt)
  have hP1 : va_P D vwCl ((X ++ gW L cy st) ++ [(H.size, .inl (cA, n.toNatClampNeg, .inr (.inr (.inr (.inr (fun _ => none))))))]) H1 := by
    refine (hP.kept hk).app (fun k x hx => ?_)
    have hz : k < 1 := (List.getElem?_eq_some_iff.mp hx).1
    rw [show k = 0 by omega] at hx
    cases hx
    show H1[H.size]? = some (vp_cell _ _)
    rw [vp_cell_q]
    exact e1
  have hD1 : va_D A ((X ++ gW L cy st) ++ [(H.size, .inl (cA, n.toNatClampNeg, .inr (.inr (.inr (.inr (fun _ => none))))))]) := (hD st).push hP rfl (hA _ hS.1)
  have hP2 : va_P D vwCl (((H.size, .inl (cA, n.toNatClampNeg, .inr (.inr (.inr (.inr (fun _ => none)))))) :: X) ++ gW L cy st) H1 := va_P.swap (a := []) (b := X ++ gW L cy st) (c := [(H.size, .inl (cA, n.toNatClampNeg, .inr (.inr (.inr (.inr (fun _ => none))))))]) hP1
  have hD2 : va_D A (((H.size, .inl (cA, n.toNatClampNeg, .inr (.inr (.inr (.inr (fun _ => none)))))) :: X) ++ gW L cy st) := va_D.swap (a := []) (b := X ++ gW L cy st) (c := [(H.size, .inl (cA, n.toNatClampNeg, .inr (.inr (.inr (.inr (fun _ => none))))))]) hD1
  exact kk H.size cA H1 ⟨kA, comp, f2, f3, f4⟩ f1 ⟨hP2, ⟨Nat.le_trans hS.1 (by omega), fun x h1 h2 => (o1 x (Nat.lt_of_lt_of_le h1 hS.1)).trans (hS.2.1 x h1 h2), hS.2.2⟩, hK, hN2, fun st' => gW_D hD2 st'⟩
theorem s_at {q0 : Nat} {q : Nat × va_E} (ha : X[q0]? = some q) : (X ++ gW L cy st)[q0]? = some q := by
  rw [List.getElem?_append_left (List.getElem?_eq_some_iff.mp ha).1]
  exact ha
theorem s_set {q0 : Nat} {q q' : Nat × va_E} (ha : X[q0]? = some q) : (X ++ gW L cy st).set q0 q' = X.set q0 q' ++ gW L cy st := List.set_append_left _ _ (List.getElem?_eq_some_iff.mp ha).1
/-- a number out of a row of numbers at any place ahead -/
theorem s_iald {f : Nat → Int32} {o N q0 : Nat} (S : CallFix p m c cc nL s args Ts own) (h : gH D L cy X A st s H locs) (ha : X[q0]? = some (o, .inl (cy 0, N, .inl f))) {i : Int32} (hin : vp_in i N) (hdg : decode cc pc = .ok (.iaload, 1))
    (kk : W p l e R s m args below meth c H locs cells slots Q (F0 m (pc + 1) ls (.int (f i.toNatClampNeg) :: rest))) : W p l e R s m args below meth c H locs cells slots Q (F0 m pc ls (.int i :: .ref o :: rest)) :=
  va_iald S.1 S.2.1 h.2.2.1 h.1 q0 0 (s_at ha) rfl hin hdg kk
/-- an array out of a row of rows -/
theorem s_aald {f : Nat → Option Nat} {o N q0 v : Nat} {cA : ClassId} {t : FieldType} (S : CallFix p m c cc nL s args Ts own) (h : gH D L cy X A st s H locs) (ha : X[q0]? = some (o, .inl (cA, N, .inr (.inr (.inr (.inr f)))))) (hc : aC s cA t) {i : Int32} (hin : vp_in i N) (hv : f i.toNatClampNeg = some v) (hdg : decode cc pc = .ok (.aaload, 1))
    (kk : W p l e R s m args below meth c H locs cells slots Q (F0 m (pc + 1) ls (.ref v :: rest))) : W p l e R s m args below meth c H locs cells slots Q (F0 m pc ls (.int i :: .ref o :: rest)) := by
  have hlt : i.toNatClampNeg < N := Nat.not_le.mp fun q => hin (Or.inr q)
  obtain ⟨kA, comp, k1, k2, k3⟩ := hc
  have hAr : ArrOfT s cA (.array t) := fun N z => ⟨(fun k h => by cases h), kA, k1, comp, k2⟩
  exact W.aald (v := .ref v) (ty := .array t) S.1 S.2.1 (h.1 q0 _ (s_at ha)) (hAr N (fun j => va_rf (f j))) rfl (fun q => by cases q) (by show ¬ (i < 0 ∨ (arrV _ _ _).slots.size ≤ _); rw [arrV_size]; exact hin) (by show (arrV _ _ _).slots[_]? = _; rw [arrV_read _ _ hlt, hv]; rfl) rfl rfl hdg kk
/-- an array goes into a row of rows -/
theorem s_aast {f : Nat → Option Nat} {o N q0 qv v nv : Nat} {cA cV : ClassId} {av : vp_A} {t : FieldType} (S : CallFix p m c cc nL s args Ts own) (h : gH D L cy X A st s H locs) (ha : X[q0]? = some (o, .inl (cA, N, .inr (.inr (.inr (.inr f)))))) (hc : aC s cA t) (hv : X[qv]? = some (v, .inl (cV, av))) (hcV : s.vm.findClass (FieldType.array t).toString = some cV) {i : Int32} (hin : vp_in i N) (hdg : decode cc pc = .ok (.aastore, 1))
    (kk : ∀ (H1 : Heap) (locs1 : List Loc), gH D L cy (X.set q0 (o, .inl (cA, N, .inr (.inr (.inr (.inr (va_up f i.toNatClampNeg (some v)))))))) A st s H1 locs1 → W p l e R s m args below meth c H1 locs1 cells slots Q (F0 m (pc + 1) ls rest)) : W p l e R s m args below meth c H locs cells slots Q (F0 m pc ls (.ref v :: .int i :: .ref o :: rest)) := by
  obtain ⟨hP, hS, hK, hN2, hD⟩ := h
  have hlt : i.toNatClampNeg < N := Nat.not_le.mp fun q => hin (Or.inr q)
  have h0 : ¬ i < 0 := fun q => hin (Or.inl q)
  obtain ⟨kA, comp, k1, k2, k3⟩ := hc
  obtain rfl : comp = cV := Option.some.inj (k3.symm.trans hcV)
  obtain ⟨kE, hkE, -⟩ := Vm.findClass_spec k3
  have hat := hP q0 _ (s_at ha)
  have hvt : H[v]? = some (vp_cell comp av) := hP qv _ (s_at hv)
  have hcls : (vp_cell comp av).cls = comp := by
    obtain ⟨n1, f1⟩ := av
    rcases f1 with f1 | f1 | f1 | f1 | f1 <;> rfl
  have hvm : (vp_cell comp av).vm = .none := by
    obtain ⟨n1, f1⟩ := av
    rcases f1 with f1 | f1 | f1 | f1 | f1 <;> rfl
  refine W.aast S.1 S.2.1 hat (fun q h => by cases h) (fun h => by cases h) k1 k2 rfl hkE ⟨h0, by show _ < (arrV _ _ _).slots.size; rw [arrV_size]; exact hlt⟩ hvt (fun q h => by rw [hvm] at h; cases h) (by rw [hcls]; exact hkE) (by rw [hcls]; exact as_self _ _) rfl rfl hdg fun H1 e z oq => ?_
  have hP1 : va_P D vwCl ((X ++ gW L cy st).set q0 (o, .inl (cA, N, .inr (.inr (.inr (.inr (va_up f i.toNatClampNeg (some v)))))))) H1 := by
    refine hP.set (hD st) (s_at ha) ?_ oq
    show H1[o]? = some (vp_cell _ _)
    rw [e]
    rw [vp_cell_q, vp_cell_q, arrV_store]
    congr 2
    funext q
    by_cases hq : q = i.toNatClampNeg
    · subst hq
      simp [updV, va_up, va_rf]
    · simp [updV, va_up, hq]
  have hD1 : va_D A ((X ++ gW L cy st).set q0 (o, .inl (cA, N, .inr (.inr (.inr (.inr (va_up f i.toNatClampNeg (some v)))))))) := (hD st).set (s_at ha)
  rw [s_set ha] at hP1 hD1
  exact kk H1 _ ⟨hP1, hS.put z oq ((hD st).2 q0 _ (s_at ha)), hK, hN2, fun st' => gW_D hD1 st'⟩
end LA
