/-! WHAT A CONSTRUCTOR MEETS: worlds that grow. X: what isn't looked at; ws: the cells that were made so far, in their order. -/
def gNmw : List Cond := [Cond.methodLinkNest RX0 17 yX3_init "BobbinPool", Cond.methodLinkNest RX1 30 yX5_init "BobbinPool", Cond.methodLinkNest RX1 37 yX2_init "BobbinPool", Cond.methodLinkNest RX5 11 yX2_init "BobbinPool"]
def gS2 (U : State) : Prop := gN U ∧ (va_Nw (Cond.methodLinkNest RX0 17 yX3_init "BobbinPool") U ∧ va_Nw (Cond.methodLinkNest RX1 30 yX5_init "BobbinPool") U ∧ va_Nw (Cond.methodLinkNest RX1 37 yX2_init "BobbinPool") U ∧ va_Nw (Cond.methodLinkNest RX5 11 yX2_init "BobbinPool") U) ∧ va_AO RX3 U ∧ va_AO RX4 U ∧ va_AO RX5 U
theorem gS2.warm {s U : State} (hW : s.WarmedH U.vm) (h : gS2 s) : gS2 U := by
  obtain ⟨h1, ⟨a, b, c, d⟩, x, y, z⟩ := h
  exact ⟨h1.warm hW, ⟨va_Nw.warmM hW a, va_Nw.warmM hW b, va_Nw.warmM hW c, va_Nw.warmM hW d⟩, va_AO.moved hW.alike x, va_AO.moved hW.alike y, va_AO.moved hW.alike z⟩
theorem gS2.same {s U : State} (hv : s.vm = U.vm) (hal : s.vm.Alike U.vm) (h : gS2 s) : gS2 U := by
  obtain ⟨h1, ⟨a, b, c, d⟩, x, y, z⟩ := h
  exact ⟨h1.same hv, ⟨va_Nw.same rfl hv a, va_Nw.same rfl hv b, va_Nw.same rfl hv c, va_Nw.same rfl hv d⟩, va_AO.moved hal x, va_AO.moved hal y, va_AO.moved hal z⟩
theorem n_at (X ws : va_W) (k : Nat) : (X ++ ws)[X.length + k]? = ws[k]? := by
  rw [List.getElem?_append_right (Nat.le_add_right _ _), Nat.add_sub_cancel_left]
theorem n_set (X ws : va_W) (k : Nat) (c : Nat × va_E) : (X ++ ws).set (X.length + k) c = X ++ ws.set k c := by
  rw [List.set_append_right _ _ (Nat.le_add_right _ _), Nat.add_sub_cancel_left]
theorem K_uniq {D : va_G} {cl : List vw_C} {tys : List (ClassId × FieldType)} {s : State} {i j : Nat} {a b : ClassId} {ty : FieldType} (hK : va_K D cl tys s) (h1 : tys[i]? = some (a, ty)) (h2 : tys[j]? = some (b, ty)) : a = b := by
  have r1 := (hK.2 i _ h1).2
  have r2 := (hK.2 j _ h2).2
  cases ty with
  | object C =>
    obtain ⟨-, -, -, -, -, e1⟩ := r1
    obtain ⟨-, -, -, -, -, e2⟩ := r2
    exact Option.some.inj (e1.symm.trans e2)
  | _ => exact Option.some.inj (Eq.trans (Eq.symm r1) r2)
def nH (D : va_G) (cy : Nat → ClassId) (X ws : va_W) (A : Nat → Prop) (s : State) (H : Heap) (locs : List Loc) : Prop :=
  va_P D vwCl (X ++ ws) H ∧ va_S A s.heap H locs ∧ va_K D vwCl (gty cy) s ∧ gS2 s ∧ va_D A (X ++ ws) ∧ ∀ q, s.heap.size ≤ q → A q
def nPc (D : va_G) (cy : Nat → ClassId) (X ws : va_W) (sz : Nat) (av : List Value) : Array Value → State → Prop := va_Pc av (fun U => U.heap.size = sz ∧ va_P D vwCl (X ++ ws) U.heap ∧ va_K D vwCl (gty cy) U ∧ gS2 U)
theorem nPc_blind (D : va_G) (cy : Nat → ClassId) (X ws : va_W) (sz : Nat) (av : List Value) : FrameBlind (nPc D cy X ws sz av) := by
  intro a U g mk q
  obtain ⟨q0, q1, qP, qK, qN⟩ := q
  exact ⟨q0, q1, qP, va_K.moved (u := U) (U := U.calling g mk a) (Vm.Alike.refl U.vm) qK, gS2.same (s := U) (U := U.calling g mk a) rfl (Vm.Alike.refl U.vm) qN⟩
def nM (l : Launch) (y : MethodName) (wy : List Cond) (rm : Room) (D : va_G) (cy : Nat → ClassId) (X ws : va_W) (A : Nat → Prop) (sz : Nat) (av : List Value) {S : Type} (out : S → va_W) (mc ms : Nat) : Prop :=
  Met l y wy rm (nPc D cy X ws sz av) (va_Qv (fun (_ : S) => True) (fun u t => va_P D vwCl (X ++ out u) t.heap ∧ va_D A (X ++ out u)) A) mc ms A
section NW
variable {p : Program} {l : Launch} {e : Env} {R : Room} {s : State} {m : MethodId} {args : Array Value} {below : List Frame} {meth : Method} {c : Code} {H : Heap} {locs : List Loc} {cells slots : Nat} {Q : State → Prop}
variable {cc : ByteArray} {nL : Nat} {Ts : List Cond} {own : String} {D : va_G} {cy : Nat → ClassId} {X ws : va_W} {A : Nat → Prop} {pc : Nat} {ls : Array Slot} {rest : List Value}
theorem n_new (S : CallFix p m c cc nL s args Ts own) (h : nH D cy X ws A s H locs) {ci N idx : Nat} {C : String} {T : u_T} {fs : List Value} (ty : Nat → FieldType) (hty : ∀ k, k < N → parseFieldDescriptor (T k).2.2.1 = some (ty k)) (hin : ∀ w ∈ u_ws C T N, w ∈ Ts) (h1 : Cond.classLink own idx C ∈ Ts) (h2 : Cond.instantiable C N ∈ Ts) (h3 : Cond.initialized C ∈ Ts) (hc : vwCl[ci]? = some (C, T, N)) (hfs : ∀ j, j < N → defaultValue (ty j) = vp_V fs j) (hcells : cells + 1 ≤ R.cells) (hslots : slots + N ≤ R.slots) (hdg : decode cc pc = .ok (.new idx, 3))
    (kk : ∀ (q : Nat) (H1 : Heap), nH D cy X (ws ++ [(q, .inr (ci, fs))]) A s H1 locs → W p l e R s m args below meth c H1 locs (cells + 1) (slots + N) Q (F0 m (pc + 3) ls (.ref q :: rest))) : W p l e R s m args below meth c H locs cells slots Q (F0 m pc ls rest) := by
  obtain ⟨hx, hb, -, hown, hts⟩ := S
  obtain ⟨hP, hS, hK, hN, hD, hA⟩ := h
  refine va_new hx hb hts hin ty hty hown (hts _ h1) (hts _ h2) (hts _ h3) hK hP hD hS hA hc hfs hcells hslots hdg (fun q H1 hP1 hD1 hS1 => ?_)
  rw [List.append_assoc] at hP1 hD1
  exact kk q H1 ⟨hP1, hS1, hK, hN, hD1, hA⟩
theorem n_newa (S : CallFix p m c cc nL s args Ts own) (h : nH D cy X ws A s H locs) {n : Int32} {N : Nat} (h1 : Cond.arrayClass .int ∈ Ts) (hn : ¬ n < 0) (hN : n.toNatClampNeg = N) (hby : N * componentBytes .int ≤ 536870912) (hcells : cells + 1 ≤ R.cells) (hslots : slots + N ≤ R.slots) (hdg : decode cc pc = .ok (.newarray .int, 2))
    (kk : ∀ (q : Nat) (H1 : Heap), nH D cy X (ws ++ [(q, .inl (cy 0, N, .inl (fun _ => 0)))]) A s H1 locs → W p l e R s m args below meth c H1 locs (cells + 1) (slots + N) Q (F0 m (pc + 2) ls (.ref q :: rest))) : W p l e R s m args below meth c H locs cells slots Q (F0 m pc ls (.int n :: rest)) := by
  obtain ⟨hx, hb, -, hown, hts⟩ := S
  obtain ⟨hP, hS, hK, hN2, hD, hA⟩ := h
  refine va_newa (atype := .int) (ty := .int) (a0 := (N, .inl (fun _ => 0))) hx hb (hts _ h1) rfl hK hP hD hS hA (fun _ => rfl) hn hN hby hcells hslots hdg (fun q cA H1 hK1 hP1 hD1 hS1 => ?_)
  have e : cA = cy 0 := K_uniq (i := 4) (j := 0) hK1 rfl rfl
  subst e
  rw [List.append_assoc] at hP1 hD1
  exact kk q H1 ⟨hP1, hS1, hK, hN2, hD1, hA⟩
theorem n_newq (S : CallFix p m c cc nL s args Ts own) (h : nH D cy X ws A s H locs) {n : Int32} {N t0 idx : Nat} {C : String} (hao : va_AO C s) (ht : (gty cy)[t0]? = some (cy t0, .object C)) (h1 : Cond.classLink own idx C ∈ Ts) (hn : ¬ n < 0) (hN : n.toNatClampNeg = N) (hby : N * 4 ≤ 536870912) (hcells : cells + 1 ≤ R.cells) (hslots : slots + N ≤ R.slots) (hdg : decode cc pc = .ok (.anewarray idx, 3))
    (kk : ∀ (q : Nat) (H1 : Heap), nH D cy X (ws ++ [(q, .inl (cy t0, N, .inr (.inr (.inr (.inr (fun _ => none))))))]) A s H1 locs → W p l e R s m args below meth c H1 locs (cells + 1) (slots + N) Q (F0 m (pc + 3) ls (.ref q :: rest))) : W p l e R s m args below meth c H locs cells slots Q (F0 m pc ls (.int n :: rest)) := by
  obtain ⟨hx, hb, -, hown, hts⟩ := S
  obtain ⟨hP, hS, hK, hN2, hD, hA⟩ := h
  refine va_newq hx hb hown (hts _ h1) hao hK hP hD hS hA hn hN hby hcells hslots hdg (fun q cA H1 hK1 hP1 hD1 hS1 => ?_)
  have e : cA = cy t0 := K_uniq (i := 4) (j := t0) hK1 rfl (by rw [List.getElem?_append_left (List.getElem?_eq_some_iff.mp ht).1]; exact ht)
  subst e
  rw [List.append_assoc] at hP1 hD1
  exact kk q H1 ⟨hP1, hS1, hK, hN2, hD1, hA⟩
theorem n_putF (S : CallFix p m c cc nL s args Ts own) (h : nH D cy X ws A s H locs) {a ci k N idx : Nat} {C : String} {T : u_T} {fs : List Value} {v : Value} {ty : FieldType} (k0 : Nat) (ty0 : Nat → FieldType) (hty : ∀ k, k < N → parseFieldDescriptor (T k).2.2.1 = some (ty0 k)) (hnm : ∀ a, a < N → ∀ b, b < N → a ≠ b → (T a).2.1 ≠ (T b).2.1) (hin : ∀ w ∈ u_ws C T N, w ∈ Ts) (he : ws[k0]? = some (a, .inr (ci, fs))) (hc : vwCl[ci]? = some (C, T, N)) (hk : k < N) (hlk : Cond.fieldLink own idx (T k).1 (T k).2.1 (T k).2.2.1 ∈ Ts) (hfin : (T k).2.2.2 = true) (hmi : meth.name = "<init>") (hdc : (T k).1 = own) (htk : ty0 k = ty) (hn : narrow ty v = v) (hfit : fits ty v = true) (hl : k < fs.length) (hdg : decode cc pc = .ok (.putfield idx, 3))
    (kk : ∀ (H1 : Heap) (locs1 : List Loc), nH D cy X (ws.set k0 (a, .inr (ci, fs.set k v))) A s H1 locs1 → W p l e R s m args below meth c H1 locs1 cells slots Q (F0 m (pc + 3) ls rest)) : W p l e R s m args below meth c H locs cells slots Q (F0 m pc ls (v :: .ref a :: rest)) := by
  obtain ⟨hx, hb, -, hown, hts⟩ := S
  obtain ⟨hP, hS, hK, hN, hD, hA⟩ := h
  refine va_putF hx hb hts hin ty0 hty hnm hown hK hP hD hS (X.length + k0) (by rw [n_at]; exact he) hc k hk (hts _ hlk) (fun _ h9 => h9) hfin hmi hdc (ty := ty) (by rw [hty k hk, htk]) hn hfit hl hdg (fun H1 locs1 hP1 hD1 hS1 => ?_)
  rw [n_set] at hP1 hD1
  exact kk H1 locs1 ⟨hP1, hS1, hK, hN, hD1, hA⟩
theorem n_get (S : CallFix p m c cc nL s args Ts own) (h : nH D cy X ws A s H locs) {a ci k N idx : Nat} {C : String} {T : u_T} {fs : List Value} {v : Value} (k0 : Nat) (hin : ∀ w ∈ u_ws C T N, w ∈ Ts) (he : ws[k0]? = some (a, .inr (ci, fs))) (hc : vwCl[ci]? = some (C, T, N)) (hk : k < N) (hlk : Cond.fieldLink own idx (T k).1 (T k).2.1 (T k).2.2.1 ∈ Ts) (hv : fs[k]? = some v) (hdg : decode cc pc = .ok (.getfield idx, 3))
    (kk : W p l e R s m args below meth c H locs cells slots Q (F0 m (pc + 3) ls (v :: rest))) : W p l e R s m args below meth c H locs cells slots Q (F0 m pc ls (.ref a :: rest)) := by
  obtain ⟨hx, hb, -, hown, hts⟩ := S
  obtain ⟨hP, hS, hK, hN, hD, hA⟩ := h
  exact va_get hx hb hts hin hown hK hP (X.length + k0) (by rw [n_at]; exact he) hc k hk (hts _ hlk) (fun _ h9 => h9) hv hdg kk
theorem n_astq (S : CallFix p m c cc nL s args Ts own) (h : nH D cy X ws A s H locs) {a v n t0 ci : Nat} {C : String} {T : u_T} {N : Nat} {vs : List Value} {f : Nat → Option Nat} {i : Int32} (k0 kv : Nat) (ha : ws[k0]? = some (a, .inl (cy t0, n, .inr (.inr (.inr (.inr f)))))) (hv : ws[kv]? = some (v, .inr (ci, vs))) (ht : (gty cy)[t0]? = some (cy t0, .object C)) (hc : vwCl[ci]? = some (C, T, N)) (hin : vp_in i n) (hdg : decode cc pc = .ok (.aastore, 1))
    (kk : ∀ (H1 : Heap) (locs1 : List Loc), nH D cy X (ws.set k0 (a, .inl (cy t0, n, .inr (.inr (.inr (.inr (va_up f i.toNatClampNeg (some v)))))))) A s H1 locs1 → W p l e R s m args below meth c H1 locs1 cells slots Q (F0 m (pc + 1) ls rest)) : W p l e R s m args below meth c H locs cells slots Q (F0 m pc ls (.ref v :: .int i :: .ref a :: rest)) := by
  obtain ⟨hx, hb, -, hown, hts⟩ := S
  obtain ⟨hP, hS, hK, hN, hD, hA⟩ := h
  refine va_astq (r := (C, T, N)) hx hb hK hP hD hS (X.length + k0) t0 (X.length + kv) ci (by rw [n_at]; exact ha) ht (by rw [n_at]; exact hv) hc hin hdg (fun H1 locs1 hP1 hD1 hS1 => ?_)
  rw [n_set] at hP1 hD1
  exact kk H1 locs1 ⟨hP1, hS1, hK, hN, hD1, hA⟩
/-- the constructor of the cell made last is called -/
theorem n_pre {c0 : Nat × va_E} (h : nH D cy X (ws ++ [c0]) A s H locs) (av : List Value) : PreS s H (nPc D cy (X ++ ws) [c0] H.size av) av := by
  obtain ⟨hP, hS, hK, hN, hD, hA⟩ := h
  rw [← List.append_assoc] at hP
  exact ⟨nPc_blind D cy _ _ _ _, fun U hU hW => ⟨rfl, by rw [hU], by rw [hU]; exact hP, va_K.moved hW.alike hK, hN.warm hW⟩⟩
theorem n_callI {y : MethodName} {bytes : ByteArray} {maxL n idx mc ms : Nat} {wy : List Cond} {rm : Room} {As : List Value} {b : Nat} {S0 : Type} {out : S0 → va_W} {c0 : Nat × va_E} {st0 : List Value} (S : CallFix p m c cc nL s args Ts own) (h : nH D cy X (ws ++ [c0]) A s H locs) (hM : (∀ q, H.size ≤ q → A q) → va_D A ((X ++ ws) ++ [c0]) → nM l y wy rm D cy (X ++ ws) [c0] A H.size (.ref b :: As) out mc ms)
    (cw : CallB R s args own idx y bytes maxL none wy rm mc ms n ∧ y.name = "<init>" ∧ (Cond.instanceMethod y).before args s = true) (hn : As.length = n) (hsize : ls.size = nL) (hstack : st0 = As.reverse ++ .ref b :: rest) (hW : 2 * 0 + (rest.map fun v => v.category).sum ≤ 8) (hdg : decode cc pc = .ok (.invokespecial idx, 3)) (hf : cells + mc ≤ R.cells ∧ slots + ms ≤ R.slots)
    (kk : ∀ (u : S0) (H1 : Heap) (locs1 : List Loc), nH D cy X (ws ++ out u) A s H1 locs1 → W p l e R s m args below meth c H1 locs1 (cells + mc) (slots + ms) Q (F0 m (pc + 3) ls rest)) : W p l e R s m args below meth c H locs cells slots Q (F0 m pc ls st0) := by
  have hp := n_pre h (.ref b :: As)
  obtain ⟨hP, hS, hK, hN, hD, hA⟩ := h
  have hA2 : ∀ q, H.size ≤ q → A q := fun q h => hA q (Nat.le_trans hS.1 h)
  refine va_callv (va_runI S (hM hA2 (by rw [List.append_assoc]; exact hD)) cw hp rfl hn hsize hstack hW hdg hf) hS (fun q _ h => h) (fun q h => h) (fun u t H1 locs1 ht hvm hw hB hz1 hk1 hS1 => ?_)
  obtain ⟨hP1, hD1⟩ := hB
  rw [ht] at hP1
  rw [List.append_assoc] at hP1 hD1
  exact kk u H1 locs1 ⟨hP1, hS1, hK, hN, hD1, hA⟩
theorem n_callN {y : MethodName} {host : String} {bytes : ByteArray} {maxL n idx mc ms : Nat} {wy : List Cond} {rm : Room} {As : List Value} {b : Nat} {S0 : Type} {out : S0 → va_W} {c0 : Nat × va_E} {st0 : List Value} (S : CallFix p m c cc nL s args Ts own) (h : nH D cy X (ws ++ [c0]) A s H locs) (hM : (∀ q, H.size ≤ q → A q) → va_D A ((X ++ ws) ++ [c0]) → nM l y wy rm D cy (X ++ ws) [c0] A H.size (.ref b :: As) out mc ms)
    (cw : va_CN R s args own idx y host bytes maxL none wy rm mc ms n ∧ y.name = "<init>" ∧ (Cond.instanceMethod y).before args s = true) (hn : As.length = n) (hsize : ls.size = nL) (hstack : st0 = As.reverse ++ .ref b :: rest) (hW : 2 * 0 + (rest.map fun v => v.category).sum ≤ 8) (hdg : decode cc pc = .ok (.invokespecial idx, 3)) (hf : cells + mc ≤ R.cells ∧ slots + ms ≤ R.slots)
    (kk : ∀ (u : S0) (H1 : Heap) (locs1 : List Loc), nH D cy X (ws ++ out u) A s H1 locs1 → W p l e R s m args below meth c H1 locs1 (cells + mc) (slots + ms) Q (F0 m (pc + 3) ls rest)) : W p l e R s m args below meth c H locs cells slots Q (F0 m pc ls st0) := by
  have hp := n_pre h (.ref b :: As)
  obtain ⟨hP, hS, hK, hN, hD, hA⟩ := h
  have hA2 : ∀ q, H.size ≤ q → A q := fun q h => hA q (Nat.le_trans hS.1 h)
  refine va_callv (va_runIN S (hM hA2 (by rw [List.append_assoc]; exact hD)) cw hp rfl hn hsize hstack hW hdg hf) hS (fun q _ h => h) (fun q h => h) (fun u t H1 locs1 ht hvm hw hB hz1 hk1 hS1 => ?_)
  obtain ⟨hP1, hD1⟩ := hB
  rw [ht] at hP1
  rw [List.append_assoc] at hP1 hD1
  exact kk u H1 locs1 ⟨hP1, hS1, hK, hN, hD1, hA⟩
theorem n_ret {S0 : Type} {out : S0 → va_W} (S : CallFix p m c cc nL s args Ts own) (h : nH D cy X ws A s H locs) (hr : meth.sig.returnType = none) (hlocks : meth.locks = false) (u : S0) (hu : ws = out u) (hdg : decode cc pc = .ok (.return_, 1)) :
    W p l e R s m args below meth c H locs cells slots (MQ below (va_Qv (fun (_ : S0) => True) (fun u t => va_P D vwCl (X ++ out u) t.heap ∧ va_D A (X ++ out u)) A) args s cells slots A) (F0 m pc ls []) := by
  obtain ⟨hx, hb, -, hown, hts⟩ := S
  obtain ⟨hP, hS, hK, hN, hD, hA⟩ := h
  subst hu
  exact W.vret hx hb hr (fun t ht hW => ⟨⟨u, rfl, trivial, by show va_P D vwCl (X ++ out u) t.heap; rw [ht]; exact hP, hD⟩, hS.F ht⟩) hS.2.2 hdg hlocks
def nB (p : Program) (m : MethodId) (meth : Method) (c : Code) (cc : ByteArray) (nL : Nat) (s : State) (args : Array Value) (Ts : List Cond) (own : String) (D : va_G) (cy : Nat → ClassId) (X ws : va_W) (A : Nat → Prop) (av : List Value) (ls : Array Slot) : Prop :=
  CallFix p m c cc nL s args Ts own ∧ meth.sig.returnType = none ∧ meth.locks = false ∧ meth.name = "<init>" ∧ nH D cy X ws A s s.heap [] ∧ lv_has ls nL (lv_args 0 av)
theorem n_entry {y : MethodName} {wy ws' : List Cond} {rm : Room} {cc : ByteArray} {maxL sz mc ms : Nat} {av : List Value} {S0 : Type} {out : S0 → va_W} (hA : ∀ q, sz ≤ q → A q) (hD : va_D A (X ++ ws)) (hy : plainName y.cls = true) (hyn : y.name = "<init>") (hw : wy = Cond.code y cc maxL none :: ws') (hlen : (lg_sl av).length ≤ maxL)
    (body : ∀ (p : Program) (e : Env) (s : State) (m : MethodId) (args : Array Value) (below : List Frame) (meth : Method) (c : Code) (ls : Array Slot), nB p m meth c cc maxL s args wy y.cls D cy X ws A av ls → W p l e rm s m args below meth c s.heap [] 0 0 (MQ below (va_Qv (fun (_ : S0) => True) (fun u t => va_P D vwCl (X ++ out u) t.heap ∧ va_D A (X ++ out u)) A) args s mc ms A) (F0 m 0 ls [])) :
    nM l y wy rm D cy X ws A sz av out mc ms := by
  refine Met.ofW (cc := cc) (maxL := maxL) (ret := none) hy hw ?_
  intro p e s m args below meth c s₁ B hml hv
  obtain ⟨rfl, hsz, hP, hK, hN⟩ := hv
  have hts := atoms_spec (ws := wy) B.pre
  have hown : s.vm.findClass y.cls = some m.cls := findClass_of_methodNamed B.named
  have hin : meth.name = y.name := (name_of_methodNamed B.named B.method).1
  rw [lg_entry_eq]
  exact body p e s m _ below meth c _ ⟨⟨B.exec, B.bytes, hml, hown, hts⟩, B.returns, B.notSynchronized, by rw [hin, hyn], ⟨hP, va_S.rf, hK, hN, hD, by rw [hsz]; exact hA⟩, lv_entry av hlen⟩
end NW
