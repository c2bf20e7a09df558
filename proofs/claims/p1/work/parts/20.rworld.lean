/-! THE REFERENCE'S CELLS. A world: X (what isn't looked at) and behind it a list of cells, named one by one. E: the shared empty arrays of ArrayList (two), the cached Integers, the cache's array, the Class object of Object[]. -/
abbrev rEn : Type := Nat × Nat × (Nat → Nat) × Nat × Nat
abbrev rC : Type := ClassId × ClassId
abbrev rOb : String := "java/lang/Object"
abbrev rOa : String := "[Ljava/lang/Object;"
abbrev rty (cy : rC) : List (ClassId × FieldType) := [(cy.1, .int), (cy.2, .object "java/lang/Object")]
abbrev rAL (q : Nat) (m : Int32) (d : Nat) (n : Int32) : Nat × va_E := (q, .inr (1, [.int m, .ref d, .int n]))
abbrev rAr (cy : rC) (q n : Nat) (f : Nat → Option Nat) : Nat × va_E := (q, .inl (cy.2, n, .inr (.inr (.inr (.inr f)))))
abbrev rAi (cy : rC) (q n : Nat) (f : Nat → Int32) : Nat × va_E := (q, .inl (cy.1, n, .inl f))
abbrev rToA : MethodName := ⟨"java/util/Collection", "toArray", "()[Ljava/lang/Object;"⟩
def rE (E : rEn) (A : Nat → Prop) (U : State) (H : Heap) : Prop :=
  (va_Z RJx4a65c "DEFAULTCAPACITY_EMPTY_ELEMENTDATA" rOa (.ref E.1) A U H ∧ va_Z RJx4a65c "EMPTY_ELEMENTDATA" rOa (.ref E.2.1) A U H ∧ va_T (.object "java/lang/Object") E.1 0 (fun _ => .null) A U H ∧ va_T (.object "java/lang/Object") E.2.1 0 (fun _ => .null) A U H) ∧
  (va_Z "java/lang/Integer$IntegerCache" "high" "I" (.int 127) A U H ∧ va_Z "java/lang/Integer$IntegerCache" "cache" "[Ljava/lang/Integer;" (.ref E.2.2.2.1) A U H ∧ va_T (.object "java/lang/Integer") E.2.2.2.1 256 (fun j => .ref (E.2.2.1 j)) A U H ∧ vb_C E.2.2.1 A U H) ∧
  (∃ k0 : Cell, H[E.1]? = some k0 ∧ k0.vm.isStatics = false ∧ U.vm.findClass rOa = some k0.cls) ∧ (∃ k1 : Cell, H[E.2.1]? = some k1 ∧ k1.vm.isStatics = false ∧ U.vm.findClass rOa = some k1.cls) ∧ E.1 ≠ E.2.1
theorem rE.kept {E : rEn} {A : Nat → Prop} {U : State} {H H1 : Heap} (h : rE E A U H) (hq : ∀ a : Nat, a < H.size → ¬ A a → H1[a]? = H[a]?) : rE E A U H1 := by
  obtain ⟨⟨a, b, c, d⟩, ⟨f, g, i, j⟩, ⟨k0, x1, x2, x3⟩, ⟨k1, y1, y2, y3⟩, n⟩ := h
  exact ⟨⟨a.kept hq, b.kept hq, c.kept hq, d.kept hq⟩, ⟨f.kept hq, g.kept hq, i.kept hq, j.kept hq⟩, ⟨k0, by rw [hq _ (Array.getElem?_eq_some_iff.mp x1).1 c.out]; exact x1, x2, x3⟩, ⟨k1, by rw [hq _ (Array.getElem?_eq_some_iff.mp y1).1 d.out]; exact y1, y2, y3⟩, n⟩
theorem rE.moved {E : rEn} {A : Nat → Prop} {u U : State} {H : Heap} (hvm : u.vm.Alike U.vm) (h : rE E A u H) : rE E A U H := by
  obtain ⟨⟨a, b, c, d⟩, ⟨f, g, i, j⟩, ⟨k0, x1, x2, x3⟩, ⟨k1, y1, y2, y3⟩, n⟩ := h
  exact ⟨⟨va_Z.moved hvm a, va_Z.moved hvm b, va_T.moved hvm c, va_T.moved hvm d⟩, ⟨va_Z.moved hvm f, va_Z.moved hvm g, va_T.moved hvm i, vb_C.moved hvm j⟩, ⟨k0, x1, x2, by rw [hvm.findClass]; exact x3⟩, ⟨k1, y1, y2, by rw [hvm.findClass]; exact y3⟩, n⟩
def rS (E : rEn) (U : State) : Prop := (va_Mi rOa E.2.2.2.2 U ∧ va_Dc U ∧ va_AO "java/lang/Object" U) ∧ (va_Nw (.castable RJx4a65c "java/lang/Object") U ∧ va_Nw (.castable RX9 "java/lang/Object") U ∧ va_Nw (.castable "java/lang/Integer" "java/lang/Object") U ∧ va_Nw (.castable "[I" "java/lang/Cloneable") U) ∧ (va_Nw (.methodLinkNest RX10 103 yX9_init RX10) U ∧ va_Nw (.methodLinkNest RX7 34 yX9_init RX10) U) ∧ va_Fw RJx4a65c rToA yJx4a65c_toArray_d5877 U
theorem rS.warm {E : rEn} {s U : State} (hW : s.WarmedH U.vm) (h : rS E s) : rS E U := by
  obtain ⟨⟨a, b, c⟩, ⟨d, f, g, i⟩, ⟨j, k⟩, n⟩ := h
  exact ⟨⟨va_Mi.moved hW.alike a, va_Dc.moved hW.alike b, va_AO.moved hW.alike c⟩, ⟨va_Nw.warmC hW d, va_Nw.warmC hW f, va_Nw.warmC hW g, va_Nw.warmC hW i⟩, ⟨va_Nw.warmM hW j, va_Nw.warmM hW k⟩, va_Fw.moved (by decide) hW.alike n⟩
theorem rS.same {E : rEn} {s U : State} (hv : s.vm = U.vm) (hal : s.vm.Alike U.vm) (h : rS E s) : rS E U := by
  obtain ⟨⟨a, b, c⟩, ⟨d, f, g, i⟩, ⟨j, k⟩, n⟩ := h
  exact ⟨⟨va_Mi.moved hal a, va_Dc.moved hal b, va_AO.moved hal c⟩, ⟨va_Nw.same rfl hv d, va_Nw.same rfl hv f, va_Nw.same rfl hv g, va_Nw.same rfl hv i⟩, ⟨va_Nw.same rfl hv j, va_Nw.same rfl hv k⟩, va_Fw.moved (by decide) hal n⟩
theorem r_at (X ws : va_W) (k : Nat) : (X ++ ws)[X.length + k]? = ws[k]? := by
  rw [List.getElem?_append_right (Nat.le_add_right _ _), Nat.add_sub_cancel_left]
theorem r_set (X ws : va_W) (k : Nat) (c : Nat × va_E) : (X ++ ws).set (X.length + k) c = X ++ ws.set k c := by
  rw [List.set_append_right _ _ (Nat.le_add_right _ _), Nat.add_sub_cancel_left]
theorem r_uniq {D : va_G} {cl : List vw_C} {tys : List (ClassId × FieldType)} {s : State} {i j : Nat} {a b : ClassId} {ty : FieldType} (hK : va_K D cl tys s) (h1 : tys[i]? = some (a, ty)) (h2 : tys[j]? = some (b, ty)) : a = b := by
  have r1 := (hK.2 i _ h1).2
  have r2 := (hK.2 j _ h2).2
  cases ty with
  | object C =>
    obtain ⟨-, -, -, -, -, e1⟩ := r1
    obtain ⟨-, -, -, -, -, e2⟩ := r2
    exact Option.some.inj (e1.symm.trans e2)
  | _ => exact Option.some.inj (Eq.trans (Eq.symm r1) r2)
/-- what holds at each point of a walk -/
def rH (D : va_G) (E : rEn) (cy : rC) (X ws : va_W) (A : Nat → Prop) (s : State) (H : Heap) (locs : List Loc) : Prop :=
  va_P D vwCl (X ++ ws) H ∧ va_S A s.heap H locs ∧ va_K D vwCl (rty cy) s ∧ (rE E A s s.heap ∧ rS E s) ∧ va_D A (X ++ ws) ∧ ∀ q, s.heap.size ≤ q → A q
def rPc (D : va_G) (E : rEn) (cy : rC) (X ws : va_W) (A : Nat → Prop) (av : List Value) : Array Value → State → Prop := va_Pc av (fun U => va_P D vwCl (X ++ ws) U.heap ∧ va_K D vwCl (rty cy) U ∧ (rE E A U U.heap ∧ rS E U) ∧ va_D A (X ++ ws) ∧ ∀ q, U.heap.size ≤ q → A q)
theorem rPc_blind (D : va_G) (E : rEn) (cy : rC) (X ws : va_W) (A : Nat → Prop) (av : List Value) : FrameBlind (rPc D E cy X ws A av) := by
  intro a U g mk q
  obtain ⟨q0, qP, qK, ⟨qE, qS⟩, qD, qA⟩ := q
  exact ⟨q0, qP, va_K.moved (u := U) (U := U.calling g mk a) (Vm.Alike.refl U.vm) qK, ⟨rE.moved (u := U) (U := U.calling g mk a) (Vm.Alike.refl U.vm) qE, rS.same (s := U) (U := U.calling g mk a) rfl (Vm.Alike.refl U.vm) qS⟩, qD, qA⟩
/-- contracts: in the world X ++ ws the method answers r (nothing, an address), and leaves X ++ out u, for some u -/
def rMi (l : Launch) (y : MethodName) (wy : List Cond) (rm : Room) (D : va_G) (E : rEn) (cy : rC) (X ws : va_W) (A : Nat → Prop) (av : List Value) (r : Int32) {S : Type} (out : S → va_W) (ok : S → Prop) (mc ms : Nat) : Prop :=
  Met l y wy rm (rPc D E cy X ws A av) (va_Qi (fun (q : Int32) (u : S) => q = r ∧ ok u) (fun u t => va_P D vwCl (X ++ out u) t.heap ∧ va_D A (X ++ out u)) A) mc ms A
def rMl (l : Launch) (y : MethodName) (wy : List Cond) (rm : Room) (D : va_G) (E : rEn) (cy : rC) (X ws : va_W) (A : Nat → Prop) (av : List Value) (r : Int64) {S : Type} (out : S → va_W) (ok : S → Prop) (mc ms : Nat) : Prop :=
  Met l y wy rm (rPc D E cy X ws A av) (va_Ql (fun (q : Int64) (u : S) => q = r ∧ ok u) (fun u t => va_P D vwCl (X ++ out u) t.heap ∧ va_D A (X ++ out u)) A) mc ms A
def rMv (l : Launch) (y : MethodName) (wy : List Cond) (rm : Room) (D : va_G) (E : rEn) (cy : rC) (X ws : va_W) (A : Nat → Prop) (av : List Value) {S : Type} (out : S → va_W) (ok : S → Prop) (mc ms : Nat) : Prop :=
  Met l y wy rm (rPc D E cy X ws A av) (va_Qv (fun (u : S) => ok u) (fun u t => va_P D vwCl (X ++ out u) t.heap ∧ va_D A (X ++ out u)) A) mc ms A
def rMr (l : Launch) (y : MethodName) (wy : List Cond) (rm : Room) (D : va_G) (E : rEn) (cy : rC) (X ws : va_W) (A : Nat → Prop) (av : List Value) {S : Type} (r : S → Nat) (out : S → va_W) (ok : S → Prop) (mc ms : Nat) : Prop :=
  Met l y wy rm (rPc D E cy X ws A av) (va_Qr (fun (u : S) => ok u) (fun u a t => a = r u ∧ va_P D vwCl (X ++ out u) t.heap ∧ va_D A (X ++ out u)) A) mc ms A
theorem r_nd (n : Nat) : ∀ (is : List Nat), va_nd is = true → va_nd (is.map (n + ·)) = true
  | [], _ => rfl
  | a :: is, h => by
    simp only [va_nd, Bool.and_eq_true, decide_eq_true_eq] at h
    simp only [List.map_cons, va_nd, Bool.and_eq_true, decide_eq_true_eq]
    refine ⟨fun hm => ?_, r_nd n is h.2⟩
    obtain ⟨b, hb, e⟩ := List.mem_map.mp hm
    have : b = a := by omega
    exact h.1 (this ▸ hb)
theorem r_nd2 : ∀ (is js : List Nat), va_nd is = true → va_nd js = true → (∀ a ∈ is, a ∉ js) → va_nd (is ++ js) = true
  | [], js, _, h2, _ => h2
  | a :: is, js, h1, h2, h3 => by
    simp only [va_nd, Bool.and_eq_true, decide_eq_true_eq] at h1
    simp only [List.cons_append, va_nd, Bool.and_eq_true, decide_eq_true_eq]
    refine ⟨fun hm => ?_, r_nd2 is js h1.2 h2 (fun b hb => h3 b (List.mem_cons_of_mem _ hb))⟩
    rcases List.mem_append.mp hm with h | h
    · exact h1.1 h
    · exact h3 a List.mem_cons_self h
theorem r_ndr : ∀ n : Nat, va_nd (List.range n) = true
  | 0 => rfl
  | n + 1 => by
    rw [List.range_succ]
    refine r_nd2 _ _ (r_ndr n) rfl (fun a ha hb => ?_)
    have h1 := List.mem_range.mp ha
    have h2 := List.mem_singleton.mp hb
    omega
theorem r_map (X ws : va_W) : ∀ (is : List Nat) (w : va_W), is.map (fun i => ws[i]?) = w.map some → (List.range X.length ++ is.map (X.length + ·)).map (fun i => (X ++ ws)[i]?) = (X ++ w).map some := by
  intro is w h
  rw [List.map_append, List.map_append, List.map_map]
  congr 1
  · apply List.ext_getElem?
    intro k
    rw [List.getElem?_map, List.getElem?_map]
    by_cases hk : k < X.length
    · rw [List.getElem?_range hk]
      simp [List.getElem?_append_left hk, hk]
    · simp [hk]
  · rw [← h]
    apply List.map_congr_left
    intro a _
    exact r_at X ws a
theorem r_pickD {A : Nat → Prop} {X ws : va_W} (hD : va_D A (X ++ ws)) (is : List Nat) {w : va_W} (hn : va_nd is = true) (h : is.map (fun i => ws[i]?) = w.map some) : va_D A (X ++ w) := by
  refine hD.sub (List.range X.length ++ is.map (X.length + ·)) ?_ (r_map X ws is w h)
  refine r_nd2 _ _ (r_ndr _) (r_nd _ _ hn) (fun a ha hb => ?_)
  obtain ⟨b, -, e⟩ := List.mem_map.mp hb
  have := List.mem_range.mp ha
  omega
theorem r_pickP {D : va_G} {X ws : va_W} {H : Heap} (hP : va_P D vwCl (X ++ ws) H) (is : List Nat) {w : va_W} (h : is.map (fun i => ws[i]?) = w.map some) : va_P D vwCl (X ++ w) H := by
  refine hP.sub (List.range X.length ++ is.map (X.length + ·)) ?_
  have h1 := r_map X ws is w h
  have h2 : (List.range X.length ++ is.map (X.length + ·)).filterMap (fun i => (X ++ ws)[i]?) = ((List.range X.length ++ is.map (X.length + ·)).map (fun i => (X ++ ws)[i]?)).filterMap id := by
    rw [List.filterMap_map]
    rfl
  rw [h2, h1, List.filterMap_map]
  simp
section RW
variable {p : Program} {l : Launch} {e : Env} {R : Room} {s : State} {m : MethodId} {args : Array Value} {below : List Frame} {meth : Method} {c : Code} {H : Heap} {locs : List Loc} {cells slots : Nat} {Q : State → Prop}
variable {cc : ByteArray} {nL : Nat} {Ts : List Cond} {own : String} {D : va_G} {E : rEn} {cy : rC} {X ws : va_W} {A : Nat → Prop} {pc : Nat} {ls : Array Slot} {rest : List Value}
/-- other cells, in another order -/
theorem rH.pick (h : rH D E cy X ws A s H locs) (is : List Nat) {w : va_W} (hn : va_nd is = true) (hw : is.map (fun i => ws[i]?) = w.map some) : rH D E cy X w A s H locs := by
  obtain ⟨hP, hS, hK, hN, hD, hA⟩ := h
  exact ⟨r_pickP hP is hw, hS, hK, hN, r_pickD hD is hn hw, hA⟩
theorem r_get (S : CallFix p m c cc nL s args Ts own) (h : rH D E cy X ws A s H locs) {a ci k N idx : Nat} {C ref : String} {T : u_T} {fs : List Value} {v : Value} (k0 : Nat) (hin : ∀ w ∈ u_ws C T N, w ∈ Ts) (he : ws[k0]? = some (a, .inr (ci, fs))) (hc : vwCl[ci]? = some (C, T, N)) (hk : k < N) (hlk : Cond.fieldLink own idx ref (T k).2.1 (T k).2.2.1 ∈ Ts) (hsame : ∀ x, s.fieldFound? (T k).1 (T k).2.1 (T k).2.2.1 = some x → s.fieldFound? ref (T k).2.1 (T k).2.2.1 = some x) (hv : fs[k]? = some v) (hdg : decode cc pc = .ok (.getfield idx, 3))
    (kk : W p l e R s m args below meth c H locs cells slots Q (F0 m (pc + 3) ls (v :: rest))) : W p l e R s m args below meth c H locs cells slots Q (F0 m pc ls (.ref a :: rest)) := by
  obtain ⟨hx, hb, -, hown, hts⟩ := S
  obtain ⟨hP, hS, hK, hN, hD, hA⟩ := h
  exact va_get hx hb hts hin hown hK hP (X.length + k0) (by rw [r_at]; exact he) hc k hk (hts _ hlk) hsame hv hdg kk
theorem r_put (S : CallFix p m c cc nL s args Ts own) (h : rH D E cy X ws A s H locs) {a ci k N idx : Nat} {C ref : String} {T : u_T} {fs : List Value} {v : Value} {ty : FieldType} (k0 : Nat) (ty0 : Nat → FieldType) (hty : ∀ k, k < N → parseFieldDescriptor (T k).2.2.1 = some (ty0 k)) (hnm : ∀ a, a < N → ∀ b, b < N → a ≠ b → (T a).2.1 ≠ (T b).2.1) (hin : ∀ w ∈ u_ws C T N, w ∈ Ts) (he : ws[k0]? = some (a, .inr (ci, fs))) (hc : vwCl[ci]? = some (C, T, N)) (hk : k < N) (hlk : Cond.fieldLink own idx ref (T k).2.1 (T k).2.2.1 ∈ Ts) (hsame : ∀ x, s.fieldFound? (T k).1 (T k).2.1 (T k).2.2.1 = some x → s.fieldFound? ref (T k).2.1 (T k).2.2.1 = some x) (hfin : (T k).2.2.2 = false) (htk : ty0 k = ty) (hn : narrow ty v = v) (hfit : fits ty v = true) (hl : k < fs.length) (hdg : decode cc pc = .ok (.putfield idx, 3))
    (kk : ∀ (H1 : Heap) (locs1 : List Loc), rH D E cy X (ws.set k0 (a, .inr (ci, fs.set k v))) A s H1 locs1 → W p l e R s m args below meth c H1 locs1 cells slots Q (F0 m (pc + 3) ls rest)) : W p l e R s m args below meth c H locs cells slots Q (F0 m pc ls (v :: .ref a :: rest)) := by
  obtain ⟨hx, hb, -, hown, hts⟩ := S
  obtain ⟨hP, hS, hK, hN, hD, hA⟩ := h
  refine va_put hx hb hts hin ty0 hty hnm hown hK hP hD hS (X.length + k0) (by rw [r_at]; exact he) hc k hk (hts _ hlk) hsame hfin (ty := ty) (by rw [hty k hk, htk]) hn hfit hl hdg (fun H1 locs1 hP1 hD1 hS1 => ?_)
  rw [r_set] at hP1 hD1
  exact kk H1 locs1 ⟨hP1, hS1, hK, hN, hD1, hA⟩
theorem r_putF (S : CallFix p m c cc nL s args Ts own) (h : rH D E cy X ws A s H locs) {a ci k N idx : Nat} {C : String} {T : u_T} {fs : List Value} {v : Value} {ty : FieldType} (k0 : Nat) (ty0 : Nat → FieldType) (hty : ∀ k, k < N → parseFieldDescriptor (T k).2.2.1 = some (ty0 k)) (hnm : ∀ a, a < N → ∀ b, b < N → a ≠ b → (T a).2.1 ≠ (T b).2.1) (hin : ∀ w ∈ u_ws C T N, w ∈ Ts) (he : ws[k0]? = some (a, .inr (ci, fs))) (hc : vwCl[ci]? = some (C, T, N)) (hk : k < N) (hlk : Cond.fieldLink own idx (T k).1 (T k).2.1 (T k).2.2.1 ∈ Ts) (hfin : (T k).2.2.2 = true) (hmi : meth.name = "<init>") (hdc : (T k).1 = own) (htk : ty0 k = ty) (hn : narrow ty v = v) (hfit : fits ty v = true) (hl : k < fs.length) (hdg : decode cc pc = .ok (.putfield idx, 3))
    (kk : ∀ (H1 : Heap) (locs1 : List Loc), rH D E cy X (ws.set k0 (a, .inr (ci, fs.set k v))) A s H1 locs1 → W p l e R s m args below meth c H1 locs1 cells slots Q (F0 m (pc + 3) ls rest)) : W p l e R s m args below meth c H locs cells slots Q (F0 m pc ls (v :: .ref a :: rest)) := by
  obtain ⟨hx, hb, -, hown, hts⟩ := S
  obtain ⟨hP, hS, hK, hN, hD, hA⟩ := h
  refine va_putF hx hb hts hin ty0 hty hnm hown hK hP hD hS (X.length + k0) (by rw [r_at]; exact he) hc k hk (hts _ hlk) (fun _ h9 => h9) hfin hmi hdc (ty := ty) (by rw [hty k hk, htk]) hn hfit hl hdg (fun H1 locs1 hP1 hD1 hS1 => ?_)
  rw [r_set] at hP1 hD1
  exact kk H1 locs1 ⟨hP1, hS1, hK, hN, hD1, hA⟩
theorem r_new (S : CallFix p m c cc nL s args Ts own) (h : rH D E cy X ws A s H locs) {ci N idx : Nat} {C : String} {T : u_T} {fs : List Value} (ty : Nat → FieldType) (hty : ∀ k, k < N → parseFieldDescriptor (T k).2.2.1 = some (ty k)) (hin : ∀ w ∈ u_ws C T N, w ∈ Ts) (h1 : Cond.classLink own idx C ∈ Ts) (h2 : Cond.instantiable C N ∈ Ts) (h3 : Cond.initialized C ∈ Ts) (hc : vwCl[ci]? = some (C, T, N)) (hfs : ∀ j, j < N → defaultValue (ty j) = vp_V fs j) (hcells : cells + 1 ≤ R.cells) (hslots : slots + N ≤ R.slots) (hdg : decode cc pc = .ok (.new idx, 3))
    (kk : ∀ (q : Nat) (H1 : Heap), rH D E cy X (ws ++ [(q, .inr (ci, fs))]) A s H1 locs → W p l e R s m args below meth c H1 locs (cells + 1) (slots + N) Q (F0 m (pc + 3) ls (.ref q :: rest))) : W p l e R s m args below meth c H locs cells slots Q (F0 m pc ls rest) := by
  obtain ⟨hx, hb, -, hown, hts⟩ := S
  obtain ⟨hP, hS, hK, hN, hD, hA⟩ := h
  refine va_new hx hb hts hin ty hty hown (hts _ h1) (hts _ h2) (hts _ h3) hK hP hD hS hA hc hfs hcells hslots hdg (fun q H1 hP1 hD1 hS1 => ?_)
  rw [List.append_assoc] at hP1 hD1
  exact kk q H1 ⟨hP1, hS1, hK, hN, hD1, hA⟩
theorem r_newa (S : CallFix p m c cc nL s args Ts own) (h : rH D E cy X ws A s H locs) {n : Int32} {N : Nat} (h1 : Cond.arrayClass .int ∈ Ts) (hn : ¬ n < 0) (hN : n.toNatClampNeg = N) (hby : N * componentBytes .int ≤ 536870912) (hcells : cells + 1 ≤ R.cells) (hslots : slots + N ≤ R.slots) (hdg : decode cc pc = .ok (.newarray .int, 2))
    (kk : ∀ (q : Nat) (H1 : Heap), rH D E cy X (ws ++ [rAi cy q N (fun _ => 0)]) A s H1 locs → W p l e R s m args below meth c H1 locs (cells + 1) (slots + N) Q (F0 m (pc + 2) ls (.ref q :: rest))) : W p l e R s m args below meth c H locs cells slots Q (F0 m pc ls (.int n :: rest)) := by
  obtain ⟨hx, hb, -, hown, hts⟩ := S
  obtain ⟨hP, hS, hK, hN2, hD, hA⟩ := h
  refine va_newa (atype := .int) (ty := .int) (a0 := (N, .inl (fun _ => 0))) hx hb (hts _ h1) rfl hK hP hD hS hA (fun _ => rfl) hn hN hby hcells hslots hdg (fun q cA H1 hK1 hP1 hD1 hS1 => ?_)
  have e : cA = cy.1 := r_uniq (i := 2) (j := 0) hK1 rfl rfl
  subst e
  rw [List.append_assoc] at hP1 hD1
  exact kk q H1 ⟨hP1, hS1, hK, hN2, hD1, hA⟩
theorem r_newq (S : CallFix p m c cc nL s args Ts own) (h : rH D E cy X ws A s H locs) {n : Int32} {N idx : Nat} (h1 : Cond.classLink own idx "java/lang/Object" ∈ Ts) (hn : ¬ n < 0) (hN : n.toNatClampNeg = N) (hby : N * 4 ≤ 536870912) (hcells : cells + 1 ≤ R.cells) (hslots : slots + N ≤ R.slots) (hdg : decode cc pc = .ok (.anewarray idx, 3))
    (kk : ∀ (q : Nat) (H1 : Heap), rH D E cy X (ws ++ [rAr cy q N (fun _ => none)]) A s H1 locs → W p l e R s m args below meth c H1 locs (cells + 1) (slots + N) Q (F0 m (pc + 3) ls (.ref q :: rest))) : W p l e R s m args below meth c H locs cells slots Q (F0 m pc ls (.int n :: rest)) := by
  obtain ⟨hx, hb, -, hown, hts⟩ := S
  obtain ⟨hP, hS, hK, hN2, hD, hA⟩ := h
  refine va_newq hx hb hown (hts _ h1) hN2.2.1.2.2 hK hP hD hS hA hn hN hby hcells hslots hdg (fun q cA H1 hK1 hP1 hD1 hS1 => ?_)
  have e : cA = cy.2 := r_uniq (i := 2) (j := 1) hK1 rfl rfl
  subst e
  rw [List.append_assoc] at hP1 hD1
  exact kk q H1 ⟨hP1, hS1, hK, hN2, hD1, hA⟩
theorem r_iald (S : CallFix p m c cc nL s args Ts own) (h : rH D E cy X ws A s H locs) {a n : Nat} {f : Nat → Int32} {i : Int32} (k0 : Nat) (he : ws[k0]? = some (a, .inl (cy.1, n, .inl f))) (hin : vp_in i n) (hdg : decode cc pc = .ok (.iaload, 1))
    (kk : W p l e R s m args below meth c H locs cells slots Q (F0 m (pc + 1) ls (.int (f i.toNatClampNeg) :: rest))) : W p l e R s m args below meth c H locs cells slots Q (F0 m pc ls (.int i :: .ref a :: rest)) := by
  obtain ⟨hx, hb, -, hown, hts⟩ := S
  obtain ⟨hP, hS, hK, hN, hD, hA⟩ := h
  exact va_iald hx hb hK hP (X.length + k0) 0 (by rw [r_at]; exact he) rfl hin hdg kk
theorem r_iast (S : CallFix p m c cc nL s args Ts own) (h : rH D E cy X ws A s H locs) {a n : Nat} {f : Nat → Int32} {i x : Int32} (k0 : Nat) (he : ws[k0]? = some (a, .inl (cy.1, n, .inl f))) (hin : vp_in i n) (hdg : decode cc pc = .ok (.iastore, 1))
    (kk : ∀ (H1 : Heap) (locs1 : List Loc), rH D E cy X (ws.set k0 (a, .inl (cy.1, n, .inl (upd f i.toNatClampNeg x)))) A s H1 locs1 → W p l e R s m args below meth c H1 locs1 cells slots Q (F0 m (pc + 1) ls rest)) : W p l e R s m args below meth c H locs cells slots Q (F0 m pc ls (.int x :: .int i :: .ref a :: rest)) := by
  obtain ⟨hx, hb, -, hown, hts⟩ := S
  obtain ⟨hP, hS, hK, hN, hD, hA⟩ := h
  refine va_iast hx hb hK hP hD hS (X.length + k0) 0 (by rw [r_at]; exact he) rfl hin hdg (fun H1 locs1 hP1 hD1 hS1 => ?_)
  rw [r_set] at hP1 hD1
  exact kk H1 locs1 ⟨hP1, hS1, hK, hN, hD1, hA⟩
theorem r_alenq (S : CallFix p m c cc nL s args Ts own) (h : rH D E cy X ws A s H locs) {a n : Nat} {f : Nat → Option Nat} {v : Int32} (k0 : Nat) (he : ws[k0]? = some (a, .inl (cy.2, n, .inr (.inr (.inr (.inr f)))))) (hv : Int32.ofNat n = v) (hdg : decode cc pc = .ok (.arraylength, 1))
    (kk : W p l e R s m args below meth c H locs cells slots Q (F0 m (pc + 1) ls (.int v :: rest))) : W p l e R s m args below meth c H locs cells slots Q (F0 m pc ls (.ref a :: rest)) := by
  obtain ⟨hx, hb, -, hown, hts⟩ := S
  obtain ⟨hP, hS, hK, hN, hD, hA⟩ := h
  exact va_alen hx hb hK hP (X.length + k0) 1 (by rw [r_at]; exact he) rfl hv hdg kk
theorem r_alen0 (S : CallFix p m c cc nL s args Ts own) (h : rH D E cy X ws A s H locs) (hdg : decode cc pc = .ok (.arraylength, 1))
    (kk : W p l e R s m args below meth c H locs cells slots Q (F0 m (pc + 1) ls (.int 0 :: rest))) : W p l e R s m args below meth c H locs cells slots Q (F0 m pc ls (.ref E.1 :: rest)) := by
  obtain ⟨hx, hb, -, hown, hts⟩ := S
  obtain ⟨hP, hS, hK, hN, hD, hA⟩ := h
  exact va_tlen hx hb hN.1.1.2.2.1 hS rfl hdg kk
theorem r_alen1 (S : CallFix p m c cc nL s args Ts own) (h : rH D E cy X ws A s H locs) (hdg : decode cc pc = .ok (.arraylength, 1))
    (kk : W p l e R s m args below meth c H locs cells slots Q (F0 m (pc + 1) ls (.int 0 :: rest))) : W p l e R s m args below meth c H locs cells slots Q (F0 m pc ls (.ref E.2.1 :: rest)) := by
  obtain ⟨hx, hb, -, hown, hts⟩ := S
  obtain ⟨hP, hS, hK, hN, hD, hA⟩ := h
  exact va_tlen hx hb hN.1.1.2.2.2 hS rfl hdg kk
theorem r_aald (S : CallFix p m c cc nL s args Ts own) (h : rH D E cy X ws A s H locs) {a n : Nat} {f : Nat → Option Nat} {i : Int32} {r : Option Nat} (k0 : Nat) (he : ws[k0]? = some (a, .inl (cy.2, n, .inr (.inr (.inr (.inr f)))))) (hin : vp_in i n) (hr : f i.toNatClampNeg = r) (hdg : decode cc pc = .ok (.aaload, 1))
    (kk : W p l e R s m args below meth c H locs cells slots Q (F0 m (pc + 1) ls (va_rf r :: rest))) : W p l e R s m args below meth c H locs cells slots Q (F0 m pc ls (.int i :: .ref a :: rest)) := by
  obtain ⟨hx, hb, -, hown, hts⟩ := S
  obtain ⟨hP, hS, hK, hN, hD, hA⟩ := h
  subst hr
  exact va_aldq hx hb hK hP (X.length + k0) 1 (by rw [r_at]; exact he) rfl hin hdg kk
theorem r_aaldS (S : CallFix p m c cc nL s args Ts own) (h : rH D E cy X ws A s H locs) {a n q : Nat} {f : Nat → Option Nat} {i : Int32} (k0 : Nat) (he : ws[k0]? = some (a, .inl (cy.2, n, .inr (.inr (.inr (.inr f)))))) (hin : vp_in i n) (hr : f i.toNatClampNeg = some q) (hdg : decode cc pc = .ok (.aaload, 1))
    (kk : W p l e R s m args below meth c H locs cells slots Q (F0 m (pc + 1) ls (.ref q :: rest))) : W p l e R s m args below meth c H locs cells slots Q (F0 m pc ls (.int i :: .ref a :: rest)) := r_aald S h k0 he hin hr hdg kk
/-- the two empty arrays -/
theorem r_gets0 (S : CallFix p m c cc nL s args Ts own) (h : rH D E cy X ws A s H locs) {idx : Nat} (hlk : Cond.fieldLink own idx RJx4a65c "DEFAULTCAPACITY_EMPTY_ELEMENTDATA" rOa ∈ Ts) (hdg : decode cc pc = .ok (.getstatic idx, 3))
    (kk : W p l e R s m args below meth c H locs cells slots Q (F0 m (pc + 3) ls (.ref E.1 :: rest))) : W p l e R s m args below meth c H locs cells slots Q (F0 m pc ls rest) := by
  obtain ⟨hx, hb, -, hown, hts⟩ := S
  obtain ⟨hP, hS, hK, hN, hD, hA⟩ := h
  exact va_gets hx hb hN.1.1.1 hS hown (hts _ hlk) (fun _ h9 => h9) hdg kk
theorem r_gets1 (S : CallFix p m c cc nL s args Ts own) (h : rH D E cy X ws A s H locs) {idx : Nat} (hlk : Cond.fieldLink own idx RJx4a65c "EMPTY_ELEMENTDATA" rOa ∈ Ts) (hdg : decode cc pc = .ok (.getstatic idx, 3))
    (kk : W p l e R s m args below meth c H locs cells slots Q (F0 m (pc + 3) ls (.ref E.2.1 :: rest))) : W p l e R s m args below meth c H locs cells slots Q (F0 m pc ls rest) := by
  obtain ⟨hx, hb, -, hown, hts⟩ := S
  obtain ⟨hP, hS, hK, hN, hD, hA⟩ := h
  exact va_gets hx hb hN.1.1.2.1 hS hown (hts _ hlk) (fun _ h9 => h9) hdg kk
/-- what may be put into a list: an object of X, or a cached Integer -/
def rEl (E : rEn) (X : va_W) (C : String) (v : Nat) : Prop := (∃ (k ci : Nat) (vs : List Value) (T : u_T) (N : Nat), X[k]? = some (v, .inr (ci, vs)) ∧ vwCl[ci]? = some (C, T, N)) ∨ (C = "java/lang/Integer" ∧ ∃ k : Nat, k < 256 ∧ v = E.2.2.1 k)
theorem rEl.at {C : String} {v : Nat} (hv : rEl E X C v) (h : rH D E cy X ws A s H locs) : ∃ cellV : Cell, H[v]? = some cellV ∧ cellV.vm.isStatics = false ∧ s.vm.findClass C = some cellV.cls := by
  obtain ⟨hP, hS, hK, hN, hD, hA⟩ := h
  rcases hv with ⟨k, ci, vs, T, N, h1, h2⟩ | ⟨rfl, k, hk, rfl⟩
  · exact va_recv (q := (C, T, N)) hK hP h2 (q0 := k) (by rw [List.getElem?_append_left (List.getElem?_eq_some_iff.mp h1).1]; exact h1)
  · obtain ⟨cell, g1, g2, g3, -⟩ := (hN.1.2.1.2.2.2.1 k hk).kept hS.2.1
    exact ⟨cell, g1, g2, g3⟩
theorem rEl.app {Y : va_W} {C : String} {v : Nat} (hv : rEl E X C v) : rEl E (X ++ Y) C v := by
  rcases hv with ⟨k, ci, vs, T, N, h1, h2⟩ | h
  · exact Or.inl ⟨k, ci, vs, T, N, by rw [List.getElem?_append_left (List.getElem?_eq_some_iff.mp h1).1]; exact h1, h2⟩
  · exact Or.inr h
theorem rEl.here {Y : va_W} {C : String} {v k ci N : Nat} {vs : List Value} {T : u_T} (h : Y[k]? = some (v, .inr (ci, vs))) (hc : vwCl[ci]? = some (C, T, N)) : rEl E (X ++ Y) C v := Or.inl ⟨X.length + k, ci, vs, T, N, by rw [r_at]; exact h, hc⟩
theorem r_aast (S : CallFix p m c cc nL s args Ts own) (h : rH D E cy X ws A s H locs) {C : String} {a n v : Nat} {f : Nat → Option Nat} {i : Int32} (k0 : Nat) (he : ws[k0]? = some (a, .inl (cy.2, n, .inr (.inr (.inr (.inr f)))))) (hv : rEl E X C v) (hca : va_Nw (.castable C "java/lang/Object") s) (hin : vp_in i n) (hdg : decode cc pc = .ok (.aastore, 1))
    (kk : ∀ (H1 : Heap) (locs1 : List Loc), rH D E cy X (ws.set k0 (a, .inl (cy.2, n, .inr (.inr (.inr (.inr (va_up f i.toNatClampNeg (some v)))))))) A s H1 locs1 → W p l e R s m args below meth c H1 locs1 cells slots Q (F0 m (pc + 1) ls rest)) : W p l e R s m args below meth c H locs cells slots Q (F0 m pc ls (.ref v :: .int i :: .ref a :: rest)) := by
  have hc := hv.at h
  obtain ⟨hx, hb, -, hown, hts⟩ := S
  obtain ⟨hP, hS, hK, hN, hD, hA⟩ := h
  refine vb_astq hx hb hK hP hD hS (X.length + k0) 1 (by rw [r_at]; exact he) rfl hc (vb_asgC hca) hin hdg (fun H1 locs1 hP1 hD1 hS1 => ?_)
  rw [r_set] at hP1 hD1
  exact kk H1 locs1 ⟨hP1, hS1, hK, hN, hD1, hA⟩
/-- a cast to the object's own class -/
theorem r_cast (S : CallFix p m c cc nL s args Ts own) (h : rH D E cy X ws A s H locs) {C : String} {T : u_T} {N a ci idx : Nat} {vs : List Value} (k0 : Nat) (he : ws[k0]? = some (a, .inr (ci, vs))) (hc : vwCl[ci]? = some (C, T, N)) (hlk : Cond.classLink own idx C ∈ Ts) (hdg : decode cc pc = .ok (.checkcast idx, 3))
    (kk : W p l e R s m args below meth c H locs cells slots Q (F0 m (pc + 3) ls (.ref a :: rest))) : W p l e R s m args below meth c H locs cells slots Q (F0 m pc ls (.ref a :: rest)) := by
  obtain ⟨hx, hb, -, hown, hts⟩ := S
  obtain ⟨hP, hS, hK, hN, hD, hA⟩ := h
  exact va_castE hx hb hown (hts _ hlk) (va_recv (q := (C, T, N)) hK hP hc (q0 := X.length + k0) (by rw [r_at]; exact he)) hdg kk
/-- the ends -/
theorem r_reti (S : CallFix p m c cc nL s args Ts own) (h : rH D E cy X ws A s H locs) {ty : FieldType} {v r : Int32} {S0 : Type} {out : S0 → va_W} {ok : S0 → Prop} {mc ms : Nat} (u : S0) (hu : out u = ws) (hok : ok u) (hr : meth.sig.returnType = some ty) (hlocks : meth.locks = false) (hn : narrow ty (.int v) = .int v) (hv : v = r) (hm : cells ≤ mc ∧ slots ≤ ms) (hdg : decode cc pc = .ok (.ireturn, 1)) :
    W p l e R s m args below meth c H locs cells slots (MQ below (va_Qi (fun (q : Int32) (u : S0) => q = r ∧ ok u) (fun u t => va_P D vwCl (X ++ out u) t.heap ∧ va_D A (X ++ out u)) A) args s mc ms A) (F0 m pc ls [.int v]) := by
  obtain ⟨hx, hb, -, hown, hts⟩ := S
  obtain ⟨hP, hS, hK, -, hD, -⟩ := h
  subst hu
  refine W.widen (k := mc) (n := ms) hm.1 hm.2 ?_
  exact W.zret hx hb hr hn (fun t ht hW => ⟨⟨v, u, rfl, ⟨hv, hok⟩, by rw [ht]; exact hP, hD⟩, hS.F ht⟩) hS.2.2 hdg hlocks
theorem r_retv (S : CallFix p m c cc nL s args Ts own) (h : rH D E cy X ws A s H locs) {S0 : Type} {out : S0 → va_W} {ok : S0 → Prop} {mc ms : Nat} (u : S0) (hu : out u = ws) (hok : ok u) (hr : meth.sig.returnType = none) (hlocks : meth.locks = false) (hm : cells ≤ mc ∧ slots ≤ ms) (hdg : decode cc pc = .ok (.return_, 1)) :
    W p l e R s m args below meth c H locs cells slots (MQ below (va_Qv (fun (u : S0) => ok u) (fun u t => va_P D vwCl (X ++ out u) t.heap ∧ va_D A (X ++ out u)) A) args s mc ms A) (F0 m pc ls []) := by
  obtain ⟨hx, hb, -, hown, hts⟩ := S
  obtain ⟨hP, hS, hK, -, hD, -⟩ := h
  subst hu
  refine W.widen (k := mc) (n := ms) hm.1 hm.2 ?_
  exact W.vret hx hb hr (fun t ht hW => ⟨⟨u, rfl, hok, by rw [ht]; exact hP, hD⟩, hS.F ht⟩) hS.2.2 hdg hlocks
theorem r_retr (S : CallFix p m c cc nL s args Ts own) (h : rH D E cy X ws A s H locs) {ty : FieldType} (hty : (∃ C : String, ty = .object C) ∨ ∃ t : FieldType, ty = .array t) {a : Nat} {S0 : Type} {r : S0 → Nat} {out : S0 → va_W} {ok : S0 → Prop} {mc ms : Nat} (u : S0) (hu : out u = ws) (hok : ok u) (hr : meth.sig.returnType = some ty) (hlocks : meth.locks = false) (hv : a = r u) (hm : cells ≤ mc ∧ slots ≤ ms) (hdg : decode cc pc = .ok (.areturn, 1)) :
    W p l e R s m args below meth c H locs cells slots (MQ below (va_Qr (fun (u : S0) => ok u) (fun u a t => a = r u ∧ va_P D vwCl (X ++ out u) t.heap ∧ va_D A (X ++ out u)) A) args s mc ms A) (F0 m pc ls [.ref a]) := by
  obtain ⟨hx, hb, -, hown, hts⟩ := S
  obtain ⟨hP, hS, hK, -, hD, -⟩ := h
  subst hu
  refine W.widen (k := mc) (n := ms) hm.1 hm.2 ?_
  exact W.aret hx hb hr hty (Or.inr ⟨_, rfl⟩) (fun t ht hW => ⟨⟨u, a, rfl, hok, hv, by rw [ht]; exact hP, hD⟩, hS.F ht⟩) hS.2.2 hdg hlocks
theorem r_retl (S : CallFix p m c cc nL s args Ts own) (h : rH D E cy X ws A s H locs) {v r : Int64} {S0 : Type} {out : S0 → va_W} {ok : S0 → Prop} {mc ms : Nat} (u : S0) (hu : out u = ws) (hok : ok u) (hr : meth.sig.returnType = some .long) (hlocks : meth.locks = false) (hv : v = r) (hm : cells ≤ mc ∧ slots ≤ ms) (hdg : decode cc pc = .ok (.lreturn, 1)) :
    W p l e R s m args below meth c H locs cells slots (MQ below (va_Ql (fun (q : Int64) (u : S0) => q = r ∧ ok u) (fun u t => va_P D vwCl (X ++ out u) t.heap ∧ va_D A (X ++ out u)) A) args s mc ms A) (F0 m pc ls [.long v]) := by
  obtain ⟨hx, hb, -, hown, hts⟩ := S
  obtain ⟨hP, hS, hK, -, hD, -⟩ := h
  subst hu
  refine W.widen (k := mc) (n := ms) hm.1 hm.2 ?_
  exact W.lret hx hb hr (fun t ht hW => ⟨⟨v, u, rfl, ⟨hv, hok⟩, by rw [ht]; exact hP, hD⟩, hS.F ht⟩) hS.2.2 hdg hlocks
/-- what a call meets: the callee's cells wc, and the others behind X -/
theorem r_preS (h : rH D E cy X ws A s H locs) (is js : List Nat) {wr wc : va_W} (hn : va_nd (is ++ js) = true) (hr : is.map (fun i => ws[i]?) = wr.map some) (hc : js.map (fun i => ws[i]?) = wc.map some) (av : List Value) : PreS s H (rPc D E cy (X ++ wr) wc A av) av := by
  have h2 := h.pick (is ++ js) (w := wr ++ wc) hn (by rw [List.map_append, List.map_append, hr, hc])
  obtain ⟨hP, hS, hK, hN, hD, hA⟩ := h2
  rw [← List.append_assoc] at hP hD
  exact ⟨rPc_blind D E cy _ _ _ _, fun U hU hW => ⟨rfl, by rw [hU]; exact hP, va_K.moved hW.alike hK, ⟨by rw [hU]; exact rE.moved hW.alike (hN.1.kept hS.2.1), hN.2.warm hW⟩, hD, fun q hq => hA q (Nat.le_trans hS.1 (by rw [hU] at hq; exact hq))⟩⟩
theorem r_preV (h : rH D E cy X ws A s H locs) (is js : List Nat) {wr wc : va_W} (hn : va_nd (is ++ js) = true) (hr : is.map (fun i => ws[i]?) = wr.map some) (hc : js.map (fun i => ws[i]?) = wc.map some) {C : String} {T : u_T} {N a ci : Nat} {vs : List Value} (k0 : Nat) (he : ws[k0]? = some (a, .inr (ci, vs))) (hcl : vwCl[ci]? = some (C, T, N)) (As : List Value) : PreV s H C a (rPc D E cy (X ++ wr) wc A (.ref a :: As)) As := by
  obtain ⟨p1, p2⟩ := r_preS h is js hn hr hc (.ref a :: As)
  obtain ⟨hP, hS, hK, hN, hD, hA⟩ := h
  exact ⟨p1, va_recv (q := (C, T, N)) hK hP hcl (q0 := X.length + k0) (by rw [r_at]; exact he), p2⟩
theorem r_after (h : rH D E cy X ws A s H locs) {wr out : va_W} {H1 : Heap} {locs1 : List Loc} (hP1 : va_P D vwCl ((X ++ wr) ++ out) H1) (hD1 : va_D A ((X ++ wr) ++ out)) (hS1 : va_S A s.heap H1 locs1) : rH D E cy X (wr ++ out) A s H1 locs1 := by
  obtain ⟨hP, hS, hK, hN, hD, hA⟩ := h
  rw [List.append_assoc] at hP1 hD1
  exact ⟨hP1, hS1, hK, hN, hD1, hA⟩
section calls
variable {y : MethodName} {bytes : ByteArray} {maxL n idx mc ms : Nat} {ret : Option FieldType} {wy : List Cond} {rm : Room} {C : String} {As : List Value} {b : Nat} {st0 : List Value} {S0 : Type} {out : S0 → va_W} {ok : S0 → Prop} {wr wc : va_W}
theorem r_calli (S : CallFix p m c cc nL s args Ts own) (h : rH D E cy X ws A s H locs) {r : Int32} (hM : rMi l y wy rm D E cy (X ++ wr) wc A (.ref b :: As) r out ok mc ms) (cw : CallW R s args own C idx y bytes maxL ret wy rm mc ms n) (hp : PreV s H C b (rPc D E cy (X ++ wr) wc A (.ref b :: As)) As)
    (hn : As.length = n) (hsize : ls.size = nL) (hstack : st0 = As.reverse ++ .ref b :: rest) (hW : 2 * 0 + (rest.map fun v => v.category).sum ≤ 8) (hdg : decode cc pc = .ok (.invokevirtual idx, 3)) (hf : cells + mc ≤ R.cells ∧ slots + ms ≤ R.slots)
    (kk : ∀ (u : S0) (H1 : Heap) (locs1 : List Loc), ok u → rH D E cy X (wr ++ out u) A s H1 locs1 → W p l e R s m args below meth c H1 locs1 (cells + mc) (slots + ms) Q (F0 m (pc + 3) ls (.int r :: rest))) : W p l e R s m args below meth c H locs cells slots Q (F0 m pc ls st0) := by
  refine va_calli (va_runV S hM cw hp rfl hn hsize hstack hW hdg hf) h.2.1 (fun q _ h => h) (fun q h => h) (fun r u t H1 locs1 ht hvm hw hB hz1 hk1 hS1 => ?_)
  rw [ht] at hB
  obtain ⟨hw, hok⟩ := hw
  subst hw
  exact kk u H1 locs1 hok (r_after h hB.1 hB.2 hS1)
theorem r_callv (S : CallFix p m c cc nL s args Ts own) (h : rH D E cy X ws A s H locs) (hM : rMv l y wy rm D E cy (X ++ wr) wc A (.ref b :: As) out ok mc ms) (cw : CallW R s args own C idx y bytes maxL ret wy rm mc ms n) (hp : PreV s H C b (rPc D E cy (X ++ wr) wc A (.ref b :: As)) As)
    (hn : As.length = n) (hsize : ls.size = nL) (hstack : st0 = As.reverse ++ .ref b :: rest) (hW : 2 * 0 + (rest.map fun v => v.category).sum ≤ 8) (hdg : decode cc pc = .ok (.invokevirtual idx, 3)) (hf : cells + mc ≤ R.cells ∧ slots + ms ≤ R.slots)
    (kk : ∀ (u : S0) (H1 : Heap) (locs1 : List Loc), ok u → rH D E cy X (wr ++ out u) A s H1 locs1 → W p l e R s m args below meth c H1 locs1 (cells + mc) (slots + ms) Q (F0 m (pc + 3) ls rest)) : W p l e R s m args below meth c H locs cells slots Q (F0 m pc ls st0) := by
  refine va_callv (va_runV S hM cw hp rfl hn hsize hstack hW hdg hf) h.2.1 (fun q _ h => h) (fun q h => h) (fun u t H1 locs1 ht hvm hw hB hz1 hk1 hS1 => ?_)
  rw [ht] at hB
  exact kk u H1 locs1 hw (r_after h hB.1 hB.2 hS1)
theorem r_callr (S : CallFix p m c cc nL s args Ts own) (h : rH D E cy X ws A s H locs) {r : S0 → Nat} (hM : rMr l y wy rm D E cy (X ++ wr) wc A (.ref b :: As) r out ok mc ms) (cw : CallW R s args own C idx y bytes maxL ret wy rm mc ms n) (hp : PreV s H C b (rPc D E cy (X ++ wr) wc A (.ref b :: As)) As)
    (hn : As.length = n) (hsize : ls.size = nL) (hstack : st0 = As.reverse ++ .ref b :: rest) (hW : 2 * 0 + (rest.map fun v => v.category).sum ≤ 8) (hdg : decode cc pc = .ok (.invokevirtual idx, 3)) (hf : cells + mc ≤ R.cells ∧ slots + ms ≤ R.slots)
    (kk : ∀ (u : S0) (H1 : Heap) (locs1 : List Loc), ok u → rH D E cy X (wr ++ out u) A s H1 locs1 → W p l e R s m args below meth c H1 locs1 (cells + mc) (slots + ms) Q (F0 m (pc + 3) ls (.ref (r u) :: rest))) : W p l e R s m args below meth c H locs cells slots Q (F0 m pc ls st0) := by
  refine va_callr (va_runV S hM cw hp rfl hn hsize hstack hW hdg hf) h.2.1 (fun q _ h => h) (fun q h => h) (fun u ra t H1 locs1 ht hvm hw hB hz1 hk1 hS1 => ?_)
  obtain ⟨hra, hB⟩ := hB
  rw [ht] at hB
  subst hra
  exact kk u H1 locs1 hw (r_after h hB.1 hB.2 hS1)
theorem r_calliS (S : CallFix p m c cc nL s args Ts own) (h : rH D E cy X ws A s H locs) {r : Int32} (hM : rMi l y wy rm D E cy (X ++ wr) wc A As r out ok mc ms) (cw : CallB R s args own idx y bytes maxL ret wy rm mc ms n ∧ (Cond.static y).before args s = true) (hp : PreS s H (rPc D E cy (X ++ wr) wc A As) As)
    (hn : As.length = n) (hsize : ls.size = nL) (hstack : st0 = As.reverse ++ rest) (hW : 2 * 0 + (rest.map fun v => v.category).sum ≤ 8) (hdg : decode cc pc = .ok (.invokestatic idx, 3)) (hf : cells + mc ≤ R.cells ∧ slots + ms ≤ R.slots)
    (kk : ∀ (u : S0) (H1 : Heap) (locs1 : List Loc), ok u → rH D E cy X (wr ++ out u) A s H1 locs1 → W p l e R s m args below meth c H1 locs1 (cells + mc) (slots + ms) Q (F0 m (pc + 3) ls (.int r :: rest))) : W p l e R s m args below meth c H locs cells slots Q (F0 m pc ls st0) := by
  refine va_calli (va_runS S hM cw hp rfl hn hsize hstack hW hdg hf) h.2.1 (fun q _ h => h) (fun q h => h) (fun r u t H1 locs1 ht hvm hw hB hz1 hk1 hS1 => ?_)
  rw [ht] at hB
  obtain ⟨hw, hok⟩ := hw
  subst hw
  exact kk u H1 locs1 hok (r_after h hB.1 hB.2 hS1)
theorem r_calllS (S : CallFix p m c cc nL s args Ts own) (h : rH D E cy X ws A s H locs) {r : Int64} (hM : rMl l y wy rm D E cy (X ++ wr) wc A As r out ok mc ms) (cw : CallB R s args own idx y bytes maxL ret wy rm mc ms n ∧ (Cond.static y).before args s = true) (hp : PreS s H (rPc D E cy (X ++ wr) wc A As) As)
    (hn : As.length = n) (hsize : ls.size = nL) (hstack : st0 = As.reverse ++ rest) (hW : 2 * 0 + (rest.map fun v => v.category).sum ≤ 8) (hdg : decode cc pc = .ok (.invokestatic idx, 3)) (hf : cells + mc ≤ R.cells ∧ slots + ms ≤ R.slots)
    (kk : ∀ (u : S0) (H1 : Heap) (locs1 : List Loc), ok u → rH D E cy X (wr ++ out u) A s H1 locs1 → W p l e R s m args below meth c H1 locs1 (cells + mc) (slots + ms) Q (F0 m (pc + 3) ls (.long r :: rest))) : W p l e R s m args below meth c H locs cells slots Q (F0 m pc ls st0) := by
  refine va_calll (va_runS S hM cw hp rfl hn hsize hstack hW hdg hf) h.2.1 (fun q _ h => h) (fun q h => h) (fun r u t H1 locs1 ht hvm hw hB hz1 hk1 hS1 => ?_)
  rw [ht] at hB
  obtain ⟨hw, hok⟩ := hw
  subst hw
  exact kk u H1 locs1 hok (r_after h hB.1 hB.2 hS1)
theorem r_callrS (S : CallFix p m c cc nL s args Ts own) (h : rH D E cy X ws A s H locs) {r : S0 → Nat} (hM : rMr l y wy rm D E cy (X ++ wr) wc A As r out ok mc ms) (cw : CallB R s args own idx y bytes maxL ret wy rm mc ms n ∧ (Cond.static y).before args s = true) (hp : PreS s H (rPc D E cy (X ++ wr) wc A As) As)
    (hn : As.length = n) (hsize : ls.size = nL) (hstack : st0 = As.reverse ++ rest) (hW : 2 * 0 + (rest.map fun v => v.category).sum ≤ 8) (hdg : decode cc pc = .ok (.invokestatic idx, 3)) (hf : cells + mc ≤ R.cells ∧ slots + ms ≤ R.slots)
    (kk : ∀ (u : S0) (H1 : Heap) (locs1 : List Loc), ok u → rH D E cy X (wr ++ out u) A s H1 locs1 → W p l e R s m args below meth c H1 locs1 (cells + mc) (slots + ms) Q (F0 m (pc + 3) ls (.ref (r u) :: rest))) : W p l e R s m args below meth c H locs cells slots Q (F0 m pc ls st0) := by
  refine va_callr (va_runS S hM cw hp rfl hn hsize hstack hW hdg hf) h.2.1 (fun q _ h => h) (fun q h => h) (fun u ra t H1 locs1 ht hvm hw hB hz1 hk1 hS1 => ?_)
  obtain ⟨hra, hB⟩ := hB
  rw [ht] at hB
  subst hra
  exact kk u H1 locs1 hw (r_after h hB.1 hB.2 hS1)
theorem r_callI (S : CallFix p m c cc nL s args Ts own) (h : rH D E cy X ws A s H locs) (hM : rMv l y wy rm D E cy (X ++ wr) wc A (.ref b :: As) out ok mc ms) (cw : CallB R s args own idx y bytes maxL none wy rm mc ms n ∧ y.name = "<init>" ∧ (Cond.instanceMethod y).before args s = true) (hp : PreS s H (rPc D E cy (X ++ wr) wc A (.ref b :: As)) (.ref b :: As))
    (hn : As.length = n) (hsize : ls.size = nL) (hstack : st0 = As.reverse ++ .ref b :: rest) (hW : 2 * 0 + (rest.map fun v => v.category).sum ≤ 8) (hdg : decode cc pc = .ok (.invokespecial idx, 3)) (hf : cells + mc ≤ R.cells ∧ slots + ms ≤ R.slots)
    (kk : ∀ (u : S0) (H1 : Heap) (locs1 : List Loc), ok u → rH D E cy X (wr ++ out u) A s H1 locs1 → W p l e R s m args below meth c H1 locs1 (cells + mc) (slots + ms) Q (F0 m (pc + 3) ls rest)) : W p l e R s m args below meth c H locs cells slots Q (F0 m pc ls st0) := by
  refine va_callv (va_runI S hM cw hp rfl hn hsize hstack hW hdg hf) h.2.1 (fun q _ h => h) (fun q h => h) (fun u t H1 locs1 ht hvm hw hB hz1 hk1 hS1 => ?_)
  rw [ht] at hB
  exact kk u H1 locs1 hw (r_after h hB.1 hB.2 hS1)
theorem r_callIN {host : String} (S : CallFix p m c cc nL s args Ts own) (h : rH D E cy X ws A s H locs) (hM : rMv l y wy rm D E cy (X ++ wr) wc A (.ref b :: As) out ok mc ms) (cw : va_CN R s args own idx y host bytes maxL none wy rm mc ms n ∧ y.name = "<init>" ∧ (Cond.instanceMethod y).before args s = true) (hp : PreS s H (rPc D E cy (X ++ wr) wc A (.ref b :: As)) (.ref b :: As))
    (hn : As.length = n) (hsize : ls.size = nL) (hstack : st0 = As.reverse ++ .ref b :: rest) (hW : 2 * 0 + (rest.map fun v => v.category).sum ≤ 8) (hdg : decode cc pc = .ok (.invokespecial idx, 3)) (hf : cells + mc ≤ R.cells ∧ slots + ms ≤ R.slots)
    (kk : ∀ (u : S0) (H1 : Heap) (locs1 : List Loc), ok u → rH D E cy X (wr ++ out u) A s H1 locs1 → W p l e R s m args below meth c H1 locs1 (cells + mc) (slots + ms) Q (F0 m (pc + 3) ls rest)) : W p l e R s m args below meth c H locs cells slots Q (F0 m pc ls st0) := by
  refine va_callv (va_runIN S hM cw hp rfl hn hsize hstack hW hdg hf) h.2.1 (fun q _ h => h) (fun q h => h) (fun u t H1 locs1 ht hvm hw hB hz1 hk1 hS1 => ?_)
  rw [ht] at hB
  exact kk u H1 locs1 hw (r_after h hB.1 hB.2 hS1)
end calls
/-- the entry -/
def rB (p : Program) (m : MethodId) (meth : Method) (c : Code) (cc : ByteArray) (nL : Nat) (s : State) (args : Array Value) (Ts : List Cond) (y : MethodName) (ret : Option FieldType) (D : va_G) (E : rEn) (cy : rC) (X ws : va_W) (A : Nat → Prop) (av : List Value) (ls : Array Slot) : Prop :=
  CallFix p m c cc nL s args Ts y.cls ∧ meth.sig.returnType = ret ∧ meth.locks = false ∧ meth.name = y.name ∧ rH D E cy X ws A s s.heap [] ∧ lv_has ls nL (lv_args 0 av)
theorem r_entry {y : MethodName} {wy ws' : List Cond} {rm : Room} {cc : ByteArray} {maxL mc ms : Nat} {ret : Option FieldType} {av : List Value} {Qc : Array Value → State → Outcome → State → Prop} (hy : plainFor y = true) (hw : wy = Cond.code y cc maxL ret :: ws') (hlen : (lg_sl av).length ≤ maxL)
    (body : ∀ (p : Program) (e : Env) (s : State) (m : MethodId) (args : Array Value) (below : List Frame) (meth : Method) (c : Code) (ls : Array Slot), rB p m meth c cc maxL s args wy y ret D E cy X ws A av ls → W p l e rm s m args below meth c s.heap [] 0 0 (MQ below Qc args s mc ms A) (F0 m 0 ls [])) :
    Met l y wy rm (rPc D E cy X ws A av) Qc mc ms A := by
  refine va_MetF (cc := cc) (maxL := maxL) (ret := ret) hy hw ?_
  intro p e s m args below meth c s₁ B hml hv
  obtain ⟨rfl, hP, hK, hN, hD, hA⟩ := hv
  have hts := atoms_spec (ws := wy) B.pre
  have hown : s.vm.findClass y.cls = some m.cls := findClass_of_methodNamed B.named
  rw [lg_entry_eq]
  exact body p e s m _ below meth c _ ⟨⟨B.exec, B.bytes, hml, hown, hts⟩, B.returns, B.notSynchronized, (name_of_methodNamed B.named B.method).1, ⟨hP, va_S.rf, hK, hN, hD, hA⟩, lv_entry av hlen⟩
end RW
