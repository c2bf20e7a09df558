/-! THE LAW'S METHODS: rows for arrays that lie ahead of the object's cells, the script, the two helpers. -/
/-- the script, as a method of the law sees it -/
def scr (b Lb : Nat) (xs : Nat → Int32) (A : Nat → Prop) (U : State) : Prop := va_X b Lb xs U U.heap ∧ b < U.heap.size ∧ ¬ A b
/-- rows of arrays can be made -/
def aoA (t : FieldType) (U : State) : Prop := (Cond.arrayOver (.array t)).before #[] U = true
/-- the start of a method of the law -/
def sPc (D : va_G) (L : Nat → Nat) (cy : Nat → ClassId) (X : va_W) (A : Nat → Prop) (st : gSt) (b Lb : Nat) (xs : Nat → Int32) (av : List Value) : Array Value → State → Prop := va_Pc av (fun U => va_P D vwCl (X ++ gW L cy st) U.heap ∧ va_K D vwCl (gty cy) U ∧ gN U ∧ (∀ q, U.heap.size ≤ q → A q) ∧ scr b Lb xs A U)
theorem sPc_blind (D : va_G) (L : Nat → Nat) (cy : Nat → ClassId) (X : va_W) (A : Nat → Prop) (st : gSt) (b Lb : Nat) (xs : Nat → Int32) (av : List Value) : FrameBlind (sPc D L cy X A st b Lb xs av) := by
  intro a U g mk q
  obtain ⟨q0, qP, qK, qN, qA, qX⟩ := q
  exact ⟨q0, qP, va_K.moved (u := U) (U := U.calling g mk a) (Vm.Alike.refl U.vm) qK, gN.same (s := U) (U := U.calling g mk a) rfl qN, qA, ⟨va_X.moved (u := U) (U := U.calling g mk a) (Vm.Alike.refl U.vm) qX.1, qX.2⟩⟩
section LW
variable {p : Program} {l : Launch} {e : Env} {R : Room} {s : State} {m : MethodId} {args : Array Value} {below : List Frame} {meth : Method} {c : Code} {H : Heap} {locs : List Loc} {cells slots : Nat} {Q : State → Prop}
variable {cc : ByteArray} {nL : Nat} {Ts : List Cond} {own : String} {D : va_G} {L : Nat → Nat} {cy : Nat → ClassId} {X : va_W} {A : Nat → Prop} {st st' : gSt} {pc : Nat} {ls : Array Slot} {rest : List Value} {b Lb : Nat} {xs : Nat → Int32}
/-- the entry of a method of the law -/
def sB (p : Program) (m : MethodId) (meth : Method) (c : Code) (cc : ByteArray) (nL : Nat) (s : State) (args : Array Value) (Ts : List Cond) (own : String) (ret : Option FieldType) (D : va_G) (L : Nat → Nat) (cy : Nat → ClassId) (X : va_W) (A : Nat → Prop) (st : gSt) (b Lb : Nat) (xs : Nat → Int32) (av : List Value) (ls : Array Slot) : Prop :=
  CallFix p m c cc nL s args Ts own ∧ meth.sig.returnType = ret ∧ meth.locks = false ∧ gH D L cy X A st s s.heap [] ∧ lv_has ls nL (lv_args 0 av) ∧ (∀ q, s.heap.size ≤ q → A q) ∧ scr b Lb xs A s
theorem s_entry {y : MethodName} {ws ws' : List Cond} {rm : Room} {cc : ByteArray} {maxL mc ms : Nat} {ret : Option FieldType} {av : List Value} {Qc : Array Value → State → Outcome → State → Prop} (hD : va_D A (X ++ gW L cy st)) (hy : plainName y.cls = true) (hw : ws = Cond.code y cc maxL ret :: ws') (hlen : (lg_sl av).length ≤ maxL)
    (body : ∀ (p : Program) (e : Env) (s : State) (m : MethodId) (args : Array Value) (below : List Frame) (meth : Method) (c : Code) (ls : Array Slot), sB p m meth c cc maxL s args ws y.cls ret D L cy X A st b Lb xs av ls → W p l e rm s m args below meth c s.heap [] 0 0 (MQ below Qc args s mc ms A) (F0 m 0 ls [])) :
    Met l y ws rm (sPc D L cy X A st b Lb xs av) Qc mc ms A := by
  refine Met.ofW (cc := cc) (maxL := maxL) (ret := ret) hy hw ?_
  intro p e s m args below meth c s₁ B hml hv
  obtain ⟨rfl, hP, hK, hN, hA, hX⟩ := hv
  have hts := atoms_spec (ws := ws) B.pre
  have hown : s.vm.findClass y.cls = some m.cls := findClass_of_methodNamed B.named
  rw [lg_entry_eq]
  exact body p e s m _ below meth c _ ⟨⟨B.exec, B.bytes, hml, hown, hts⟩, B.returns, B.notSynchronized, ⟨hP, va_S.rf, hK, hN, fun st' => gW_D hD st'⟩, lv_entry av hlen, hA, hX⟩
theorem s_preS (h : gH D L cy X A st s H locs) (hA : ∀ q, s.heap.size ≤ q → A q) (hX : scr b Lb xs A s) (As : List Value) : PreS s H (sPc D L cy X A st b Lb xs As) As := by
  obtain ⟨hP, hS, hK, hN, hD⟩ := h
  refine ⟨sPc_blind D L cy X A st b Lb xs _, fun U hU hW => ⟨rfl, by rw [hU]; exact hP, va_K.moved hW.alike hK, gN.warm hW hN, fun q hq => hA q (Nat.le_trans hS.1 (by rw [← hU]; exact hq)), ?_⟩⟩
  refine ⟨?_, by rw [hU]; exact Nat.lt_of_lt_of_le hX.2.1 hS.1, hX.2.2⟩
  rw [hU]
  exact va_X.moved hW.alike (va_X.kept hX.1 (hS.2.1 b hX.2.1 hX.2.2))
/-- a row of numbers is made; it lies ahead -/
theorem s_newi (S : CallFix p m c cc nL s args Ts own) (h : gH D L cy X A st s H locs) (hA : ∀ q, s.heap.size ≤ q → A q) {n : Int32} {N : Nat} (h1 : Cond.arrayClass .int ∈ Ts) (hn : ¬ n < 0) (hN : n.toNatClampNeg = N) (hby : N * componentBytes .int ≤ 536870912) (hcells : cells + 1 ≤ R.cells) (hslots : slots + N ≤ R.slots) (hdg : decode cc pc = .ok (.newarray .int, 2))
    (kk : ∀ (q : Nat) (H1 : Heap), gH D L cy ((q, .inl (cy 0, N, .inl (fun _ => 0))) :: X) A st s H1 locs → W p l e R s m args below meth c H1 locs (cells + 1) (slots + N) Q (F0 m (pc + 2) ls (.ref q :: rest))) : W p l e R s m args below meth c H locs cells slots Q (F0 m pc ls (.int n :: rest)) := by
  obtain ⟨hx, hb, -, hown, hts⟩ := S
  obtain ⟨hP, hS, hK, hN2, hD⟩ := h
  refine va_newa (atype := .int) (ty := .int) (a0 := (N, .inl (fun _ => 0))) hx hb (hts _ h1) rfl hK hP (hD st) hS hA (fun _ => rfl) hn hN hby hcells hslots hdg (fun q cA H1 hK1 hP1 hD1 hS1 => ?_)
  have e : cA = cy 0 := K_uniq (i := 4) (j := 0) hK1 rfl rfl
  subst e
  have hP2 : va_P D vwCl (((q, .inl (cy 0, N, .inl (fun _ => 0))) :: X) ++ gW L cy st) H1 := va_P.swap (a := []) (b := X ++ gW L cy st) (c := [(q, .inl (cy 0, N, .inl (fun _ => 0)))]) hP1
  have hD2 : va_D A (((q, .inl (cy 0, N, .inl (fun _ => 0))) :: X) ++ gW L cy st) := va_D.swap (a := []) (b := X ++ gW L cy st) (c := [(q, .inl (cy 0, N, .inl (fun _ => 0)))]) hD1
  exact kk q H1 ⟨hP2, hS1, hK, hN2, fun st' => gW_D hD2 st'⟩
theorem s_ial {f : Nat → Int32} {o N : Nat} (S : CallFix p m c cc nL s args Ts own) (h : gH D L cy ((o, .inl (cy 0, N, .inl f)) :: X) A st s H locs) {i : Int32} (hin : vp_in i N) (hdg : decode cc pc = .ok (.iaload, 1))
    (kk : W p l e R s m args below meth c H locs cells slots Q (F0 m (pc + 1) ls (.int (f i.toNatClampNeg) :: rest))) : W p l e R s m args below meth c H locs cells slots Q (F0 m pc ls (.int i :: .ref o :: rest)) :=
  va_iald S.1 S.2.1 h.2.2.1 h.1 0 0 rfl rfl hin hdg kk
theorem s_ias {f : Nat → Int32} {o N : Nat} (S : CallFix p m c cc nL s args Ts own) (h : gH D L cy ((o, .inl (cy 0, N, .inl f)) :: X) A st s H locs) {i x : Int32} (hin : vp_in i N) (hdg : decode cc pc = .ok (.iastore, 1))
    (kk : ∀ (H1 : Heap) (locs1 : List Loc), gH D L cy ((o, .inl (cy 0, N, .inl (upd f i.toNatClampNeg x))) :: X) A st s H1 locs1 → W p l e R s m args below meth c H1 locs1 cells slots Q (F0 m (pc + 1) ls rest)) : W p l e R s m args below meth c H locs cells slots Q (F0 m pc ls (.int x :: .int i :: .ref o :: rest)) := by
  obtain ⟨hP, hS, hK, hN2, hD⟩ := h
  refine va_iast S.1 S.2.1 hK hP (hD st) hS 0 0 rfl rfl hin hdg (fun H1 locs1 hP1 hD1 hS1 => ?_)
  exact kk H1 locs1 ⟨hP1, hS1, hK, hN2, fun st' => gW_D (X := (o, .inl (cy 0, N, .inl (upd f i.toNatClampNeg x))) :: X) hD1 st'⟩
theorem va_P_tl {cl : List vw_C} {q : Nat × va_E} {ws : va_W} (h : va_P D cl (q :: ws) H) : va_P D cl ws H := fun k x hx => h (k + 1) x hx
theorem va_D_tl {q : Nat × va_E} {ws : va_W} (h : va_D A (q :: ws)) : va_D A ws := ⟨fun i j p q hp hq e => by have := h.1 (i + 1) (j + 1) p q hp hq e; omega, fun k x hx => h.2 (k + 1) x hx⟩
theorem gH_tl {q : Nat × va_E} (h : gH D L cy (q :: X) A st s H locs) : gH D L cy X A st s H locs := ⟨va_P_tl h.1, h.2.1, h.2.2.1, h.2.2.2.1, fun st' => va_D_tl (h.2.2.2.2 st')⟩
end LW
/-! the two helpers -/
def belowv (v n : Int32) : Int32 := (v &&& 2147483647) - (v &&& 2147483647) / n * n
theorem below_ok (v : Int32) {N : Nat} (h0 : 0 < N) (hN : N < 2 ^ 31) : ∃ r, r < N ∧ belowv v (nI N) = nI r := by
  obtain ⟨j, hj, e⟩ := pk_andE v (m := 2147483647) 31 (by decide)
  unfold belowv
  rw [e, pk_rem hj h0 hN]
  exact ⟨j % N, Nat.mod_lt _ h0, rfl⟩
def cellv (Lb : Nat) (xs : Nat → Int32) (k : Nat) : Int32 := if k < Lb then xs k else 790386105 * (nI k + 3)
theorem c_L_below (l : Launch) (D : va_G) (L : Nat → Nat) (cy : Nat → ClassId) (X : va_W) (A : Nat → Prop) (st : gSt) (hD : va_D A (X ++ gW L cy st)) (b Lb : Nat) (xs : Nat → Int32) (v n : Int32) (hn : ¬ n = 0) : Met l yL_below wsL_below { frames := 0, cells := 0, slots := 0, locals := 0 } (sPc D L cy X A st b Lb xs [.int v, .int n]) (va_Qi (fun (q : Int32) (_ : Unit) => q = belowv v n) (fun _ t => va_P D vwCl (X ++ gW L cy st) t.heap) A) 0 0 A := by
  refine s_entry hD (cc := cL_below) (maxL := 2) (ret := (some .int)) (by decide) rfl (Nat.le_of_ble_eq_true rfl) ?_
  intro p e s m args below meth c ls B
  obtain ⟨S, hr, hlocks, h, hl, -, -⟩ := B
  have hx := S.1
  have hb := S.2.1
  have hts := S.2.2.2.2
  have hl : lv_has ls 2 [(0, .int v), (1, .int n)] := hl
  refine lv_iload_n hx hb dL_below_0 rfl (lv_at hl 0 rfl) ?_
  refine lv_ldc (v := 2147483647) hx hb S.2.2.2.1 (hts (.constant RL 7 (2147483647)) (by decide +kernel)) dL_below_1 ?_
  refine lv_iand hx hb dL_below_3 ?_
  refine lv_iload_n hx hb dL_below_4 rfl (lv_at hl 1 rfl) ?_
  refine lv_irem hx hb dL_below_5 hn ?_
  exact g_reti S h hr hlocks rfl rfl rfl dL_below_6
theorem c_L_cell (l : Launch) (D : va_G) (L : Nat → Nat) (cy : Nat → ClassId) (X : va_W) (A : Nat → Prop) (st : gSt) (hD : va_D A (X ++ gW L cy st)) (b Lb : Nat) (xs : Nat → Int32) (k : Nat) (hk : k < 1000) (hLb : Lb ≤ 260) : Met l yL_cell wsL_cell { frames := 0, cells := 0, slots := 0, locals := 0 } (sPc D L cy X A st b Lb xs [.ref b, .int (nI k)]) (va_Qi (fun (q : Int32) (_ : Unit) => q = cellv Lb xs k) (fun _ t => va_P D vwCl (X ++ gW L cy st) t.heap) A) 0 0 A := by
  refine s_entry hD (cc := cL_cell) (maxL := 2) (ret := (some .int)) (by decide) rfl (Nat.le_of_ble_eq_true rfl) ?_
  intro p e s m args below meth c ls B
  obtain ⟨S, hr, hlocks, h, hl, hA, hX, hbl, hbA⟩ := B
  have hx := S.1
  have hb := S.2.1
  have hts := S.2.2.2.2
  have hl : lv_has ls 2 [(0, .ref b), (1, .int (nI k))] := hl
  refine lv_iload_n hx hb dL_cell_0 rfl (lv_at hl 1 rfl) ?_
  refine lv_aload_n hx hb dL_cell_1 rfl (lv_at hl 0 rfl) ?_
  refine va_slen hx hb hX hbl hbA h.2.1 dL_cell_2 ?_
  by_cases q : k < Lb
  · refine lv_icmp_ge (tgt := 12) hx hb dL_cell_3 (by decide) (fun c1 => absurd c1 (nI_ge q (by omega))) (fun _ => ?_)
    refine lv_aload_n hx hb dL_cell_6 rfl (lv_at hl 0 rfl) ?_
    refine lv_iload_n hx hb dL_cell_7 rfl (lv_at hl 1 rfl) ?_
    refine va_sld hx hb hX hbl hbA h.2.1 (vp_in_nI q (by omega)) dL_cell_8 ?_
    refine lv_goto (tgt := 18) hx hb dL_cell_9 (by decide) ?_
    exact g_reti S h hr hlocks rfl (by unfold cellv; rw [if_pos q, nI_clamp (by omega)]) rfl dL_cell_18
  · refine lv_icmp_ge (tgt := 12) hx hb dL_cell_3 (by decide) (fun _ => ?_) (fun c1 => absurd (show Int32.ofNat Lb ≤ nI k from nI_le (Nat.le_of_not_lt q) (by omega)) c1)
    refine lv_ldc (v := 790386105) hx hb S.2.2.2.1 (hts (.constant RL 8 (790386105)) (by decide +kernel)) dL_cell_12 ?_
    refine lv_iload_n hx hb dL_cell_14 rfl (lv_at hl 1 rfl) ?_
    refine lv_iconst (v := 3) hx hb dL_cell_15 (by decide) ?_
    refine lv_iadd hx hb dL_cell_16 ?_
    refine lv_imul hx hb dL_cell_17 ?_
    exact g_reti S h hr hlocks rfl (by unfold cellv; rw [if_neg q]) rfl dL_cell_18
