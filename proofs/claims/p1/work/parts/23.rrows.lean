/-! Further rows of the reference's world: copies of arrays, Class objects, the cached Integers. -/
/-- what an array of boxes holds: cached ones -/
def rCa (E : rEn) (f : Nat → Option Nat) : Prop := ∀ (i y : Nat), f i = some y → ∃ k : Nat, k < 256 ∧ y = E.2.2.1 k
theorem rCa.none {E : rEn} : rCa E (fun _ => none) := fun i y h => by cases h
theorem rCa.up {E : rEn} {f : Nat → Option Nat} {j v : Nat} (h : rCa E f) (hv : ∃ k : Nat, k < 256 ∧ v = E.2.2.1 k) : rCa E (va_up f j (some v)) := by
  intro i y hy
  unfold va_up at hy
  by_cases hij : i = j
  · rw [if_pos hij] at hy
    cases hy
    exact hv
  · rw [if_neg hij] at hy
    exact h i y hy
theorem rCa.cpy {E : rEn} {f g : Nat → Option Nat} {a b n : Nat} (h : rCa E f) (hg : rCa E g) : rCa E (va_cpy f g a b n) := by
  intro i y hy
  unfold va_cpy at hy
  split at hy
  · exact h _ y hy
  · exact hg i y hy
theorem rMv_conv {l : Launch} {y : MethodName} {wy : List Cond} {rm : Room} {D : va_G} {E : rEn} {cy : rC} {X ws : va_W} {A : Nat → Prop} {av : List Value} {S0 S1 : Type} {out0 : S0 → va_W} {ok0 : S0 → Prop} {out1 : S1 → va_W} {ok1 : S1 → Prop} {mc ms : Nat} (h : rMv l y wy rm D E cy X ws A av out0 ok0 mc ms) (φ : S0 → S1) (ho : ∀ u, ok0 u → out1 (φ u) = out0 u) (hk : ∀ u, ok0 u → ok1 (φ u)) : rMv l y wy rm D E cy X ws A av out1 ok1 mc ms := by
  unfold rMv at h ⊢
  unfold Met at h ⊢
  refine MetFree.mono h (fun _ _ q => q) (fun _ _ _ _ _ q => q) (fun a s o t _ q => ⟨?_, q.2⟩)
  obtain ⟨⟨u, e1, e2, e3, e4⟩, hF⟩ := q.1
  exact ⟨⟨φ u, e1, hk u e2, by rw [ho u e2]; exact e3, by rw [ho u e2]; exact e4⟩, hF⟩
section RW3
variable {p : Program} {l : Launch} {e : Env} {R : Room} {s : State} {m : MethodId} {args : Array Value} {below : List Frame} {meth : Method} {c : Code} {H : Heap} {locs : List Loc} {cells slots : Nat} {Q : State → Prop}
variable {cc : ByteArray} {nL : Nat} {Ts : List Cond} {own : String} {D : va_G} {E : rEn} {cy : rC} {X ws : va_W} {A : Nat → Prop} {pc : Nat} {ls : Array Slot} {rest : List Value}
theorem r_getsH (S : CallFix p m c cc nL s args Ts own) (h : rH D E cy X ws A s H locs) {idx : Nat} (hlk : Cond.fieldLink own idx "java/lang/Integer$IntegerCache" "high" "I" ∈ Ts) (hdg : decode cc pc = .ok (.getstatic idx, 3))
    (kk : W p l e R s m args below meth c H locs cells slots Q (F0 m (pc + 3) ls (.int 127 :: rest))) : W p l e R s m args below meth c H locs cells slots Q (F0 m pc ls rest) := by
  obtain ⟨hx, hb, -, hown, hts⟩ := S
  obtain ⟨hP, hS, hK, hN, hD, hA⟩ := h
  exact va_gets hx hb hN.1.2.1.1 hS hown (hts _ hlk) (fun _ h9 => h9) hdg kk
theorem r_getsC (S : CallFix p m c cc nL s args Ts own) (h : rH D E cy X ws A s H locs) {idx : Nat} (hlk : Cond.fieldLink own idx "java/lang/Integer$IntegerCache" "cache" "[Ljava/lang/Integer;" ∈ Ts) (hdg : decode cc pc = .ok (.getstatic idx, 3))
    (kk : W p l e R s m args below meth c H locs cells slots Q (F0 m (pc + 3) ls (.ref E.2.2.2.1 :: rest))) : W p l e R s m args below meth c H locs cells slots Q (F0 m pc ls rest) := by
  obtain ⟨hx, hb, -, hown, hts⟩ := S
  obtain ⟨hP, hS, hK, hN, hD, hA⟩ := h
  exact va_gets hx hb hN.1.2.1.2.1 hS hown (hts _ hlk) (fun _ h9 => h9) hdg kk
theorem r_cald (S : CallFix p m c cc nL s args Ts own) (h : rH D E cy X ws A s H locs) {i : Int32} {j : Nat} (hin : vp_in i 256) (hj : i.toNatClampNeg = j) (hdg : decode cc pc = .ok (.aaload, 1))
    (kk : W p l e R s m args below meth c H locs cells slots Q (F0 m (pc + 1) ls (.ref (E.2.2.1 j) :: rest))) : W p l e R s m args below meth c H locs cells slots Q (F0 m pc ls (.int i :: .ref E.2.2.2.1 :: rest)) := by
  obtain ⟨hx, hb, -, hown, hts⟩ := S
  obtain ⟨hP, hS, hK, hN, hD, hA⟩ := h
  subst hj
  exact vb_tq hx hb hN.1.2.1.2.2.1 hS hin rfl hdg kk
/-- getClass() of an array of Objects: one of the world's; the two empty ones -/
theorem r_gc (S : CallFix p m c cc nL s args Ts own) (h : rH D E cy X ws A s H locs) (hl : ls.size = nL) {a idx : Nat} (ha : (∃ (k0 n : Nat) (f : Nat → Option Nat), ws[k0]? = some (a, .inl (cy.2, n, .inr (.inr (.inr (.inr f)))))) ∨ a = E.1 ∨ a = E.2.1) (h1 : Cond.methodLink own idx ⟨"java/lang/Object", "getClass", "()Ljava/lang/Class;"⟩ ∈ Ts) (h2 : Cond.selects rOa ⟨"java/lang/Object", "getClass", "()Ljava/lang/Class;"⟩ ⟨"java/lang/Object", "getClass", "()Ljava/lang/Class;"⟩ ∈ Ts) (h3 : Cond.instanceMethod ⟨"java/lang/Object", "getClass", "()Ljava/lang/Class;"⟩ ∈ Ts) (h4 : Cond.native ⟨"java/lang/Object", "getClass", "()Ljava/lang/Class;"⟩ ∈ Ts) (hfr : 1 ≤ R.frames) (hlo : (rest.map fun v => v.category).sum + 14 ≤ R.locals) (hdg : decode cc pc = .ok (.invokevirtual idx, 3))
    (kk : W p l e R s m args below meth c H locs cells slots Q (F0 m (pc + 3) ls (.ref E.2.2.2.2 :: rest))) : W p l e R s m args below meth c H locs cells slots Q (F0 m pc ls (.ref a :: rest)) := by
  obtain ⟨hx, hb, hml, hown, hts⟩ := S
  obtain ⟨hP, hS, hK, hN, hD, hA⟩ := h
  have hr : ∃ cell : Cell, H[a]? = some cell ∧ cell.vm.isStatics = false ∧ s.vm.findClass rOa = some cell.cls := by
    rcases ha with ⟨k0, n, f, he⟩ | rfl | rfl
    · have h5 := hP (X.length + k0) _ (by rw [r_at]; exact he)
      exact ⟨_, h5, rfl, va_nmO (hK.2 1 _ rfl).2 (by decide +kernel)⟩
    · have h6 := hN.1.kept hS.2.1
      exact h6.2.2.1
    · have h6 := hN.1.kept hS.2.1
      exact h6.2.2.2.1
  exact va_getC hx hb (hml.trans hl.symm) hown (hts _ h1) (va_Dc.use hN.2.1.2.1) (hts _ h2) (hts _ h3) (hts _ h4) hN.2.1.1 hr hfr hlo hdg kk
theorem r_ldcM (S : CallFix p m c cc nL s args Ts own) (h : rH D E cy X ws A s H locs) {idx : Nat} (h1 : Cond.classLink own idx rOa ∈ Ts) (hdg : decode cc pc = .ok (.ldc idx, 2))
    (kk : W p l e R s m args below meth c H locs cells slots Q (F0 m (pc + 2) ls (.ref E.2.2.2.2 :: rest))) : W p l e R s m args below meth c H locs cells slots Q (F0 m pc ls rest) := by
  obtain ⟨hx, hb, -, hown, hts⟩ := S
  obtain ⟨hP, hS, hK, hN, hD, hA⟩ := h
  exact va_ldcM hx hb hown (hts _ h1) hN.2.1.1 hdg kk
/-- a copy of the first n, between arrays of the world -/
theorem r_copyq (S : CallFix p m c cc nL s args Ts own) (h : rH D E cy X ws A s H locs) (hl : ls.size = nL) (q0 q1 : Nat) {a0 a n0 n1 idx N : Nat} {f g : Nat → Option Nat} (ha0 : ws[q0]? = some (a0, .inl (cy.2, n0, .inr (.inr (.inr (.inr f)))))) (ha1 : ws[q1]? = some (a, .inl (cy.2, n1, .inr (.inr (.inr (.inr g)))))) {n : Int32} (h3 : ¬ n < 0) (hn : n.toNatClampNeg = N) (h4 : N ≤ n0) (h5 : N ≤ n1) (hf : rCa E f) (k1 : Cond.methodLink own idx arraycopyName ∈ Ts) (k2 : Cond.native arraycopyName ∈ Ts) (k3 : Cond.static arraycopyName ∈ Ts) (k4 : Cond.initialized "java/lang/System" ∈ Ts) (hfr : 1 ≤ R.frames) (hlo : (rest.map fun v => v.category).sum + (nativeFrameWords "java/lang/System" "arraycopy" 5 + 11) ≤ R.locals) (hdg : decode cc pc = .ok (.invokestatic idx, 3))
    (kk : ∀ (H1 : Heap) (locs1 : List Loc), rH D E cy X (ws.set q1 (a, .inl (cy.2, n1, .inr (.inr (.inr (.inr (va_cpy f g 0 0 N))))))) A s H1 locs1 → W p l e R s m args below meth c H1 locs1 cells slots Q (F0 m (pc + 3) ls rest)) : W p l e R s m args below meth c H locs cells slots Q (F0 m pc ls (.int n :: .int 0 :: .ref a :: .int 0 :: .ref a0 :: rest)) := by
  obtain ⟨hx, hb, hml, hown, hts⟩ := S
  obtain ⟨hP, hS, hK, hN, hD, hA⟩ := h
  subst hn
  refine va_copyq (C := "java/lang/Integer") hx hb (hml.trans hl.symm) hown (hts _ k1) (hts _ k2) (hts _ k3) (hts _ k4) hK hP hD hS (X.length + q0) (X.length + q1) 1 1 (by rw [r_at]; exact ha0) (by rw [r_at]; exact ha1) rfl rfl (sp := 0) (dp := 0) (by decide) (by decide) h3 (by show 0 + _ ≤ _; omega) (by show 0 + _ ≤ _; omega) (fun i hi y hy => ?_) (vb_asgC hN.2.2.1.2.2.1) hfr hlo hdg (fun H1 locs1 hP1 hD1 hS1 => ?_)
  · obtain ⟨k, hk, rfl⟩ := hf _ y hy
    obtain ⟨cell, g1, g2, g3, -⟩ := (hN.1.2.1.2.2.2.1 k hk).kept hS.2.1
    exact ⟨cell, g1, g2, g3⟩
  · rw [r_set] at hP1 hD1
    exact kk H1 locs1 ⟨hP1, hS1, hK, hN, hD1, hA⟩
/-- nothing is copied out of an empty array -/
theorem r_copy0 (S : CallFix p m c cc nL s args Ts own) (h : rH D E cy X ws A s H locs) (hl : ls.size = nL) (q1 : Nat) {b0 a n1 idx : Nat} {g : Nat → Option Nat} (hb0 : b0 = E.1 ∨ b0 = E.2.1) (ha1 : ws[q1]? = some (a, .inl (cy.2, n1, .inr (.inr (.inr (.inr g)))))) (k1 : Cond.methodLink own idx arraycopyName ∈ Ts) (k2 : Cond.native arraycopyName ∈ Ts) (k3 : Cond.static arraycopyName ∈ Ts) (k4 : Cond.initialized "java/lang/System" ∈ Ts) (hfr : 1 ≤ R.frames) (hlo : (rest.map fun v => v.category).sum + (nativeFrameWords "java/lang/System" "arraycopy" 5 + 11) ≤ R.locals) (hdg : decode cc pc = .ok (.invokestatic idx, 3))
    (kk : ∀ (H1 : Heap) (locs1 : List Loc), rH D E cy X (ws.set q1 (a, .inl (cy.2, n1, .inr (.inr (.inr (.inr g)))))) A s H1 locs1 → W p l e R s m args below meth c H1 locs1 cells slots Q (F0 m (pc + 3) ls rest)) : W p l e R s m args below meth c H locs cells slots Q (F0 m pc ls (.int 0 :: .int 0 :: .ref a :: .int 0 :: .ref b0 :: rest)) := by
  obtain ⟨hx, hb, hml, hown, hts⟩ := S
  obtain ⟨hP, hS, hK, hN, hD, hA⟩ := h
  have hX : va_T (.object "java/lang/Object") b0 0 (fun _ => .null) A s s.heap := by
    rcases hb0 with rfl | rfl
    · exact hN.1.1.2.2.1
    · exact hN.1.1.2.2.2
  have ha2 : (X ++ ws)[X.length + q1]? = some (a, .inl (cy.2, n1, .inr (.inr (.inr (.inr g))))) := by rw [r_at]; exact ha1
  intro T hT XX
  obtain ⟨scr, hs1, hs2, hs3, hs4, -, hs5, hs7⟩ := hX
  have hc0 : H[b0]? = some scr := by rw [hS.2.1 b0 (Array.getElem?_eq_some_iff.mp hs1).1 hs7]; exact hs1
  have hc1 : H[a]? = some (vp_cell cy.2 (n1, .inr (.inr (.inr (.inr g))))) := hP (X.length + q1) _ ha2
  obtain ⟨hs6, k0, hk0, cm0, hkk0⟩ := hs2
  obtain ⟨-, k1', hk1, cm1, hkk1⟩ := (hK.2 1 _ rfl).1 n1 (fun j => va_rf (g j))
  obtain ⟨vm', X', step⟩ := XX.arraycopy hx hown (hts _ k1) (hts _ k2) (hts _ k3) (hts _ k4) (src := b0) (dst := a) (cs := scr) (cd := vp_cell cy.2 (n1, .inr (.inr (.inr (.inr g))))) (srcPos := 0) (destPos := 0) (n := 0) (by rw [hT]; exact hc0) (by rw [hT]; exact hc1)
    hs6 (fun _ h => by cases h) hs3 (fun h => by cases h) hk0 hk1 hkk0 hkk1 rfl (by decide) (by decide) (by decide)
    (by show ¬ _ > ((scr.slots.size : Nat) : Int); have e : (0 : Int32).toInt = 0 := rfl; rw [e]; omega)
    (by show ¬ _ > ((arrV cy.2 n1 (fun j => va_rf (g j))).slots.size : Int); have e : (0 : Int32).toInt = 0 := rfl; rw [e]; omega)
    (fun vm₁ _ i hi => absurd hi (by show ¬ i < 0; omega))
    (g := F0 m pc ls (.int 0 :: .int 0 :: .ref a :: .int 0 :: .ref b0 :: rest)) rfl (by rw [hml]; exact hl) (rest := rest) rfl (by rw [hb]; exact hdg) hfr (by show 2 * 0 + _ + _ ≤ _; omega)
  have e1 : copied scr (vp_cell cy.2 (n1, .inr (.inr (.inr (.inr g))))) 0 0 0 = vp_cell cy.2 (n1, .inr (.inr (.inr (.inr (va_cpy (fun _ => none) g 0 0 0))))) := va_copiedX (fun z => va_rf z) scr cy.2 (fun _ => none) g (fun j hj => absurd hj (by omega)) (n0 := 0) (by decide)
  have e2 : va_cpy (fun _ => none) g 0 0 0 = g := by
    funext k
    unfold va_cpy
    rw [if_neg (by omega)]
  rw [e2] at e1
  rw [e1] at X' step
  have hl9 : a < H.size := (Array.getElem?_eq_some_iff.mp hc1).1
  have hheap : ((T.setVm vm').setCell a (vp_cell cy.2 (n1, .inr (.inr (.inr (.inr g)))))).heap = H.setIfInBounds a (vp_cell cy.2 (n1, .inr (.inr (.inr (.inr g))))) := by rw [← hT]; rfl
  have oq : ∀ q : Nat, q ≠ a → (H.setIfInBounds a (vp_cell cy.2 (n1, .inr (.inr (.inr (.inr g))))))[q]? = H[q]? := fun q hq => by simp [Array.getElem?_setIfInBounds, Ne.symm hq]
  have hP1 : va_P D vwCl ((X ++ ws).set (X.length + q1) (a, .inl (cy.2, n1, .inr (.inr (.inr (.inr g)))))) (H.setIfInBounds a (vp_cell cy.2 (n1, .inr (.inr (.inr (.inr g)))))) := hP.set hD ha2 (show (H.setIfInBounds a (vp_cell cy.2 (n1, .inr (.inr (.inr (.inr g))))))[a]? = some (vp_cell cy.2 (n1, .inr (.inr (.inr (.inr g))))) by simp [Array.getElem?_setIfInBounds, hl9]) oq
  have hD1 := hD.set ha2 (e := .inl (cy.2, n1, .inr (.inr (.inr (.inr g)))))
  rw [r_set] at hD1
  obtain ⟨t, a1, b1⟩ := kk _ _ ⟨by rw [r_set] at hP1; exact hP1, ⟨by simp; exact hS.1, fun q g1 g2 => by
      rw [oq q (fun e => g2 (by rw [e]; exact hD.2 _ _ ha2))]
      exact hS.2.1 q g1 g2, fun q hq => by
      rcases List.mem_append.mp hq with h | h
      · exact hS.2.2 q h
      · obtain ⟨z, -, hz⟩ := List.mem_map.mp h
        rw [← hz]
        exact hD.2 _ _ ha2⟩, hK, hN, hD1, hA⟩ _ hheap X'
  exact ⟨t, step t a1, b1⟩
end RW3
section RW4
variable {p : Program} {l : Launch} {e : Env} {R : Room} {s : State} {m : MethodId} {args : Array Value} {below : List Frame} {meth : Method} {c : Code} {H : Heap} {locs : List Loc} {cells slots : Nat} {Q : State → Prop}
variable {cc : ByteArray} {nL : Nat} {Ts : List Cond} {own : String} {D : va_G} {E : rEn} {cy : rC} {X ws : va_W} {A : Nat → Prop} {pc : Nat} {ls : Array Slot} {rest : List Value}
/-- an int array's clone, and its cast -/
theorem r_clone (S : CallFix p m c cc nL s args Ts own) (h : rH D E cy X ws A s H locs) (hl : ls.size = nL) {a n idx : Nat} {f : Nat → Int32} (k0 : Nat) (he : ws[k0]? = some (a, .inl (cy.1, n, .inl f))) (h1 : Cond.methodLink own idx ⟨"[I", "clone", "()Ljava/lang/Object;"⟩ ∈ Ts) (h2 : Cond.sameMethod "[I" "java/lang/Object" "clone" "()Ljava/lang/Object;" ∈ Ts) (h3 : Cond.native ⟨"java/lang/Object", "clone", "()Ljava/lang/Object;"⟩ ∈ Ts) (h4 : Cond.instanceMethod ⟨"java/lang/Object", "clone", "()Ljava/lang/Object;"⟩ ∈ Ts) (h5 : Cond.selects "[I" ⟨"[I", "clone", "()Ljava/lang/Object;"⟩ ⟨"java/lang/Object", "clone", "()Ljava/lang/Object;"⟩ ∈ Ts) (hfr : 1 ≤ R.frames) (hlo : (rest.map fun v => v.category).sum + 14 ≤ R.locals) (hcells : cells + 1 ≤ R.cells) (hslots : slots + n ≤ R.slots) (hdg : decode cc pc = .ok (.invokevirtual idx, 3))
    (kk : ∀ (q : Nat) (H1 : Heap), rH D E cy X (ws ++ [rAi cy q n f]) A s H1 locs → W p l e R s m args below meth c H1 locs (cells + 1) (slots + n) Q (F0 m (pc + 3) ls (.ref q :: rest))) : W p l e R s m args below meth c H locs cells slots Q (F0 m pc ls (.ref a :: rest)) := by
  obtain ⟨hx, hb, hml, hown, hts⟩ := S
  obtain ⟨hP, hS, hK, hN, hD, hA⟩ := h
  have hnm : s.vm.findClass "[I" = some cy.1 := (hK.2 0 _ rfl).2
  refine va_clone (x := (n, .inl f)) hx hb (hml.trans hl.symm) hown (hts _ h1) (hts _ h2) (hts _ h3) (hts _ h4) (hts _ h5) hN.2.2.1.2.2.2 hK hP hD hS hA (X.length + k0) 0 (by rw [r_at]; exact he) rfl hnm (fun i v hv => ?_) hfr hlo hcells hslots hdg (fun q H1 hK1 hP1 hD1 hS1 => ?_)
  · have hsz : (vp_cell cy.1 (n, .inl f)).slots.size = n := arrV_size _ _ _
    have hi : i < n := by
      have := (Array.getElem?_eq_some_iff.mp hv).1
      omega
    have h9 : (arrV cy.1 n (fun j => .int (f j))).slots[i]? = some v := hv
    rw [arrV_read _ _ hi] at h9
    cases h9
    rfl
  · rw [List.append_assoc] at hP1 hD1
    exact kk q H1 ⟨hP1, hS1, hK, hN, hD1, hA⟩
theorem r_castI (S : CallFix p m c cc nL s args Ts own) (h : rH D E cy X ws A s H locs) {a n idx : Nat} {f : Nat → Int32} (k0 : Nat) (he : ws[k0]? = some (a, .inl (cy.1, n, .inl f))) (hlk : Cond.classLink own idx "[I" ∈ Ts) (hdg : decode cc pc = .ok (.checkcast idx, 3))
    (kk : W p l e R s m args below meth c H locs cells slots Q (F0 m (pc + 3) ls (.ref a :: rest))) : W p l e R s m args below meth c H locs cells slots Q (F0 m pc ls (.ref a :: rest)) := by
  obtain ⟨hx, hb, -, hown, hts⟩ := S
  obtain ⟨hP, hS, hK, hN, hD, hA⟩ := h
  have hnm : s.vm.findClass "[I" = some cy.1 := (hK.2 0 _ rfl).2
  exact va_castA hx hb hown (hts _ hlk) hP (X.length + k0) (by rw [r_at]; exact he) hnm hdg kk
/-- toArray() by its interface -/
theorem r_callFr {bytes : ByteArray} {maxL idx count mc ms : Nat} {ret : Option FieldType} {wy : List Cond} {rm : Room} {b : Nat} {st0 : List Value} {S0 : Type} {out : S0 → va_W} {ok : S0 → Prop} {wr wc : va_W} {r : S0 → Nat} (S : CallFix p m c cc nL s args Ts own) (h : rH D E cy X ws A s H locs) (hM : rMr l yJx4a65c_toArray_d5877 wy rm D E cy (X ++ wr) wc A [.ref b] r out ok mc ms) (cw : va_CI R s args own RJx4a65c idx rToA yJx4a65c_toArray_d5877 bytes maxL ret wy rm mc ms 0) (hp : PreV s H RJx4a65c b (rPc D E cy (X ++ wr) wc A [.ref b]) [])
    (hsize : ls.size = nL) (hstack : st0 = .ref b :: rest) (hW : 2 * 0 + (rest.map fun v => v.category).sum ≤ 8) (hdg : decode cc pc = .ok (.invokeinterface idx count, 5)) (hf : cells + mc ≤ R.cells ∧ slots + ms ≤ R.slots)
    (kk : ∀ (u : S0) (H1 : Heap) (locs1 : List Loc), ok u → rH D E cy X (wr ++ out u) A s H1 locs1 → W p l e R s m args below meth c H1 locs1 (cells + mc) (slots + ms) Q (F0 m (pc + 5) ls (.ref (r u) :: rest))) : W p l e R s m args below meth c H locs cells slots Q (F0 m pc ls st0) := by
  refine va_callFr (va_runF (As := []) (h.2.2.1.1 1 _ rfl).2 S hM cw hp rfl rfl hsize hstack hW hdg hf) h.2.1 (fun q _ h => h) (fun q h => h) (fun u ra t H1 locs1 ht hvm hw hB hz1 hk1 hS1 => ?_)
  obtain ⟨hra, hB⟩ := hB
  rw [ht] at hB
  subst hra
  exact kk u H1 locs1 hw (r_after h hB.1 hB.2 hS1)
end RW4
