/-! longs: an answer, a call, an end -/
section GW2
variable {p : Program} {l : Launch} {e : Env} {R : Room} {s : State} {m : MethodId} {args : Array Value} {below : List Frame} {meth : Method} {c : Code} {H : Heap} {locs : List Loc} {cells slots : Nat} {Q : State → Prop}
variable {cc : ByteArray} {nL : Nat} {Ts : List Cond} {own : String} {D : va_G} {L : Nat → Nat} {cy : Nat → ClassId} {X : va_W} {A : Nat → Prop} {st st' : gSt} {pc : Nat} {ls : Array Slot} {rest : List Value}
theorem g_retl (S : CallFix p m c cc nL s args Ts own) (h : gH D L cy X A st s H locs) {v r : Int64} (hr : meth.sig.returnType = some .long) (hlocks : meth.locks = false) (hv : v = r) (hst : st = st') (hdg : decode cc pc = .ok (.lreturn, 1)) :
    W p l e R s m args below meth c H locs cells slots (MQ below (va_Ql (fun (q : Int64) (_ : Unit) => q = r) (fun _ t => va_P D vwCl (X ++ gW L cy st') t.heap) A) args s cells slots A) (F0 m pc ls [.long v]) := by
  obtain ⟨hx, hb, -, hown, hts⟩ := S
  obtain ⟨hP, hS, hK, -, hD⟩ := h
  subst hst
  exact W.lret hx hb hr (fun t ht hW => ⟨⟨v, (), rfl, hv, by show va_P D vwCl (X ++ gW L cy st) t.heap; rw [ht]; exact hP⟩, hS.F ht⟩) hS.2.2 hdg hlocks
theorem g_cvl {r r2 : Int64} {st2 : gSt} {g : JFrame} (e1 : r = r2) (e2 : st' = st2) (k : W p l e R s m args below meth c H locs cells slots (MQ below (va_Ql (fun (q : Int64) (_ : Unit) => q = r2) (fun _ t => va_P D vwCl (X ++ gW L cy st2) t.heap) A) args s 0 0 A) g) :
    W p l e R s m args below meth c H locs cells slots (MQ below (va_Ql (fun (q : Int64) (_ : Unit) => q = r) (fun _ t => va_P D vwCl (X ++ gW L cy st') t.heap) A) args s 0 0 A) g := by
  subst e1; subst e2; exact k
theorem g_calll {y : MethodName} {bytes : ByteArray} {maxL n idx : Nat} {ret : Option FieldType} {ws : List Cond} {rm : Room} {C : String} {As : List Value} {i : Nat} {st0 : List Value} (S : CallFix p m c cc nL s args Ts own) (h : gH D L cy X A st s H locs) {r : Int64} (hM : gMl l y ws rm D L cy X A (.ref (L i) :: As) st r st') (cw : CallW R s args own C idx y bytes maxL ret ws rm 0 0 n) (hp : PreV s H C (L i) (gPc D L cy X st (.ref (L i) :: As)) As)
    (hn : As.length = n) (hsize : ls.size = nL) (hstack : st0 = As.reverse ++ .ref (L i) :: rest) (hW : 2 * 0 + (rest.map fun v => v.category).sum ≤ 8) (hdg : decode cc pc = .ok (.invokevirtual idx, 3)) (hf : cells ≤ R.cells ∧ slots ≤ R.slots)
    (kk : ∀ (H1 : Heap) (locs1 : List Loc), gH D L cy X A st' s H1 locs1 → W p l e R s m args below meth c H1 locs1 cells slots Q (F0 m (pc + 3) ls (.long r :: rest))) : W p l e R s m args below meth c H locs cells slots Q (F0 m pc ls st0) := by
  obtain ⟨hP, hS, hK, hN, hD⟩ := h
  refine va_calll (va_runV S hM cw hp rfl hn hsize hstack hW hdg hf) hS (fun q _ h => h) (fun q h => h) (fun r u t H1 locs1 ht hvm hw hB hz1 hk1 hS1 => ?_)
  rw [ht] at hB
  subst hw
  exact kk H1 locs1 ⟨hB, hS1, hK, hN, hD⟩
end GW2
theorem gk_c0 : gkd 0 = 0 := by decide +kernel
