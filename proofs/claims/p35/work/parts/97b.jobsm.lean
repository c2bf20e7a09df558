/-! WHAT jobs DOES: the book is written; the pools are not touched. -/
theorem sc_n {j : Nat} (h : j < 8) : f_sc (nI j) = 6 + 3 * j := by
  unfold f_sc
  rw [if_neg (nI_pos (by omega)), if_neg (show ¬ (8 : Int32) ≤ nI j from nI_ge (b := 8) h (by omega)), nI_clamp (by omega)]
theorem isJob_n {st : gSt} {many j : Nat} (h : st 1 2 = nI many) (hm : many ≤ 8) (hj : j < many) : ¬ f_X6_isJob st (nI j) = 0 := by
  unfold f_X6_isJob
  rw [if_neg (nI_pos (by omega)), h, if_neg (nI_ge hj (by omega))]
  decide
theorem hto_0 {st : gSt} {x : Int32} (h : st 30 3 = 0) : f_X1_hasTaskOf st 30 x = 0 := by
  unfold f_X1_hasTaskOf
  rw [h]
  show f_X1_hasTaskOf_L1 30 x 1 st 0 = 0
  unfold f_X1_hasTaskOf_L1
  rw [h, if_pos (by decide)]
/-- a step that jobs writes is one -/
theorem isStep_n {st : gSt} {many q : Nat} {v : Int32} (h : st 1 2 = nI many) (hm : many ≤ 8) (hq : q < 10) (h0 : q = 0 → ∃ r, r < 3 ∧ v = nI (1 + r)) (h1 : q = 1 → ∃ r, r < many ∧ v = nI r) (h5 : q = 5 → ∃ r, r < 201 ∧ v = nI r - 100) (h8 : q = 8 ∨ q = 9 → ∃ r, r < 3 ∧ v = nI r) : ¬ f_X6_isStep st (nI q) v = 0 := by
  have hp : ∀ r, r < 3 → ¬ f_X6_isPromise st (nI r) = 0 := by
    intro r hr
    unfold f_X6_isPromise
    rw [if_neg (nI_pos (by omega)), if_neg (show ¬ (6 : Int32) ≤ nI r from nI_ge (b := 6) (by omega) (by omega))]
    decide
  rcases (show q = 0 ∨ q = 1 ∨ q = 2 ∨ q = 3 ∨ q = 4 ∨ q = 5 ∨ q = 6 ∨ q = 7 ∨ q = 8 ∨ q = 9 by omega) with rfl | rfl | rfl | rfl | rfl | rfl | rfl | rfl | rfl | rfl
  · obtain ⟨r, hr, rfl⟩ := h0 rfl
    rcases (show r = 0 ∨ r = 1 ∨ r = 2 by omega) with rfl | rfl | rfl <;> (show ¬ (if nI 0 = (0 : Int32) then _ else _) = 0) <;> rw [if_pos (by decide), if_neg (by decide), if_neg (by decide)] <;> decide
  · obtain ⟨r, hr, rfl⟩ := h1 rfl
    show ¬ (if nI 1 = (0 : Int32) then _ else if nI 1 = (1 : Int32) then f_X6_isJob st (nI r) else _) = 0
    rw [if_neg (by decide), if_pos (by decide)]
    exact isJob_n h hm hr
  · (unfold f_X6_isStep; (repeat (first | rw [if_pos (by decide)] | rw [if_neg (by decide)])); decide)
  · (unfold f_X6_isStep; (repeat (first | rw [if_pos (by decide)] | rw [if_neg (by decide)])); decide)
  · (unfold f_X6_isStep; (repeat (first | rw [if_pos (by decide)] | rw [if_neg (by decide)])); decide)
  · obtain ⟨r, hr, rfl⟩ := h5 rfl
    have e : ∀ r, r < 201 → ¬ (nI r - 100 < -100) ∧ ¬ (100 < nI r - 100) := by decide +kernel
    obtain ⟨e1, e2⟩ := e r hr
    unfold f_X6_isStep
    rw [if_neg (by decide), if_neg (by decide), if_neg (by decide), if_neg (by decide), if_neg (by decide), if_pos (by decide), if_neg e1, if_neg e2]
    decide
  · (unfold f_X6_isStep; (repeat (first | rw [if_pos (by decide)] | rw [if_neg (by decide)])); decide)
  · (unfold f_X6_isStep; (repeat (first | rw [if_pos (by decide)] | rw [if_neg (by decide)])); decide)
  · obtain ⟨r, hr, rfl⟩ := h8 (Or.inl rfl)
    unfold f_X6_isStep
    rw [if_neg (by decide), if_neg (by decide), if_neg (by decide), if_neg (by decide), if_neg (by decide), if_neg (by decide), if_neg (by decide), if_neg (by decide), if_pos (by decide)]
    exact hp r hr
  · obtain ⟨r, hr, rfl⟩ := h8 (Or.inr rfl)
    unfold f_X6_isStep
    rw [if_neg (by decide), if_neg (by decide), if_neg (by decide), if_neg (by decide), if_neg (by decide), if_neg (by decide), if_neg (by decide), if_neg (by decide), if_neg (by decide), if_pos (by decide)]
    exact hp r hr
/-- the pools as in st0; so many jobs; no steps yet -/
def P1 (st0 st : gSt) (i : Nat) : Prop := (∀ a k, 30 ≤ a → st a k = st0 a k) ∧ st 1 2 = nI i ∧ ∀ j, j < 8 → st (6 + 3 * j) 2 = 0
theorem P1_s {st0 st : gSt} {i : Nat} (h : P1 st0 st i) (hi : i < 8) : st 1 2 < 8 ∧ P1 st0 (f_X6_addJob st).2 (i + 1) := by
  have h8 : st 1 2 < 8 := by rw [h.2.1]; exact nI_lt (b := 8) hi (by omega)
  refine ⟨h8, ?_⟩
  unfold f_X6_addJob
  rw [if_pos h8]
  refine ⟨fun a k ha => (su_ni (by omega)).trans (h.1 a k ha), ?_, fun j hj => (su_ni (by omega)).trans (h.2.2 j hj)⟩
  show gsu st 1 2 (st 1 2 + 1) 1 2 = _
  rw [su_at, h.2.1, nI_1]
/-- the same, where the job j has k steps, and those behind it none -/
def P2 (many : Nat) (st0 st : gSt) (j k : Nat) : Prop := (∀ a k, 30 ≤ a → st a k = st0 a k) ∧ st 1 2 = nI many ∧ (j < 8 → st (6 + 3 * j) 2 = nI k) ∧ ∀ i, j < i → i < 8 → st (6 + 3 * i) 2 = 0
theorem P2_0 {st0 st : gSt} {many : Nat} (h : P1 st0 st many) : P2 many st0 st 0 0 := ⟨h.1, h.2.1, fun _ => h.2.2 0 (by omega), fun i _ hi => h.2.2 i hi⟩
theorem P2_j {st0 st : gSt} {many j k : Nat} (h : P2 many st0 st j k) : P2 many st0 st (j + 1) 0 := ⟨h.1, h.2.1, fun hj => h.2.2.2 (j + 1) (by omega) hj, fun i hi hi8 => h.2.2.2 i (by omega) hi8⟩
theorem P2_k {st0 st : gSt} {many j k : Nat} {cd v : Int32} (h : P2 many st0 st j k) (hj : j < 8) (hk : k < 12) (h3 : st0 30 3 = 0) (hs : ¬ f_X6_isStep st cd v = 0) : f_X1_hasTaskOf st 30 (nI j) = 0 ∧ st (f_sc (nI j)) 2 < 12 ∧ P2 many st0 (f_X6_addStep st (nI j) cd v).2 j (k + 1) := by
  have e1 : f_X1_hasTaskOf st 30 (nI j) = 0 := hto_0 ((h.1 30 3 (by omega)).trans h3)
  have e2 : st (f_sc (nI j)) 2 < 12 := by rw [sc_n hj, h.2.2.1 hj]; exact nI_lt (b := 12) hk (by omega)
  refine ⟨e1, e2, ?_⟩
  have ee : (f_X6_addStep st (nI j) cd v).2 = gsu (gsu (gsu st (6 + 3 * j + 1) k cd) (6 + 3 * j + 2) k v) (6 + 3 * j) 2 (nI (k + 1)) := by
    unfold f_X6_addStep
    rw [if_neg hs]
    dsimp only
    rw [if_pos e2, if_pos e1]
    dsimp only
    rw [sc_n hj]
    unfold f_sapp
    rw [h.2.2.1 hj, if_neg (nI_pos (by omega)), if_neg (show ¬ (12 : Int32) ≤ nI k from nI_ge (b := 12) hk (by omega)), nI_clamp (by omega), nI_1]
  rw [ee]
  refine ⟨fun a q ha => ?_, ?_, fun _ => su_at, fun i hi hi8 => ?_⟩
  · rw [su_ni (by omega), su_ni (by omega), su_ni (by omega)]; exact h.1 a q ha
  · rw [su_ni (by omega), su_ni (by omega), su_ni (by omega)]; exact h.2.1
  · rw [su_ni (by omega), su_ni (by omega), su_ni (by omega)]; exact h.2.2.2 i hi hi8
/-- the row of codes -/
def cdf : Nat → Int32 := upd (upd (upd (upd (upd (upd (upd (upd (upd (upd (upd (upd (fun _ => 0) (0 : Int32).toNatClampNeg 0) (1 : Int32).toNatClampNeg 0) (2 : Int32).toNatClampNeg 1) (3 : Int32).toNatClampNeg 1) (4 : Int32).toNatClampNeg 2) (5 : Int32).toNatClampNeg 3) (6 : Int32).toNatClampNeg 4) (7 : Int32).toNatClampNeg 5) (8 : Int32).toNatClampNeg 6) (9 : Int32).toNatClampNeg 7) (10 : Int32).toNatClampNeg 8) (11 : Int32).toNatClampNeg 9
def cdl : List Nat := [0, 0, 1, 1, 2, 3, 4, 5, 6, 7, 8, 9]
theorem cdf_ok : ∀ r, r < 12 → cdf r = nI (cdl.getD r 0) ∧ cdl.getD r 0 < 10 := by decide +kernel
section CS
variable {p : Program} {l : Launch} {e : Env} {R : Room} {s : State} {m : MethodId} {args : Array Value} {below : List Frame} {meth : Method} {c : Code} {H : Heap} {locs : List Loc} {cells slots : Nat} {Q : State → Prop}
variable {cc : ByteArray} {nL : Nat} {Ts : List Cond} {own : String} {D : va_G} {L : Nat → Nat} {cy : Nat → ClassId} {X : va_W} {A : Nat → Prop} {st st' : gSt} {pc : Nat} {ls : Array Slot} {rest : List Value} {b Lb : Nat} {xs : Nat → Int32}
variable {y : MethodName} {bytes : ByteArray} {maxL n idx mc ms : Nat} {ret : Option FieldType} {ws : List Cond} {rm : Room} {As : List Value} {st0 : List Value}
/-- a call of a method of the law that answers a number and leaves the world as it is -/
theorem s_calliS {r : Int32} (S : CallFix p m c cc nL s args Ts own) (h : gH D L cy X A st s H locs) (hA : ∀ q, s.heap.size ≤ q → A q) (hX : scr b Lb xs A s) (hM : Met l y ws rm (sPc D L cy X A st b Lb xs As) (va_Qi (fun (q : Int32) (_ : Unit) => q = r) (fun _ t => va_P D vwCl (X ++ gW L cy st) t.heap) A) mc ms A) (cw : CallB R s args own idx y bytes maxL ret ws rm mc ms n ∧ (Cond.static y).before args s = true)
    (hn : As.length = n) (hsize : ls.size = nL) (hstack : st0 = As.reverse ++ rest) (hW : 2 * 0 + (rest.map fun v => v.category).sum ≤ 8) (hdg : decode cc pc = .ok (.invokestatic idx, 3)) (hf : cells + mc ≤ R.cells ∧ slots + ms ≤ R.slots)
    (kk : ∀ (H1 : Heap) (locs1 : List Loc), gH D L cy X A st s H1 locs1 → W p l e R s m args below meth c H1 locs1 (cells + mc) (slots + ms) Q (F0 m (pc + 3) ls (.int r :: rest))) : W p l e R s m args below meth c H locs cells slots Q (F0 m pc ls st0) := by
  have hp := s_preS h hA hX As
  obtain ⟨hP, hS, hK, hN, hD⟩ := h
  refine va_calli (va_runS S hM cw hp rfl hn hsize hstack hW hdg hf) hS (fun q _ h => h) (fun q h => h) (fun r u t H1 locs1 ht hvm hw hB hz1 hk1 hS1 => ?_)
  rw [ht] at hB
  subst hw
  exact kk H1 locs1 ⟨hB, hS1, hK, hN, hD⟩
end CS
