/-! THE CELLS OF ONE POOL ALONE (indices 30 .. 96): the world in which its constructor calls clear(). The same rows as for all cells. -/
def kkd (i : Nat) : Nat := if 30 ≤ i ∧ i < 97 then gkd i else 99
theorem kkd_in {i κ : Nat} (h : kkd i = κ) (h9 : κ < 14) : 30 ≤ i ∧ i < 97 := by
  by_cases q : 30 ≤ i ∧ i < 97
  · exact q
  · unfold kkd at h
    rw [if_neg q] at h
    omega
theorem kkd_lt {i κ : Nat} (h : kkd i = κ) (h9 : κ < 14) : i < 97 := (kkd_in h h9).2
theorem kkd_eq {i κ : Nat} (h : kkd i = κ) (h9 : κ < 14) : gkd i = κ := by
  have q := kkd_in h h9
  unfold kkd at h
  rw [if_pos q] at h
  exact h
theorem kk_all {P : Nat → Prop} [DecidablePred P] (h : (List.range 97).all (fun i => decide (P i)) = true) {i κ : Nat} (hk : kkd i = κ) (h9 : κ < 14) : P i := by
  have h1 := List.all_eq_true.mp h i (List.mem_range.mpr (kkd_lt hk h9))
  exact of_decide_eq_true h1
def kW (L : Nat → Nat) (cy : Nat → ClassId) (st : gSt) : va_W := (List.range 67).map (fun j => (L (30 + j), gce (gkd (30 + j)) L cy (30 + j) (st (30 + j))))
theorem kW_at {X : va_W} {L : Nat → Nat} {cy : Nat → ClassId} {st : gSt} {i κ : Nat} (hk : kkd i = κ) (h9 : κ < 14) : (X ++ kW L cy st)[X.length + (i - 30)]? = some (L i, gce κ L cy i (st i)) := by
  obtain ⟨h1, h2⟩ := kkd_in hk h9
  rw [List.getElem?_append_right (Nat.le_add_right _ _), Nat.add_sub_cancel_left]
  have e : 30 + (i - 30) = i := by omega
  have hj : i - 30 < 67 := by omega
  simp [kW, hj, e, kkd_eq hk h9]
theorem kW_set {X : va_W} {L : Nat → Nat} {cy : Nat → ClassId} {st : gSt} {i k κ : Nat} {v : Int32} {e : va_E} (hk : kkd i = κ) (h9 : κ < 14) (he : gce κ L cy i (upd (st i) k v) = e) :
    (X ++ kW L cy st).set (X.length + (i - 30)) (L i, e) = X ++ kW L cy (gsu st i k v) := by
  obtain ⟨h1, h2⟩ := kkd_in hk h9
  have hg := kkd_eq hk h9
  rw [List.set_append_right _ _ (Nat.le_add_right _ _), Nat.add_sub_cancel_left]
  congr 1
  apply List.ext_getElem?
  intro j
  rw [List.getElem?_set]
  have e0 : 30 + (i - 30) = i := by omega
  by_cases hj : j < 67
  · by_cases hij : i - 30 = j
    · subst hij
      simp [kW, hj, e0, hg, ← he, gsu, va_up]
    · have hji : ¬ 30 + j = i := fun h => hij (by omega)
      simp [kW, hj, hij, hji, gsu, va_up]
  · by_cases hij : i - 30 = j
    · subst hij
      omega
    · simp [kW, hj, hij]
theorem kW_fst (L : Nat → Nat) (cy : Nat → ClassId) (st st' : gSt) (X : va_W) (k : Nat) (q : Nat × va_E) (h : (X ++ kW L cy st)[k]? = some q) : ∃ q' : Nat × va_E, (X ++ kW L cy st')[k]? = some q' ∧ q'.1 = q.1 := by
  rcases Nat.lt_or_ge k X.length with hk | hk
  · rw [List.getElem?_append_left hk] at h
    exact ⟨q, by rw [List.getElem?_append_left hk]; exact h, rfl⟩
  · rw [List.getElem?_append_right hk] at h
    by_cases hj : k - X.length < 67
    · simp [kW, hj] at h
      refine ⟨(L (30 + (k - X.length)), gce (gkd (30 + (k - X.length))) L cy (30 + (k - X.length)) (st' (30 + (k - X.length)))), ?_, ?_⟩
      · rw [List.getElem?_append_right hk]
        simp [kW, hj]
      · rw [← h]
    · simp [kW, hj] at h
theorem kW_D {A : Nat → Prop} {X : va_W} {L : Nat → Nat} {cy : Nat → ClassId} {st : gSt} (h : va_D A (X ++ kW L cy st)) (st' : gSt) : va_D A (X ++ kW L cy st') := by
  refine ⟨fun i j p q hp hq e => ?_, fun k q hk => ?_⟩
  · obtain ⟨p', hp', ep⟩ := kW_fst L cy st' st X i p hp
    obtain ⟨q', hq', eq⟩ := kW_fst L cy st' st X j q hq
    exact h.1 i j p' q' hp' hq' (by rw [ep, eq, e])
  · obtain ⟨q', hq', eq⟩ := kW_fst L cy st' st X k q hk
    rw [← eq]
    exact h.2 k q' hq'
theorem kk5_1 {i : Nat} (h : kkd i = 5) : kkd (i + 1) = 6 := kk_all (P := fun i => kkd i = 5 → kkd (i + 1) = 6) (by decide +kernel) h (by decide) h
theorem kk5_2 {i : Nat} (h : kkd i = 5) : kkd (i + 2) = 7 := kk_all (P := fun i => kkd i = 5 → kkd (i + 2) = 7) (by decide +kernel) h (by decide) h
theorem kk5_3 {i : Nat} (h : kkd i = 5) : kkd (i + 3) = 8 := kk_all (P := fun i => kkd i = 5 → kkd (i + 3) = 8) (by decide +kernel) h (by decide) h
theorem kk5_4 {i : Nat} (h : kkd i = 5) : kkd (i + 4) = 9 := kk_all (P := fun i => kkd i = 5 → kkd (i + 4) = 9) (by decide +kernel) h (by decide) h
theorem kk5_10 {i : Nat} (h : kkd i = 5) : kkd (i + 10) = 10 := kk_all (P := fun i => kkd i = 5 → kkd (i + 10) = 10) (by decide +kernel) h (by decide) h
theorem kk5_12 {i : Nat} (h : kkd i = 5) : kkd (i + 12) = 13 := kk_all (P := fun i => kkd i = 5 → kkd (i + 12) = 13) (by decide +kernel) h (by decide) h
theorem kk9_1 {i : Nat} (h : kkd i = 9) : kkd (i + 1) = 10 := kk_all (P := fun i => kkd i = 9 → kkd (i + 1) = 10) (by decide +kernel) h (by decide) h
theorem kk9_3 {i : Nat} (h : kkd i = 9) : kkd (i + 3) = 10 := kk_all (P := fun i => kkd i = 9 → kkd (i + 3) = 10) (by decide +kernel) h (by decide) h
theorem kk9_5 {i : Nat} (h : kkd i = 9) : kkd (i + 5) = 12 := kk_all (P := fun i => kkd i = 9 → kkd (i + 5) = 12) (by decide +kernel) h (by decide) h
theorem kk10_1 {i : Nat} (h : kkd i = 10) : kkd (i + 1) = 11 := kk_all (P := fun i => kkd i = 10 → kkd (i + 1) = 11) (by decide +kernel) h (by decide) h
theorem kk8_j {i j : Nat} (h : kkd i = 8) (hj : j < 5) : kkd (i + 34 + 6 * j) = 9 := by
  have h1 : i = 33 := kk_all (P := fun i => kkd i = 8 → i = 33) (by decide +kernel) h (by decide) h
  subst h1
  exact co_dec (N := 5) (P := fun j => kkd (33 + 34 + 6 * j) = 9) (by decide +kernel) hj
/-- what holds at each point of a walk: the world, what has changed since, the tables, the addresses apart -/
def kH (D : va_G) (L : Nat → Nat) (cy : Nat → ClassId) (X : va_W) (A : Nat → Prop) (st : gSt) (s : State) (H : Heap) (locs : List Loc) : Prop :=
  va_P D vwCl (X ++ kW L cy st) H ∧ va_S A s.heap H locs ∧ va_K D vwCl (gty cy) s ∧ gN s ∧ ∀ st' : gSt, va_D A (X ++ kW L cy st')
/-- the start of a method over the world -/
def kPc (D : va_G) (L : Nat → Nat) (cy : Nat → ClassId) (X : va_W) (st : gSt) (av : List Value) : Array Value → State → Prop := va_Pc av (fun U => va_P D vwCl (X ++ kW L cy st) U.heap ∧ va_K D vwCl (gty cy) U ∧ gN U)
theorem kPc_blind (D : va_G) (L : Nat → Nat) (cy : Nat → ClassId) (X : va_W) (st : gSt) (av : List Value) : FrameBlind (kPc D L cy X st av) := by
  intro a U g mk q
  obtain ⟨q0, qP, qK, qN⟩ := q
  exact ⟨q0, qP, va_K.moved (u := U) (U := U.calling g mk a) (Vm.Alike.refl U.vm) qK, gN.same (s := U) (U := U.calling g mk a) rfl qN⟩
/-- contracts: a method over the world that answers an int r (nothing; the cell j), and leaves the state st' -/
def kMi (l : Launch) (y : MethodName) (ws : List Cond) (rm : Room) (D : va_G) (L : Nat → Nat) (cy : Nat → ClassId) (X : va_W) (A : Nat → Prop) (av : List Value) (st : gSt) (r : Int32) (st' : gSt) : Prop :=
  Met l y ws rm (kPc D L cy X st av) (va_Qi (fun (q : Int32) (_ : Unit) => q = r) (fun _ t => va_P D vwCl (X ++ kW L cy st') t.heap) A) 0 0 A
def kMv (l : Launch) (y : MethodName) (ws : List Cond) (rm : Room) (D : va_G) (L : Nat → Nat) (cy : Nat → ClassId) (X : va_W) (A : Nat → Prop) (av : List Value) (st : gSt) (st' : gSt) : Prop :=
  Met l y ws rm (kPc D L cy X st av) (va_Qv (fun (_ : Unit) => True) (fun _ t => va_P D vwCl (X ++ kW L cy st') t.heap) A) 0 0 A
def kMr (l : Launch) (y : MethodName) (ws : List Cond) (rm : Room) (D : va_G) (L : Nat → Nat) (cy : Nat → ClassId) (X : va_W) (A : Nat → Prop) (av : List Value) (st : gSt) (j : Nat) (st' : gSt) : Prop :=
  Met l y ws rm (kPc D L cy X st av) (va_Qr (fun (_ : Unit) => True) (fun _ a t => a = L j ∧ va_P D vwCl (X ++ kW L cy st') t.heap) A) 0 0 A
def kMl (l : Launch) (y : MethodName) (ws : List Cond) (rm : Room) (D : va_G) (L : Nat → Nat) (cy : Nat → ClassId) (X : va_W) (A : Nat → Prop) (av : List Value) (st : gSt) (r : Int64) (st' : gSt) : Prop :=
  Met l y ws rm (kPc D L cy X st av) (va_Ql (fun (q : Int64) (_ : Unit) => q = r) (fun _ t => va_P D vwCl (X ++ kW L cy st') t.heap) A) 0 0 A
section GW
variable {p : Program} {l : Launch} {e : Env} {R : Room} {s : State} {m : MethodId} {args : Array Value} {below : List Frame} {meth : Method} {c : Code} {H : Heap} {locs : List Loc} {cells slots : Nat} {Q : State → Prop}
variable {cc : ByteArray} {nL : Nat} {Ts : List Cond} {own : String} {D : va_G} {L : Nat → Nat} {cy : Nat → ClassId} {X : va_W} {A : Nat → Prop} {st st' : gSt} {pc : Nat} {ls : Array Slot} {rest : List Value}
/-- a field is read -/
theorem k_get (S : CallFix p m c cc nL s args Ts own) (h : kH D L cy X A st s H locs) {i κ ci k N idx : Nat} {C : String} {T : u_T} {fs : List Value} {v : Value} (hκ : kkd i = κ) (h9 : κ < 14) (hfs : gce κ L cy i (st i) = .inr (ci, fs)) (hc : vwCl[ci]? = some (C, T, N)) (hin : ∀ w ∈ u_ws C T N, w ∈ Ts) (hk : k < N) (hlk : Cond.fieldLink own idx (T k).1 (T k).2.1 (T k).2.2.1 ∈ Ts) (hv : fs[k]? = some v) (hdg : decode cc pc = .ok (.getfield idx, 3))
    (kk : W p l e R s m args below meth c H locs cells slots Q (F0 m (pc + 3) ls (v :: rest))) : W p l e R s m args below meth c H locs cells slots Q (F0 m pc ls (.ref (L i) :: rest)) := by
  obtain ⟨hx, hb, -, hown, hts⟩ := S
  obtain ⟨hP, -, hK, -, -⟩ := h
  have he := kW_at (X := X) (L := L) (cy := cy) (st := st) hκ h9
  rw [hfs] at he
  exact va_get hx hb hts hin hown hK hP _ he hc k hk (hts _ hlk) (fun _ h9 => h9) hv hdg kk
/-- a private field of a nest mate is read -/
theorem k_getN (S : CallFix p m c cc nL s args Ts own) (h : kH D L cy X A st s H locs) {i κ ci k N idx : Nat} {C : String} {T : u_T} {fs : List Value} {v : Value} (hκ : kkd i = κ) (h9 : κ < 14) (hfs : gce κ L cy i (st i) = .inr (ci, fs)) (hc : vwCl[ci]? = some (C, T, N)) (hin : ∀ w ∈ u_ws C T N, w ∈ Ts) (hk : k < N) (hlk : Cond.fieldLinkNest own idx (T k).1 (T k).2.1 (T k).2.2.1 "BobbinPool" ∈ gNw) (hv : fs[k]? = some v) (hdg : decode cc pc = .ok (.getfield idx, 3))
    (kk : W p l e R s m args below meth c H locs cells slots Q (F0 m (pc + 3) ls (v :: rest))) : W p l e R s m args below meth c H locs cells slots Q (F0 m pc ls (.ref (L i) :: rest)) := by
  obtain ⟨hx, hb, -, hown, hts⟩ := S
  obtain ⟨hP, -, hK, hN, -⟩ := h
  have he := kW_at (X := X) (L := L) (cy := cy) (st := st) hκ h9
  rw [hfs] at he
  exact va_getN hx hb hts hin hown hK hP _ he hc k hk (va_Nw.use rfl (hN _ hlk)) (fun _ h9 => h9) hv hdg kk
/-- an int field is written -/
theorem k_put (S : CallFix p m c cc nL s args Ts own) (h : kH D L cy X A st s H locs) {i κ ci k N idx : Nat} {C : String} {T : u_T} {fs : List Value} {x : Int32} (ty0 : Nat → FieldType) (hty : ∀ k, k < N → parseFieldDescriptor (T k).2.2.1 = some (ty0 k)) (hnm : ∀ a, a < N → ∀ b, b < N → a ≠ b → (T a).2.1 ≠ (T b).2.1) (hκ : kkd i = κ) (h9 : κ < 14) (hfs : gce κ L cy i (st i) = .inr (ci, fs)) (hc : vwCl[ci]? = some (C, T, N)) (hin : ∀ w ∈ u_ws C T N, w ∈ Ts) (hk : k < N) (hlk : Cond.fieldLink own idx (T k).1 (T k).2.1 (T k).2.2.1 ∈ Ts) (hfin : (T k).2.2.2 = false) (htk : ty0 k = .int) (hl : k < fs.length) (hnew : gce κ L cy i (upd (st i) k x) = .inr (ci, fs.set k (.int x))) (hdg : decode cc pc = .ok (.putfield idx, 3))
    (kk : ∀ (H1 : Heap) (locs1 : List Loc), kH D L cy X A (gsu st i k x) s H1 locs1 → W p l e R s m args below meth c H1 locs1 cells slots Q (F0 m (pc + 3) ls rest)) : W p l e R s m args below meth c H locs cells slots Q (F0 m pc ls (.int x :: .ref (L i) :: rest)) := by
  obtain ⟨hx, hb, -, hown, hts⟩ := S
  obtain ⟨hP, hS, hK, hN, hD⟩ := h
  have he := kW_at (X := X) (L := L) (cy := cy) (st := st) hκ h9
  rw [hfs] at he
  refine va_put hx hb hts hin ty0 hty hnm hown hK hP (hD st) hS _ he hc k hk (hts _ hlk) (fun _ h9 => h9) hfin (ty := .int) (by rw [hty k hk, htk]) rfl rfl hl hdg (fun H1 locs1 hP1 hD1 hS1 => ?_)
  rw [kW_set (X := X) (L := L) (cy := cy) (st := st) (i := i) (k := k) (v := x) (e := .inr (ci, fs.set k (.int x))) hκ h9 hnew] at hP1
  exact kk H1 locs1 ⟨hP1, hS1, hK, hN, hD⟩
/-- a private int field of a nest mate is written -/
theorem k_putN (S : CallFix p m c cc nL s args Ts own) (h : kH D L cy X A st s H locs) {i κ ci k N idx : Nat} {C : String} {T : u_T} {fs : List Value} {x : Int32} (ty0 : Nat → FieldType) (hty : ∀ k, k < N → parseFieldDescriptor (T k).2.2.1 = some (ty0 k)) (hnm : ∀ a, a < N → ∀ b, b < N → a ≠ b → (T a).2.1 ≠ (T b).2.1) (hκ : kkd i = κ) (h9 : κ < 14) (hfs : gce κ L cy i (st i) = .inr (ci, fs)) (hc : vwCl[ci]? = some (C, T, N)) (hin : ∀ w ∈ u_ws C T N, w ∈ Ts) (hk : k < N) (hlk : Cond.fieldLinkNest own idx (T k).1 (T k).2.1 (T k).2.2.1 "BobbinPool" ∈ gNw) (hfin : (T k).2.2.2 = false) (htk : ty0 k = .int) (hl : k < fs.length) (hnew : gce κ L cy i (upd (st i) k x) = .inr (ci, fs.set k (.int x))) (hdg : decode cc pc = .ok (.putfield idx, 3))
    (kk : ∀ (H1 : Heap) (locs1 : List Loc), kH D L cy X A (gsu st i k x) s H1 locs1 → W p l e R s m args below meth c H1 locs1 cells slots Q (F0 m (pc + 3) ls rest)) : W p l e R s m args below meth c H locs cells slots Q (F0 m pc ls (.int x :: .ref (L i) :: rest)) := by
  obtain ⟨hx, hb, -, hown, hts⟩ := S
  obtain ⟨hP, hS, hK, hN, hD⟩ := h
  have he := kW_at (X := X) (L := L) (cy := cy) (st := st) hκ h9
  rw [hfs] at he
  refine va_putN hx hb hts hin ty0 hty hnm hown hK hP (hD st) hS _ he hc k hk (va_Nw.use rfl (hN _ hlk)) (fun _ h9 => h9) hfin (ty := .int) (by rw [hty k hk, htk]) rfl rfl hl hdg (fun H1 locs1 hP1 hD1 hS1 => ?_)
  rw [kW_set (X := X) (L := L) (cy := cy) (st := st) (i := i) (k := k) (v := x) (e := .inr (ci, fs.set k (.int x))) hκ h9 hnew] at hP1
  exact kk H1 locs1 ⟨hP1, hS1, hK, hN, hD⟩
/-- an element of an int array is read, written; of an array of references read; an array's length -/
theorem k_ial (S : CallFix p m c cc nL s args Ts own) (h : kH D L cy X A st s H locs) {i κ n : Nat} {j : Int32} (hκ : kkd i = κ) (h9 : κ < 14) (hfs : gce κ L cy i (st i) = .inl (cy 0, n, .inl (st i))) (hin : vp_in j n) (hdg : decode cc pc = .ok (.iaload, 1))
    (kk : W p l e R s m args below meth c H locs cells slots Q (F0 m (pc + 1) ls (.int (st i j.toNatClampNeg) :: rest))) : W p l e R s m args below meth c H locs cells slots Q (F0 m pc ls (.int j :: .ref (L i) :: rest)) := by
  obtain ⟨hx, hb, -, hown, hts⟩ := S
  obtain ⟨hP, -, hK, -, -⟩ := h
  have he := kW_at (X := X) (L := L) (cy := cy) (st := st) hκ h9
  rw [hfs] at he
  exact va_iald hx hb hK hP _ 0 he rfl hin hdg kk
theorem k_ias (S : CallFix p m c cc nL s args Ts own) (h : kH D L cy X A st s H locs) {i κ n : Nat} {j x : Int32} (hκ : kkd i = κ) (h9 : κ < 14) (hfs : ∀ r : Nat → Int32, gce κ L cy i r = .inl (cy 0, n, .inl r)) (hin : vp_in j n) (hdg : decode cc pc = .ok (.iastore, 1))
    (kk : ∀ (H1 : Heap) (locs1 : List Loc), kH D L cy X A (gsu st i j.toNatClampNeg x) s H1 locs1 → W p l e R s m args below meth c H1 locs1 cells slots Q (F0 m (pc + 1) ls rest)) : W p l e R s m args below meth c H locs cells slots Q (F0 m pc ls (.int x :: .int j :: .ref (L i) :: rest)) := by
  obtain ⟨hx, hb, -, hown, hts⟩ := S
  obtain ⟨hP, hS, hK, hN, hD⟩ := h
  have he := kW_at (X := X) (L := L) (cy := cy) (st := st) hκ h9
  rw [hfs] at he
  refine va_iast hx hb hK hP (hD st) hS _ 0 he rfl hin hdg (fun H1 locs1 hP1 hD1 hS1 => ?_)
  rw [kW_set (X := X) (L := L) (cy := cy) (st := st) (i := i) (k := j.toNatClampNeg) (v := x) hκ h9 (hfs _)] at hP1
  exact kk H1 locs1 ⟨hP1, hS1, hK, hN, hD⟩
theorem k_aal (S : CallFix p m c cc nL s args Ts own) (h : kH D L cy X A st s H locs) {i κ n t0 : Nat} {cA : ClassId} {C : String} {f : Nat → Nat} {j : Int32} (hκ : kkd i = κ) (h9 : κ < 14) (hfs : gce κ L cy i (st i) = .inl (cA, n, .inr (.inr (.inr (.inr (fun j => some (L (f j)))))))) (ht : (gty cy)[t0]? = some (cA, .object C)) (hin : vp_in j n) (hdg : decode cc pc = .ok (.aaload, 1))
    (kk : W p l e R s m args below meth c H locs cells slots Q (F0 m (pc + 1) ls (.ref (L (f j.toNatClampNeg)) :: rest))) : W p l e R s m args below meth c H locs cells slots Q (F0 m pc ls (.int j :: .ref (L i) :: rest)) := by
  obtain ⟨hx, hb, -, hown, hts⟩ := S
  obtain ⟨hP, -, hK, -, -⟩ := h
  have he := kW_at (X := X) (L := L) (cy := cy) (st := st) hκ h9
  rw [hfs] at he
  exact va_aldq hx hb hK hP _ t0 he ht hin hdg kk
theorem k_alen (S : CallFix p m c cc nL s args Ts own) (h : kH D L cy X A st s H locs) {i κ n t0 : Nat} {cA : ClassId} {ty : FieldType} {x : (Nat → Int32) ⊕ (Nat → Int64) ⊕ (Nat → UInt32) ⊕ (Nat → UInt64) ⊕ (Nat → Option Nat)} {v : Int32} (hκ : kkd i = κ) (h9 : κ < 14) (hfs : gce κ L cy i (st i) = .inl (cA, n, x)) (ht : (gty cy)[t0]? = some (cA, ty)) (hv : Int32.ofNat n = v) (hdg : decode cc pc = .ok (.arraylength, 1))
    (kk : W p l e R s m args below meth c H locs cells slots Q (F0 m (pc + 1) ls (.int v :: rest))) : W p l e R s m args below meth c H locs cells slots Q (F0 m pc ls (.ref (L i) :: rest)) := by
  obtain ⟨hx, hb, -, hown, hts⟩ := S
  obtain ⟨hP, -, hK, -, -⟩ := h
  have he := kW_at (X := X) (L := L) (cy := cy) (st := st) hκ h9
  rw [hfs] at he
  exact va_alen hx hb hK hP _ t0 he ht hv hdg kk
/-- the ends -/
theorem k_reti (S : CallFix p m c cc nL s args Ts own) (h : kH D L cy X A st s H locs) {ty : FieldType} {v r : Int32} (hr : meth.sig.returnType = some ty) (hlocks : meth.locks = false) (hn : narrow ty (.int v) = .int v) (hv : v = r) (hst : st = st') (hdg : decode cc pc = .ok (.ireturn, 1)) :
    W p l e R s m args below meth c H locs cells slots (MQ below (va_Qi (fun (q : Int32) (_ : Unit) => q = r) (fun _ t => va_P D vwCl (X ++ kW L cy st') t.heap) A) args s cells slots A) (F0 m pc ls [.int v]) := by
  obtain ⟨hx, hb, -, hown, hts⟩ := S
  obtain ⟨hP, hS, hK, -, hD⟩ := h
  subst hst
  exact W.zret hx hb hr hn (fun t ht hW => ⟨⟨v, (), rfl, hv, by show va_P D vwCl (X ++ kW L cy st) t.heap; rw [ht]; exact hP⟩, hS.F ht⟩) hS.2.2 hdg hlocks
theorem k_retv (S : CallFix p m c cc nL s args Ts own) (h : kH D L cy X A st s H locs) (hr : meth.sig.returnType = none) (hlocks : meth.locks = false) (hst : st = st') (hdg : decode cc pc = .ok (.return_, 1)) :
    W p l e R s m args below meth c H locs cells slots (MQ below (va_Qv (fun (_ : Unit) => True) (fun _ t => va_P D vwCl (X ++ kW L cy st') t.heap) A) args s cells slots A) (F0 m pc ls []) := by
  obtain ⟨hx, hb, -, hown, hts⟩ := S
  obtain ⟨hP, hS, hK, -, hD⟩ := h
  subst hst
  exact W.vret hx hb hr (fun t ht hW => ⟨⟨(), rfl, trivial, by show va_P D vwCl (X ++ kW L cy st) t.heap; rw [ht]; exact hP⟩, hS.F ht⟩) hS.2.2 hdg hlocks
theorem k_retr (S : CallFix p m c cc nL s args Ts own) (h : kH D L cy X A st s H locs) {C : String} {i j : Nat} (hr : meth.sig.returnType = some (.object C)) (hlocks : meth.locks = false) (hv : i = j) (hst : st = st') (hdg : decode cc pc = .ok (.areturn, 1)) :
    W p l e R s m args below meth c H locs cells slots (MQ below (va_Qr (fun (_ : Unit) => True) (fun _ a t => a = L j ∧ va_P D vwCl (X ++ kW L cy st') t.heap) A) args s cells slots A) (F0 m pc ls [.ref (L i)]) := by
  obtain ⟨hx, hb, -, hown, hts⟩ := S
  obtain ⟨hP, hS, hK, -, hD⟩ := h
  subst hst
  subst hv
  exact W.aret hx hb hr (Or.inl ⟨C, rfl⟩) (Or.inr ⟨_, rfl⟩) (fun t ht hW => ⟨⟨(), L i, rfl, trivial, rfl, by show va_P D vwCl (X ++ kW L cy st) t.heap; rw [ht]; exact hP⟩, hS.F ht⟩) hS.2.2 hdg hlocks
/-- the calls -/
theorem k_pre (h : kH D L cy X A st s H locs) {i κ ci : Nat} {C : String} {T : u_T} {N : Nat} {fs : List Value} (hκ : kkd i = κ) (h9 : κ < 14) (hfs : gce κ L cy i (st i) = .inr (ci, fs)) (hc : vwCl[ci]? = some (C, T, N)) (As : List Value) : PreV s H C (L i) (kPc D L cy X st (.ref (L i) :: As)) As := by
  obtain ⟨hP, hS, hK, hN, hD⟩ := h
  have he := kW_at (X := X) (L := L) (cy := cy) (st := st) hκ h9
  rw [hfs] at he
  exact ⟨kPc_blind D L cy X st _, va_recv hK hP hc he, fun U hU hW => ⟨rfl, by rw [hU]; exact hP, va_K.moved hW.alike hK, gN.warm hW hN⟩⟩
theorem k_preS (h : kH D L cy X A st s H locs) (As : List Value) : PreS s H (kPc D L cy X st As) As := by
  obtain ⟨hP, hS, hK, hN, hD⟩ := h
  exact ⟨kPc_blind D L cy X st _, fun U hU hW => ⟨rfl, by rw [hU]; exact hP, va_K.moved hW.alike hK, gN.warm hW hN⟩⟩
section calls
variable {y : MethodName} {bytes : ByteArray} {maxL n idx : Nat} {ret : Option FieldType} {ws : List Cond} {rm : Room} {C : String} {As : List Value} {i : Nat} {st0 : List Value}
theorem k_calli (S : CallFix p m c cc nL s args Ts own) (h : kH D L cy X A st s H locs) {r : Int32} (hM : kMi l y ws rm D L cy X A (.ref (L i) :: As) st r st') (cw : CallW R s args own C idx y bytes maxL ret ws rm 0 0 n) (hp : PreV s H C (L i) (kPc D L cy X st (.ref (L i) :: As)) As)
    (hn : As.length = n) (hsize : ls.size = nL) (hstack : st0 = As.reverse ++ .ref (L i) :: rest) (hW : 2 * 0 + (rest.map fun v => v.category).sum ≤ 8) (hdg : decode cc pc = .ok (.invokevirtual idx, 3)) (hf : cells ≤ R.cells ∧ slots ≤ R.slots)
    (kk : ∀ (H1 : Heap) (locs1 : List Loc), kH D L cy X A st' s H1 locs1 → W p l e R s m args below meth c H1 locs1 cells slots Q (F0 m (pc + 3) ls (.int r :: rest))) : W p l e R s m args below meth c H locs cells slots Q (F0 m pc ls st0) := by
  obtain ⟨hP, hS, hK, hN, hD⟩ := h
  refine va_calli (va_runV S hM cw hp rfl hn hsize hstack hW hdg hf) hS (fun q _ h => h) (fun q h => h) (fun r u t H1 locs1 ht hvm hw hB hz1 hk1 hS1 => ?_)
  rw [ht] at hB
  subst hw
  exact kk H1 locs1 ⟨hB, hS1, hK, hN, hD⟩
theorem k_callv (S : CallFix p m c cc nL s args Ts own) (h : kH D L cy X A st s H locs) (hM : kMv l y ws rm D L cy X A (.ref (L i) :: As) st st') (cw : CallW R s args own C idx y bytes maxL ret ws rm 0 0 n) (hp : PreV s H C (L i) (kPc D L cy X st (.ref (L i) :: As)) As)
    (hn : As.length = n) (hsize : ls.size = nL) (hstack : st0 = As.reverse ++ .ref (L i) :: rest) (hW : 2 * 0 + (rest.map fun v => v.category).sum ≤ 8) (hdg : decode cc pc = .ok (.invokevirtual idx, 3)) (hf : cells ≤ R.cells ∧ slots ≤ R.slots)
    (kk : ∀ (H1 : Heap) (locs1 : List Loc), kH D L cy X A st' s H1 locs1 → W p l e R s m args below meth c H1 locs1 cells slots Q (F0 m (pc + 3) ls rest)) : W p l e R s m args below meth c H locs cells slots Q (F0 m pc ls st0) := by
  obtain ⟨hP, hS, hK, hN, hD⟩ := h
  refine va_callv (va_runV S hM cw hp rfl hn hsize hstack hW hdg hf) hS (fun q _ h => h) (fun q h => h) (fun u t H1 locs1 ht hvm hw hB hz1 hk1 hS1 => ?_)
  rw [ht] at hB
  exact kk H1 locs1 ⟨hB, hS1, hK, hN, hD⟩
theorem k_callr (S : CallFix p m c cc nL s args Ts own) (h : kH D L cy X A st s H locs) {j : Nat} (hM : kMr l y ws rm D L cy X A (.ref (L i) :: As) st j st') (cw : CallW R s args own C idx y bytes maxL ret ws rm 0 0 n) (hp : PreV s H C (L i) (kPc D L cy X st (.ref (L i) :: As)) As)
    (hn : As.length = n) (hsize : ls.size = nL) (hstack : st0 = As.reverse ++ .ref (L i) :: rest) (hW : 2 * 0 + (rest.map fun v => v.category).sum ≤ 8) (hdg : decode cc pc = .ok (.invokevirtual idx, 3)) (hf : cells ≤ R.cells ∧ slots ≤ R.slots)
    (kk : ∀ (H1 : Heap) (locs1 : List Loc), kH D L cy X A st' s H1 locs1 → W p l e R s m args below meth c H1 locs1 cells slots Q (F0 m (pc + 3) ls (.ref (L j) :: rest))) : W p l e R s m args below meth c H locs cells slots Q (F0 m pc ls st0) := by
  obtain ⟨hP, hS, hK, hN, hD⟩ := h
  refine va_callr (va_runV S hM cw hp rfl hn hsize hstack hW hdg hf) hS (fun q _ h => h) (fun q h => h) (fun u ra t H1 locs1 ht hvm hw hB hz1 hk1 hS1 => ?_)
  obtain ⟨hra, hB⟩ := hB
  rw [ht] at hB
  subst hra
  exact kk H1 locs1 ⟨hB, hS1, hK, hN, hD⟩
theorem k_calliS (S : CallFix p m c cc nL s args Ts own) (h : kH D L cy X A st s H locs) {r : Int32} (hM : kMi l y ws rm D L cy X A As st r st') (cw : CallB R s args own idx y bytes maxL ret ws rm 0 0 n ∧ (Cond.static y).before args s = true)
    (hn : As.length = n) (hsize : ls.size = nL) (hstack : st0 = As.reverse ++ rest) (hW : 2 * 0 + (rest.map fun v => v.category).sum ≤ 8) (hdg : decode cc pc = .ok (.invokestatic idx, 3)) (hf : cells ≤ R.cells ∧ slots ≤ R.slots)
    (kk : ∀ (H1 : Heap) (locs1 : List Loc), kH D L cy X A st' s H1 locs1 → W p l e R s m args below meth c H1 locs1 cells slots Q (F0 m (pc + 3) ls (.int r :: rest))) : W p l e R s m args below meth c H locs cells slots Q (F0 m pc ls st0) := by
  have hp := k_preS h As
  obtain ⟨hP, hS, hK, hN, hD⟩ := h
  refine va_calli (va_runS S hM cw hp rfl hn hsize hstack hW hdg hf) hS (fun q _ h => h) (fun q h => h) (fun r u t H1 locs1 ht hvm hw hB hz1 hk1 hS1 => ?_)
  rw [ht] at hB
  subst hw
  exact kk H1 locs1 ⟨hB, hS1, hK, hN, hD⟩
theorem k_callvS (S : CallFix p m c cc nL s args Ts own) (h : kH D L cy X A st s H locs) (hM : kMv l y ws rm D L cy X A As st st') (cw : CallB R s args own idx y bytes maxL ret ws rm 0 0 n ∧ (Cond.static y).before args s = true)
    (hn : As.length = n) (hsize : ls.size = nL) (hstack : st0 = As.reverse ++ rest) (hW : 2 * 0 + (rest.map fun v => v.category).sum ≤ 8) (hdg : decode cc pc = .ok (.invokestatic idx, 3)) (hf : cells ≤ R.cells ∧ slots ≤ R.slots)
    (kk : ∀ (H1 : Heap) (locs1 : List Loc), kH D L cy X A st' s H1 locs1 → W p l e R s m args below meth c H1 locs1 cells slots Q (F0 m (pc + 3) ls rest)) : W p l e R s m args below meth c H locs cells slots Q (F0 m pc ls st0) := by
  have hp := k_preS h As
  obtain ⟨hP, hS, hK, hN, hD⟩ := h
  refine va_callv (va_runS S hM cw hp rfl hn hsize hstack hW hdg hf) hS (fun q _ h => h) (fun q h => h) (fun u t H1 locs1 ht hvm hw hB hz1 hk1 hS1 => ?_)
  rw [ht] at hB
  exact kk H1 locs1 ⟨hB, hS1, hK, hN, hD⟩
end calls
/-- the entry: a walk of the body from pc 0 gives the contract -/
def kB (p : Program) (m : MethodId) (meth : Method) (c : Code) (cc : ByteArray) (nL : Nat) (s : State) (args : Array Value) (Ts : List Cond) (own : String) (ret : Option FieldType) (D : va_G) (L : Nat → Nat) (cy : Nat → ClassId) (X : va_W) (A : Nat → Prop) (st : gSt) (av : List Value) (ls : Array Slot) : Prop :=
  CallFix p m c cc nL s args Ts own ∧ meth.sig.returnType = ret ∧ meth.locks = false ∧ kH D L cy X A st s s.heap [] ∧ lv_has ls nL (lv_args 0 av)
theorem k_entry {y : MethodName} {ws ws' : List Cond} {rm : Room} {cc : ByteArray} {maxL : Nat} {ret : Option FieldType} {av : List Value} {Qc : Array Value → State → Outcome → State → Prop} (hD : va_D A (X ++ kW L cy st)) (hy : plainName y.cls = true) (hw : ws = Cond.code y cc maxL ret :: ws') (hlen : (lg_sl av).length ≤ maxL)
    (body : ∀ (p : Program) (e : Env) (s : State) (m : MethodId) (args : Array Value) (below : List Frame) (meth : Method) (c : Code) (ls : Array Slot), kB p m meth c cc maxL s args ws y.cls ret D L cy X A st av ls → W p l e rm s m args below meth c s.heap [] 0 0 (MQ below Qc args s 0 0 A) (F0 m 0 ls [])) :
    Met l y ws rm (kPc D L cy X st av) Qc 0 0 A := by
  refine Met.ofW (cc := cc) (maxL := maxL) (ret := ret) hy hw ?_
  intro p e s m args below meth c s₁ B hml hv
  obtain ⟨rfl, hP, hK, hN⟩ := hv
  have hts := atoms_spec (ws := ws) B.pre
  have hown : s.vm.findClass y.cls = some m.cls := findClass_of_methodNamed B.named
  rw [lg_entry_eq]
  exact body p e s m _ below meth c _ ⟨⟨B.exec, B.bytes, hml, hown, hts⟩, B.returns, B.notSynchronized, ⟨hP, va_S.rf, hK, hN, fun st' => kW_D hD st'⟩, lv_entry av hlen⟩
/-- the same for a method of a class some of whose other methods are the VM's own -/
theorem k_entryF {y : MethodName} {ws ws' : List Cond} {rm : Room} {cc : ByteArray} {maxL : Nat} {ret : Option FieldType} {av : List Value} {Qc : Array Value → State → Outcome → State → Prop} (hD : va_D A (X ++ kW L cy st)) (hy : plainFor y = true) (hw : ws = Cond.code y cc maxL ret :: ws') (hlen : (lg_sl av).length ≤ maxL)
    (body : ∀ (p : Program) (e : Env) (s : State) (m : MethodId) (args : Array Value) (below : List Frame) (meth : Method) (c : Code) (ls : Array Slot), kB p m meth c cc maxL s args ws y.cls ret D L cy X A st av ls → W p l e rm s m args below meth c s.heap [] 0 0 (MQ below Qc args s 0 0 A) (F0 m 0 ls [])) :
    Met l y ws rm (kPc D L cy X st av) Qc 0 0 A := by
  refine va_MetF (cc := cc) (maxL := maxL) (ret := ret) hy hw ?_
  intro p e s m args below meth c s₁ B hml hv
  obtain ⟨rfl, hP, hK, hN⟩ := hv
  have hts := atoms_spec (ws := ws) B.pre
  have hown : s.vm.findClass y.cls = some m.cls := findClass_of_methodNamed B.named
  rw [lg_entry_eq]
  exact body p e s m _ below meth c _ ⟨⟨B.exec, B.bytes, hml, hown, hts⟩, B.returns, B.notSynchronized, ⟨hP, va_S.rf, hK, hN, fun st' => kW_D hD st'⟩, lv_entry av hlen⟩
/-- a name for a reference on the top; other words for a result -/
theorem k_topr {i : Nat} {g2 : List Value} (k : ∀ j : Nat, j = i → W p l e R s m args below meth c H locs cells slots Q (F0 m pc ls (.ref (L j) :: g2))) : W p l e R s m args below meth c H locs cells slots Q (F0 m pc ls (.ref (L i) :: g2)) := k i rfl
theorem k_cvi {r r2 : Int32} {st2 : gSt} {g : JFrame} (e1 : r = r2) (e2 : st' = st2) (k : W p l e R s m args below meth c H locs cells slots (MQ below (va_Qi (fun (q : Int32) (_ : Unit) => q = r2) (fun _ t => va_P D vwCl (X ++ kW L cy st2) t.heap) A) args s 0 0 A) g) :
    W p l e R s m args below meth c H locs cells slots (MQ below (va_Qi (fun (q : Int32) (_ : Unit) => q = r) (fun _ t => va_P D vwCl (X ++ kW L cy st') t.heap) A) args s 0 0 A) g := by
  subst e1; subst e2; exact k
theorem k_cvv {st2 : gSt} {g : JFrame} (e2 : st' = st2) (k : W p l e R s m args below meth c H locs cells slots (MQ below (va_Qv (fun (_ : Unit) => True) (fun _ t => va_P D vwCl (X ++ kW L cy st2) t.heap) A) args s 0 0 A) g) :
    W p l e R s m args below meth c H locs cells slots (MQ below (va_Qv (fun (_ : Unit) => True) (fun _ t => va_P D vwCl (X ++ kW L cy st') t.heap) A) args s 0 0 A) g := by
  subst e2; exact k
theorem k_cvr {j j2 : Nat} {st2 : gSt} {g : JFrame} (e1 : j = j2) (e2 : st' = st2) (k : W p l e R s m args below meth c H locs cells slots (MQ below (va_Qr (fun (_ : Unit) => True) (fun _ a t => a = L j2 ∧ va_P D vwCl (X ++ kW L cy st2) t.heap) A) args s 0 0 A) g) :
    W p l e R s m args below meth c H locs cells slots (MQ below (va_Qr (fun (_ : Unit) => True) (fun _ a t => a = L j ∧ va_P D vwCl (X ++ kW L cy st') t.heap) A) args s 0 0 A) g := by
  subst e1; subst e2; exact k
end GW
theorem kk_wk {P : Nat} (hP : kkd P = 5) (x : Int32) : kkd (f_wk P x) = 9 := by
  unfold f_wk
  split
  · exact kk5_4 hP
  · split
    · exact kk5_4 hP
    · rename_i c1 c2
      exact kk8_j (kk5_3 hP) (Nat.lt_of_lt_of_le (gin_lt (n := 5) (gin c1 c2 rfl)) (by decide))
set_option maxHeartbeats 4000000 in
set_option maxRecDepth 100000 in
/-- Row.clear() -/
theorem ck_X2_clear (l : Launch) (D : va_G) (L : Nat → Nat) (cy : Nat → ClassId) (X : va_W) (A : Nat → Prop) (st : gSt) (hD : va_D A (X ++ kW L cy st)) {i : Nat} (hi : kkd i = 10) : kMv l yX2_clear wsX2_clear { frames := 0, cells := 0, slots := 0, locals := 0 } D L cy X A [.ref (L i)] st (gsu st i 1 0) := by
  refine k_entry hD (cc := cX2_clear) (maxL := 1) (ret := none) (by decide) rfl (Nat.le_of_ble_eq_true rfl) ?_
  intro p e s m args below meth c ls B
  obtain ⟨S, hr, hlocks, h, hl⟩ := B
  have hx := S.1
  have hb := S.2.1
  have hts := S.2.2.2.2
  have in2 : ∀ w ∈ wsX20, w ∈ wsX2_clear := by decide +kernel
  have hl : lv_has ls 1 [(0, .ref (L i))] := hl
  refine lv_aload_n hx hb dX2_clear_0 rfl (lv_at hl 0 rfl) ?_
  refine lv_iconst (v := 0) hx hb dX2_clear_1 (by decide) ?_
  refine k_put S h tyX2 tyX2_ok nmX2 hi (by decide) rfl rfl in2 (k := 1) (by decide) (by decide +kernel) rfl rfl (Nat.le_of_ble_eq_true rfl) rfl dX2_clear_2 (fun H locs h => ?_)
  exact k_retv S h hr hlocks rfl dX2_clear_5
set_option maxHeartbeats 4000000 in
set_option maxRecDepth 100000 in
/-- Pool.workerAt(number) -/
theorem ck_X1_workerAt (l : Launch) (D : va_G) (L : Nat → Nat) (cy : Nat → ClassId) (X : va_W) (A : Nat → Prop) (st : gSt) (hD : va_D A (X ++ kW L cy st)) {P : Nat} (hP : kkd P = 5) (x : Int32) : kMr l yX1_workerAt wsX1_workerAt { frames := 0, cells := 0, slots := 0, locals := 0 } D L cy X A [.ref (L P), .int x] st (f_wk P x) st := by
  refine k_entry hD (cc := cX1_workerAt) (maxL := 2) (ret := (some (.object "BobbinPool$Worker"))) (by decide) rfl (Nat.le_of_ble_eq_true rfl) ?_
  intro p e s m args below meth c ls B
  obtain ⟨S, hr, hlocks, h, hl⟩ := B
  have hx := S.1
  have hb := S.2.1
  have hts := S.2.2.2.2
  have in1 : ∀ w ∈ wsX10, w ∈ wsX1_workerAt := by decide +kernel
  have hl : lv_has ls 2 [(0, .ref (L P)), (1, .int x)] := hl
  refine lv_iload_n hx hb dX1_workerAt_0 rfl (lv_at hl 1 rfl) ?_
  refine lv_if_lt (tgt := 18) hx hb dX1_workerAt_1 (by decide) (fun c1 => ?_) (fun c1 => ?_)
  · refine lv_aload_n hx hb dX1_workerAt_18 rfl (lv_at hl 0 rfl) ?_
    refine k_get S h hP (by decide) rfl rfl in1 (k := 5) (by decide) (by decide +kernel) rfl dX1_workerAt_19 ?_
    exact k_retr S h hr hlocks (by simp only [f_wk, if_pos c1]) rfl dX1_workerAt_22
  · refine lv_iload_n hx hb dX1_workerAt_4 rfl (lv_at hl 1 rfl) ?_
    refine lv_iconst (v := 5) hx hb dX1_workerAt_5 (by decide) ?_
    refine lv_icmp_ge (tgt := 18) hx hb dX1_workerAt_6 (by decide) (fun c2 => ?_) (fun c2 => ?_)
    · refine lv_aload_n hx hb dX1_workerAt_18 rfl (lv_at hl 0 rfl) ?_
      refine k_get S h hP (by decide) rfl rfl in1 (k := 5) (by decide) (by decide +kernel) rfl dX1_workerAt_19 ?_
      exact k_retr S h hr hlocks (by simp only [f_wk, if_neg c1, if_pos c2]) rfl dX1_workerAt_22
    · refine lv_aload_n hx hb dX1_workerAt_9 rfl (lv_at hl 0 rfl) ?_
      refine k_get S h hP (by decide) rfl rfl in1 (k := 4) (by decide) (by decide +kernel) rfl dX1_workerAt_10 ?_
      refine lv_iload_n hx hb dX1_workerAt_13 rfl (lv_at hl 1 rfl) ?_
      refine k_aal S h (t0 := 3) (kk5_3 hP) (by decide) rfl rfl (gin c1 c2 rfl) dX1_workerAt_14 ?_
      refine lv_goto (tgt := 22) hx hb dX1_workerAt_15 (by decide) ?_
      exact k_retr S h hr hlocks (by simp only [f_wk, if_neg c1, if_neg c2]) rfl dX1_workerAt_22
set_option maxHeartbeats 8000000 in
set_option maxRecDepth 100000 in
/-- Arrays.fill(int[20], v) -/
theorem ck_J7_fill_53178_12 (l : Launch) (D : va_G) (L : Nat → Nat) (cy : Nat → ClassId) (X : va_W) (A : Nat → Prop) (st : gSt) (hD : va_D A (X ++ kW L cy st)) {i : Nat} (hi : kkd i = 12) (v : Int32)  : kMv l yJ7_fill_53178 wsJ7_fill_53178 { frames := 0, cells := 0, slots := 0, locals := 0 } D L cy X A [.ref (L i), .int v] st (f_J7_fill_53178_12 st i v) := by
  refine k_entry hD (cc := cJ7_fill_53178) (maxL := 4) (ret := none) (by decide +kernel) rfl (Nat.le_of_ble_eq_true rfl) ?_
  intro p e s m args below meth c ls B
  obtain ⟨S, hr, hlocks, h, hl⟩ := B
  have hx := S.1
  have hb := S.2.1
  have hts := S.2.2.2.2
  have hl : lv_has ls 4 [(0, .ref (L i)), (1, .int v)] := hl
  refine lv_iconst (v := 0) hx hb dJ7_fill_53178_0 (by decide) ?_
  refine lv_istore_n (lv' := [(2, .int 0), (0, .ref (L i)), (1, .int v)]) hx hb dJ7_fill_53178_1 rfl hl (by decide) rfl (fun ls hl => ?_)
  refine lv_aload_n hx hb dJ7_fill_53178_2 rfl (lv_at hl 1 rfl) ?_
  refine k_alen S h (t0 := 0) hi (by decide) rfl rfl rfl dJ7_fill_53178_3 ?_
  refine lv_istore_n (lv' := [(3, .int 20), (2, .int 0), (0, .ref (L i)), (1, .int v)]) hx hb dJ7_fill_53178_4 rfl hl (by decide) rfl (fun ls hl => ?_)
  have loopL1 : ∀ (nL1 : Nat) (st1 : gSt) (x : Int32) (k : Nat), (k ≤ 20) → (20 < k + nL1) → (x = nI k) → ∀ (H : Heap) (locs : List Loc) (ls : Array Slot), kH D L cy X A st1 s H locs → lv_has ls 4 [(3, .int 20), (2, .int x), (0, .ref (L i)), (1, .int v)] → W p l e { frames := 0, cells := 0, slots := 0, locals := 0 } s m args below meth c H locs 0 0 (MQ below (va_Qv (fun (_ : Unit) => True) (fun _ zt => va_P D vwCl (X ++ kW L cy (f_J7_fill_53178_12_L1 i v nL1 st1 x)) zt.heap) A) args s 0 0 A) (F0 m 5 ls []) := by
    intro nL1
    induction nL1 with
    | zero => intros; omega
    | succ nL1 ihL1 =>
      intro st1 x k hk hn ex H locs ls h hl
      refine lv_iload_n hx hb dJ7_fill_53178_5 rfl (lv_at hl 1 rfl) ?_
      refine lv_iload_n hx hb dJ7_fill_53178_6 rfl (lv_at hl 0 rfl) ?_
      refine lv_icmp_ge (tgt := 20) hx hb dJ7_fill_53178_7 (by decide) (fun c1 => ?_) (fun c1 => ?_)
      · exact k_retv S h hr hlocks (by first | (simp only [f_J7_fill_53178_12_L1, if_pos c1]; done) | (simp only [f_J7_fill_53178_12_L1, if_pos c1]; rfl) | rfl) dJ7_fill_53178_20
      · refine lv_aload_n hx hb dJ7_fill_53178_10 rfl (lv_at hl 2 rfl) ?_
        refine lv_iload_n hx hb dJ7_fill_53178_11 rfl (lv_at hl 1 rfl) ?_
        refine lv_iload_n hx hb dJ7_fill_53178_12 rfl (lv_at hl 3 rfl) ?_
        refine k_ias S h hi (by decide) (fun _ => rfl) (g_in ex (g_lt ex (M := 20) (n := 20) rfl (by omega) (by omega) c1) (by omega)) dJ7_fill_53178_13 (fun H locs h => ?_)
        obtain ⟨x3, ex3⟩ : ∃ zz : Int32, zz = x + 1 := ⟨_, rfl⟩
        refine lv_iinc (v := x3) (lv' := [(2, .int x3), (3, .int 20), (0, .ref (L i)), (1, .int v)]) hx hb dJ7_fill_53178_14 hl (k := 1) rfl (by rw [ex3]; rfl) (by decide) rfl (fun ls hl => ?_)
        refine lv_goto (tgt := 5) hx hb dJ7_fill_53178_17 (by decide) ?_
        have hlt := g_lt ex (M := 20) (n := 20) rfl (by omega) (by omega) c1
        exact k_cvv (by subst ex3; first | (simp only [f_J7_fill_53178_12_L1, if_neg c1]; done) | (simp only [f_J7_fill_53178_12_L1, if_neg c1]; rfl) | rfl) (ihL1 _ x3 (k + 1) (by omega) (by omega) (g_s1 ex3 ex) _ _ ls h (lv_sub hl [1, 0, 2, 3] rfl))
  exact k_cvv (by first | (simp only [f_J7_fill_53178_12]; done) | (simp only [f_J7_fill_53178_12]; rfl) | rfl) (loopL1 21 _ 0 0 (by omega) (by omega) rfl _ _ ls h (lv_sub hl [0, 1, 2, 3] rfl))
set_option maxHeartbeats 8000000 in
set_option maxRecDepth 100000 in
/-- Arrays.fill(int[6], v) -/
theorem ck_J7_fill_53178_13 (l : Launch) (D : va_G) (L : Nat → Nat) (cy : Nat → ClassId) (X : va_W) (A : Nat → Prop) (st : gSt) (hD : va_D A (X ++ kW L cy st)) {i : Nat} (hi : kkd i = 13) (v : Int32)  : kMv l yJ7_fill_53178 wsJ7_fill_53178 { frames := 0, cells := 0, slots := 0, locals := 0 } D L cy X A [.ref (L i), .int v] st (f_J7_fill_53178_13 st i v) := by
  refine k_entry hD (cc := cJ7_fill_53178) (maxL := 4) (ret := none) (by decide +kernel) rfl (Nat.le_of_ble_eq_true rfl) ?_
  intro p e s m args below meth c ls B
  obtain ⟨S, hr, hlocks, h, hl⟩ := B
  have hx := S.1
  have hb := S.2.1
  have hts := S.2.2.2.2
  have hl : lv_has ls 4 [(0, .ref (L i)), (1, .int v)] := hl
  refine lv_iconst (v := 0) hx hb dJ7_fill_53178_0 (by decide) ?_
  refine lv_istore_n (lv' := [(2, .int 0), (0, .ref (L i)), (1, .int v)]) hx hb dJ7_fill_53178_1 rfl hl (by decide) rfl (fun ls hl => ?_)
  refine lv_aload_n hx hb dJ7_fill_53178_2 rfl (lv_at hl 1 rfl) ?_
  refine k_alen S h (t0 := 0) hi (by decide) rfl rfl rfl dJ7_fill_53178_3 ?_
  refine lv_istore_n (lv' := [(3, .int 6), (2, .int 0), (0, .ref (L i)), (1, .int v)]) hx hb dJ7_fill_53178_4 rfl hl (by decide) rfl (fun ls hl => ?_)
  have loopL1 : ∀ (nL1 : Nat) (st1 : gSt) (x : Int32) (k : Nat), (k ≤ 6) → (6 < k + nL1) → (x = nI k) → ∀ (H : Heap) (locs : List Loc) (ls : Array Slot), kH D L cy X A st1 s H locs → lv_has ls 4 [(3, .int 6), (2, .int x), (0, .ref (L i)), (1, .int v)] → W p l e { frames := 0, cells := 0, slots := 0, locals := 0 } s m args below meth c H locs 0 0 (MQ below (va_Qv (fun (_ : Unit) => True) (fun _ zt => va_P D vwCl (X ++ kW L cy (f_J7_fill_53178_13_L1 i v nL1 st1 x)) zt.heap) A) args s 0 0 A) (F0 m 5 ls []) := by
    intro nL1
    induction nL1 with
    | zero => intros; omega
    | succ nL1 ihL1 =>
      intro st1 x k hk hn ex H locs ls h hl
      refine lv_iload_n hx hb dJ7_fill_53178_5 rfl (lv_at hl 1 rfl) ?_
      refine lv_iload_n hx hb dJ7_fill_53178_6 rfl (lv_at hl 0 rfl) ?_
      refine lv_icmp_ge (tgt := 20) hx hb dJ7_fill_53178_7 (by decide) (fun c1 => ?_) (fun c1 => ?_)
      · exact k_retv S h hr hlocks (by first | (simp only [f_J7_fill_53178_13_L1, if_pos c1]; done) | (simp only [f_J7_fill_53178_13_L1, if_pos c1]; rfl) | rfl) dJ7_fill_53178_20
      · refine lv_aload_n hx hb dJ7_fill_53178_10 rfl (lv_at hl 2 rfl) ?_
        refine lv_iload_n hx hb dJ7_fill_53178_11 rfl (lv_at hl 1 rfl) ?_
        refine lv_iload_n hx hb dJ7_fill_53178_12 rfl (lv_at hl 3 rfl) ?_
        refine k_ias S h hi (by decide) (fun _ => rfl) (g_in ex (g_lt ex (M := 6) (n := 6) rfl (by omega) (by omega) c1) (by omega)) dJ7_fill_53178_13 (fun H locs h => ?_)
        obtain ⟨x3, ex3⟩ : ∃ zz : Int32, zz = x + 1 := ⟨_, rfl⟩
        refine lv_iinc (v := x3) (lv' := [(2, .int x3), (3, .int 6), (0, .ref (L i)), (1, .int v)]) hx hb dJ7_fill_53178_14 hl (k := 1) rfl (by rw [ex3]; rfl) (by decide) rfl (fun ls hl => ?_)
        refine lv_goto (tgt := 5) hx hb dJ7_fill_53178_17 (by decide) ?_
        have hlt := g_lt ex (M := 6) (n := 6) rfl (by omega) (by omega) c1
        exact k_cvv (by subst ex3; first | (simp only [f_J7_fill_53178_13_L1, if_neg c1]; done) | (simp only [f_J7_fill_53178_13_L1, if_neg c1]; rfl) | rfl) (ihL1 _ x3 (k + 1) (by omega) (by omega) (g_s1 ex3 ex) _ _ ls h (lv_sub hl [1, 0, 2, 3] rfl))
  exact k_cvv (by first | (simp only [f_J7_fill_53178_13]; done) | (simp only [f_J7_fill_53178_13]; rfl) | rfl) (loopL1 7 _ 0 0 (by omega) (by omega) rfl _ _ ls h (lv_sub hl [0, 1, 2, 3] rfl))
set_option maxHeartbeats 8000000 in
set_option maxRecDepth 100000 in
/-- Worker.begin() -/
theorem ck_X5_begin (l : Launch) (D : va_G) (L : Nat → Nat) (cy : Nat → ClassId) (X : va_W) (A : Nat → Prop) (st : gSt) (hD : va_D A (X ++ kW L cy st)) {i : Nat} (hi : kkd i = 9)  : kMv l yX5_begin wsX5_begin { frames := 1, cells := 0, slots := 0, locals := 23 } D L cy X A [.ref (L i)] st (f_X5_begin st i) := by
  refine k_entry hD (cc := cX5_begin) (maxL := 1) (ret := none) (by decide +kernel) rfl (Nat.le_of_ble_eq_true rfl) ?_
  intro p e s m args below meth c ls B
  obtain ⟨S, hr, hlocks, h, hl⟩ := B
  have hx := S.1
  have hb := S.2.1
  have hts := S.2.2.2.2
  have in5 : ∀ w ∈ wsX50, w ∈ wsX5_begin := by decide +kernel
  have hl : lv_has ls 1 [(0, .ref (L i))] := hl
  refine lv_aload_n hx hb dX5_begin_0 rfl (lv_at hl 0 rfl) ?_
  refine k_get S h hi (by decide) rfl rfl in5 (k := 0) (by decide) (by decide +kernel) rfl dX5_begin_1 ?_
  refine k_callv S h (ck_X2_clear l D L cy X A _ (h.2.2.2.2 _) (kk9_1 hi)) (cwV 0 hts gX5_begin_X2_clear rfl rfl rfl (by decide +kernel) ⟨Nat.le_of_ble_eq_true rfl, Nat.le_of_ble_eq_true rfl⟩) (k_pre h (kk9_1 hi) (by decide) rfl rfl _) rfl hl.1 rfl (Nat.le_of_ble_eq_true rfl) dX5_begin_4 ⟨Nat.zero_le _, Nat.zero_le _⟩ (fun H locs h => ?_)
  refine lv_aload_n hx hb dX5_begin_7 rfl (lv_at hl 0 rfl) ?_
  refine k_get S h hi (by decide) rfl rfl in5 (k := 1) (by decide) (by decide +kernel) rfl dX5_begin_8 ?_
  refine k_callv S h (ck_X2_clear l D L cy X A _ (h.2.2.2.2 _) (kk9_3 hi)) (cwV 0 hts gX5_begin_X2_clear rfl rfl rfl (by decide +kernel) ⟨Nat.le_of_ble_eq_true rfl, Nat.le_of_ble_eq_true rfl⟩) (k_pre h (kk9_3 hi) (by decide) rfl rfl _) rfl hl.1 rfl (Nat.le_of_ble_eq_true rfl) dX5_begin_11 ⟨Nat.zero_le _, Nat.zero_le _⟩ (fun H locs h => ?_)
  refine lv_aload_n hx hb dX5_begin_14 rfl (lv_at hl 0 rfl) ?_
  refine lv_iconst (v := 0) hx hb dX5_begin_15 (by decide) ?_
  refine k_put S h tyX5 tyX5_ok nmX5 hi (by decide) rfl rfl in5 (k := 2) (by decide) (by decide +kernel) rfl rfl (Nat.le_of_ble_eq_true rfl) rfl dX5_begin_16 (fun H locs h => ?_)
  refine lv_aload_n hx hb dX5_begin_19 rfl (lv_at hl 0 rfl) ?_
  refine lv_iconst (v := 0) hx hb dX5_begin_20 (by decide) ?_
  refine k_put S h tyX5 tyX5_ok nmX5 hi (by decide) rfl rfl in5 (k := 3) (by decide) (by decide +kernel) rfl rfl (Nat.le_of_ble_eq_true rfl) rfl dX5_begin_21 (fun H locs h => ?_)
  refine lv_aload_n hx hb dX5_begin_24 rfl (lv_at hl 0 rfl) ?_
  refine lv_iconst (v := 0) hx hb dX5_begin_25 (by decide) ?_
  refine k_put S h tyX5 tyX5_ok nmX5 hi (by decide) rfl rfl in5 (k := 4) (by decide) (by decide +kernel) rfl rfl (Nat.le_of_ble_eq_true rfl) rfl dX5_begin_26 (fun H locs h => ?_)
  refine lv_aload_n hx hb dX5_begin_29 rfl (lv_at hl 0 rfl) ?_
  refine k_get S h hi (by decide) rfl rfl in5 (k := 5) (by decide) (by decide +kernel) rfl dX5_begin_30 ?_
  refine lv_iconst (v := (-1)) hx hb dX5_begin_33 (by decide) ?_
  refine k_callvS S h (ck_J7_fill_53178_12 l D L cy X A _ (h.2.2.2.2 _) (kk9_5 hi) _) (va_cwS 2 hts gX5_begin_J7_fill_53178 rfl rfl rfl (by decide +kernel) ⟨Nat.le_of_ble_eq_true rfl, Nat.le_of_ble_eq_true rfl⟩) rfl hl.1 rfl (Nat.le_of_ble_eq_true rfl) dX5_begin_34 ⟨Nat.zero_le _, Nat.zero_le _⟩ (fun H locs h => ?_)
  exact k_retv S h hr hlocks (by first | (simp only [f_X5_begin]; done) | (simp only [f_X5_begin]; rfl) | rfl) dX5_begin_37
set_option maxHeartbeats 8000000 in
set_option maxRecDepth 100000 in
/-- Pool.changeWorkerCount(count) -/
theorem ck_X1_changeWorkerCount (l : Launch) (D : va_G) (L : Nat → Nat) (cy : Nat → ClassId) (X : va_W) (A : Nat → Prop) (st : gSt) (hD : va_D A (X ++ kW L cy st)) {P : Nat} (hP : kkd P = 5) (c0 : Int32)  : kMv l yX1_changeWorkerCount wsX1_changeWorkerCount { frames := 2, cells := 0, slots := 0, locals := 43 } D L cy X A [.ref (L P), .int c0] st (f_X1_changeWorkerCount st P c0) := by
  refine k_entry hD (cc := cX1_changeWorkerCount) (maxL := 3) (ret := none) (by decide +kernel) rfl (Nat.le_of_ble_eq_true rfl) ?_
  intro p e s m args below meth c ls B
  obtain ⟨S, hr, hlocks, h, hl⟩ := B
  have hx := S.1
  have hb := S.2.1
  have hts := S.2.2.2.2
  have in1 : ∀ w ∈ wsX10, w ∈ wsX1_changeWorkerCount := by decide +kernel
  have hl : lv_has ls 3 [(0, .ref (L P)), (1, .int c0)] := hl
  refine lv_aload_n hx hb dX1_changeWorkerCount_0 rfl (lv_at hl 0 rfl) ?_
  refine k_get S h hP (by decide) rfl rfl in1 (k := 6) (by decide) (by decide +kernel) rfl dX1_changeWorkerCount_1 ?_
  refine lv_topi (fun x1 ex1 => ?_)
  refine lv_istore_n (lv' := [(2, .int x1), (0, .ref (L P)), (1, .int c0)]) hx hb dX1_changeWorkerCount_4 rfl hl (by decide) rfl (fun ls hl => ?_)
  have loopL1 : ∀ (nL1 : Nat) (st1 : gSt) (x : Int32), ((c0.toInt - x.toInt).toNat < nL1) → ∀ (H : Heap) (locs : List Loc) (ls : Array Slot), kH D L cy X A st1 s H locs → lv_has ls 3 [(2, .int x), (0, .ref (L P)), (1, .int c0)] → W p l e { frames := 2, cells := 0, slots := 0, locals := 43 } s m args below meth c H locs 0 0 (MQ below (va_Qv (fun (_ : Unit) => True) (fun _ zt => va_P D vwCl (X ++ kW L cy (f_X1_changeWorkerCount_L1 P c0 nL1 st1 x)) zt.heap) A) args s 0 0 A) (F0 m 5 ls []) := by
    intro nL1
    induction nL1 with
    | zero => intros; omega
    | succ nL1 ihL1 =>
      intro st1 x hn H locs ls h hl
      refine lv_iload_n hx hb dX1_changeWorkerCount_5 rfl (lv_at hl 0 rfl) ?_
      refine lv_iload_n hx hb dX1_changeWorkerCount_6 rfl (lv_at hl 2 rfl) ?_
      refine lv_icmp_ge (tgt := 24) hx hb dX1_changeWorkerCount_7 (by decide) (fun c2 => ?_) (fun c2 => ?_)
      · refine lv_aload_n hx hb dX1_changeWorkerCount_24 rfl (lv_at hl 1 rfl) ?_
        refine lv_iload_n hx hb dX1_changeWorkerCount_25 rfl (lv_at hl 2 rfl) ?_
        refine k_put S h tyX1 tyX1_ok nmX1 hP (by decide) rfl rfl in1 (k := 6) (by decide) (by decide +kernel) rfl rfl (Nat.le_of_ble_eq_true rfl) rfl dX1_changeWorkerCount_26 (fun H locs h => ?_)
        exact k_retv S h hr hlocks (by first | (simp only [f_X1_changeWorkerCount_L1, if_pos c2]; done) | contradiction | (simp only [f_X1_changeWorkerCount_L1, if_pos c2]; rfl) | rfl) dX1_changeWorkerCount_29
      · refine lv_aload_n hx hb dX1_changeWorkerCount_10 rfl (lv_at hl 1 rfl) ?_
        refine lv_iload_n hx hb dX1_changeWorkerCount_11 rfl (lv_at hl 0 rfl) ?_
        refine k_callr S h (ck_X1_workerAt l D L cy X A _ (h.2.2.2.2 _) hP _) (cwV 1 hts gX1_changeWorkerCount_X1_workerAt rfl rfl rfl (by decide +kernel) ⟨Nat.le_of_ble_eq_true rfl, Nat.le_of_ble_eq_true rfl⟩) (k_pre h hP (by decide) rfl rfl _) rfl hl.1 rfl (Nat.le_of_ble_eq_true rfl) dX1_changeWorkerCount_12 ⟨Nat.zero_le _, Nat.zero_le _⟩ (fun H locs h => ?_)
        refine k_callv S h (ck_X5_begin l D L cy X A _ (h.2.2.2.2 _) (kk_wk hP _)) (cwV 0 hts gX1_changeWorkerCount_X5_begin rfl rfl rfl (by decide +kernel) ⟨Nat.le_of_ble_eq_true rfl, Nat.le_of_ble_eq_true rfl⟩) (k_pre h (kk_wk hP _) (by decide) rfl rfl _) rfl hl.1 rfl (Nat.le_of_ble_eq_true rfl) dX1_changeWorkerCount_15 ⟨Nat.zero_le _, Nat.zero_le _⟩ (fun H locs h => ?_)
        obtain ⟨x5, ex5⟩ : ∃ zz : Int32, zz = x + 1 := ⟨_, rfl⟩
        refine lv_iinc (v := x5) (lv' := [(2, .int x5), (0, .ref (L P)), (1, .int c0)]) hx hb dX1_changeWorkerCount_18 hl (k := 0) rfl (by rw [ex5]; rfl) (by decide) rfl (fun ls hl => ?_)
        refine lv_goto (tgt := 5) hx hb dX1_changeWorkerCount_21 (by decide) ?_
        exact k_cvv (by subst ex5; first | (simp only [f_X1_changeWorkerCount_L1, if_neg c2]; done) | contradiction | (simp only [f_X1_changeWorkerCount_L1, if_neg c2]; rfl) | rfl) (ihL1 _ x5 (Nat.lt_of_lt_of_le (g_ms ex5 c2) (Nat.le_of_lt_succ hn)) _ _ ls h (lv_sub hl [0, 1, 2] rfl))
  exact k_cvv (by subst ex1; first | (simp only [f_X1_changeWorkerCount]; done) | contradiction | (simp only [f_X1_changeWorkerCount]; rfl) | rfl) (loopL1 _ _ x1 (Nat.lt_add_one _) _ _ ls h (lv_sub hl [0, 1, 2] rfl))
set_option maxHeartbeats 8000000 in
set_option maxRecDepth 100000 in
/-- Pool.clear() -/
theorem ck_X1_clear (l : Launch) (D : va_G) (L : Nat → Nat) (cy : Nat → ClassId) (X : va_W) (A : Nat → Prop) (st : gSt) (hD : va_D A (X ++ kW L cy st)) {P : Nat} (hP : kkd P = 5)  : kMv l yX1_clear wsX1_clear { frames := 3, cells := 0, slots := 0, locals := 65 } D L cy X A [.ref (L P)] st (f_X1_clear st P) := by
  refine k_entry hD (cc := cX1_clear) (maxL := 1) (ret := none) (by decide +kernel) rfl (Nat.le_of_ble_eq_true rfl) ?_
  intro p e s m args below meth c ls B
  obtain ⟨S, hr, hlocks, h, hl⟩ := B
  have hx := S.1
  have hb := S.2.1
  have hts := S.2.2.2.2
  have in1 : ∀ w ∈ wsX10, w ∈ wsX1_clear := by decide +kernel
  have hl : lv_has ls 1 [(0, .ref (L P))] := hl
  refine lv_aload_n hx hb dX1_clear_0 rfl (lv_at hl 0 rfl) ?_
  refine lv_iconst (v := 0) hx hb dX1_clear_1 (by decide) ?_
  refine k_put S h tyX1 tyX1_ok nmX1 hP (by decide) rfl rfl in1 (k := 3) (by decide) (by decide +kernel) rfl rfl (Nat.le_of_ble_eq_true rfl) rfl dX1_clear_2 (fun H locs h => ?_)
  refine lv_aload_n hx hb dX1_clear_5 rfl (lv_at hl 0 rfl) ?_
  refine lv_iconst (v := 0) hx hb dX1_clear_6 (by decide) ?_
  refine k_put S h tyX1 tyX1_ok nmX1 hP (by decide) rfl rfl in1 (k := 6) (by decide) (by decide +kernel) rfl rfl (Nat.le_of_ble_eq_true rfl) rfl dX1_clear_7 (fun H locs h => ?_)
  refine lv_aload_n hx hb dX1_clear_10 rfl (lv_at hl 0 rfl) ?_
  refine lv_iconst (v := 1) hx hb dX1_clear_11 (by decide) ?_
  refine k_callv S h (ck_X1_changeWorkerCount l D L cy X A _ (h.2.2.2.2 _) hP _) (cwV 1 hts gX1_clear_X1_changeWorkerCount rfl rfl rfl (by decide +kernel) ⟨Nat.le_of_ble_eq_true rfl, Nat.le_of_ble_eq_true rfl⟩) (k_pre h hP (by decide) rfl rfl _) rfl hl.1 rfl (Nat.le_of_ble_eq_true rfl) dX1_clear_12 ⟨Nat.zero_le _, Nat.zero_le _⟩ (fun H locs h => ?_)
  refine lv_aload_n hx hb dX1_clear_15 rfl (lv_at hl 0 rfl) ?_
  refine k_get S h hP (by decide) rfl rfl in1 (k := 7) (by decide) (by decide +kernel) rfl dX1_clear_16 ?_
  refine k_callv S h (ck_X2_clear l D L cy X A _ (h.2.2.2.2 _) (kk5_10 hP)) (cwV 0 hts gX1_clear_X2_clear rfl rfl rfl (by decide +kernel) ⟨Nat.le_of_ble_eq_true rfl, Nat.le_of_ble_eq_true rfl⟩) (k_pre h (kk5_10 hP) (by decide) rfl rfl _) rfl hl.1 rfl (Nat.le_of_ble_eq_true rfl) dX1_clear_19 ⟨Nat.zero_le _, Nat.zero_le _⟩ (fun H locs h => ?_)
  refine lv_aload_n hx hb dX1_clear_22 rfl (lv_at hl 0 rfl) ?_
  refine k_get S h hP (by decide) rfl rfl in1 (k := 8) (by decide) (by decide +kernel) rfl dX1_clear_23 ?_
  refine lv_ldc (v := (-1000000)) hx hb S.2.2.2.1 (hts (.constant RX1 64 (-1000000)) (by decide +kernel)) dX1_clear_26 ?_
  refine k_callvS S h (ck_J7_fill_53178_13 l D L cy X A _ (h.2.2.2.2 _) (kk5_12 hP) _) (va_cwS 2 hts gX1_clear_J7_fill_53178 rfl rfl rfl (by decide +kernel) ⟨Nat.le_of_ble_eq_true rfl, Nat.le_of_ble_eq_true rfl⟩) rfl hl.1 rfl (Nat.le_of_ble_eq_true rfl) dX1_clear_28 ⟨Nat.zero_le _, Nat.zero_le _⟩ (fun H locs h => ?_)
  refine lv_aload_n hx hb dX1_clear_31 rfl (lv_at hl 0 rfl) ?_
  refine lv_iconst (v := 0) hx hb dX1_clear_32 (by decide) ?_
  refine k_put S h tyX1 tyX1_ok nmX1 hP (by decide) rfl rfl in1 (k := 9) (by decide) (by decide +kernel) rfl rfl (Nat.le_of_ble_eq_true rfl) rfl dX1_clear_33 (fun H locs h => ?_)
  refine lv_aload_n hx hb dX1_clear_36 rfl (lv_at hl 0 rfl) ?_
  refine lv_iconst (v := 0) hx hb dX1_clear_37 (by decide) ?_
  refine k_put S h tyX1 tyX1_ok nmX1 hP (by decide) rfl rfl in1 (k := 10) (by decide) (by decide +kernel) rfl rfl (Nat.le_of_ble_eq_true rfl) rfl dX1_clear_38 (fun H locs h => ?_)
  refine lv_aload_n hx hb dX1_clear_41 rfl (lv_at hl 0 rfl) ?_
  refine lv_iconst (v := 0) hx hb dX1_clear_42 (by decide) ?_
  refine k_put S h tyX1 tyX1_ok nmX1 hP (by decide) rfl rfl in1 (k := 11) (by decide) (by decide +kernel) rfl rfl (Nat.le_of_ble_eq_true rfl) rfl dX1_clear_43 (fun H locs h => ?_)
  exact k_retv S h hr hlocks (by first | (simp only [f_X1_clear]; done) | contradiction | (simp only [f_X1_clear]; rfl) | rfl) dX1_clear_46
