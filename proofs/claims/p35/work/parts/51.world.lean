/-! THE CLASS'S WORLD. After its constructor the class makes no cell: 164 cells in a fixed order, by index (L: their addresses). All references among them are constant; what changes are ints:
the state st i k is the int in slot (or element) k of the cell i. Kinds (gkd): 0 BobbinPool, 1 Book, 2 Script[], 3 Script, 4 int[12], 5 Pool, 6 Task[], 7 Task, 8 Worker[], 9 Worker, 10 Row, 11 int[24], 12 int[20], 13 int[6].
In the order in which the constructor makes them: 0 the object; 1 the book, 2 its array, 3 the blank script (codes behind it, then numbers), 6+3j the script j; a pool at P (30, 97): its array of tasks P+1, the blank task P+2, array of workers P+3, the blank worker P+4 (row +1, its ints +2, stack +3, its ints +4, ran +5), the common row P+10, its ints P+11, promises P+12, task t at P+13+t, worker w at P+37+6w. -/
def gkw (j : Nat) : Nat := if j = 0 then 9 else if j = 1 then 10 else if j = 2 then 11 else if j = 3 then 10 else if j = 4 then 11 else 12
def gkp (j : Nat) : Nat := if j = 0 then 5 else if j = 1 then 6 else if j = 2 then 7 else if j = 3 then 8 else if j < 10 then gkw (j - 4) else if j = 10 then 10 else if j = 11 then 11 else if j = 12 then 13 else if j < 37 then 7 else gkw ((j - 37) % 6)
def gkd (i : Nat) : Nat := if i < 30 then (if i = 0 then 0 else if i = 1 then 1 else if i = 2 then 2 else if (i - 3) % 3 = 0 then 3 else 4) else if i < 164 then gkp ((i - 30) % 67) else 99
def gce (κ : Nat) (L : Nat → Nat) (cy : Nat → ClassId) (i : Nat) (r : Nat → Int32) : va_E := match κ with
  | 0 => .inr (6, [.ref (L 1), .ref (L 30), .ref (L 97)])
  | 1 => .inr (0, [.ref (L 2), .ref (L 3), .int (r 2)])
  | 2 => .inl (cy 1, 8, .inr (.inr (.inr (.inr (fun j => some (L (6 + 3 * j)))))))
  | 3 => .inr (3, [.ref (L (i + 1)), .ref (L (i + 2)), .int (r 2)])
  | 4 => .inl (cy 0, 12, .inl r)
  | 5 => .inr (1, [.ref (L 1), .ref (L (i + 1)), .ref (L (i + 2)), .int (r 3), .ref (L (i + 3)), .ref (L (i + 4)), .int (r 6), .ref (L (i + 10)), .ref (L (i + 12)), .int (r 9), .int (r 10), .int (r 11)])
  | 6 => .inl (cy 2, 24, .inr (.inr (.inr (.inr (fun j => some (L (i + 12 + j)))))))
  | 7 => .inr (4, [.int (r 0), .int (r 1), .int (r 2), .int (r 3), .int (r 4), .int (r 5), .int (r 6), .int (r 7), .int (r 8), .int (r 9), .int (r 10)])
  | 8 => .inl (cy 3, 5, .inr (.inr (.inr (.inr (fun j => some (L (i + 34 + 6 * j)))))))
  | 9 => .inr (5, [.ref (L (i + 1)), .ref (L (i + 3)), .int (r 2), .int (r 3), .int (r 4), .ref (L (i + 5))])
  | 10 => .inr (2, [.ref (L (i + 1)), .int (r 1)])
  | 11 => .inl (cy 0, 24, .inl r)
  | 12 => .inl (cy 0, 20, .inl r)
  | _ => .inl (cy 0, 6, .inl r)
def gW (L : Nat → Nat) (cy : Nat → ClassId) (st : gSt) : va_W := (List.range 164).map (fun i => (L i, gce (gkd i) L cy i (st i)))
abbrev gty (cy : Nat → ClassId) : List (ClassId × FieldType) := [(cy 0, .int), (cy 1, .object RX3), (cy 2, .object RX4), (cy 3, .object RX5)]
theorem gkd_lt {i κ : Nat} (h : gkd i = κ) (h9 : κ < 14) : i < 164 := by
  rcases Nat.lt_or_ge i 164 with q | q
  · exact q
  · have h1 : gkd i = 99 := by unfold gkd; rw [if_neg (by omega), if_neg (by omega)]
    omega
/-- what is so of all 164 -/
theorem gk_all {P : Nat → Prop} [DecidablePred P] (h : (List.range 164).all (fun i => decide (P i)) = true) {i κ : Nat} (hk : gkd i = κ) (h9 : κ < 14) : P i := by
  have h1 := List.all_eq_true.mp h i (List.mem_range.mpr (gkd_lt hk h9))
  exact of_decide_eq_true h1
theorem gW_len (L : Nat → Nat) (cy : Nat → ClassId) (st : gSt) : (gW L cy st).length = 164 := by simp [gW]
theorem gW_at {X : va_W} {L : Nat → Nat} {cy : Nat → ClassId} {st : gSt} {i : Nat} (hi : i < 164) : (X ++ gW L cy st)[X.length + i]? = some (L i, gce (gkd i) L cy i (st i)) := by
  rw [List.getElem?_append_right (Nat.le_add_right _ _), Nat.add_sub_cancel_left]
  simp [gW, hi]
theorem gW_set {X : va_W} {L : Nat → Nat} {cy : Nat → ClassId} {st : gSt} {i k : Nat} {v : Int32} {e : va_E} (he : gce (gkd i) L cy i (upd (st i) k v) = e) :
    (X ++ gW L cy st).set (X.length + i) (L i, e) = X ++ gW L cy (gsu st i k v) := by
  rw [List.set_append_right _ _ (Nat.le_add_right _ _), Nat.add_sub_cancel_left]
  congr 1
  apply List.ext_getElem?
  intro j
  rw [List.getElem?_set]
  by_cases hj : j < 164
  · by_cases hij : i = j
    · subst hij
      simp [gW, hj, ← he, gsu, va_up]
    · have hji : ¬ j = i := fun h => hij h.symm
      simp [gW, hj, hij, hji, gsu, va_up]
  · by_cases hij : i = j
    · subst hij
      simp [gW, hj]
    · simp [gW, hj, hij]
theorem gW_fst (L : Nat → Nat) (cy : Nat → ClassId) (st st' : gSt) (X : va_W) (k : Nat) (q : Nat × va_E) (h : (X ++ gW L cy st)[k]? = some q) : ∃ q' : Nat × va_E, (X ++ gW L cy st')[k]? = some q' ∧ q'.1 = q.1 := by
  rcases Nat.lt_or_ge k X.length with hk | hk
  · rw [List.getElem?_append_left hk] at h
    exact ⟨q, by rw [List.getElem?_append_left hk]; exact h, rfl⟩
  · rw [List.getElem?_append_right hk] at h
    by_cases hj : k - X.length < 164
    · simp [gW, hj] at h
      refine ⟨(L (k - X.length), gce (gkd (k - X.length)) L cy (k - X.length) (st' (k - X.length))), ?_, ?_⟩
      · rw [List.getElem?_append_right hk]
        simp [gW, hj]
      · rw [← h]
    · simp [gW, hj] at h
theorem gW_D {A : Nat → Prop} {X : va_W} {L : Nat → Nat} {cy : Nat → ClassId} {st : gSt} (h : va_D A (X ++ gW L cy st)) (st' : gSt) : va_D A (X ++ gW L cy st') := by
  refine ⟨fun i j p q hp hq e => ?_, fun k q hk => ?_⟩
  · obtain ⟨p', hp', ep⟩ := gW_fst L cy st' st X i p hp
    obtain ⟨q', hq', eq⟩ := gW_fst L cy st' st X j q hq
    exact h.1 i j p' q' hp' hq' (by rw [ep, eq, e])
  · obtain ⟨q', hq', eq⟩ := gW_fst L cy st' st X k q hk
    rw [← eq]
    exact h.2 k q' hq'
theorem gk3_1 {i : Nat} (h : gkd i = 3) : gkd (i + 1) = 4 := gk_all (P := fun i => gkd i = 3 → gkd (i + 1) = 4) (by decide +kernel) h (by decide) h
theorem gk3_2 {i : Nat} (h : gkd i = 3) : gkd (i + 2) = 4 := gk_all (P := fun i => gkd i = 3 → gkd (i + 2) = 4) (by decide +kernel) h (by decide) h
theorem gk5_1 {i : Nat} (h : gkd i = 5) : gkd (i + 1) = 6 := gk_all (P := fun i => gkd i = 5 → gkd (i + 1) = 6) (by decide +kernel) h (by decide) h
theorem gk5_2 {i : Nat} (h : gkd i = 5) : gkd (i + 2) = 7 := gk_all (P := fun i => gkd i = 5 → gkd (i + 2) = 7) (by decide +kernel) h (by decide) h
theorem gk5_3 {i : Nat} (h : gkd i = 5) : gkd (i + 3) = 8 := gk_all (P := fun i => gkd i = 5 → gkd (i + 3) = 8) (by decide +kernel) h (by decide) h
theorem gk5_4 {i : Nat} (h : gkd i = 5) : gkd (i + 4) = 9 := gk_all (P := fun i => gkd i = 5 → gkd (i + 4) = 9) (by decide +kernel) h (by decide) h
theorem gk5_10 {i : Nat} (h : gkd i = 5) : gkd (i + 10) = 10 := gk_all (P := fun i => gkd i = 5 → gkd (i + 10) = 10) (by decide +kernel) h (by decide) h
theorem gk5_12 {i : Nat} (h : gkd i = 5) : gkd (i + 12) = 13 := gk_all (P := fun i => gkd i = 5 → gkd (i + 12) = 13) (by decide +kernel) h (by decide) h
theorem gk5_or {i : Nat} (h : gkd i = 5) : i = 30 ∨ i = 97 := gk_all (P := fun i => gkd i = 5 → i = 30 ∨ i = 97) (by decide +kernel) h (by decide) h
theorem gk9_1 {i : Nat} (h : gkd i = 9) : gkd (i + 1) = 10 := gk_all (P := fun i => gkd i = 9 → gkd (i + 1) = 10) (by decide +kernel) h (by decide) h
theorem gk9_3 {i : Nat} (h : gkd i = 9) : gkd (i + 3) = 10 := gk_all (P := fun i => gkd i = 9 → gkd (i + 3) = 10) (by decide +kernel) h (by decide) h
theorem gk9_5 {i : Nat} (h : gkd i = 9) : gkd (i + 5) = 12 := gk_all (P := fun i => gkd i = 9 → gkd (i + 5) = 12) (by decide +kernel) h (by decide) h
theorem gk10_1 {i : Nat} (h : gkd i = 10) : gkd (i + 1) = 11 := gk_all (P := fun i => gkd i = 10 → gkd (i + 1) = 11) (by decide +kernel) h (by decide) h
theorem gk2_j {j : Nat} (hj : j < 8) : gkd (6 + 3 * j) = 3 := co_dec (N := 8) (P := fun j => gkd (6 + 3 * j) = 3) (by decide +kernel) hj
theorem gk6_j {i j : Nat} (h : gkd i = 6) (hj : j < 24) : gkd (i + 12 + j) = 7 := by
  have h1 : i = 31 ∨ i = 98 := gk_all (P := fun i => gkd i = 6 → i = 31 ∨ i = 98) (by decide +kernel) h (by decide) h
  rcases h1 with rfl | rfl
  · exact co_dec (N := 24) (P := fun j => gkd (31 + 12 + j) = 7) (by decide +kernel) hj
  · exact co_dec (N := 24) (P := fun j => gkd (98 + 12 + j) = 7) (by decide +kernel) hj
theorem gk8_j {i j : Nat} (h : gkd i = 8) (hj : j < 5) : gkd (i + 34 + 6 * j) = 9 := by
  have h1 : i = 33 ∨ i = 100 := gk_all (P := fun i => gkd i = 8 → i = 33 ∨ i = 100) (by decide +kernel) h (by decide) h
  rcases h1 with rfl | rfl
  · exact co_dec (N := 5) (P := fun j => gkd (33 + 34 + 6 * j) = 9) (by decide +kernel) hj
  · exact co_dec (N := 5) (P := fun j => gkd (100 + 34 + 6 * j) = 9) (by decide +kernel) hj
/-- a place that was tested -/
theorem gin {x M : Int32} {n : Nat} (h0 : ¬ x < 0) (h : ¬ M ≤ x) (hM : M.toInt = n) : vp_in x n := by
  rw [vp_in_iff]
  have h1 : ¬ x.toInt < (0 : Int32).toInt := fun q => h0 (Int32.lt_iff_toInt_lt.mpr q)
  have h2 : ¬ M.toInt ≤ x.toInt := fun q => h (Int32.le_iff_toInt_le.mpr q)
  have h3 : (0 : Int32).toInt = 0 := rfl
  omega
theorem gin_lt {x : Int32} {n : Nat} (h : vp_in x n) : x.toNatClampNeg < n := Nat.not_le.mp fun q => h (Or.inr q)
/-- the links to private fields of nest mates (rows of tables_1) -/
def gNl : List (String × Nat × String × String × String) := [("BobbinPool", 104, "BobbinPool$Pool", "theft", "I"), ("BobbinPool", 107, "BobbinPool$Pool", "taskCount", "I"), ("BobbinPool", 154, "BobbinPool$Pool", "clock", "I"), ("BobbinPool", 157, "BobbinPool$Task", "state", "I"), ("BobbinPool", 160, "BobbinPool$Task", "value", "I"), ("BobbinPool", 163, "BobbinPool$Task", "step", "I"), ("BobbinPool", 166, "BobbinPool$Task", "parent", "I"), ("BobbinPool", 169, "BobbinPool$Task", "children", "I"), ("BobbinPool", 175, "BobbinPool$Task", "overAt", "I"), ("BobbinPool", 188, "BobbinPool$Worker", "stack", "LBobbinPool$Row;"), ("BobbinPool", 199, "BobbinPool$Row", "size", "I"), ("BobbinPool", 217, "BobbinPool$Worker", "ranTicks", "I"), ("BobbinPool", 220, "BobbinPool$Worker", "idleTicks", "I"), ("BobbinPool", 223, "BobbinPool$Worker", "stolen", "I"), ("BobbinPool", 28, "BobbinPool$Book", "count", "I"), ("BobbinPool", 60, "BobbinPool$Script", "size", "I"), ("BobbinPool", 84, "BobbinPool$Pool", "workerCount", "I"), ("BobbinPool", 95, "BobbinPool$Pool", "way", "I"), ("BobbinPool$Pool", 101, "BobbinPool$Task", "job", "I"), ("BobbinPool$Pool", 104, "BobbinPool$Task", "state", "I"), ("BobbinPool$Pool", 107, "BobbinPool$Worker", "stack", "LBobbinPool$Row;"), ("BobbinPool$Pool", 110, "BobbinPool$Row", "size", "I"), ("BobbinPool$Pool", 117, "BobbinPool$Task", "blockedOn", "I"), ("BobbinPool$Pool", 123, "BobbinPool$Task", "ranInAll", "I"), ("BobbinPool$Pool", 126, "BobbinPool$Task", "parent", "I"), ("BobbinPool$Pool", 159, "BobbinPool$Task", "number", "I"), ("BobbinPool$Pool", 171, "BobbinPool$Task", "step", "I"), ("BobbinPool$Pool", 198, "BobbinPool$Worker", "idleTicks", "I"), ("BobbinPool$Pool", 215, "BobbinPool$Worker", "stolen", "I"), ("BobbinPool$Pool", 224, "BobbinPool$Script", "size", "I"), ("BobbinPool$Pool", 249, "BobbinPool$Task", "value", "I"), ("BobbinPool$Pool", 264, "BobbinPool$Task", "ranForStep", "I"), ("BobbinPool$Pool", 267, "BobbinPool$Worker", "ranTicks", "I"), ("BobbinPool$Pool", 270, "BobbinPool$Task", "children", "I"), ("BobbinPool$Pool", 287, "BobbinPool$Task", "overAt", "I"), ("BobbinPool$Pool", 94, "BobbinPool$Worker", "row", "LBobbinPool$Row;")]
def gNw : List Cond := gNl.map (fun q => Cond.fieldLinkNest q.1 q.2.1 q.2.2.1 q.2.2.2.1 q.2.2.2.2 "BobbinPool")
def gN (U : State) : Prop := ∀ w ∈ gNw, va_Nw w U
theorem gN.warm {s U : State} (hW : s.WarmedH U.vm) (h : gN s) : gN U := by
  intro w hw
  have h1 := h w hw
  obtain ⟨q, -, rfl⟩ := List.mem_map.mp hw
  exact va_Nw.warmF hW h1
theorem gN.same {s U : State} (hv : s.vm = U.vm) (h : gN s) : gN U := by
  intro w hw
  have h1 := h w hw
  obtain ⟨q, -, rfl⟩ := List.mem_map.mp hw
  exact va_Nw.same rfl hv h1
/-- what holds at each point of a walk: the world, what has changed since, the tables, the addresses apart -/
def gH (D : va_G) (L : Nat → Nat) (cy : Nat → ClassId) (X : va_W) (A : Nat → Prop) (st : gSt) (s : State) (H : Heap) (locs : List Loc) : Prop :=
  va_P D vwCl (X ++ gW L cy st) H ∧ va_S A s.heap H locs ∧ va_K D vwCl (gty cy) s ∧ gN s ∧ ∀ st' : gSt, va_D A (X ++ gW L cy st')
/-- the start of a method over the world -/
def gPc (D : va_G) (L : Nat → Nat) (cy : Nat → ClassId) (X : va_W) (st : gSt) (av : List Value) : Array Value → State → Prop := va_Pc av (fun U => va_P D vwCl (X ++ gW L cy st) U.heap ∧ va_K D vwCl (gty cy) U ∧ gN U)
theorem gPc_blind (D : va_G) (L : Nat → Nat) (cy : Nat → ClassId) (X : va_W) (st : gSt) (av : List Value) : FrameBlind (gPc D L cy X st av) := by
  intro a U g mk q
  obtain ⟨q0, qP, qK, qN⟩ := q
  exact ⟨q0, qP, va_K.moved (u := U) (U := U.calling g mk a) (Vm.Alike.refl U.vm) qK, gN.same (s := U) (U := U.calling g mk a) rfl qN⟩
/-- contracts: a method over the world that answers an int r (nothing; the cell j), and leaves the state st' -/
def gMi (l : Launch) (y : MethodName) (ws : List Cond) (rm : Room) (D : va_G) (L : Nat → Nat) (cy : Nat → ClassId) (X : va_W) (A : Nat → Prop) (av : List Value) (st : gSt) (r : Int32) (st' : gSt) : Prop :=
  Met l y ws rm (gPc D L cy X st av) (va_Qi (fun (q : Int32) (_ : Unit) => q = r) (fun _ t => va_P D vwCl (X ++ gW L cy st') t.heap) A) 0 0 A
def gMv (l : Launch) (y : MethodName) (ws : List Cond) (rm : Room) (D : va_G) (L : Nat → Nat) (cy : Nat → ClassId) (X : va_W) (A : Nat → Prop) (av : List Value) (st : gSt) (st' : gSt) : Prop :=
  Met l y ws rm (gPc D L cy X st av) (va_Qv (fun (_ : Unit) => True) (fun _ t => va_P D vwCl (X ++ gW L cy st') t.heap) A) 0 0 A
def gMr (l : Launch) (y : MethodName) (ws : List Cond) (rm : Room) (D : va_G) (L : Nat → Nat) (cy : Nat → ClassId) (X : va_W) (A : Nat → Prop) (av : List Value) (st : gSt) (j : Nat) (st' : gSt) : Prop :=
  Met l y ws rm (gPc D L cy X st av) (va_Qr (fun (_ : Unit) => True) (fun _ a t => a = L j ∧ va_P D vwCl (X ++ gW L cy st') t.heap) A) 0 0 A
def gMl (l : Launch) (y : MethodName) (ws : List Cond) (rm : Room) (D : va_G) (L : Nat → Nat) (cy : Nat → ClassId) (X : va_W) (A : Nat → Prop) (av : List Value) (st : gSt) (r : Int64) (st' : gSt) : Prop :=
  Met l y ws rm (gPc D L cy X st av) (va_Ql (fun (q : Int64) (_ : Unit) => q = r) (fun _ t => va_P D vwCl (X ++ gW L cy st') t.heap) A) 0 0 A
section GW
variable {p : Program} {l : Launch} {e : Env} {R : Room} {s : State} {m : MethodId} {args : Array Value} {below : List Frame} {meth : Method} {c : Code} {H : Heap} {locs : List Loc} {cells slots : Nat} {Q : State → Prop}
variable {cc : ByteArray} {nL : Nat} {Ts : List Cond} {own : String} {D : va_G} {L : Nat → Nat} {cy : Nat → ClassId} {X : va_W} {A : Nat → Prop} {st st' : gSt} {pc : Nat} {ls : Array Slot} {rest : List Value}
/-- a field is read -/
theorem g_get (S : CallFix p m c cc nL s args Ts own) (h : gH D L cy X A st s H locs) {i κ ci k N idx : Nat} {C : String} {T : u_T} {fs : List Value} {v : Value} (hκ : gkd i = κ) (h9 : κ < 14) (hfs : gce κ L cy i (st i) = .inr (ci, fs)) (hc : vwCl[ci]? = some (C, T, N)) (hin : ∀ w ∈ u_ws C T N, w ∈ Ts) (hk : k < N) (hlk : Cond.fieldLink own idx (T k).1 (T k).2.1 (T k).2.2.1 ∈ Ts) (hv : fs[k]? = some v) (hdg : decode cc pc = .ok (.getfield idx, 3))
    (kk : W p l e R s m args below meth c H locs cells slots Q (F0 m (pc + 3) ls (v :: rest))) : W p l e R s m args below meth c H locs cells slots Q (F0 m pc ls (.ref (L i) :: rest)) := by
  obtain ⟨hx, hb, -, hown, hts⟩ := S
  obtain ⟨hP, -, hK, -, -⟩ := h
  have he := gW_at (X := X) (L := L) (cy := cy) (st := st) (gkd_lt hκ h9)
  rw [hκ, hfs] at he
  exact va_get hx hb hts hin hown hK hP _ he hc k hk (hts _ hlk) (fun _ h9 => h9) hv hdg kk
/-- a private field of a nest mate is read -/
theorem g_getN (S : CallFix p m c cc nL s args Ts own) (h : gH D L cy X A st s H locs) {i κ ci k N idx : Nat} {C : String} {T : u_T} {fs : List Value} {v : Value} (hκ : gkd i = κ) (h9 : κ < 14) (hfs : gce κ L cy i (st i) = .inr (ci, fs)) (hc : vwCl[ci]? = some (C, T, N)) (hin : ∀ w ∈ u_ws C T N, w ∈ Ts) (hk : k < N) (hlk : Cond.fieldLinkNest own idx (T k).1 (T k).2.1 (T k).2.2.1 "BobbinPool" ∈ gNw) (hv : fs[k]? = some v) (hdg : decode cc pc = .ok (.getfield idx, 3))
    (kk : W p l e R s m args below meth c H locs cells slots Q (F0 m (pc + 3) ls (v :: rest))) : W p l e R s m args below meth c H locs cells slots Q (F0 m pc ls (.ref (L i) :: rest)) := by
  obtain ⟨hx, hb, -, hown, hts⟩ := S
  obtain ⟨hP, -, hK, hN, -⟩ := h
  have he := gW_at (X := X) (L := L) (cy := cy) (st := st) (gkd_lt hκ h9)
  rw [hκ, hfs] at he
  exact va_getN hx hb hts hin hown hK hP _ he hc k hk (va_Nw.use rfl (hN _ hlk)) (fun _ h9 => h9) hv hdg kk
/-- an int field is written -/
theorem g_put (S : CallFix p m c cc nL s args Ts own) (h : gH D L cy X A st s H locs) {i κ ci k N idx : Nat} {C : String} {T : u_T} {fs : List Value} {x : Int32} (ty0 : Nat → FieldType) (hty : ∀ k, k < N → parseFieldDescriptor (T k).2.2.1 = some (ty0 k)) (hnm : ∀ a, a < N → ∀ b, b < N → a ≠ b → (T a).2.1 ≠ (T b).2.1) (hκ : gkd i = κ) (h9 : κ < 14) (hfs : gce κ L cy i (st i) = .inr (ci, fs)) (hc : vwCl[ci]? = some (C, T, N)) (hin : ∀ w ∈ u_ws C T N, w ∈ Ts) (hk : k < N) (hlk : Cond.fieldLink own idx (T k).1 (T k).2.1 (T k).2.2.1 ∈ Ts) (hfin : (T k).2.2.2 = false) (htk : ty0 k = .int) (hl : k < fs.length) (hnew : gce κ L cy i (upd (st i) k x) = .inr (ci, fs.set k (.int x))) (hdg : decode cc pc = .ok (.putfield idx, 3))
    (kk : ∀ (H1 : Heap) (locs1 : List Loc), gH D L cy X A (gsu st i k x) s H1 locs1 → W p l e R s m args below meth c H1 locs1 cells slots Q (F0 m (pc + 3) ls rest)) : W p l e R s m args below meth c H locs cells slots Q (F0 m pc ls (.int x :: .ref (L i) :: rest)) := by
  obtain ⟨hx, hb, -, hown, hts⟩ := S
  obtain ⟨hP, hS, hK, hN, hD⟩ := h
  have he := gW_at (X := X) (L := L) (cy := cy) (st := st) (gkd_lt hκ h9)
  rw [hκ, hfs] at he
  refine va_put hx hb hts hin ty0 hty hnm hown hK hP (hD st) hS _ he hc k hk (hts _ hlk) (fun _ h9 => h9) hfin (ty := .int) (by rw [hty k hk, htk]) rfl rfl hl hdg (fun H1 locs1 hP1 hD1 hS1 => ?_)
  rw [gW_set (X := X) (L := L) (cy := cy) (st := st) (i := i) (k := k) (v := x) (e := .inr (ci, fs.set k (.int x))) (by rw [hκ]; exact hnew)] at hP1
  exact kk H1 locs1 ⟨hP1, hS1, hK, hN, hD⟩
/-- a private int field of a nest mate is written -/
theorem g_putN (S : CallFix p m c cc nL s args Ts own) (h : gH D L cy X A st s H locs) {i κ ci k N idx : Nat} {C : String} {T : u_T} {fs : List Value} {x : Int32} (ty0 : Nat → FieldType) (hty : ∀ k, k < N → parseFieldDescriptor (T k).2.2.1 = some (ty0 k)) (hnm : ∀ a, a < N → ∀ b, b < N → a ≠ b → (T a).2.1 ≠ (T b).2.1) (hκ : gkd i = κ) (h9 : κ < 14) (hfs : gce κ L cy i (st i) = .inr (ci, fs)) (hc : vwCl[ci]? = some (C, T, N)) (hin : ∀ w ∈ u_ws C T N, w ∈ Ts) (hk : k < N) (hlk : Cond.fieldLinkNest own idx (T k).1 (T k).2.1 (T k).2.2.1 "BobbinPool" ∈ gNw) (hfin : (T k).2.2.2 = false) (htk : ty0 k = .int) (hl : k < fs.length) (hnew : gce κ L cy i (upd (st i) k x) = .inr (ci, fs.set k (.int x))) (hdg : decode cc pc = .ok (.putfield idx, 3))
    (kk : ∀ (H1 : Heap) (locs1 : List Loc), gH D L cy X A (gsu st i k x) s H1 locs1 → W p l e R s m args below meth c H1 locs1 cells slots Q (F0 m (pc + 3) ls rest)) : W p l e R s m args below meth c H locs cells slots Q (F0 m pc ls (.int x :: .ref (L i) :: rest)) := by
  obtain ⟨hx, hb, -, hown, hts⟩ := S
  obtain ⟨hP, hS, hK, hN, hD⟩ := h
  have he := gW_at (X := X) (L := L) (cy := cy) (st := st) (gkd_lt hκ h9)
  rw [hκ, hfs] at he
  refine va_putN hx hb hts hin ty0 hty hnm hown hK hP (hD st) hS _ he hc k hk (va_Nw.use rfl (hN _ hlk)) (fun _ h9 => h9) hfin (ty := .int) (by rw [hty k hk, htk]) rfl rfl hl hdg (fun H1 locs1 hP1 hD1 hS1 => ?_)
  rw [gW_set (X := X) (L := L) (cy := cy) (st := st) (i := i) (k := k) (v := x) (e := .inr (ci, fs.set k (.int x))) (by rw [hκ]; exact hnew)] at hP1
  exact kk H1 locs1 ⟨hP1, hS1, hK, hN, hD⟩
/-- an element of an int array is read, written; of an array of references read; an array's length -/
theorem g_ial (S : CallFix p m c cc nL s args Ts own) (h : gH D L cy X A st s H locs) {i κ n : Nat} {j : Int32} (hκ : gkd i = κ) (h9 : κ < 14) (hfs : gce κ L cy i (st i) = .inl (cy 0, n, .inl (st i))) (hin : vp_in j n) (hdg : decode cc pc = .ok (.iaload, 1))
    (kk : W p l e R s m args below meth c H locs cells slots Q (F0 m (pc + 1) ls (.int (st i j.toNatClampNeg) :: rest))) : W p l e R s m args below meth c H locs cells slots Q (F0 m pc ls (.int j :: .ref (L i) :: rest)) := by
  obtain ⟨hx, hb, -, hown, hts⟩ := S
  obtain ⟨hP, -, hK, -, -⟩ := h
  have he := gW_at (X := X) (L := L) (cy := cy) (st := st) (gkd_lt hκ h9)
  rw [hκ, hfs] at he
  exact va_iald hx hb hK hP _ 0 he rfl hin hdg kk
theorem g_ias (S : CallFix p m c cc nL s args Ts own) (h : gH D L cy X A st s H locs) {i κ n : Nat} {j x : Int32} (hκ : gkd i = κ) (h9 : κ < 14) (hfs : ∀ r : Nat → Int32, gce κ L cy i r = .inl (cy 0, n, .inl r)) (hin : vp_in j n) (hdg : decode cc pc = .ok (.iastore, 1))
    (kk : ∀ (H1 : Heap) (locs1 : List Loc), gH D L cy X A (gsu st i j.toNatClampNeg x) s H1 locs1 → W p l e R s m args below meth c H1 locs1 cells slots Q (F0 m (pc + 1) ls rest)) : W p l e R s m args below meth c H locs cells slots Q (F0 m pc ls (.int x :: .int j :: .ref (L i) :: rest)) := by
  obtain ⟨hx, hb, -, hown, hts⟩ := S
  obtain ⟨hP, hS, hK, hN, hD⟩ := h
  have he := gW_at (X := X) (L := L) (cy := cy) (st := st) (gkd_lt hκ h9)
  rw [hκ, hfs] at he
  refine va_iast hx hb hK hP (hD st) hS _ 0 he rfl hin hdg (fun H1 locs1 hP1 hD1 hS1 => ?_)
  rw [gW_set (X := X) (L := L) (cy := cy) (st := st) (i := i) (k := j.toNatClampNeg) (v := x) (by rw [hκ, hfs])] at hP1
  exact kk H1 locs1 ⟨hP1, hS1, hK, hN, hD⟩
theorem g_aal (S : CallFix p m c cc nL s args Ts own) (h : gH D L cy X A st s H locs) {i κ n t0 : Nat} {cA : ClassId} {C : String} {f : Nat → Nat} {j : Int32} (hκ : gkd i = κ) (h9 : κ < 14) (hfs : gce κ L cy i (st i) = .inl (cA, n, .inr (.inr (.inr (.inr (fun j => some (L (f j)))))))) (ht : (gty cy)[t0]? = some (cA, .object C)) (hin : vp_in j n) (hdg : decode cc pc = .ok (.aaload, 1))
    (kk : W p l e R s m args below meth c H locs cells slots Q (F0 m (pc + 1) ls (.ref (L (f j.toNatClampNeg)) :: rest))) : W p l e R s m args below meth c H locs cells slots Q (F0 m pc ls (.int j :: .ref (L i) :: rest)) := by
  obtain ⟨hx, hb, -, hown, hts⟩ := S
  obtain ⟨hP, -, hK, -, -⟩ := h
  have he := gW_at (X := X) (L := L) (cy := cy) (st := st) (gkd_lt hκ h9)
  rw [hκ, hfs] at he
  exact va_aldq hx hb hK hP _ t0 he ht hin hdg kk
theorem g_alen (S : CallFix p m c cc nL s args Ts own) (h : gH D L cy X A st s H locs) {i κ n t0 : Nat} {cA : ClassId} {ty : FieldType} {x : (Nat → Int32) ⊕ (Nat → Int64) ⊕ (Nat → UInt32) ⊕ (Nat → UInt64) ⊕ (Nat → Option Nat)} {v : Int32} (hκ : gkd i = κ) (h9 : κ < 14) (hfs : gce κ L cy i (st i) = .inl (cA, n, x)) (ht : (gty cy)[t0]? = some (cA, ty)) (hv : Int32.ofNat n = v) (hdg : decode cc pc = .ok (.arraylength, 1))
    (kk : W p l e R s m args below meth c H locs cells slots Q (F0 m (pc + 1) ls (.int v :: rest))) : W p l e R s m args below meth c H locs cells slots Q (F0 m pc ls (.ref (L i) :: rest)) := by
  obtain ⟨hx, hb, -, hown, hts⟩ := S
  obtain ⟨hP, -, hK, -, -⟩ := h
  have he := gW_at (X := X) (L := L) (cy := cy) (st := st) (gkd_lt hκ h9)
  rw [hκ, hfs] at he
  exact va_alen hx hb hK hP _ t0 he ht hv hdg kk
/-- the ends -/
theorem g_reti (S : CallFix p m c cc nL s args Ts own) (h : gH D L cy X A st s H locs) {ty : FieldType} {v r : Int32} (hr : meth.sig.returnType = some ty) (hlocks : meth.locks = false) (hn : narrow ty (.int v) = .int v) (hv : v = r) (hst : st = st') (hdg : decode cc pc = .ok (.ireturn, 1)) :
    W p l e R s m args below meth c H locs cells slots (MQ below (va_Qi (fun (q : Int32) (_ : Unit) => q = r) (fun _ t => va_P D vwCl (X ++ gW L cy st') t.heap) A) args s cells slots A) (F0 m pc ls [.int v]) := by
  obtain ⟨hx, hb, -, hown, hts⟩ := S
  obtain ⟨hP, hS, hK, -, hD⟩ := h
  subst hst
  exact W.zret hx hb hr hn (fun t ht hW => ⟨⟨v, (), rfl, hv, by show va_P D vwCl (X ++ gW L cy st) t.heap; rw [ht]; exact hP⟩, hS.F ht⟩) hS.2.2 hdg hlocks
theorem g_retv (S : CallFix p m c cc nL s args Ts own) (h : gH D L cy X A st s H locs) (hr : meth.sig.returnType = none) (hlocks : meth.locks = false) (hst : st = st') (hdg : decode cc pc = .ok (.return_, 1)) :
    W p l e R s m args below meth c H locs cells slots (MQ below (va_Qv (fun (_ : Unit) => True) (fun _ t => va_P D vwCl (X ++ gW L cy st') t.heap) A) args s cells slots A) (F0 m pc ls []) := by
  obtain ⟨hx, hb, -, hown, hts⟩ := S
  obtain ⟨hP, hS, hK, -, hD⟩ := h
  subst hst
  exact W.vret hx hb hr (fun t ht hW => ⟨⟨(), rfl, trivial, by show va_P D vwCl (X ++ gW L cy st) t.heap; rw [ht]; exact hP⟩, hS.F ht⟩) hS.2.2 hdg hlocks
theorem g_retr (S : CallFix p m c cc nL s args Ts own) (h : gH D L cy X A st s H locs) {C : String} {i j : Nat} (hr : meth.sig.returnType = some (.object C)) (hlocks : meth.locks = false) (hv : i = j) (hst : st = st') (hdg : decode cc pc = .ok (.areturn, 1)) :
    W p l e R s m args below meth c H locs cells slots (MQ below (va_Qr (fun (_ : Unit) => True) (fun _ a t => a = L j ∧ va_P D vwCl (X ++ gW L cy st') t.heap) A) args s cells slots A) (F0 m pc ls [.ref (L i)]) := by
  obtain ⟨hx, hb, -, hown, hts⟩ := S
  obtain ⟨hP, hS, hK, -, hD⟩ := h
  subst hst
  subst hv
  exact W.aret hx hb hr (Or.inl ⟨C, rfl⟩) (Or.inr ⟨_, rfl⟩) (fun t ht hW => ⟨⟨(), L i, rfl, trivial, rfl, by show va_P D vwCl (X ++ gW L cy st) t.heap; rw [ht]; exact hP⟩, hS.F ht⟩) hS.2.2 hdg hlocks
/-- the calls -/
theorem g_pre (h : gH D L cy X A st s H locs) {i κ ci : Nat} {C : String} {T : u_T} {N : Nat} {fs : List Value} (hκ : gkd i = κ) (h9 : κ < 14) (hfs : gce κ L cy i (st i) = .inr (ci, fs)) (hc : vwCl[ci]? = some (C, T, N)) (As : List Value) : PreV s H C (L i) (gPc D L cy X st (.ref (L i) :: As)) As := by
  obtain ⟨hP, hS, hK, hN, hD⟩ := h
  have he := gW_at (X := X) (L := L) (cy := cy) (st := st) (gkd_lt hκ h9)
  rw [hκ, hfs] at he
  exact ⟨gPc_blind D L cy X st _, va_recv hK hP hc he, fun U hU hW => ⟨rfl, by rw [hU]; exact hP, va_K.moved hW.alike hK, gN.warm hW hN⟩⟩
theorem g_preS (h : gH D L cy X A st s H locs) (As : List Value) : PreS s H (gPc D L cy X st As) As := by
  obtain ⟨hP, hS, hK, hN, hD⟩ := h
  exact ⟨gPc_blind D L cy X st _, fun U hU hW => ⟨rfl, by rw [hU]; exact hP, va_K.moved hW.alike hK, gN.warm hW hN⟩⟩
section calls
variable {y : MethodName} {bytes : ByteArray} {maxL n idx : Nat} {ret : Option FieldType} {ws : List Cond} {rm : Room} {C : String} {As : List Value} {i : Nat} {st0 : List Value}
theorem g_calli (S : CallFix p m c cc nL s args Ts own) (h : gH D L cy X A st s H locs) {r : Int32} (hM : gMi l y ws rm D L cy X A (.ref (L i) :: As) st r st') (cw : CallW R s args own C idx y bytes maxL ret ws rm 0 0 n) (hp : PreV s H C (L i) (gPc D L cy X st (.ref (L i) :: As)) As)
    (hn : As.length = n) (hsize : ls.size = nL) (hstack : st0 = As.reverse ++ .ref (L i) :: rest) (hW : 2 * 0 + (rest.map fun v => v.category).sum ≤ 8) (hdg : decode cc pc = .ok (.invokevirtual idx, 3)) (hf : cells ≤ R.cells ∧ slots ≤ R.slots)
    (kk : ∀ (H1 : Heap) (locs1 : List Loc), gH D L cy X A st' s H1 locs1 → W p l e R s m args below meth c H1 locs1 cells slots Q (F0 m (pc + 3) ls (.int r :: rest))) : W p l e R s m args below meth c H locs cells slots Q (F0 m pc ls st0) := by
  obtain ⟨hP, hS, hK, hN, hD⟩ := h
  refine va_calli (va_runV S hM cw hp rfl hn hsize hstack hW hdg hf) hS (fun q _ h => h) (fun q h => h) (fun r u t H1 locs1 ht hvm hw hB hz1 hk1 hS1 => ?_)
  rw [ht] at hB
  subst hw
  exact kk H1 locs1 ⟨hB, hS1, hK, hN, hD⟩
theorem g_callv (S : CallFix p m c cc nL s args Ts own) (h : gH D L cy X A st s H locs) (hM : gMv l y ws rm D L cy X A (.ref (L i) :: As) st st') (cw : CallW R s args own C idx y bytes maxL ret ws rm 0 0 n) (hp : PreV s H C (L i) (gPc D L cy X st (.ref (L i) :: As)) As)
    (hn : As.length = n) (hsize : ls.size = nL) (hstack : st0 = As.reverse ++ .ref (L i) :: rest) (hW : 2 * 0 + (rest.map fun v => v.category).sum ≤ 8) (hdg : decode cc pc = .ok (.invokevirtual idx, 3)) (hf : cells ≤ R.cells ∧ slots ≤ R.slots)
    (kk : ∀ (H1 : Heap) (locs1 : List Loc), gH D L cy X A st' s H1 locs1 → W p l e R s m args below meth c H1 locs1 cells slots Q (F0 m (pc + 3) ls rest)) : W p l e R s m args below meth c H locs cells slots Q (F0 m pc ls st0) := by
  obtain ⟨hP, hS, hK, hN, hD⟩ := h
  refine va_callv (va_runV S hM cw hp rfl hn hsize hstack hW hdg hf) hS (fun q _ h => h) (fun q h => h) (fun u t H1 locs1 ht hvm hw hB hz1 hk1 hS1 => ?_)
  rw [ht] at hB
  exact kk H1 locs1 ⟨hB, hS1, hK, hN, hD⟩
theorem g_callr (S : CallFix p m c cc nL s args Ts own) (h : gH D L cy X A st s H locs) {j : Nat} (hM : gMr l y ws rm D L cy X A (.ref (L i) :: As) st j st') (cw : CallW R s args own C idx y bytes maxL ret ws rm 0 0 n) (hp : PreV s H C (L i) (gPc D L cy X st (.ref (L i) :: As)) As)
    (hn : As.length = n) (hsize : ls.size = nL) (hstack : st0 = As.reverse ++ .ref (L i) :: rest) (hW : 2 * 0 + (rest.map fun v => v.category).sum ≤ 8) (hdg : decode cc pc = .ok (.invokevirtual idx, 3)) (hf : cells ≤ R.cells ∧ slots ≤ R.slots)
    (kk : ∀ (H1 : Heap) (locs1 : List Loc), gH D L cy X A st' s H1 locs1 → W p l e R s m args below meth c H1 locs1 cells slots Q (F0 m (pc + 3) ls (.ref (L j) :: rest))) : W p l e R s m args below meth c H locs cells slots Q (F0 m pc ls st0) := by
  obtain ⟨hP, hS, hK, hN, hD⟩ := h
  refine va_callr (va_runV S hM cw hp rfl hn hsize hstack hW hdg hf) hS (fun q _ h => h) (fun q h => h) (fun u ra t H1 locs1 ht hvm hw hB hz1 hk1 hS1 => ?_)
  obtain ⟨hra, hB⟩ := hB
  rw [ht] at hB
  subst hra
  exact kk H1 locs1 ⟨hB, hS1, hK, hN, hD⟩
theorem g_calliS (S : CallFix p m c cc nL s args Ts own) (h : gH D L cy X A st s H locs) {r : Int32} (hM : gMi l y ws rm D L cy X A As st r st') (cw : CallB R s args own idx y bytes maxL ret ws rm 0 0 n ∧ (Cond.static y).before args s = true)
    (hn : As.length = n) (hsize : ls.size = nL) (hstack : st0 = As.reverse ++ rest) (hW : 2 * 0 + (rest.map fun v => v.category).sum ≤ 8) (hdg : decode cc pc = .ok (.invokestatic idx, 3)) (hf : cells ≤ R.cells ∧ slots ≤ R.slots)
    (kk : ∀ (H1 : Heap) (locs1 : List Loc), gH D L cy X A st' s H1 locs1 → W p l e R s m args below meth c H1 locs1 cells slots Q (F0 m (pc + 3) ls (.int r :: rest))) : W p l e R s m args below meth c H locs cells slots Q (F0 m pc ls st0) := by
  have hp := g_preS h As
  obtain ⟨hP, hS, hK, hN, hD⟩ := h
  refine va_calli (va_runS S hM cw hp rfl hn hsize hstack hW hdg hf) hS (fun q _ h => h) (fun q h => h) (fun r u t H1 locs1 ht hvm hw hB hz1 hk1 hS1 => ?_)
  rw [ht] at hB
  subst hw
  exact kk H1 locs1 ⟨hB, hS1, hK, hN, hD⟩
theorem g_callvS (S : CallFix p m c cc nL s args Ts own) (h : gH D L cy X A st s H locs) (hM : gMv l y ws rm D L cy X A As st st') (cw : CallB R s args own idx y bytes maxL ret ws rm 0 0 n ∧ (Cond.static y).before args s = true)
    (hn : As.length = n) (hsize : ls.size = nL) (hstack : st0 = As.reverse ++ rest) (hW : 2 * 0 + (rest.map fun v => v.category).sum ≤ 8) (hdg : decode cc pc = .ok (.invokestatic idx, 3)) (hf : cells ≤ R.cells ∧ slots ≤ R.slots)
    (kk : ∀ (H1 : Heap) (locs1 : List Loc), gH D L cy X A st' s H1 locs1 → W p l e R s m args below meth c H1 locs1 cells slots Q (F0 m (pc + 3) ls rest)) : W p l e R s m args below meth c H locs cells slots Q (F0 m pc ls st0) := by
  have hp := g_preS h As
  obtain ⟨hP, hS, hK, hN, hD⟩ := h
  refine va_callv (va_runS S hM cw hp rfl hn hsize hstack hW hdg hf) hS (fun q _ h => h) (fun q h => h) (fun u t H1 locs1 ht hvm hw hB hz1 hk1 hS1 => ?_)
  rw [ht] at hB
  exact kk H1 locs1 ⟨hB, hS1, hK, hN, hD⟩
end calls
/-- the entry: a walk of the body from pc 0 gives the contract -/
def gB (p : Program) (m : MethodId) (meth : Method) (c : Code) (cc : ByteArray) (nL : Nat) (s : State) (args : Array Value) (Ts : List Cond) (own : String) (ret : Option FieldType) (D : va_G) (L : Nat → Nat) (cy : Nat → ClassId) (X : va_W) (A : Nat → Prop) (st : gSt) (av : List Value) (ls : Array Slot) : Prop :=
  CallFix p m c cc nL s args Ts own ∧ meth.sig.returnType = ret ∧ meth.locks = false ∧ gH D L cy X A st s s.heap [] ∧ lv_has ls nL (lv_args 0 av)
theorem g_entry {y : MethodName} {ws ws' : List Cond} {rm : Room} {cc : ByteArray} {maxL : Nat} {ret : Option FieldType} {av : List Value} {Qc : Array Value → State → Outcome → State → Prop} (hD : va_D A (X ++ gW L cy st)) (hy : plainName y.cls = true) (hw : ws = Cond.code y cc maxL ret :: ws') (hlen : (lg_sl av).length ≤ maxL)
    (body : ∀ (p : Program) (e : Env) (s : State) (m : MethodId) (args : Array Value) (below : List Frame) (meth : Method) (c : Code) (ls : Array Slot), gB p m meth c cc maxL s args ws y.cls ret D L cy X A st av ls → W p l e rm s m args below meth c s.heap [] 0 0 (MQ below Qc args s 0 0 A) (F0 m 0 ls [])) :
    Met l y ws rm (gPc D L cy X st av) Qc 0 0 A := by
  refine Met.ofW (cc := cc) (maxL := maxL) (ret := ret) hy hw ?_
  intro p e s m args below meth c s₁ B hml hv
  obtain ⟨rfl, hP, hK, hN⟩ := hv
  have hts := atoms_spec (ws := ws) B.pre
  have hown : s.vm.findClass y.cls = some m.cls := findClass_of_methodNamed B.named
  rw [lg_entry_eq]
  exact body p e s m _ below meth c _ ⟨⟨B.exec, B.bytes, hml, hown, hts⟩, B.returns, B.notSynchronized, ⟨hP, va_S.rf, hK, hN, fun st' => gW_D hD st'⟩, lv_entry av hlen⟩
/-- the same for a method of a class some of whose other methods are the VM's own -/
theorem g_entryF {y : MethodName} {ws ws' : List Cond} {rm : Room} {cc : ByteArray} {maxL : Nat} {ret : Option FieldType} {av : List Value} {Qc : Array Value → State → Outcome → State → Prop} (hD : va_D A (X ++ gW L cy st)) (hy : plainFor y = true) (hw : ws = Cond.code y cc maxL ret :: ws') (hlen : (lg_sl av).length ≤ maxL)
    (body : ∀ (p : Program) (e : Env) (s : State) (m : MethodId) (args : Array Value) (below : List Frame) (meth : Method) (c : Code) (ls : Array Slot), gB p m meth c cc maxL s args ws y.cls ret D L cy X A st av ls → W p l e rm s m args below meth c s.heap [] 0 0 (MQ below Qc args s 0 0 A) (F0 m 0 ls [])) :
    Met l y ws rm (gPc D L cy X st av) Qc 0 0 A := by
  refine va_MetF (cc := cc) (maxL := maxL) (ret := ret) hy hw ?_
  intro p e s m args below meth c s₁ B hml hv
  obtain ⟨rfl, hP, hK, hN⟩ := hv
  have hts := atoms_spec (ws := ws) B.pre
  have hown : s.vm.findClass y.cls = some m.cls := findClass_of_methodNamed B.named
  rw [lg_entry_eq]
  exact body p e s m _ below meth c _ ⟨⟨B.exec, B.bytes, hml, hown, hts⟩, B.returns, B.notSynchronized, ⟨hP, va_S.rf, hK, hN, fun st' => gW_D hD st'⟩, lv_entry av hlen⟩
/-- a name for a reference on the top; other words for a result -/
theorem g_topr {i : Nat} {g2 : List Value} (k : ∀ j : Nat, j = i → W p l e R s m args below meth c H locs cells slots Q (F0 m pc ls (.ref (L j) :: g2))) : W p l e R s m args below meth c H locs cells slots Q (F0 m pc ls (.ref (L i) :: g2)) := k i rfl
theorem g_cvi {r r2 : Int32} {st2 : gSt} {g : JFrame} (e1 : r = r2) (e2 : st' = st2) (k : W p l e R s m args below meth c H locs cells slots (MQ below (va_Qi (fun (q : Int32) (_ : Unit) => q = r2) (fun _ t => va_P D vwCl (X ++ gW L cy st2) t.heap) A) args s 0 0 A) g) :
    W p l e R s m args below meth c H locs cells slots (MQ below (va_Qi (fun (q : Int32) (_ : Unit) => q = r) (fun _ t => va_P D vwCl (X ++ gW L cy st') t.heap) A) args s 0 0 A) g := by
  subst e1; subst e2; exact k
theorem g_cvv {st2 : gSt} {g : JFrame} (e2 : st' = st2) (k : W p l e R s m args below meth c H locs cells slots (MQ below (va_Qv (fun (_ : Unit) => True) (fun _ t => va_P D vwCl (X ++ gW L cy st2) t.heap) A) args s 0 0 A) g) :
    W p l e R s m args below meth c H locs cells slots (MQ below (va_Qv (fun (_ : Unit) => True) (fun _ t => va_P D vwCl (X ++ gW L cy st') t.heap) A) args s 0 0 A) g := by
  subst e2; exact k
theorem g_cvr {j j2 : Nat} {st2 : gSt} {g : JFrame} (e1 : j = j2) (e2 : st' = st2) (k : W p l e R s m args below meth c H locs cells slots (MQ below (va_Qr (fun (_ : Unit) => True) (fun _ a t => a = L j2 ∧ va_P D vwCl (X ++ gW L cy st2) t.heap) A) args s 0 0 A) g) :
    W p l e R s m args below meth c H locs cells slots (MQ below (va_Qr (fun (_ : Unit) => True) (fun _ a t => a = L j ∧ va_P D vwCl (X ++ gW L cy st') t.heap) A) args s 0 0 A) g := by
  subst e1; subst e2; exact k
end GW
