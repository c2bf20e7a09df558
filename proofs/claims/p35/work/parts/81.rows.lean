/-! ROWS AND STACKS as lists: rl g i is what the row at the cell i holds, in order. -/
theorem su_at {g : gSt} {i k : Nat} {v : Int32} : gsu g i k v i k = v := gsu_at
theorem su_ni {g : gSt} {i k a b : Nat} {v : Int32} (h : a ≠ i) : gsu g i k v a b = g a b := gsu_ni h
theorem su_nk {g : gSt} {i k a b : Nat} {v : Int32} (h : b ≠ k) : gsu g i k v a b = g a b := gsu_nk h
theorem le24 {m : Nat} (h : m < 24) : ¬ (24 : Int32) ≤ nI m := nI_ge (b := 24) h (by omega)
theorem le5 {m : Nat} (h : m < 5) : ¬ (5 : Int32) ≤ nI m := nI_ge (b := 5) h (by omega)
def rl (g : gSt) (i : Nat) : List Int32 := (List.range (gsz g i)).map (fun j => g (i + 1) j)
def rok (g : gSt) (i : Nat) : Prop := ∃ m : Nat, m ≤ 24 ∧ g i 1 = nI m
theorem rok_sz {g : gSt} {i m : Nat} (hm : m ≤ 24) (h : g i 1 = nI m) : gsz g i = m := by
  unfold gsz
  rw [h, nI_clamp (by omega)]
  omega
theorem rl_len {g : gSt} {i : Nat} : (rl g i).length = gsz g i := by unfold rl; simp
theorem rok_len {g : gSt} {i : Nat} (h : rok g i) : g i 1 = nI (rl g i).length ∧ (rl g i).length ≤ 24 := by
  obtain ⟨m, hm, e⟩ := h
  rw [rl_len, rok_sz hm e]
  exact ⟨e, hm⟩
theorem rl_of {g : gSt} {i m : Nat} (hm : m ≤ 24) (h : g i 1 = nI m) : rl g i = (List.range m).map (fun j => g (i + 1) j) := by
  unfold rl
  rw [rok_sz hm h]
/-- a row whose two cells are as they were -/
theorem rl_same {g g' : gSt} {i : Nat} (h0 : g' i 1 = g i 1) (h1 : ∀ k, g' (i + 1) k = g (i + 1) k) : rl g' i = rl g i := by
  unfold rl gsz
  rw [h0]
  exact List.map_congr_left (fun j _ => h1 j)
theorem rok_same {g g' : gSt} {i : Nat} (h0 : g' i 1 = g i 1) (h : rok g i) : rok g' i := by
  obtain ⟨m, hm, e⟩ := h
  exact ⟨m, hm, h0.trans e⟩
/-! append -/
theorem ap_eq {g : gSt} {i m : Nat} {x : Int32} (hm : m < 24) (h : g i 1 = nI m) : f_append g i x = gsu (gsu g (i + 1) m x) i 1 (nI (m + 1)) := by
  unfold f_append
  have e1 : ¬ (nI m < 0) := nI_pos (by omega)
  have e2 : ¬ ((24 : Int32) ≤ nI m) := le24 hm
  rw [h, if_neg e1, if_neg e2, nI_clamp (by omega), nI_succ]
theorem ap_fr {g : gSt} {i a b : Nat} {x : Int32} (h1 : a ≠ i) (h2 : a ≠ i + 1) : f_append g i x a b = g a b := by
  unfold f_append
  split
  · rfl
  · split
    · rfl
    · rw [su_ni h1, su_ni h2]
theorem ap_fr1 {g : gSt} {i b : Nat} {x : Int32} (h : b ≠ 1) : f_append g i x i b = g i b := by
  unfold f_append
  split
  · rfl
  · split
    · rfl
    · rw [su_nk h, su_ni (by omega)]
theorem ap_fr2 {g : gSt} {i b : Nat} {x : Int32} (h : 24 ≤ b) : f_append g i x (i + 1) b = g (i + 1) b := by
  unfold f_append
  split
  · rfl
  · split
    · rfl
    · rename_i c1 c2
      have := cl_lt (n := 24) c1 c2 rfl
      rw [su_ni (by omega), su_nk (by omega)]
theorem ap_rok {g : gSt} {i : Nat} {x : Int32} (h : rok g i) (hl : (rl g i).length < 24) : rok (f_append g i x) i := by
  obtain ⟨m, hm, e⟩ := h
  rw [rl_len, rok_sz hm e] at hl
  rw [ap_eq hl e]
  exact ⟨m + 1, hl, su_at⟩
theorem ap_rl {g : gSt} {i : Nat} {x : Int32} (h : rok g i) (hl : (rl g i).length < 24) : rl (f_append g i x) i = rl g i ++ [x] := by
  obtain ⟨m, hm, e⟩ := h
  rw [rl_len, rok_sz hm e] at hl
  rw [ap_eq hl e, rl_of (m := m + 1) hl su_at, rl_of hm e, List.range_succ, List.map_append]
  congr 1
  · refine List.map_congr_left (fun j hj => ?_)
    have := List.mem_range.mp hj
    rw [su_ni (by omega), su_nk (by omega)]
  · show [gsu (gsu g (i + 1) m x) i 1 (nI (m + 1)) (i + 1) m] = [x]
    rw [su_ni (by omega), su_at]
/-! remove -/
theorem rml_inv {g : gSt} {i : Nat} {x : Int32} : ∀ k, (f_rml g i x k).2 ≤ k ∧ (∀ j, k ≤ j → (f_rml g i x k).1 (i + 1) j = g (i + 1) j) ∧ (List.range (f_rml g i x k).2).map (fun j => (f_rml g i x k).1 (i + 1) j) = ((List.range k).map (fun j => g (i + 1) j)).filter (fun y => decide (y ≠ x)) ∧ ∀ a b, (a ≠ i + 1 ∨ k ≤ b) → (f_rml g i x k).1 a b = g a b := by
  intro k
  induction k with
  | zero => exact ⟨Nat.le_refl _, fun _ _ => rfl, rfl, fun _ _ _ => rfl⟩
  | succ k ih =>
    obtain ⟨h1, h2, h3, h4⟩ := ih
    have e := h2 k (Nat.le_refl _)
    rw [List.range_succ, List.map_append, List.filter_append, ← h3]
    by_cases c : g (i + 1) k = x
    · have hq : f_rml g i x (k + 1) = f_rml g i x k := by
        show (if _ then _ else _) = _
        rw [if_pos (e.trans c)]
      rw [hq]
      refine ⟨by omega, fun j hj => h2 j (by omega), ?_, fun a b h => h4 a b (by omega)⟩
      simp [c]
    · have hq : f_rml g i x (k + 1) = (gsu (f_rml g i x k).1 (i + 1) (f_rml g i x k).2 (g (i + 1) k), (f_rml g i x k).2 + 1) := by
        show (if _ then _ else _) = _
        rw [if_neg (fun q => c (e.symm.trans q)), e]
      rw [hq]
      refine ⟨by show (f_rml g i x k).2 + 1 ≤ k + 1; omega, fun j hj => ?_, ?_, fun a b h => ?_⟩
      · show gsu _ _ _ _ _ _ = _
        rw [su_nk (by omega)]
        exact h2 j (by omega)
      · show (List.range ((f_rml g i x k).2 + 1)).map (fun j => gsu (f_rml g i x k).1 (i + 1) (f_rml g i x k).2 (g (i + 1) k) (i + 1) j) = _
        rw [List.range_succ, List.map_append]
        congr 1
        · refine List.map_congr_left (fun j hj => ?_)
          have := List.mem_range.mp hj
          rw [su_nk (by omega)]
        · simp [su_at, c]
      · show gsu _ _ _ _ _ _ = _
        by_cases c2 : a = i + 1
        · subst c2
          rw [su_nk (by omega)]
          exact h4 _ b (by omega)
        · rw [su_ni c2]
          exact h4 a b (by omega)
theorem rm_rl {g : gSt} {i : Nat} {x : Int32} (h : rok g i) : rl (f_rm g i x) i = (rl g i).filter (fun y => decide (y ≠ x)) := by
  obtain ⟨m, hm, e⟩ := h
  obtain ⟨h1, -, h3, -⟩ := rml_inv (g := g) (i := i) (x := x) m
  have e1 : f_rm g i x = gsu (f_rml g i x m).1 i 1 (nI (f_rml g i x m).2) := by unfold f_rm; rw [rok_sz hm e]
  rw [e1, rl_of (m := (f_rml g i x m).2) (by omega) su_at, rl_of hm e, ← h3]
  refine List.map_congr_left (fun j hj => ?_)
  rw [su_ni (by omega)]
theorem rm_rok {g : gSt} {i : Nat} {x : Int32} : rok (f_rm g i x) i := by
  have h1 := (rml_inv (g := g) (i := i) (x := x) (gsz g i)).1
  have h2 : gsz g i ≤ 24 := by unfold gsz; omega
  exact ⟨(f_rml g i x (gsz g i)).2, by omega, by unfold f_rm; rw [su_at]⟩
theorem rm_fr {g : gSt} {i a b : Nat} {x : Int32} (h1 : a ≠ i) (h2 : a ≠ i + 1) : f_rm g i x a b = g a b := by
  unfold f_rm
  rw [su_ni h1]
  exact (rml_inv (g := g) (i := i) (x := x) _).2.2.2 a b (Or.inl h2)
theorem rm_fr1 {g : gSt} {i b : Nat} {x : Int32} (h : b ≠ 1) : f_rm g i x i b = g i b := by
  unfold f_rm
  rw [su_nk h]
  exact (rml_inv (g := g) (i := i) (x := x) _).2.2.2 i b (Or.inl (by omega))
theorem rm_fr2 {g : gSt} {i b : Nat} {x : Int32} (h : 24 ≤ b) : f_rm g i x (i + 1) b = g (i + 1) b := by
  unfold f_rm
  rw [su_ni (by omega)]
  exact (rml_inv (g := g) (i := i) (x := x) _).2.2.2 (i + 1) b (Or.inr (by unfold gsz; omega))
/-! has, at, last -/
theorem has_eq {g : gSt} {i : Nat} {x : Int32} : f_has g i x = if x ∈ rl g i then 1 else 0 := by
  unfold f_has rl
  by_cases c : x ∈ (List.range (gsz g i)).map (fun j => g (i + 1) j)
  · rw [if_pos c, if_pos]
    obtain ⟨j, hj, e⟩ := List.mem_map.mp c
    exact List.any_eq_true.mpr ⟨j, hj, by simp [e]⟩
  · rw [if_neg c, if_neg]
    intro q
    obtain ⟨j, hj, e⟩ := List.any_eq_true.mp q
    exact c (List.mem_map.mpr ⟨j, hj, of_decide_eq_true e⟩)
theorem at_in {g : gSt} {i j : Nat} (h : rok g i) (hj : j < (rl g i).length) : f_at g i (nI j) = (rl g i)[j] := by
  obtain ⟨m, hm, e⟩ := h
  have hl := hj
  rw [rl_len, rok_sz hm e] at hl
  unfold f_at
  rw [if_neg (nI_pos (by omega)), e, if_neg (nI_ge hl (by omega)), if_neg (le24 (by omega)), nI_clamp (by omega)]
  simp [rl]
theorem at_mem {g : gSt} {i j : Nat} (h : rok g i) (hj : j < (rl g i).length) : f_at g i (nI j) ∈ rl g i := by
  rw [at_in h hj]
  exact List.getElem_mem hj
theorem last_0 {g : gSt} {i : Nat} (h : rok g i) (h0 : rl g i = []) : f_last g i = -1 := by
  obtain ⟨h1, -⟩ := rok_len h
  unfold f_last f_at
  rw [h1, h0, if_pos (by decide)]
theorem last_mem {g : gSt} {i : Nat} (h : rok g i) (h0 : rl g i ≠ []) : f_last g i ∈ rl g i := by
  obtain ⟨h1, h2⟩ := rok_len h
  have hp : 0 < (rl g i).length := List.length_pos_iff.mpr h0
  obtain ⟨j, hj⟩ : ∃ j, (rl g i).length = j + 1 := ⟨(rl g i).length - 1, by omega⟩
  unfold f_last
  rw [h1, hj, nI_pred]
  exact at_mem h (by omega)
/-! how often a task stands in a row -/
def cnt (g : gSt) (i t : Nat) : Nat := (rl g i).count (nI t)
theorem cnt_same {g g' : gSt} {i t : Nat} (h0 : g' i 1 = g i 1) (h1 : ∀ k, g' (i + 1) k = g (i + 1) k) : cnt g' i t = cnt g i t := by
  unfold cnt
  rw [rl_same h0 h1]
theorem cnt_ap {g : gSt} {i t s : Nat} (h : rok g i) (hl : (rl g i).length < 24) (ht : t < 2 ^ 31) (hs : s < 2 ^ 31) : cnt (f_append g i (nI t)) i s = cnt g i s + if s = t then 1 else 0 := by
  unfold cnt
  rw [ap_rl h hl, List.count_append]
  by_cases c : s = t
  · subst c; simp
  · have q0 : List.count (nI s) [nI t] = 0 := List.count_eq_zero.mpr (fun q => c ((nI_eq hs ht).mp (List.mem_singleton.mp q)))
    rw [if_neg c, q0]
theorem cnt_rm {g : gSt} {i t s : Nat} (h : rok g i) (ht : t < 2 ^ 31) (hs : s < 2 ^ 31) : cnt (f_rm g i (nI t)) i s = if s = t then 0 else cnt g i s := by
  unfold cnt
  rw [rm_rl h]
  by_cases c : s = t
  · subst c
    rw [if_pos rfl, List.count_eq_zero.mpr]
    intro q
    have := (List.mem_filter.mp q).2
    simp at this
  · rw [if_neg c, List.count_filter]
    exact decide_eq_true (fun q => c ((nI_eq hs ht).mp q))
/-! sums -/
def sm (f : Nat → Nat) : Nat → Nat
  | 0 => 0
  | n + 1 => sm f n + f n
theorem sm_congr {f f' : Nat → Nat} : ∀ {n : Nat}, (∀ j, j < n → f' j = f j) → sm f' n = sm f n := by
  intro n
  induction n with
  | zero => intro _; rfl
  | succ n ih =>
    intro h
    show sm f' n + f' n = sm f n + f n
    rw [ih (fun j hj => h j (by omega)), h n (by omega)]
theorem sm_upd {f f' : Nat → Nat} {a : Nat} : ∀ {n : Nat}, (∀ j, j < n → j ≠ a → f' j = f j) → a < n → sm f' n + f a = sm f n + f' a := by
  intro n
  induction n with
  | zero => intro _ h; omega
  | succ n ih =>
    intro h ha
    show sm f' n + f' n + f a = sm f n + f n + f' a
    by_cases c : a = n
    · subst c
      rw [sm_congr (f := f) (f' := f') (n := a) (fun j hj => h j (by omega) (by omega))]
      omega
    · have h1 := ih (fun j hj => h j (by omega)) (by omega)
      have h2 := h n (by omega) (fun q => c q.symm)
      omega
theorem sm_le {f : Nat → Nat} {a : Nat} : ∀ {n : Nat}, a < n → f a ≤ sm f n := by
  intro n
  induction n with
  | zero => intro h; omega
  | succ n ih =>
    intro h
    show f a ≤ sm f n + f n
    by_cases c : a = n
    · subst c; omega
    · have := ih (by omega); omega
theorem sm_0 {f : Nat → Nat} : ∀ {n : Nat}, (∀ j, j < n → f j = 0) → sm f n = 0 := by
  intro n
  induction n with
  | zero => intro _; rfl
  | succ n ih =>
    intro h
    show sm f n + f n = 0
    rw [ih (fun j hj => h j (by omega)), h n (by omega)]
theorem sm_mono {f f' : Nat → Nat} : ∀ {n : Nat}, (∀ j, j < n → f' j ≤ f j) → sm f' n ≤ sm f n := by
  intro n
  induction n with
  | zero => intro _; exact Nat.le_refl _
  | succ n ih =>
    intro h
    show sm f' n + f' n ≤ sm f n + f n
    have := ih (fun j hj => h j (by omega))
    have := h n (by omega)
    omega
theorem sm_one {a v : Nat} : ∀ {n : Nat}, sm (fun j => if j = a then v else 0) n = if a < n then v else 0 := by
  intro n
  induction n with
  | zero => rfl
  | succ n ih =>
    show sm (fun j => if j = a then v else 0) n + (if n = a then v else 0) = _
    rw [ih]
    by_cases c : n = a
    · subst c; simp
    · rw [if_neg c]
      by_cases c2 : a < n
      · rw [if_pos c2, if_pos (by omega)]; rfl
      · rw [if_neg c2, if_neg (by omega)]
theorem sm_add {f f' : Nat → Nat} : ∀ {n : Nat}, sm (fun j => f j + f' j) n = sm f n + sm f' n := by
  intro n
  induction n with
  | zero => rfl
  | succ n ih =>
    show sm (fun j => f j + f' j) n + (f n + f' n) = sm f n + f n + (sm f' n + f' n)
    rw [ih]; omega
theorem sm_swap {f : Nat → Nat → Nat} {n : Nat} : ∀ {k : Nat}, sm (fun a => sm (fun b => f a b) n) k = sm (fun b => sm (fun a => f a b) k) n := by
  intro k
  induction k with
  | zero => exact (sm_0 (fun _ _ => rfl)).symm
  | succ k ih =>
    show sm (fun a => sm (fun b => f a b) n) k + sm (fun b => f k b) n = sm (fun b => sm (fun a => f a b) k + f k b) n
    rw [ih, sm_add]
theorem len_sm {n : Nat} (hn : n ≤ 24) : ∀ {l : List Int32}, (∀ y ∈ l, ∃ t, t < n ∧ y = nI t) → l.length = sm (fun t => l.count (nI t)) n := by
  intro l
  induction l with
  | nil => intro _; exact (sm_0 (fun _ _ => rfl)).symm
  | cons y l ih =>
    intro h
    obtain ⟨t, ht, rfl⟩ := h y List.mem_cons_self
    have e : sm (fun s => (nI t :: l).count (nI s)) n = sm (fun s => l.count (nI s) + if s = t then 1 else 0) n := sm_congr (fun s hs => by
      rw [List.count_cons]
      congr 1
      by_cases c : s = t
      · subst c; simp
      · rw [if_neg c, if_neg]
        intro q
        exact c ((nI_eq (by omega) (by omega)).mp (beq_iff_eq.mp q).symm))
    rw [e, sm_add, sm_one, if_pos ht, ← ih (fun y hy => h y (List.mem_cons_of_mem _ hy))]
    rfl
