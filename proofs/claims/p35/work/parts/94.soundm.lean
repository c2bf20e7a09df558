/-! WHAT isSound LOOKS AT. -/
/-- the number of a row, from -1 -/
def wv (j : Nat) : Int32 := if j = 0 then -1 else nI (j - 1)
theorem wv_0 : wv 0 = -1 := rfl
theorem wv_s (j : Nat) : wv j + 1 = wv (j + 1) := by
  unfold wv
  by_cases c : j = 0
  · subst c; decide
  · obtain ⟨k, rfl⟩ : ∃ k, j = k + 1 := ⟨j - 1, by omega⟩
    rw [if_neg (by omega), if_neg (by omega)]
    exact nI_1 k
theorem wv_n {j : Nat} : wv (j + 1) = nI j := by unfold wv; rw [if_neg (by omega), Nat.add_sub_cancel]
theorem wv_row {j : Nat} (h : j ≤ 5) : f_row 30 (wv j) = rc j := by
  by_cases c : j = 0
  · subst c; exact row_c
  · obtain ⟨k, rfl⟩ : ∃ k, j = k + 1 := ⟨j - 1, by omega⟩
    rw [wv_n]
    exact row_n (by omega)
theorem wv_hd1 {j : Nat} (h : j ≤ 5) : ¬ wv j = -1 → ¬ wv j < 0 := by
  intro q
  by_cases c : j = 0
  · subst c; exact absurd rfl q
  · obtain ⟨k, rfl⟩ : ∃ k, j = k + 1 := ⟨j - 1, by omega⟩
    rw [wv_n]
    exact nI_pos (by omega)
theorem wv_hd2 {j wc : Nat} (h : j ≤ wc) (hw : wc ≤ 5) : ¬ wv j = -1 → wv j < nI wc := by
  intro q
  by_cases c : j = 0
  · subst c; exact absurd rfl q
  · obtain ⟨k, rfl⟩ : ∃ k, j = k + 1 := ⟨j - 1, by omega⟩
    rw [wv_n]
    exact nI_lt (by omega) (by omega)
theorem wv_ge {j wc : Nat} (h : wc < j) (hj : j ≤ 6) : nI wc ≤ wv j := by
  obtain ⟨k, rfl⟩ : ∃ k, j = k + 1 := ⟨j - 1, by omega⟩
  rw [wv_n]
  exact nI_le (by omega) (by omega)
theorem wv_lt {j wc : Nat} (h : j ≤ wc) (hw : wc ≤ 5) : ¬ nI wc ≤ wv j := by
  by_cases c : j = 0
  · subst c
    rw [wv_0]
    intro q
    rw [Int32.le_iff_toInt_le, nI_toInt (by omega)] at q
    have e : (-1 : Int32).toInt = -1 := rfl
    omega
  · obtain ⟨k, rfl⟩ : ∃ k, j = k + 1 := ⟨j - 1, by omega⟩
    rw [wv_n]
    exact nI_ge (by omega) (by omega)
section SOUND
variable {n wc ck e j k t w : Nat} {st : gSt}
theorem so_rowlen (h : J n wc ck e st) (hj : j ≤ wc) : f_X6_row st (wv j) = nI (rl st (rc j)).length := by
  unfold f_X6_row
  rw [wv_row (by have := h.1.1.2.2.1; omega)]
  exact (rok_len (h.2.1.1 j hj).1).1
theorem so_hd4 (h : J n wc ck e st) (hj : j ≤ wc) (hk : k < (rl st (rc j)).length) : nI k < st (f_row 30 (wv j)) 1 := by
  rw [wv_row (by have := h.1.1.2.2.1; omega), (rok_len (h.2.1.1 j hj).1).1]
  have := (rok_len (h.2.1.1 j hj).1).2
  exact nI_lt hk (by omega)
/-- what stands in a row: a task that is ready; and one more of the row has been seen -/
theorem so_inRow (h : J n wc ck e st) (hj : j ≤ wc) (hk : k < (rl st (rc j)).length) : ∃ t, t < n ∧ f_X6_inRow st (wv j) (nI k) = nI t ∧ st (43 + t) 2 = 0 ∧ ∀ s, ((rl st (rc j)).take (k + 1)).count (nI s) = ((rl st (rc j)).take k).count (nI s) + if nI s = nI t then 1 else 0 := by
  have hw := h.1.1.2.2.1
  obtain ⟨hr, hl⟩ := h.2.1.1 j hj
  have e1 : f_X6_inRow st (wv j) (nI k) = f_at st (rc j) (nI k) := by
    unfold f_X6_inRow
    dsimp only
    rw [wv_row (by omega), if_neg (nI_pos (by have := (rok_len hr).2; omega)), if_pos]
    rw [(rok_len hr).1]
    exact nI_lt hk (by have := (rok_len hr).2; omega)
  have hm := at_mem hr hk
  obtain ⟨t, ht, et⟩ := hl _ hm
  refine ⟨t, ht, e1.trans et, ?_, fun s => ?_⟩
  · have q1 := (h.2.2 t ht).2.2.2.2.1
    have q2 := cnt_Rn (g := st) (t := t) hj
    have q3 : 1 ≤ cnt st (rc j) t := cnt_mem (by rw [← et]; exact hm)
    rcases Classical.em (st (43 + t) 2 = 0) with q | q
    · exact q
    · rw [q1, if_neg q] at q2; omega
  · rw [List.take_succ, List.count_append, List.getElem?_eq_getElem hk]
    congr 1
    rw [at_in hr hk] at et
    rw [et]
    show List.count (nI s) [nI t] = _
    rw [List.count_cons, List.count_nil]
    by_cases c : nI s = nI t
    · rw [if_pos c, c]; simp
    · rw [if_neg c, if_neg]
      intro q
      exact c (beq_iff_eq.mp q).symm
theorem so_stack (h : J n wc ck e st) (hw1 : w < wc) : f_X6_stack st (nI w) = nI (rl st (sc w)).length ∧ (rl st (sc w)).length ≤ 24 := by
  have hw := h.1.1.2.2.1
  unfold f_X6_stack
  rw [wk_n (by omega), show 67 + 6 * w + 3 = sc w by unfold sc; omega]
  exact rok_len (h.2.1.2 w hw1).1
theorem so_top (h : J n wc ck e st) (hw1 : w < wc) : ((rl st (sc w)).length = 0 ∧ f_X6_top st (nI w) = -1) ∨ (0 < (rl st (sc w)).length ∧ ∃ t, t < n ∧ f_X6_top st (nI w) = nI t ∧ (st (43 + t) 2 = 1 ∨ st (43 + t) 2 = 2 ∨ st (43 + t) 2 = 3)) := by
  have hw := h.1.1.2.2.1
  obtain ⟨hr, hl⟩ := h.2.1.2 w hw1
  have e1 : f_X6_top st (nI w) = f_last st (sc w) := by
    unfold f_X6_top
    rw [wk_n (by omega), show 67 + 6 * w + 3 = sc w by unfold sc; omega]
  rw [e1]
  by_cases c : rl st (sc w) = []
  · exact Or.inl ⟨by rw [c]; rfl, last_0 hr c⟩
  · refine Or.inr ⟨List.length_pos_iff.mpr c, ?_⟩
    have hm := last_mem hr c
    obtain ⟨t, ht, et⟩ := hl _ hm
    refine ⟨t, ht, et, ?_⟩
    have a5 := (h.2.2 t ht).2.2.2.2
    have q1 := cnt_Sn (g := st) (t := t) hw1
    have q2 : 1 ≤ cnt st (sc w) t := cnt_mem (by rw [← et]; exact hm)
    exact a5.2.2.1 (by have := a5.2.1; omega)
theorem so_told (h : Tt wc ck 0 st) (hw1 : w < wc) (hw : wc ≤ 5) (hck : ck ≤ 100) : ∃ a b c : Nat, f_X6_told st (nI w) 0 = nI a ∧ f_X6_told st (nI w) 1 = nI b ∧ f_X6_told st (nI w) 2 = nI c ∧ a + b + c ≤ ck := by
  obtain ⟨a, b, c, h1, h2, h3, h4⟩ := h w hw1
  rw [if_neg (by omega)] at h4
  refine ⟨a, b, c, ?_, ?_, ?_, by omega⟩ <;> unfold f_X6_told <;> dsimp only <;> rw [wk_n (by omega)]
  · rw [if_neg (by decide), if_pos (by decide), if_pos rfl]; exact h1
  · rw [if_neg (by decide), if_pos (by decide), if_neg (by decide), if_pos rfl]; exact h2
  · rw [if_neg (by decide), if_pos (by decide), if_neg (by decide), if_neg (by decide)]; exact h3
theorem so_f {f : gSt → Int32 → Int32} (hf : ∀ s x, f s x = s (f_tk 30 x) k) (ht : t < 24) : f st (nI t) = st (43 + t) k := by rw [hf, tk_n ht]
theorem so_state (ht : t < 24) : f_X6_stateOf st (nI t) = st (43 + t) 2 := so_f (fun _ _ => rfl) ht
theorem so_value (ht : t < 24) : f_X6_valueOf st (nI t) = st (43 + t) 4 := so_f (fun _ _ => rfl) ht
theorem so_parent (ht : t < 24) : f_X6_parentOf st (nI t) = st (43 + t) 5 := so_f (fun _ _ => rfl) ht
theorem so_children (ht : t < 24) : f_X6_childrenOf st (nI t) = st (43 + t) 6 := so_f (fun _ _ => rfl) ht
theorem so_over (ht : t < 24) : f_X6_overAt st (nI t) = st (43 + t) 7 := so_f (fun _ _ => rfl) ht
theorem so_overlt (h : J n wc ck e st) (ht : t < n) : st (43 + t) 7 < 0 ↔ st (43 + t) 2 < 4 := by
  obtain ⟨a1, -⟩ := h.2.2 t ht
  constructor
  · intro q
    rcases Classical.em (st (43 + t) 2 < 4) with c | c
    · exact c
    · obtain ⟨o, o1, o2, -⟩ := a1.2 c
      rw [o2] at q
      exact absurd q (nI_pos (by have := h.1.1.2.2.2; omega))
  · intro q
    rw [a1.1 q]; decide
theorem so_overck (h : J n wc ck 0 st) (ht : t < n) (hs : st (43 + t) 2 = 4 ∨ st (43 + t) 2 = 5) : ¬ nI ck ≤ st (43 + t) 7 := by
  obtain ⟨a1, -⟩ := h.2.2 t ht
  have c : ¬ st (43 + t) 2 < 4 := by rcases hs with q | q <;> rw [q] <;> decide
  obtain ⟨o, o1, o2, o3⟩ := a1.2 c
  rw [o2]
  exact nI_ge (by have := o3 hs; omega) (by have := h.1.1.2.2.2; omega)
theorem so_parlt (h : J n wc ck e st) (ht : t < n) : ¬ nI t ≤ st (43 + t) 5 := by
  have hn := h.1.1.1
  rcases (h.2.2 t ht).2.2.1.1 with q | ⟨r, hr, q, -⟩
  · rw [q]
    intro c
    rw [Int32.le_iff_toInt_le, nI_toInt (by omega)] at c
    have e : (-1 : Int32).toInt = -1 := rfl
    omega
  · rw [q]; exact nI_ge hr (by omega)
theorem so_where (h : J n wc ck e st) (ht : t < n) : nI (Rn wc st t) = if st (43 + t) 2 = 0 then 1 else 0 := by
  rw [(h.2.2 t ht).2.2.2.2.1]
  split <;> rfl
/-- a bit of the children -/
theorem so_bit (h : J n wc ck e st) (ht : t < n) (hk : k < 24) (hb : ((st (43 + t) 6 >>> (nI k &&& 31)) &&& 1) = 1) : k < n ∧ st (43 + k) 5 = nI t := (h.2.2 t ht).2.2.1.2 k hk ((bit_ask hk).mp hb)
/-- the bit of a task in its parent's set -/
theorem so_pbit (h : J n wc ck e st) (ht : t < n) (hp : ¬ st (43 + t) 5 < 0) (hs : st (43 + t) 2 < 4) : ∃ r, r < n ∧ st (43 + t) 5 = nI r ∧ ((st (43 + r) 6 >>> (nI t &&& 31)) &&& 1) = 1 := by
  have hn := h.1.1.1
  rcases (h.2.2 t ht).2.2.1.1 with q | ⟨r, hr, q, hq⟩
  · rw [q] at hp; exact absurd (by decide) hp
  · exact ⟨r, by omega, q, (bit_ask (by omega)).mpr (hq hs)⟩
/-- how many run, how many are blocked -/
def oR (st : gSt) (t : Nat) : Nat := if st (43 + t) 2 = 1 then 1 else 0
def oB (st : gSt) (t : Nat) : Nat := if st (43 + t) 2 = 2 then 1 else if st (43 + t) 2 = 3 then 1 else 0
theorem so_sum (h : J n wc ck e st) : sm (oR st) n ≤ sm (fun w => (rl st (sc w)).length) wc ∧ sm (fun w => (rl st (sc w)).length) wc ≤ sm (oR st) n + sm (oB st) n := by
  have hn := h.1.1.1
  have e1 : sm (fun w => (rl st (sc w)).length) wc = sm (fun t => Sn wc st t) n := by
    rw [sm_congr (f := fun w => sm (fun t => cnt st (sc w) t) n) (fun w hw => len_sm hn (h.2.1.2 w hw).2)]
    exact sm_swap
  rw [e1, ← sm_add]
  refine ⟨sm_mono (fun t ht => ?_), sm_mono (fun t ht => ?_)⟩
  · have a5 := (h.2.2 t ht).2.2.2.2
    unfold oR
    split
    · rename_i c; rw [a5.2.2.2 c]; exact Nat.le_refl _
    · omega
  · have a5 := (h.2.2 t ht).2.2.2.2
    rcases Nat.lt_or_ge (Sn wc st t) 1 with q | q
    · omega
    · have h1 : Sn wc st t = 1 := by have := a5.2.1; omega
      rw [h1]
      unfold oR oB
      rcases a5.2.2.1 h1 with c | c | c <;> rw [c] <;> decide
theorem so_le24 (h : J n wc ck e st) : sm (fun w => (rl st (sc w)).length) wc ≤ 24 := by
  have hn := h.1.1.1
  have h1 := (so_sum h).2
  rw [← sm_add] at h1
  have h2 : sm (fun t => oR st t + oB st t) n ≤ sm (fun _ => 1) n := sm_mono (fun t _ => by
    unfold oR oB
    by_cases c : st (43 + t) 2 = 1
    · rw [if_pos c, c]; decide
    · rw [if_neg c]; split <;> (try split) <;> omega)
  have e3 : ∀ k, sm (fun _ => 1) k = k := by
    intro k
    induction k with
    | zero => rfl
    | succ k ih => show sm (fun _ => 1) k + 1 = k + 1; rw [ih]
  rw [e3] at h2
  omega
theorem sm_pre {f : Nat → Nat} {a b : Nat} (h : a ≤ b) : sm f a ≤ sm f b := by
  induction b with
  | zero => obtain rfl : a = 0 := by omega
            exact Nat.le_refl _
  | succ b ih =>
    by_cases c : a = b + 1
    · subst c; exact Nat.le_refl _
    · have := ih (by omega)
      show sm f a ≤ sm f b + f b
      omega
theorem so_small (h : J n wc ck e st) (ht : t ≤ n) : sm (oR st) t ≤ 24 ∧ sm (oB st) t ≤ 24 := by
  have hn := h.1.1.1
  have e3 : ∀ k, sm (fun _ => 1) k = k := by
    intro k
    induction k with
    | zero => rfl
    | succ k ih => show sm (fun _ => 1) k + 1 = k + 1; rw [ih]
  have h1 : sm (oR st) t ≤ sm (fun _ => 1) t := sm_mono (fun s _ => by unfold oR; split <;> omega)
  have h2 : sm (oB st) t ≤ sm (fun _ => 1) t := sm_mono (fun s _ => by unfold oB; split <;> (try split) <;> omega)
  rw [e3] at h1 h2
  omega
end SOUND
