/-! STEPS, TURNS, TICKS. -/
section TICK
variable {n wc ck e p w : Nat} {g g' : gSt}
/-- work: the worker is told, the task has run for one tick more -/
theorem work_ok {x : Int32} (h : J n wc ck 1 g) (hp : p < n) (hw1 : w < 5) : J n wc ck 1 (f_X1_work g 30 (nI w) (43 + p) x).2 ∧ Fr g (f_X1_work g 30 (nI w) (43 + p) x).2 ∧ (∀ t, t < 24 → ∀ b, b ≠ 8 → b ≠ 9 → (f_X1_work g 30 (nI w) (43 + p) x).2 (43 + t) b = g (43 + t) b) ∧ Td w 0 g (f_X1_work g 30 (nI w) (43 + p) x).2 := by
  have hn : n ≤ 24 := h.1.1.1
  obtain ⟨g2, e2⟩ : ∃ g2, g2 = gsu g (67 + 6 * w) 2 (g (67 + 6 * w) 2 + 1) := ⟨_, rfl⟩
  have j2 : J n wc ck 1 g2 := by rw [e2]; exact J_ir h (by unfold JR; omega) (RS_w w)
  have f2 : Fr g g2 := by rw [e2]; exact Fr_su (Fr_rf g) (by unfold Wr; omega)
  have d2 : Td w 0 g g2 := by rw [e2]; exact Td_inc (by omega) rfl
  have t2 : ∀ a b, a ≠ 67 + 6 * w → g2 a b = g a b := fun a b ha => by rw [e2]; exact su_ni ha
  obtain ⟨g3, e3⟩ : ∃ g3, g3 = f_X5_noteRan g2 (67 + 6 * w) (nI ck) (nI p) := ⟨_, rfl⟩
  obtain ⟨j3, f3, t3⟩ := note_ok (v := nI p) j2 hw1 rfl
  rw [← e3] at j3 f3 t3
  have j4 : ∀ v v', J n wc ck 1 (gsu (gsu g3 (43 + p) 9 v) (43 + p) 8 v') := fun v v' => J_ir (J_ir j3 (by unfold JR; omega) (RS_t (by omega))) (by unfold JR; omega) (RS_t (by omega))
  have f4 : ∀ v v', Fr g (gsu (gsu g3 (43 + p) 9 v) (43 + p) 8 v') := fun v v' => Fr_su (Fr_su (Fr_tr f2 f3) (Or.inl (Wr0_t (by omega) (by omega) (by omega)))) (Or.inl (Wr0_t (by omega) (by omega) (by omega)))
  have t4 : ∀ v v' t, t < 24 → ∀ b, b ≠ 8 → b ≠ 9 → gsu (gsu g3 (43 + p) 9 v) (43 + p) 8 v' (43 + t) b = g (43 + t) b := fun v v' t ht b h8 h9 => by
    rw [su_nk h8, su_nk h9, t3 _ _ (by omega)]; exact t2 _ _ (by omega)
  have d4 : ∀ v v', Td w 0 g (gsu (gsu g3 (43 + p) 9 v) (43 + p) 8 v') := fun v v' => by
    have q : ∀ a b, 67 ≤ a → a ≠ 72 + 6 * w → gsu (gsu g3 (43 + p) 9 v) (43 + p) 8 v' a b = g2 a b := fun a b ha hc => by rw [su_ni (by omega), su_ni (by omega)]; exact t3 a b hc
    refine ⟨fun u hu hne b b1 b2 => by rw [q _ _ (by omega) (by omega)]; exact d2.1 u hu hne b b1 b2, ?_⟩
    rcases d2.2 with r | ⟨r0, c, c1, c2, r1, r2⟩
    · exact Or.inl (fun b b1 b2 => by rw [q _ _ (by omega) (by omega)]; exact r b b1 b2)
    · exact Or.inr ⟨r0, c, c1, c2, by rw [q _ _ (by omega) (by omega)]; exact r1, fun b b1 b2 hb => by rw [q _ _ (by omega) (by omega)]; exact r2 b b1 b2 hb⟩
  have q11 : g2 30 11 = nI ck := (t2 _ _ (by omega)).trans h.1.2.1.2.2
  have qn : g2 (43 + p) 0 = nI p := (t2 _ _ (by omega)).trans (h.1.2.2.1 p (by omega))
  have ee : f_X1_work g 30 (nI w) (43 + p) x = if gsu (gsu g3 (43 + p) 9 (g3 (43 + p) 9 + 1)) (43 + p) 8 (gsu g3 (43 + p) 9 (g3 (43 + p) 9 + 1) (43 + p) 8 + 1) (43 + p) 8 < x then ((0 : Int32), gsu (gsu g3 (43 + p) 9 (g3 (43 + p) 9 + 1)) (43 + p) 8 (gsu g3 (43 + p) 9 (g3 (43 + p) 9 + 1) (43 + p) 8 + 1)) else ((1 : Int32), gsu (gsu g3 (43 + p) 9 (g3 (43 + p) 9 + 1)) (43 + p) 8 (gsu g3 (43 + p) 9 (g3 (43 + p) 9 + 1) (43 + p) 8 + 1)) := by
    rw [e3, ← q11, ← qn, e2, ← wk_n hw1]
    rfl
  rw [ee]
  split
  · exact ⟨j4 _ _, f4 _ _, t4 _ _, d4 _ _⟩
  · exact ⟨j4 _ _, f4 _ _, t4 _ _, d4 _ _⟩
/-- advance: behind the step; DONE at the end of the script -/
theorem adv_ok {x : Int32} (h : J n wc ck 1 g) (hp : p < n) (hs : g (43 + p) 2 < 4) : J n wc ck 1 (f_X1_advance g 30 (43 + p) x) ∧ Fr0 g (f_X1_advance g 30 (43 + p) x) ∧ Ch n (fun t => t = p) g (f_X1_advance g 30 (43 + p) x) := by
  have hn : n ≤ 24 := h.1.1.1
  have j2 : ∀ v v', J n wc ck 1 (gsu (gsu g (43 + p) 3 v) (43 + p) 8 v') := fun v v' => J_ir (J_ir h (by unfold JR; omega) (RS_t (by omega))) (by unfold JR; omega) (RS_t (by omega))
  have f2 : ∀ v v', Fr0 g (gsu (gsu g (43 + p) 3 v) (43 + p) 8 v') := fun v v' => Fr0_su (Fr0_su (Fr0_rf g) (Wr0_t (by omega) (by omega) (by omega))) (Wr0_t (by omega) (by omega) (by omega))
  have t2 : ∀ v v' t b, b ≠ 3 → b ≠ 8 → gsu (gsu g (43 + p) 3 v) (43 + p) 8 v' (43 + t) b = g (43 + t) b := fun v v' t b h3 h8 => by rw [su_nk h8, su_nk h3]
  have c2 : ∀ v v', Ch n (fun t => t = p) g (gsu (gsu g (43 + p) 3 v) (43 + p) 8 v') := fun v v' => Ch_of (fun t _ _ => t2 _ _ _ _ (by omega) (by omega)) (fun t _ _ => t2 _ _ _ _ (by omega) (by omega))
  unfold f_X1_advance
  generalize (if x < g (43 + p) 3 + 1 then x else g (43 + p) 3 + 1) = v
  show J n wc ck 1 (if gsu (gsu g (43 + p) 3 v) (43 + p) 8 0 (43 + p) 3 = x then f_X1_end (gsu (gsu g (43 + p) 3 v) (43 + p) 8 0) 30 (43 + p) 4 else gsu (gsu g (43 + p) 3 v) (43 + p) 8 0) ∧ Fr0 g (if gsu (gsu g (43 + p) 3 v) (43 + p) 8 0 (43 + p) 3 = x then f_X1_end (gsu (gsu g (43 + p) 3 v) (43 + p) 8 0) 30 (43 + p) 4 else gsu (gsu g (43 + p) 3 v) (43 + p) 8 0) ∧ Ch n (fun t => t = p) g (if gsu (gsu g (43 + p) 3 v) (43 + p) 8 0 (43 + p) 3 = x then f_X1_end (gsu (gsu g (43 + p) 3 v) (43 + p) 8 0) 30 (43 + p) 4 else gsu (gsu g (43 + p) 3 v) (43 + p) 8 0)
  split
  · obtain ⟨w1, w2, -, w4, -, -⟩ := end_ok (sq := 4) (j2 v 0) hp (by rw [t2 _ _ _ _ (by omega) (by omega)]; exact hs) (Or.inl ⟨Or.inl rfl, rfl⟩)
    exact ⟨w1, Fr0_tr (f2 _ _) w2, Ch_tr (c2 _ _) w4⟩
  · exact ⟨j2 _ _, f2 _ _, c2 _ _⟩
/-- a new task: in its cell what begin writes, in one row its number -/
theorem J_new (h : J n wc ck e g) (hn1 : n < 24) (h0 : ∀ a b, JR a b → ¬ a = 43 + n → ¬ (a = 30 ∧ b = 3) → ¬ (43 ≤ a ∧ a < 67 ∧ b = 6) → g' a b = g a b) (h3 : g' 30 3 = nI (n + 1)) (hnum : g' (43 + n) 0 = nI n) (h2 : g' (43 + n) 2 = 0) (h7 : g' (43 + n) 7 = -1) (h4 : g' (43 + n) 4 = 0) (h6 : g' (43 + n) 6 = 0) (hpar : g' (43 + n) 5 = -1 ∨ ∃ r, r < n ∧ g' (43 + n) 5 = nI r) (hc : ∀ s, s < n → ∀ k, k < 24 → (bt (g' (43 + s) 6) k = true ↔ bt (g (43 + s) 6) k = true ∨ (k = n ∧ g' (43 + n) 5 = nI s))) (hk : Rk (n + 1) wc g') (ho : ∀ s, s < n → Rn wc g' s = Rn wc g s ∧ Sn wc g' s = Sn wc g s) (hR : Rn wc g' n = 1) (hS : Sn wc g' n = 0) : J (n + 1) wc ck e g' := by
  obtain ⟨hJ, -, hT⟩ := h
  obtain ⟨b1, ⟨b2, b3, b4⟩, b5, b6⟩ := hJ
  refine ⟨⟨⟨by omega, b1.2⟩, ⟨h3, ?_, ?_⟩, fun t ht => ?_, ?_⟩, hk, fun t ht => ?_⟩
  · rw [h0 30 6 (Or.inl (by omega)) (by omega) (by omega) (by omega)]; exact b3
  · rw [h0 30 11 (Or.inl (by omega)) (by omega) (by omega) (by omega)]; exact b4
  · by_cases c : t = n
    · rw [c]; exact hnum
    · rw [h0 _ _ (JR_t ht (by omega)) (by omega) (by omega) (by omega)]; exact b5 t ht
  · rw [h0 32 2 (Or.inr (Or.inl (by omega))) (by omega) (by omega) (by omega)]; exact b6
  · by_cases c : t = n
    · subst c
      refine ⟨?_, ?_, ⟨?_, fun k _ q => ?_⟩, ?_, ?_⟩
      · unfold TS; rw [h2, h7]; exact ⟨fun _ => rfl, fun q => absurd st_lt0 q⟩
      · unfold TV; rw [h4]; decide
      · rcases hpar with q | ⟨r, hr, q⟩
        · exact Or.inl q
        · exact Or.inr ⟨r, hr, q, fun _ => (hc r hr t (by omega)).mpr (Or.inr ⟨rfl, q⟩)⟩
      · rw [h6, b_0] at q; exact absurd q (by decide)
      · unfold TB; rw [h2]; exact fun q => absurd q (by decide)
      · unfold PLt; rw [h2, hR, hS, if_pos rfl]; exact ⟨rfl, by omega, fun q => absurd q (by omega), fun q => absurd q (by decide)⟩
    · have ht : t < n := by omega
      have ee : ∀ t, t < n → ∀ k, (k = 0 ∨ k = 2 ∨ k = 4 ∨ k = 5 ∨ k = 7 ∨ k = 10) → g' (43 + t) k = g (43 + t) k := fun t ht k hk => h0 _ _ (JR_t (by omega) (by omega)) (by omega) (by omega) (by omega)
      obtain ⟨a1, a2, a3, a4, a5⟩ := hT t ht
      refine ⟨?_, ?_, ⟨?_, fun k hk1 q => ?_⟩, ?_, ?_⟩
      · unfold TS; rw [ee t ht 2 (by omega), ee t ht 7 (by omega)]; exact a1
      · unfold TV; rw [ee t ht 4 (by omega)]; exact a2
      · rw [ee t ht 5 (by omega), ee t ht 2 (by omega)]
        rcases a3.1 with q | ⟨r, hr, q, hq⟩
        · exact Or.inl q
        · exact Or.inr ⟨r, hr, q, fun hs => (hc r (by omega) t (by omega)).mpr (Or.inl (hq hs))⟩
      · rcases (hc t ht k hk1).mp q with q | ⟨q1, q2⟩
        · obtain ⟨d1, d2⟩ := a3.2 k hk1 q
          exact ⟨by omega, by rw [ee k d1 5 (by omega)]; exact d2⟩
        · rw [q1]; exact ⟨by omega, q2⟩
      · unfold TB; rw [ee t ht 2 (by omega), ee t ht 10 (by omega)]; exact a4
      · unfold PLt; rw [ee t ht 2 (by omega), (ho t ht).1, (ho t ht).2]; exact a5
/-- what newTask leaves -/
theorem new_eq {a b : Int32} (h : J n wc ck e g) (hn1 : n < 24) : f_X1_newTask g 30 a b = (43 + n, f_begin (gsu g 30 3 (nI (n + 1))) (43 + n) a b) := by
  unfold f_X1_newTask
  rw [h.1.2.1.1, tk_n hn1, ← nI_1 n]
theorem beg_fr {i : Nat} {a b : Int32} (x k : Nat) (h : x ≠ i ∨ k = 0 ∨ 10 < k) : f_begin g i a b x k = g x k := by
  unfold f_begin
  rw [su_ne (by omega), su_ne (by omega), su_ne (by omega), su_ne (by omega), su_ne (by omega), su_ne (by omega), su_ne (by omega), su_ne (by omega), su_ne (by omega), su_ne (by omega)]
theorem beg_at {i : Nat} {a b : Int32} : f_begin g i a b i 2 = 0 ∧ f_begin g i a b i 4 = 0 ∧ f_begin g i a b i 5 = b ∧ f_begin g i a b i 6 = 0 ∧ f_begin g i a b i 7 = -1 := by
  unfold f_begin
  refine ⟨?_, ?_, ?_, ?_, ?_⟩ <;> simp [gsu_eq]
/-- newTask, perhaps a child, and its number at the end of a row -/
theorem born {a b : Int32} {j : Nat} {g1 : gSt} (h : J n wc ck e g) (hn1 : n < 24) (hj : j ≤ wc) (hb : b = -1 ∨ ∃ r, r < n ∧ b = nI r) (h1 : ∀ x k, ¬ (43 ≤ x ∧ x < 43 + n ∧ k = 6) → g1 x k = f_begin (gsu g 30 3 (nI (n + 1))) (43 + n) a b x k) (hc : ∀ s, s < n → ∀ k, k < 24 → (bt (g1 (43 + s) 6) k = true ↔ bt (g (43 + s) 6) k = true ∨ (k = n ∧ b = nI s))) : J (n + 1) wc ck e (f_append g1 (rc j) (nI n)) ∧ Fr0 g (f_append g1 (rc j) (nI n)) ∧ Ch n (fun _ => False) g (f_append g1 (rc j) (nI n)) := by
  have hn : n ≤ 24 := h.1.1.1
  have hw : wc ≤ 5 := h.1.1.2.2.1
  have q1 : ∀ x k, x ≠ 43 + n → ¬ (x = 30 ∧ k = 3) → ¬ (43 ≤ x ∧ x < 43 + n ∧ k = 6) → g1 x k = g x k := fun x k ha hb1 hc1 => by
    rw [h1 x k hc1, beg_fr x k (Or.inl ha), su_ne hb1]
  have hr : RE wc g g1 := by
    refine ⟨fun i hi => ⟨q1 _ _ ?_ ?_ ?_, fun k => q1 _ _ ?_ ?_ ?_⟩, fun i hi => ⟨q1 _ _ ?_ ?_ ?_, fun k => q1 _ _ ?_ ?_ ?_⟩⟩ <;> first | (unfold rc; split <;> omega) | (unfold sc; omega)
  have hk := RE_Rk hr h.2.1
  obtain ⟨z1, z2⟩ := Rn_out hk hn (t := n) (by omega) (by omega)
  have hk1 : Rk (n + 1) wc g1 := Rk_up hk (by omega)
  have hl : (rl g1 (rc j)).length < 24 := room_r hk1 (by omega) hj (t := n) (by omega) (by have := cnt_Rn (g := g1) (t := n) hj; omega) (fun s hs => by
    have q := cnt_Rn (g := g1) (t := s) hj
    by_cases c : s = n
    · rw [c] at q; rw [c]; omega
    · rw [RE_Rn hr, (h.2.2 s (by omega)).2.2.2.2.1] at q
      split at q <;> omega)
  have ef : ∀ x k, ¬ RS x → f_append g1 (rc j) (nI n) x k = g1 x k := fun x k hx => RF_ap (RS_r (by omega)) (RS_r1 (by omega)) x k hx
  have eb : ∀ k, f_append g1 (rc j) (nI n) (43 + n) k = f_begin (gsu g 30 3 (nI (n + 1))) (43 + n) a b (43 + n) k := fun k => by
    rw [ef _ _ (RS_t hn1), h1 _ _ (by omega)]
  obtain ⟨c2, c4, c5, c6, c7⟩ := beg_at (g := gsu g 30 3 (nI (n + 1))) (i := 43 + n) (a := a) (b := b)
  have F1 : Fr0 g g1 := fun x k hw0 => by
    unfold Wr0 at hw0
    by_cases c : x = 43 + n
    · subst c
      rw [h1 _ _ (by omega), beg_fr _ _ (by omega), su_ne (by omega)]
    · exact q1 x k c (by omega) (by omega)
  refine ⟨?_, Fr0_ap F1 (Wr0_r (by omega)) (fun _ q => Wr0_r1 (by omega) q), Ch_of (fun t ht _ => ?_) (fun t ht _ => ?_)⟩
  · refine J_new h hn1 (fun x k hx h43 h303 h6 => ?_) ?_ ?_ ?_ ?_ ?_ ?_ ?_ ?_ (Rk_apr hk1 hl (by omega)) (fun s hs => ?_) ?_ ?_
    · rw [ef x k (by unfold JR at hx; unfold RS; omega)]; exact q1 x k h43 h303 (by omega)
    · rw [ef _ _ RS_30, h1 _ _ (by omega), beg_fr _ _ (by omega), su_at]
    · rw [eb, beg_fr _ _ (by omega), su_ne (by omega)]; exact h.1.2.2.1 n hn1
    · rw [eb]; exact c2
    · rw [eb]; exact c7
    · rw [eb]; exact c4
    · rw [eb]; exact c6
    · rw [eb, c5]; exact hb
    · intro s hs k hk2
      rw [ef _ _ (RS_t (by omega)), eb, c5]
      exact hc s hs k hk2
    · rw [Rn_apr hk1 hj hl (by omega) (by omega), Sn_apr, if_neg (by omega), RE_Rn hr, RE_Sn hr]; exact ⟨rfl, rfl⟩
    · rw [Rn_apr hk1 hj hl (by omega) (by omega), if_pos rfl, z1]
    · rw [Sn_apr]; exact z2
  · rw [ef _ _ (RS_t (by omega))]; exact q1 _ _ (by omega) (by omega) (by omega)
  · rw [ef _ _ (RS_t (by omega))]; exact q1 _ _ (by omega) (by omega) (by omega)
theorem ask_ok {a : Int32} (h : J n wc ck e g) (hn1 : n < 24) : (f_X1_askFor g 30 a).1 = nI n ∧ J (n + 1) wc ck e (f_X1_askFor g 30 a).2 ∧ Fr0 g (f_X1_askFor g 30 a).2 ∧ Ch n (fun _ => False) g (f_X1_askFor g 30 a).2 := by
  have hb1 : f_begin (gsu g 30 3 (nI (n + 1))) (43 + n) a (-1) (43 + n) 0 = nI n := by rw [beg_fr _ _ (by omega), su_ne (by omega)]; exact h.1.2.2.1 n hn1
  have e1 : f_X1_askFor g 30 a = (f_append (f_begin (gsu g 30 3 (nI (n + 1))) (43 + n) a (-1)) (30 + 10) (f_begin (gsu g 30 3 (nI (n + 1))) (43 + n) a (-1) (43 + n) 0) (43 + n) 0, f_append (f_begin (gsu g 30 3 (nI (n + 1))) (43 + n) a (-1)) (30 + 10) (f_begin (gsu g 30 3 (nI (n + 1))) (43 + n) a (-1) (43 + n) 0)) := by
    unfold f_X1_askFor
    rw [new_eq h hn1]
  rw [e1, hb1]
  have e2 : 30 + 10 = rc 0 := rfl
  rw [e2]
  refine ⟨?_, born (j := 0) (a := a) (b := -1) h hn1 (by omega) (Or.inl rfl) (fun _ _ _ => rfl) (fun s hs k hk => ?_)⟩
  · show f_append _ (rc 0) (nI n) (43 + n) 0 = nI n
    rw [RF_ap (RS_r (by omega)) (RS_r1 (by omega)) _ _ (RS_t hn1)]
    exact hb1
  · rw [beg_fr _ _ (by omega), su_ne (by omega)]
    refine ⟨Or.inl, fun q => q.elim id (fun q => ?_)⟩
    have h1 := nI_pos (n := s) (by omega)
    rw [← q.2] at h1
    exact absurd (by decide) h1
theorem fork_ok {b : Int32} (h : J n wc ck e g) (hp : p < n) (hw1 : w < wc) : ∃ n', n ≤ n' ∧ J n' wc ck e (f_X1_fork g 30 (nI w) (43 + p) b) ∧ Fr0 g (f_X1_fork g 30 (nI w) (43 + p) b) ∧ Ch n (fun _ => False) g (f_X1_fork g 30 (nI w) (43 + p) b) := by
  have hn : n ≤ 24 := h.1.1.1
  have hw : wc ≤ 5 := h.1.1.2.2.1
  by_cases c : n < 24
  · have e1 : f_X1_fork g 30 (nI w) (43 + p) b = f_append (gsu (f_begin (gsu g 30 3 (nI (n + 1))) (43 + n) b (nI p)) (43 + p) 6 (f_begin (gsu g 30 3 (nI (n + 1))) (43 + n) b (nI p) (43 + p) 6 ||| ((1 : Int32) <<< (f_begin (gsu g 30 3 (nI (n + 1))) (43 + n) b (nI p) (43 + n) 0 &&& 31)))) (f_row 30 (nI w)) (gsu (f_begin (gsu g 30 3 (nI (n + 1))) (43 + n) b (nI p)) (43 + p) 6 (f_begin (gsu g 30 3 (nI (n + 1))) (43 + n) b (nI p) (43 + p) 6 ||| ((1 : Int32) <<< (f_begin (gsu g 30 3 (nI (n + 1))) (43 + n) b (nI p) (43 + n) 0 &&& 31))) (43 + n) 0) := by
      unfold f_X1_fork
      rw [h.1.2.1.1, if_pos (show nI n < 24 from nI_lt (b := 24) c (by omega)), h.1.2.2.1 p (by omega), new_eq h c]
    have hb1 : f_begin (gsu g 30 3 (nI (n + 1))) (43 + n) b (nI p) (43 + n) 0 = nI n := by rw [beg_fr _ _ (by omega), su_ne (by omega)]; exact h.1.2.2.1 n c
    have hb6 : ∀ s, s < n → f_begin (gsu g 30 3 (nI (n + 1))) (43 + n) b (nI p) (43 + s) 6 = g (43 + s) 6 := fun s hs => by rw [beg_fr _ _ (by omega), su_ne (by omega)]
    rw [e1, hb1, su_ne (by omega), hb1, row_n (by omega)]
    refine ⟨n + 1, by omega, born (j := w + 1) (a := b) (b := nI p) h c (by omega) (Or.inr ⟨p, hp, rfl⟩) (fun x k hx => su_ne (by omega)) (fun s hs k hk => ?_)⟩
    by_cases c2 : s = p
    · subst c2
      rw [su_at, b_or, hb6 s hs, b_one' c hk]
      simp
    · rw [su_ni (by omega), hb6 s hs]
      refine ⟨Or.inl, fun q => q.elim id (fun q => ?_)⟩
      exact absurd ((nI_eq (by omega) (by omega)).mp q.2).symm c2
  · have e1 : f_X1_fork g 30 (nI w) (43 + p) b = g := by
      unfold f_X1_fork
      rw [h.1.2.1.1, if_neg (show ¬ nI n < 24 from nI_nlt (b := 24) (by omega) (by omega))]
    rw [e1]
    exact ⟨n, Nat.le_refl _, h, Fr0_rf g, Ch_rf _ _ _⟩
/-- behind a step -/
theorem go202 {g0 : gSt} {n0 : Nat} {co nn be r0 : Int32} {sc0 : Nat} (hn0 : n0 ≤ n) (h : J n wc ck 1 g) (hp : p < n0) (hw1 : w < 5) (hf : Fr g0 g) (hm : Ch n0 (fun t => t = p) g0 g) (hd : Td w r0 g0 g) (hr : r0 = 0 → co = 0) (hs : be = 0 ∨ g (43 + p) 2 < 4) (hs0 : g0 (43 + p) 2 < 4) : Ac n0 wc ck w g0 (f_X1_goOn_J202 30 (nI w) (43 + p) g co nn be sc0) := by
  have key : ∀ g', J n wc ck 1 g' → Fr g0 g' → Ch n0 (fun t => t = p) g0 g' → Td w r0 g0 g' → Ac n0 wc ck w g0 (if co = 0 then ((0 : Int32), g') else ((1 : Int32), g')) := fun g' q1 q2 q3 q4 => by
    have hM : Mo n0 g0 g' := Mo_Ch q3 (fun t _ ht => by have ht : t = p := ht; rw [ht]; exact hs0)
    split
    · exact ⟨n, hn0, q1, q2, hM, Td_r hw1 q4 (Fr0_rf _) (fun _ => rfl)⟩
    · rename_i c
      exact ⟨n, hn0, q1, q2, hM, Td_r hw1 q4 (Fr0_rf _) (fun q => absurd (hr q) c)⟩
  unfold f_X1_goOn_J202
  split
  · exact key g h hf hm hd
  · rename_i c
    obtain ⟨a1, a2, a3⟩ := adv_ok (x := g sc0 2) h (by omega) (hs.resolve_left c)
    exact key _ a1 (Fr_tr hf (Fr_0 a2)) (Ch_tr hm (Ch_mono hn0 a3 (fun _ q => q))) (Td_r hw1 hd a2 id)
theorem goOn_ok (h : J n wc ck 1 g) (hp : p < n) (hs : g (43 + p) 2 = 1) (hw1 : w < wc) (hm : nI p ∈ rl g (sc w)) : Ac n wc ck w g (f_X1_goOn g 30 (nI w) (43 + p)) := by
  have hn : n ≤ 24 := h.1.1.1
  have hw : wc ≤ 5 := h.1.1.2.2.1
  have hs4 : g (43 + p) 2 < 4 := by rw [hs]; decide
  have go35 : ∀ co sc0, Ac n wc ck w g (f_X1_goOn_J35 30 (nI w) (43 + p) g co sc0) := by
    intro co sc0
    unfold f_X1_goOn_J35
    generalize f_numberAt g sc0 (g (43 + p) 3) = x5
    dsimp only
    have jj : ∀ b, b ≠ 0 → Ac n wc ck w g (f_X1_goOn_J202 30 (nI w) (43 + p) (f_X1_join g 30 (nI w) (43 + p) b).2 b x5 (f_X1_join g 30 (nI w) (43 + p) b).1 sc0) := fun b c => by
      obtain ⟨a1, a2, a3, a4⟩ := join_ok (b := b) h hp hs hw1 hm
      exact go202 (r0 := 1) (Nat.le_refl _) a1 hp (by omega) (Fr_0 a2) a3 (Td_0 (by omega) a2) (fun q => absurd q (by decide)) (a4.imp id (fun q => by rw [q]; decide)) hs4
    by_cases c0 : co = 0
    · rw [if_pos c0]
      obtain ⟨a1, a2, a3, a4⟩ := work_ok (x := x5) h hp (w := w) (by omega)
      exact go202 (r0 := 0) (Nat.le_refl _) a1 hp (by omega) a2 (Ch_of (fun t ht _ => a3 t (by omega) _ (by omega) (by omega)) (fun t ht _ => a3 t (by omega) _ (by omega) (by omega))) a4 (fun _ => c0) (Or.inr (by rw [a3 p (by omega) _ (by omega) (by omega)]; exact hs4)) hs4
    rw [if_neg c0]
    by_cases c1 : co = 1
    · rw [if_pos c1]
      obtain ⟨n', a0, a1, a2, a3⟩ := fork_ok (b := x5) h hp hw1
      exact go202 (r0 := 1) a0 a1 hp (by omega) (Fr_0 a2) (Ch_mono (Nat.le_refl _) a3 (fun _ q => q.elim)) (Td_0 (by omega) a2) (fun q => absurd q (by decide)) (Or.inr (by rw [Ch_1 a3 hp (fun q => q) hs]; decide)) hs4
    rw [if_neg c1]
    by_cases c2 : co = 2
    · rw [if_pos c2]
      exact jj co c0
    rw [if_neg c2]
    by_cases c3 : co = 3
    · rw [if_pos c3]
      exact jj co c0
    rw [if_neg c3]
    by_cases c4 : co = 4
    · rw [if_pos c4]
      exact jj co c0
    rw [if_neg c4]
    by_cases c5 : co = 5
    · rw [if_pos c5]
      obtain ⟨a1, a2, a3⟩ := addv_ok (x := x5) h hp
      exact go202 (r0 := 1) (Nat.le_refl _) a1 hp (by omega) (Fr_0 a2) (Ch_of (fun t ht _ => a3 _ _ (by omega)) (fun t ht _ => a3 _ _ (by omega))) (Td_0 (by omega) a2) (fun q => absurd q (by decide)) (Or.inr (by rw [a3 _ _ (by omega)]; exact hs4)) hs4
    rw [if_neg c5]
    by_cases c6 : co = 6
    · rw [if_pos c6]
      obtain ⟨a1, a2, -, a4, -, -⟩ := end_ok (sq := 5) h hp hs4 (Or.inl ⟨Or.inr rfl, rfl⟩)
      exact go202 (r0 := 1) (Nat.le_refl _) a1 hp (by omega) (Fr_0 a2) a4 (Td_0 (by omega) a2) (fun q => absurd q (by decide)) (Or.inl rfl) hs4
    rw [if_neg c6]
    by_cases c7 : co = 7
    · rw [if_pos c7]
      obtain ⟨c', -, -, a1, a2, a3⟩ := cb_ok h hp
      have a5 : (f_X1_cancelBelow g 30 (43 + p)).2 (43 + p) 2 = 1 := Ch_1 a3 hp (fun q => by have := q.1; omega) hs
      have hM : Mo n g (f_X1_cancelBelow g 30 (43 + p)).2 := Mo_Ch a3 (fun t _ q => q.2.2)
      generalize (f_X1_cancelBelow g 30 (43 + p)).2 = g9 at a1 a2 a5 hM
      have key := go202 (g := g9) (g0 := g9) (n0 := n) (co := co) (nn := x5) (be := 1) (r0 := 1) (sc0 := sc0) (Nat.le_refl _) a1 hp (w := w) (by omega) (Fr_rf _) (Ch_rf _ _ _) (Td_0 (by omega) (Fr0_rf _)) (fun q => absurd q (by decide)) (Or.inr (by rw [a5]; decide)) (by rw [a5]; decide)
      obtain ⟨n', k0, k1, k2, k3, k4⟩ := key
      exact ⟨n', k0, k1, Fr_tr (Fr_0 a2) k2, Mo_tr (Nat.le_refl _) hM k3, Td_l (by omega) a2 k4⟩
    rw [if_neg c7]
    by_cases c8 : co = 8
    · rw [if_pos c8]
      obtain ⟨a1, a2, a3, a4⟩ := await_ok (b := x5) h hp hs hw1 hm
      exact go202 (r0 := 1) (Nat.le_refl _) a1 hp (by omega) (Fr_0 a2) a3 (Td_0 (by omega) a2) (fun q => absurd q (by decide)) (a4.imp id (fun q => by rw [q]; decide)) hs4
    rw [if_neg c8]
    by_cases c9 : co = 9
    · rw [if_pos c9]
      obtain ⟨a1, a2, a3⟩ := kp_ok (a := x5) (b := g (43 + p) 4) h
      exact go202 (r0 := 1) (Nat.le_refl _) a1 hp (by omega) (Fr_0 a2) (Ch_mono (Nat.le_refl _) a3 (fun _ q => q.elim)) (Td_0 (by omega) a2) (fun q => absurd q (by decide)) (Or.inr (by rw [Ch_1 a3 hp (fun q => q) hs]; decide)) hs4
    rw [if_neg c9]
    exact go202 (r0 := 1) (Nat.le_refl _) h hp (by omega) (Fr_rf _) (Ch_rf _ _ _) (Td_0 (by omega) (Fr0_rf _)) (fun q => absurd q (by decide)) (Or.inr hs4) hs4
  unfold f_X1_goOn
  show Ac n wc ck w g (if g (f_sc (g (43 + p) 1)) 2 ≤ g (43 + p) 3 then f_X1_goOn_J35 30 (nI w) (43 + p) g (-1) (f_sc (g (43 + p) 1)) else f_X1_goOn_J35 30 (nI w) (43 + p) g (f_codeAt g (f_sc (g (43 + p) 1)) (g (43 + p) 3)) (f_sc (g (43 + p) 1)))
  split
  · exact go35 _ _
  · exact go35 _ _
theorem act_ok (h : J n wc ck 1 g) (hw1 : w < wc) : Ac n wc ck w g (f_X1_act g 30 (nI w)) := by
  have hw : wc ≤ 5 := h.1.1.2.2.1
  have e3 : 67 + 6 * w + 3 = sc w := by unfold sc; omega
  unfold f_X1_act
  rw [wk_n (by omega)]
  show Ac n wc ck w g (if f_X1_wantsTask g 30 (67 + 6 * w) = 0 then (if f_isB g (f_tk 30 (f_last g (67 + 6 * w + 3))) = 0 then ((f_X1_goOn g 30 (nI w) (f_tk 30 (f_last g (67 + 6 * w + 3)))).1, (f_X1_goOn g 30 (nI w) (f_tk 30 (f_last g (67 + 6 * w + 3)))).2) else ((0 : Int32), gsu g (67 + 6 * w) 3 (g (67 + 6 * w) 3 + 1))) else ((f_X1_take g 30 (nI w) (67 + 6 * w)).1, (f_X1_take g 30 (nI w) (67 + 6 * w)).2))
  rw [e3]
  split
  · rename_i c
    have hne : rl g (sc w) ≠ [] := by
      intro q
      have h1 := (rok_len (h.2.1.2 w hw1).1).1
      rw [q] at h1
      unfold f_X1_wantsTask at c
      rw [e3, h1, if_pos (by decide)] at c
      exact absurd c (by decide)
    have hm := last_mem (h.2.1.2 w hw1).1 hne
    obtain ⟨p, hp, ep⟩ := (h.2.1.2 w hw1).2 _ hm
    rw [ep] at hm ⊢
    have hn : n ≤ 24 := h.1.1.1
    rw [tk_n (by omega)]
    split
    · rename_i c2
      obtain ⟨d1, d2⟩ := isB_0 c2
      have a5 := (h.2.2 p hp).2.2.2.2
      have q1 := cnt_Sn (g := g) (t := p) hw1
      have q2 := cnt_mem hm
      have hs : g (43 + p) 2 = 1 := by
        rcases a5.2.2.1 (by have := a5.2.1; omega) with q | q | q
        · exact q
        · exact absurd q d1
        · exact absurd q d2
      exact goOn_ok h hp hs hw1 hm
    · exact idle_ok h (by omega)
  · exact take_ok h hw1
/-! a tick -/
/-- what the workers are told: k of them have had their turn -/
def Tt (wc ck k : Nat) (g : gSt) : Prop := ∀ w, w < wc → ∃ a b c : Nat, g (67 + 6 * w) 2 = nI a ∧ g (67 + 6 * w) 3 = nI b ∧ g (67 + 6 * w) 4 = nI c ∧ a + b + c ≤ ck + (if w < k then 1 else 0)
theorem Tt_same {k : Nat} (h : Tt wc ck k g) (h0 : ∀ w, w < wc → ∀ b, 2 ≤ b → b ≤ 4 → g' (67 + 6 * w) b = g (67 + 6 * w) b) : Tt wc ck k g' := fun w hw => by
  obtain ⟨a, b, c, h1, h2, h3, h4⟩ := h w hw
  exact ⟨a, b, c, (h0 w hw 2 (by omega) (by omega)).trans h1, (h0 w hw 3 (by omega) (by omega)).trans h2, (h0 w hw 4 (by omega) (by omega)).trans h3, h4⟩
theorem Tt_Td {r : Int32} (hw : wc ≤ 5) (hw1 : w < wc) (h : Tt wc ck w g) (hd : Td w r g g') : Tt wc ck (w + 1) g' ∧ (r ≠ 0 → Tt wc ck w g') := by
  refine ⟨fun v hv => ?_, fun hr => Tt_same h (fun v hv b b1 b2 => ?_)⟩
  · obtain ⟨a, b, c, h1, h2, h3, h4⟩ := h v hv
    by_cases c1 : v = w
    · subst c1
      rw [if_neg (by omega)] at h4
      rw [if_pos (by omega)]
      rcases hd.2 with q | ⟨-, d, d1, d2, q1, q2⟩
      · exact ⟨a, b, c, (q 2 (by omega) (by omega)).trans h1, (q 3 (by omega) (by omega)).trans h2, (q 4 (by omega) (by omega)).trans h3, by omega⟩
      · rcases (show d = 2 ∨ d = 3 ∨ d = 4 by omega) with rfl | rfl | rfl
        · exact ⟨a + 1, b, c, by rw [q1, h1, nI_1], (q2 3 (by omega) (by omega) (by omega)).trans h2, (q2 4 (by omega) (by omega) (by omega)).trans h3, by omega⟩
        · exact ⟨a, b + 1, c, (q2 2 (by omega) (by omega) (by omega)).trans h1, by rw [q1, h2, nI_1], (q2 4 (by omega) (by omega) (by omega)).trans h3, by omega⟩
        · exact ⟨a, b, c + 1, (q2 2 (by omega) (by omega) (by omega)).trans h1, (q2 3 (by omega) (by omega) (by omega)).trans h2, by rw [q1, h3, nI_1], by omega⟩
    · have q := hd.1 v (by omega) c1
      refine ⟨a, b, c, (q 2 (by omega) (by omega)).trans h1, (q 3 (by omega) (by omega)).trans h2, (q 4 (by omega) (by omega)).trans h3, ?_⟩
      by_cases c2 : v < w
      · rw [if_pos c2] at h4; rw [if_pos (by omega)]; exact h4
      · rw [if_neg c2] at h4; rw [if_neg (by omega)]; exact h4
  · by_cases c1 : v = w
    · subst c1
      rcases hd.2 with q | ⟨q, -⟩
      · exact q b b1 b2
      · exact absurd q hr
    · exact hd.1 v (by omega) c1 b b1 b2
/-- what a tick leaves -/
def Tk (n wc ck : Nat) (g g' : gSt) : Prop := ∃ n', n ≤ n' ∧ J n' wc (ck + 1) 0 g' ∧ Tt wc (ck + 1) 0 g' ∧ Fr g g' ∧ Mo n g g'
theorem pt_L2 {g0 : gSt} {n0 : Nat} {K : gSt → Int32 → gSt} (hw : wc ≤ 5) (hw1 : w < wc) (hK : ∀ n g, n0 ≤ n → J n wc ck 1 g → Tt wc ck (w + 1) g → Fr g0 g → Mo n0 g0 g → Tk n0 wc ck g0 (K g (nI (w + 1)))) : ∀ (m n k : Nat) (g : gSt) (b : Int32), n0 ≤ n → J n wc ck 1 g → Tt wc ck (w + 1) g → (b ≠ 0 → Tt wc ck w g) → Fr g0 g → Mo n0 g0 g → k ≤ 1000000 → 1000000 < m + k → Tk n0 wc ck g0 (f_X1_passTick_L2 30 K (nI w) m g b (nI k)) := by
  intro m
  induction m with
  | zero => intro n k g b h0 h1 h2 h3 h4 h5 h6 h7; omega
  | succ m ih =>
    intro n k g b h0 h1 h2 h3 h4 h5 h6 h7
    have e1 : nI w + 1 = nI (w + 1) := nI_1 w
    have ek : nI k + 1 = nI (k + 1) := nI_1 k
    unfold f_X1_passTick_L2
    by_cases c1 : 1000000 ≤ k
    · rw [if_pos (show (1000000 : Int32) ≤ nI k from nI_le c1 (by omega))]
      show Tk n0 wc ck g0 (K g (nI w + 1))
      rw [e1]
      exact hK n g h0 h1 h2 h4 h5
    · rw [if_neg (show ¬ (1000000 : Int32) ≤ nI k from nI_ge (b := 1000000) (by omega) (by omega))]
      split
      · show Tk n0 wc ck g0 (K g (nI w + 1))
        rw [e1]
        exact hK n g h0 h1 h2 h4 h5
      · rename_i c2
        show Tk n0 wc ck g0 (f_X1_passTick_L2 30 K (nI w) m (f_X1_act g 30 (nI w)).2 (f_X1_act g 30 (nI w)).1 (nI k + 1))
        rw [ek]
        obtain ⟨n', q0, q1, q2, q3, q4⟩ := act_ok h1 hw1
        obtain ⟨r1, r2⟩ := Tt_Td hw hw1 (h3 c2) q4
        exact ih n' (k + 1) _ _ (by omega) q1 r1 r2 (Fr_tr h4 q2) (Mo_tr h0 h5 q3) (by omega) (by omega)
theorem J_e (h : J n wc ck 0 g) : J n wc ck 1 g := ⟨h.1, h.2.1, fun t ht => by
  obtain ⟨a1, a2⟩ := h.2.2 t ht
  refine ⟨⟨a1.1, fun q => ?_⟩, a2⟩
  obtain ⟨o, o1, o2, o3⟩ := a1.2 q
  exact ⟨o, o1, o2, fun q => by have := o3 q; omega⟩⟩
theorem J_clk (h : J n wc ck 1 g) (hck : ck + 1 < 1000000) : J n wc (ck + 1) 0 (gsu g 30 11 (nI (ck + 1))) := by
  have hr : RE wc g (gsu g 30 11 (nI (ck + 1))) := RE_su h.1.1.2.2.1 RE_rf RS_30
  have ee : ∀ t b, gsu g 30 11 (nI (ck + 1)) (43 + t) b = g (43 + t) b := fun t b => su_ni (by omega)
  obtain ⟨⟨⟨b1, b2, b3, b4⟩, ⟨b5, b6, b7⟩, b8, b9⟩, hk, hT⟩ := h
  refine ⟨⟨⟨b1, b2, b3, hck⟩, ⟨(su_nk (by omega)).trans b5, (su_nk (by omega)).trans b6, su_at⟩, fun t ht => (ee t 0).trans (b8 t ht), (su_ni (by omega)).trans b9⟩, RE_Rk hr hk, fun t ht => ?_⟩
  obtain ⟨a1, a2, a3, a4, a5⟩ := hT t ht
  refine ⟨?_, ?_, ?_, ?_, ?_⟩
  · unfold TS
    rw [ee, ee]
    refine ⟨a1.1, fun q => ?_⟩
    obtain ⟨o, o1, o2, o3⟩ := a1.2 q
    exact ⟨o, by omega, o2, fun q => by have := o3 q; omega⟩
  · unfold TV; rw [ee]; exact a2
  · unfold TP
    rw [ee, ee, ee]
    refine ⟨?_, fun k hk1 q => by rw [ee]; exact a3.2 k hk1 q⟩
    rcases a3.1 with q | ⟨r, hr1, q, hq⟩
    · exact Or.inl q
    · exact Or.inr ⟨r, hr1, q, fun hs => by rw [ee]; exact hq hs⟩
  · unfold TB; rw [ee, ee]; exact a4
  · unfold PLt; rw [ee, RE_Rn hr, RE_Sn hr]; exact a5
theorem pt_L1 {g0 : gSt} {n0 : Nat} (hck : ck + 1 < 1000000) : ∀ (m n k : Nat) (g : gSt), n0 ≤ n → J n wc ck 1 g → Tt wc ck k g → Fr g0 g → Mo n0 g0 g → k ≤ wc → wc < m + k → Tk n0 wc ck g0 (f_X1_passTick_L1 30 m g (nI k)) := by
  intro m
  induction m with
  | zero => intro n k g _ _ _ _ _ h1 h2; omega
  | succ m ih =>
    intro n k g h0 h1 h2 h3 h4 h5 h6
    have hw : wc ≤ 5 := h1.1.1.2.2.1
    have hn : n ≤ 24 := h1.1.1.1
    unfold f_X1_passTick_L1
    rw [h1.1.2.1.2.1]
    by_cases c1 : wc ≤ k
    · rw [if_pos (nI_le c1 (by omega)), h1.1.2.1.2.2]
      have e1 : nI ck + 1 = nI (ck + 1) := nI_1 ck
      show Tk n0 wc ck g0 (gsu g 30 11 (nI ck + 1))
      rw [e1]
      refine ⟨n, h0, J_clk h1 hck, fun w hw1 => ?_, Fr_su h3 (by unfold Wr; omega), fun t ht ho => ?_⟩
      · obtain ⟨a, b, c, q1, q2, q3, q4⟩ := h2 w hw1
        rw [if_pos (by omega)] at q4
        exact ⟨a, b, c, (su_ni (by omega)).trans q1, (su_ni (by omega)).trans q2, (su_ni (by omega)).trans q3, by rw [if_neg (by omega)]; omega⟩
      · rw [su_ni (by omega), su_ni (by omega)]; exact h4 t ht ho
    · rw [if_neg (nI_ge (by omega) (by omega)), wk_n (by omega), h1.1.2.1.2.2]
      obtain ⟨q1, q2, q3⟩ := note_ok (v := -1) h1 (w := k) (by omega) rfl
      show Tk n0 wc ck g0 (f_X1_passTick_L2 30 (f_X1_passTick_L1 30 m) (nI k) 1000001 (f_X5_noteRan g (67 + 6 * k) (nI ck) (-1)) 1 0)
      have t1 : Tt wc ck k (f_X5_noteRan g (67 + 6 * k) (nI ck) (-1)) := Tt_same h2 (fun v _ b _ _ => q3 _ _ (by omega))
      have t2 : Tt wc ck (k + 1) (f_X5_noteRan g (67 + 6 * k) (nI ck) (-1)) := fun v hv => by
        obtain ⟨a, b, c, r1, r2, r3, r4⟩ := t1 v hv
        refine ⟨a, b, c, r1, r2, r3, ?_⟩
        by_cases c2 : v < k
        · rw [if_pos c2] at r4; rw [if_pos (by omega)]; exact r4
        · rw [if_neg c2] at r4; split <;> omega
      exact pt_L2 (g0 := g0) (n0 := n0) hw (by omega) (fun n g a0 a1 a2 a3 a4 => ih n (k + 1) g a0 a1 a2 a3 a4 (by omega) (by omega)) 1000001 n 0 _ 1 h0 q1 t2 (fun _ => t1) (Fr_tr h3 q2) (fun t ht ho => by
        rw [q3 _ _ (by omega), q3 _ _ (by omega)]; exact h4 t ht ho) (by omega) (by omega)
theorem pt_ok (h : J n wc ck 0 g) (ht : Tt wc ck 0 g) (hck : ck + 1 < 1000000) : Tk n wc ck g (f_X1_passTick g 30) := by
  have hw : wc ≤ 5 := h.1.1.2.2.1
  have e0 : (0 : Int32).toInt = 0 := rfl
  unfold f_X1_passTick
  exact pt_L1 hck _ n 0 g (Nat.le_refl _) (J_e h) ht (Fr_rf g) (Mo_rf n g) (by omega) (by rw [h.1.2.1.2.1, nI_toInt (by omega)]; omega)
end TICK
