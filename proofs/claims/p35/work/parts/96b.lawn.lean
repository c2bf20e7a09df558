/-! THE LAW'S START, and its other calls. -/
def xs0 : gSt := cl_s (f_X1_clear pl_s 30)
theorem x0_a : xs0 30 3 = 0 ∧ xs0 30 6 = 1 ∧ xs0 30 9 = 0 ∧ xs0 30 11 = 0 ∧ xs0 32 2 = 0 ∧ xs0 40 1 = 0 ∧ xs0 1 2 = 0 := by decide +kernel
theorem x0_t : ∀ t, t < 24 → xs0 (43 + t) 0 = nI t := by decide +kernel
theorem x0_j : ∀ j, j < 8 → xs0 (6 + 3 * j) 2 = 0 := by decide +kernel
theorem x0_w : ∀ w, w < 5 → xs0 (67 + 6 * w) 2 = 0 ∧ xs0 (67 + 6 * w) 3 = 0 ∧ xs0 (67 + 6 * w) 4 = 0 ∧ xs0 (68 + 6 * w) 1 = 0 ∧ xs0 (70 + 6 * w) 1 = 0 := by decide +kernel
theorem x0_ci : CI xs0 := fun c k hc _ => by
  unfold xs0 cl_s
  rw [if_neg (by omega), if_neg (by omega), if_neg (by omega), if_pos (by omega), show 97 + c - 67 = 30 + c by omega]
/-- places of a worker that begin writes with 0 -/
def Wz (a b : Nat) : Prop := 67 ≤ a ∧ a < 97 ∧ (((a - 67) % 6 = 0 ∧ 2 ≤ b ∧ b ≤ 4) ∨ ((a - 67) % 6 = 1 ∧ b = 1) ∨ ((a - 67) % 6 = 3 ∧ b = 1))
def Wn (a b : Nat) : Prop := 67 ≤ a ∧ a < 97 ∧ (a - 67) % 6 = 5 ∧ b < 20
/-- workers may have begun anew -/
def Bg (s s' : gSt) : Prop := ∀ a b, s' a b = s a b ∨ (a = 30 ∧ b = 6) ∨ Wn a b ∨ (s' a b = 0 ∧ Wz a b)
theorem Bg_rf (s : gSt) : Bg s s := fun _ _ => Or.inl rfl
theorem Bg_tr {a b c : gSt} (h1 : Bg a b) (h2 : Bg b c) : Bg a c := fun x y => by
  rcases h2 x y with q | q | q | q
  · rw [q]; exact h1 x y
  · exact Or.inr (Or.inl q)
  · exact Or.inr (Or.inr (Or.inl q))
  · exact Or.inr (Or.inr (Or.inr q))
theorem Bg_z {s : gSt} {i k : Nat} (h : Wz i k) : Bg s (gsu s i k 0) := fun a b => by
  by_cases c : a = i ∧ b = k
  · obtain ⟨rfl, rfl⟩ := c; exact Or.inr (Or.inr (Or.inr ⟨su_at, h⟩))
  · exact Or.inl (su_ne c)
theorem Bg_n {s : gSt} {i k : Nat} {v : Int32} (h : Wn i k) : Bg s (gsu s i k v) := fun a b => by
  by_cases c : a = i ∧ b = k
  · obtain ⟨rfl, rfl⟩ := c; exact Or.inr (Or.inr (Or.inl h))
  · exact Or.inl (su_ne c)
theorem fill_L1 {w : Nat} {v : Int32} (hw : w < 5) : ∀ (m k : Nat) (s : gSt), k ≤ 20 → Bg s (f_J7_fill_53178_12_L1 (72 + 6 * w) v m s (nI k)) := by
  intro m
  induction m with
  | zero => intro k s _; exact Bg_rf s
  | succ m ih =>
    intro k s hk
    unfold f_J7_fill_53178_12_L1
    by_cases c : 20 ≤ k
    · rw [if_pos (show (20 : Int32) ≤ nI k from nI_le c (by omega))]
      exact Bg_rf s
    · rw [if_neg (show ¬ (20 : Int32) ≤ nI k from nI_ge (b := 20) (by omega) (by omega)), nI_clamp (by omega)]
      dsimp only
      rw [nI_1]
      exact Bg_tr (Bg_n (by unfold Wn; omega)) (ih (k + 1) _ (by omega))
theorem begin_ok {s : gSt} {w : Nat} (hw : w < 5) : Bg s (f_X5_begin s (67 + 6 * w)) := by
  unfold f_X5_begin
  dsimp only
  refine Bg_tr (Bg_z (i := 67 + 6 * w + 1) (k := 1) (by unfold Wz; omega)) (Bg_tr (Bg_z (i := 67 + 6 * w + 3) (k := 1) (by unfold Wz; omega)) (Bg_tr (Bg_z (i := 67 + 6 * w) (k := 2) (by unfold Wz; omega)) (Bg_tr (Bg_z (i := 67 + 6 * w) (k := 3) (by unfold Wz; omega)) (Bg_tr (Bg_z (i := 67 + 6 * w) (k := 4) (by unfold Wz; omega)) ?_))))
  unfold f_J7_fill_53178_12
  rw [show 67 + 6 * w + 5 = 72 + 6 * w by omega]
  exact fill_L1 hw 21 0 _ (by omega)
theorem cwc_L1 {wc : Nat} (hw : wc ≤ 5) : ∀ (m k : Nat) (s : gSt), k ≤ wc → wc < m + k → Bg s (f_X1_changeWorkerCount_L1 30 (nI wc) m s (nI k)) ∧ f_X1_changeWorkerCount_L1 30 (nI wc) m s (nI k) 30 6 = nI wc := by
  intro m
  induction m with
  | zero =>
    intro k s hk hm
    exact absurd hm (by omega)
  | succ m ih =>
    intro k s hk hm
    unfold f_X1_changeWorkerCount_L1
    by_cases c : wc ≤ k
    · rw [if_pos (nI_le c (by omega))]
      dsimp only
      refine ⟨fun a b => ?_, su_at⟩
      by_cases c2 : a = 30 ∧ b = 6
      · exact Or.inr (Or.inl c2)
      · exact Or.inl (su_ne c2)
    · rw [if_neg (nI_ge (by omega) (by omega))]
      dsimp only
      rw [nI_1, wk_n (by omega)]
      obtain ⟨q1, q2⟩ := ih (k + 1) (f_X5_begin s (67 + 6 * k)) (by omega) (by omega)
      exact ⟨Bg_tr (begin_ok (by omega)) q1, q2⟩
theorem nwf_0 {s : gSt} {w : Nat} (hw : 1 ≤ w) (hw5 : w ≤ 5) (h6 : s 30 6 = 1) (h3 : s 30 3 = 0) : f_X1_needsWorkerFrom s 30 (nI w) = 0 := by
  unfold f_X1_needsWorkerFrom
  rw [h6]
  have e : ∀ w, w < 6 → 1 ≤ w → ((1 : Int32).toInt - (nI w).toInt).toNat + 1 = 1 := by decide +kernel
  rw [e w (by omega) hw]
  show (if s 30 6 ≤ nI w then f_X1_needsWorkerFrom_L2 30 (nI w) (((s 30 3).toInt - (0 : Int32).toInt).toNat + 1) s 0 else _) = 0
  rw [h6, if_pos (show (1 : Int32) ≤ nI w from nI_le (a := 1) hw (by omega)), h3]
  show f_X1_needsWorkerFrom_L2 30 (nI w) 1 s 0 = 0
  show (if s 30 3 ≤ 0 then (0 : Int32) else _) = 0
  rw [h3, if_pos (by decide)]
theorem setW_ok {s : gSt} {w : Nat} (hw : 1 ≤ w) (hw5 : w ≤ 5) (h6 : s 30 6 = 1) (h3 : s 30 3 = 0) : Bg s (f_X6_setWorkers s (nI w)).2 ∧ (f_X6_setWorkers s (nI w)).2 30 6 = nI w := by
  unfold f_X6_setWorkers
  rw [if_pos (nwf_0 hw hw5 h6 h3)]
  dsimp only
  unfold f_X1_changeWorkerCount
  rw [h6]
  have e : ∀ w, w < 6 → 1 ≤ w → w < ((nI w).toInt - (1 : Int32).toInt).toNat + 1 + 1 := by decide +kernel
  exact cwc_L1 hw5 _ 1 s (by omega) (e w (by omega) hw)
theorem hst_L1 {s : gSt} {wc : Nat} (hw : wc ≤ 5) (h6 : s 30 6 = nI wc) (hz : ∀ w, w < 5 → s (70 + 6 * w) 1 = 0) : ∀ (m k : Nat), k ≤ wc → f_X1_hasStackedTask_L1 30 m s (nI k) = 0 := by
  intro m
  induction m with
  | zero => intro k _; rfl
  | succ m ih =>
    intro k hk
    unfold f_X1_hasStackedTask_L1
    rw [h6]
    by_cases c : wc ≤ k
    · rw [if_pos (nI_le c (by omega))]
    · rw [if_neg (nI_ge (by omega) (by omega)), wk_n (by omega), show 67 + 6 * k + 3 = 70 + 6 * k by omega, hz k (by omega), if_pos (by decide)]
      dsimp only
      rw [nI_1]
      exact ih (k + 1) (by omega)
theorem setY_ok {s : gSt} {wy th : Int32} (h0 : ¬ th < 0) (h2 : th ≤ 2) (hs : f_X1_hasStackedTask s 30 = 0) : (f_X6_setWay s wy th).2 = gsu (gsu s 30 9 wy) 30 10 th := by
  unfold f_X6_setWay
  rw [if_neg h0, if_pos h2]
  split
  · rfl
  · first | rfl | rw [if_pos hs]
/-- the object at the head of the law's loop, at first -/
theorem LI_0 {s1 s2 s3 : gSt} {wc many : Nat} {wy th : Int32} (hw : 1 ≤ wc) (hw5 : wc ≤ 5) (hm : many ≤ 8) (h1 : ∀ a k, 30 ≤ a → s1 a k = xs0 a k) (h12 : s1 1 2 = nI many) (h2 : Bg s1 s2) (h26 : s2 30 6 = nI wc) (h3 : s3 = gsu (gsu s2 30 9 wy) 30 10 th) : LI 0 wc 0 many s3 := by
  obtain ⟨a1, a2, a3, a4, a5, a6, a7⟩ := x0_a
  have e3 : ∀ a b, ¬ (a = 30 ∧ (b = 9 ∨ b = 10)) → s3 a b = s2 a b := fun a b h => by rw [h3, su_ne (by omega), su_ne (by omega)]
  have e2 : ∀ a b, 30 ≤ a → ¬ (a = 30 ∧ b = 6) → ¬ Wn a b → ¬ Wz a b → s2 a b = xs0 a b := fun a b h30 q1 q2 q3 => by
    rcases h2 a b with q | q | q | q
    · rw [q]; exact h1 a b h30
    · exact absurd q q1
    · exact absurd q q2
    · exact absurd q.2 q3
  have ez : ∀ a b, 30 ≤ a → Wz a b → xs0 a b = 0 → s3 a b = 0 := fun a b h30 q q0 => by
    rw [e3 a b (by unfold Wz at q; omega)]
    rcases h2 a b with r | r | r | r
    · rw [r, h1 a b h30]; exact q0
    · unfold Wz at q; omega
    · unfold Wz at q; unfold Wn at r; omega
    · exact r.1
  have hr : ∀ j, j ≤ wc → s3 (rc j) 1 = nI 0 := fun j hj => by
    by_cases c : j = 0
    · subst c
      rw [rc_0, e3 _ _ (by omega), e2 _ _ (by omega) (by omega) (by unfold Wn; omega) (by unfold Wz; omega)]; exact a6
    · obtain ⟨k, rfl⟩ : ∃ k, j = k + 1 := ⟨j - 1, by omega⟩
      rw [rc_s]
      exact ez _ _ (by omega) (by unfold Wz; omega) (x0_w k (by omega)).2.2.2.1
  have hs : ∀ w, w < wc → s3 (sc w) 1 = nI 0 := fun w hw1 => by
    unfold sc
    exact ez _ _ (by omega) (by unfold Wz; omega) (x0_w w (by omega)).2.2.2.2
  have rn : ∀ i, s3 i 1 = nI 0 → rok s3 i ∧ ∀ y ∈ rl s3 i, ∃ t, t < 0 ∧ y = nI t := fun i hi => by
    refine ⟨⟨0, by omega, hi⟩, fun y hy => ?_⟩
    rw [rl_of (m := 0) (by omega) hi] at hy
    exact absurd hy List.not_mem_nil
  have hJ : J 0 wc 0 0 s3 := by
    refine ⟨⟨⟨by omega, hw, hw5, by omega⟩, ⟨?_, ?_, ?_⟩, fun t ht => ?_, ?_⟩, ⟨fun j hj => rn _ (hr j hj), fun w hj => rn _ (hs w hj)⟩, fun t ht => absurd ht (by omega)⟩
    · rw [e3 _ _ (by omega), e2 _ _ (by omega) (by omega) (by unfold Wn; omega) (by unfold Wz; omega)]; exact a1
    · rw [e3 _ _ (by omega)]; exact h26
    · rw [e3 _ _ (by omega), e2 _ _ (by omega) (by omega) (by unfold Wn; omega) (by unfold Wz; omega)]; exact a4
    · rw [e3 _ _ (by omega), e2 _ _ (by omega) (by omega) (by unfold Wn; omega) (by unfold Wz; omega)]; exact x0_t t ht
    · rw [e3 _ _ (by omega), e2 _ _ (by omega) (by omega) (by unfold Wn; omega) (by unfold Wz; omega)]; exact a5
  refine ⟨hJ, fun w hw1 => ?_, fun c k hc hn => ?_, ⟨?_, hm⟩, by omega⟩
  · obtain ⟨w2, w3, w4, -, -⟩ := x0_w w (by omega)
    exact ⟨0, 0, 0, ez _ _ (by omega) (by unfold Wz; omega) w2, ez _ _ (by omega) (by unfold Wz; omega) w3, ez _ _ (by omega) (by unfold Wz; omega) w4, by omega⟩
  · have n1 : ¬ (30 + c = 30 ∧ (k = 9 ∨ k = 10)) := fun q => hn (Or.inl (by omega))
    have n2 : ¬ (30 + c = 30 ∧ k = 6) := fun q => hn (Or.inl (by omega))
    have n3 : ¬ Wn (30 + c) k := fun q => hn (Or.inr (Or.inr (Or.inr (Or.inr (Or.inr ⟨by unfold Wn at q; omega, by omega, Or.inr (Or.inr (Or.inr (Or.inr (Or.inr ⟨by unfold Wn at q; omega, by unfold Wn at q; omega⟩))))⟩)))))
    have n4 : ¬ Wz (30 + c) k := fun q => hn (Or.inr (Or.inr (Or.inr (Or.inr (Or.inr ⟨by unfold Wz at q; omega, by omega, by
      unfold Wz at q
      rcases q.2.2 with r | r | r
      · exact Or.inl (by omega)
      · exact Or.inr (Or.inl (by omega))
      · exact Or.inr (Or.inr (Or.inr (Or.inl (by omega))))⟩)))))
    rw [e3 (30 + c) k n1, e2 (30 + c) k (by omega) n2 n3 n4, e3 (97 + c) k (by omega), e2 (97 + c) k (by omega) (by omega) (by unfold Wn; omega) (by unfold Wz; omega)]
    exact x0_ci c k hc hn
  · rw [e3 _ _ (by omega)]
    rcases h2 1 2 with q | q | q | q
    · rw [q]; exact h12
    · omega
    · unfold Wn at q; omega
    · have := q.2; unfold Wz at this; omega
section CALLS
variable {n n' wc ck many t : Nat} {st st' : gSt}
theorem LI_Fr0 (h : LI n wc ck many st) (hJ : J n' wc ck 0 st') (hF : Fr0 st st') : LI n' wc ck many st' := by
  obtain ⟨h1, h2, h3, h4, h5⟩ := h
  have hw := h1.1.1.2.2.1
  exact ⟨hJ, Tt_same h2 (fun w hw1 b b1 b2 => hF _ _ (by unfold Wr0; omega)), CI_Fr h3 (Fr_0 hF), ⟨(Fr_lo (Fr_0 hF) 1 2 (by omega)).trans h4.1, h4.2⟩, h5⟩
/-- submit -/
theorem submit_ok (h : LI n wc ck many st) (hn1 : n < 24) (j : Int32) : (f_X6_submit st j).1 = nI n ∧ LI (n + 1) wc ck many (f_X6_submit st j).2 := by
  obtain ⟨a1, a2, a3, -⟩ := ask_ok (a := j) h.1 hn1
  have e : f_X6_submit st j = ((f_X1_askFor st 30 j).1, (f_X1_askFor st 30 j).2) := by
    unfold f_X6_submit
    rw [h.1.1.2.1.1, if_pos (show nI n < 24 from nI_lt (b := 24) hn1 (by omega))]
  rw [e]
  exact ⟨a1, LI_Fr0 h a2 a3⟩
/-- cancel -/
theorem cancel_ok (h : LI n wc ck many st) (ht : t < n) (hs : st (43 + t) 2 < 4) : ∃ c, c ≤ 100 ∧ (f_X6_cancel st (nI t)).1 = nI (c + 1) ∧ LI n wc ck many (f_X6_cancel st (nI t)).2 ∧ (f_X6_cancel st (nI t)).2 (43 + t) 2 = 6 ∧ (f_X6_cancel st (nI t)).2 (43 + t) 7 = nI ck := by
  have hn := h.1.1.1.1
  obtain ⟨c, c1, c2, b1, b2, b3⟩ := cb_ok h.1 ht
  have hs2 : (f_X1_cancelBelow st 30 (43 + t)).2 (43 + t) 2 < 4 := (Ch_lt b3 ht (fun q => by have := q.1; omega)).mp hs
  obtain ⟨d1, d2, -, -, d5, d6⟩ := end_ok (sq := 6) b1 ht hs2 (Or.inr rfl)
  have e : f_X6_cancel st (nI t) = ((f_X1_cancelBelow st 30 (43 + t)).1 + 1, f_X1_end (f_X1_cancelBelow st 30 (43 + t)).2 30 (43 + t) 6) := by
    unfold f_X6_cancel
    dsimp only
    rw [tk_n (by omega), isO_eq, if_pos hs, if_pos rfl]
  rw [e]
  exact ⟨c, c2, by rw [c1, nI_1], LI_Fr0 h d1 (Fr0_tr b2 d2), d5, d6⟩
/-- keep -/
theorem keep_ok {q : Nat} (h : LI n wc ck many st) (hq : q < 6) : LI n wc ck many (f_X6_keep st (nI q) 5).2 ∧ (st 42 q = -1000000 → (f_X6_keep st (nI q) 5).1 = 1 ∧ (f_X6_keep st (nI q) 5).2 42 q = 5) ∧ (st 42 q ≠ -1000000 → (f_X6_keep st (nI q) 5).1 = 0) := by
  have hn := h.1.1.1.1
  obtain ⟨a1, a2, a3⟩ := kp_ok (a := nI q) (b := 5) h.1
  have e : f_X6_keep st (nI q) 5 = ((f_X1_keepPromise st 30 (nI q) 5).1, (f_X1_keepPromise st 30 (nI q) 5).2) := by
    unfold f_X6_keep
    rw [if_neg (by decide), if_pos (by decide)]
  rw [e]
  refine ⟨LI_Fr0 h a1 a2, fun c => ?_, fun c => ?_⟩
  · have e1 : f_X1_keepPromise st 30 (nI q) 5 = f_X1_keepPromise_L1 30 (nI q) 5 (((gsu st 42 q 5 30 3).toInt - (0 : Int32).toInt).toNat + 1) (gsu st 42 q 5) (nI 0) := by
      unfold f_X1_keepPromise
      rw [if_neg (nI_pos (by omega)), if_neg (show ¬ (6 : Int32) ≤ nI q from nI_ge (b := 6) hq (by omega)), nI_clamp (by omega)]
      show (if st 42 q = -1000000 then _ else _) = _
      rw [if_pos c]
      rfl
    have h1 : J n wc ck 0 (gsu st 42 q 5) := J_ir h.1 (by unfold JR; omega) RS_42
    obtain ⟨-, -, -, r4, r5⟩ := kp_L1 (a := nI q) (b := 5) (g0 := gsu st 42 q 5) (((gsu st 42 q 5 30 3).toInt - (0 : Int32).toInt).toNat + 1) 0 _ h1 (Fr0_rf _) (Ch_rf _ _ _) (by omega)
    rw [e1]
    refine ⟨r4 ?_, (r5 q).trans su_at⟩
    rw [h1.1.2.1.1, nI_toInt (by omega)]
    have e0 : (0 : Int32).toInt = 0 := rfl
    omega
  · unfold f_X1_keepPromise
    rw [if_neg (nI_pos (by omega)), if_neg (show ¬ (6 : Int32) ≤ nI q from nI_ge (b := 6) hq (by omega)), nI_clamp (by omega)]
    show (if st 42 q = -1000000 then _ else _ : Int32 × gSt).1 = 0
    rw [if_neg c]
theorem promise_n {q : Nat} (hq : q < 6) : f_X6_promise st (nI q) = st 42 q ∧ ¬ f_X6_isPromise st (nI q) = 0 := by
  constructor
  · unfold f_X6_promise f_prom
    rw [if_neg (nI_pos (by omega)), if_neg (show ¬ (6 : Int32) ≤ nI q from nI_ge (b := 6) hq (by omega)), nI_clamp (by omega)]
  · unfold f_X6_isPromise
    rw [if_neg (nI_pos (by omega)), if_neg (show ¬ (6 : Int32) ≤ nI q from nI_ge (b := 6) hq (by omega))]
    decide
/-- how many are not over -/
def oU (st : gSt) (t : Nat) : Nat := if st (43 + t) 2 < 4 then 1 else 0
theorem cu_L1 (h : J n wc ck 0 st) : ∀ (m k : Nat), k ≤ n → n < m + k → f_X1_countUnfinished_L1 30 m st (nI (sm (oU st) k)) (nI k) = nI (sm (oU st) n) := by
  have hn := h.1.1.1
  intro m
  induction m with
  | zero => intro k _ h2; omega
  | succ m ih =>
    intro k h1 h2
    unfold f_X1_countUnfinished_L1
    rw [h.1.2.1.1]
    by_cases c : n ≤ k
    · rw [if_pos (nI_le c (by omega))]
      obtain rfl : k = n := by omega
      rfl
    · rw [if_neg (nI_ge (by omega) (by omega)), tk_n (by omega), isO_eq]
      dsimp only
      rw [nI_1, nI_1]
      have go := ih (k + 1) (by omega) (by omega)
      by_cases c2 : st (43 + k) 2 < 4
      · rw [if_pos c2, if_pos rfl]
        have e : sm (oU st) (k + 1) = sm (oU st) k + 1 := by show sm (oU st) k + oU st k = _; unfold oU; rw [if_pos c2]
        rw [e] at go
        exact go
      · rw [if_neg c2, if_neg (by decide)]
        have e : sm (oU st) (k + 1) = sm (oU st) k := by show sm (oU st) k + oU st k = _; unfold oU; rw [if_neg c2]; rfl
        rw [e] at go
        exact go
theorem cu_ok (h : J n wc ck 0 st) : f_X1_countUnfinished st 30 = nI (sm (oU st) n) := by
  have hn := h.1.1.1
  unfold f_X1_countUnfinished
  refine cu_L1 h _ 0 (by omega) ?_
  rw [h.1.2.1.1, nI_toInt (by omega)]
  have e0 : (0 : Int32).toInt = 0 := rfl
  omega
theorem oU_le (k : Nat) : sm (oU st) k ≤ k := by
  induction k with
  | zero => exact Nat.le_refl _
  | succ k ih =>
    show sm (oU st) k + oU st k ≤ k + 1
    have : oU st k ≤ 1 := by unfold oU; split <;> omega
    omega
end CALLS
