/-! WHAT WOULD BE: the trial pool (at 97) becomes what the pool (at 30) is; its ticks are the pool's. -/
/-- what copyFrom copies (offsets in a pool) -/
def Cp (c k : Nat) : Prop := (c = 0 ∧ (k = 3 ∨ k = 6 ∨ k = 9 ∨ k = 10 ∨ k = 11)) ∨ (13 ≤ c ∧ c < 37 ∧ 1 ≤ k ∧ k ≤ 10) ∨ (c = 10 ∧ k = 1) ∨ (c = 11 ∧ k < 24) ∨ (c = 12 ∧ k < 6) ∨ (37 ≤ c ∧ c < 67 ∧ (((c - 37) % 6 = 0 ∧ 2 ≤ k ∧ k ≤ 4) ∨ ((c - 37) % 6 = 1 ∧ k = 1) ∨ ((c - 37) % 6 = 2 ∧ k < 24) ∨ ((c - 37) % 6 = 3 ∧ k = 1) ∨ ((c - 37) % 6 = 4 ∧ k < 24) ∨ ((c - 37) % 6 = 5 ∧ k < 20)))
/-- in the worker's cell d of six -/
def Cw (d k : Nat) : Prop := (d = 0 ∧ 2 ≤ k ∧ k ≤ 4) ∨ (d = 1 ∧ k = 1) ∨ (d = 2 ∧ k < 24) ∨ (d = 3 ∧ k = 1) ∨ (d = 4 ∧ k < 24) ∨ (d = 5 ∧ k < 20)
theorem Cp_w {c k : Nat} (h : Cp c k) (h1 : 37 ≤ c) : Cw ((c - 37) % 6) k := by
  rcases h with h | h | h | h | h | ⟨-, -, h⟩
  · omega
  · omega
  · omega
  · omega
  · omega
  · exact h
theorem Cp_0 {k : Nat} (h : Cp 0 k) : k = 3 ∨ (k = 6 ∨ k = 9 ∨ k = 10 ∨ k = 11) := by
  rcases h with h | h | h | h | h | h
  · exact h.2
  · omega
  · omega
  · omega
  · omega
  · omega
theorem Cp_10 {k : Nat} (h : Cp 10 k) : k = 1 := by
  rcases h with h | h | h | h | h | h
  · omega
  · omega
  · exact h.2
  · omega
  · omega
  · omega
theorem Cp_11 {k : Nat} (h : Cp 11 k) : k < 24 := by
  rcases h with h | h | h | h | h | h
  · omega
  · omega
  · omega
  · exact h.2
  · omega
  · omega
theorem Cp_12 {k : Nat} (h : Cp 12 k) : k < 6 := by
  rcases h with h | h | h | h | h | h
  · omega
  · omega
  · omega
  · omega
  · exact h.2
  · omega
theorem Cp_t {c k : Nat} (h : Cp c k) (h1 : 13 ≤ c) (h2 : c < 37) : 1 ≤ k ∧ k ≤ 10 := by
  rcases h with h | h | h | h | h | h
  · omega
  · exact h.2.2
  · omega
  · omega
  · omega
  · omega
theorem Cp_c {c k : Nat} (h : Cp c k) : c = 0 ∨ (10 ≤ c ∧ c ≤ 12) ∨ (13 ≤ c ∧ c < 37) ∨ 37 ≤ c := by
  rcases h with h | h | h | h | h | h
  · exact Or.inl h.1
  · exact Or.inr (Or.inr (Or.inl ⟨h.1, h.2.1⟩))
  · exact Or.inr (Or.inl (by omega))
  · exact Or.inr (Or.inl (by omega))
  · exact Or.inr (Or.inl (by omega))
  · exact Or.inr (Or.inr (Or.inr h.1))
theorem Cp_Wr {c k : Nat} (h : ¬ Cp c k) : ¬ Wr (30 + c) k := by
  intro q
  apply h
  rcases q with q | q | ⟨q1, q2, q⟩
  · rcases q with q | q | q | q | q | ⟨q1, q2, q⟩
    · exact Or.inl (by omega)
    · exact Or.inr (Or.inl (by omega))
    · exact Or.inr (Or.inr (Or.inr (Or.inr (Or.inl (by omega)))))
    · exact Or.inr (Or.inr (Or.inl (by omega)))
    · exact Or.inr (Or.inr (Or.inr (Or.inl (by omega))))
    · refine Or.inr (Or.inr (Or.inr (Or.inr (Or.inr ⟨by omega, by omega, ?_⟩))))
      rw [show c - 37 = 30 + c - 67 by omega]
      exact Or.inr (q.imp id (fun q => q.imp id (fun q => q.imp id Or.inl)))
  · exact Or.inl (by omega)
  · refine Or.inr (Or.inr (Or.inr (Or.inr (Or.inr ⟨by omega, by omega, ?_⟩))))
    rw [show c - 37 = 30 + c - 67 by omega]
    exact q.imp id (fun q => Or.inr (Or.inr (Or.inr (Or.inr q))))
/-- the rest is the same in both pools -/
def CI (st : gSt) : Prop := ∀ c k, c < 67 → ¬ Cp c k → st (97 + c) k = st (30 + c) k
/-- s' is s, but for cells of the trial pool that are now as in the pool -/
def Cr (s s' : gSt) : Prop := ∀ i k, (i < 97 ∨ 164 ≤ i → s' i k = s i k) ∧ (97 ≤ i → i < 164 → s' i k = s (i - 67) k ∨ s' i k = s i k)
def Cd (s s' : gSt) (i k : Nat) : Prop := s' i k = s (i - 67) k
theorem Cr_rf (s : gSt) : Cr s s := fun _ _ => ⟨fun _ => rfl, fun _ _ => Or.inr rfl⟩
theorem Cr_tr {a b c : gSt} (h1 : Cr a b) (h2 : Cr b c) : Cr a c := fun i k => by
  refine ⟨fun h => ((h2 i k).1 h).trans ((h1 i k).1 h), fun h h' => ?_⟩
  rcases (h2 i k).2 h h' with q | q
  · exact Or.inl (q.trans ((h1 (i - 67) k).1 (by omega)))
  · rcases (h1 i k).2 h h' with r | r
    · exact Or.inl (q.trans r)
    · exact Or.inr (q.trans r)
theorem Cd_1 {a b c : gSt} {i k : Nat} (hi : 97 ≤ i ∧ i < 164) (h1 : Cr a b) (h : Cd a b i k) (h2 : Cr b c) : Cd a c i k := by
  rcases (h2 i k).2 hi.1 hi.2 with q | q
  · exact q.trans ((h1 (i - 67) k).1 (by omega))
  · exact q.trans h
theorem Cd_2 {a b c : gSt} {i k : Nat} (hi : 97 ≤ i ∧ i < 164) (h1 : Cr a b) (h : Cd b c i k) : Cd a c i k := h.trans ((h1 (i - 67) k).1 (by omega))
theorem Cr_su {s s1 : gSt} {i k : Nat} {v : Int32} (hi : 97 ≤ i ∧ i < 164) (h : Cr s s1) (hv : v = s (i - 67) k) : Cr s (gsu s1 i k v) := fun a b => by
  by_cases c : a = i ∧ b = k
  · obtain ⟨rfl, rfl⟩ := c
    exact ⟨fun q => by omega, fun _ _ => Or.inl (by rw [su_at, hv])⟩
  · rw [su_ne c]
    exact h a b
theorem Cd_su {s s1 : gSt} {i k : Nat} {v : Int32} (hv : v = s (i - 67) k) : Cd s (gsu s1 i k v) i k := by unfold Cd; rw [su_at, hv]
theorem cp_cp {s : gSt} {i j : Nat} (hi : 97 ≤ i ∧ i < 164) (hj : j = i - 67) : ∀ n, Cr s (f_cp s i j n) ∧ ∀ k, k < n → Cd s (f_cp s i j n) i k := by
  subst hj
  intro n
  induction n with
  | zero => exact ⟨Cr_rf s, fun k hk => absurd hk (by omega)⟩
  | succ n ih =>
    obtain ⟨h1, h2⟩ := ih
    have e : f_cp s i (i - 67) n (i - 67) n = s (i - 67) n := (h1 (i - 67) n).1 (by omega)
    have h3 : Cr s (f_cp s i (i - 67) (n + 1)) := Cr_su hi h1 e
    refine ⟨h3, fun k hk => ?_⟩
    by_cases c : k = n
    · subst c
      exact Cd_su e
    · show gsu (f_cp s i (i - 67) n) i n _ i k = _
      rw [su_nk c]
      exact h2 k (by omega)
theorem cp_row {s : gSt} {i j : Nat} (hi : 97 ≤ i ∧ i + 1 < 164) (hj : j = i - 67) : Cr s (f_rcopy s i j) ∧ Cd s (f_rcopy s i j) i 1 ∧ ∀ k, k < 24 → Cd s (f_rcopy s i j) (i + 1) k := by
  subst hj
  have h1 : Cr s (gsu s i 1 (s (i - 67) 1)) := Cr_su (by omega) (Cr_rf s) rfl
  obtain ⟨h2, h3⟩ := cp_cp (s := gsu s i 1 (s (i - 67) 1)) (i := i + 1) (j := i - 67 + 1) (by omega) (by omega) 24
  unfold f_rcopy
  exact ⟨Cr_tr h1 h2, Cd_1 (by omega) h1 (Cd_su rfl) h2, fun k hk => Cd_2 (by omega) h1 (h3 k hk)⟩
theorem cp_task {s : gSt} {i j : Nat} (hi : 97 ≤ i ∧ i < 164) (hj : j = i - 67) : Cr s (f_tcopy s i j) ∧ ∀ k, 1 ≤ k → k ≤ 10 → Cd s (f_tcopy s i j) i k := by
  subst hj
  unfold f_tcopy
  refine ⟨Cr_su hi (Cr_su hi (Cr_su hi (Cr_su hi (Cr_su hi (Cr_su hi (Cr_su hi (Cr_su hi (Cr_su hi (Cr_su hi (Cr_rf s) rfl) rfl) rfl) rfl) rfl) rfl) rfl) rfl) rfl) rfl, fun k h1 h2 => ?_⟩
  unfold Cd
  rcases (show k = 1 ∨ k = 2 ∨ k = 3 ∨ k = 4 ∨ k = 5 ∨ k = 6 ∨ k = 7 ∨ k = 8 ∨ k = 9 ∨ k = 10 by omega) with rfl | rfl | rfl | rfl | rfl | rfl | rfl | rfl | rfl | rfl <;> simp [gsu_eq]
theorem cp_wk_L1 {s0 : gSt} {i j : Nat} (hi : 97 ≤ i ∧ i + 5 < 164) (hj : j = i - 67) : ∀ (m x : Nat) (s : gSt), Cr s0 s → (∀ k, k < x → Cd s0 s (i + 5) k) → x ≤ 20 → 20 < m + x → Cr s (f_X5_copyFrom_L1 i j m s (nI x)) ∧ ∀ k, k < 20 → Cd s0 (f_X5_copyFrom_L1 i j m s (nI x)) (i + 5) k := by
  subst hj
  intro m
  induction m with
  | zero => intro x s _ _ h1 h2; omega
  | succ m ih =>
    intro x s h0 hd h1 h2
    unfold f_X5_copyFrom_L1
    by_cases c : 20 ≤ x
    · rw [if_pos (show (20 : Int32) ≤ nI x from nI_le c (by omega))]
      exact ⟨Cr_rf s, fun k hk => hd k (by omega)⟩
    · rw [if_neg (show ¬ (20 : Int32) ≤ nI x from nI_ge (b := 20) (by omega) (by omega)), nI_clamp (by omega)]
      dsimp only
      rw [nI_1]
      have e : i - 67 + 5 = i + 5 - 67 := by omega
      have h3 : Cr s (gsu s (i + 5) x (s (i - 67 + 5) x)) := Cr_su (by omega) (Cr_rf s) (by rw [e])
      obtain ⟨q1, q2⟩ := ih (x + 1) _ (Cr_tr h0 h3) (fun k hk => by
        by_cases c2 : k = x
        · subst c2
          exact Cd_2 (by omega) h0 (Cd_su (by rw [e]))
        · unfold Cd
          rw [su_nk c2]
          exact hd k (by omega)) (by omega) (by omega)
      exact ⟨Cr_tr h3 q1, q2⟩
theorem cp_wk {s : gSt} {i j : Nat} (hi : 97 ≤ i ∧ i + 5 < 164) (hj : j = i - 67) : Cr s (f_X5_copyFrom s i j) ∧ (∀ k, 2 ≤ k → k ≤ 4 → Cd s (f_X5_copyFrom s i j) i k) ∧ Cd s (f_X5_copyFrom s i j) (i + 1) 1 ∧ (∀ k, k < 24 → Cd s (f_X5_copyFrom s i j) (i + 2) k) ∧ Cd s (f_X5_copyFrom s i j) (i + 3) 1 ∧ (∀ k, k < 24 → Cd s (f_X5_copyFrom s i j) (i + 4) k) ∧ ∀ k, k < 20 → Cd s (f_X5_copyFrom s i j) (i + 5) k := by
  subst hj
  obtain ⟨a1, a2, a3⟩ := cp_row (s := s) (i := i + 1) (j := i - 67 + 1) (by omega) (by omega)
  obtain ⟨b1, b2, b3⟩ := cp_row (s := f_rcopy s (i + 1) (i - 67 + 1)) (i := i + 3) (j := i - 67 + 3) (by omega) (by omega)
  obtain ⟨s2, e2⟩ : ∃ s2, s2 = f_rcopy (f_rcopy s (i + 1) (i - 67 + 1)) (i + 3) (i - 67 + 3) := ⟨_, rfl⟩
  rw [← e2] at b1 b2 b3
  have t2 : Cr s s2 := Cr_tr a1 b1
  have hii : 97 ≤ i ∧ i < 164 := by omega
  have c1 : Cr s2 (gsu s2 i 2 (s2 (i - 67) 2)) := Cr_su hii (Cr_rf s2) rfl
  obtain ⟨s3, e3⟩ : ∃ s3, s3 = gsu s2 i 2 (s2 (i - 67) 2) := ⟨_, rfl⟩
  rw [← e3] at c1
  have c2 : Cr s3 (gsu s3 i 3 (s3 (i - 67) 3)) := Cr_su hii (Cr_rf s3) rfl
  obtain ⟨s4, e4⟩ : ∃ s4, s4 = gsu s3 i 3 (s3 (i - 67) 3) := ⟨_, rfl⟩
  rw [← e4] at c2
  have c3 : Cr s4 (gsu s4 i 4 (s4 (i - 67) 4)) := Cr_su hii (Cr_rf s4) rfl
  obtain ⟨s5, e5⟩ : ∃ s5, s5 = gsu s4 i 4 (s4 (i - 67) 4) := ⟨_, rfl⟩
  rw [← e5] at c3
  have d2 : Cd s2 s3 i 2 := by rw [e3]; exact Cd_su rfl
  have d3 : Cd s3 s4 i 3 := by rw [e4]; exact Cd_su rfl
  have d4 : Cd s4 s5 i 4 := by rw [e5]; exact Cd_su rfl
  have t5 : Cr s2 s5 := Cr_tr c1 (Cr_tr c2 c3)
  obtain ⟨l1, l2⟩ := cp_wk_L1 (s0 := s5) (i := i) (j := i - 67) hi rfl 21 0 s5 (Cr_rf s5) (fun k hk => absurd hk (by omega)) (by omega) (by omega)
  have ee : f_X5_copyFrom s i (i - 67) = f_X5_copyFrom_L1 i (i - 67) 21 s5 (nI 0) := by
    rw [e5, e4, e3, e2]
    rfl
  rw [ee]
  have tE : Cr s2 (f_X5_copyFrom_L1 i (i - 67) 21 s5 (nI 0)) := Cr_tr t5 l1
  refine ⟨Cr_tr t2 tE, fun k k1 k2 => ?_, ?_, fun k hk => ?_, ?_, fun k hk => ?_, fun k hk => ?_⟩
  · rcases (show k = 2 ∨ k = 3 ∨ k = 4 by omega) with rfl | rfl | rfl
    · exact Cd_2 hii t2 (Cd_1 hii c1 d2 (Cr_tr c2 (Cr_tr c3 l1)))
    · exact Cd_2 hii (Cr_tr t2 c1) (Cd_1 hii c2 d3 (Cr_tr c3 l1))
    · exact Cd_2 hii (Cr_tr t2 (Cr_tr c1 c2)) (Cd_1 hii c3 d4 l1)
  · exact Cd_1 (by omega) a1 a2 (Cr_tr b1 tE)
  · exact Cd_1 (by omega) a1 (a3 k hk) (Cr_tr b1 tE)
  · exact Cd_2 (by omega) a1 (Cd_1 (by omega) b1 b2 tE)
  · exact Cd_2 (by omega) a1 (Cd_1 (by omega) b1 (b3 k hk) tE)
  · exact Cd_2 (by omega) (Cr_tr t2 t5) (l2 k hk)
/-- what copyFrom has done behind x tasks, y workers .. -/
theorem cp_L3 {s0 : gSt} : ∀ (m x : Nat) (s : gSt), Cr s0 s → (∀ k, k < x → Cd s0 s 109 k) → x ≤ 6 → 6 < m + x → Cr s (f_X1_copyFrom_L3 97 30 m s (nI x)) ∧ (∀ k, k < 6 → Cd s0 (f_X1_copyFrom_L3 97 30 m s (nI x)) 109 k) ∧ (∀ k, k = 9 ∨ k = 10 ∨ k = 11 → Cd s0 (f_X1_copyFrom_L3 97 30 m s (nI x)) 97 k) := by
  intro m
  induction m with
  | zero => intro x s _ _ h1 h2; omega
  | succ m ih =>
    intro x s h0 hd h1 h2
    unfold f_X1_copyFrom_L3
    by_cases c : 6 ≤ x
    · rw [if_pos (show (6 : Int32) ≤ nI x from nI_le c (by omega))]
      have c1 : Cr s (gsu s 97 9 (s 30 9)) := Cr_su (by omega) (Cr_rf s) rfl
      obtain ⟨s3, e3⟩ : ∃ s3, s3 = gsu s 97 9 (s 30 9) := ⟨_, rfl⟩
      rw [← e3] at c1
      have c2 : Cr s3 (gsu s3 97 10 (s3 30 10)) := Cr_su (by omega) (Cr_rf s3) rfl
      obtain ⟨s4, e4⟩ : ∃ s4, s4 = gsu s3 97 10 (s3 30 10) := ⟨_, rfl⟩
      rw [← e4] at c2
      have c3 : Cr s4 (gsu s4 97 11 (s4 30 11)) := Cr_su (by omega) (Cr_rf s4) rfl
      obtain ⟨s5, e5⟩ : ∃ s5, s5 = gsu s4 97 11 (s4 30 11) := ⟨_, rfl⟩
      rw [← e5] at c3
      show Cr s (gsu (gsu (gsu s 97 9 (s 30 9)) 97 10 (gsu s 97 9 (s 30 9) 30 10)) 97 11 (gsu (gsu s 97 9 (s 30 9)) 97 10 (gsu s 97 9 (s 30 9) 30 10) 30 11)) ∧ (∀ k, k < 6 → Cd s0 (gsu (gsu (gsu s 97 9 (s 30 9)) 97 10 (gsu s 97 9 (s 30 9) 30 10)) 97 11 (gsu (gsu s 97 9 (s 30 9)) 97 10 (gsu s 97 9 (s 30 9) 30 10) 30 11)) 109 k) ∧ (∀ k, k = 9 ∨ k = 10 ∨ k = 11 → Cd s0 (gsu (gsu (gsu s 97 9 (s 30 9)) 97 10 (gsu s 97 9 (s 30 9) 30 10)) 97 11 (gsu (gsu s 97 9 (s 30 9)) 97 10 (gsu s 97 9 (s 30 9) 30 10) 30 11)) 97 k)
      rw [← e3, ← e4, ← e5]
      have d9 : Cd s s3 97 9 := by rw [e3]; exact Cd_su rfl
      have d10 : Cd s3 s4 97 10 := by rw [e4]; exact Cd_su rfl
      have d11 : Cd s4 s5 97 11 := by rw [e5]; exact Cd_su rfl
      have hb : 97 ≤ 97 ∧ 97 < 164 := by omega
      refine ⟨Cr_tr c1 (Cr_tr c2 c3), fun k hk => Cd_1 (by omega) h0 (hd k (by omega)) (Cr_tr c1 (Cr_tr c2 c3)), fun k hk => ?_⟩
      rcases hk with rfl | rfl | rfl
      · exact Cd_2 hb h0 (Cd_1 hb c1 d9 (Cr_tr c2 c3))
      · exact Cd_2 hb (Cr_tr h0 c1) (Cd_1 hb c2 d10 c3)
      · exact Cd_2 hb (Cr_tr h0 (Cr_tr c1 c2)) d11
    · rw [if_neg (show ¬ (6 : Int32) ≤ nI x from nI_ge (b := 6) (by omega) (by omega)), nI_clamp (by omega)]
      dsimp only
      rw [nI_1]
      have h3 : Cr s (gsu s 109 x (s 42 x)) := Cr_su (by omega) (Cr_rf s) rfl
      obtain ⟨q1, q2, q3⟩ := ih (x + 1) (gsu s 109 x (s 42 x)) (Cr_tr h0 h3) (fun k hk => by
        by_cases c2 : k = x
        · subst c2
          exact Cd_2 (by omega) h0 (Cd_su rfl)
        · unfold Cd
          rw [su_nk c2]
          exact hd k (by omega)) (by omega) (by omega)
      exact ⟨Cr_tr h3 q1, q2, q3⟩
/-- a worker's cells, done -/
def Wd (s s' : gSt) (y : Nat) : Prop := ∀ c k, 37 + 6 * y ≤ c → c < 43 + 6 * y → Cp c k → Cd s s' (97 + c) k
theorem cp_L2 {s0 : gSt} : ∀ (m y : Nat) (s : gSt), Cr s0 s → (∀ w, w < y → Wd s0 s w) → y ≤ 5 → 5 < m + y → Cr s (f_X1_copyFrom_L2 97 30 m s (nI y)) ∧ (∀ w, w < 5 → Wd s0 (f_X1_copyFrom_L2 97 30 m s (nI y)) w) ∧ (∀ c k, 10 ≤ c → c ≤ 12 → Cp c k → Cd s0 (f_X1_copyFrom_L2 97 30 m s (nI y)) (97 + c) k) ∧ (∀ k, k = 9 ∨ k = 10 ∨ k = 11 → Cd s0 (f_X1_copyFrom_L2 97 30 m s (nI y)) 97 k) := by
  intro m
  induction m with
  | zero => intro y s _ _ h1 h2; omega
  | succ m ih =>
    intro y s h0 hd h1 h2
    unfold f_X1_copyFrom_L2
    by_cases cy : 5 ≤ y
    · rw [if_pos (show (5 : Int32) ≤ nI y from nI_le cy (by omega))]
      obtain ⟨a1, a2, a3⟩ := cp_row (s := s) (i := 107) (j := 40) (by omega) (by omega)
      obtain ⟨b1, b2, b3⟩ := cp_L3 (s0 := f_rcopy s 107 40) 7 0 (f_rcopy s 107 40) (Cr_rf _) (fun k hk => absurd hk (by omega)) (by omega) (by omega)
      have t1 : Cr s (f_X1_copyFrom_L3 97 30 7 (f_rcopy s 107 40) (nI 0)) := Cr_tr a1 b1
      show Cr s (f_X1_copyFrom_L3 97 30 7 (f_rcopy s 107 40) (nI 0)) ∧ (∀ w, w < 5 → Wd s0 (f_X1_copyFrom_L3 97 30 7 (f_rcopy s 107 40) (nI 0)) w) ∧ (∀ c k, 10 ≤ c → c ≤ 12 → Cp c k → Cd s0 (f_X1_copyFrom_L3 97 30 7 (f_rcopy s 107 40) (nI 0)) (97 + c) k) ∧ (∀ k, k = 9 ∨ k = 10 ∨ k = 11 → Cd s0 (f_X1_copyFrom_L3 97 30 7 (f_rcopy s 107 40) (nI 0)) 97 k)
      refine ⟨t1, fun w hw c k c1 c2 c3 => Cd_1 (by omega) h0 (hd w (by omega) c k c1 c2 c3) t1, fun c k c1 c2 c3 => ?_, fun k hk => Cd_2 (by omega) (Cr_tr h0 a1) (b3 k hk)⟩
      rcases (show c = 10 ∨ c = 11 ∨ c = 12 by omega) with rfl | rfl | rfl
      · obtain rfl := Cp_10 c3
        exact Cd_2 (by omega) h0 (Cd_1 (by omega) a1 a2 b1)
      · exact Cd_2 (by omega) h0 (Cd_1 (by omega) a1 (a3 k (Cp_11 c3)) b1)
      · exact Cd_2 (by omega) (Cr_tr h0 a1) (b2 k (Cp_12 c3))
    · rw [if_neg (show ¬ (5 : Int32) ≤ nI y from nI_ge (b := 5) (by omega) (by omega)), nI_clamp (by omega)]
      dsimp only
      rw [nI_1]
      have e1 : 97 + 3 + 34 + 6 * y = 134 + 6 * y := by omega
      have e2 : 30 + 3 + 34 + 6 * y = 67 + 6 * y := by omega
      rw [e1, e2]
      obtain ⟨a1, a2, a3, a4, a5, a6, a7⟩ := cp_wk (s := s) (i := 134 + 6 * y) (j := 67 + 6 * y) (by omega) (by omega)
      obtain ⟨q1, q2, q3, q4⟩ := ih (y + 1) _ (Cr_tr h0 a1) (fun w hw c k c1 c2 c3 => by
        by_cases c4 : w = y
        · subst c4
          refine Cd_2 (by omega) h0 ?_
          obtain ⟨d, hd6, rfl⟩ : ∃ d, d < 6 ∧ c = 37 + 6 * w + d := ⟨c - (37 + 6 * w), by omega, by omega⟩
          have hc := Cp_w c3 (by omega)
          rw [show (37 + 6 * w + d - 37) % 6 = d by omega] at hc
          rcases hc with ⟨rfl, k1, k2⟩ | ⟨rfl, rfl⟩ | ⟨rfl, k1⟩ | ⟨rfl, rfl⟩ | ⟨rfl, k1⟩ | ⟨rfl, k1⟩
          · rw [show 97 + (37 + 6 * w + 0) = 134 + 6 * w by omega]; exact a2 k k1 k2
          · rw [show 97 + (37 + 6 * w + 1) = 134 + 6 * w + 1 by omega]; exact a3
          · rw [show 97 + (37 + 6 * w + 2) = 134 + 6 * w + 2 by omega]; exact a4 k k1
          · rw [show 97 + (37 + 6 * w + 3) = 134 + 6 * w + 3 by omega]; exact a5
          · rw [show 97 + (37 + 6 * w + 4) = 134 + 6 * w + 4 by omega]; exact a6 k k1
          · rw [show 97 + (37 + 6 * w + 5) = 134 + 6 * w + 5 by omega]; exact a7 k k1
        · exact Cd_1 (by omega) h0 (hd w (by omega) c k c1 c2 c3) a1) (by omega) (by omega)
      exact ⟨Cr_tr a1 q1, q2, q3, q4⟩
theorem cp_L1 {s0 : gSt} : ∀ (m x : Nat) (s : gSt), Cr s0 s → (∀ t k, t < x → 1 ≤ k → k ≤ 10 → Cd s0 s (110 + t) k) → x ≤ 24 → 24 < m + x → Cr s (f_X1_copyFrom_L1 97 30 m s (nI x)) ∧ (∀ c k, 1 ≤ c → c < 67 → Cp c k → Cd s0 (f_X1_copyFrom_L1 97 30 m s (nI x)) (97 + c) k) ∧ (∀ k, k = 6 ∨ k = 9 ∨ k = 10 ∨ k = 11 → Cd s0 (f_X1_copyFrom_L1 97 30 m s (nI x)) 97 k) := by
  intro m
  induction m with
  | zero => intro x s _ _ h1 h2; omega
  | succ m ih =>
    intro x s h0 hd h1 h2
    unfold f_X1_copyFrom_L1
    by_cases c : 24 ≤ x
    · rw [if_pos (show (24 : Int32) ≤ nI x from nI_le c (by omega))]
      have a1 : Cr s (gsu s 97 6 (s 30 6)) := Cr_su (by omega) (Cr_rf s) rfl
      have a2 : Cd s (gsu s 97 6 (s 30 6)) 97 6 := Cd_su rfl
      obtain ⟨s3, e3⟩ : ∃ s3, s3 = gsu s 97 6 (s 30 6) := ⟨_, rfl⟩
      dsimp only
      rw [← e3] at a1 a2 ⊢
      obtain ⟨b1, b2, b3, b4⟩ := cp_L2 (s0 := s3) 6 0 s3 (Cr_rf _) (fun k hk => absurd hk (by omega)) (by omega) (by omega)
      show Cr s (f_X1_copyFrom_L2 97 30 6 s3 (nI 0)) ∧ (∀ c k, 1 ≤ c → c < 67 → Cp c k → Cd s0 (f_X1_copyFrom_L2 97 30 6 s3 (nI 0)) (97 + c) k) ∧ (∀ k, k = 6 ∨ k = 9 ∨ k = 10 ∨ k = 11 → Cd s0 (f_X1_copyFrom_L2 97 30 6 s3 (nI 0)) 97 k)
      refine ⟨Cr_tr a1 b1, fun c k c1 c2 c3 => ?_, fun k hk => ?_⟩
      · rcases Cp_c c3 with q | q | q | q
        · omega
        · exact Cd_2 (by omega) (Cr_tr h0 a1) (b3 c k q.1 q.2 c3)
        · have := hd (c - 13) k (by omega) (Cp_t c3 q.1 q.2).1 (Cp_t c3 q.1 q.2).2
          rw [show 110 + (c - 13) = 97 + c by omega] at this
          exact Cd_1 (by omega) h0 this (Cr_tr a1 b1)
        · exact Cd_2 (by omega) (Cr_tr h0 a1) (b2 ((c - 37) / 6) (by omega) c k (by omega) (by omega) c3)
      · rcases hk with rfl | hk
        · exact Cd_2 (by omega) h0 (Cd_1 (by omega) a1 a2 b1)
        · exact Cd_2 (by omega) (Cr_tr h0 a1) (b4 k hk)
    · rw [if_neg (show ¬ (24 : Int32) ≤ nI x from le24 (by omega)), nI_clamp (by omega)]
      dsimp only
      rw [nI_1]
      have e1 : 97 + 1 + 12 + x = 110 + x := by omega
      have e2 : 30 + 1 + 12 + x = 43 + x := by omega
      rw [e1, e2]
      obtain ⟨a1, a2⟩ := cp_task (s := s) (i := 110 + x) (j := 43 + x) (by omega) (by omega)
      obtain ⟨q1, q2, q3⟩ := ih (x + 1) _ (Cr_tr h0 a1) (fun t k ht k1 k2 => by
        by_cases c4 : t = x
        · subst c4
          exact Cd_2 (by omega) h0 (a2 k k1 k2)
        · exact Cd_1 (by omega) h0 (hd t k (by omega) k1 k2) a1) (by omega) (by omega)
      exact ⟨Cr_tr a1 q1, q2, q3⟩
theorem copy_ok (s : gSt) : Cr s (f_X1_copyFrom s 97 30) ∧ ∀ c k, c < 67 → Cp c k → Cd s (f_X1_copyFrom s 97 30) (97 + c) k := by
  have a1 : Cr s (gsu s 97 3 (s 30 3)) := Cr_su (by omega) (Cr_rf s) rfl
  have a2 : Cd s (gsu s 97 3 (s 30 3)) 97 3 := Cd_su rfl
  obtain ⟨b1, b2, b3⟩ := cp_L1 (s0 := gsu s 97 3 (s 30 3)) 25 0 (gsu s 97 3 (s 30 3)) (Cr_rf _) (fun t k ht => absurd ht (by omega)) (by omega) (by omega)
  show Cr s (f_X1_copyFrom_L1 97 30 25 (gsu s 97 3 (s 30 3)) (nI 0)) ∧ ∀ c k, c < 67 → Cp c k → Cd s (f_X1_copyFrom_L1 97 30 25 (gsu s 97 3 (s 30 3)) (nI 0)) (97 + c) k
  refine ⟨Cr_tr a1 b1, fun c k c1 c2 => ?_⟩
  by_cases c0 : c = 0
  · subst c0
    rcases Cp_0 c2 with rfl | q
    · exact Cd_1 (by omega) a1 a2 b1
    · exact Cd_2 (by omega) a1 (b3 k q)
  · exact Cd_2 (by omega) a1 (b2 c k (by omega) c1 c2)
/-- the trial pool, seen at 30, is the pool -/
theorem copy_view {st : gSt} (h : CI st) : gv st 30 97 (f_X1_copyFrom st 97 30) = st := by
  obtain ⟨h1, h2⟩ := copy_ok st
  funext i k
  unfold gv
  split
  · exact (h1 i k).1 (by omega)
  · split
    · have hc : i - 30 + 97 = 97 + (i - 30) := by omega
      rw [hc]
      have hi : 30 + (i - 30) = i := by omega
      by_cases c : Cp (i - 30) k
      · have := h2 (i - 30) k (by omega) c
        unfold Cd at this
        rw [this, show 97 + (i - 30) - 67 = i by omega]
      · rcases (h1 (97 + (i - 30)) k).2 (by omega) (by omega) with q | q
        · rw [q, show 97 + (i - 30) - 67 = i by omega]
        · rw [q, h (i - 30) k (by omega) c, hi]
    · rfl
