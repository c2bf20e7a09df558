/-! HALTED: if all is halted, a tick changes what the workers are told and ran, and the clock, alone. -/
/-- the cells that a halted tick may change -/
def Ti (a b : Nat) : Prop := (a = 30 ∧ b = 11) ∨ (67 ≤ a ∧ a < 97 ∧ (((a - 67) % 6 = 0 ∧ b = 3) ∨ (a - 67) % 6 = 5))
def Sm (g g' : gSt) : Prop := ∀ a b, ¬ Ti a b → g' a b = g a b
theorem Sm_rf (g : gSt) : Sm g g := fun _ _ _ => rfl
theorem Sm_tr {a b c : gSt} (h1 : Sm a b) (h2 : Sm b c) : Sm a c := fun x y h => (h2 x y h).trans (h1 x y h)
theorem Sm_su {g g1 : gSt} {i k : Nat} {v : Int32} (h : Sm g g1) (hw : Ti i k) : Sm g (gsu g1 i k v) := fun a b q => by
  rw [su_ne (fun c => q (by rw [c.1, c.2]; exact hw))]
  exact h a b q
theorem otk_2 (x : Int32) : otk x = 2 ∨ (13 ≤ otk x ∧ otk x < 37) := by
  unfold otk
  split
  · exact Or.inl rfl
  · split
    · exact Or.inl rfl
    · rename_i c1 c2
      have := cl_lt (n := 24) c1 c2 rfl
      exact Or.inr (by omega)
theorem owk_2' (x : Int32) : owk x = 4 ∨ ∃ w, w < 5 ∧ owk x = 37 + 6 * w := by
  unfold owk
  split
  · exact Or.inl rfl
  · split
    · exact Or.inl rfl
    · rename_i c1 c2
      exact Or.inr ⟨x.toNatClampNeg, cl_lt (n := 5) c1 c2 rfl, rfl⟩
section SM
variable {g g' : gSt}
theorem sm_n (h : Sm g g') : g' 30 3 = g 30 3 := h _ _ (by unfold Ti; omega)
theorem sm_w (h : Sm g g') : g' 30 6 = g 30 6 := h _ _ (by unfold Ti; omega)
theorem sm_y (h : Sm g g') : g' 30 9 = g 30 9 := h _ _ (by unfold Ti; omega)
theorem sm_t (h : Sm g g') : g' 30 10 = g 30 10 := h _ _ (by unfold Ti; omega)
theorem sm_c (h : Sm g g') : g' (30 + 10) 1 = g (30 + 10) 1 := h _ _ (by unfold Ti; omega)
theorem sm_s (h : Sm g g') (x : Int32) : g' (f_tk 30 x) 2 = g (f_tk 30 x) 2 := h _ _ (by rw [otk_eq]; have := otk_2 x; unfold Ti; omega)
theorem sm_r (h : Sm g g') (x : Int32) : g' (f_row 30 x) 1 = g (f_row 30 x) 1 := h _ _ (by
  rw [orw_eq]
  unfold orw
  split
  · unfold Ti; omega
  · rcases owk_2' x with q | ⟨w, hw, q⟩ <;> rw [q] <;> unfold Ti <;> omega)
theorem sm_k (h : Sm g g') (x : Int32) : g' (f_wk 30 x + 3) 1 = g (f_wk 30 x + 3) 1 ∧ ∀ k, g' (f_wk 30 x + 3 + 1) k = g (f_wk 30 x + 3 + 1) k := by
  rw [owk_eq]
  rcases owk_2' x with q | ⟨w, hw, q⟩ <;> rw [q]
  · exact ⟨h _ _ (by unfold Ti; omega), fun k => h _ _ (by unfold Ti; omega)⟩
  · exact ⟨h _ _ (by unfold Ti; omega), fun k => h _ _ (by unfold Ti; omega)⟩
theorem sm_isO (h : Sm g g') (x : Int32) : f_isO g' (f_tk 30 x) = f_isO g (f_tk 30 x) := by unfold f_isO; rw [sm_s h]
theorem sm_isB (h : Sm g g') (x : Int32) : f_isB g' (f_tk 30 x) = f_isB g (f_tk 30 x) := by unfold f_isB; rw [sm_s h]
theorem sm_last (h : Sm g g') (x : Int32) : f_last g' (f_wk 30 x + 3) = f_last g (f_wk 30 x + 3) := by
  unfold f_last f_at
  rw [(sm_k h x).1, (sm_k h x).2]
theorem sm_cu_L1 (h : Sm g g') : ∀ (m : Nat) (y x : Int32), f_X1_countUnfinished_L1 30 m g' y x = f_X1_countUnfinished_L1 30 m g y x := by
  intro m
  induction m with
  | zero => intros; rfl
  | succ m ih => intros; simp only [f_X1_countUnfinished_L1, sm_n h, sm_isO h, ih]
theorem sm_cu (h : Sm g g') : f_X1_countUnfinished g' 30 = f_X1_countUnfinished g 30 := by simp only [f_X1_countUnfinished, sm_n h, sm_cu_L1 h]
theorem sm_hti_L1 (h : Sm g g') (v : Int32) : ∀ (m : Nat) (x : Int32), f_X1_hasTaskIn_L1 30 v m g' x = f_X1_hasTaskIn_L1 30 v m g x := by
  intro m
  induction m with
  | zero => intros; rfl
  | succ m ih => intros; simp only [f_X1_hasTaskIn_L1, sm_n h, sm_s h, ih]
theorem sm_hti (h : Sm g g') (v : Int32) : f_X1_hasTaskIn g' 30 v = f_X1_hasTaskIn g 30 v := by simp only [f_X1_hasTaskIn, sm_n h, sm_hti_L1 h]
theorem sm_wants (h : Sm g g') (x : Int32) : f_X1_wantsTask g' 30 (f_wk 30 x) = f_X1_wantsTask g 30 (f_wk 30 x) := by simp only [f_X1_wantsTask, (sm_k h x).1, sm_y h, sm_last h, sm_isB h]
theorem sm_nwt_L1 (h : Sm g g') (a : Int32) : ∀ (m : Nat) (x : Int32), f_X1_nextWithTasks_L1 30 a m g' x = f_X1_nextWithTasks_L1 30 a m g x := by
  intro m
  induction m with
  | zero => intros; rfl
  | succ m ih => intros; simp only [f_X1_nextWithTasks_L1, sm_w h, sm_r h, ih]
theorem sm_fwm_L1 (h : Sm g g') : ∀ (m : Nat) (y z x : Int32), f_X1_firstWithMostTasks_L1 30 m g' y z x = f_X1_firstWithMostTasks_L1 30 m g y z x := by
  intro m
  induction m with
  | zero => intros; rfl
  | succ m ih => intros; simp only [f_X1_firstWithMostTasks_L1, sm_w h, sm_r h, ih]
theorem sm_src (h : Sm g g') (a : Int32) : f_X1_sourceFor g' 30 a = f_X1_sourceFor g 30 a := by simp only [f_X1_sourceFor, sm_r h, sm_c h, sm_t h, f_X1_nextWithTasks, f_X1_firstWithMostTasks, sm_w h, sm_nwt_L1 h, sm_fwm_L1 h]
theorem sm_would (h : Sm g g') (a : Int32) : f_X1_wouldAct g' 30 a = f_X1_wouldAct g 30 a := by simp only [f_X1_wouldAct, sm_wants h, sm_last h, sm_isB h, sm_src h]
theorem sm_ih_L1 (h : Sm g g') : ∀ (m : Nat) (x : Int32), f_X1_isHalted_L1 30 m g' x = f_X1_isHalted_L1 30 m g x := by
  intro m
  induction m with
  | zero => intros; rfl
  | succ m ih => intros; simp only [f_X1_isHalted_L1, sm_w h, sm_would h, ih]
theorem sm_ih (h : Sm g g') : f_X1_isHalted g' 30 = f_X1_isHalted g 30 := by simp only [f_X1_isHalted, sm_cu h, sm_w h, sm_ih_L1 h]
theorem sm_halted (h : Sm g g') : f_X6_halted g' = f_X6_halted g := by simp only [f_X6_halted, sm_ih h, sm_hti h]
/-- a worker that would do nothing is idle -/
theorem act_idle {a : Int32} (h : f_X1_wouldAct g 30 a = 0) : f_X1_act g 30 a = (0, gsu g (f_wk 30 a) 3 (g (f_wk 30 a) 3 + 1)) := by
  unfold f_X1_wouldAct at h
  unfold f_X1_act
  dsimp only at h ⊢
  by_cases c1 : f_X1_wantsTask g 30 (f_wk 30 a) = 0
  · rw [if_pos c1] at h ⊢
    by_cases c2 : f_isB g (f_tk 30 (f_last g (f_wk 30 a + 3))) = 0
    · rw [if_pos c2] at h; exact absurd h (by decide)
    · rw [if_neg c2]
  · rw [if_neg c1] at h ⊢
    by_cases c2 : f_X1_sourceFor g 30 a = -2
    · unfold f_X1_take
      dsimp only
      rw [if_pos c2]
    · rw [if_neg c2] at h; exact absurd h (by decide)
theorem ih_all {wc : Nat} (hw : wc ≤ 5) (h6 : g 30 6 = nI wc) : ∀ (m k : Nat), f_X1_isHalted_L1 30 m g (nI k) ≠ 0 → ∀ w, k ≤ w → w < wc → f_X1_wouldAct g 30 (nI w) = 0 := by
  intro m
  induction m with
  | zero => intro k h; exact absurd rfl h
  | succ m ih =>
    intro k h w h1 h2
    unfold f_X1_isHalted_L1 at h
    rw [h6, if_neg (nI_ge (by omega) (by omega))] at h
    dsimp only at h
    rw [nI_1] at h
    by_cases c : f_X1_wouldAct g 30 (nI k) = 0
    · rw [if_pos c] at h
      by_cases c2 : w = k
      · rw [c2]; exact c
      · exact ih (k + 1) h w (by omega) h2
    · rw [if_neg c] at h; exact absurd rfl h
theorem pt_L2_s {P : Nat} {K : gSt → Int32 → gSt} {x b y : Int32} {m : Nat} {s : gSt} : f_X1_passTick_L2 P K x (m + 1) s b y = if (1000000 : Int32) ≤ y then K s (x + 1) else if b = 0 then K s (x + 1) else f_X1_passTick_L2 P K x m (f_X1_act s P x).2 (f_X1_act s P x).1 (y + 1) := rfl
theorem pt_idle_L2 {g0 : gSt} {K : gSt → Int32 → gSt} {w : Nat} (hw : w < 5) (h : Sm g0 g) (hb : f_X1_wouldAct g0 30 (nI w) = 0) (hK : ∀ g, Sm g0 g → Sm g0 (K g (nI (w + 1)))) (m : Nat) : Sm g0 (f_X1_passTick_L2 30 K (nI w) (m + 2) g 1 0) := by
  have ha := act_idle (g := g) (a := nI w) ((sm_would h _).trans hb)
  rw [pt_L2_s, if_neg (by decide), if_neg (by decide), ha, pt_L2_s, if_neg (by decide), if_pos rfl, nI_1, wk_n hw]
  exact hK _ (Sm_su h (by unfold Ti; omega))
theorem pt_idle_L1 {g0 : gSt} {wc : Nat} (hw : wc ≤ 5) (h6 : g0 30 6 = nI wc) (hb : ∀ w, w < wc → f_X1_wouldAct g0 30 (nI w) = 0) : ∀ (m k : Nat) (g : gSt), k ≤ wc → Sm g0 g → Sm g0 (f_X1_passTick_L1 30 m g (nI k)) := by
  intro m
  induction m with
  | zero => intro k g _ h; exact h
  | succ m ih =>
    intro k g hk h
    unfold f_X1_passTick_L1
    rw [(sm_w h).trans h6]
    by_cases c : wc ≤ k
    · rw [if_pos (nI_le c (by omega))]
      exact Sm_su h (by unfold Ti; omega)
    · rw [if_neg (nI_ge (by omega) (by omega))]
      dsimp only
      refine pt_idle_L2 (m := 999999) (by omega) ?_ (hb k (by omega)) (fun g hg => ih (k + 1) g (by omega) hg)
      rw [wk_n (by omega)]
      unfold f_X5_noteRan
      exact Sm_su h (by unfold Ti; omega)
theorem pt_idle {wc : Nat} (hw : wc ≤ 5) (h6 : g 30 6 = nI wc) (h : f_X1_isHalted g 30 ≠ 0) : Sm g (f_X1_passTick g 30) := by
  have hb : ∀ w, w < wc → f_X1_wouldAct g 30 (nI w) = 0 := by
    unfold f_X1_isHalted at h
    split at h
    · exact absurd rfl h
    · exact fun w hw1 => ih_all hw h6 _ 0 h w (by omega) hw1
  unfold f_X1_passTick
  exact pt_idle_L1 hw h6 hb _ 0 g (by omega) (Sm_rf g)
end SM
