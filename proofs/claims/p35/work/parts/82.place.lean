/-! WHERE TASKS ARE. A pool at 30: task t at 43 + t, the row j (0 the common one, w + 1 that of the worker w) at rc j, the stack of the worker w at sc w. -/
def rc (j : Nat) : Nat := if j = 0 then 40 else 62 + 6 * j
def sc (w : Nat) : Nat := 70 + 6 * w
theorem rc_0 : rc 0 = 40 := rfl
theorem rc_s (w : Nat) : rc (w + 1) = 68 + 6 * w := by unfold rc; rw [if_neg (by omega)]; omega
theorem tk_n {t : Nat} (h : t < 24) : f_tk 30 (nI t) = 43 + t := by
  unfold f_tk
  rw [if_neg (nI_pos (by omega)), if_neg (le24 h), nI_clamp (by omega)]
theorem wk_n {w : Nat} (h : w < 5) : f_wk 30 (nI w) = 67 + 6 * w := by
  unfold f_wk
  rw [if_neg (nI_pos (by omega)), if_neg (le5 h), nI_clamp (by omega)]
theorem row_n {w : Nat} (h : w < 5) : f_row 30 (nI w) = rc (w + 1) := by
  have e : ¬ nI w = -1 := fun q => by
    have h1 := nI_pos (n := w) (by omega)
    rw [q] at h1
    exact h1 (by decide)
  unfold f_row
  rw [if_neg e, wk_n h, rc_s]
  omega
theorem row_c : f_row 30 (-1) = 40 := by unfold f_row; rw [if_pos rfl]
/-- cells of rows and stacks -/
def RS (a : Nat) : Prop := a = 40 ∨ a = 41 ∨ (67 ≤ a ∧ a < 97 ∧ 1 ≤ (a - 67) % 6 ∧ (a - 67) % 6 ≤ 4)
theorem RS_r {j : Nat} (h : j ≤ 5) : RS (rc j) := by unfold RS rc; split <;> omega
theorem RS_r1 {j : Nat} (h : j ≤ 5) : RS (rc j + 1) := by unfold RS rc; split <;> omega
theorem RS_s {w : Nat} (h : w < 5) : RS (sc w) := by unfold RS sc; omega
theorem RS_s1 {w : Nat} (h : w < 5) : RS (sc w + 1) := by unfold RS sc; omega
theorem RS_t {t : Nat} (h : t < 24) : ¬ RS (43 + t) := by unfold RS; omega
theorem RS_30 : ¬ RS 30 := by unfold RS; omega
theorem RS_32 : ¬ RS 32 := by unfold RS; omega
theorem RS_42 : ¬ RS 42 := by unfold RS; omega
theorem RS_w (w : Nat) : ¬ RS (67 + 6 * w) := by unfold RS; omega
theorem RS_n (w : Nat) : ¬ RS (72 + 6 * w) := by unfold RS; omega
theorem rc_ne {i j : Nat} (h : i ≠ j) : rc i ≠ rc j ∧ rc i ≠ rc j + 1 ∧ rc i + 1 ≠ rc j ∧ rc i + 1 ≠ rc j + 1 := by
  unfold rc
  split <;> split <;> omega
theorem sc_ne {i j : Nat} (h : i ≠ j) : sc i ≠ sc j ∧ sc i ≠ sc j + 1 ∧ sc i + 1 ≠ sc j ∧ sc i + 1 ≠ sc j + 1 := by
  unfold sc; omega
theorem rs_ne (i j : Nat) : rc i ≠ sc j ∧ rc i ≠ sc j + 1 ∧ rc i + 1 ≠ sc j ∧ rc i + 1 ≠ sc j + 1 := by
  unfold rc sc
  split <;> omega
theorem RS_ne {a i : Nat} (ha : RS a) (hi : ¬ RS i) : a ≠ i := fun q => hi (q ▸ ha)
/-- how often the task t stands in all rows, on all stacks -/
def Rn (wc : Nat) (g : gSt) (t : Nat) : Nat := sm (fun j => cnt g (rc j) t) (wc + 1)
def Sn (wc : Nat) (g : gSt) (t : Nat) : Nat := sm (fun w => cnt g (sc w) t) wc
/-- rows and stacks are whole, and hold tasks alone -/
def Rk (n wc : Nat) (g : gSt) : Prop := (∀ j, j ≤ wc → rok g (rc j) ∧ ∀ y ∈ rl g (rc j), ∃ t, t < n ∧ y = nI t) ∧ (∀ w, w < wc → rok g (sc w) ∧ ∀ y ∈ rl g (sc w), ∃ t, t < n ∧ y = nI t)
/-- only rows and stacks are otherwise -/
def RF (g g' : gSt) : Prop := ∀ a b, ¬ RS a → g' a b = g a b
theorem RF_rf (g : gSt) : RF g g := fun _ _ _ => rfl
theorem RF_tr {a b c : gSt} (h1 : RF a b) (h2 : RF b c) : RF a c := fun x y h => (h2 x y h).trans (h1 x y h)
theorem RF_rm {g : gSt} {i : Nat} {x : Int32} (h0 : RS i) (h1 : RS (i + 1)) : RF g (f_rm g i x) := fun a b h => rm_fr (fun q => h (q ▸ h0)) (fun q => h (q ▸ h1))
theorem RF_ap {g : gSt} {i : Nat} {x : Int32} (h0 : RS i) (h1 : RS (i + 1)) : RF g (f_append g i x) := fun a b h => ap_fr (fun q => h (q ▸ h0)) (fun q => h (q ▸ h1))
/-- rows and stacks are as they were -/
def RE (wc : Nat) (g g' : gSt) : Prop := (∀ j, j ≤ wc → g' (rc j) 1 = g (rc j) 1 ∧ ∀ k, g' (rc j + 1) k = g (rc j + 1) k) ∧ (∀ w, w < wc → g' (sc w) 1 = g (sc w) 1 ∧ ∀ k, g' (sc w + 1) k = g (sc w + 1) k)
theorem RE_su {wc : Nat} {g g1 : gSt} {i k : Nat} {v : Int32} (hw : wc ≤ 5) (h : RE wc g g1) (hi : ¬ RS i) : RE wc g (gsu g1 i k v) := by
  refine ⟨fun j hj => ⟨?_, fun b => ?_⟩, fun w hj => ⟨?_, fun b => ?_⟩⟩
  · rw [su_ni (RS_ne (RS_r (show j ≤ 5 by omega)) hi)]; exact (h.1 j hj).1
  · rw [su_ni (RS_ne (RS_r1 (show j ≤ 5 by omega)) hi)]; exact (h.1 j hj).2 b
  · rw [su_ni (RS_ne (RS_s (show w < 5 by omega)) hi)]; exact (h.2 w hj).1
  · rw [su_ni (RS_ne (RS_s1 (show w < 5 by omega)) hi)]; exact (h.2 w hj).2 b
theorem RE_rf {wc : Nat} {g : gSt} : RE wc g g := ⟨fun _ _ => ⟨rfl, fun _ => rfl⟩, fun _ _ => ⟨rfl, fun _ => rfl⟩⟩
theorem RE_tr {wc : Nat} {g g1 g2 : gSt} (h1 : RE wc g g1) (h2 : RE wc g1 g2) : RE wc g g2 := ⟨fun j hj => ⟨((h2.1 j hj).1).trans (h1.1 j hj).1, fun k => ((h2.1 j hj).2 k).trans ((h1.1 j hj).2 k)⟩, fun j hj => ⟨((h2.2 j hj).1).trans (h1.2 j hj).1, fun k => ((h2.2 j hj).2 k).trans ((h1.2 j hj).2 k)⟩⟩
theorem RE_Rk {n wc : Nat} {g g' : gSt} (h : RE wc g g') (hk : Rk n wc g) : Rk n wc g' := by
  refine ⟨fun j hj => ⟨rok_same (h.1 j hj).1 (hk.1 j hj).1, ?_⟩, fun w hj => ⟨rok_same (h.2 w hj).1 (hk.2 w hj).1, ?_⟩⟩
  · rw [rl_same (h.1 j hj).1 (h.1 j hj).2]; exact (hk.1 j hj).2
  · rw [rl_same (h.2 w hj).1 (h.2 w hj).2]; exact (hk.2 w hj).2
theorem RE_Rn {wc : Nat} {g g' : gSt} (h : RE wc g g') (t : Nat) : Rn wc g' t = Rn wc g t := sm_congr (fun j hj => cnt_same (h.1 j (by omega)).1 (h.1 j (by omega)).2)
theorem RE_Sn {wc : Nat} {g g' : gSt} (h : RE wc g g') (t : Nat) : Sn wc g' t = Sn wc g t := sm_congr (fun j hj => cnt_same (h.2 j hj).1 (h.2 j hj).2)
theorem Rk_up {n n' wc : Nat} {g : gSt} (h : Rk n wc g) (hn : n ≤ n') : Rk n' wc g := ⟨fun j hj => ⟨(h.1 j hj).1, fun y hy => by obtain ⟨t, a, b⟩ := (h.1 j hj).2 y hy; exact ⟨t, by omega, b⟩⟩, fun j hj => ⟨(h.2 j hj).1, fun y hy => by obtain ⟨t, a, b⟩ := (h.2 j hj).2 y hy; exact ⟨t, by omega, b⟩⟩⟩
/-- a task that isn't there stands nowhere -/
theorem Rn_out {n wc t : Nat} {g : gSt} (h : Rk n wc g) (hn : n ≤ 24) (ht : n ≤ t) (h31 : t < 2 ^ 31) : Rn wc g t = 0 ∧ Sn wc g t = 0 := by
  refine ⟨sm_0 (fun j hj => List.count_eq_zero.mpr (fun q => ?_)), sm_0 (fun j hj => List.count_eq_zero.mpr (fun q => ?_))⟩
  · obtain ⟨s, hs, e⟩ := (h.1 j (by omega)).2 _ q
    have := (nI_eq h31 (by omega)).mp e
    omega
  · obtain ⟨s, hs, e⟩ := (h.2 j hj).2 _ q
    have := (nI_eq h31 (by omega)).mp e
    omega
/-! one row, one stack changes -/
theorem cnt_fr {g g' : gSt} {i t : Nat} (h : ∀ b, g' i b = g i b) (h1 : ∀ b, g' (i + 1) b = g (i + 1) b) : cnt g' i t = cnt g i t := cnt_same (h 1) h1
section OneRow
variable {n wc j t s : Nat} {g : gSt}
theorem rmr_o {x : Int32} {i : Nat} (h : i ≠ j) : (f_rm g (rc j) x (rc i) 1 = g (rc i) 1 ∧ ∀ k, f_rm g (rc j) x (rc i + 1) k = g (rc i + 1) k) := ⟨rm_fr (rc_ne h).1 (rc_ne h).2.1, fun _ => rm_fr (rc_ne h).2.2.1 (rc_ne h).2.2.2⟩
theorem rmr_s {x : Int32} {i : Nat} : (f_rm g (rc j) x (sc i) 1 = g (sc i) 1 ∧ ∀ k, f_rm g (rc j) x (sc i + 1) k = g (sc i + 1) k) := ⟨rm_fr (fun q => (rs_ne j i).1 q.symm) (fun q => (rs_ne j i).2.2.1 q.symm), fun _ => rm_fr (fun q => (rs_ne j i).2.1 q.symm) (fun q => (rs_ne j i).2.2.2 q.symm)⟩
theorem rms_o {x : Int32} {i : Nat} (h : i ≠ j) : (f_rm g (sc j) x (sc i) 1 = g (sc i) 1 ∧ ∀ k, f_rm g (sc j) x (sc i + 1) k = g (sc i + 1) k) := ⟨rm_fr (sc_ne h).1 (sc_ne h).2.1, fun _ => rm_fr (sc_ne h).2.2.1 (sc_ne h).2.2.2⟩
theorem rms_r {x : Int32} {i : Nat} : (f_rm g (sc j) x (rc i) 1 = g (rc i) 1 ∧ ∀ k, f_rm g (sc j) x (rc i + 1) k = g (rc i + 1) k) := ⟨rm_fr (rs_ne i j).1 (rs_ne i j).2.1, fun _ => rm_fr (rs_ne i j).2.2.1 (rs_ne i j).2.2.2⟩
theorem apr_o {x : Int32} {i : Nat} (h : i ≠ j) : (f_append g (rc j) x (rc i) 1 = g (rc i) 1 ∧ ∀ k, f_append g (rc j) x (rc i + 1) k = g (rc i + 1) k) := ⟨ap_fr (rc_ne h).1 (rc_ne h).2.1, fun _ => ap_fr (rc_ne h).2.2.1 (rc_ne h).2.2.2⟩
theorem apr_s {x : Int32} {i : Nat} : (f_append g (rc j) x (sc i) 1 = g (sc i) 1 ∧ ∀ k, f_append g (rc j) x (sc i + 1) k = g (sc i + 1) k) := ⟨ap_fr (fun q => (rs_ne j i).1 q.symm) (fun q => (rs_ne j i).2.2.1 q.symm), fun _ => ap_fr (fun q => (rs_ne j i).2.1 q.symm) (fun q => (rs_ne j i).2.2.2 q.symm)⟩
theorem aps_o {x : Int32} {i : Nat} (h : i ≠ j) : (f_append g (sc j) x (sc i) 1 = g (sc i) 1 ∧ ∀ k, f_append g (sc j) x (sc i + 1) k = g (sc i + 1) k) := ⟨ap_fr (sc_ne h).1 (sc_ne h).2.1, fun _ => ap_fr (sc_ne h).2.2.1 (sc_ne h).2.2.2⟩
theorem aps_r {x : Int32} {i : Nat} : (f_append g (sc j) x (rc i) 1 = g (rc i) 1 ∧ ∀ k, f_append g (sc j) x (rc i + 1) k = g (rc i + 1) k) := ⟨ap_fr (rs_ne i j).1 (rs_ne i j).2.1, fun _ => ap_fr (rs_ne i j).2.2.1 (rs_ne i j).2.2.2⟩
/-- taken out of a row -/
theorem Rk_rmr (hk : Rk n wc g) (x : Int32) : Rk n wc (f_rm g (rc j) x) := by
  refine ⟨fun i hi => ?_, fun i hi => ⟨rok_same rmr_s.1 (hk.2 i hi).1, ?_⟩⟩
  · by_cases c : i = j
    · subst c
      refine ⟨rm_rok, fun y hy => ?_⟩
      rw [rm_rl (hk.1 i hi).1] at hy
      exact (hk.1 i hi).2 y (List.mem_filter.mp hy).1
    · refine ⟨rok_same (rmr_o c).1 (hk.1 i hi).1, ?_⟩
      rw [rl_same (rmr_o c).1 (rmr_o c).2]
      exact (hk.1 i hi).2
  · rw [rl_same rmr_s.1 rmr_s.2]
    exact (hk.2 i hi).2
theorem Rk_rms (hk : Rk n wc g) (x : Int32) : Rk n wc (f_rm g (sc j) x) := by
  refine ⟨fun i hi => ⟨rok_same rms_r.1 (hk.1 i hi).1, ?_⟩, fun i hi => ?_⟩
  · rw [rl_same rms_r.1 rms_r.2]
    exact (hk.1 i hi).2
  · by_cases c : i = j
    · subst c
      refine ⟨rm_rok, fun y hy => ?_⟩
      rw [rm_rl (hk.2 i hi).1] at hy
      exact (hk.2 i hi).2 y (List.mem_filter.mp hy).1
    · refine ⟨rok_same (rms_o c).1 (hk.2 i hi).1, ?_⟩
      rw [rl_same (rms_o c).1 (rms_o c).2]
      exact (hk.2 i hi).2
theorem Rk_apr (hk : Rk n wc g) (hl : (rl g (rc j)).length < 24) (ht : t < n) : Rk n wc (f_append g (rc j) (nI t)) := by
  refine ⟨fun i hi => ?_, fun i hi => ⟨rok_same apr_s.1 (hk.2 i hi).1, ?_⟩⟩
  · by_cases c : i = j
    · subst c
      refine ⟨ap_rok (hk.1 i hi).1 hl, fun y hy => ?_⟩
      rw [ap_rl (hk.1 i hi).1 hl] at hy
      rcases List.mem_append.mp hy with h | h
      · exact (hk.1 i hi).2 y h
      · exact ⟨t, ht, List.mem_singleton.mp h⟩
    · refine ⟨rok_same (apr_o c).1 (hk.1 i hi).1, ?_⟩
      rw [rl_same (apr_o c).1 (apr_o c).2]
      exact (hk.1 i hi).2
  · rw [rl_same apr_s.1 apr_s.2]
    exact (hk.2 i hi).2
theorem Rk_aps (hk : Rk n wc g) (hl : (rl g (sc j)).length < 24) (ht : t < n) : Rk n wc (f_append g (sc j) (nI t)) := by
  refine ⟨fun i hi => ⟨rok_same aps_r.1 (hk.1 i hi).1, ?_⟩, fun i hi => ?_⟩
  · rw [rl_same aps_r.1 aps_r.2]
    exact (hk.1 i hi).2
  · by_cases c : i = j
    · subst c
      refine ⟨ap_rok (hk.2 i hi).1 hl, fun y hy => ?_⟩
      rw [ap_rl (hk.2 i hi).1 hl] at hy
      rcases List.mem_append.mp hy with h | h
      · exact (hk.2 i hi).2 y h
      · exact ⟨t, ht, List.mem_singleton.mp h⟩
    · refine ⟨rok_same (aps_o c).1 (hk.2 i hi).1, ?_⟩
      rw [rl_same (aps_o c).1 (aps_o c).2]
      exact (hk.2 i hi).2
/-- the counts behind it -/
theorem Rn_rmr (hk : Rk n wc g) (hj : j ≤ wc) (ht : t < 2 ^ 31) (hs : s < 2 ^ 31) : Rn wc (f_rm g (rc j) (nI t)) s + (if s = t then cnt g (rc j) s else 0) = Rn wc g s := by
  have h1 : sm (fun i => cnt (f_rm g (rc j) (nI t)) (rc i) s) (wc + 1) + cnt g (rc j) s = sm (fun i => cnt g (rc i) s) (wc + 1) + cnt (f_rm g (rc j) (nI t)) (rc j) s := sm_upd (fun i _ c => cnt_same (rmr_o c).1 (rmr_o c).2) (by omega)
  rw [cnt_rm (hk.1 j hj).1 ht hs] at h1
  unfold Rn
  split
  · rename_i c; rw [if_pos c] at h1; omega
  · rename_i c; rw [if_neg c] at h1; omega
theorem Sn_rmr : Sn wc (f_rm g (rc j) (nI t)) s = Sn wc g s := sm_congr (fun i _ => cnt_same rmr_s.1 rmr_s.2)
theorem Sn_rms (hk : Rk n wc g) (hj : j < wc) (ht : t < 2 ^ 31) (hs : s < 2 ^ 31) : Sn wc (f_rm g (sc j) (nI t)) s + (if s = t then cnt g (sc j) s else 0) = Sn wc g s := by
  have h1 : sm (fun i => cnt (f_rm g (sc j) (nI t)) (sc i) s) wc + cnt g (sc j) s = sm (fun i => cnt g (sc i) s) wc + cnt (f_rm g (sc j) (nI t)) (sc j) s := sm_upd (fun i _ c => cnt_same (rms_o c).1 (rms_o c).2) hj
  rw [cnt_rm (hk.2 j hj).1 ht hs] at h1
  unfold Sn
  split
  · rename_i c; rw [if_pos c] at h1; omega
  · rename_i c; rw [if_neg c] at h1; omega
theorem Rn_rms : Rn wc (f_rm g (sc j) (nI t)) s = Rn wc g s := sm_congr (fun i _ => cnt_same rms_r.1 rms_r.2)
theorem Rn_apr (hk : Rk n wc g) (hj : j ≤ wc) (hl : (rl g (rc j)).length < 24) (ht : t < 2 ^ 31) (hs : s < 2 ^ 31) : Rn wc (f_append g (rc j) (nI t)) s = Rn wc g s + (if s = t then 1 else 0) := by
  have h1 : sm (fun i => cnt (f_append g (rc j) (nI t)) (rc i) s) (wc + 1) + cnt g (rc j) s = sm (fun i => cnt g (rc i) s) (wc + 1) + cnt (f_append g (rc j) (nI t)) (rc j) s := sm_upd (fun i _ c => cnt_same (apr_o c).1 (apr_o c).2) (by omega)
  rw [cnt_ap (hk.1 j hj).1 hl ht hs] at h1
  unfold Rn
  omega
theorem Sn_apr : Sn wc (f_append g (rc j) (nI t)) s = Sn wc g s := sm_congr (fun i _ => cnt_same apr_s.1 apr_s.2)
theorem Sn_aps (hk : Rk n wc g) (hj : j < wc) (hl : (rl g (sc j)).length < 24) (ht : t < 2 ^ 31) (hs : s < 2 ^ 31) : Sn wc (f_append g (sc j) (nI t)) s = Sn wc g s + (if s = t then 1 else 0) := by
  have h1 : sm (fun i => cnt (f_append g (sc j) (nI t)) (sc i) s) wc + cnt g (sc j) s = sm (fun i => cnt g (sc i) s) wc + cnt (f_append g (sc j) (nI t)) (sc j) s := sm_upd (fun i _ c => cnt_same (aps_o c).1 (aps_o c).2) hj
  rw [cnt_ap (hk.2 j hj).1 hl ht hs] at h1
  unfold Sn
  omega
theorem Rn_aps : Rn wc (f_append g (sc j) (nI t)) s = Rn wc g s := sm_congr (fun i _ => cnt_same aps_r.1 aps_r.2)
/-- there is a place left for a task that isn't in the row -/
theorem room_r (hk : Rk n wc g) (hn : n ≤ 24) (hj : j ≤ wc) (ht : t < n) (h0 : cnt g (rc j) t = 0) (h1 : ∀ s, s < n → cnt g (rc j) s ≤ 1) : (rl g (rc j)).length < 24 := by
  rw [len_sm hn (hk.1 j hj).2]
  have e : sm (fun s => (rl g (rc j)).count (nI s)) n ≤ sm (fun s => if s = t then 0 else 1) n := sm_mono (fun s hs => by
    by_cases c : s = t
    · subst c
      rw [if_pos rfl]
      exact Nat.le_of_eq h0
    · rw [if_neg c]
      exact h1 s hs)
  have e2 : sm (fun s => if s = t then 0 else 1) n + sm (fun s => if s = t then 1 else 0) n = sm (fun _ => 1) n := by
    rw [← sm_add]
    exact sm_congr (fun s _ => by split <;> rfl)
  have e3 : ∀ k, sm (fun _ => 1) k = k := by
    intro k
    induction k with
    | zero => rfl
    | succ k ih => show sm (fun _ => 1) k + 1 = k + 1; rw [ih]
  rw [sm_one, if_pos ht, e3] at e2
  omega
theorem room_s (hk : Rk n wc g) (hn : n ≤ 24) (hj : j < wc) (ht : t < n) (h0 : cnt g (sc j) t = 0) (h1 : ∀ s, s < n → cnt g (sc j) s ≤ 1) : (rl g (sc j)).length < 24 := by
  rw [len_sm hn (hk.2 j hj).2]
  have e : sm (fun s => (rl g (sc j)).count (nI s)) n ≤ sm (fun s => if s = t then 0 else 1) n := sm_mono (fun s hs => by
    by_cases c : s = t
    · subst c
      rw [if_pos rfl]
      exact Nat.le_of_eq h0
    · rw [if_neg c]
      exact h1 s hs)
  have e2 : sm (fun s => if s = t then 0 else 1) n + sm (fun s => if s = t then 1 else 0) n = sm (fun _ => 1) n := by
    rw [← sm_add]
    exact sm_congr (fun s _ => by split <;> rfl)
  have e3 : ∀ k, sm (fun _ => 1) k = k := by
    intro k
    induction k with
    | zero => rfl
    | succ k ih => show sm (fun _ => 1) k + 1 = k + 1; rw [ih]
  rw [sm_one, if_pos ht, e3] at e2
  omega
theorem cnt_Rn {i : Nat} (hj : i ≤ wc) : cnt g (rc i) t ≤ Rn wc g t := sm_le (f := fun j => cnt g (rc j) t) (by omega)
theorem cnt_Sn {i : Nat} (hj : i < wc) : cnt g (sc i) t ≤ Sn wc g t := sm_le (f := fun j => cnt g (sc j) t) hj
theorem cnt_mem {i : Nat} (h : nI t ∈ rl g i) : 1 ≤ cnt g i t := List.count_pos_iff.mpr h
end OneRow
