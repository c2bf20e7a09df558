/-! WHAT THE LAW SEES. LI n wc ck many st: what holds of the object between two of the law's rounds. -/
def BK (many : Nat) (st : gSt) : Prop := st 1 2 = nI many ∧ many ≤ 8
def LI (n wc ck many : Nat) (st : gSt) : Prop := J n wc ck 0 st ∧ Tt wc ck 0 st ∧ CI st ∧ BK many st ∧ ck ≤ 100
/-- the object is as it was, as far as is seen; the trial pool may be another -/
def As (st st' : gSt) : Prop := (∀ i k, i < 97 → st' i k = st i k) ∧ CI st'
theorem As_tr {a b c : gSt} (h1 : As a b) (h2 : As b c) : As a c := ⟨fun i k hi => (h2.1 i k hi).trans (h1.1 i k hi), h2.2⟩
section LAWM
variable {n wc ck many : Nat} {st st' : gSt}
theorem RE_lt (h : ∀ i k, i < 97 → st' i k = st i k) (hw : wc ≤ 5) : RE wc st st' := by
  refine ⟨fun j hj => ⟨h _ _ ?_, fun k => h _ _ ?_⟩, fun j hj => ⟨h _ _ ?_, fun k => h _ _ ?_⟩⟩ <;> first | (unfold rc; split <;> omega) | (unfold sc; omega)
theorem LI_As (h : LI n wc ck many st) (ha : As st st') : LI n wc ck many st' := by
  obtain ⟨h1, h2, h3, h4, h5⟩ := h
  have hw : wc ≤ 5 := h1.1.1.2.2.1
  exact ⟨J_same h1 (fun a b hj => ha.1 a b (by unfold JR at hj; omega)) (RE_lt ha.1 hw), Tt_same h2 (fun w hw1 b _ _ => ha.1 _ _ (by omega)), ha.2, ⟨(ha.1 1 2 (by omega)).trans h4.1, h4.2⟩, h5⟩
/-- the pool's tick, twice -/
def pt2 (st : gSt) : gSt := f_X1_passTick (f_X1_passTick st 30) 30
theorem Fr_lo {g g' : gSt} (h : Fr g g') (i k : Nat) (hi : i < 30 ∨ 97 ≤ i) : g' i k = g i k := h i k (by unfold Wr Wr0; omega)
theorem CI_Fr (h : CI st) (hf : Fr st st') : CI st' := fun c k hc hn => by
  rw [hf (97 + c) k (by unfold Wr Wr0; omega), hf (30 + c) k (Cp_Wr hn)]
  exact h c k hc hn
/-- two ticks -/
theorem pt2_ok (h : J n wc ck 0 st) (ht : Tt wc ck 0 st) (hck : ck ≤ 100) : ∃ n', n ≤ n' ∧ J n' wc (ck + 2) 0 (pt2 st) ∧ Tt wc (ck + 2) 0 (pt2 st) ∧ Fr st (pt2 st) ∧ Mo n st (pt2 st) := by
  obtain ⟨n1, a0, a1, a2, a3, a4⟩ := pt_ok h ht (by omega)
  obtain ⟨n2, b0, b1, b2, b3, b4⟩ := pt_ok a1 a2 (by omega)
  exact ⟨n2, by omega, b1, b2, Fr_tr a3 b3, Mo_tr a0 a4 b4⟩
theorem LI_pt2 (h : LI n wc ck many st) (hck : ck + 2 ≤ 100) : ∃ n', n ≤ n' ∧ LI n' wc (ck + 2) many (pt2 st) ∧ Mo n st (pt2 st) := by
  obtain ⟨h1, h2, h3, h4, h5⟩ := h
  obtain ⟨n', a0, a1, a2, a3, a4⟩ := pt2_ok h1 h2 h5
  exact ⟨n', a0, ⟨a1, a2, CI_Fr h3 a3, ⟨(Fr_lo a3 1 2 (by omega)).trans h4.1, h4.2⟩, hck⟩, a4⟩
/-- a tick sees the pool alone -/
theorem pt_As (h : ∀ i k, i < 97 → st' i k = st i k) : ∀ i k, i < 97 → f_X1_passTick st' 30 i k = f_X1_passTick st 30 i k := by
  have e : f_X1_passTick st 30 = gv st 30 30 (f_X1_passTick st' 30) := by
    rw [← v_pt (bg := st) (B := 30) (P := 30) (Nat.le_refl _) (Nat.le_refl _), gv_self h]
  intro i k hi
  rw [e]
  unfold gv
  by_cases c : i < 30
  · rw [if_pos c]
  · rw [if_neg c, if_pos (by omega), show i - 30 + 30 = i by omega]
theorem pt2_As (h : ∀ i k, i < 97 → st' i k = st i k) : ∀ i k, i < 97 → pt2 st' i k = pt2 st i k := pt_As (pt_As h)
/-! the trial -/
/-- s is a trial of what x is -/
def Tr (st x s : gSt) : Prop := gv st 30 97 s = x ∧ ∀ i k, i < 97 → s i k = st i k
theorem Tr_at {x s : gSt} (h : Tr st x s) (c k : Nat) (hc : c < 67) : s (97 + c) k = x (30 + c) k := by
  have e := congrFun (congrFun h.1 (30 + c)) k
  rw [gv_at (by omega) hc] at e
  exact e
theorem Tr_copy (h : CI st) : Tr st st (f_X1_copyFrom st 97 30) := ⟨copy_view h, fun i k hi => ((copy_ok st).1 i k).1 (Or.inl hi)⟩
theorem Tr_pt {x s : gSt} (h : Tr st x s) (hf : Fr x (f_X1_passTick x 30)) (hx : ∀ i k, i < 30 → x i k = st i k) : Tr st (f_X1_passTick x 30) (f_X1_passTick s 97) := by
  have e1 : gv st 30 97 (f_X1_passTick s 97) = f_X1_passTick x 30 := by
    rw [← v_pt (bg := st) (B := 30) (P := 97) (by omega) (by omega), h.1]
  have e2 : gv s 97 97 (f_X1_passTick s 97) = f_X1_passTick s 97 := by
    have q : gv s 97 97 s = s := by
      funext i k
      unfold gv
      split
      · rfl
      · split
        · rw [show i - 97 + 97 = i by omega]
        · rfl
    have r := v_pt (bg := s) (B := 97) (P := 97) (st := s) (by omega) (by omega)
    rw [q] at r
    exact r.symm
  refine ⟨e1, fun i k hi => ?_⟩
  by_cases c : i < 30
  · have e3 := congrFun (congrFun e1 i) k
    rw [gv_lo c] at e3
    rw [e3, Fr_lo hf i k (Or.inl c)]
    exact hx i k c
  · have e4 := congrFun (congrFun e2 i) k
    unfold gv at e4
    rw [if_neg c, if_neg (by omega)] at e4
    rw [← e4]
    exact h.2 i k hi
theorem Tr_As {x s : gSt} (h : Tr st x s) (hc : CI st) (hf : Fr st x) : As st s := by
  refine ⟨h.2, fun c k hc1 hn => ?_⟩
  rw [Tr_at h c k hc1, hf (30 + c) k (Cp_Wr hn), h.2 (30 + c) k (by omega)]
theorem Tr_isO {x s : gSt} (h : Tr st x s) (t : Int32) : f_isO s (f_tk 97 t) = f_isO x (f_tk 30 t) := by
  unfold f_isO
  rw [otk_eq, otk_eq, Tr_at h _ _ (otk_lt t)]
theorem Tr_ih {x s : gSt} (h : Tr st x s) : f_X1_isHalted s 97 = f_X1_isHalted x 30 := by
  rw [← h.1]
  exact (v_halt (by omega) (by omega)).symm
/-- three trials: now, behind one tick, behind two, behind three -/
theorem Tr_all (h : LI n wc ck many st) : ∃ s0 s1 s2 s3 x1 x2 x3 : gSt, f_X1_copyFrom st 97 30 = s0 ∧ f_X1_passTick s0 97 = s1 ∧ f_X1_passTick s1 97 = s2 ∧ f_X1_passTick s2 97 = s3 ∧ f_X1_passTick st 30 = x1 ∧ f_X1_passTick x1 30 = x2 ∧ x2 = pt2 st ∧ Tr st st s0 ∧ Tr st x1 s1 ∧ Tr st x2 s2 ∧ Tr st x3 s3 ∧ (Fr st x1 ∧ Fr st x2 ∧ Fr st x3) ∧ (Mo n st x1 ∧ Mo n st x2 ∧ ∃ n1, n ≤ n1 ∧ Mo n1 x1 x2) ∧ (st 30 11 = nI ck ∧ x1 30 11 = nI (ck + 1) ∧ x2 30 11 = nI (ck + 2) ∧ x3 30 11 = nI (ck + 3)) := by
  obtain ⟨h1, h2, h3, h4, h5⟩ := h
  obtain ⟨n1, a0, a1, a2, a3, a4⟩ := pt_ok h1 h2 (by omega)
  obtain ⟨n2, b0, b1, b2, b3, b4⟩ := pt_ok a1 a2 (by omega)
  obtain ⟨n3, c0, c1, c2, c3, c4⟩ := pt_ok b1 b2 (by omega)
  have t0 := Tr_copy h3
  have t1 := Tr_pt t0 a3 (fun i k _ => rfl)
  have t2 := Tr_pt t1 b3 (fun i k hi => Fr_lo a3 i k (Or.inl hi))
  have t3 := Tr_pt t2 c3 (fun i k hi => Fr_lo (Fr_tr a3 b3) i k (Or.inl hi))
  exact ⟨_, _, _, _, _, _, _, rfl, rfl, rfl, rfl, rfl, rfl, rfl, t0, t1, t2, t3, ⟨a3, Fr_tr a3 b3, Fr_tr a3 (Fr_tr b3 c3)⟩, ⟨a4, Mo_tr a0 a4 b4, n1, a0, b4⟩, ⟨h1.1.2.1.2.2, a1.1.2.1.2.2, b1.1.2.1.2.2, c1.1.2.1.2.2⟩⟩
theorem clk_d {a : Nat} (b : Nat) : nI (a + b) - nI a = nI b := by rw [pk_sub (by omega), Nat.add_sub_cancel_left]
theorem oi_s {t a : Int32} {m : Nat} {s : gSt} {x : Int32} : f_X6_overIn_L1 t a (m + 1) s x = if a ≤ x then if (f_isO s (f_tk 97 t)) = 0 then ((-1 : Int32), s) else (((s 97 11) - (s 30 11)), s) else if (f_isO s (f_tk 97 t)) = 0 then f_X6_overIn_L1 t a m (f_X1_passTick s 97) (x + 1) else if (f_isO s (f_tk 97 t)) = 0 then ((-1 : Int32), s) else (((s 97 11) - (s 30 11)), s) := rfl
theorem hi_s {a : Int32} {m : Nat} {s : gSt} {x : Int32} : f_X6_haltsIn_L1 a (m + 1) s x = if a ≤ x then if (f_X1_isHalted s 97) = 0 then ((-1 : Int32), s) else (((s 97 11) - (s 30 11)), s) else if (f_X1_isHalted s 97) = 0 then f_X6_haltsIn_L1 a m (f_X1_passTick s 97) (x + 1) else if (f_X1_isHalted s 97) = 0 then ((-1 : Int32), s) else (((s 97 11) - (s 30 11)), s) := rfl
/-- overIn(task, 2) -/
theorem overIn_ok (h : LI n wc ck many st) {t : Nat} (ht : t < n) : As st (f_X6_overIn st (nI t) 2).2 ∧ (((f_X6_overIn st (nI t) 2).1 = 0) ↔ ¬ st (43 + t) 2 < 4) ∧ ((¬ (f_X6_overIn st (nI t) 2).1 < 0) ↔ ¬ pt2 st (43 + t) 2 < 4) := by
  have hn : n ≤ 24 := h.1.1.1.1
  obtain ⟨s0, s1, s2, s3, x1, x2, x3, e0, e1, e2, e3, f1, f2, ep, t0, t1, t2, t3, ⟨fr1, fr2, fr3⟩, ⟨m1, m2, n1, hn1, m3⟩, ⟨c0, c1, c2, c3⟩⟩ := Tr_all h
  have o0 := Tr_isO t0 (nI t)
  have o1 := Tr_isO t1 (nI t)
  have o2 := Tr_isO t2 (nI t)
  rw [tk_n (by omega)] at o0 o1 o2
  have k0 : s0 97 11 - s0 30 11 = 0 := by rw [Tr_at t0 0 11 (by omega), t0.2 30 11 (by omega)]; show st 30 11 - st 30 11 = 0; rw [c0]; exact clk_d (a := ck) 0
  have k1 : s1 97 11 - s1 30 11 = 1 := by rw [Tr_at t1 0 11 (by omega), t1.2 30 11 (by omega)]; show x1 30 11 - st 30 11 = 1; rw [c0, c1]; exact clk_d 1
  have k2 : s2 97 11 - s2 30 11 = 2 := by rw [Tr_at t2 0 11 (by omega), t2.2 30 11 (by omega)]; show x2 30 11 - st 30 11 = 2; rw [c0, c2]; exact clk_d 2
  have ee : f_X6_overIn st (nI t) 2 = f_X6_overIn_L1 (nI t) 2 3 s0 0 := by rw [← e0]; rfl
  rw [ee, oi_s, if_neg (by decide), o0, isO_eq, ← ep]
  by_cases a0 : st (43 + t) 2 < 4
  · rw [if_pos a0, if_pos rfl, e1, oi_s, if_neg (by decide), o1, isO_eq]
    by_cases a1 : x1 (43 + t) 2 < 4
    · rw [if_pos a1, if_pos rfl, e2, oi_s, if_pos (by decide), o2, isO_eq]
      by_cases a2 : x2 (43 + t) 2 < 4
      · rw [if_pos a2, if_pos rfl]
        dsimp only
        exact ⟨Tr_As t2 h.2.2.1 fr2, ⟨fun q => absurd q (by decide), fun q => absurd a0 q⟩, ⟨fun q => absurd (by decide) q, fun q => absurd a2 q⟩⟩
      · rw [if_neg a2, if_neg (by decide), k2]
        dsimp only
        exact ⟨Tr_As t2 h.2.2.1 fr2, ⟨fun q => absurd q (by decide), fun q => absurd a0 q⟩, ⟨fun _ => a2, fun _ => by decide⟩⟩
    · have a2 : ¬ x2 (43 + t) 2 < 4 := by rw [(m3 t (by omega) a1).1]; exact a1
      rw [if_neg a1, if_neg (by decide), if_neg (by decide), k1]
      dsimp only
      exact ⟨Tr_As t1 h.2.2.1 fr1, ⟨fun q => absurd q (by decide), fun q => absurd a0 q⟩, ⟨fun _ => a2, fun _ => by decide⟩⟩
  · have a2 : ¬ x2 (43 + t) 2 < 4 := by rw [(m2 t ht a0).1]; exact a0
    rw [if_neg a0, if_neg (by decide), if_neg (by decide), k0]
    dsimp only
    exact ⟨Tr_As t0 h.2.2.1 (Fr_rf st), ⟨fun _ => a0, fun _ => rfl⟩, ⟨fun _ => a2, fun _ => by decide⟩⟩
/-- valueIn(task, 2) -/
theorem valueIn_ok (h : LI n wc ck many st) {t : Nat} (ht : t < n) : As st (f_X6_valueIn st (nI t) 2).2 ∧ (f_X6_valueIn st (nI t) 2).1 = pt2 st (43 + t) 4 := by
  have hn : n ≤ 24 := h.1.1.1.1
  obtain ⟨s0, s1, s2, s3, x1, x2, x3, e0, e1, e2, e3, f1, f2, ep, t0, t1, t2, t3, ⟨fr1, fr2, fr3⟩, -, -⟩ := Tr_all h
  have ee : f_X6_valueIn st (nI t) 2 = (s2 (f_tk 97 (nI t)) 4, s2) := by rw [← e2, ← e1, ← e0]; rfl
  rw [ee, ← ep]
  refine ⟨Tr_As t2 h.2.2.1 fr2, ?_⟩
  show s2 (f_tk 97 (nI t)) 4 = x2 (43 + t) 4
  rw [otk_eq, Tr_at t2 _ _ (otk_lt _), ← otk_eq, tk_n (by omega)]
/-- haltsIn(3) -/
theorem haltsIn_ok (h : LI n wc ck many st) : As st (f_X6_haltsIn st 3).2 ∧ (((f_X6_haltsIn st 3).1 = 0) ↔ f_X1_isHalted st 30 ≠ 0) ∧ ((f_X6_haltsIn st 3).1 = 2 → f_X1_isHalted (pt2 st) 30 ≠ 0) := by
  obtain ⟨s0, s1, s2, s3, x1, x2, x3, e0, e1, e2, e3, f1, f2, ep, t0, t1, t2, t3, ⟨fr1, fr2, fr3⟩, -, ⟨c0, c1, c2, c3⟩⟩ := Tr_all h
  have o0 := Tr_ih t0
  have o1 := Tr_ih t1
  have o2 := Tr_ih t2
  have o3 := Tr_ih t3
  have k0 : s0 97 11 - s0 30 11 = 0 := by rw [Tr_at t0 0 11 (by omega), t0.2 30 11 (by omega)]; show st 30 11 - st 30 11 = 0; rw [c0]; exact clk_d (a := ck) 0
  have k1 : s1 97 11 - s1 30 11 = 1 := by rw [Tr_at t1 0 11 (by omega), t1.2 30 11 (by omega)]; show x1 30 11 - st 30 11 = 1; rw [c0, c1]; exact clk_d 1
  have k2 : s2 97 11 - s2 30 11 = 2 := by rw [Tr_at t2 0 11 (by omega), t2.2 30 11 (by omega)]; show x2 30 11 - st 30 11 = 2; rw [c0, c2]; exact clk_d 2
  have k3 : s3 97 11 - s3 30 11 = 3 := by rw [Tr_at t3 0 11 (by omega), t3.2 30 11 (by omega)]; show x3 30 11 - st 30 11 = 3; rw [c0, c3]; exact clk_d 3
  have ee : f_X6_haltsIn st 3 = f_X6_haltsIn_L1 3 4 s0 0 := by rw [← e0]; rfl
  rw [ee, hi_s, if_neg (by decide), o0, ← ep]
  by_cases a0 : f_X1_isHalted st 30 = 0
  · rw [if_pos a0, e1, hi_s, if_neg (by decide), o1]
    by_cases a1 : f_X1_isHalted x1 30 = 0
    · rw [if_pos a1, e2, hi_s, if_neg (by decide), o2]
      by_cases a2 : f_X1_isHalted x2 30 = 0
      · rw [if_pos a2, e3, hi_s, if_pos (by decide), o3]
        by_cases a3 : f_X1_isHalted x3 30 = 0
        · rw [if_pos a3]
          dsimp only
          exact ⟨Tr_As t3 h.2.2.1 fr3, ⟨fun q => absurd q (by decide), fun q => absurd a0 q⟩, fun q => absurd q (by decide)⟩
        · rw [if_neg a3, k3]
          dsimp only
          exact ⟨Tr_As t3 h.2.2.1 fr3, ⟨fun q => absurd q (by decide), fun q => absurd a0 q⟩, fun q => absurd q (by decide)⟩
      · rw [if_neg a2, if_neg a2, k2]
        dsimp only
        exact ⟨Tr_As t2 h.2.2.1 fr2, ⟨fun q => absurd q (by decide), fun q => absurd a0 q⟩, fun _ => a2⟩
    · rw [if_neg a1, if_neg a1, k1]
      dsimp only
      exact ⟨Tr_As t1 h.2.2.1 fr1, ⟨fun q => absurd q (by decide), fun q => absurd a0 q⟩, fun q => absurd q (by decide)⟩
  · rw [if_neg a0, if_neg a0, k0]
    dsimp only
    exact ⟨Tr_As t0 h.2.2.1 (Fr_rf st), ⟨fun _ => a0, fun _ => rfl⟩, fun q => absurd q (by decide)⟩
/-- tick(2) -/
theorem tick_eq : f_X6_tick st 2 = (f_X1_countUnfinished (pt2 st) 30, pt2 st) := rfl
/-- what is halted stays so -/
theorem halted_stays (h : LI n wc ck many st) (hh : f_X1_isHalted st 30 ≠ 0) : f_X6_halted (pt2 st) = f_X6_halted st := by
  have hw := h.1.1.1.2.2.1
  have h6 := h.1.1.2.1.2.1
  have s1 := pt_idle hw h6 hh
  have h61 : f_X1_passTick st 30 30 6 = nI wc := (sm_w s1).trans h6
  have hh1 : f_X1_isHalted (f_X1_passTick st 30) 30 ≠ 0 := by rw [sm_ih s1]; exact hh
  have s2 := pt_idle hw h61 hh1
  exact sm_halted (Sm_tr s1 s2)
theorem halted_0 : f_X6_halted st = 0 ↔ f_X1_isHalted st 30 = 0 := by
  unfold f_X6_halted
  by_cases c : f_X1_isHalted st 30 = 0
  · rw [if_pos c]; exact ⟨fun _ => c, fun _ => rfl⟩
  · rw [if_neg c]
    refine ⟨fun q => ?_, fun q => absurd q c⟩
    split at q <;> split at q <;> exact absurd q (by decide)
theorem halted_4 (hh : f_X1_isHalted st 30 ≠ 0) : 0 < f_X6_halted st ∧ ¬ 7 < f_X6_halted st ∧ ¬ f_X6_halted st < 4 := by
  unfold f_X6_halted
  rw [if_neg hh]
  split <;> split <;> decide
end LAWM
