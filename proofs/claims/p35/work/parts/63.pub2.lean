set_option maxHeartbeats 8000000 in
set_option maxRecDepth 100000 in
/-- clock() -/
theorem c_X6_clock (l : Launch) (D : va_G) (L : Nat → Nat) (cy : Nat → ClassId) (X : va_W) (A : Nat → Prop) (st : gSt) (hD : va_D A (X ++ gW L cy st))   : gMi l yX6_clock wsX6_clock { frames := 0, cells := 0, slots := 0, locals := 0 } D L cy X A [.ref (L 0)] st (f_X6_clock st) st := by
  refine g_entry hD (cc := cX6_clock) (maxL := 1) (ret := (some .int)) (by decide +kernel) rfl (Nat.le_of_ble_eq_true rfl) ?_
  intro p e s m args below meth c ls B
  obtain ⟨S, hr, hlocks, h, hl⟩ := B
  have hx := S.1
  have hb := S.2.1
  have hts := S.2.2.2.2
  have in1 : ∀ w ∈ wsX10, w ∈ wsX6_clock := by decide +kernel
  have in6 : ∀ w ∈ wsX60, w ∈ wsX6_clock := by decide +kernel
  have hl : lv_has ls 1 [(0, .ref (L 0))] := hl
  refine lv_aload_n hx hb dX6_clock_0 rfl (lv_at hl 0 rfl) ?_
  refine g_get S h gk_c0 (by decide) rfl rfl in6 (k := 1) (by decide) (by decide +kernel) rfl dX6_clock_1 ?_
  refine g_getN S h gk_c30 (by decide) rfl rfl in1 (k := 11) (by decide) (by decide +kernel) rfl dX6_clock_4 ?_
  exact g_reti S h hr hlocks rfl (by first | (simp only [f_X6_clock]; done) | (simp only [f_X6_clock]; rfl) | rfl) rfl dX6_clock_7
set_option maxHeartbeats 8000000 in
set_option maxRecDepth 100000 in
/-- tasks() -/
theorem c_X6_tasks (l : Launch) (D : va_G) (L : Nat → Nat) (cy : Nat → ClassId) (X : va_W) (A : Nat → Prop) (st : gSt) (hD : va_D A (X ++ gW L cy st))   : gMi l yX6_tasks wsX6_tasks { frames := 0, cells := 0, slots := 0, locals := 0 } D L cy X A [.ref (L 0)] st (f_X6_tasks st) st := by
  refine g_entry hD (cc := cX6_tasks) (maxL := 1) (ret := (some .int)) (by decide +kernel) rfl (Nat.le_of_ble_eq_true rfl) ?_
  intro p e s m args below meth c ls B
  obtain ⟨S, hr, hlocks, h, hl⟩ := B
  have hx := S.1
  have hb := S.2.1
  have hts := S.2.2.2.2
  have in1 : ∀ w ∈ wsX10, w ∈ wsX6_tasks := by decide +kernel
  have in6 : ∀ w ∈ wsX60, w ∈ wsX6_tasks := by decide +kernel
  have hl : lv_has ls 1 [(0, .ref (L 0))] := hl
  refine lv_aload_n hx hb dX6_tasks_0 rfl (lv_at hl 0 rfl) ?_
  refine g_get S h gk_c0 (by decide) rfl rfl in6 (k := 1) (by decide) (by decide +kernel) rfl dX6_tasks_1 ?_
  refine g_getN S h gk_c30 (by decide) rfl rfl in1 (k := 3) (by decide) (by decide +kernel) rfl dX6_tasks_4 ?_
  exact g_reti S h hr hlocks rfl (by first | (simp only [f_X6_tasks]; done) | (simp only [f_X6_tasks]; rfl) | rfl) rfl dX6_tasks_7
set_option maxHeartbeats 8000000 in
set_option maxRecDepth 100000 in
/-- workers() -/
theorem c_X6_workers (l : Launch) (D : va_G) (L : Nat → Nat) (cy : Nat → ClassId) (X : va_W) (A : Nat → Prop) (st : gSt) (hD : va_D A (X ++ gW L cy st))   : gMi l yX6_workers wsX6_workers { frames := 0, cells := 0, slots := 0, locals := 0 } D L cy X A [.ref (L 0)] st (f_X6_workers st) st := by
  refine g_entry hD (cc := cX6_workers) (maxL := 1) (ret := (some .int)) (by decide +kernel) rfl (Nat.le_of_ble_eq_true rfl) ?_
  intro p e s m args below meth c ls B
  obtain ⟨S, hr, hlocks, h, hl⟩ := B
  have hx := S.1
  have hb := S.2.1
  have hts := S.2.2.2.2
  have in1 : ∀ w ∈ wsX10, w ∈ wsX6_workers := by decide +kernel
  have in6 : ∀ w ∈ wsX60, w ∈ wsX6_workers := by decide +kernel
  have hl : lv_has ls 1 [(0, .ref (L 0))] := hl
  refine lv_aload_n hx hb dX6_workers_0 rfl (lv_at hl 0 rfl) ?_
  refine g_get S h gk_c0 (by decide) rfl rfl in6 (k := 1) (by decide) (by decide +kernel) rfl dX6_workers_1 ?_
  refine g_getN S h gk_c30 (by decide) rfl rfl in1 (k := 6) (by decide) (by decide +kernel) rfl dX6_workers_4 ?_
  exact g_reti S h hr hlocks rfl (by first | (simp only [f_X6_workers]; done) | (simp only [f_X6_workers]; rfl) | rfl) rfl dX6_workers_7
set_option maxHeartbeats 8000000 in
set_option maxRecDepth 100000 in
/-- stateOf(task) -/
theorem c_X6_stateOf (l : Launch) (D : va_G) (L : Nat → Nat) (cy : Nat → ClassId) (X : va_W) (A : Nat → Prop) (st : gSt) (hD : va_D A (X ++ gW L cy st)) (tk0 : Int32)  (hd1 : ¬ (tk0 < (0 : Int32))) (hd2 : tk0 < (st 30 3)) : gMi l yX6_stateOf wsX6_stateOf { frames := 1, cells := 0, slots := 0, locals := 21 } D L cy X A [.ref (L 0), .int tk0] st (f_X6_stateOf st tk0) st := by
  refine g_entry hD (cc := cX6_stateOf) (maxL := 2) (ret := (some .int)) (by decide +kernel) rfl (Nat.le_of_ble_eq_true rfl) ?_
  intro p e s m args below meth c ls B
  obtain ⟨S, hr, hlocks, h, hl⟩ := B
  have hx := S.1
  have hb := S.2.1
  have hts := S.2.2.2.2
  have in4 : ∀ w ∈ wsX40, w ∈ wsX6_stateOf := by decide +kernel
  have in6 : ∀ w ∈ wsX60, w ∈ wsX6_stateOf := by decide +kernel
  have hl : lv_has ls 2 [(0, .ref (L 0)), (1, .int tk0)] := hl
  refine lv_aload_n hx hb dX6_stateOf_0 rfl (lv_at hl 0 rfl) ?_
  refine lv_iload_n hx hb dX6_stateOf_1 rfl (lv_at hl 1 rfl) ?_
  refine g_callv S h (c_X6_needTask l D L cy X A _ (h.2.2.2.2 _) _ hd1 hd2) (cwV 1 hts gX6_stateOf_X6_needTask rfl rfl rfl (by decide +kernel) ⟨Nat.le_of_ble_eq_true rfl, Nat.le_of_ble_eq_true rfl⟩) (g_pre h gk_c0 (by decide) rfl rfl _) rfl hl.1 rfl (Nat.le_of_ble_eq_true rfl) dX6_stateOf_2 ⟨Nat.zero_le _, Nat.zero_le _⟩ (fun H locs h => ?_)
  refine lv_aload_n hx hb dX6_stateOf_5 rfl (lv_at hl 0 rfl) ?_
  refine g_get S h gk_c0 (by decide) rfl rfl in6 (k := 1) (by decide) (by decide +kernel) rfl dX6_stateOf_6 ?_
  refine lv_iload_n hx hb dX6_stateOf_9 rfl (lv_at hl 1 rfl) ?_
  refine g_callr S h (c_X1_taskAt l D L cy X A _ (h.2.2.2.2 _) gk_c30 _) (cwV 1 hts gX6_stateOf_X1_taskAt rfl rfl rfl (by decide +kernel) ⟨Nat.le_of_ble_eq_true rfl, Nat.le_of_ble_eq_true rfl⟩) (g_pre h gk_c30 (by decide) rfl rfl _) rfl hl.1 rfl (Nat.le_of_ble_eq_true rfl) dX6_stateOf_10 ⟨Nat.zero_le _, Nat.zero_le _⟩ (fun H locs h => ?_)
  refine g_getN S h (gk_tk gk_c30 _) (by decide) rfl rfl in4 (k := 2) (by decide) (by decide +kernel) rfl dX6_stateOf_13 ?_
  exact g_reti S h hr hlocks rfl (by first | (simp only [f_X6_stateOf]; done) | (simp only [f_X6_stateOf]; rfl) | rfl) rfl dX6_stateOf_16
set_option maxHeartbeats 8000000 in
set_option maxRecDepth 100000 in
/-- valueOf(task) -/
theorem c_X6_valueOf (l : Launch) (D : va_G) (L : Nat → Nat) (cy : Nat → ClassId) (X : va_W) (A : Nat → Prop) (st : gSt) (hD : va_D A (X ++ gW L cy st)) (tk0 : Int32)  (hd1 : ¬ (tk0 < (0 : Int32))) (hd2 : tk0 < (st 30 3)) : gMi l yX6_valueOf wsX6_valueOf { frames := 1, cells := 0, slots := 0, locals := 21 } D L cy X A [.ref (L 0), .int tk0] st (f_X6_valueOf st tk0) st := by
  refine g_entry hD (cc := cX6_valueOf) (maxL := 2) (ret := (some .int)) (by decide +kernel) rfl (Nat.le_of_ble_eq_true rfl) ?_
  intro p e s m args below meth c ls B
  obtain ⟨S, hr, hlocks, h, hl⟩ := B
  have hx := S.1
  have hb := S.2.1
  have hts := S.2.2.2.2
  have in4 : ∀ w ∈ wsX40, w ∈ wsX6_valueOf := by decide +kernel
  have in6 : ∀ w ∈ wsX60, w ∈ wsX6_valueOf := by decide +kernel
  have hl : lv_has ls 2 [(0, .ref (L 0)), (1, .int tk0)] := hl
  refine lv_aload_n hx hb dX6_valueOf_0 rfl (lv_at hl 0 rfl) ?_
  refine lv_iload_n hx hb dX6_valueOf_1 rfl (lv_at hl 1 rfl) ?_
  refine g_callv S h (c_X6_needTask l D L cy X A _ (h.2.2.2.2 _) _ hd1 hd2) (cwV 1 hts gX6_valueOf_X6_needTask rfl rfl rfl (by decide +kernel) ⟨Nat.le_of_ble_eq_true rfl, Nat.le_of_ble_eq_true rfl⟩) (g_pre h gk_c0 (by decide) rfl rfl _) rfl hl.1 rfl (Nat.le_of_ble_eq_true rfl) dX6_valueOf_2 ⟨Nat.zero_le _, Nat.zero_le _⟩ (fun H locs h => ?_)
  refine lv_aload_n hx hb dX6_valueOf_5 rfl (lv_at hl 0 rfl) ?_
  refine g_get S h gk_c0 (by decide) rfl rfl in6 (k := 1) (by decide) (by decide +kernel) rfl dX6_valueOf_6 ?_
  refine lv_iload_n hx hb dX6_valueOf_9 rfl (lv_at hl 1 rfl) ?_
  refine g_callr S h (c_X1_taskAt l D L cy X A _ (h.2.2.2.2 _) gk_c30 _) (cwV 1 hts gX6_valueOf_X1_taskAt rfl rfl rfl (by decide +kernel) ⟨Nat.le_of_ble_eq_true rfl, Nat.le_of_ble_eq_true rfl⟩) (g_pre h gk_c30 (by decide) rfl rfl _) rfl hl.1 rfl (Nat.le_of_ble_eq_true rfl) dX6_valueOf_10 ⟨Nat.zero_le _, Nat.zero_le _⟩ (fun H locs h => ?_)
  refine g_getN S h (gk_tk gk_c30 _) (by decide) rfl rfl in4 (k := 4) (by decide) (by decide +kernel) rfl dX6_valueOf_13 ?_
  exact g_reti S h hr hlocks rfl (by first | (simp only [f_X6_valueOf]; done) | (simp only [f_X6_valueOf]; rfl) | rfl) rfl dX6_valueOf_16
set_option maxHeartbeats 8000000 in
set_option maxRecDepth 100000 in
/-- stepOf(task) -/
theorem c_X6_stepOf (l : Launch) (D : va_G) (L : Nat → Nat) (cy : Nat → ClassId) (X : va_W) (A : Nat → Prop) (st : gSt) (hD : va_D A (X ++ gW L cy st)) (tk0 : Int32)  (hd1 : ¬ (tk0 < (0 : Int32))) (hd2 : tk0 < (st 30 3)) : gMi l yX6_stepOf wsX6_stepOf { frames := 1, cells := 0, slots := 0, locals := 21 } D L cy X A [.ref (L 0), .int tk0] st (f_X6_stepOf st tk0) st := by
  refine g_entry hD (cc := cX6_stepOf) (maxL := 2) (ret := (some .int)) (by decide +kernel) rfl (Nat.le_of_ble_eq_true rfl) ?_
  intro p e s m args below meth c ls B
  obtain ⟨S, hr, hlocks, h, hl⟩ := B
  have hx := S.1
  have hb := S.2.1
  have hts := S.2.2.2.2
  have in4 : ∀ w ∈ wsX40, w ∈ wsX6_stepOf := by decide +kernel
  have in6 : ∀ w ∈ wsX60, w ∈ wsX6_stepOf := by decide +kernel
  have hl : lv_has ls 2 [(0, .ref (L 0)), (1, .int tk0)] := hl
  refine lv_aload_n hx hb dX6_stepOf_0 rfl (lv_at hl 0 rfl) ?_
  refine lv_iload_n hx hb dX6_stepOf_1 rfl (lv_at hl 1 rfl) ?_
  refine g_callv S h (c_X6_needTask l D L cy X A _ (h.2.2.2.2 _) _ hd1 hd2) (cwV 1 hts gX6_stepOf_X6_needTask rfl rfl rfl (by decide +kernel) ⟨Nat.le_of_ble_eq_true rfl, Nat.le_of_ble_eq_true rfl⟩) (g_pre h gk_c0 (by decide) rfl rfl _) rfl hl.1 rfl (Nat.le_of_ble_eq_true rfl) dX6_stepOf_2 ⟨Nat.zero_le _, Nat.zero_le _⟩ (fun H locs h => ?_)
  refine lv_aload_n hx hb dX6_stepOf_5 rfl (lv_at hl 0 rfl) ?_
  refine g_get S h gk_c0 (by decide) rfl rfl in6 (k := 1) (by decide) (by decide +kernel) rfl dX6_stepOf_6 ?_
  refine lv_iload_n hx hb dX6_stepOf_9 rfl (lv_at hl 1 rfl) ?_
  refine g_callr S h (c_X1_taskAt l D L cy X A _ (h.2.2.2.2 _) gk_c30 _) (cwV 1 hts gX6_stepOf_X1_taskAt rfl rfl rfl (by decide +kernel) ⟨Nat.le_of_ble_eq_true rfl, Nat.le_of_ble_eq_true rfl⟩) (g_pre h gk_c30 (by decide) rfl rfl _) rfl hl.1 rfl (Nat.le_of_ble_eq_true rfl) dX6_stepOf_10 ⟨Nat.zero_le _, Nat.zero_le _⟩ (fun H locs h => ?_)
  refine g_getN S h (gk_tk gk_c30 _) (by decide) rfl rfl in4 (k := 3) (by decide) (by decide +kernel) rfl dX6_stepOf_13 ?_
  exact g_reti S h hr hlocks rfl (by first | (simp only [f_X6_stepOf]; done) | (simp only [f_X6_stepOf]; rfl) | rfl) rfl dX6_stepOf_16
set_option maxHeartbeats 8000000 in
set_option maxRecDepth 100000 in
/-- parentOf(task) -/
theorem c_X6_parentOf (l : Launch) (D : va_G) (L : Nat → Nat) (cy : Nat → ClassId) (X : va_W) (A : Nat → Prop) (st : gSt) (hD : va_D A (X ++ gW L cy st)) (tk0 : Int32)  (hd1 : ¬ (tk0 < (0 : Int32))) (hd2 : tk0 < (st 30 3)) : gMi l yX6_parentOf wsX6_parentOf { frames := 1, cells := 0, slots := 0, locals := 21 } D L cy X A [.ref (L 0), .int tk0] st (f_X6_parentOf st tk0) st := by
  refine g_entry hD (cc := cX6_parentOf) (maxL := 2) (ret := (some .int)) (by decide +kernel) rfl (Nat.le_of_ble_eq_true rfl) ?_
  intro p e s m args below meth c ls B
  obtain ⟨S, hr, hlocks, h, hl⟩ := B
  have hx := S.1
  have hb := S.2.1
  have hts := S.2.2.2.2
  have in4 : ∀ w ∈ wsX40, w ∈ wsX6_parentOf := by decide +kernel
  have in6 : ∀ w ∈ wsX60, w ∈ wsX6_parentOf := by decide +kernel
  have hl : lv_has ls 2 [(0, .ref (L 0)), (1, .int tk0)] := hl
  refine lv_aload_n hx hb dX6_parentOf_0 rfl (lv_at hl 0 rfl) ?_
  refine lv_iload_n hx hb dX6_parentOf_1 rfl (lv_at hl 1 rfl) ?_
  refine g_callv S h (c_X6_needTask l D L cy X A _ (h.2.2.2.2 _) _ hd1 hd2) (cwV 1 hts gX6_parentOf_X6_needTask rfl rfl rfl (by decide +kernel) ⟨Nat.le_of_ble_eq_true rfl, Nat.le_of_ble_eq_true rfl⟩) (g_pre h gk_c0 (by decide) rfl rfl _) rfl hl.1 rfl (Nat.le_of_ble_eq_true rfl) dX6_parentOf_2 ⟨Nat.zero_le _, Nat.zero_le _⟩ (fun H locs h => ?_)
  refine lv_aload_n hx hb dX6_parentOf_5 rfl (lv_at hl 0 rfl) ?_
  refine g_get S h gk_c0 (by decide) rfl rfl in6 (k := 1) (by decide) (by decide +kernel) rfl dX6_parentOf_6 ?_
  refine lv_iload_n hx hb dX6_parentOf_9 rfl (lv_at hl 1 rfl) ?_
  refine g_callr S h (c_X1_taskAt l D L cy X A _ (h.2.2.2.2 _) gk_c30 _) (cwV 1 hts gX6_parentOf_X1_taskAt rfl rfl rfl (by decide +kernel) ⟨Nat.le_of_ble_eq_true rfl, Nat.le_of_ble_eq_true rfl⟩) (g_pre h gk_c30 (by decide) rfl rfl _) rfl hl.1 rfl (Nat.le_of_ble_eq_true rfl) dX6_parentOf_10 ⟨Nat.zero_le _, Nat.zero_le _⟩ (fun H locs h => ?_)
  refine g_getN S h (gk_tk gk_c30 _) (by decide) rfl rfl in4 (k := 5) (by decide) (by decide +kernel) rfl dX6_parentOf_13 ?_
  exact g_reti S h hr hlocks rfl (by first | (simp only [f_X6_parentOf]; done) | (simp only [f_X6_parentOf]; rfl) | rfl) rfl dX6_parentOf_16
set_option maxHeartbeats 8000000 in
set_option maxRecDepth 100000 in
/-- childrenOf(task) -/
theorem c_X6_childrenOf (l : Launch) (D : va_G) (L : Nat → Nat) (cy : Nat → ClassId) (X : va_W) (A : Nat → Prop) (st : gSt) (hD : va_D A (X ++ gW L cy st)) (tk0 : Int32)  (hd1 : ¬ (tk0 < (0 : Int32))) (hd2 : tk0 < (st 30 3)) : gMi l yX6_childrenOf wsX6_childrenOf { frames := 1, cells := 0, slots := 0, locals := 21 } D L cy X A [.ref (L 0), .int tk0] st (f_X6_childrenOf st tk0) st := by
  refine g_entry hD (cc := cX6_childrenOf) (maxL := 2) (ret := (some .int)) (by decide +kernel) rfl (Nat.le_of_ble_eq_true rfl) ?_
  intro p e s m args below meth c ls B
  obtain ⟨S, hr, hlocks, h, hl⟩ := B
  have hx := S.1
  have hb := S.2.1
  have hts := S.2.2.2.2
  have in4 : ∀ w ∈ wsX40, w ∈ wsX6_childrenOf := by decide +kernel
  have in6 : ∀ w ∈ wsX60, w ∈ wsX6_childrenOf := by decide +kernel
  have hl : lv_has ls 2 [(0, .ref (L 0)), (1, .int tk0)] := hl
  refine lv_aload_n hx hb dX6_childrenOf_0 rfl (lv_at hl 0 rfl) ?_
  refine lv_iload_n hx hb dX6_childrenOf_1 rfl (lv_at hl 1 rfl) ?_
  refine g_callv S h (c_X6_needTask l D L cy X A _ (h.2.2.2.2 _) _ hd1 hd2) (cwV 1 hts gX6_childrenOf_X6_needTask rfl rfl rfl (by decide +kernel) ⟨Nat.le_of_ble_eq_true rfl, Nat.le_of_ble_eq_true rfl⟩) (g_pre h gk_c0 (by decide) rfl rfl _) rfl hl.1 rfl (Nat.le_of_ble_eq_true rfl) dX6_childrenOf_2 ⟨Nat.zero_le _, Nat.zero_le _⟩ (fun H locs h => ?_)
  refine lv_aload_n hx hb dX6_childrenOf_5 rfl (lv_at hl 0 rfl) ?_
  refine g_get S h gk_c0 (by decide) rfl rfl in6 (k := 1) (by decide) (by decide +kernel) rfl dX6_childrenOf_6 ?_
  refine lv_iload_n hx hb dX6_childrenOf_9 rfl (lv_at hl 1 rfl) ?_
  refine g_callr S h (c_X1_taskAt l D L cy X A _ (h.2.2.2.2 _) gk_c30 _) (cwV 1 hts gX6_childrenOf_X1_taskAt rfl rfl rfl (by decide +kernel) ⟨Nat.le_of_ble_eq_true rfl, Nat.le_of_ble_eq_true rfl⟩) (g_pre h gk_c30 (by decide) rfl rfl _) rfl hl.1 rfl (Nat.le_of_ble_eq_true rfl) dX6_childrenOf_10 ⟨Nat.zero_le _, Nat.zero_le _⟩ (fun H locs h => ?_)
  refine g_getN S h (gk_tk gk_c30 _) (by decide) rfl rfl in4 (k := 6) (by decide) (by decide +kernel) rfl dX6_childrenOf_13 ?_
  exact g_reti S h hr hlocks rfl (by first | (simp only [f_X6_childrenOf]; done) | (simp only [f_X6_childrenOf]; rfl) | rfl) rfl dX6_childrenOf_16
set_option maxHeartbeats 8000000 in
set_option maxRecDepth 100000 in
/-- workOf(task) -/
theorem c_X6_workOf (l : Launch) (D : va_G) (L : Nat → Nat) (cy : Nat → ClassId) (X : va_W) (A : Nat → Prop) (st : gSt) (hD : va_D A (X ++ gW L cy st)) (tk0 : Int32)  (hd1 : ¬ (tk0 < (0 : Int32))) (hd2 : tk0 < (st 30 3)) : gMi l yX6_workOf wsX6_workOf { frames := 2, cells := 0, slots := 0, locals := 46 } D L cy X A [.ref (L 0), .int tk0] st (f_X6_workOf st tk0) st := by
  refine g_entry hD (cc := cX6_workOf) (maxL := 2) (ret := (some .int)) (by decide +kernel) rfl (Nat.le_of_ble_eq_true rfl) ?_
  intro p e s m args below meth c ls B
  obtain ⟨S, hr, hlocks, h, hl⟩ := B
  have hx := S.1
  have hb := S.2.1
  have hts := S.2.2.2.2
  have in6 : ∀ w ∈ wsX60, w ∈ wsX6_workOf := by decide +kernel
  have hl : lv_has ls 2 [(0, .ref (L 0)), (1, .int tk0)] := hl
  refine lv_aload_n hx hb dX6_workOf_0 rfl (lv_at hl 0 rfl) ?_
  refine lv_iload_n hx hb dX6_workOf_1 rfl (lv_at hl 1 rfl) ?_
  refine g_callv S h (c_X6_needTask l D L cy X A _ (h.2.2.2.2 _) _ hd1 hd2) (cwV 1 hts gX6_workOf_X6_needTask rfl rfl rfl (by decide +kernel) ⟨Nat.le_of_ble_eq_true rfl, Nat.le_of_ble_eq_true rfl⟩) (g_pre h gk_c0 (by decide) rfl rfl _) rfl hl.1 rfl (Nat.le_of_ble_eq_true rfl) dX6_workOf_2 ⟨Nat.zero_le _, Nat.zero_le _⟩ (fun H locs h => ?_)
  refine lv_aload_n hx hb dX6_workOf_5 rfl (lv_at hl 0 rfl) ?_
  refine g_get S h gk_c0 (by decide) rfl rfl in6 (k := 1) (by decide) (by decide +kernel) rfl dX6_workOf_6 ?_
  refine lv_iload_n hx hb dX6_workOf_9 rfl (lv_at hl 1 rfl) ?_
  refine g_calli S h (c_X1_sumWork l D L cy X A _ (h.2.2.2.2 _) gk_c30 _) (cwV 1 hts gX6_workOf_X1_sumWork rfl rfl rfl (by decide +kernel) ⟨Nat.le_of_ble_eq_true rfl, Nat.le_of_ble_eq_true rfl⟩) (g_pre h gk_c30 (by decide) rfl rfl _) rfl hl.1 rfl (Nat.le_of_ble_eq_true rfl) dX6_workOf_10 ⟨Nat.zero_le _, Nat.zero_le _⟩ (fun H locs h => ?_)
  exact g_reti S h hr hlocks rfl (by first | (simp only [f_X6_workOf]; done) | (simp only [f_X6_workOf]; rfl) | rfl) rfl dX6_workOf_13
set_option maxHeartbeats 8000000 in
set_option maxRecDepth 100000 in
/-- overAt(task) -/
theorem c_X6_overAt (l : Launch) (D : va_G) (L : Nat → Nat) (cy : Nat → ClassId) (X : va_W) (A : Nat → Prop) (st : gSt) (hD : va_D A (X ++ gW L cy st)) (tk0 : Int32)  (hd1 : ¬ (tk0 < (0 : Int32))) (hd2 : tk0 < (st 30 3)) : gMi l yX6_overAt wsX6_overAt { frames := 1, cells := 0, slots := 0, locals := 21 } D L cy X A [.ref (L 0), .int tk0] st (f_X6_overAt st tk0) st := by
  refine g_entry hD (cc := cX6_overAt) (maxL := 2) (ret := (some .int)) (by decide +kernel) rfl (Nat.le_of_ble_eq_true rfl) ?_
  intro p e s m args below meth c ls B
  obtain ⟨S, hr, hlocks, h, hl⟩ := B
  have hx := S.1
  have hb := S.2.1
  have hts := S.2.2.2.2
  have in4 : ∀ w ∈ wsX40, w ∈ wsX6_overAt := by decide +kernel
  have in6 : ∀ w ∈ wsX60, w ∈ wsX6_overAt := by decide +kernel
  have hl : lv_has ls 2 [(0, .ref (L 0)), (1, .int tk0)] := hl
  refine lv_aload_n hx hb dX6_overAt_0 rfl (lv_at hl 0 rfl) ?_
  refine lv_iload_n hx hb dX6_overAt_1 rfl (lv_at hl 1 rfl) ?_
  refine g_callv S h (c_X6_needTask l D L cy X A _ (h.2.2.2.2 _) _ hd1 hd2) (cwV 1 hts gX6_overAt_X6_needTask rfl rfl rfl (by decide +kernel) ⟨Nat.le_of_ble_eq_true rfl, Nat.le_of_ble_eq_true rfl⟩) (g_pre h gk_c0 (by decide) rfl rfl _) rfl hl.1 rfl (Nat.le_of_ble_eq_true rfl) dX6_overAt_2 ⟨Nat.zero_le _, Nat.zero_le _⟩ (fun H locs h => ?_)
  refine lv_aload_n hx hb dX6_overAt_5 rfl (lv_at hl 0 rfl) ?_
  refine g_get S h gk_c0 (by decide) rfl rfl in6 (k := 1) (by decide) (by decide +kernel) rfl dX6_overAt_6 ?_
  refine lv_iload_n hx hb dX6_overAt_9 rfl (lv_at hl 1 rfl) ?_
  refine g_callr S h (c_X1_taskAt l D L cy X A _ (h.2.2.2.2 _) gk_c30 _) (cwV 1 hts gX6_overAt_X1_taskAt rfl rfl rfl (by decide +kernel) ⟨Nat.le_of_ble_eq_true rfl, Nat.le_of_ble_eq_true rfl⟩) (g_pre h gk_c30 (by decide) rfl rfl _) rfl hl.1 rfl (Nat.le_of_ble_eq_true rfl) dX6_overAt_10 ⟨Nat.zero_le _, Nat.zero_le _⟩ (fun H locs h => ?_)
  refine g_getN S h (gk_tk gk_c30 _) (by decide) rfl rfl in4 (k := 7) (by decide) (by decide +kernel) rfl dX6_overAt_13 ?_
  exact g_reti S h hr hlocks rfl (by first | (simp only [f_X6_overAt]; done) | (simp only [f_X6_overAt]; rfl) | rfl) rfl dX6_overAt_16
set_option maxHeartbeats 8000000 in
set_option maxRecDepth 100000 in
/-- promise(p) -/
theorem c_X6_promise (l : Launch) (D : va_G) (L : Nat → Nat) (cy : Nat → ClassId) (X : va_W) (A : Nat → Prop) (st : gSt) (hD : va_D A (X ++ gW L cy st)) (pr : Int32)  (hd1 : ¬ ((f_X6_isPromise st pr) = 0)) : gMi l yX6_promise wsX6_promise { frames := 2, cells := 0, slots := 0, locals := 40 } D L cy X A [.ref (L 0), .int pr] st (f_X6_promise st pr) st := by
  refine g_entry hD (cc := cX6_promise) (maxL := 2) (ret := (some .int)) (by decide +kernel) rfl (Nat.le_of_ble_eq_true rfl) ?_
  intro p e s m args below meth c ls B
  obtain ⟨S, hr, hlocks, h, hl⟩ := B
  have hx := S.1
  have hb := S.2.1
  have hts := S.2.2.2.2
  have in6 : ∀ w ∈ wsX60, w ∈ wsX6_promise := by decide +kernel
  have hl : lv_has ls 2 [(0, .ref (L 0)), (1, .int pr)] := hl
  refine lv_iload_n hx hb dX6_promise_0 rfl (lv_at hl 1 rfl) ?_
  refine g_callvS S h (c_X6_needPromise l D L cy X A _ (h.2.2.2.2 _) _ hd1) (cwS 1 hts gX6_promise_X6_needPromise rfl rfl rfl (by decide +kernel) ⟨Nat.le_of_ble_eq_true rfl, Nat.le_of_ble_eq_true rfl⟩) rfl hl.1 rfl (Nat.le_of_ble_eq_true rfl) dX6_promise_1 ⟨Nat.zero_le _, Nat.zero_le _⟩ (fun H locs h => ?_)
  refine lv_aload_n hx hb dX6_promise_4 rfl (lv_at hl 0 rfl) ?_
  refine g_get S h gk_c0 (by decide) rfl rfl in6 (k := 1) (by decide) (by decide +kernel) rfl dX6_promise_5 ?_
  refine lv_iload_n hx hb dX6_promise_8 rfl (lv_at hl 1 rfl) ?_
  refine g_calli S h (c_X1_promiseAt l D L cy X A _ (h.2.2.2.2 _) gk_c30 _) (cwV 1 hts gX6_promise_X1_promiseAt rfl rfl rfl (by decide +kernel) ⟨Nat.le_of_ble_eq_true rfl, Nat.le_of_ble_eq_true rfl⟩) (g_pre h gk_c30 (by decide) rfl rfl _) rfl hl.1 rfl (Nat.le_of_ble_eq_true rfl) dX6_promise_9 ⟨Nat.zero_le _, Nat.zero_le _⟩ (fun H locs h => ?_)
  exact g_reti S h hr hlocks rfl (by first | (simp only [f_X6_promise]; done) | (simp only [f_X6_promise]; rfl) | rfl) rfl dX6_promise_12
set_option maxHeartbeats 8000000 in
set_option maxRecDepth 100000 in
/-- top(w) -/
theorem c_X6_top (l : Launch) (D : va_G) (L : Nat → Nat) (cy : Nat → ClassId) (X : va_W) (A : Nat → Prop) (st : gSt) (hD : va_D A (X ++ gW L cy st)) (wk0 : Int32)  (hd1 : ¬ (wk0 < (0 : Int32))) (hd2 : wk0 < (st 30 6)) : gMi l yX6_top wsX6_top { frames := 2, cells := 0, slots := 0, locals := 41 } D L cy X A [.ref (L 0), .int wk0] st (f_X6_top st wk0) st := by
  refine g_entry hD (cc := cX6_top) (maxL := 2) (ret := (some .int)) (by decide +kernel) rfl (Nat.le_of_ble_eq_true rfl) ?_
  intro p e s m args below meth c ls B
  obtain ⟨S, hr, hlocks, h, hl⟩ := B
  have hx := S.1
  have hb := S.2.1
  have hts := S.2.2.2.2
  have in5 : ∀ w ∈ wsX50, w ∈ wsX6_top := by decide +kernel
  have in6 : ∀ w ∈ wsX60, w ∈ wsX6_top := by decide +kernel
  have hl : lv_has ls 2 [(0, .ref (L 0)), (1, .int wk0)] := hl
  refine lv_aload_n hx hb dX6_top_0 rfl (lv_at hl 0 rfl) ?_
  refine lv_iload_n hx hb dX6_top_1 rfl (lv_at hl 1 rfl) ?_
  refine g_callv S h (c_X6_needWorker l D L cy X A _ (h.2.2.2.2 _) _ hd1 hd2) (cwV 1 hts gX6_top_X6_needWorker rfl rfl rfl (by decide +kernel) ⟨Nat.le_of_ble_eq_true rfl, Nat.le_of_ble_eq_true rfl⟩) (g_pre h gk_c0 (by decide) rfl rfl _) rfl hl.1 rfl (Nat.le_of_ble_eq_true rfl) dX6_top_2 ⟨Nat.zero_le _, Nat.zero_le _⟩ (fun H locs h => ?_)
  refine lv_aload_n hx hb dX6_top_5 rfl (lv_at hl 0 rfl) ?_
  refine g_get S h gk_c0 (by decide) rfl rfl in6 (k := 1) (by decide) (by decide +kernel) rfl dX6_top_6 ?_
  refine lv_iload_n hx hb dX6_top_9 rfl (lv_at hl 1 rfl) ?_
  refine g_callr S h (c_X1_workerAt l D L cy X A _ (h.2.2.2.2 _) gk_c30 _) (cwV 1 hts gX6_top_X1_workerAt rfl rfl rfl (by decide +kernel) ⟨Nat.le_of_ble_eq_true rfl, Nat.le_of_ble_eq_true rfl⟩) (g_pre h gk_c30 (by decide) rfl rfl _) rfl hl.1 rfl (Nat.le_of_ble_eq_true rfl) dX6_top_10 ⟨Nat.zero_le _, Nat.zero_le _⟩ (fun H locs h => ?_)
  refine g_getN S h (gk_wk gk_c30 _) (by decide) rfl rfl in5 (k := 1) (by decide) (by decide +kernel) rfl dX6_top_13 ?_
  refine g_calli S h (c_X2_last l D L cy X A _ (h.2.2.2.2 _) (gk9_3 (gk_wk gk_c30 _))) (cwV 0 hts gX6_top_X2_last rfl rfl rfl (by decide +kernel) ⟨Nat.le_of_ble_eq_true rfl, Nat.le_of_ble_eq_true rfl⟩) (g_pre h (gk9_3 (gk_wk gk_c30 _)) (by decide) rfl rfl _) rfl hl.1 rfl (Nat.le_of_ble_eq_true rfl) dX6_top_16 ⟨Nat.zero_le _, Nat.zero_le _⟩ (fun H locs h => ?_)
  exact g_reti S h hr hlocks rfl (by first | (simp only [f_X6_top]; done) | (simp only [f_X6_top]; rfl) | rfl) rfl dX6_top_19
set_option maxHeartbeats 8000000 in
set_option maxRecDepth 100000 in
/-- stack(w) -/
theorem c_X6_stack (l : Launch) (D : va_G) (L : Nat → Nat) (cy : Nat → ClassId) (X : va_W) (A : Nat → Prop) (st : gSt) (hD : va_D A (X ++ gW L cy st)) (wk0 : Int32)  (hd1 : ¬ (wk0 < (0 : Int32))) (hd2 : wk0 < (st 30 6)) : gMi l yX6_stack wsX6_stack { frames := 1, cells := 0, slots := 0, locals := 21 } D L cy X A [.ref (L 0), .int wk0] st (f_X6_stack st wk0) st := by
  refine g_entry hD (cc := cX6_stack) (maxL := 2) (ret := (some .int)) (by decide +kernel) rfl (Nat.le_of_ble_eq_true rfl) ?_
  intro p e s m args below meth c ls B
  obtain ⟨S, hr, hlocks, h, hl⟩ := B
  have hx := S.1
  have hb := S.2.1
  have hts := S.2.2.2.2
  have in2 : ∀ w ∈ wsX20, w ∈ wsX6_stack := by decide +kernel
  have in5 : ∀ w ∈ wsX50, w ∈ wsX6_stack := by decide +kernel
  have in6 : ∀ w ∈ wsX60, w ∈ wsX6_stack := by decide +kernel
  have hl : lv_has ls 2 [(0, .ref (L 0)), (1, .int wk0)] := hl
  refine lv_aload_n hx hb dX6_stack_0 rfl (lv_at hl 0 rfl) ?_
  refine lv_iload_n hx hb dX6_stack_1 rfl (lv_at hl 1 rfl) ?_
  refine g_callv S h (c_X6_needWorker l D L cy X A _ (h.2.2.2.2 _) _ hd1 hd2) (cwV 1 hts gX6_stack_X6_needWorker rfl rfl rfl (by decide +kernel) ⟨Nat.le_of_ble_eq_true rfl, Nat.le_of_ble_eq_true rfl⟩) (g_pre h gk_c0 (by decide) rfl rfl _) rfl hl.1 rfl (Nat.le_of_ble_eq_true rfl) dX6_stack_2 ⟨Nat.zero_le _, Nat.zero_le _⟩ (fun H locs h => ?_)
  refine lv_aload_n hx hb dX6_stack_5 rfl (lv_at hl 0 rfl) ?_
  refine g_get S h gk_c0 (by decide) rfl rfl in6 (k := 1) (by decide) (by decide +kernel) rfl dX6_stack_6 ?_
  refine lv_iload_n hx hb dX6_stack_9 rfl (lv_at hl 1 rfl) ?_
  refine g_callr S h (c_X1_workerAt l D L cy X A _ (h.2.2.2.2 _) gk_c30 _) (cwV 1 hts gX6_stack_X1_workerAt rfl rfl rfl (by decide +kernel) ⟨Nat.le_of_ble_eq_true rfl, Nat.le_of_ble_eq_true rfl⟩) (g_pre h gk_c30 (by decide) rfl rfl _) rfl hl.1 rfl (Nat.le_of_ble_eq_true rfl) dX6_stack_10 ⟨Nat.zero_le _, Nat.zero_le _⟩ (fun H locs h => ?_)
  refine g_getN S h (gk_wk gk_c30 _) (by decide) rfl rfl in5 (k := 1) (by decide) (by decide +kernel) rfl dX6_stack_13 ?_
  refine g_getN S h (gk9_3 (gk_wk gk_c30 _)) (by decide) rfl rfl in2 (k := 1) (by decide) (by decide +kernel) rfl dX6_stack_16 ?_
  exact g_reti S h hr hlocks rfl (by first | (simp only [f_X6_stack]; done) | (simp only [f_X6_stack]; rfl) | rfl) rfl dX6_stack_19
set_option maxHeartbeats 8000000 in
set_option maxRecDepth 100000 in
/-- row(w) -/
theorem c_X6_row (l : Launch) (D : va_G) (L : Nat → Nat) (cy : Nat → ClassId) (X : va_W) (A : Nat → Prop) (st : gSt) (hD : va_D A (X ++ gW L cy st)) (wk0 : Int32)  (hd1 : ¬ wk0 = (-1 : Int32) → ¬ wk0 < (0 : Int32)) (hd2 : ¬ wk0 = (-1 : Int32) → wk0 < (st 30 6)) : gMi l yX6_row wsX6_row { frames := 2, cells := 0, slots := 0, locals := 42 } D L cy X A [.ref (L 0), .int wk0] st (f_X6_row st wk0) st := by
  refine g_entry hD (cc := cX6_row) (maxL := 2) (ret := (some .int)) (by decide +kernel) rfl (Nat.le_of_ble_eq_true rfl) ?_
  intro p e s m args below meth c ls B
  obtain ⟨S, hr, hlocks, h, hl⟩ := B
  have hx := S.1
  have hb := S.2.1
  have hts := S.2.2.2.2
  have in2 : ∀ w ∈ wsX20, w ∈ wsX6_row := by decide +kernel
  have in6 : ∀ w ∈ wsX60, w ∈ wsX6_row := by decide +kernel
  have hl : lv_has ls 2 [(0, .ref (L 0)), (1, .int wk0)] := hl
  refine lv_aload_n hx hb dX6_row_0 rfl (lv_at hl 0 rfl) ?_
  refine lv_iload_n hx hb dX6_row_1 rfl (lv_at hl 1 rfl) ?_
  refine g_callv S h (c_X6_needRow l D L cy X A _ (h.2.2.2.2 _) _ hd1 hd2) (cwV 1 hts gX6_row_X6_needRow rfl rfl rfl (by decide +kernel) ⟨Nat.le_of_ble_eq_true rfl, Nat.le_of_ble_eq_true rfl⟩) (g_pre h gk_c0 (by decide) rfl rfl _) rfl hl.1 rfl (Nat.le_of_ble_eq_true rfl) dX6_row_2 ⟨Nat.zero_le _, Nat.zero_le _⟩ (fun H locs h => ?_)
  refine lv_aload_n hx hb dX6_row_5 rfl (lv_at hl 0 rfl) ?_
  refine g_get S h gk_c0 (by decide) rfl rfl in6 (k := 1) (by decide) (by decide +kernel) rfl dX6_row_6 ?_
  refine lv_iload_n hx hb dX6_row_9 rfl (lv_at hl 1 rfl) ?_
  refine g_callr S h (c_X1_rowOf l D L cy X A _ (h.2.2.2.2 _) gk_c30 _) (cwV 1 hts gX6_row_X1_rowOf rfl rfl rfl (by decide +kernel) ⟨Nat.le_of_ble_eq_true rfl, Nat.le_of_ble_eq_true rfl⟩) (g_pre h gk_c30 (by decide) rfl rfl _) rfl hl.1 rfl (Nat.le_of_ble_eq_true rfl) dX6_row_10 ⟨Nat.zero_le _, Nat.zero_le _⟩ (fun H locs h => ?_)
  refine g_getN S h (gk_row gk_c30 _) (by decide) rfl rfl in2 (k := 1) (by decide) (by decide +kernel) rfl dX6_row_13 ?_
  exact g_reti S h hr hlocks rfl (by first | (simp only [f_X6_row]; done) | (simp only [f_X6_row]; rfl) | rfl) rfl dX6_row_16
set_option maxHeartbeats 8000000 in
set_option maxRecDepth 100000 in
/-- inRow(w, place) -/
theorem c_X6_inRow (l : Launch) (D : va_G) (L : Nat → Nat) (cy : Nat → ClassId) (X : va_W) (A : Nat → Prop) (st : gSt) (hD : va_D A (X ++ gW L cy st)) (wk0 : Int32) (pl : Int32)  (hd1 : ¬ wk0 = (-1 : Int32) → ¬ wk0 < (0 : Int32)) (hd2 : ¬ wk0 = (-1 : Int32) → wk0 < (st 30 6)) (hd3 : ¬ (pl < (0 : Int32))) (hd4 : pl < (st (f_row 30 wk0) 1)) : gMi l yX6_inRow wsX6_inRow { frames := 2, cells := 0, slots := 0, locals := 42 } D L cy X A [.ref (L 0), .int wk0, .int pl] st (f_X6_inRow st wk0 pl) st := by
  refine g_entry hD (cc := cX6_inRow) (maxL := 4) (ret := (some .int)) (by decide +kernel) rfl (Nat.le_of_ble_eq_true rfl) ?_
  intro p e s m args below meth c ls B
  obtain ⟨S, hr, hlocks, h, hl⟩ := B
  have hx := S.1
  have hb := S.2.1
  have hts := S.2.2.2.2
  have in2 : ∀ w ∈ wsX20, w ∈ wsX6_inRow := by decide +kernel
  have in6 : ∀ w ∈ wsX60, w ∈ wsX6_inRow := by decide +kernel
  have hl : lv_has ls 4 [(0, .ref (L 0)), (1, .int wk0), (2, .int pl)] := hl
  refine lv_aload_n hx hb dX6_inRow_0 rfl (lv_at hl 0 rfl) ?_
  refine lv_iload_n hx hb dX6_inRow_1 rfl (lv_at hl 1 rfl) ?_
  refine g_callv S h (c_X6_needRow l D L cy X A _ (h.2.2.2.2 _) _ hd1 hd2) (cwV 1 hts gX6_inRow_X6_needRow rfl rfl rfl (by decide +kernel) ⟨Nat.le_of_ble_eq_true rfl, Nat.le_of_ble_eq_true rfl⟩) (g_pre h gk_c0 (by decide) rfl rfl _) rfl hl.1 rfl (Nat.le_of_ble_eq_true rfl) dX6_inRow_2 ⟨Nat.zero_le _, Nat.zero_le _⟩ (fun H locs h => ?_)
  refine lv_aload_n hx hb dX6_inRow_5 rfl (lv_at hl 0 rfl) ?_
  refine g_get S h gk_c0 (by decide) rfl rfl in6 (k := 1) (by decide) (by decide +kernel) rfl dX6_inRow_6 ?_
  refine lv_iload_n hx hb dX6_inRow_9 rfl (lv_at hl 1 rfl) ?_
  refine g_callr S h (c_X1_rowOf l D L cy X A _ (h.2.2.2.2 _) gk_c30 _) (cwV 1 hts gX6_inRow_X1_rowOf rfl rfl rfl (by decide +kernel) ⟨Nat.le_of_ble_eq_true rfl, Nat.le_of_ble_eq_true rfl⟩) (g_pre h gk_c30 (by decide) rfl rfl _) rfl hl.1 rfl (Nat.le_of_ble_eq_true rfl) dX6_inRow_10 ⟨Nat.zero_le _, Nat.zero_le _⟩ (fun H locs h => ?_)
  refine g_topr (fun i1 ei1 => ?_)
  have hki1 : gkd i1 = 10 := by rw [ei1]; exact (gk_row gk_c30 _)
  refine lv_astore_n (lv' := [(3, .ref (L i1)), (0, .ref (L 0)), (1, .int wk0), (2, .int pl)]) hx hb dX6_inRow_13 rfl hl (by decide) rfl (fun ls hl => ?_)
  refine lv_iload_n hx hb dX6_inRow_14 rfl (lv_at hl 3 rfl) ?_
  refine lv_if_lt (tgt := 26) hx hb dX6_inRow_15 (by decide) (fun c2 => ?_) (fun c2 => ?_)
  · subst ei1; exact absurd c2 hd3
  · refine lv_iload_n hx hb dX6_inRow_18 rfl (lv_at hl 3 rfl) ?_
    refine lv_aload_n hx hb dX6_inRow_19 rfl (lv_at hl 0 rfl) ?_
    refine g_getN S h hki1 (by decide) rfl rfl in2 (k := 1) (by decide) (by decide +kernel) rfl dX6_inRow_20 ?_
    refine lv_icmp_lt (tgt := 36) hx hb dX6_inRow_23 (by decide) (fun c3 => ?_) (fun c3 => ?_)
    · refine lv_aload_n hx hb dX6_inRow_36 rfl (lv_at hl 0 rfl) ?_
      refine lv_iload_n hx hb dX6_inRow_37 rfl (lv_at hl 3 rfl) ?_
      refine g_calli S h (c_X2_at l D L cy X A _ (h.2.2.2.2 _) hki1 _) (cwV 1 hts gX6_inRow_X2_at rfl rfl rfl (by decide +kernel) ⟨Nat.le_of_ble_eq_true rfl, Nat.le_of_ble_eq_true rfl⟩) (g_pre h hki1 (by decide) rfl rfl _) rfl hl.1 rfl (Nat.le_of_ble_eq_true rfl) dX6_inRow_38 ⟨Nat.zero_le _, Nat.zero_le _⟩ (fun H locs h => ?_)
      exact g_reti S h hr hlocks rfl (by subst ei1; first | (simp only [f_X6_inRow, if_neg c2, if_pos c3]; done) | (simp only [f_X6_inRow, if_neg c2, if_pos c3]; rfl) | rfl) rfl dX6_inRow_41
    · subst ei1; exact absurd hd4 c3
set_option maxHeartbeats 8000000 in
set_option maxRecDepth 100000 in
/-- told(w, what) -/
theorem c_X6_told (l : Launch) (D : va_G) (L : Nat → Nat) (cy : Nat → ClassId) (X : va_W) (A : Nat → Prop) (st : gSt) (hD : va_D A (X ++ gW L cy st)) (wk0 : Int32) (wt : Int32)  (hd1 : ¬ (wk0 < (0 : Int32))) (hd2 : wk0 < (st 30 6)) (hd3 : ¬ (wt < (0 : Int32))) (hd4 : wt ≤ (2 : Int32)) : gMi l yX6_told wsX6_told { frames := 1, cells := 0, slots := 0, locals := 21 } D L cy X A [.ref (L 0), .int wk0, .int wt] st (f_X6_told st wk0 wt) st := by
  refine g_entry hD (cc := cX6_told) (maxL := 4) (ret := (some .int)) (by decide +kernel) rfl (Nat.le_of_ble_eq_true rfl) ?_
  intro p e s m args below meth c ls B
  obtain ⟨S, hr, hlocks, h, hl⟩ := B
  have hx := S.1
  have hb := S.2.1
  have hts := S.2.2.2.2
  have in5 : ∀ w ∈ wsX50, w ∈ wsX6_told := by decide +kernel
  have in6 : ∀ w ∈ wsX60, w ∈ wsX6_told := by decide +kernel
  have hl : lv_has ls 4 [(0, .ref (L 0)), (1, .int wk0), (2, .int wt)] := hl
  refine lv_aload_n hx hb dX6_told_0 rfl (lv_at hl 0 rfl) ?_
  refine lv_iload_n hx hb dX6_told_1 rfl (lv_at hl 1 rfl) ?_
  refine g_callv S h (c_X6_needWorker l D L cy X A _ (h.2.2.2.2 _) _ hd1 hd2) (cwV 1 hts gX6_told_X6_needWorker rfl rfl rfl (by decide +kernel) ⟨Nat.le_of_ble_eq_true rfl, Nat.le_of_ble_eq_true rfl⟩) (g_pre h gk_c0 (by decide) rfl rfl _) rfl hl.1 rfl (Nat.le_of_ble_eq_true rfl) dX6_told_2 ⟨Nat.zero_le _, Nat.zero_le _⟩ (fun H locs h => ?_)
  refine lv_iload_n hx hb dX6_told_5 rfl (lv_at hl 2 rfl) ?_
  refine lv_if_lt (tgt := 14) hx hb dX6_told_6 (by decide) (fun c1 => ?_) (fun c1 => ?_)
  · exact absurd c1 hd3
  · refine lv_iload_n hx hb dX6_told_9 rfl (lv_at hl 2 rfl) ?_
    refine lv_iconst (v := 2) hx hb dX6_told_10 (by decide) ?_
    refine lv_icmp_le (tgt := 24) hx hb dX6_told_11 (by decide) (fun c2 => ?_) (fun c2 => ?_)
    · refine lv_aload_n hx hb dX6_told_24 rfl (lv_at hl 0 rfl) ?_
      refine g_get S h gk_c0 (by decide) rfl rfl in6 (k := 1) (by decide) (by decide +kernel) rfl dX6_told_25 ?_
      refine lv_iload_n hx hb dX6_told_28 rfl (lv_at hl 1 rfl) ?_
      refine g_callr S h (c_X1_workerAt l D L cy X A _ (h.2.2.2.2 _) gk_c30 _) (cwV 1 hts gX6_told_X1_workerAt rfl rfl rfl (by decide +kernel) ⟨Nat.le_of_ble_eq_true rfl, Nat.le_of_ble_eq_true rfl⟩) (g_pre h gk_c30 (by decide) rfl rfl _) rfl hl.1 rfl (Nat.le_of_ble_eq_true rfl) dX6_told_29 ⟨Nat.zero_le _, Nat.zero_le _⟩ (fun H locs h => ?_)
      refine g_topr (fun i3 ei3 => ?_)
      have hki3 : gkd i3 = 9 := by rw [ei3]; exact (gk_wk gk_c30 _)
      refine lv_astore_n (lv' := [(3, .ref (L i3)), (0, .ref (L 0)), (1, .int wk0), (2, .int wt)]) hx hb dX6_told_32 rfl hl (by decide) rfl (fun ls hl => ?_)
      refine lv_iload_n hx hb dX6_told_33 rfl (lv_at hl 3 rfl) ?_
      refine lv_if_ne (tgt := 42) hx hb dX6_told_34 (by decide) (fun c4 => ?_) (fun c4 => ?_)
      · refine lv_iload_n hx hb dX6_told_42 rfl (lv_at hl 3 rfl) ?_
        refine lv_iconst (v := 1) hx hb dX6_told_43 (by decide) ?_
        refine lv_icmp_ne (tgt := 54) hx hb dX6_told_44 (by decide) (fun c5 => ?_) (fun c5 => ?_)
        · refine lv_aload_n hx hb dX6_told_54 rfl (lv_at hl 0 rfl) ?_
          refine g_getN S h hki3 (by decide) rfl rfl in5 (k := 4) (by decide) (by decide +kernel) rfl dX6_told_55 ?_
          exact g_reti S h hr hlocks rfl (by subst ei3; first | (simp only [f_X6_told, if_neg c1, if_pos c2, if_neg c4, if_neg c5]; done) | (simp only [f_X6_told, if_neg c1, if_pos c2, if_neg c4, if_neg c5]; rfl) | rfl) rfl dX6_told_58
        · refine lv_aload_n hx hb dX6_told_47 rfl (lv_at hl 0 rfl) ?_
          refine g_getN S h hki3 (by decide) rfl rfl in5 (k := 3) (by decide) (by decide +kernel) rfl dX6_told_48 ?_
          refine lv_goto (tgt := 58) hx hb dX6_told_51 (by decide) ?_
          exact g_reti S h hr hlocks rfl (by subst ei3; first | (simp only [f_X6_told, if_neg c1, if_pos c2, if_neg c4, if_pos c5]; done) | (simp only [f_X6_told, if_neg c1, if_pos c2, if_neg c4, if_pos c5]; rfl) | rfl) rfl dX6_told_58
      · refine lv_aload_n hx hb dX6_told_37 rfl (lv_at hl 0 rfl) ?_
        refine g_getN S h hki3 (by decide) rfl rfl in5 (k := 2) (by decide) (by decide +kernel) rfl dX6_told_38 ?_
        exact g_reti S h hr hlocks rfl (by subst ei3; first | (simp only [f_X6_told, if_neg c1, if_pos c2, if_pos c4]; done) | (simp only [f_X6_told, if_neg c1, if_pos c2, if_pos c4]; rfl) | rfl) rfl dX6_told_41
    · exact absurd hd4 c2
set_option maxHeartbeats 8000000 in
set_option maxRecDepth 100000 in
/-- ran(w, back) -/
theorem c_X6_ran (l : Launch) (D : va_G) (L : Nat → Nat) (cy : Nat → ClassId) (X : va_W) (A : Nat → Prop) (st : gSt) (hD : va_D A (X ++ gW L cy st)) (wk0 : Int32) (bk : Int32)  (hd1 : ¬ (wk0 < (0 : Int32))) (hd2 : wk0 < (st 30 6)) (hd3 : ¬ (bk < (1 : Int32))) (hd4 : bk ≤ (20 : Int32)) : gMi l yX6_ran wsX6_ran { frames := 2, cells := 0, slots := 0, locals := 43 } D L cy X A [.ref (L 0), .int wk0, .int bk] st (f_X6_ran st wk0 bk) st := by
  refine g_entry hD (cc := cX6_ran) (maxL := 3) (ret := (some .int)) (by decide +kernel) rfl (Nat.le_of_ble_eq_true rfl) ?_
  intro p e s m args below meth c ls B
  obtain ⟨S, hr, hlocks, h, hl⟩ := B
  have hx := S.1
  have hb := S.2.1
  have hts := S.2.2.2.2
  have in1 : ∀ w ∈ wsX10, w ∈ wsX6_ran := by decide +kernel
  have in6 : ∀ w ∈ wsX60, w ∈ wsX6_ran := by decide +kernel
  have hl : lv_has ls 3 [(0, .ref (L 0)), (1, .int wk0), (2, .int bk)] := hl
  refine lv_aload_n hx hb dX6_ran_0 rfl (lv_at hl 0 rfl) ?_
  refine lv_iload_n hx hb dX6_ran_1 rfl (lv_at hl 1 rfl) ?_
  refine g_callv S h (c_X6_needWorker l D L cy X A _ (h.2.2.2.2 _) _ hd1 hd2) (cwV 1 hts gX6_ran_X6_needWorker rfl rfl rfl (by decide +kernel) ⟨Nat.le_of_ble_eq_true rfl, Nat.le_of_ble_eq_true rfl⟩) (g_pre h gk_c0 (by decide) rfl rfl _) rfl hl.1 rfl (Nat.le_of_ble_eq_true rfl) dX6_ran_2 ⟨Nat.zero_le _, Nat.zero_le _⟩ (fun H locs h => ?_)
  refine lv_iload_n hx hb dX6_ran_5 rfl (lv_at hl 2 rfl) ?_
  refine lv_iconst (v := 1) hx hb dX6_ran_6 (by decide) ?_
  refine lv_icmp_lt (tgt := 16) hx hb dX6_ran_7 (by decide) (fun c1 => ?_) (fun c1 => ?_)
  · exact absurd c1 hd3
  · refine lv_iload_n hx hb dX6_ran_10 rfl (lv_at hl 2 rfl) ?_
    refine lv_bipush (v := 20) hx hb dX6_ran_11 (by decide) ?_
    refine lv_icmp_le (tgt := 26) hx hb dX6_ran_13 (by decide) (fun c2 => ?_) (fun c2 => ?_)
    · refine lv_iload_n hx hb dX6_ran_26 rfl (lv_at hl 2 rfl) ?_
      refine lv_aload_n hx hb dX6_ran_27 rfl (lv_at hl 0 rfl) ?_
      refine g_get S h gk_c0 (by decide) rfl rfl in6 (k := 1) (by decide) (by decide +kernel) rfl dX6_ran_28 ?_
      refine g_getN S h gk_c30 (by decide) rfl rfl in1 (k := 11) (by decide) (by decide +kernel) rfl dX6_ran_31 ?_
      refine lv_icmp_le (tgt := 42) hx hb dX6_ran_34 (by decide) (fun c3 => ?_) (fun c3 => ?_)
      · refine lv_aload_n hx hb dX6_ran_42 rfl (lv_at hl 0 rfl) ?_
        refine g_get S h gk_c0 (by decide) rfl rfl in6 (k := 1) (by decide) (by decide +kernel) rfl dX6_ran_43 ?_
        refine lv_iload_n hx hb dX6_ran_46 rfl (lv_at hl 1 rfl) ?_
        refine g_callr S h (c_X1_workerAt l D L cy X A _ (h.2.2.2.2 _) gk_c30 _) (cwV 1 hts gX6_ran_X1_workerAt rfl rfl rfl (by decide +kernel) ⟨Nat.le_of_ble_eq_true rfl, Nat.le_of_ble_eq_true rfl⟩) (g_pre h gk_c30 (by decide) rfl rfl _) rfl hl.1 rfl (Nat.le_of_ble_eq_true rfl) dX6_ran_47 ⟨Nat.zero_le _, Nat.zero_le _⟩ (fun H locs h => ?_)
        refine lv_aload_n hx hb dX6_ran_50 rfl (lv_at hl 0 rfl) ?_
        refine g_get S h gk_c0 (by decide) rfl rfl in6 (k := 1) (by decide) (by decide +kernel) rfl dX6_ran_51 ?_
        refine g_getN S h gk_c30 (by decide) rfl rfl in1 (k := 11) (by decide) (by decide +kernel) rfl dX6_ran_54 ?_
        refine lv_iload_n hx hb dX6_ran_57 rfl (lv_at hl 2 rfl) ?_
        refine lv_isub hx hb dX6_ran_58 ?_
        refine g_calli S h (c_X5_ranIn l D L cy X A _ (h.2.2.2.2 _) (gk_wk gk_c30 _) _) (cwV 1 hts gX6_ran_X5_ranIn rfl rfl rfl (by decide +kernel) ⟨Nat.le_of_ble_eq_true rfl, Nat.le_of_ble_eq_true rfl⟩) (g_pre h (gk_wk gk_c30 _) (by decide) rfl rfl _) rfl hl.1 rfl (Nat.le_of_ble_eq_true rfl) dX6_ran_59 ⟨Nat.zero_le _, Nat.zero_le _⟩ (fun H locs h => ?_)
        exact g_reti S h hr hlocks rfl (by first | (simp only [f_X6_ran, if_neg c1, if_pos c2, if_pos c3]; done) | (simp only [f_X6_ran, if_neg c1, if_pos c2, if_pos c3]; rfl) | rfl) rfl dX6_ran_62
      · refine lv_bipush (v := (-2)) hx hb dX6_ran_37 (by decide) ?_
        refine lv_goto (tgt := 62) hx hb dX6_ran_39 (by decide) ?_
        exact g_reti S h hr hlocks rfl (by first | (simp only [f_X6_ran, if_neg c1, if_pos c2, if_neg c3]; done) | (simp only [f_X6_ran, if_neg c1, if_pos c2, if_neg c3]; rfl) | rfl) rfl dX6_ran_62
    · exact absurd hd4 c2
set_option maxHeartbeats 8000000 in
set_option maxRecDepth 100000 in
/-- halted() -/
theorem c_X6_halted (l : Launch) (D : va_G) (L : Nat → Nat) (cy : Nat → ClassId) (X : va_W) (A : Nat → Prop) (st : gSt) (hD : va_D A (X ++ gW L cy st))   : gMi l yX6_halted wsX6_halted { frames := 6, cells := 0, slots := 0, locals := 130 } D L cy X A [.ref (L 0)] st (f_X6_halted st) st := by
  refine g_entry hD (cc := cX6_halted) (maxL := 3) (ret := (some .int)) (by decide +kernel) rfl (Nat.le_of_ble_eq_true rfl) ?_
  intro p e s m args below meth c ls B
  obtain ⟨S, hr, hlocks, h, hl⟩ := B
  have hx := S.1
  have hb := S.2.1
  have hts := S.2.2.2.2
  have in6 : ∀ w ∈ wsX60, w ∈ wsX6_halted := by decide +kernel
  have hl : lv_has ls 3 [(0, .ref (L 0))] := hl
  refine lv_aload_n hx hb dX6_halted_0 rfl (lv_at hl 0 rfl) ?_
  refine g_get S h gk_c0 (by decide) rfl rfl in6 (k := 1) (by decide) (by decide +kernel) rfl dX6_halted_1 ?_
  refine g_calli S h (c_X1_isHalted l D L cy X A _ (h.2.2.2.2 _) gk_c30) (cwV 0 hts gX6_halted_X1_isHalted rfl rfl rfl (by decide +kernel) ⟨Nat.le_of_ble_eq_true rfl, Nat.le_of_ble_eq_true rfl⟩) (g_pre h gk_c30 (by decide) rfl rfl _) rfl hl.1 rfl (Nat.le_of_ble_eq_true rfl) dX6_halted_4 ⟨Nat.zero_le _, Nat.zero_le _⟩ (fun H locs h => ?_)
  refine lv_if_ne (tgt := 12) hx hb dX6_halted_7 (by decide) (fun c1 => ?_) (fun c1 => ?_)
  · refine lv_aload_n hx hb dX6_halted_12 rfl (lv_at hl 0 rfl) ?_
    refine g_get S h gk_c0 (by decide) rfl rfl in6 (k := 1) (by decide) (by decide +kernel) rfl dX6_halted_13 ?_
    refine lv_iconst (v := 3) hx hb dX6_halted_16 (by decide) ?_
    refine g_calli S h (c_X1_hasTaskIn l D L cy X A _ (h.2.2.2.2 _) gk_c30 _) (cwV 1 hts gX6_halted_X1_hasTaskIn rfl rfl rfl (by decide +kernel) ⟨Nat.le_of_ble_eq_true rfl, Nat.le_of_ble_eq_true rfl⟩) (g_pre h gk_c30 (by decide) rfl rfl _) rfl hl.1 rfl (Nat.le_of_ble_eq_true rfl) dX6_halted_17 ⟨Nat.zero_le _, Nat.zero_le _⟩ (fun H locs h => ?_)
    refine lv_if_eq (tgt := 27) hx hb dX6_halted_20 (by decide) (fun c2 => ?_) (fun c2 => ?_)
    · refine lv_iconst (v := 0) hx hb dX6_halted_27 (by decide) ?_
      refine lv_istore_n (lv' := [(1, .int 0), (0, .ref (L 0))]) hx hb dX6_halted_28 rfl hl (by decide) rfl (fun ls hl => ?_)
      refine lv_aload_n hx hb dX6_halted_29 rfl (lv_at hl 1 rfl) ?_
      refine g_get S h gk_c0 (by decide) rfl rfl in6 (k := 1) (by decide) (by decide +kernel) rfl dX6_halted_30 ?_
      refine lv_iconst (v := 0) hx hb dX6_halted_33 (by decide) ?_
      refine g_calli S h (c_X1_hasTaskIn l D L cy X A _ (h.2.2.2.2 _) gk_c30 _) (cwV 1 hts gX6_halted_X1_hasTaskIn rfl rfl rfl (by decide +kernel) ⟨Nat.le_of_ble_eq_true rfl, Nat.le_of_ble_eq_true rfl⟩) (g_pre h gk_c30 (by decide) rfl rfl _) rfl hl.1 rfl (Nat.le_of_ble_eq_true rfl) dX6_halted_34 ⟨Nat.zero_le _, Nat.zero_le _⟩ (fun H locs h => ?_)
      refine lv_if_eq (tgt := 44) hx hb dX6_halted_37 (by decide) (fun c3 => ?_) (fun c3 => ?_)
      · refine lv_iconst (v := 0) hx hb dX6_halted_44 (by decide) ?_
        refine lv_istore_n (lv' := [(2, .int 0), (1, .int 0), (0, .ref (L 0))]) hx hb dX6_halted_45 rfl hl (by decide) rfl (fun ls hl => ?_)
        refine lv_iconst (v := 4) hx hb dX6_halted_46 (by decide) ?_
        refine lv_iload_n hx hb dX6_halted_47 rfl (lv_at hl 1 rfl) ?_
        refine lv_iadd hx hb dX6_halted_48 ?_
        refine lv_iload_n hx hb dX6_halted_49 rfl (lv_at hl 0 rfl) ?_
        refine lv_iadd hx hb dX6_halted_50 ?_
        exact g_reti S h hr hlocks rfl (by first | (simp only [f_X6_halted, if_neg c1, if_pos c2, if_pos c3]; done) | (simp only [f_X6_halted, if_neg c1, if_pos c2, if_pos c3]; rfl) | rfl) rfl dX6_halted_51
      · refine lv_iconst (v := 2) hx hb dX6_halted_40 (by decide) ?_
        refine lv_goto (tgt := 45) hx hb dX6_halted_41 (by decide) ?_
        refine lv_istore_n (lv' := [(2, .int 2), (1, .int 0), (0, .ref (L 0))]) hx hb dX6_halted_45 rfl hl (by decide) rfl (fun ls hl => ?_)
        refine lv_iconst (v := 4) hx hb dX6_halted_46 (by decide) ?_
        refine lv_iload_n hx hb dX6_halted_47 rfl (lv_at hl 1 rfl) ?_
        refine lv_iadd hx hb dX6_halted_48 ?_
        refine lv_iload_n hx hb dX6_halted_49 rfl (lv_at hl 0 rfl) ?_
        refine lv_iadd hx hb dX6_halted_50 ?_
        exact g_reti S h hr hlocks rfl (by first | (simp only [f_X6_halted, if_neg c1, if_pos c2, if_neg c3]; done) | (simp only [f_X6_halted, if_neg c1, if_pos c2, if_neg c3]; rfl) | rfl) rfl dX6_halted_51
    · refine lv_iconst (v := 1) hx hb dX6_halted_23 (by decide) ?_
      refine lv_goto (tgt := 28) hx hb dX6_halted_24 (by decide) ?_
      refine lv_istore_n (lv' := [(1, .int 1), (0, .ref (L 0))]) hx hb dX6_halted_28 rfl hl (by decide) rfl (fun ls hl => ?_)
      refine lv_aload_n hx hb dX6_halted_29 rfl (lv_at hl 1 rfl) ?_
      refine g_get S h gk_c0 (by decide) rfl rfl in6 (k := 1) (by decide) (by decide +kernel) rfl dX6_halted_30 ?_
      refine lv_iconst (v := 0) hx hb dX6_halted_33 (by decide) ?_
      refine g_calli S h (c_X1_hasTaskIn l D L cy X A _ (h.2.2.2.2 _) gk_c30 _) (cwV 1 hts gX6_halted_X1_hasTaskIn rfl rfl rfl (by decide +kernel) ⟨Nat.le_of_ble_eq_true rfl, Nat.le_of_ble_eq_true rfl⟩) (g_pre h gk_c30 (by decide) rfl rfl _) rfl hl.1 rfl (Nat.le_of_ble_eq_true rfl) dX6_halted_34 ⟨Nat.zero_le _, Nat.zero_le _⟩ (fun H locs h => ?_)
      refine lv_if_eq (tgt := 44) hx hb dX6_halted_37 (by decide) (fun c4 => ?_) (fun c4 => ?_)
      · refine lv_iconst (v := 0) hx hb dX6_halted_44 (by decide) ?_
        refine lv_istore_n (lv' := [(2, .int 0), (1, .int 1), (0, .ref (L 0))]) hx hb dX6_halted_45 rfl hl (by decide) rfl (fun ls hl => ?_)
        refine lv_iconst (v := 4) hx hb dX6_halted_46 (by decide) ?_
        refine lv_iload_n hx hb dX6_halted_47 rfl (lv_at hl 1 rfl) ?_
        refine lv_iadd hx hb dX6_halted_48 ?_
        refine lv_iload_n hx hb dX6_halted_49 rfl (lv_at hl 0 rfl) ?_
        refine lv_iadd hx hb dX6_halted_50 ?_
        exact g_reti S h hr hlocks rfl (by first | (simp only [f_X6_halted, if_neg c1, if_neg c2, if_pos c4]; done) | (simp only [f_X6_halted, if_neg c1, if_neg c2, if_pos c4]; rfl) | rfl) rfl dX6_halted_51
      · refine lv_iconst (v := 2) hx hb dX6_halted_40 (by decide) ?_
        refine lv_goto (tgt := 45) hx hb dX6_halted_41 (by decide) ?_
        refine lv_istore_n (lv' := [(2, .int 2), (1, .int 1), (0, .ref (L 0))]) hx hb dX6_halted_45 rfl hl (by decide) rfl (fun ls hl => ?_)
        refine lv_iconst (v := 4) hx hb dX6_halted_46 (by decide) ?_
        refine lv_iload_n hx hb dX6_halted_47 rfl (lv_at hl 1 rfl) ?_
        refine lv_iadd hx hb dX6_halted_48 ?_
        refine lv_iload_n hx hb dX6_halted_49 rfl (lv_at hl 0 rfl) ?_
        refine lv_iadd hx hb dX6_halted_50 ?_
        exact g_reti S h hr hlocks rfl (by first | (simp only [f_X6_halted, if_neg c1, if_neg c2, if_neg c4]; done) | (simp only [f_X6_halted, if_neg c1, if_neg c2, if_neg c4]; rfl) | rfl) rfl dX6_halted_51
  · refine lv_iconst (v := 0) hx hb dX6_halted_10 (by decide) ?_
    exact g_reti S h hr hlocks rfl (by first | (simp only [f_X6_halted, if_pos c1]; done) | (simp only [f_X6_halted, if_pos c1]; rfl) | rfl) rfl dX6_halted_11
