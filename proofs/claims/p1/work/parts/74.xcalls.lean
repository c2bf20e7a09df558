set_option maxHeartbeats 4000000 in
set_option maxRecDepth 100000 in
/-- needJob: there is none -/
theorem x_needJob (l : Launch) (hl0 : l.stackTraces = false) (D : va_G) (L : Nat → Nat) (cy : Nat → ClassId) (X : va_W) (A : Nat → Prop) (st : gSt) (hD : va_D A (X ++ gW L cy st)) (job : Int32) (hz : f_X6_isJob st job = 0) : xMv l yX6_needJob wsX6_needJob { frames := 8, cells := 1, slots := 6, locals := 200 } D L cy X A [.ref (L 0), .int job] st xIO := by
  refine x_entry hD (cc := cX6_needJob) (maxL := 2) (ret := none) (by decide +kernel) rfl (Nat.le_of_ble_eq_true rfl) ?_
  intro p e s m args below meth c ls B
  obtain ⟨S, hr, hlocks, ht, h, hl⟩ := B
  have hx := S.1
  have hb := S.2.1
  have hts := S.2.2.2.2
  have hl : lv_has ls 2 [(0, .ref (L 0)), (1, .int job)] := hl
  refine lv_aload_n hx hb dX6_needJob_0 rfl (lv_at hl 0 rfl) ?_
  refine lv_iload_n hx hb dX6_needJob_1 rfl (lv_at hl 1 rfl) ?_
  refine g_calli S h.1 (c_X6_isJob l D L cy X A _ hD job) (cwV 1 hts gX6_needJob_X6_isJob rfl rfl rfl (by decide +kernel) ⟨Nat.le_of_ble_eq_true rfl, Nat.le_of_ble_eq_true rfl⟩) (g_pre h.1 gk_c0 (by decide) rfl rfl _) rfl hl.1 rfl (Nat.le_of_ble_eq_true rfl) dX6_needJob_2 ⟨Nat.zero_le _, Nat.zero_le _⟩ (fun H locs h1 => ?_)
  have h := xG.to h h1
  refine lv_if_ne (tgt := 19) hx hb dX6_needJob_5 (by decide) (fun c1 => absurd hz c1) (fun c1 => ?_)
  exact x_throwSW S hl0 ht h (text := "no such job") (ik := 207) (is := 316) (ic := 211) (by decide +kernel) (by decide +kernel) (by decide +kernel) (by decide +kernel) (by decide +kernel) (by decide +kernel) (by decide +kernel) hl.1 dX6_needJob_8 dX6_needJob_11 dX6_needJob_12 dX6_needJob_15 dX6_needJob_18 (Nat.le_of_ble_eq_true rfl) (Nat.le_of_ble_eq_true rfl) (Nat.le_of_ble_eq_true rfl) (Nat.le_of_ble_eq_true rfl) hlocks (Nat.le_of_ble_eq_true rfl) (Nat.le_of_ble_eq_true rfl)
set_option maxHeartbeats 4000000 in
set_option maxRecDepth 100000 in
/-- needTask -/
theorem x_needTask (l : Launch) (hl0 : l.stackTraces = false) (D : va_G) (L : Nat → Nat) (cy : Nat → ClassId) (X : va_W) (A : Nat → Prop) (st : gSt) (hD : va_D A (X ++ gW L cy st)) (v : Int32) (hz : v < 0 ∨ st 30 3 ≤ v) : xMv l yX6_needTask wsX6_needTask { frames := 8, cells := 1, slots := 6, locals := 200 } D L cy X A [.ref (L 0), .int v] st xIO := by
  refine x_entry hD (cc := cX6_needTask) (maxL := 2) (ret := none) (by decide +kernel) rfl (Nat.le_of_ble_eq_true rfl) ?_
  intro p e s m args below meth c ls B
  obtain ⟨S, hr, hlocks, ht, h, hl⟩ := B
  have hx := S.1
  have hb := S.2.1
  have hts := S.2.2.2.2
  have in6 : ∀ w ∈ wsX60, w ∈ wsX6_needTask := by decide +kernel
  have in1 : ∀ w ∈ wsX10, w ∈ wsX6_needTask := by decide +kernel
  have hl : lv_has ls 2 [(0, .ref (L 0)), (1, .int v)] := hl
  refine lv_iload_n hx hb dX6_needTask_0 rfl (lv_at hl 1 rfl) ?_
  refine lv_if_lt (tgt := 15) hx hb dX6_needTask_1 (by decide) (fun c1 => ?_) (fun c1 => ?_)
  · exact x_throwSW S hl0 ht h (text := "no such task") (ik := 207) (is := 318) (ic := 211) (by decide +kernel) (by decide +kernel) (by decide +kernel) (by decide +kernel) (by decide +kernel) (by decide +kernel) (by decide +kernel) hl.1 dX6_needTask_15 dX6_needTask_18 dX6_needTask_19 dX6_needTask_22 dX6_needTask_25 (Nat.le_of_ble_eq_true rfl) (Nat.le_of_ble_eq_true rfl) (Nat.le_of_ble_eq_true rfl) (Nat.le_of_ble_eq_true rfl) hlocks (Nat.le_of_ble_eq_true rfl) (Nat.le_of_ble_eq_true rfl)
  · refine lv_iload_n hx hb dX6_needTask_4 rfl (lv_at hl 1 rfl) ?_
    refine lv_aload_n hx hb dX6_needTask_5 rfl (lv_at hl 0 rfl) ?_
    refine g_get S h.1 gk_c0 (by decide) rfl rfl in6 (k := 1) (by decide) (by decide +kernel) rfl dX6_needTask_6 ?_
    refine g_getN S h.1 gk_c30 (by decide) rfl rfl in1 (k := 3) (by decide) (by decide +kernel) rfl dX6_needTask_9 ?_
    refine lv_icmp_lt (tgt := 26) hx hb dX6_needTask_12 (by decide) (fun c2 => absurd c2 (Int32.not_lt.mpr (hz.resolve_left c1))) (fun c2 => ?_)
    exact x_throwSW S hl0 ht h (text := "no such task") (ik := 207) (is := 318) (ic := 211) (by decide +kernel) (by decide +kernel) (by decide +kernel) (by decide +kernel) (by decide +kernel) (by decide +kernel) (by decide +kernel) hl.1 dX6_needTask_15 dX6_needTask_18 dX6_needTask_19 dX6_needTask_22 dX6_needTask_25 (Nat.le_of_ble_eq_true rfl) (Nat.le_of_ble_eq_true rfl) (Nat.le_of_ble_eq_true rfl) (Nat.le_of_ble_eq_true rfl) hlocks (Nat.le_of_ble_eq_true rfl) (Nat.le_of_ble_eq_true rfl)
set_option maxHeartbeats 4000000 in
set_option maxRecDepth 100000 in
/-- needWorker -/
theorem x_needWorker (l : Launch) (hl0 : l.stackTraces = false) (D : va_G) (L : Nat → Nat) (cy : Nat → ClassId) (X : va_W) (A : Nat → Prop) (st : gSt) (hD : va_D A (X ++ gW L cy st)) (v : Int32) (hz : v < 0 ∨ st 30 6 ≤ v) : xMv l yX6_needWorker wsX6_needWorker { frames := 8, cells := 1, slots := 6, locals := 200 } D L cy X A [.ref (L 0), .int v] st xIO := by
  refine x_entry hD (cc := cX6_needWorker) (maxL := 2) (ret := none) (by decide +kernel) rfl (Nat.le_of_ble_eq_true rfl) ?_
  intro p e s m args below meth c ls B
  obtain ⟨S, hr, hlocks, ht, h, hl⟩ := B
  have hx := S.1
  have hb := S.2.1
  have hts := S.2.2.2.2
  have in6 : ∀ w ∈ wsX60, w ∈ wsX6_needWorker := by decide +kernel
  have in1 : ∀ w ∈ wsX10, w ∈ wsX6_needWorker := by decide +kernel
  have hl : lv_has ls 2 [(0, .ref (L 0)), (1, .int v)] := hl
  refine lv_iload_n hx hb dX6_needWorker_0 rfl (lv_at hl 1 rfl) ?_
  refine lv_if_lt (tgt := 15) hx hb dX6_needWorker_1 (by decide) (fun c1 => ?_) (fun c1 => ?_)
  · exact x_throwSW S hl0 ht h (text := "no such worker") (ik := 207) (is := 320) (ic := 211) (by decide +kernel) (by decide +kernel) (by decide +kernel) (by decide +kernel) (by decide +kernel) (by decide +kernel) (by decide +kernel) hl.1 dX6_needWorker_15 dX6_needWorker_18 dX6_needWorker_19 dX6_needWorker_22 dX6_needWorker_25 (Nat.le_of_ble_eq_true rfl) (Nat.le_of_ble_eq_true rfl) (Nat.le_of_ble_eq_true rfl) (Nat.le_of_ble_eq_true rfl) hlocks (Nat.le_of_ble_eq_true rfl) (Nat.le_of_ble_eq_true rfl)
  · refine lv_iload_n hx hb dX6_needWorker_4 rfl (lv_at hl 1 rfl) ?_
    refine lv_aload_n hx hb dX6_needWorker_5 rfl (lv_at hl 0 rfl) ?_
    refine g_get S h.1 gk_c0 (by decide) rfl rfl in6 (k := 1) (by decide) (by decide +kernel) rfl dX6_needWorker_6 ?_
    refine g_getN S h.1 gk_c30 (by decide) rfl rfl in1 (k := 6) (by decide) (by decide +kernel) rfl dX6_needWorker_9 ?_
    refine lv_icmp_lt (tgt := 26) hx hb dX6_needWorker_12 (by decide) (fun c2 => absurd c2 (Int32.not_lt.mpr (hz.resolve_left c1))) (fun c2 => ?_)
    exact x_throwSW S hl0 ht h (text := "no such worker") (ik := 207) (is := 320) (ic := 211) (by decide +kernel) (by decide +kernel) (by decide +kernel) (by decide +kernel) (by decide +kernel) (by decide +kernel) (by decide +kernel) hl.1 dX6_needWorker_15 dX6_needWorker_18 dX6_needWorker_19 dX6_needWorker_22 dX6_needWorker_25 (Nat.le_of_ble_eq_true rfl) (Nat.le_of_ble_eq_true rfl) (Nat.le_of_ble_eq_true rfl) (Nat.le_of_ble_eq_true rfl) hlocks (Nat.le_of_ble_eq_true rfl) (Nat.le_of_ble_eq_true rfl)
set_option maxHeartbeats 4000000 in
set_option maxRecDepth 100000 in
/-- needTicksAhead -/
theorem x_needTicksAhead (l : Launch) (hl0 : l.stackTraces = false) (D : va_G) (L : Nat → Nat) (cy : Nat → ClassId) (X : va_W) (A : Nat → Prop) (st : gSt) (hD : va_D A (X ++ gW L cy st)) (v : Int32) (hz : v < 1 ∨ 60 < v) : xMv l yX6_needTicksAhead wsX6_needTicksAhead { frames := 8, cells := 1, slots := 6, locals := 200 } D L cy X A [.int v] st xIA := by
  refine x_entry hD (cc := cX6_needTicksAhead) (maxL := 1) (ret := none) (by decide +kernel) rfl (Nat.le_of_ble_eq_true rfl) ?_
  intro p e s m args below meth c ls B
  obtain ⟨S, hr, hlocks, ht, h, hl⟩ := B
  have hx := S.1
  have hb := S.2.1
  have hts := S.2.2.2.2
  have hl : lv_has ls 1 [(0, .int v)] := hl
  refine lv_iload_n hx hb dX6_needTicksAhead_0 rfl (lv_at hl 0 rfl) ?_
  refine lv_iconst (v := 1) hx hb dX6_needTicksAhead_1 (by decide) ?_
  refine lv_icmp_lt (tgt := 11) hx hb dX6_needTicksAhead_2 (by decide) (fun c1 => ?_) (fun c1 => ?_)
  · exact x_throwSW S hl0 ht h (text := "ticks is not 1 to 60") (ik := 51) (is := 331) (ic := 55) (by decide +kernel) (by decide +kernel) (by decide +kernel) (by decide +kernel) (by decide +kernel) (by decide +kernel) (by decide +kernel) hl.1 dX6_needTicksAhead_11 dX6_needTicksAhead_14 dX6_needTicksAhead_15 dX6_needTicksAhead_18 dX6_needTicksAhead_21 (Nat.le_of_ble_eq_true rfl) (Nat.le_of_ble_eq_true rfl) (Nat.le_of_ble_eq_true rfl) (Nat.le_of_ble_eq_true rfl) hlocks (Nat.le_of_ble_eq_true rfl) (Nat.le_of_ble_eq_true rfl)
  · refine lv_iload_n hx hb dX6_needTicksAhead_5 rfl (lv_at hl 0 rfl) ?_
    refine lv_bipush (v := 60) hx hb dX6_needTicksAhead_6 (by decide) ?_
    refine lv_icmp_le (tgt := 22) hx hb dX6_needTicksAhead_8 (by decide) (fun c2 => absurd c2 (Int32.not_le.mpr (hz.resolve_left c1))) (fun c2 => ?_)
    exact x_throwSW S hl0 ht h (text := "ticks is not 1 to 60") (ik := 51) (is := 331) (ic := 55) (by decide +kernel) (by decide +kernel) (by decide +kernel) (by decide +kernel) (by decide +kernel) (by decide +kernel) (by decide +kernel) hl.1 dX6_needTicksAhead_11 dX6_needTicksAhead_14 dX6_needTicksAhead_15 dX6_needTicksAhead_18 dX6_needTicksAhead_21 (Nat.le_of_ble_eq_true rfl) (Nat.le_of_ble_eq_true rfl) (Nat.le_of_ble_eq_true rfl) (Nat.le_of_ble_eq_true rfl) hlocks (Nat.le_of_ble_eq_true rfl) (Nat.le_of_ble_eq_true rfl)
set_option maxHeartbeats 4000000 in
set_option maxRecDepth 100000 in
/-- needWorkerCount -/
theorem x_needWorkerCount (l : Launch) (hl0 : l.stackTraces = false) (D : va_G) (L : Nat → Nat) (cy : Nat → ClassId) (X : va_W) (A : Nat → Prop) (st : gSt) (hD : va_D A (X ++ gW L cy st)) (v : Int32) (hz : v < 1 ∨ 5 < v) : xMv l yX6_needWorkerCount wsX6_needWorkerCount { frames := 8, cells := 1, slots := 6, locals := 200 } D L cy X A [.int v] st xIA := by
  refine x_entry hD (cc := cX6_needWorkerCount) (maxL := 1) (ret := none) (by decide +kernel) rfl (Nat.le_of_ble_eq_true rfl) ?_
  intro p e s m args below meth c ls B
  obtain ⟨S, hr, hlocks, ht, h, hl⟩ := B
  have hx := S.1
  have hb := S.2.1
  have hts := S.2.2.2.2
  have hl : lv_has ls 1 [(0, .int v)] := hl
  refine lv_iload_n hx hb dX6_needWorkerCount_0 rfl (lv_at hl 0 rfl) ?_
  refine lv_iconst (v := 1) hx hb dX6_needWorkerCount_1 (by decide) ?_
  refine lv_icmp_lt (tgt := 10) hx hb dX6_needWorkerCount_2 (by decide) (fun c1 => ?_) (fun c1 => ?_)
  · exact x_throwSW S hl0 ht h (text := "workers is not 1 to 5") (ik := 51) (is := 327) (ic := 55) (by decide +kernel) (by decide +kernel) (by decide +kernel) (by decide +kernel) (by decide +kernel) (by decide +kernel) (by decide +kernel) hl.1 dX6_needWorkerCount_10 dX6_needWorkerCount_13 dX6_needWorkerCount_14 dX6_needWorkerCount_17 dX6_needWorkerCount_20 (Nat.le_of_ble_eq_true rfl) (Nat.le_of_ble_eq_true rfl) (Nat.le_of_ble_eq_true rfl) (Nat.le_of_ble_eq_true rfl) hlocks (Nat.le_of_ble_eq_true rfl) (Nat.le_of_ble_eq_true rfl)
  · refine lv_iload_n hx hb dX6_needWorkerCount_5 rfl (lv_at hl 0 rfl) ?_
    refine lv_iconst (v := 5) hx hb dX6_needWorkerCount_6 (by decide) ?_
    refine lv_icmp_le (tgt := 21) hx hb dX6_needWorkerCount_7 (by decide) (fun c2 => absurd c2 (Int32.not_le.mpr (hz.resolve_left c1))) (fun c2 => ?_)
    exact x_throwSW S hl0 ht h (text := "workers is not 1 to 5") (ik := 51) (is := 327) (ic := 55) (by decide +kernel) (by decide +kernel) (by decide +kernel) (by decide +kernel) (by decide +kernel) (by decide +kernel) (by decide +kernel) hl.1 dX6_needWorkerCount_10 dX6_needWorkerCount_13 dX6_needWorkerCount_14 dX6_needWorkerCount_17 dX6_needWorkerCount_20 (Nat.le_of_ble_eq_true rfl) (Nat.le_of_ble_eq_true rfl) (Nat.le_of_ble_eq_true rfl) (Nat.le_of_ble_eq_true rfl) hlocks (Nat.le_of_ble_eq_true rfl) (Nat.le_of_ble_eq_true rfl)
set_option maxHeartbeats 4000000 in
set_option maxRecDepth 100000 in
/-- needWay -/
theorem x_needWay (l : Launch) (hl0 : l.stackTraces = false) (D : va_G) (L : Nat → Nat) (cy : Nat → ClassId) (X : va_W) (A : Nat → Prop) (st : gSt) (hD : va_D A (X ++ gW L cy st)) (v : Int32) (hz : v < 0 ∨ 2 < v) : xMv l yX6_needWay wsX6_needWay { frames := 8, cells := 1, slots := 6, locals := 200 } D L cy X A [.int v] st xIA := by
  refine x_entry hD (cc := cX6_needWay) (maxL := 1) (ret := none) (by decide +kernel) rfl (Nat.le_of_ble_eq_true rfl) ?_
  intro p e s m args below meth c ls B
  obtain ⟨S, hr, hlocks, ht, h, hl⟩ := B
  have hx := S.1
  have hb := S.2.1
  have hts := S.2.2.2.2
  have hl : lv_has ls 1 [(0, .int v)] := hl
  refine lv_iload_n hx hb dX6_needWay_0 rfl (lv_at hl 0 rfl) ?_
  refine lv_if_lt (tgt := 9) hx hb dX6_needWay_1 (by decide) (fun c1 => ?_) (fun c1 => ?_)
  · exact x_throwSW S hl0 ht h (text := "no such way") (ik := 51) (is := 329) (ic := 55) (by decide +kernel) (by decide +kernel) (by decide +kernel) (by decide +kernel) (by decide +kernel) (by decide +kernel) (by decide +kernel) hl.1 dX6_needWay_9 dX6_needWay_12 dX6_needWay_13 dX6_needWay_16 dX6_needWay_19 (Nat.le_of_ble_eq_true rfl) (Nat.le_of_ble_eq_true rfl) (Nat.le_of_ble_eq_true rfl) (Nat.le_of_ble_eq_true rfl) hlocks (Nat.le_of_ble_eq_true rfl) (Nat.le_of_ble_eq_true rfl)
  · refine lv_iload_n hx hb dX6_needWay_4 rfl (lv_at hl 0 rfl) ?_
    refine lv_iconst (v := 2) hx hb dX6_needWay_5 (by decide) ?_
    refine lv_icmp_le (tgt := 20) hx hb dX6_needWay_6 (by decide) (fun c2 => absurd c2 (Int32.not_le.mpr (hz.resolve_left c1))) (fun c2 => ?_)
    exact x_throwSW S hl0 ht h (text := "no such way") (ik := 51) (is := 329) (ic := 55) (by decide +kernel) (by decide +kernel) (by decide +kernel) (by decide +kernel) (by decide +kernel) (by decide +kernel) (by decide +kernel) hl.1 dX6_needWay_9 dX6_needWay_12 dX6_needWay_13 dX6_needWay_16 dX6_needWay_19 (Nat.le_of_ble_eq_true rfl) (Nat.le_of_ble_eq_true rfl) (Nat.le_of_ble_eq_true rfl) (Nat.le_of_ble_eq_true rfl) hlocks (Nat.le_of_ble_eq_true rfl) (Nat.le_of_ble_eq_true rfl)
set_option maxHeartbeats 4000000 in
set_option maxRecDepth 100000 in
/-- needPromise -/
theorem x_needPromise (l : Launch) (hl0 : l.stackTraces = false) (D : va_G) (L : Nat → Nat) (cy : Nat → ClassId) (X : va_W) (A : Nat → Prop) (st : gSt) (hD : va_D A (X ++ gW L cy st)) (v : Int32) (hz : f_X6_isPromise st v = 0) : xMv l yX6_needPromise wsX6_needPromise { frames := 8, cells := 1, slots := 6, locals := 200 } D L cy X A [.int v] st xIO := by
  refine x_entry hD (cc := cX6_needPromise) (maxL := 1) (ret := none) (by decide +kernel) rfl (Nat.le_of_ble_eq_true rfl) ?_
  intro p e s m args below meth c ls B
  obtain ⟨S, hr, hlocks, ht, h, hl⟩ := B
  have hx := S.1
  have hb := S.2.1
  have hts := S.2.2.2.2
  have hl : lv_has ls 1 [(0, .int v)] := hl
  refine lv_iload_n hx hb dX6_needPromise_0 rfl (lv_at hl 0 rfl) ?_
  refine g_calliS S h.1 (c_X6_isPromise l D L cy X A _ hD v) (cwS 1 hts gX6_needPromise_X6_isPromise rfl rfl rfl (by decide +kernel) ⟨Nat.le_of_ble_eq_true rfl, Nat.le_of_ble_eq_true rfl⟩) rfl hl.1 rfl (Nat.le_of_ble_eq_true rfl) dX6_needPromise_1 ⟨Nat.zero_le _, Nat.zero_le _⟩ (fun H locs h1 => ?_)
  have h := xG.to h h1
  refine lv_if_ne (tgt := 18) hx hb dX6_needPromise_4 (by decide) (fun c1 => absurd hz c1) (fun c1 => ?_)
  exact x_throwSW S hl0 ht h (text := "no such promise") (ik := 207) (is := 325) (ic := 211) (by decide +kernel) (by decide +kernel) (by decide +kernel) (by decide +kernel) (by decide +kernel) (by decide +kernel) (by decide +kernel) hl.1 dX6_needPromise_7 dX6_needPromise_10 dX6_needPromise_11 dX6_needPromise_14 dX6_needPromise_17 (Nat.le_of_ble_eq_true rfl) (Nat.le_of_ble_eq_true rfl) (Nat.le_of_ble_eq_true rfl) (Nat.le_of_ble_eq_true rfl) hlocks (Nat.le_of_ble_eq_true rfl) (Nat.le_of_ble_eq_true rfl)
set_option maxHeartbeats 4000000 in
set_option maxRecDepth 100000 in
/-- needRow -/
theorem x_needRow (l : Launch) (hl0 : l.stackTraces = false) (D : va_G) (L : Nat → Nat) (cy : Nat → ClassId) (X : va_W) (A : Nat → Prop) (st : gSt) (hD : va_D A (X ++ gW L cy st)) (v : Int32) (hn : ¬ v = -1) (hz : v < 0 ∨ st 30 6 ≤ v) : xMv l yX6_needRow wsX6_needRow { frames := 9, cells := 1, slots := 6, locals := 230 } D L cy X A [.ref (L 0), .int v] st xIO := by
  refine x_entry hD (cc := cX6_needRow) (maxL := 2) (ret := none) (by decide +kernel) rfl (Nat.le_of_ble_eq_true rfl) ?_
  intro p e s m args below meth c ls B
  obtain ⟨S, hr, hlocks, ht, h, hl⟩ := B
  have hx := S.1
  have hb := S.2.1
  have hts := S.2.2.2.2
  have hl : lv_has ls 2 [(0, .ref (L 0)), (1, .int v)] := hl
  refine lv_iload_n hx hb dX6_needRow_0 rfl (lv_at hl 1 rfl) ?_
  refine lv_iconst (v := (-1)) hx hb dX6_needRow_1 (by decide) ?_
  refine lv_icmp_eq (tgt := 10) hx hb dX6_needRow_2 (by decide) (fun c1 => absurd c1 hn) (fun c1 => ?_)
  refine lv_aload_n hx hb dX6_needRow_5 rfl (lv_at hl 0 rfl) ?_
  refine lv_iload_n hx hb dX6_needRow_6 rfl (lv_at hl 1 rfl) ?_
  exact x_callv S ht h (x_needWorker l hl0 D L cy X A st hD v hz) (cwV 1 hts gX6_needRow_X6_needWorker rfl rfl rfl (by decide +kernel) ⟨Nat.le_of_ble_eq_true rfl, Nat.le_of_ble_eq_true rfl⟩) (x_pre h gk_c0 (by decide) rfl rfl _) rfl hl.1 rfl (Nat.le_of_ble_eq_true rfl) dX6_needRow_7 ⟨Nat.le_of_ble_eq_true rfl, Nat.le_of_ble_eq_true rfl⟩ hlocks (Nat.le_of_ble_eq_true rfl) (Nat.le_of_ble_eq_true rfl)
set_option maxHeartbeats 4000000 in
set_option maxRecDepth 100000 in
/-- addStep -/
theorem x_addStep (l : Launch) (hl0 : l.stackTraces = false) (D : va_G) (L : Nat → Nat) (cy : Nat → ClassId) (X : va_W) (A : Nat → Prop) (st : gSt) (hD : va_D A (X ++ gW L cy st)) (v : Int32) (w : Int32) (z : Int32) (hz : f_X6_isJob st v = 0) : xMi l yX6_addStep wsX6_addStep { frames := 10, cells := 1, slots := 6, locals := 300 } D L cy X A [.ref (L 0), .int v, .int w, .int z] st xIO := by
  refine x_entry hD (cc := cX6_addStep) (maxL := 5) (ret := (some .int)) (by decide +kernel) rfl (Nat.le_of_ble_eq_true rfl) ?_
  intro p e s m args below meth c ls B
  obtain ⟨S, hr, hlocks, ht, h, hl⟩ := B
  have hx := S.1
  have hb := S.2.1
  have hts := S.2.2.2.2
  have hl : lv_has ls 5 [(0, .ref (L 0)), (1, .int v), (2, .int w), (3, .int z)] := hl
  refine lv_aload_n hx hb dX6_addStep_0 rfl (lv_at hl 0 rfl) ?_
  refine lv_iload_n hx hb dX6_addStep_1 rfl (lv_at hl 1 rfl) ?_
  exact x_callv S ht h (x_needJob l hl0 D L cy X A st hD v hz) (cwV 1 hts gX6_addStep_X6_needJob rfl rfl rfl (by decide +kernel) ⟨Nat.le_of_ble_eq_true rfl, Nat.le_of_ble_eq_true rfl⟩) (x_pre h gk_c0 (by decide) rfl rfl _) rfl hl.1 rfl (Nat.le_of_ble_eq_true rfl) dX6_addStep_2 ⟨Nat.le_of_ble_eq_true rfl, Nat.le_of_ble_eq_true rfl⟩ hlocks (Nat.le_of_ble_eq_true rfl) (Nat.le_of_ble_eq_true rfl)
set_option maxHeartbeats 4000000 in
set_option maxRecDepth 100000 in
/-- submit -/
theorem x_submit (l : Launch) (hl0 : l.stackTraces = false) (D : va_G) (L : Nat → Nat) (cy : Nat → ClassId) (X : va_W) (A : Nat → Prop) (st : gSt) (hD : va_D A (X ++ gW L cy st)) (v : Int32) (hz : f_X6_isJob st v = 0) : xMi l yX6_submit wsX6_submit { frames := 10, cells := 1, slots := 6, locals := 300 } D L cy X A [.ref (L 0), .int v] st xIO := by
  refine x_entry hD (cc := cX6_submit) (maxL := 2) (ret := (some .int)) (by decide +kernel) rfl (Nat.le_of_ble_eq_true rfl) ?_
  intro p e s m args below meth c ls B
  obtain ⟨S, hr, hlocks, ht, h, hl⟩ := B
  have hx := S.1
  have hb := S.2.1
  have hts := S.2.2.2.2
  have hl : lv_has ls 2 [(0, .ref (L 0)), (1, .int v)] := hl
  refine lv_aload_n hx hb dX6_submit_0 rfl (lv_at hl 0 rfl) ?_
  refine lv_iload_n hx hb dX6_submit_1 rfl (lv_at hl 1 rfl) ?_
  exact x_callv S ht h (x_needJob l hl0 D L cy X A st hD v hz) (cwV 1 hts gX6_submit_X6_needJob rfl rfl rfl (by decide +kernel) ⟨Nat.le_of_ble_eq_true rfl, Nat.le_of_ble_eq_true rfl⟩) (x_pre h gk_c0 (by decide) rfl rfl _) rfl hl.1 rfl (Nat.le_of_ble_eq_true rfl) dX6_submit_2 ⟨Nat.le_of_ble_eq_true rfl, Nat.le_of_ble_eq_true rfl⟩ hlocks (Nat.le_of_ble_eq_true rfl) (Nat.le_of_ble_eq_true rfl)
set_option maxHeartbeats 4000000 in
set_option maxRecDepth 100000 in
/-- alone -/
theorem x_alone (l : Launch) (hl0 : l.stackTraces = false) (D : va_G) (L : Nat → Nat) (cy : Nat → ClassId) (X : va_W) (A : Nat → Prop) (st : gSt) (hD : va_D A (X ++ gW L cy st)) (v : Int32) (w : Int32) (z : Int32) (hz : f_X6_isJob st v = 0) : xMi l yX6_alone wsX6_alone { frames := 10, cells := 1, slots := 6, locals := 300 } D L cy X A [.ref (L 0), .int v, .int w, .int z] st xIO := by
  refine x_entry hD (cc := cX6_alone) (maxL := 5) (ret := (some .int)) (by decide +kernel) rfl (Nat.le_of_ble_eq_true rfl) ?_
  intro p e s m args below meth c ls B
  obtain ⟨S, hr, hlocks, ht, h, hl⟩ := B
  have hx := S.1
  have hb := S.2.1
  have hts := S.2.2.2.2
  have hl : lv_has ls 5 [(0, .ref (L 0)), (1, .int v), (2, .int w), (3, .int z)] := hl
  refine lv_aload_n hx hb dX6_alone_0 rfl (lv_at hl 0 rfl) ?_
  refine lv_iload_n hx hb dX6_alone_1 rfl (lv_at hl 1 rfl) ?_
  exact x_callv S ht h (x_needJob l hl0 D L cy X A st hD v hz) (cwV 1 hts gX6_alone_X6_needJob rfl rfl rfl (by decide +kernel) ⟨Nat.le_of_ble_eq_true rfl, Nat.le_of_ble_eq_true rfl⟩) (x_pre h gk_c0 (by decide) rfl rfl _) rfl hl.1 rfl (Nat.le_of_ble_eq_true rfl) dX6_alone_2 ⟨Nat.le_of_ble_eq_true rfl, Nat.le_of_ble_eq_true rfl⟩ hlocks (Nat.le_of_ble_eq_true rfl) (Nat.le_of_ble_eq_true rfl)
set_option maxHeartbeats 4000000 in
set_option maxRecDepth 100000 in
/-- cancel -/
theorem x_cancel (l : Launch) (hl0 : l.stackTraces = false) (D : va_G) (L : Nat → Nat) (cy : Nat → ClassId) (X : va_W) (A : Nat → Prop) (st : gSt) (hD : va_D A (X ++ gW L cy st)) (v : Int32) (hz : v < 0 ∨ st 30 3 ≤ v) : xMi l yX6_cancel wsX6_cancel { frames := 10, cells := 1, slots := 6, locals := 300 } D L cy X A [.ref (L 0), .int v] st xIO := by
  refine x_entry hD (cc := cX6_cancel) (maxL := 4) (ret := (some .int)) (by decide +kernel) rfl (Nat.le_of_ble_eq_true rfl) ?_
  intro p e s m args below meth c ls B
  obtain ⟨S, hr, hlocks, ht, h, hl⟩ := B
  have hx := S.1
  have hb := S.2.1
  have hts := S.2.2.2.2
  have hl : lv_has ls 4 [(0, .ref (L 0)), (1, .int v)] := hl
  refine lv_aload_n hx hb dX6_cancel_0 rfl (lv_at hl 0 rfl) ?_
  refine lv_iload_n hx hb dX6_cancel_1 rfl (lv_at hl 1 rfl) ?_
  exact x_callv S ht h (x_needTask l hl0 D L cy X A st hD v hz) (cwV 1 hts gX6_cancel_X6_needTask rfl rfl rfl (by decide +kernel) ⟨Nat.le_of_ble_eq_true rfl, Nat.le_of_ble_eq_true rfl⟩) (x_pre h gk_c0 (by decide) rfl rfl _) rfl hl.1 rfl (Nat.le_of_ble_eq_true rfl) dX6_cancel_2 ⟨Nat.le_of_ble_eq_true rfl, Nat.le_of_ble_eq_true rfl⟩ hlocks (Nat.le_of_ble_eq_true rfl) (Nat.le_of_ble_eq_true rfl)
set_option maxHeartbeats 4000000 in
set_option maxRecDepth 100000 in
/-- stateOf -/
theorem x_stateOf (l : Launch) (hl0 : l.stackTraces = false) (D : va_G) (L : Nat → Nat) (cy : Nat → ClassId) (X : va_W) (A : Nat → Prop) (st : gSt) (hD : va_D A (X ++ gW L cy st)) (v : Int32) (hz : v < 0 ∨ st 30 3 ≤ v) : xMi l yX6_stateOf wsX6_stateOf { frames := 10, cells := 1, slots := 6, locals := 300 } D L cy X A [.ref (L 0), .int v] st xIO := by
  refine x_entry hD (cc := cX6_stateOf) (maxL := 2) (ret := (some .int)) (by decide +kernel) rfl (Nat.le_of_ble_eq_true rfl) ?_
  intro p e s m args below meth c ls B
  obtain ⟨S, hr, hlocks, ht, h, hl⟩ := B
  have hx := S.1
  have hb := S.2.1
  have hts := S.2.2.2.2
  have hl : lv_has ls 2 [(0, .ref (L 0)), (1, .int v)] := hl
  refine lv_aload_n hx hb dX6_stateOf_0 rfl (lv_at hl 0 rfl) ?_
  refine lv_iload_n hx hb dX6_stateOf_1 rfl (lv_at hl 1 rfl) ?_
  exact x_callv S ht h (x_needTask l hl0 D L cy X A st hD v hz) (cwV 1 hts gX6_stateOf_X6_needTask rfl rfl rfl (by decide +kernel) ⟨Nat.le_of_ble_eq_true rfl, Nat.le_of_ble_eq_true rfl⟩) (x_pre h gk_c0 (by decide) rfl rfl _) rfl hl.1 rfl (Nat.le_of_ble_eq_true rfl) dX6_stateOf_2 ⟨Nat.le_of_ble_eq_true rfl, Nat.le_of_ble_eq_true rfl⟩ hlocks (Nat.le_of_ble_eq_true rfl) (Nat.le_of_ble_eq_true rfl)
set_option maxHeartbeats 4000000 in
set_option maxRecDepth 100000 in
/-- valueOf -/
theorem x_valueOf (l : Launch) (hl0 : l.stackTraces = false) (D : va_G) (L : Nat → Nat) (cy : Nat → ClassId) (X : va_W) (A : Nat → Prop) (st : gSt) (hD : va_D A (X ++ gW L cy st)) (v : Int32) (hz : v < 0 ∨ st 30 3 ≤ v) : xMi l yX6_valueOf wsX6_valueOf { frames := 10, cells := 1, slots := 6, locals := 300 } D L cy X A [.ref (L 0), .int v] st xIO := by
  refine x_entry hD (cc := cX6_valueOf) (maxL := 2) (ret := (some .int)) (by decide +kernel) rfl (Nat.le_of_ble_eq_true rfl) ?_
  intro p e s m args below meth c ls B
  obtain ⟨S, hr, hlocks, ht, h, hl⟩ := B
  have hx := S.1
  have hb := S.2.1
  have hts := S.2.2.2.2
  have hl : lv_has ls 2 [(0, .ref (L 0)), (1, .int v)] := hl
  refine lv_aload_n hx hb dX6_valueOf_0 rfl (lv_at hl 0 rfl) ?_
  refine lv_iload_n hx hb dX6_valueOf_1 rfl (lv_at hl 1 rfl) ?_
  exact x_callv S ht h (x_needTask l hl0 D L cy X A st hD v hz) (cwV 1 hts gX6_valueOf_X6_needTask rfl rfl rfl (by decide +kernel) ⟨Nat.le_of_ble_eq_true rfl, Nat.le_of_ble_eq_true rfl⟩) (x_pre h gk_c0 (by decide) rfl rfl _) rfl hl.1 rfl (Nat.le_of_ble_eq_true rfl) dX6_valueOf_2 ⟨Nat.le_of_ble_eq_true rfl, Nat.le_of_ble_eq_true rfl⟩ hlocks (Nat.le_of_ble_eq_true rfl) (Nat.le_of_ble_eq_true rfl)
set_option maxHeartbeats 4000000 in
set_option maxRecDepth 100000 in
/-- stepOf -/
theorem x_stepOf (l : Launch) (hl0 : l.stackTraces = false) (D : va_G) (L : Nat → Nat) (cy : Nat → ClassId) (X : va_W) (A : Nat → Prop) (st : gSt) (hD : va_D A (X ++ gW L cy st)) (v : Int32) (hz : v < 0 ∨ st 30 3 ≤ v) : xMi l yX6_stepOf wsX6_stepOf { frames := 10, cells := 1, slots := 6, locals := 300 } D L cy X A [.ref (L 0), .int v] st xIO := by
  refine x_entry hD (cc := cX6_stepOf) (maxL := 2) (ret := (some .int)) (by decide +kernel) rfl (Nat.le_of_ble_eq_true rfl) ?_
  intro p e s m args below meth c ls B
  obtain ⟨S, hr, hlocks, ht, h, hl⟩ := B
  have hx := S.1
  have hb := S.2.1
  have hts := S.2.2.2.2
  have hl : lv_has ls 2 [(0, .ref (L 0)), (1, .int v)] := hl
  refine lv_aload_n hx hb dX6_stepOf_0 rfl (lv_at hl 0 rfl) ?_
  refine lv_iload_n hx hb dX6_stepOf_1 rfl (lv_at hl 1 rfl) ?_
  exact x_callv S ht h (x_needTask l hl0 D L cy X A st hD v hz) (cwV 1 hts gX6_stepOf_X6_needTask rfl rfl rfl (by decide +kernel) ⟨Nat.le_of_ble_eq_true rfl, Nat.le_of_ble_eq_true rfl⟩) (x_pre h gk_c0 (by decide) rfl rfl _) rfl hl.1 rfl (Nat.le_of_ble_eq_true rfl) dX6_stepOf_2 ⟨Nat.le_of_ble_eq_true rfl, Nat.le_of_ble_eq_true rfl⟩ hlocks (Nat.le_of_ble_eq_true rfl) (Nat.le_of_ble_eq_true rfl)
set_option maxHeartbeats 4000000 in
set_option maxRecDepth 100000 in
/-- parentOf -/
theorem x_parentOf (l : Launch) (hl0 : l.stackTraces = false) (D : va_G) (L : Nat → Nat) (cy : Nat → ClassId) (X : va_W) (A : Nat → Prop) (st : gSt) (hD : va_D A (X ++ gW L cy st)) (v : Int32) (hz : v < 0 ∨ st 30 3 ≤ v) : xMi l yX6_parentOf wsX6_parentOf { frames := 10, cells := 1, slots := 6, locals := 300 } D L cy X A [.ref (L 0), .int v] st xIO := by
  refine x_entry hD (cc := cX6_parentOf) (maxL := 2) (ret := (some .int)) (by decide +kernel) rfl (Nat.le_of_ble_eq_true rfl) ?_
  intro p e s m args below meth c ls B
  obtain ⟨S, hr, hlocks, ht, h, hl⟩ := B
  have hx := S.1
  have hb := S.2.1
  have hts := S.2.2.2.2
  have hl : lv_has ls 2 [(0, .ref (L 0)), (1, .int v)] := hl
  refine lv_aload_n hx hb dX6_parentOf_0 rfl (lv_at hl 0 rfl) ?_
  refine lv_iload_n hx hb dX6_parentOf_1 rfl (lv_at hl 1 rfl) ?_
  exact x_callv S ht h (x_needTask l hl0 D L cy X A st hD v hz) (cwV 1 hts gX6_parentOf_X6_needTask rfl rfl rfl (by decide +kernel) ⟨Nat.le_of_ble_eq_true rfl, Nat.le_of_ble_eq_true rfl⟩) (x_pre h gk_c0 (by decide) rfl rfl _) rfl hl.1 rfl (Nat.le_of_ble_eq_true rfl) dX6_parentOf_2 ⟨Nat.le_of_ble_eq_true rfl, Nat.le_of_ble_eq_true rfl⟩ hlocks (Nat.le_of_ble_eq_true rfl) (Nat.le_of_ble_eq_true rfl)
set_option maxHeartbeats 4000000 in
set_option maxRecDepth 100000 in
/-- childrenOf -/
theorem x_childrenOf (l : Launch) (hl0 : l.stackTraces = false) (D : va_G) (L : Nat → Nat) (cy : Nat → ClassId) (X : va_W) (A : Nat → Prop) (st : gSt) (hD : va_D A (X ++ gW L cy st)) (v : Int32) (hz : v < 0 ∨ st 30 3 ≤ v) : xMi l yX6_childrenOf wsX6_childrenOf { frames := 10, cells := 1, slots := 6, locals := 300 } D L cy X A [.ref (L 0), .int v] st xIO := by
  refine x_entry hD (cc := cX6_childrenOf) (maxL := 2) (ret := (some .int)) (by decide +kernel) rfl (Nat.le_of_ble_eq_true rfl) ?_
  intro p e s m args below meth c ls B
  obtain ⟨S, hr, hlocks, ht, h, hl⟩ := B
  have hx := S.1
  have hb := S.2.1
  have hts := S.2.2.2.2
  have hl : lv_has ls 2 [(0, .ref (L 0)), (1, .int v)] := hl
  refine lv_aload_n hx hb dX6_childrenOf_0 rfl (lv_at hl 0 rfl) ?_
  refine lv_iload_n hx hb dX6_childrenOf_1 rfl (lv_at hl 1 rfl) ?_
  exact x_callv S ht h (x_needTask l hl0 D L cy X A st hD v hz) (cwV 1 hts gX6_childrenOf_X6_needTask rfl rfl rfl (by decide +kernel) ⟨Nat.le_of_ble_eq_true rfl, Nat.le_of_ble_eq_true rfl⟩) (x_pre h gk_c0 (by decide) rfl rfl _) rfl hl.1 rfl (Nat.le_of_ble_eq_true rfl) dX6_childrenOf_2 ⟨Nat.le_of_ble_eq_true rfl, Nat.le_of_ble_eq_true rfl⟩ hlocks (Nat.le_of_ble_eq_true rfl) (Nat.le_of_ble_eq_true rfl)
set_option maxHeartbeats 4000000 in
set_option maxRecDepth 100000 in
/-- workOf -/
theorem x_workOf (l : Launch) (hl0 : l.stackTraces = false) (D : va_G) (L : Nat → Nat) (cy : Nat → ClassId) (X : va_W) (A : Nat → Prop) (st : gSt) (hD : va_D A (X ++ gW L cy st)) (v : Int32) (hz : v < 0 ∨ st 30 3 ≤ v) : xMi l yX6_workOf wsX6_workOf { frames := 10, cells := 1, slots := 6, locals := 300 } D L cy X A [.ref (L 0), .int v] st xIO := by
  refine x_entry hD (cc := cX6_workOf) (maxL := 2) (ret := (some .int)) (by decide +kernel) rfl (Nat.le_of_ble_eq_true rfl) ?_
  intro p e s m args below meth c ls B
  obtain ⟨S, hr, hlocks, ht, h, hl⟩ := B
  have hx := S.1
  have hb := S.2.1
  have hts := S.2.2.2.2
  have hl : lv_has ls 2 [(0, .ref (L 0)), (1, .int v)] := hl
  refine lv_aload_n hx hb dX6_workOf_0 rfl (lv_at hl 0 rfl) ?_
  refine lv_iload_n hx hb dX6_workOf_1 rfl (lv_at hl 1 rfl) ?_
  exact x_callv S ht h (x_needTask l hl0 D L cy X A st hD v hz) (cwV 1 hts gX6_workOf_X6_needTask rfl rfl rfl (by decide +kernel) ⟨Nat.le_of_ble_eq_true rfl, Nat.le_of_ble_eq_true rfl⟩) (x_pre h gk_c0 (by decide) rfl rfl _) rfl hl.1 rfl (Nat.le_of_ble_eq_true rfl) dX6_workOf_2 ⟨Nat.le_of_ble_eq_true rfl, Nat.le_of_ble_eq_true rfl⟩ hlocks (Nat.le_of_ble_eq_true rfl) (Nat.le_of_ble_eq_true rfl)
set_option maxHeartbeats 4000000 in
set_option maxRecDepth 100000 in
/-- overAt -/
theorem x_overAt (l : Launch) (hl0 : l.stackTraces = false) (D : va_G) (L : Nat → Nat) (cy : Nat → ClassId) (X : va_W) (A : Nat → Prop) (st : gSt) (hD : va_D A (X ++ gW L cy st)) (v : Int32) (hz : v < 0 ∨ st 30 3 ≤ v) : xMi l yX6_overAt wsX6_overAt { frames := 10, cells := 1, slots := 6, locals := 300 } D L cy X A [.ref (L 0), .int v] st xIO := by
  refine x_entry hD (cc := cX6_overAt) (maxL := 2) (ret := (some .int)) (by decide +kernel) rfl (Nat.le_of_ble_eq_true rfl) ?_
  intro p e s m args below meth c ls B
  obtain ⟨S, hr, hlocks, ht, h, hl⟩ := B
  have hx := S.1
  have hb := S.2.1
  have hts := S.2.2.2.2
  have hl : lv_has ls 2 [(0, .ref (L 0)), (1, .int v)] := hl
  refine lv_aload_n hx hb dX6_overAt_0 rfl (lv_at hl 0 rfl) ?_
  refine lv_iload_n hx hb dX6_overAt_1 rfl (lv_at hl 1 rfl) ?_
  exact x_callv S ht h (x_needTask l hl0 D L cy X A st hD v hz) (cwV 1 hts gX6_overAt_X6_needTask rfl rfl rfl (by decide +kernel) ⟨Nat.le_of_ble_eq_true rfl, Nat.le_of_ble_eq_true rfl⟩) (x_pre h gk_c0 (by decide) rfl rfl _) rfl hl.1 rfl (Nat.le_of_ble_eq_true rfl) dX6_overAt_2 ⟨Nat.le_of_ble_eq_true rfl, Nat.le_of_ble_eq_true rfl⟩ hlocks (Nat.le_of_ble_eq_true rfl) (Nat.le_of_ble_eq_true rfl)
set_option maxHeartbeats 4000000 in
set_option maxRecDepth 100000 in
/-- overIn -/
theorem x_overIn (l : Launch) (hl0 : l.stackTraces = false) (D : va_G) (L : Nat → Nat) (cy : Nat → ClassId) (X : va_W) (A : Nat → Prop) (st : gSt) (hD : va_D A (X ++ gW L cy st)) (v : Int32) (w : Int32) (hz : v < 0 ∨ st 30 3 ≤ v) : xMi l yX6_overIn wsX6_overIn { frames := 10, cells := 1, slots := 6, locals := 300 } D L cy X A [.ref (L 0), .int v, .int w] st xIO := by
  refine x_entry hD (cc := cX6_overIn) (maxL := 5) (ret := (some .int)) (by decide +kernel) rfl (Nat.le_of_ble_eq_true rfl) ?_
  intro p e s m args below meth c ls B
  obtain ⟨S, hr, hlocks, ht, h, hl⟩ := B
  have hx := S.1
  have hb := S.2.1
  have hts := S.2.2.2.2
  have hl : lv_has ls 5 [(0, .ref (L 0)), (1, .int v), (2, .int w)] := hl
  refine lv_aload_n hx hb dX6_overIn_0 rfl (lv_at hl 0 rfl) ?_
  refine lv_iload_n hx hb dX6_overIn_1 rfl (lv_at hl 1 rfl) ?_
  exact x_callv S ht h (x_needTask l hl0 D L cy X A st hD v hz) (cwV 1 hts gX6_overIn_X6_needTask rfl rfl rfl (by decide +kernel) ⟨Nat.le_of_ble_eq_true rfl, Nat.le_of_ble_eq_true rfl⟩) (x_pre h gk_c0 (by decide) rfl rfl _) rfl hl.1 rfl (Nat.le_of_ble_eq_true rfl) dX6_overIn_2 ⟨Nat.le_of_ble_eq_true rfl, Nat.le_of_ble_eq_true rfl⟩ hlocks (Nat.le_of_ble_eq_true rfl) (Nat.le_of_ble_eq_true rfl)
set_option maxHeartbeats 4000000 in
set_option maxRecDepth 100000 in
/-- valueIn -/
theorem x_valueIn (l : Launch) (hl0 : l.stackTraces = false) (D : va_G) (L : Nat → Nat) (cy : Nat → ClassId) (X : va_W) (A : Nat → Prop) (st : gSt) (hD : va_D A (X ++ gW L cy st)) (v : Int32) (w : Int32) (hz : v < 0 ∨ st 30 3 ≤ v) : xMi l yX6_valueIn wsX6_valueIn { frames := 10, cells := 1, slots := 6, locals := 300 } D L cy X A [.ref (L 0), .int v, .int w] st xIO := by
  refine x_entry hD (cc := cX6_valueIn) (maxL := 4) (ret := (some .int)) (by decide +kernel) rfl (Nat.le_of_ble_eq_true rfl) ?_
  intro p e s m args below meth c ls B
  obtain ⟨S, hr, hlocks, ht, h, hl⟩ := B
  have hx := S.1
  have hb := S.2.1
  have hts := S.2.2.2.2
  have hl : lv_has ls 4 [(0, .ref (L 0)), (1, .int v), (2, .int w)] := hl
  refine lv_aload_n hx hb dX6_valueIn_0 rfl (lv_at hl 0 rfl) ?_
  refine lv_iload_n hx hb dX6_valueIn_1 rfl (lv_at hl 1 rfl) ?_
  exact x_callv S ht h (x_needTask l hl0 D L cy X A st hD v hz) (cwV 1 hts gX6_valueIn_X6_needTask rfl rfl rfl (by decide +kernel) ⟨Nat.le_of_ble_eq_true rfl, Nat.le_of_ble_eq_true rfl⟩) (x_pre h gk_c0 (by decide) rfl rfl _) rfl hl.1 rfl (Nat.le_of_ble_eq_true rfl) dX6_valueIn_2 ⟨Nat.le_of_ble_eq_true rfl, Nat.le_of_ble_eq_true rfl⟩ hlocks (Nat.le_of_ble_eq_true rfl) (Nat.le_of_ble_eq_true rfl)
set_option maxHeartbeats 4000000 in
set_option maxRecDepth 100000 in
/-- top -/
theorem x_top (l : Launch) (hl0 : l.stackTraces = false) (D : va_G) (L : Nat → Nat) (cy : Nat → ClassId) (X : va_W) (A : Nat → Prop) (st : gSt) (hD : va_D A (X ++ gW L cy st)) (v : Int32) (hz : v < 0 ∨ st 30 6 ≤ v) : xMi l yX6_top wsX6_top { frames := 10, cells := 1, slots := 6, locals := 300 } D L cy X A [.ref (L 0), .int v] st xIO := by
  refine x_entry hD (cc := cX6_top) (maxL := 2) (ret := (some .int)) (by decide +kernel) rfl (Nat.le_of_ble_eq_true rfl) ?_
  intro p e s m args below meth c ls B
  obtain ⟨S, hr, hlocks, ht, h, hl⟩ := B
  have hx := S.1
  have hb := S.2.1
  have hts := S.2.2.2.2
  have hl : lv_has ls 2 [(0, .ref (L 0)), (1, .int v)] := hl
  refine lv_aload_n hx hb dX6_top_0 rfl (lv_at hl 0 rfl) ?_
  refine lv_iload_n hx hb dX6_top_1 rfl (lv_at hl 1 rfl) ?_
  exact x_callv S ht h (x_needWorker l hl0 D L cy X A st hD v hz) (cwV 1 hts gX6_top_X6_needWorker rfl rfl rfl (by decide +kernel) ⟨Nat.le_of_ble_eq_true rfl, Nat.le_of_ble_eq_true rfl⟩) (x_pre h gk_c0 (by decide) rfl rfl _) rfl hl.1 rfl (Nat.le_of_ble_eq_true rfl) dX6_top_2 ⟨Nat.le_of_ble_eq_true rfl, Nat.le_of_ble_eq_true rfl⟩ hlocks (Nat.le_of_ble_eq_true rfl) (Nat.le_of_ble_eq_true rfl)
set_option maxHeartbeats 4000000 in
set_option maxRecDepth 100000 in
/-- stack -/
theorem x_stack (l : Launch) (hl0 : l.stackTraces = false) (D : va_G) (L : Nat → Nat) (cy : Nat → ClassId) (X : va_W) (A : Nat → Prop) (st : gSt) (hD : va_D A (X ++ gW L cy st)) (v : Int32) (hz : v < 0 ∨ st 30 6 ≤ v) : xMi l yX6_stack wsX6_stack { frames := 10, cells := 1, slots := 6, locals := 300 } D L cy X A [.ref (L 0), .int v] st xIO := by
  refine x_entry hD (cc := cX6_stack) (maxL := 2) (ret := (some .int)) (by decide +kernel) rfl (Nat.le_of_ble_eq_true rfl) ?_
  intro p e s m args below meth c ls B
  obtain ⟨S, hr, hlocks, ht, h, hl⟩ := B
  have hx := S.1
  have hb := S.2.1
  have hts := S.2.2.2.2
  have hl : lv_has ls 2 [(0, .ref (L 0)), (1, .int v)] := hl
  refine lv_aload_n hx hb dX6_stack_0 rfl (lv_at hl 0 rfl) ?_
  refine lv_iload_n hx hb dX6_stack_1 rfl (lv_at hl 1 rfl) ?_
  exact x_callv S ht h (x_needWorker l hl0 D L cy X A st hD v hz) (cwV 1 hts gX6_stack_X6_needWorker rfl rfl rfl (by decide +kernel) ⟨Nat.le_of_ble_eq_true rfl, Nat.le_of_ble_eq_true rfl⟩) (x_pre h gk_c0 (by decide) rfl rfl _) rfl hl.1 rfl (Nat.le_of_ble_eq_true rfl) dX6_stack_2 ⟨Nat.le_of_ble_eq_true rfl, Nat.le_of_ble_eq_true rfl⟩ hlocks (Nat.le_of_ble_eq_true rfl) (Nat.le_of_ble_eq_true rfl)
set_option maxHeartbeats 4000000 in
set_option maxRecDepth 100000 in
/-- told -/
theorem x_told (l : Launch) (hl0 : l.stackTraces = false) (D : va_G) (L : Nat → Nat) (cy : Nat → ClassId) (X : va_W) (A : Nat → Prop) (st : gSt) (hD : va_D A (X ++ gW L cy st)) (v : Int32) (w : Int32) (hz : v < 0 ∨ st 30 6 ≤ v) : xMi l yX6_told wsX6_told { frames := 10, cells := 1, slots := 6, locals := 300 } D L cy X A [.ref (L 0), .int v, .int w] st xIO := by
  refine x_entry hD (cc := cX6_told) (maxL := 4) (ret := (some .int)) (by decide +kernel) rfl (Nat.le_of_ble_eq_true rfl) ?_
  intro p e s m args below meth c ls B
  obtain ⟨S, hr, hlocks, ht, h, hl⟩ := B
  have hx := S.1
  have hb := S.2.1
  have hts := S.2.2.2.2
  have hl : lv_has ls 4 [(0, .ref (L 0)), (1, .int v), (2, .int w)] := hl
  refine lv_aload_n hx hb dX6_told_0 rfl (lv_at hl 0 rfl) ?_
  refine lv_iload_n hx hb dX6_told_1 rfl (lv_at hl 1 rfl) ?_
  exact x_callv S ht h (x_needWorker l hl0 D L cy X A st hD v hz) (cwV 1 hts gX6_told_X6_needWorker rfl rfl rfl (by decide +kernel) ⟨Nat.le_of_ble_eq_true rfl, Nat.le_of_ble_eq_true rfl⟩) (x_pre h gk_c0 (by decide) rfl rfl _) rfl hl.1 rfl (Nat.le_of_ble_eq_true rfl) dX6_told_2 ⟨Nat.le_of_ble_eq_true rfl, Nat.le_of_ble_eq_true rfl⟩ hlocks (Nat.le_of_ble_eq_true rfl) (Nat.le_of_ble_eq_true rfl)
set_option maxHeartbeats 4000000 in
set_option maxRecDepth 100000 in
/-- ran -/
theorem x_ran (l : Launch) (hl0 : l.stackTraces = false) (D : va_G) (L : Nat → Nat) (cy : Nat → ClassId) (X : va_W) (A : Nat → Prop) (st : gSt) (hD : va_D A (X ++ gW L cy st)) (v : Int32) (w : Int32) (hz : v < 0 ∨ st 30 6 ≤ v) : xMi l yX6_ran wsX6_ran { frames := 10, cells := 1, slots := 6, locals := 300 } D L cy X A [.ref (L 0), .int v, .int w] st xIO := by
  refine x_entry hD (cc := cX6_ran) (maxL := 3) (ret := (some .int)) (by decide +kernel) rfl (Nat.le_of_ble_eq_true rfl) ?_
  intro p e s m args below meth c ls B
  obtain ⟨S, hr, hlocks, ht, h, hl⟩ := B
  have hx := S.1
  have hb := S.2.1
  have hts := S.2.2.2.2
  have hl : lv_has ls 3 [(0, .ref (L 0)), (1, .int v), (2, .int w)] := hl
  refine lv_aload_n hx hb dX6_ran_0 rfl (lv_at hl 0 rfl) ?_
  refine lv_iload_n hx hb dX6_ran_1 rfl (lv_at hl 1 rfl) ?_
  exact x_callv S ht h (x_needWorker l hl0 D L cy X A st hD v hz) (cwV 1 hts gX6_ran_X6_needWorker rfl rfl rfl (by decide +kernel) ⟨Nat.le_of_ble_eq_true rfl, Nat.le_of_ble_eq_true rfl⟩) (x_pre h gk_c0 (by decide) rfl rfl _) rfl hl.1 rfl (Nat.le_of_ble_eq_true rfl) dX6_ran_2 ⟨Nat.le_of_ble_eq_true rfl, Nat.le_of_ble_eq_true rfl⟩ hlocks (Nat.le_of_ble_eq_true rfl) (Nat.le_of_ble_eq_true rfl)
set_option maxHeartbeats 4000000 in
set_option maxRecDepth 100000 in
/-- row -/
theorem x_row (l : Launch) (hl0 : l.stackTraces = false) (D : va_G) (L : Nat → Nat) (cy : Nat → ClassId) (X : va_W) (A : Nat → Prop) (st : gSt) (hD : va_D A (X ++ gW L cy st)) (v : Int32) (hn : ¬ v = -1) (hz : v < 0 ∨ st 30 6 ≤ v) : xMi l yX6_row wsX6_row { frames := 10, cells := 1, slots := 6, locals := 300 } D L cy X A [.ref (L 0), .int v] st xIO := by
  refine x_entry hD (cc := cX6_row) (maxL := 2) (ret := (some .int)) (by decide +kernel) rfl (Nat.le_of_ble_eq_true rfl) ?_
  intro p e s m args below meth c ls B
  obtain ⟨S, hr, hlocks, ht, h, hl⟩ := B
  have hx := S.1
  have hb := S.2.1
  have hts := S.2.2.2.2
  have hl : lv_has ls 2 [(0, .ref (L 0)), (1, .int v)] := hl
  refine lv_aload_n hx hb dX6_row_0 rfl (lv_at hl 0 rfl) ?_
  refine lv_iload_n hx hb dX6_row_1 rfl (lv_at hl 1 rfl) ?_
  exact x_callv S ht h (x_needRow l hl0 D L cy X A st hD v hn hz) (cwV 1 hts gX6_row_X6_needRow rfl rfl rfl (by decide +kernel) ⟨Nat.le_of_ble_eq_true rfl, Nat.le_of_ble_eq_true rfl⟩) (x_pre h gk_c0 (by decide) rfl rfl _) rfl hl.1 rfl (Nat.le_of_ble_eq_true rfl) dX6_row_2 ⟨Nat.le_of_ble_eq_true rfl, Nat.le_of_ble_eq_true rfl⟩ hlocks (Nat.le_of_ble_eq_true rfl) (Nat.le_of_ble_eq_true rfl)
set_option maxHeartbeats 4000000 in
set_option maxRecDepth 100000 in
/-- inRow -/
theorem x_inRow (l : Launch) (hl0 : l.stackTraces = false) (D : va_G) (L : Nat → Nat) (cy : Nat → ClassId) (X : va_W) (A : Nat → Prop) (st : gSt) (hD : va_D A (X ++ gW L cy st)) (v : Int32) (w : Int32) (hn : ¬ v = -1) (hz : v < 0 ∨ st 30 6 ≤ v) : xMi l yX6_inRow wsX6_inRow { frames := 10, cells := 1, slots := 6, locals := 300 } D L cy X A [.ref (L 0), .int v, .int w] st xIO := by
  refine x_entry hD (cc := cX6_inRow) (maxL := 4) (ret := (some .int)) (by decide +kernel) rfl (Nat.le_of_ble_eq_true rfl) ?_
  intro p e s m args below meth c ls B
  obtain ⟨S, hr, hlocks, ht, h, hl⟩ := B
  have hx := S.1
  have hb := S.2.1
  have hts := S.2.2.2.2
  have hl : lv_has ls 4 [(0, .ref (L 0)), (1, .int v), (2, .int w)] := hl
  refine lv_aload_n hx hb dX6_inRow_0 rfl (lv_at hl 0 rfl) ?_
  refine lv_iload_n hx hb dX6_inRow_1 rfl (lv_at hl 1 rfl) ?_
  exact x_callv S ht h (x_needRow l hl0 D L cy X A st hD v hn hz) (cwV 1 hts gX6_inRow_X6_needRow rfl rfl rfl (by decide +kernel) ⟨Nat.le_of_ble_eq_true rfl, Nat.le_of_ble_eq_true rfl⟩) (x_pre h gk_c0 (by decide) rfl rfl _) rfl hl.1 rfl (Nat.le_of_ble_eq_true rfl) dX6_inRow_2 ⟨Nat.le_of_ble_eq_true rfl, Nat.le_of_ble_eq_true rfl⟩ hlocks (Nat.le_of_ble_eq_true rfl) (Nat.le_of_ble_eq_true rfl)
set_option maxHeartbeats 4000000 in
set_option maxRecDepth 100000 in
/-- promise -/
theorem x_promise (l : Launch) (hl0 : l.stackTraces = false) (D : va_G) (L : Nat → Nat) (cy : Nat → ClassId) (X : va_W) (A : Nat → Prop) (st : gSt) (hD : va_D A (X ++ gW L cy st)) (v : Int32) (hz : f_X6_isPromise st v = 0) : xMi l yX6_promise wsX6_promise { frames := 10, cells := 1, slots := 6, locals := 300 } D L cy X A [.ref (L 0), .int v] st xIO := by
  refine x_entry hD (cc := cX6_promise) (maxL := 2) (ret := (some .int)) (by decide +kernel) rfl (Nat.le_of_ble_eq_true rfl) ?_
  intro p e s m args below meth c ls B
  obtain ⟨S, hr, hlocks, ht, h, hl⟩ := B
  have hx := S.1
  have hb := S.2.1
  have hts := S.2.2.2.2
  have hl : lv_has ls 2 [(0, .ref (L 0)), (1, .int v)] := hl
  refine lv_iload_n hx hb dX6_promise_0 rfl (lv_at hl 1 rfl) ?_
  exact x_callvS S ht h (x_needPromise l hl0 D L cy X A st hD v hz) (cwS 1 hts gX6_promise_X6_needPromise rfl rfl rfl (by decide +kernel) ⟨Nat.le_of_ble_eq_true rfl, Nat.le_of_ble_eq_true rfl⟩) rfl hl.1 rfl (Nat.le_of_ble_eq_true rfl) dX6_promise_1 ⟨Nat.le_of_ble_eq_true rfl, Nat.le_of_ble_eq_true rfl⟩ hlocks (Nat.le_of_ble_eq_true rfl) (Nat.le_of_ble_eq_true rfl)
set_option maxHeartbeats 4000000 in
set_option maxRecDepth 100000 in
/-- keep -/
theorem x_keep (l : Launch) (hl0 : l.stackTraces = false) (D : va_G) (L : Nat → Nat) (cy : Nat → ClassId) (X : va_W) (A : Nat → Prop) (st : gSt) (hD : va_D A (X ++ gW L cy st)) (v : Int32) (w : Int32) (hz : f_X6_isPromise st v = 0) : xMi l yX6_keep wsX6_keep { frames := 10, cells := 1, slots := 6, locals := 300 } D L cy X A [.ref (L 0), .int v, .int w] st xIO := by
  refine x_entry hD (cc := cX6_keep) (maxL := 3) (ret := (some .boolean)) (by decide +kernel) rfl (Nat.le_of_ble_eq_true rfl) ?_
  intro p e s m args below meth c ls B
  obtain ⟨S, hr, hlocks, ht, h, hl⟩ := B
  have hx := S.1
  have hb := S.2.1
  have hts := S.2.2.2.2
  have hl : lv_has ls 3 [(0, .ref (L 0)), (1, .int v), (2, .int w)] := hl
  refine lv_iload_n hx hb dX6_keep_0 rfl (lv_at hl 1 rfl) ?_
  exact x_callvS S ht h (x_needPromise l hl0 D L cy X A st hD v hz) (cwS 1 hts gX6_keep_X6_needPromise rfl rfl rfl (by decide +kernel) ⟨Nat.le_of_ble_eq_true rfl, Nat.le_of_ble_eq_true rfl⟩) rfl hl.1 rfl (Nat.le_of_ble_eq_true rfl) dX6_keep_1 ⟨Nat.le_of_ble_eq_true rfl, Nat.le_of_ble_eq_true rfl⟩ hlocks (Nat.le_of_ble_eq_true rfl) (Nat.le_of_ble_eq_true rfl)
set_option maxHeartbeats 4000000 in
set_option maxRecDepth 100000 in
/-- setWorkers -/
theorem x_setWorkers (l : Launch) (hl0 : l.stackTraces = false) (D : va_G) (L : Nat → Nat) (cy : Nat → ClassId) (X : va_W) (A : Nat → Prop) (st : gSt) (hD : va_D A (X ++ gW L cy st)) (v : Int32) (hz : v < 1 ∨ 5 < v) : xMi l yX6_setWorkers wsX6_setWorkers { frames := 10, cells := 1, slots := 6, locals := 300 } D L cy X A [.ref (L 0), .int v] st xIA := by
  refine x_entry hD (cc := cX6_setWorkers) (maxL := 3) (ret := (some .int)) (by decide +kernel) rfl (Nat.le_of_ble_eq_true rfl) ?_
  intro p e s m args below meth c ls B
  obtain ⟨S, hr, hlocks, ht, h, hl⟩ := B
  have hx := S.1
  have hb := S.2.1
  have hts := S.2.2.2.2
  have hl : lv_has ls 3 [(0, .ref (L 0)), (1, .int v)] := hl
  refine lv_iload_n hx hb dX6_setWorkers_0 rfl (lv_at hl 1 rfl) ?_
  exact x_callvS S ht h (x_needWorkerCount l hl0 D L cy X A st hD v hz) (cwS 1 hts gX6_setWorkers_X6_needWorkerCount rfl rfl rfl (by decide +kernel) ⟨Nat.le_of_ble_eq_true rfl, Nat.le_of_ble_eq_true rfl⟩) rfl hl.1 rfl (Nat.le_of_ble_eq_true rfl) dX6_setWorkers_1 ⟨Nat.le_of_ble_eq_true rfl, Nat.le_of_ble_eq_true rfl⟩ hlocks (Nat.le_of_ble_eq_true rfl) (Nat.le_of_ble_eq_true rfl)
set_option maxHeartbeats 4000000 in
set_option maxRecDepth 100000 in
/-- setWay -/
theorem x_setWay (l : Launch) (hl0 : l.stackTraces = false) (D : va_G) (L : Nat → Nat) (cy : Nat → ClassId) (X : va_W) (A : Nat → Prop) (st : gSt) (hD : va_D A (X ++ gW L cy st)) (v : Int32) (w : Int32) (hz : v < 0 ∨ 2 < v) : xMi l yX6_setWay wsX6_setWay { frames := 10, cells := 1, slots := 6, locals := 300 } D L cy X A [.ref (L 0), .int v, .int w] st xIA := by
  refine x_entry hD (cc := cX6_setWay) (maxL := 4) (ret := (some .int)) (by decide +kernel) rfl (Nat.le_of_ble_eq_true rfl) ?_
  intro p e s m args below meth c ls B
  obtain ⟨S, hr, hlocks, ht, h, hl⟩ := B
  have hx := S.1
  have hb := S.2.1
  have hts := S.2.2.2.2
  have hl : lv_has ls 4 [(0, .ref (L 0)), (1, .int v), (2, .int w)] := hl
  refine lv_iload_n hx hb dX6_setWay_0 rfl (lv_at hl 1 rfl) ?_
  exact x_callvS S ht h (x_needWay l hl0 D L cy X A st hD v hz) (cwS 1 hts gX6_setWay_X6_needWay rfl rfl rfl (by decide +kernel) ⟨Nat.le_of_ble_eq_true rfl, Nat.le_of_ble_eq_true rfl⟩) rfl hl.1 rfl (Nat.le_of_ble_eq_true rfl) dX6_setWay_1 ⟨Nat.le_of_ble_eq_true rfl, Nat.le_of_ble_eq_true rfl⟩ hlocks (Nat.le_of_ble_eq_true rfl) (Nat.le_of_ble_eq_true rfl)
set_option maxHeartbeats 4000000 in
set_option maxRecDepth 100000 in
/-- haltsIn -/
theorem x_haltsIn (l : Launch) (hl0 : l.stackTraces = false) (D : va_G) (L : Nat → Nat) (cy : Nat → ClassId) (X : va_W) (A : Nat → Prop) (st : gSt) (hD : va_D A (X ++ gW L cy st)) (v : Int32) (hz : v < 1 ∨ 60 < v) : xMi l yX6_haltsIn wsX6_haltsIn { frames := 10, cells := 1, slots := 6, locals := 300 } D L cy X A [.ref (L 0), .int v] st xIA := by
  refine x_entry hD (cc := cX6_haltsIn) (maxL := 3) (ret := (some .int)) (by decide +kernel) rfl (Nat.le_of_ble_eq_true rfl) ?_
  intro p e s m args below meth c ls B
  obtain ⟨S, hr, hlocks, ht, h, hl⟩ := B
  have hx := S.1
  have hb := S.2.1
  have hts := S.2.2.2.2
  have hl : lv_has ls 3 [(0, .ref (L 0)), (1, .int v)] := hl
  refine lv_iload_n hx hb dX6_haltsIn_0 rfl (lv_at hl 1 rfl) ?_
  exact x_callvS S ht h (x_needTicksAhead l hl0 D L cy X A st hD v hz) (cwS 1 hts gX6_haltsIn_X6_needTicksAhead rfl rfl rfl (by decide +kernel) ⟨Nat.le_of_ble_eq_true rfl, Nat.le_of_ble_eq_true rfl⟩) rfl hl.1 rfl (Nat.le_of_ble_eq_true rfl) dX6_haltsIn_1 ⟨Nat.le_of_ble_eq_true rfl, Nat.le_of_ble_eq_true rfl⟩ hlocks (Nat.le_of_ble_eq_true rfl) (Nat.le_of_ble_eq_true rfl)
set_option maxHeartbeats 4000000 in
set_option maxRecDepth 100000 in
/-- tick -/
theorem x_tick (l : Launch) (hl0 : l.stackTraces = false) (D : va_G) (L : Nat → Nat) (cy : Nat → ClassId) (X : va_W) (A : Nat → Prop) (st : gSt) (hD : va_D A (X ++ gW L cy st)) (v : Int32) (hz : v < 1 ∨ 40 < v) : xMi l yX6_tick wsX6_tick { frames := 10, cells := 1, slots := 6, locals := 300 } D L cy X A [.ref (L 0), .int v] st xIA := by
  refine x_entry hD (cc := cX6_tick) (maxL := 3) (ret := (some .int)) (by decide +kernel) rfl (Nat.le_of_ble_eq_true rfl) ?_
  intro p e s m args below meth c ls B
  obtain ⟨S, hr, hlocks, ht, h, hl⟩ := B
  have hx := S.1
  have hb := S.2.1
  have hts := S.2.2.2.2
  have hl : lv_has ls 3 [(0, .ref (L 0)), (1, .int v)] := hl
  refine lv_iload_n hx hb dX6_tick_0 rfl (lv_at hl 1 rfl) ?_
  refine lv_iconst (v := 1) hx hb dX6_tick_1 (by decide) ?_
  refine lv_icmp_lt (tgt := 11) hx hb dX6_tick_2 (by decide) (fun c1 => ?_) (fun c1 => ?_)
  · exact x_throwS S hl0 ht h (text := "ticks is not 1 to 40") (ik := 51) (is := 146) (ic := 55) (by decide +kernel) (by decide +kernel) (by decide +kernel) (by decide +kernel) (by decide +kernel) (by decide +kernel) (by decide +kernel) hl.1 dX6_tick_11 dX6_tick_14 dX6_tick_15 dX6_tick_17 dX6_tick_20 (Nat.le_of_ble_eq_true rfl) (Nat.le_of_ble_eq_true rfl) (Nat.le_of_ble_eq_true rfl) (Nat.le_of_ble_eq_true rfl) hlocks (Nat.le_of_ble_eq_true rfl) (Nat.le_of_ble_eq_true rfl)
  · refine lv_iload_n hx hb dX6_tick_5 rfl (lv_at hl 1 rfl) ?_
    refine lv_bipush (v := 40) hx hb dX6_tick_6 (by decide) ?_
    refine lv_icmp_le (tgt := 21) hx hb dX6_tick_8 (by decide) (fun c2 => absurd c2 (Int32.not_le.mpr (hz.resolve_left c1))) (fun c2 => ?_)
    exact x_throwS S hl0 ht h (text := "ticks is not 1 to 40") (ik := 51) (is := 146) (ic := 55) (by decide +kernel) (by decide +kernel) (by decide +kernel) (by decide +kernel) (by decide +kernel) (by decide +kernel) (by decide +kernel) hl.1 dX6_tick_11 dX6_tick_14 dX6_tick_15 dX6_tick_17 dX6_tick_20 (Nat.le_of_ble_eq_true rfl) (Nat.le_of_ble_eq_true rfl) (Nat.le_of_ble_eq_true rfl) (Nat.le_of_ble_eq_true rfl) hlocks (Nat.le_of_ble_eq_true rfl) (Nat.le_of_ble_eq_true rfl)
set_option maxHeartbeats 4000000 in
set_option maxRecDepth 100000 in
/-- setWay: theft -/
theorem x_setWay2 (l : Launch) (hl0 : l.stackTraces = false) (D : va_G) (L : Nat → Nat) (cy : Nat → ClassId) (X : va_W) (A : Nat → Prop) (st : gSt) (hD : va_D A (X ++ gW L cy st)) (v : Int32) (w : Int32) (h0 : ¬ v < 0) (h2 : v ≤ 2) (hz : w < 0 ∨ 2 < w) : xMi l yX6_setWay wsX6_setWay { frames := 10, cells := 1, slots := 6, locals := 300 } D L cy X A [.ref (L 0), .int v, .int w] st xIA := by
  refine x_entry hD (cc := cX6_setWay) (maxL := 4) (ret := (some .int)) (by decide +kernel) rfl (Nat.le_of_ble_eq_true rfl) ?_
  intro p e s m args below meth c ls B
  obtain ⟨S, hr, hlocks, ht, h, hl⟩ := B
  have hx := S.1
  have hb := S.2.1
  have hts := S.2.2.2.2
  have hl : lv_has ls 4 [(0, .ref (L 0)), (1, .int v), (2, .int w)] := hl
  refine lv_iload_n hx hb dX6_setWay_0 rfl (lv_at hl 1 rfl) ?_
  refine g_callvS S h.1 (c_X6_needWay l D L cy X A _ hD v h0 h2) (cwS 1 hts gX6_setWay_X6_needWay rfl rfl rfl (by decide +kernel) ⟨Nat.le_of_ble_eq_true rfl, Nat.le_of_ble_eq_true rfl⟩) rfl hl.1 rfl (Nat.le_of_ble_eq_true rfl) dX6_setWay_1 ⟨Nat.zero_le _, Nat.zero_le _⟩ (fun H locs h1 => ?_)
  have h := xG.to h h1
  refine lv_iload_n hx hb dX6_setWay_4 rfl (lv_at hl 2 rfl) ?_
  refine lv_if_lt (tgt := 13) hx hb dX6_setWay_5 (by decide) (fun c1 => ?_) (fun c1 => ?_)
  · exact x_throwS S hl0 ht h (text := "no such theft") (ik := 51) (is := 93) (ic := 55) (by decide +kernel) (by decide +kernel) (by decide +kernel) (by decide +kernel) (by decide +kernel) (by decide +kernel) (by decide +kernel) hl.1 dX6_setWay_13 dX6_setWay_16 dX6_setWay_17 dX6_setWay_19 dX6_setWay_22 (Nat.le_of_ble_eq_true rfl) (Nat.le_of_ble_eq_true rfl) (Nat.le_of_ble_eq_true rfl) (Nat.le_of_ble_eq_true rfl) hlocks (Nat.le_of_ble_eq_true rfl) (Nat.le_of_ble_eq_true rfl)
  · refine lv_iload_n hx hb dX6_setWay_8 rfl (lv_at hl 2 rfl) ?_
    refine lv_iconst (v := 2) hx hb dX6_setWay_9 (by decide) ?_
    refine lv_icmp_le (tgt := 23) hx hb dX6_setWay_10 (by decide) (fun c2 => absurd c2 (Int32.not_le.mpr (hz.resolve_left c1))) (fun c2 => ?_)
    exact x_throwS S hl0 ht h (text := "no such theft") (ik := 51) (is := 93) (ic := 55) (by decide +kernel) (by decide +kernel) (by decide +kernel) (by decide +kernel) (by decide +kernel) (by decide +kernel) (by decide +kernel) hl.1 dX6_setWay_13 dX6_setWay_16 dX6_setWay_17 dX6_setWay_19 dX6_setWay_22 (Nat.le_of_ble_eq_true rfl) (Nat.le_of_ble_eq_true rfl) (Nat.le_of_ble_eq_true rfl) (Nat.le_of_ble_eq_true rfl) hlocks (Nat.le_of_ble_eq_true rfl) (Nat.le_of_ble_eq_true rfl)
set_option maxHeartbeats 4000000 in
set_option maxRecDepth 100000 in
/-- keep: number -/
theorem x_keep2 (l : Launch) (hl0 : l.stackTraces = false) (D : va_G) (L : Nat → Nat) (cy : Nat → ClassId) (X : va_W) (A : Nat → Prop) (st : gSt) (hD : va_D A (X ++ gW L cy st)) (v : Int32) (w : Int32) (h0 : ¬ f_X6_isPromise st v = 0) (hz : w < (-999) ∨ 999 < w) : xMi l yX6_keep wsX6_keep { frames := 10, cells := 1, slots := 6, locals := 300 } D L cy X A [.ref (L 0), .int v, .int w] st xIA := by
  refine x_entry hD (cc := cX6_keep) (maxL := 3) (ret := (some .boolean)) (by decide +kernel) rfl (Nat.le_of_ble_eq_true rfl) ?_
  intro p e s m args below meth c ls B
  obtain ⟨S, hr, hlocks, ht, h, hl⟩ := B
  have hx := S.1
  have hb := S.2.1
  have hts := S.2.2.2.2
  have hl : lv_has ls 3 [(0, .ref (L 0)), (1, .int v), (2, .int w)] := hl
  refine lv_iload_n hx hb dX6_keep_0 rfl (lv_at hl 1 rfl) ?_
  refine g_callvS S h.1 (c_X6_needPromise l D L cy X A _ hD v h0) (cwS 1 hts gX6_keep_X6_needPromise rfl rfl rfl (by decide +kernel) ⟨Nat.le_of_ble_eq_true rfl, Nat.le_of_ble_eq_true rfl⟩) rfl hl.1 rfl (Nat.le_of_ble_eq_true rfl) dX6_keep_1 ⟨Nat.zero_le _, Nat.zero_le _⟩ (fun H locs h1 => ?_)
  have h := xG.to h h1
  refine lv_iload_n hx hb dX6_keep_4 rfl (lv_at hl 2 rfl) ?_
  refine lv_sipush (v := (-999)) hx hb dX6_keep_5 (by decide) ?_
  refine lv_icmp_lt (tgt := 18) hx hb dX6_keep_8 (by decide) (fun c1 => ?_) (fun c1 => ?_)
  · exact x_throwS S hl0 ht h (text := "number is not -999 to 999") (ik := 51) (is := 141) (ic := 55) (by decide +kernel) (by decide +kernel) (by decide +kernel) (by decide +kernel) (by decide +kernel) (by decide +kernel) (by decide +kernel) hl.1 dX6_keep_18 dX6_keep_21 dX6_keep_22 dX6_keep_24 dX6_keep_27 (Nat.le_of_ble_eq_true rfl) (Nat.le_of_ble_eq_true rfl) (Nat.le_of_ble_eq_true rfl) (Nat.le_of_ble_eq_true rfl) hlocks (Nat.le_of_ble_eq_true rfl) (Nat.le_of_ble_eq_true rfl)
  · refine lv_iload_n hx hb dX6_keep_11 rfl (lv_at hl 2 rfl) ?_
    refine lv_sipush (v := 999) hx hb dX6_keep_12 (by decide) ?_
    refine lv_icmp_le (tgt := 28) hx hb dX6_keep_15 (by decide) (fun c2 => absurd c2 (Int32.not_le.mpr (hz.resolve_left c1))) (fun c2 => ?_)
    exact x_throwS S hl0 ht h (text := "number is not -999 to 999") (ik := 51) (is := 141) (ic := 55) (by decide +kernel) (by decide +kernel) (by decide +kernel) (by decide +kernel) (by decide +kernel) (by decide +kernel) (by decide +kernel) hl.1 dX6_keep_18 dX6_keep_21 dX6_keep_22 dX6_keep_24 dX6_keep_27 (Nat.le_of_ble_eq_true rfl) (Nat.le_of_ble_eq_true rfl) (Nat.le_of_ble_eq_true rfl) (Nat.le_of_ble_eq_true rfl) hlocks (Nat.le_of_ble_eq_true rfl) (Nat.le_of_ble_eq_true rfl)
set_option maxHeartbeats 4000000 in
set_option maxRecDepth 100000 in
/-- told: what -/
theorem x_told2 (l : Launch) (hl0 : l.stackTraces = false) (D : va_G) (L : Nat → Nat) (cy : Nat → ClassId) (X : va_W) (A : Nat → Prop) (st : gSt) (hD : va_D A (X ++ gW L cy st)) (v : Int32) (w : Int32) (h0 : ¬ v < 0) (h1 : v < st 30 6) (hz : w < 0 ∨ 2 < w) : xMi l yX6_told wsX6_told { frames := 10, cells := 1, slots := 6, locals := 300 } D L cy X A [.ref (L 0), .int v, .int w] st xIA := by
  refine x_entry hD (cc := cX6_told) (maxL := 4) (ret := (some .int)) (by decide +kernel) rfl (Nat.le_of_ble_eq_true rfl) ?_
  intro p e s m args below meth c ls B
  obtain ⟨S, hr, hlocks, ht, h, hl⟩ := B
  have hx := S.1
  have hb := S.2.1
  have hts := S.2.2.2.2
  have hl : lv_has ls 4 [(0, .ref (L 0)), (1, .int v), (2, .int w)] := hl
  refine lv_aload_n hx hb dX6_told_0 rfl (lv_at hl 0 rfl) ?_
  refine lv_iload_n hx hb dX6_told_1 rfl (lv_at hl 1 rfl) ?_
  refine g_callv S h.1 (c_X6_needWorker l D L cy X A _ hD v h0 h1) (cwV 1 hts gX6_told_X6_needWorker rfl rfl rfl (by decide +kernel) ⟨Nat.le_of_ble_eq_true rfl, Nat.le_of_ble_eq_true rfl⟩) (g_pre h.1 gk_c0 (by decide) rfl rfl _) rfl hl.1 rfl (Nat.le_of_ble_eq_true rfl) dX6_told_2 ⟨Nat.zero_le _, Nat.zero_le _⟩ (fun H locs h1 => ?_)
  have h := xG.to h h1
  refine lv_iload_n hx hb dX6_told_5 rfl (lv_at hl 2 rfl) ?_
  refine lv_if_lt (tgt := 14) hx hb dX6_told_6 (by decide) (fun c1 => ?_) (fun c1 => ?_)
  · exact x_throwS S hl0 ht h (text := "what is not 0 to 2") (ik := 51) (is := 215) (ic := 55) (by decide +kernel) (by decide +kernel) (by decide +kernel) (by decide +kernel) (by decide +kernel) (by decide +kernel) (by decide +kernel) hl.1 dX6_told_14 dX6_told_17 dX6_told_18 dX6_told_20 dX6_told_23 (Nat.le_of_ble_eq_true rfl) (Nat.le_of_ble_eq_true rfl) (Nat.le_of_ble_eq_true rfl) (Nat.le_of_ble_eq_true rfl) hlocks (Nat.le_of_ble_eq_true rfl) (Nat.le_of_ble_eq_true rfl)
  · refine lv_iload_n hx hb dX6_told_9 rfl (lv_at hl 2 rfl) ?_
    refine lv_iconst (v := 2) hx hb dX6_told_10 (by decide) ?_
    refine lv_icmp_le (tgt := 24) hx hb dX6_told_11 (by decide) (fun c2 => absurd c2 (Int32.not_le.mpr (hz.resolve_left c1))) (fun c2 => ?_)
    exact x_throwS S hl0 ht h (text := "what is not 0 to 2") (ik := 51) (is := 215) (ic := 55) (by decide +kernel) (by decide +kernel) (by decide +kernel) (by decide +kernel) (by decide +kernel) (by decide +kernel) (by decide +kernel) hl.1 dX6_told_14 dX6_told_17 dX6_told_18 dX6_told_20 dX6_told_23 (Nat.le_of_ble_eq_true rfl) (Nat.le_of_ble_eq_true rfl) (Nat.le_of_ble_eq_true rfl) (Nat.le_of_ble_eq_true rfl) hlocks (Nat.le_of_ble_eq_true rfl) (Nat.le_of_ble_eq_true rfl)
set_option maxHeartbeats 4000000 in
set_option maxRecDepth 100000 in
/-- ran: back -/
theorem x_ran2 (l : Launch) (hl0 : l.stackTraces = false) (D : va_G) (L : Nat → Nat) (cy : Nat → ClassId) (X : va_W) (A : Nat → Prop) (st : gSt) (hD : va_D A (X ++ gW L cy st)) (v : Int32) (w : Int32) (h0 : ¬ v < 0) (h1 : v < st 30 6) (hz : w < 1 ∨ 20 < w) : xMi l yX6_ran wsX6_ran { frames := 10, cells := 1, slots := 6, locals := 300 } D L cy X A [.ref (L 0), .int v, .int w] st xIA := by
  refine x_entry hD (cc := cX6_ran) (maxL := 3) (ret := (some .int)) (by decide +kernel) rfl (Nat.le_of_ble_eq_true rfl) ?_
  intro p e s m args below meth c ls B
  obtain ⟨S, hr, hlocks, ht, h, hl⟩ := B
  have hx := S.1
  have hb := S.2.1
  have hts := S.2.2.2.2
  have hl : lv_has ls 3 [(0, .ref (L 0)), (1, .int v), (2, .int w)] := hl
  refine lv_aload_n hx hb dX6_ran_0 rfl (lv_at hl 0 rfl) ?_
  refine lv_iload_n hx hb dX6_ran_1 rfl (lv_at hl 1 rfl) ?_
  refine g_callv S h.1 (c_X6_needWorker l D L cy X A _ hD v h0 h1) (cwV 1 hts gX6_ran_X6_needWorker rfl rfl rfl (by decide +kernel) ⟨Nat.le_of_ble_eq_true rfl, Nat.le_of_ble_eq_true rfl⟩) (g_pre h.1 gk_c0 (by decide) rfl rfl _) rfl hl.1 rfl (Nat.le_of_ble_eq_true rfl) dX6_ran_2 ⟨Nat.zero_le _, Nat.zero_le _⟩ (fun H locs h1 => ?_)
  have h := xG.to h h1
  refine lv_iload_n hx hb dX6_ran_5 rfl (lv_at hl 2 rfl) ?_
  refine lv_iconst (v := 1) hx hb dX6_ran_6 (by decide) ?_
  refine lv_icmp_lt (tgt := 16) hx hb dX6_ran_7 (by decide) (fun c1 => ?_) (fun c1 => ?_)
  · exact x_throwS S hl0 ht h (text := "back is not 1 to 20") (ik := 51) (is := 226) (ic := 55) (by decide +kernel) (by decide +kernel) (by decide +kernel) (by decide +kernel) (by decide +kernel) (by decide +kernel) (by decide +kernel) hl.1 dX6_ran_16 dX6_ran_19 dX6_ran_20 dX6_ran_22 dX6_ran_25 (Nat.le_of_ble_eq_true rfl) (Nat.le_of_ble_eq_true rfl) (Nat.le_of_ble_eq_true rfl) (Nat.le_of_ble_eq_true rfl) hlocks (Nat.le_of_ble_eq_true rfl) (Nat.le_of_ble_eq_true rfl)
  · refine lv_iload_n hx hb dX6_ran_10 rfl (lv_at hl 2 rfl) ?_
    refine lv_bipush (v := 20) hx hb dX6_ran_11 (by decide) ?_
    refine lv_icmp_le (tgt := 26) hx hb dX6_ran_13 (by decide) (fun c2 => absurd c2 (Int32.not_le.mpr (hz.resolve_left c1))) (fun c2 => ?_)
    exact x_throwS S hl0 ht h (text := "back is not 1 to 20") (ik := 51) (is := 226) (ic := 55) (by decide +kernel) (by decide +kernel) (by decide +kernel) (by decide +kernel) (by decide +kernel) (by decide +kernel) (by decide +kernel) hl.1 dX6_ran_16 dX6_ran_19 dX6_ran_20 dX6_ran_22 dX6_ran_25 (Nat.le_of_ble_eq_true rfl) (Nat.le_of_ble_eq_true rfl) (Nat.le_of_ble_eq_true rfl) (Nat.le_of_ble_eq_true rfl) hlocks (Nat.le_of_ble_eq_true rfl) (Nat.le_of_ble_eq_true rfl)
set_option maxHeartbeats 4000000 in
set_option maxRecDepth 100000 in
/-- inRow: place -/
theorem x_inRow2 (l : Launch) (hl0 : l.stackTraces = false) (D : va_G) (L : Nat → Nat) (cy : Nat → ClassId) (X : va_W) (A : Nat → Prop) (st : gSt) (hD : va_D A (X ++ gW L cy st)) (v : Int32) (w : Int32) (h0 : ¬ v = (-1 : Int32) → ¬ v < (0 : Int32)) (h1 : ¬ v = (-1 : Int32) → v < (st 30 6)) (hz : w < 0 ∨ st (f_row 30 v) 1 ≤ w) : xMi l yX6_inRow wsX6_inRow { frames := 10, cells := 1, slots := 6, locals := 300 } D L cy X A [.ref (L 0), .int v, .int w] st xIO := by
  refine x_entry hD (cc := cX6_inRow) (maxL := 4) (ret := (some .int)) (by decide +kernel) rfl (Nat.le_of_ble_eq_true rfl) ?_
  intro p e s m args below meth c ls B
  obtain ⟨S, hr, hlocks, ht, h, hl⟩ := B
  have hx := S.1
  have hb := S.2.1
  have hts := S.2.2.2.2
  have in6 : ∀ w ∈ wsX60, w ∈ wsX6_inRow := by decide +kernel
  have in2 : ∀ w ∈ wsX20, w ∈ wsX6_inRow := by decide +kernel
  have hl : lv_has ls 4 [(0, .ref (L 0)), (1, .int v), (2, .int w)] := hl
  refine lv_aload_n hx hb dX6_inRow_0 rfl (lv_at hl 0 rfl) ?_
  refine lv_iload_n hx hb dX6_inRow_1 rfl (lv_at hl 1 rfl) ?_
  refine g_callv S h.1 (c_X6_needRow l D L cy X A _ hD v h0 h1) (cwV 1 hts gX6_inRow_X6_needRow rfl rfl rfl (by decide +kernel) ⟨Nat.le_of_ble_eq_true rfl, Nat.le_of_ble_eq_true rfl⟩) (g_pre h.1 gk_c0 (by decide) rfl rfl _) rfl hl.1 rfl (Nat.le_of_ble_eq_true rfl) dX6_inRow_2 ⟨Nat.zero_le _, Nat.zero_le _⟩ (fun H locs h1 => ?_)
  have h := xG.to h h1
  refine lv_aload_n hx hb dX6_inRow_5 rfl (lv_at hl 0 rfl) ?_
  refine g_get S h.1 gk_c0 (by decide) rfl rfl in6 (k := 1) (by decide) (by decide +kernel) rfl dX6_inRow_6 ?_
  refine lv_iload_n hx hb dX6_inRow_9 rfl (lv_at hl 1 rfl) ?_
  refine g_callr S h.1 (c_X1_rowOf l D L cy X A _ hD gk_c30 _) (cwV 1 hts gX6_inRow_X1_rowOf rfl rfl rfl (by decide +kernel) ⟨Nat.le_of_ble_eq_true rfl, Nat.le_of_ble_eq_true rfl⟩) (g_pre h.1 gk_c30 (by decide) rfl rfl _) rfl hl.1 rfl (Nat.le_of_ble_eq_true rfl) dX6_inRow_10 ⟨Nat.zero_le _, Nat.zero_le _⟩ (fun H locs h1 => ?_)
  have h := xG.to h h1
  refine g_topr (fun i1 ei1 => ?_)
  have hki1 : gkd i1 = 10 := by rw [ei1]; exact (gk_row gk_c30 _)
  refine lv_astore_n (lv' := [(3, .ref (L i1)), (0, .ref (L 0)), (1, .int v), (2, .int w)]) hx hb dX6_inRow_13 rfl hl (by decide) rfl (fun ls hl => ?_)
  refine lv_iload_n hx hb dX6_inRow_14 rfl (lv_at hl 3 rfl) ?_
  refine lv_if_lt (tgt := 26) hx hb dX6_inRow_15 (by decide) (fun c1 => ?_) (fun c1 => ?_)
  · exact x_throwS S hl0 ht h (text := "no such place") (ik := 207) (is := 209) (ic := 211) (by decide +kernel) (by decide +kernel) (by decide +kernel) (by decide +kernel) (by decide +kernel) (by decide +kernel) (by decide +kernel) hl.1 dX6_inRow_26 dX6_inRow_29 dX6_inRow_30 dX6_inRow_32 dX6_inRow_35 (Nat.le_of_ble_eq_true rfl) (Nat.le_of_ble_eq_true rfl) (Nat.le_of_ble_eq_true rfl) (Nat.le_of_ble_eq_true rfl) hlocks (Nat.le_of_ble_eq_true rfl) (Nat.le_of_ble_eq_true rfl)
  · refine lv_iload_n hx hb dX6_inRow_18 rfl (lv_at hl 3 rfl) ?_
    refine lv_aload_n hx hb dX6_inRow_19 rfl (lv_at hl 0 rfl) ?_
    refine g_getN S h.1 hki1 (by decide) rfl rfl in2 (k := 1) (by decide) (by decide +kernel) rfl dX6_inRow_20 ?_
    refine lv_icmp_lt (tgt := 36) hx hb dX6_inRow_23 (by decide) (fun c2 => absurd c2 (by rw [ei1]; exact Int32.not_lt.mpr (hz.resolve_left c1))) (fun c2 => ?_)
    exact x_throwS S hl0 ht h (text := "no such place") (ik := 207) (is := 209) (ic := 211) (by decide +kernel) (by decide +kernel) (by decide +kernel) (by decide +kernel) (by decide +kernel) (by decide +kernel) (by decide +kernel) hl.1 dX6_inRow_26 dX6_inRow_29 dX6_inRow_30 dX6_inRow_32 dX6_inRow_35 (Nat.le_of_ble_eq_true rfl) (Nat.le_of_ble_eq_true rfl) (Nat.le_of_ble_eq_true rfl) (Nat.le_of_ble_eq_true rfl) hlocks (Nat.le_of_ble_eq_true rfl) (Nat.le_of_ble_eq_true rfl)
