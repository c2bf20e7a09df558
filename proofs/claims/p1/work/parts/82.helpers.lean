/-! THE HELPERS, one by one: the call answers (ok), or throws (kth handler). -/
set_option maxHeartbeats 4000000 in
set_option maxRecDepth 100000 in
theorem h_addJob (l : Launch) (D : va_G) (L : Nat → Nat) (cy : Nat → ClassId) (cl : ClassId) (X : va_W) (o : Nat) (A : Nat → Prop) (f : Nat → Int64) (st : gSt) (hD : va_D A ((X ++ [lA cl o f]) ++ gW L cy st)) (r : Int32) (st' : gSt) (hM : gMi l yX6_addJob wsX6_addJob { frames := 1, cells := 0, slots := 0, locals := 21 } D L cy (X ++ [lA cl o f]) A [.ref (L 0)] st r st') : hMt l yL_addJob wsL_addJob { frames := 2, cells := 0, slots := 0, locals := 51 } D L cy cl X o A f st [.ref (L 0), .ref o] 0 (vp_updL f 0 r.toInt64) 0 0 := by
  refine h_entry hD (cc := cL_addJob) (maxL := 3) (hh := [(0, 8, 11, 13)]) (by decide +kernel) rfl (Nat.le_of_ble_eq_true rfl) ?_
  intro p e s m args below meth c ls B
  obtain ⟨S, hr, hlocks, htab, h, hl⟩ := B
  have hx := S.1
  have hb := S.2.1
  have hts := S.2.2.2.2
  have hl : lv_has ls 3 [(0, .ref (L 0)), (1, .ref o)] := hl
  refine lv_aload_n hx hb dL_addJob_0 rfl (lv_at hl 1 rfl) ?_
  refine lv_iconst (v := 0) hx hb dL_addJob_1 (by decide) ?_
  refine lv_aload_n hx hb dL_addJob_2 rfl (lv_at hl 0 rfl) ?_
  refine g_calli S h.1.1 hM (cwV 0 hts gL_addJob_X6_addJob rfl rfl rfl (by decide +kernel) ⟨Nat.le_of_ble_eq_true rfl, Nat.le_of_ble_eq_true rfl⟩) (g_pre h.1.1 gk_c0 (by decide) rfl rfl _) rfl hl.1 rfl (Nat.le_of_ble_eq_true rfl) dL_addJob_3 ⟨Nat.zero_le _, Nat.zero_le _⟩ (fun H locs h1 => ?_)
  refine lv_i2l (v := r.toInt64) hx hb dL_addJob_6 rfl ?_
  refine h_put hx hb h.2.1 h1 dL_addJob_7 (fun H1 locs1 hP1 hS1 => ?_)
  refine lv_goto (tgt := 14) hx hb dL_addJob_8 (by decide) ?_
  refine lv_iconst (v := 0) hx hb dL_addJob_14 (by decide) ?_
  exact h_ret hx hb hr hlocks hP1 hS1 rfl dL_addJob_15
set_option maxHeartbeats 4000000 in
set_option maxRecDepth 100000 in
theorem h_addJob_x1 (l : Launch) (D : va_G) (L : Nat → Nat) (cy : Nat → ClassId) (cl : ClassId) (X : va_W) (o : Nat) (A : Nat → Prop) (f : Nat → Int64) (st : gSt) (hD : va_D A ((X ++ [lA cl o f]) ++ gW L cy st)) (hM : xMi l yX6_addJob wsX6_addJob { frames := 10, cells := 1, slots := 6, locals := 300 } D L cy (X ++ [lA cl o f]) A [.ref (L 0)] st xIS) : hMt l yL_addJob wsL_addJob { frames := 11, cells := 1, slots := 6, locals := 330 } D L cy cl X o A f st [.ref (L 0), .ref o] 1 f 1 6 := by
  refine h_entry hD (cc := cL_addJob) (maxL := 3) (hh := [(0, 8, 11, 13)]) (by decide +kernel) rfl (Nat.le_of_ble_eq_true rfl) ?_
  intro p e s m args below meth c ls B
  obtain ⟨S, hr, hlocks, htab, h, hl⟩ := B
  have hx := S.1
  have hb := S.2.1
  have hts := S.2.2.2.2
  have hl : lv_has ls 3 [(0, .ref (L 0)), (1, .ref o)] := hl
  refine lv_aload_n hx hb dL_addJob_0 rfl (lv_at hl 1 rfl) ?_
  refine lv_iconst (v := 0) hx hb dL_addJob_1 (by decide) ?_
  refine lv_aload_n hx hb dL_addJob_2 rfl (lv_at hl 0 rfl) ?_
  refine h_callx S h.1 hM (cwV 0 hts gL_addJob_X6_addJob rfl rfl rfl (by decide +kernel) ⟨Nat.le_of_ble_eq_true rfl, Nat.le_of_ble_eq_true rfl⟩) (x_pre h.1 gk_c0 (by decide) rfl rfl _) rfl hl.1 rfl (Nat.le_of_ble_eq_true rfl) dL_addJob_3 ⟨Nat.le_of_ble_eq_true rfl, Nat.le_of_ble_eq_true rfl⟩ [] ⟨0, 8, 11, 13⟩ [] htab (fun z hz => absurd hz List.not_mem_nil) (by decide) (by decide) (hts (Cond.classLink RL 13 xIS) (by decide +kernel)) (by decide +kernel) (fun q H1 locs1 hP1 hS1 => ?_)
  refine lv_astore_n (lv' := [(2, .ref q), (0, .ref (L 0)), (1, .ref o)]) hx hb dL_addJob_11 rfl hl (by decide) rfl (fun ls hl => ?_)
  refine lv_iconst (v := 1) hx hb dL_addJob_12 (by decide) ?_
  exact h_ret hx hb hr hlocks (h_front hP1) hS1 rfl dL_addJob_13
set_option maxHeartbeats 4000000 in
set_option maxRecDepth 100000 in
theorem h_addStep (l : Launch) (D : va_G) (L : Nat → Nat) (cy : Nat → ClassId) (cl : ClassId) (X : va_W) (o : Nat) (A : Nat → Prop) (f : Nat → Int64) (st : gSt) (hD : va_D A ((X ++ [lA cl o f]) ++ gW L cy st)) (p0 : Int32) (p1 : Int32) (p2 : Int32) (r : Int32) (st' : gSt) (hM : gMi l yX6_addStep wsX6_addStep { frames := 2, cells := 0, slots := 0, locals := 43 } D L cy (X ++ [lA cl o f]) A [.ref (L 0), .int p0, .int p1, .int p2] st r st') : hMt l yL_addStep wsL_addStep { frames := 3, cells := 0, slots := 0, locals := 73 } D L cy cl X o A f st [.ref (L 0), .int p0, .int p1, .int p2, .ref o] 0 (vp_updL f 0 r.toInt64) 0 0 := by
  refine h_entry hD (cc := cL_addStep) (maxL := 6) (hh := [(0, 12, 15, 19), (0, 12, 19, 21), (0, 12, 23, 13)]) (by decide +kernel) rfl (Nat.le_of_ble_eq_true rfl) ?_
  intro p e s m args below meth c ls B
  obtain ⟨S, hr, hlocks, htab, h, hl⟩ := B
  have hx := S.1
  have hb := S.2.1
  have hts := S.2.2.2.2
  have hl : lv_has ls 6 [(0, .ref (L 0)), (1, .int p0), (2, .int p1), (3, .int p2), (4, .ref o)] := hl
  refine lv_aload hx hb dL_addStep_0 (lv_at hl 4 rfl) ?_
  refine lv_iconst (v := 0) hx hb dL_addStep_2 (by decide) ?_
  refine lv_aload_n hx hb dL_addStep_3 rfl (lv_at hl 0 rfl) ?_
  refine lv_iload_n hx hb dL_addStep_4 rfl (lv_at hl 1 rfl) ?_
  refine lv_iload_n hx hb dL_addStep_5 rfl (lv_at hl 2 rfl) ?_
  refine lv_iload_n hx hb dL_addStep_6 rfl (lv_at hl 3 rfl) ?_
  refine g_calli S h.1.1 hM (cwV 3 hts gL_addStep_X6_addStep rfl rfl rfl (by decide +kernel) ⟨Nat.le_of_ble_eq_true rfl, Nat.le_of_ble_eq_true rfl⟩) (g_pre h.1.1 gk_c0 (by decide) rfl rfl _) rfl hl.1 rfl (Nat.le_of_ble_eq_true rfl) dL_addStep_7 ⟨Nat.zero_le _, Nat.zero_le _⟩ (fun H locs h1 => ?_)
  refine lv_i2l (v := r.toInt64) hx hb dL_addStep_10 rfl ?_
  refine h_put hx hb h.2.1 h1 dL_addStep_11 (fun H1 locs1 hP1 hS1 => ?_)
  refine lv_goto (tgt := 27) hx hb dL_addStep_12 (by decide) ?_
  refine lv_iconst (v := 0) hx hb dL_addStep_27 (by decide) ?_
  exact h_ret hx hb hr hlocks hP1 hS1 rfl dL_addStep_28
set_option maxHeartbeats 4000000 in
set_option maxRecDepth 100000 in
theorem h_addStep_x1 (l : Launch) (D : va_G) (L : Nat → Nat) (cy : Nat → ClassId) (cl : ClassId) (X : va_W) (o : Nat) (A : Nat → Prop) (f : Nat → Int64) (st : gSt) (hD : va_D A ((X ++ [lA cl o f]) ++ gW L cy st)) (p0 : Int32) (p1 : Int32) (p2 : Int32) (hM : xMi l yX6_addStep wsX6_addStep { frames := 10, cells := 1, slots := 6, locals := 300 } D L cy (X ++ [lA cl o f]) A [.ref (L 0), .int p0, .int p1, .int p2] st xIO) : hMt l yL_addStep wsL_addStep { frames := 11, cells := 1, slots := 6, locals := 330 } D L cy cl X o A f st [.ref (L 0), .int p0, .int p1, .int p2, .ref o] 1 f 1 6 := by
  refine h_entry hD (cc := cL_addStep) (maxL := 6) (hh := [(0, 12, 15, 19), (0, 12, 19, 21), (0, 12, 23, 13)]) (by decide +kernel) rfl (Nat.le_of_ble_eq_true rfl) ?_
  intro p e s m args below meth c ls B
  obtain ⟨S, hr, hlocks, htab, h, hl⟩ := B
  have hx := S.1
  have hb := S.2.1
  have hts := S.2.2.2.2
  have hl : lv_has ls 6 [(0, .ref (L 0)), (1, .int p0), (2, .int p1), (3, .int p2), (4, .ref o)] := hl
  refine lv_aload hx hb dL_addStep_0 (lv_at hl 4 rfl) ?_
  refine lv_iconst (v := 0) hx hb dL_addStep_2 (by decide) ?_
  refine lv_aload_n hx hb dL_addStep_3 rfl (lv_at hl 0 rfl) ?_
  refine lv_iload_n hx hb dL_addStep_4 rfl (lv_at hl 1 rfl) ?_
  refine lv_iload_n hx hb dL_addStep_5 rfl (lv_at hl 2 rfl) ?_
  refine lv_iload_n hx hb dL_addStep_6 rfl (lv_at hl 3 rfl) ?_
  refine h_callx S h.1 hM (cwV 3 hts gL_addStep_X6_addStep rfl rfl rfl (by decide +kernel) ⟨Nat.le_of_ble_eq_true rfl, Nat.le_of_ble_eq_true rfl⟩) (x_pre h.1 gk_c0 (by decide) rfl rfl _) rfl hl.1 rfl (Nat.le_of_ble_eq_true rfl) dL_addStep_7 ⟨Nat.le_of_ble_eq_true rfl, Nat.le_of_ble_eq_true rfl⟩ [] ⟨0, 12, 15, 19⟩ [⟨0, 12, 19, 21⟩, ⟨0, 12, 23, 13⟩] htab (fun z hz => absurd hz List.not_mem_nil) (by decide) (by decide) (hts (Cond.classLink RL 19 xIO) (by decide +kernel)) (by decide +kernel) (fun q H1 locs1 hP1 hS1 => ?_)
  refine lv_astore (lv' := [(5, .ref q), (0, .ref (L 0)), (1, .int p0), (2, .int p1), (3, .int p2), (4, .ref o)]) hx hb dL_addStep_15 hl (by decide) rfl (fun ls hl => ?_)
  refine lv_iconst (v := 1) hx hb dL_addStep_17 (by decide) ?_
  exact h_ret hx hb hr hlocks (h_front hP1) hS1 rfl dL_addStep_18
set_option maxHeartbeats 4000000 in
set_option maxRecDepth 100000 in
theorem h_addStep_x2 (l : Launch) (D : va_G) (L : Nat → Nat) (cy : Nat → ClassId) (cl : ClassId) (X : va_W) (o : Nat) (A : Nat → Prop) (f : Nat → Int64) (st : gSt) (hD : va_D A ((X ++ [lA cl o f]) ++ gW L cy st)) (p0 : Int32) (p1 : Int32) (p2 : Int32) (hM : xMi l yX6_addStep wsX6_addStep { frames := 10, cells := 1, slots := 6, locals := 300 } D L cy (X ++ [lA cl o f]) A [.ref (L 0), .int p0, .int p1, .int p2] st xIA) : hMt l yL_addStep wsL_addStep { frames := 11, cells := 1, slots := 6, locals := 330 } D L cy cl X o A f st [.ref (L 0), .int p0, .int p1, .int p2, .ref o] 2 f 1 6 := by
  refine h_entry hD (cc := cL_addStep) (maxL := 6) (hh := [(0, 12, 15, 19), (0, 12, 19, 21), (0, 12, 23, 13)]) (by decide +kernel) rfl (Nat.le_of_ble_eq_true rfl) ?_
  intro p e s m args below meth c ls B
  obtain ⟨S, hr, hlocks, htab, h, hl⟩ := B
  have hx := S.1
  have hb := S.2.1
  have hts := S.2.2.2.2
  have hl : lv_has ls 6 [(0, .ref (L 0)), (1, .int p0), (2, .int p1), (3, .int p2), (4, .ref o)] := hl
  refine lv_aload hx hb dL_addStep_0 (lv_at hl 4 rfl) ?_
  refine lv_iconst (v := 0) hx hb dL_addStep_2 (by decide) ?_
  refine lv_aload_n hx hb dL_addStep_3 rfl (lv_at hl 0 rfl) ?_
  refine lv_iload_n hx hb dL_addStep_4 rfl (lv_at hl 1 rfl) ?_
  refine lv_iload_n hx hb dL_addStep_5 rfl (lv_at hl 2 rfl) ?_
  refine lv_iload_n hx hb dL_addStep_6 rfl (lv_at hl 3 rfl) ?_
  refine h_callx S h.1 hM (cwV 3 hts gL_addStep_X6_addStep rfl rfl rfl (by decide +kernel) ⟨Nat.le_of_ble_eq_true rfl, Nat.le_of_ble_eq_true rfl⟩) (x_pre h.1 gk_c0 (by decide) rfl rfl _) rfl hl.1 rfl (Nat.le_of_ble_eq_true rfl) dL_addStep_7 ⟨Nat.le_of_ble_eq_true rfl, Nat.le_of_ble_eq_true rfl⟩ [⟨0, 12, 15, 19⟩] ⟨0, 12, 19, 21⟩ [⟨0, 12, 23, 13⟩] htab (List.forall_mem_cons.mpr ⟨Or.inr ⟨by decide, xIO, hts (Cond.classLink RL 19 xIO) (by decide +kernel), h.2.2.1⟩, fun z hz => absurd hz List.not_mem_nil⟩) (by decide) (by decide) (hts (Cond.classLink RL 21 xIA) (by decide +kernel)) (by decide +kernel) (fun q H1 locs1 hP1 hS1 => ?_)
  refine lv_astore (lv' := [(5, .ref q), (0, .ref (L 0)), (1, .int p0), (2, .int p1), (3, .int p2), (4, .ref o)]) hx hb dL_addStep_19 hl (by decide) rfl (fun ls hl => ?_)
  refine lv_iconst (v := 2) hx hb dL_addStep_21 (by decide) ?_
  exact h_ret hx hb hr hlocks (h_front hP1) hS1 rfl dL_addStep_22
set_option maxHeartbeats 4000000 in
set_option maxRecDepth 100000 in
theorem h_addStep_x3 (l : Launch) (D : va_G) (L : Nat → Nat) (cy : Nat → ClassId) (cl : ClassId) (X : va_W) (o : Nat) (A : Nat → Prop) (f : Nat → Int64) (st : gSt) (hD : va_D A ((X ++ [lA cl o f]) ++ gW L cy st)) (p0 : Int32) (p1 : Int32) (p2 : Int32) (hM : xMi l yX6_addStep wsX6_addStep { frames := 10, cells := 1, slots := 6, locals := 300 } D L cy (X ++ [lA cl o f]) A [.ref (L 0), .int p0, .int p1, .int p2] st xIS) : hMt l yL_addStep wsL_addStep { frames := 11, cells := 1, slots := 6, locals := 330 } D L cy cl X o A f st [.ref (L 0), .int p0, .int p1, .int p2, .ref o] 3 f 1 6 := by
  refine h_entry hD (cc := cL_addStep) (maxL := 6) (hh := [(0, 12, 15, 19), (0, 12, 19, 21), (0, 12, 23, 13)]) (by decide +kernel) rfl (Nat.le_of_ble_eq_true rfl) ?_
  intro p e s m args below meth c ls B
  obtain ⟨S, hr, hlocks, htab, h, hl⟩ := B
  have hx := S.1
  have hb := S.2.1
  have hts := S.2.2.2.2
  have hl : lv_has ls 6 [(0, .ref (L 0)), (1, .int p0), (2, .int p1), (3, .int p2), (4, .ref o)] := hl
  refine lv_aload hx hb dL_addStep_0 (lv_at hl 4 rfl) ?_
  refine lv_iconst (v := 0) hx hb dL_addStep_2 (by decide) ?_
  refine lv_aload_n hx hb dL_addStep_3 rfl (lv_at hl 0 rfl) ?_
  refine lv_iload_n hx hb dL_addStep_4 rfl (lv_at hl 1 rfl) ?_
  refine lv_iload_n hx hb dL_addStep_5 rfl (lv_at hl 2 rfl) ?_
  refine lv_iload_n hx hb dL_addStep_6 rfl (lv_at hl 3 rfl) ?_
  refine h_callx S h.1 hM (cwV 3 hts gL_addStep_X6_addStep rfl rfl rfl (by decide +kernel) ⟨Nat.le_of_ble_eq_true rfl, Nat.le_of_ble_eq_true rfl⟩) (x_pre h.1 gk_c0 (by decide) rfl rfl _) rfl hl.1 rfl (Nat.le_of_ble_eq_true rfl) dL_addStep_7 ⟨Nat.le_of_ble_eq_true rfl, Nat.le_of_ble_eq_true rfl⟩ [⟨0, 12, 15, 19⟩, ⟨0, 12, 19, 21⟩] ⟨0, 12, 23, 13⟩ [] htab (List.forall_mem_cons.mpr ⟨Or.inr ⟨by decide, xIO, hts (Cond.classLink RL 19 xIO) (by decide +kernel), h.2.2.2.1⟩, List.forall_mem_cons.mpr ⟨Or.inr ⟨by decide, xIA, hts (Cond.classLink RL 21 xIA) (by decide +kernel), h.2.2.2.2⟩, fun z hz => absurd hz List.not_mem_nil⟩⟩) (by decide) (by decide) (hts (Cond.classLink RL 13 xIS) (by decide +kernel)) (by decide +kernel) (fun q H1 locs1 hP1 hS1 => ?_)
  refine lv_astore (lv' := [(5, .ref q), (0, .ref (L 0)), (1, .int p0), (2, .int p1), (3, .int p2), (4, .ref o)]) hx hb dL_addStep_23 hl (by decide) rfl (fun ls hl => ?_)
  refine lv_iconst (v := 3) hx hb dL_addStep_25 (by decide) ?_
  exact h_ret hx hb hr hlocks (h_front hP1) hS1 rfl dL_addStep_26
set_option maxHeartbeats 4000000 in
set_option maxRecDepth 100000 in
theorem h_setWorkers (l : Launch) (D : va_G) (L : Nat → Nat) (cy : Nat → ClassId) (cl : ClassId) (X : va_W) (o : Nat) (A : Nat → Prop) (f : Nat → Int64) (st : gSt) (hD : va_D A ((X ++ [lA cl o f]) ++ gW L cy st)) (p0 : Int32) (r : Int32) (st' : gSt) (hM : gMi l yX6_setWorkers wsX6_setWorkers { frames := 3, cells := 0, slots := 0, locals := 65 } D L cy (X ++ [lA cl o f]) A [.ref (L 0), .int p0] st r st') : hMt l yL_setWorkers wsL_setWorkers { frames := 4, cells := 0, slots := 0, locals := 95 } D L cy cl X o A f st [.ref (L 0), .int p0, .ref o] 0 (vp_updL f 0 r.toInt64) 0 0 := by
  refine h_entry hD (cc := cL_setWorkers) (maxL := 4) (hh := [(0, 9, 12, 21), (0, 9, 15, 13)]) (by decide +kernel) rfl (Nat.le_of_ble_eq_true rfl) ?_
  intro p e s m args below meth c ls B
  obtain ⟨S, hr, hlocks, htab, h, hl⟩ := B
  have hx := S.1
  have hb := S.2.1
  have hts := S.2.2.2.2
  have hl : lv_has ls 4 [(0, .ref (L 0)), (1, .int p0), (2, .ref o)] := hl
  refine lv_aload_n hx hb dL_setWorkers_0 rfl (lv_at hl 2 rfl) ?_
  refine lv_iconst (v := 0) hx hb dL_setWorkers_1 (by decide) ?_
  refine lv_aload_n hx hb dL_setWorkers_2 rfl (lv_at hl 0 rfl) ?_
  refine lv_iload_n hx hb dL_setWorkers_3 rfl (lv_at hl 1 rfl) ?_
  refine g_calli S h.1.1 hM (cwV 1 hts gL_setWorkers_X6_setWorkers rfl rfl rfl (by decide +kernel) ⟨Nat.le_of_ble_eq_true rfl, Nat.le_of_ble_eq_true rfl⟩) (g_pre h.1.1 gk_c0 (by decide) rfl rfl _) rfl hl.1 rfl (Nat.le_of_ble_eq_true rfl) dL_setWorkers_4 ⟨Nat.zero_le _, Nat.zero_le _⟩ (fun H locs h1 => ?_)
  refine lv_i2l (v := r.toInt64) hx hb dL_setWorkers_7 rfl ?_
  refine h_put hx hb h.2.1 h1 dL_setWorkers_8 (fun H1 locs1 hP1 hS1 => ?_)
  refine lv_goto (tgt := 18) hx hb dL_setWorkers_9 (by decide) ?_
  refine lv_iconst (v := 0) hx hb dL_setWorkers_18 (by decide) ?_
  exact h_ret hx hb hr hlocks hP1 hS1 rfl dL_setWorkers_19
set_option maxHeartbeats 4000000 in
set_option maxRecDepth 100000 in
theorem h_setWorkers_x1 (l : Launch) (D : va_G) (L : Nat → Nat) (cy : Nat → ClassId) (cl : ClassId) (X : va_W) (o : Nat) (A : Nat → Prop) (f : Nat → Int64) (st : gSt) (hD : va_D A ((X ++ [lA cl o f]) ++ gW L cy st)) (p0 : Int32) (hM : xMi l yX6_setWorkers wsX6_setWorkers { frames := 10, cells := 1, slots := 6, locals := 300 } D L cy (X ++ [lA cl o f]) A [.ref (L 0), .int p0] st xIA) : hMt l yL_setWorkers wsL_setWorkers { frames := 11, cells := 1, slots := 6, locals := 330 } D L cy cl X o A f st [.ref (L 0), .int p0, .ref o] 1 f 1 6 := by
  refine h_entry hD (cc := cL_setWorkers) (maxL := 4) (hh := [(0, 9, 12, 21), (0, 9, 15, 13)]) (by decide +kernel) rfl (Nat.le_of_ble_eq_true rfl) ?_
  intro p e s m args below meth c ls B
  obtain ⟨S, hr, hlocks, htab, h, hl⟩ := B
  have hx := S.1
  have hb := S.2.1
  have hts := S.2.2.2.2
  have hl : lv_has ls 4 [(0, .ref (L 0)), (1, .int p0), (2, .ref o)] := hl
  refine lv_aload_n hx hb dL_setWorkers_0 rfl (lv_at hl 2 rfl) ?_
  refine lv_iconst (v := 0) hx hb dL_setWorkers_1 (by decide) ?_
  refine lv_aload_n hx hb dL_setWorkers_2 rfl (lv_at hl 0 rfl) ?_
  refine lv_iload_n hx hb dL_setWorkers_3 rfl (lv_at hl 1 rfl) ?_
  refine h_callx S h.1 hM (cwV 1 hts gL_setWorkers_X6_setWorkers rfl rfl rfl (by decide +kernel) ⟨Nat.le_of_ble_eq_true rfl, Nat.le_of_ble_eq_true rfl⟩) (x_pre h.1 gk_c0 (by decide) rfl rfl _) rfl hl.1 rfl (Nat.le_of_ble_eq_true rfl) dL_setWorkers_4 ⟨Nat.le_of_ble_eq_true rfl, Nat.le_of_ble_eq_true rfl⟩ [] ⟨0, 9, 12, 21⟩ [⟨0, 9, 15, 13⟩] htab (fun z hz => absurd hz List.not_mem_nil) (by decide) (by decide) (hts (Cond.classLink RL 21 xIA) (by decide +kernel)) (by decide +kernel) (fun q H1 locs1 hP1 hS1 => ?_)
  refine lv_astore_n (lv' := [(3, .ref q), (0, .ref (L 0)), (1, .int p0), (2, .ref o)]) hx hb dL_setWorkers_12 rfl hl (by decide) rfl (fun ls hl => ?_)
  refine lv_iconst (v := 1) hx hb dL_setWorkers_13 (by decide) ?_
  exact h_ret hx hb hr hlocks (h_front hP1) hS1 rfl dL_setWorkers_14
set_option maxHeartbeats 4000000 in
set_option maxRecDepth 100000 in
theorem h_setWorkers_x2 (l : Launch) (D : va_G) (L : Nat → Nat) (cy : Nat → ClassId) (cl : ClassId) (X : va_W) (o : Nat) (A : Nat → Prop) (f : Nat → Int64) (st : gSt) (hD : va_D A ((X ++ [lA cl o f]) ++ gW L cy st)) (p0 : Int32) (hM : xMi l yX6_setWorkers wsX6_setWorkers { frames := 10, cells := 1, slots := 6, locals := 300 } D L cy (X ++ [lA cl o f]) A [.ref (L 0), .int p0] st xIS) : hMt l yL_setWorkers wsL_setWorkers { frames := 11, cells := 1, slots := 6, locals := 330 } D L cy cl X o A f st [.ref (L 0), .int p0, .ref o] 2 f 1 6 := by
  refine h_entry hD (cc := cL_setWorkers) (maxL := 4) (hh := [(0, 9, 12, 21), (0, 9, 15, 13)]) (by decide +kernel) rfl (Nat.le_of_ble_eq_true rfl) ?_
  intro p e s m args below meth c ls B
  obtain ⟨S, hr, hlocks, htab, h, hl⟩ := B
  have hx := S.1
  have hb := S.2.1
  have hts := S.2.2.2.2
  have hl : lv_has ls 4 [(0, .ref (L 0)), (1, .int p0), (2, .ref o)] := hl
  refine lv_aload_n hx hb dL_setWorkers_0 rfl (lv_at hl 2 rfl) ?_
  refine lv_iconst (v := 0) hx hb dL_setWorkers_1 (by decide) ?_
  refine lv_aload_n hx hb dL_setWorkers_2 rfl (lv_at hl 0 rfl) ?_
  refine lv_iload_n hx hb dL_setWorkers_3 rfl (lv_at hl 1 rfl) ?_
  refine h_callx S h.1 hM (cwV 1 hts gL_setWorkers_X6_setWorkers rfl rfl rfl (by decide +kernel) ⟨Nat.le_of_ble_eq_true rfl, Nat.le_of_ble_eq_true rfl⟩) (x_pre h.1 gk_c0 (by decide) rfl rfl _) rfl hl.1 rfl (Nat.le_of_ble_eq_true rfl) dL_setWorkers_4 ⟨Nat.le_of_ble_eq_true rfl, Nat.le_of_ble_eq_true rfl⟩ [⟨0, 9, 12, 21⟩] ⟨0, 9, 15, 13⟩ [] htab (List.forall_mem_cons.mpr ⟨Or.inr ⟨by decide, xIA, hts (Cond.classLink RL 21 xIA) (by decide +kernel), h.2.2.2.2⟩, fun z hz => absurd hz List.not_mem_nil⟩) (by decide) (by decide) (hts (Cond.classLink RL 13 xIS) (by decide +kernel)) (by decide +kernel) (fun q H1 locs1 hP1 hS1 => ?_)
  refine lv_astore_n (lv' := [(3, .ref q), (0, .ref (L 0)), (1, .int p0), (2, .ref o)]) hx hb dL_setWorkers_15 rfl hl (by decide) rfl (fun ls hl => ?_)
  refine lv_iconst (v := 2) hx hb dL_setWorkers_16 (by decide) ?_
  exact h_ret hx hb hr hlocks (h_front hP1) hS1 rfl dL_setWorkers_17
set_option maxHeartbeats 4000000 in
set_option maxRecDepth 100000 in
theorem h_setWay (l : Launch) (D : va_G) (L : Nat → Nat) (cy : Nat → ClassId) (cl : ClassId) (X : va_W) (o : Nat) (A : Nat → Prop) (f : Nat → Int64) (st : gSt) (hD : va_D A ((X ++ [lA cl o f]) ++ gW L cy st)) (p0 : Int32) (p1 : Int32) (r : Int32) (st' : gSt) (hM : gMi l yX6_setWay wsX6_setWay { frames := 2, cells := 0, slots := 0, locals := 42 } D L cy (X ++ [lA cl o f]) A [.ref (L 0), .int p0, .int p1] st r st') : hMt l yL_setWay wsL_setWay { frames := 3, cells := 0, slots := 0, locals := 72 } D L cy cl X o A f st [.ref (L 0), .int p0, .int p1, .ref o] 0 (vp_updL f 0 r.toInt64) 0 0 := by
  refine h_entry hD (cc := cL_setWay) (maxL := 5) (hh := [(0, 10, 13, 21), (0, 10, 17, 13)]) (by decide +kernel) rfl (Nat.le_of_ble_eq_true rfl) ?_
  intro p e s m args below meth c ls B
  obtain ⟨S, hr, hlocks, htab, h, hl⟩ := B
  have hx := S.1
  have hb := S.2.1
  have hts := S.2.2.2.2
  have hl : lv_has ls 5 [(0, .ref (L 0)), (1, .int p0), (2, .int p1), (3, .ref o)] := hl
  refine lv_aload_n hx hb dL_setWay_0 rfl (lv_at hl 3 rfl) ?_
  refine lv_iconst (v := 0) hx hb dL_setWay_1 (by decide) ?_
  refine lv_aload_n hx hb dL_setWay_2 rfl (lv_at hl 0 rfl) ?_
  refine lv_iload_n hx hb dL_setWay_3 rfl (lv_at hl 1 rfl) ?_
  refine lv_iload_n hx hb dL_setWay_4 rfl (lv_at hl 2 rfl) ?_
  refine g_calli S h.1.1 hM (cwV 2 hts gL_setWay_X6_setWay rfl rfl rfl (by decide +kernel) ⟨Nat.le_of_ble_eq_true rfl, Nat.le_of_ble_eq_true rfl⟩) (g_pre h.1.1 gk_c0 (by decide) rfl rfl _) rfl hl.1 rfl (Nat.le_of_ble_eq_true rfl) dL_setWay_5 ⟨Nat.zero_le _, Nat.zero_le _⟩ (fun H locs h1 => ?_)
  refine lv_i2l (v := r.toInt64) hx hb dL_setWay_8 rfl ?_
  refine h_put hx hb h.2.1 h1 dL_setWay_9 (fun H1 locs1 hP1 hS1 => ?_)
  refine lv_goto (tgt := 21) hx hb dL_setWay_10 (by decide) ?_
  refine lv_iconst (v := 0) hx hb dL_setWay_21 (by decide) ?_
  exact h_ret hx hb hr hlocks hP1 hS1 rfl dL_setWay_22
set_option maxHeartbeats 4000000 in
set_option maxRecDepth 100000 in
theorem h_setWay_x1 (l : Launch) (D : va_G) (L : Nat → Nat) (cy : Nat → ClassId) (cl : ClassId) (X : va_W) (o : Nat) (A : Nat → Prop) (f : Nat → Int64) (st : gSt) (hD : va_D A ((X ++ [lA cl o f]) ++ gW L cy st)) (p0 : Int32) (p1 : Int32) (hM : xMi l yX6_setWay wsX6_setWay { frames := 10, cells := 1, slots := 6, locals := 300 } D L cy (X ++ [lA cl o f]) A [.ref (L 0), .int p0, .int p1] st xIA) : hMt l yL_setWay wsL_setWay { frames := 11, cells := 1, slots := 6, locals := 330 } D L cy cl X o A f st [.ref (L 0), .int p0, .int p1, .ref o] 1 f 1 6 := by
  refine h_entry hD (cc := cL_setWay) (maxL := 5) (hh := [(0, 10, 13, 21), (0, 10, 17, 13)]) (by decide +kernel) rfl (Nat.le_of_ble_eq_true rfl) ?_
  intro p e s m args below meth c ls B
  obtain ⟨S, hr, hlocks, htab, h, hl⟩ := B
  have hx := S.1
  have hb := S.2.1
  have hts := S.2.2.2.2
  have hl : lv_has ls 5 [(0, .ref (L 0)), (1, .int p0), (2, .int p1), (3, .ref o)] := hl
  refine lv_aload_n hx hb dL_setWay_0 rfl (lv_at hl 3 rfl) ?_
  refine lv_iconst (v := 0) hx hb dL_setWay_1 (by decide) ?_
  refine lv_aload_n hx hb dL_setWay_2 rfl (lv_at hl 0 rfl) ?_
  refine lv_iload_n hx hb dL_setWay_3 rfl (lv_at hl 1 rfl) ?_
  refine lv_iload_n hx hb dL_setWay_4 rfl (lv_at hl 2 rfl) ?_
  refine h_callx S h.1 hM (cwV 2 hts gL_setWay_X6_setWay rfl rfl rfl (by decide +kernel) ⟨Nat.le_of_ble_eq_true rfl, Nat.le_of_ble_eq_true rfl⟩) (x_pre h.1 gk_c0 (by decide) rfl rfl _) rfl hl.1 rfl (Nat.le_of_ble_eq_true rfl) dL_setWay_5 ⟨Nat.le_of_ble_eq_true rfl, Nat.le_of_ble_eq_true rfl⟩ [] ⟨0, 10, 13, 21⟩ [⟨0, 10, 17, 13⟩] htab (fun z hz => absurd hz List.not_mem_nil) (by decide) (by decide) (hts (Cond.classLink RL 21 xIA) (by decide +kernel)) (by decide +kernel) (fun q H1 locs1 hP1 hS1 => ?_)
  refine lv_astore (lv' := [(4, .ref q), (0, .ref (L 0)), (1, .int p0), (2, .int p1), (3, .ref o)]) hx hb dL_setWay_13 hl (by decide) rfl (fun ls hl => ?_)
  refine lv_iconst (v := 1) hx hb dL_setWay_15 (by decide) ?_
  exact h_ret hx hb hr hlocks (h_front hP1) hS1 rfl dL_setWay_16
set_option maxHeartbeats 4000000 in
set_option maxRecDepth 100000 in
theorem h_setWay_x2 (l : Launch) (D : va_G) (L : Nat → Nat) (cy : Nat → ClassId) (cl : ClassId) (X : va_W) (o : Nat) (A : Nat → Prop) (f : Nat → Int64) (st : gSt) (hD : va_D A ((X ++ [lA cl o f]) ++ gW L cy st)) (p0 : Int32) (p1 : Int32) (hM : xMi l yX6_setWay wsX6_setWay { frames := 10, cells := 1, slots := 6, locals := 300 } D L cy (X ++ [lA cl o f]) A [.ref (L 0), .int p0, .int p1] st xIS) : hMt l yL_setWay wsL_setWay { frames := 11, cells := 1, slots := 6, locals := 330 } D L cy cl X o A f st [.ref (L 0), .int p0, .int p1, .ref o] 2 f 1 6 := by
  refine h_entry hD (cc := cL_setWay) (maxL := 5) (hh := [(0, 10, 13, 21), (0, 10, 17, 13)]) (by decide +kernel) rfl (Nat.le_of_ble_eq_true rfl) ?_
  intro p e s m args below meth c ls B
  obtain ⟨S, hr, hlocks, htab, h, hl⟩ := B
  have hx := S.1
  have hb := S.2.1
  have hts := S.2.2.2.2
  have hl : lv_has ls 5 [(0, .ref (L 0)), (1, .int p0), (2, .int p1), (3, .ref o)] := hl
  refine lv_aload_n hx hb dL_setWay_0 rfl (lv_at hl 3 rfl) ?_
  refine lv_iconst (v := 0) hx hb dL_setWay_1 (by decide) ?_
  refine lv_aload_n hx hb dL_setWay_2 rfl (lv_at hl 0 rfl) ?_
  refine lv_iload_n hx hb dL_setWay_3 rfl (lv_at hl 1 rfl) ?_
  refine lv_iload_n hx hb dL_setWay_4 rfl (lv_at hl 2 rfl) ?_
  refine h_callx S h.1 hM (cwV 2 hts gL_setWay_X6_setWay rfl rfl rfl (by decide +kernel) ⟨Nat.le_of_ble_eq_true rfl, Nat.le_of_ble_eq_true rfl⟩) (x_pre h.1 gk_c0 (by decide) rfl rfl _) rfl hl.1 rfl (Nat.le_of_ble_eq_true rfl) dL_setWay_5 ⟨Nat.le_of_ble_eq_true rfl, Nat.le_of_ble_eq_true rfl⟩ [⟨0, 10, 13, 21⟩] ⟨0, 10, 17, 13⟩ [] htab (List.forall_mem_cons.mpr ⟨Or.inr ⟨by decide, xIA, hts (Cond.classLink RL 21 xIA) (by decide +kernel), h.2.2.2.2⟩, fun z hz => absurd hz List.not_mem_nil⟩) (by decide) (by decide) (hts (Cond.classLink RL 13 xIS) (by decide +kernel)) (by decide +kernel) (fun q H1 locs1 hP1 hS1 => ?_)
  refine lv_astore (lv' := [(4, .ref q), (0, .ref (L 0)), (1, .int p0), (2, .int p1), (3, .ref o)]) hx hb dL_setWay_17 hl (by decide) rfl (fun ls hl => ?_)
  refine lv_iconst (v := 2) hx hb dL_setWay_19 (by decide) ?_
  exact h_ret hx hb hr hlocks (h_front hP1) hS1 rfl dL_setWay_20
set_option maxHeartbeats 4000000 in
set_option maxRecDepth 100000 in
theorem h_submit (l : Launch) (D : va_G) (L : Nat → Nat) (cy : Nat → ClassId) (cl : ClassId) (X : va_W) (o : Nat) (A : Nat → Prop) (f : Nat → Int64) (st : gSt) (hD : va_D A ((X ++ [lA cl o f]) ++ gW L cy st)) (p0 : Int32) (r : Int32) (st' : gSt) (hM : gMi l yX6_submit wsX6_submit { frames := 3, cells := 0, slots := 0, locals := 67 } D L cy (X ++ [lA cl o f]) A [.ref (L 0), .int p0] st r st') : hMt l yL_submit wsL_submit { frames := 4, cells := 0, slots := 0, locals := 97 } D L cy cl X o A f st [.ref (L 0), .int p0, .ref o] 0 (vp_updL f 0 r.toInt64) 0 0 := by
  refine h_entry hD (cc := cL_submit) (maxL := 4) (hh := [(0, 9, 12, 19), (0, 9, 15, 13)]) (by decide +kernel) rfl (Nat.le_of_ble_eq_true rfl) ?_
  intro p e s m args below meth c ls B
  obtain ⟨S, hr, hlocks, htab, h, hl⟩ := B
  have hx := S.1
  have hb := S.2.1
  have hts := S.2.2.2.2
  have hl : lv_has ls 4 [(0, .ref (L 0)), (1, .int p0), (2, .ref o)] := hl
  refine lv_aload_n hx hb dL_submit_0 rfl (lv_at hl 2 rfl) ?_
  refine lv_iconst (v := 0) hx hb dL_submit_1 (by decide) ?_
  refine lv_aload_n hx hb dL_submit_2 rfl (lv_at hl 0 rfl) ?_
  refine lv_iload_n hx hb dL_submit_3 rfl (lv_at hl 1 rfl) ?_
  refine g_calli S h.1.1 hM (cwV 1 hts gL_submit_X6_submit rfl rfl rfl (by decide +kernel) ⟨Nat.le_of_ble_eq_true rfl, Nat.le_of_ble_eq_true rfl⟩) (g_pre h.1.1 gk_c0 (by decide) rfl rfl _) rfl hl.1 rfl (Nat.le_of_ble_eq_true rfl) dL_submit_4 ⟨Nat.zero_le _, Nat.zero_le _⟩ (fun H locs h1 => ?_)
  refine lv_i2l (v := r.toInt64) hx hb dL_submit_7 rfl ?_
  refine h_put hx hb h.2.1 h1 dL_submit_8 (fun H1 locs1 hP1 hS1 => ?_)
  refine lv_goto (tgt := 18) hx hb dL_submit_9 (by decide) ?_
  refine lv_iconst (v := 0) hx hb dL_submit_18 (by decide) ?_
  exact h_ret hx hb hr hlocks hP1 hS1 rfl dL_submit_19
set_option maxHeartbeats 4000000 in
set_option maxRecDepth 100000 in
theorem h_submit_x1 (l : Launch) (D : va_G) (L : Nat → Nat) (cy : Nat → ClassId) (cl : ClassId) (X : va_W) (o : Nat) (A : Nat → Prop) (f : Nat → Int64) (st : gSt) (hD : va_D A ((X ++ [lA cl o f]) ++ gW L cy st)) (p0 : Int32) (hM : xMi l yX6_submit wsX6_submit { frames := 10, cells := 1, slots := 6, locals := 300 } D L cy (X ++ [lA cl o f]) A [.ref (L 0), .int p0] st xIO) : hMt l yL_submit wsL_submit { frames := 11, cells := 1, slots := 6, locals := 330 } D L cy cl X o A f st [.ref (L 0), .int p0, .ref o] 1 f 1 6 := by
  refine h_entry hD (cc := cL_submit) (maxL := 4) (hh := [(0, 9, 12, 19), (0, 9, 15, 13)]) (by decide +kernel) rfl (Nat.le_of_ble_eq_true rfl) ?_
  intro p e s m args below meth c ls B
  obtain ⟨S, hr, hlocks, htab, h, hl⟩ := B
  have hx := S.1
  have hb := S.2.1
  have hts := S.2.2.2.2
  have hl : lv_has ls 4 [(0, .ref (L 0)), (1, .int p0), (2, .ref o)] := hl
  refine lv_aload_n hx hb dL_submit_0 rfl (lv_at hl 2 rfl) ?_
  refine lv_iconst (v := 0) hx hb dL_submit_1 (by decide) ?_
  refine lv_aload_n hx hb dL_submit_2 rfl (lv_at hl 0 rfl) ?_
  refine lv_iload_n hx hb dL_submit_3 rfl (lv_at hl 1 rfl) ?_
  refine h_callx S h.1 hM (cwV 1 hts gL_submit_X6_submit rfl rfl rfl (by decide +kernel) ⟨Nat.le_of_ble_eq_true rfl, Nat.le_of_ble_eq_true rfl⟩) (x_pre h.1 gk_c0 (by decide) rfl rfl _) rfl hl.1 rfl (Nat.le_of_ble_eq_true rfl) dL_submit_4 ⟨Nat.le_of_ble_eq_true rfl, Nat.le_of_ble_eq_true rfl⟩ [] ⟨0, 9, 12, 19⟩ [⟨0, 9, 15, 13⟩] htab (fun z hz => absurd hz List.not_mem_nil) (by decide) (by decide) (hts (Cond.classLink RL 19 xIO) (by decide +kernel)) (by decide +kernel) (fun q H1 locs1 hP1 hS1 => ?_)
  refine lv_astore_n (lv' := [(3, .ref q), (0, .ref (L 0)), (1, .int p0), (2, .ref o)]) hx hb dL_submit_12 rfl hl (by decide) rfl (fun ls hl => ?_)
  refine lv_iconst (v := 1) hx hb dL_submit_13 (by decide) ?_
  exact h_ret hx hb hr hlocks (h_front hP1) hS1 rfl dL_submit_14
set_option maxHeartbeats 4000000 in
set_option maxRecDepth 100000 in
theorem h_submit_x2 (l : Launch) (D : va_G) (L : Nat → Nat) (cy : Nat → ClassId) (cl : ClassId) (X : va_W) (o : Nat) (A : Nat → Prop) (f : Nat → Int64) (st : gSt) (hD : va_D A ((X ++ [lA cl o f]) ++ gW L cy st)) (p0 : Int32) (hM : xMi l yX6_submit wsX6_submit { frames := 10, cells := 1, slots := 6, locals := 300 } D L cy (X ++ [lA cl o f]) A [.ref (L 0), .int p0] st xIS) : hMt l yL_submit wsL_submit { frames := 11, cells := 1, slots := 6, locals := 330 } D L cy cl X o A f st [.ref (L 0), .int p0, .ref o] 2 f 1 6 := by
  refine h_entry hD (cc := cL_submit) (maxL := 4) (hh := [(0, 9, 12, 19), (0, 9, 15, 13)]) (by decide +kernel) rfl (Nat.le_of_ble_eq_true rfl) ?_
  intro p e s m args below meth c ls B
  obtain ⟨S, hr, hlocks, htab, h, hl⟩ := B
  have hx := S.1
  have hb := S.2.1
  have hts := S.2.2.2.2
  have hl : lv_has ls 4 [(0, .ref (L 0)), (1, .int p0), (2, .ref o)] := hl
  refine lv_aload_n hx hb dL_submit_0 rfl (lv_at hl 2 rfl) ?_
  refine lv_iconst (v := 0) hx hb dL_submit_1 (by decide) ?_
  refine lv_aload_n hx hb dL_submit_2 rfl (lv_at hl 0 rfl) ?_
  refine lv_iload_n hx hb dL_submit_3 rfl (lv_at hl 1 rfl) ?_
  refine h_callx S h.1 hM (cwV 1 hts gL_submit_X6_submit rfl rfl rfl (by decide +kernel) ⟨Nat.le_of_ble_eq_true rfl, Nat.le_of_ble_eq_true rfl⟩) (x_pre h.1 gk_c0 (by decide) rfl rfl _) rfl hl.1 rfl (Nat.le_of_ble_eq_true rfl) dL_submit_4 ⟨Nat.le_of_ble_eq_true rfl, Nat.le_of_ble_eq_true rfl⟩ [⟨0, 9, 12, 19⟩] ⟨0, 9, 15, 13⟩ [] htab (List.forall_mem_cons.mpr ⟨Or.inr ⟨by decide, xIO, hts (Cond.classLink RL 19 xIO) (by decide +kernel), h.2.2.2.1⟩, fun z hz => absurd hz List.not_mem_nil⟩) (by decide) (by decide) (hts (Cond.classLink RL 13 xIS) (by decide +kernel)) (by decide +kernel) (fun q H1 locs1 hP1 hS1 => ?_)
  refine lv_astore_n (lv' := [(3, .ref q), (0, .ref (L 0)), (1, .int p0), (2, .ref o)]) hx hb dL_submit_15 rfl hl (by decide) rfl (fun ls hl => ?_)
  refine lv_iconst (v := 2) hx hb dL_submit_16 (by decide) ?_
  exact h_ret hx hb hr hlocks (h_front hP1) hS1 rfl dL_submit_17
set_option maxHeartbeats 4000000 in
set_option maxRecDepth 100000 in
theorem h_cancel (l : Launch) (D : va_G) (L : Nat → Nat) (cy : Nat → ClassId) (cl : ClassId) (X : va_W) (o : Nat) (A : Nat → Prop) (f : Nat → Int64) (st : gSt) (hD : va_D A ((X ++ [lA cl o f]) ++ gW L cy st)) (p0 : Int32) (r : Int32) (st' : gSt) (hM : gMi l yX6_cancel wsX6_cancel { frames := 4, cells := 0, slots := 0, locals := 92 } D L cy (X ++ [lA cl o f]) A [.ref (L 0), .int p0] st r st') : hMt l yL_cancel wsL_cancel { frames := 5, cells := 0, slots := 0, locals := 122 } D L cy cl X o A f st [.ref (L 0), .int p0, .ref o] 0 (vp_updL f 0 r.toInt64) 0 0 := by
  refine h_entry hD (cc := cL_cancel) (maxL := 4) (hh := [(0, 9, 12, 19), (0, 9, 15, 13)]) (by decide +kernel) rfl (Nat.le_of_ble_eq_true rfl) ?_
  intro p e s m args below meth c ls B
  obtain ⟨S, hr, hlocks, htab, h, hl⟩ := B
  have hx := S.1
  have hb := S.2.1
  have hts := S.2.2.2.2
  have hl : lv_has ls 4 [(0, .ref (L 0)), (1, .int p0), (2, .ref o)] := hl
  refine lv_aload_n hx hb dL_cancel_0 rfl (lv_at hl 2 rfl) ?_
  refine lv_iconst (v := 0) hx hb dL_cancel_1 (by decide) ?_
  refine lv_aload_n hx hb dL_cancel_2 rfl (lv_at hl 0 rfl) ?_
  refine lv_iload_n hx hb dL_cancel_3 rfl (lv_at hl 1 rfl) ?_
  refine g_calli S h.1.1 hM (cwV 1 hts gL_cancel_X6_cancel rfl rfl rfl (by decide +kernel) ⟨Nat.le_of_ble_eq_true rfl, Nat.le_of_ble_eq_true rfl⟩) (g_pre h.1.1 gk_c0 (by decide) rfl rfl _) rfl hl.1 rfl (Nat.le_of_ble_eq_true rfl) dL_cancel_4 ⟨Nat.zero_le _, Nat.zero_le _⟩ (fun H locs h1 => ?_)
  refine lv_i2l (v := r.toInt64) hx hb dL_cancel_7 rfl ?_
  refine h_put hx hb h.2.1 h1 dL_cancel_8 (fun H1 locs1 hP1 hS1 => ?_)
  refine lv_goto (tgt := 18) hx hb dL_cancel_9 (by decide) ?_
  refine lv_iconst (v := 0) hx hb dL_cancel_18 (by decide) ?_
  exact h_ret hx hb hr hlocks hP1 hS1 rfl dL_cancel_19
set_option maxHeartbeats 4000000 in
set_option maxRecDepth 100000 in
theorem h_cancel_x1 (l : Launch) (D : va_G) (L : Nat → Nat) (cy : Nat → ClassId) (cl : ClassId) (X : va_W) (o : Nat) (A : Nat → Prop) (f : Nat → Int64) (st : gSt) (hD : va_D A ((X ++ [lA cl o f]) ++ gW L cy st)) (p0 : Int32) (hM : xMi l yX6_cancel wsX6_cancel { frames := 10, cells := 1, slots := 6, locals := 300 } D L cy (X ++ [lA cl o f]) A [.ref (L 0), .int p0] st xIO) : hMt l yL_cancel wsL_cancel { frames := 11, cells := 1, slots := 6, locals := 330 } D L cy cl X o A f st [.ref (L 0), .int p0, .ref o] 1 f 1 6 := by
  refine h_entry hD (cc := cL_cancel) (maxL := 4) (hh := [(0, 9, 12, 19), (0, 9, 15, 13)]) (by decide +kernel) rfl (Nat.le_of_ble_eq_true rfl) ?_
  intro p e s m args below meth c ls B
  obtain ⟨S, hr, hlocks, htab, h, hl⟩ := B
  have hx := S.1
  have hb := S.2.1
  have hts := S.2.2.2.2
  have hl : lv_has ls 4 [(0, .ref (L 0)), (1, .int p0), (2, .ref o)] := hl
  refine lv_aload_n hx hb dL_cancel_0 rfl (lv_at hl 2 rfl) ?_
  refine lv_iconst (v := 0) hx hb dL_cancel_1 (by decide) ?_
  refine lv_aload_n hx hb dL_cancel_2 rfl (lv_at hl 0 rfl) ?_
  refine lv_iload_n hx hb dL_cancel_3 rfl (lv_at hl 1 rfl) ?_
  refine h_callx S h.1 hM (cwV 1 hts gL_cancel_X6_cancel rfl rfl rfl (by decide +kernel) ⟨Nat.le_of_ble_eq_true rfl, Nat.le_of_ble_eq_true rfl⟩) (x_pre h.1 gk_c0 (by decide) rfl rfl _) rfl hl.1 rfl (Nat.le_of_ble_eq_true rfl) dL_cancel_4 ⟨Nat.le_of_ble_eq_true rfl, Nat.le_of_ble_eq_true rfl⟩ [] ⟨0, 9, 12, 19⟩ [⟨0, 9, 15, 13⟩] htab (fun z hz => absurd hz List.not_mem_nil) (by decide) (by decide) (hts (Cond.classLink RL 19 xIO) (by decide +kernel)) (by decide +kernel) (fun q H1 locs1 hP1 hS1 => ?_)
  refine lv_astore_n (lv' := [(3, .ref q), (0, .ref (L 0)), (1, .int p0), (2, .ref o)]) hx hb dL_cancel_12 rfl hl (by decide) rfl (fun ls hl => ?_)
  refine lv_iconst (v := 1) hx hb dL_cancel_13 (by decide) ?_
  exact h_ret hx hb hr hlocks (h_front hP1) hS1 rfl dL_cancel_14
set_option maxHeartbeats 4000000 in
set_option maxRecDepth 100000 in
theorem h_cancel_x2 (l : Launch) (D : va_G) (L : Nat → Nat) (cy : Nat → ClassId) (cl : ClassId) (X : va_W) (o : Nat) (A : Nat → Prop) (f : Nat → Int64) (st : gSt) (hD : va_D A ((X ++ [lA cl o f]) ++ gW L cy st)) (p0 : Int32) (hM : xMi l yX6_cancel wsX6_cancel { frames := 10, cells := 1, slots := 6, locals := 300 } D L cy (X ++ [lA cl o f]) A [.ref (L 0), .int p0] st xIS) : hMt l yL_cancel wsL_cancel { frames := 11, cells := 1, slots := 6, locals := 330 } D L cy cl X o A f st [.ref (L 0), .int p0, .ref o] 2 f 1 6 := by
  refine h_entry hD (cc := cL_cancel) (maxL := 4) (hh := [(0, 9, 12, 19), (0, 9, 15, 13)]) (by decide +kernel) rfl (Nat.le_of_ble_eq_true rfl) ?_
  intro p e s m args below meth c ls B
  obtain ⟨S, hr, hlocks, htab, h, hl⟩ := B
  have hx := S.1
  have hb := S.2.1
  have hts := S.2.2.2.2
  have hl : lv_has ls 4 [(0, .ref (L 0)), (1, .int p0), (2, .ref o)] := hl
  refine lv_aload_n hx hb dL_cancel_0 rfl (lv_at hl 2 rfl) ?_
  refine lv_iconst (v := 0) hx hb dL_cancel_1 (by decide) ?_
  refine lv_aload_n hx hb dL_cancel_2 rfl (lv_at hl 0 rfl) ?_
  refine lv_iload_n hx hb dL_cancel_3 rfl (lv_at hl 1 rfl) ?_
  refine h_callx S h.1 hM (cwV 1 hts gL_cancel_X6_cancel rfl rfl rfl (by decide +kernel) ⟨Nat.le_of_ble_eq_true rfl, Nat.le_of_ble_eq_true rfl⟩) (x_pre h.1 gk_c0 (by decide) rfl rfl _) rfl hl.1 rfl (Nat.le_of_ble_eq_true rfl) dL_cancel_4 ⟨Nat.le_of_ble_eq_true rfl, Nat.le_of_ble_eq_true rfl⟩ [⟨0, 9, 12, 19⟩] ⟨0, 9, 15, 13⟩ [] htab (List.forall_mem_cons.mpr ⟨Or.inr ⟨by decide, xIO, hts (Cond.classLink RL 19 xIO) (by decide +kernel), h.2.2.2.1⟩, fun z hz => absurd hz List.not_mem_nil⟩) (by decide) (by decide) (hts (Cond.classLink RL 13 xIS) (by decide +kernel)) (by decide +kernel) (fun q H1 locs1 hP1 hS1 => ?_)
  refine lv_astore_n (lv' := [(3, .ref q), (0, .ref (L 0)), (1, .int p0), (2, .ref o)]) hx hb dL_cancel_15 rfl hl (by decide) rfl (fun ls hl => ?_)
  refine lv_iconst (v := 2) hx hb dL_cancel_16 (by decide) ?_
  exact h_ret hx hb hr hlocks (h_front hP1) hS1 rfl dL_cancel_17
set_option maxHeartbeats 4000000 in
set_option maxRecDepth 100000 in
theorem h_keep (l : Launch) (D : va_G) (L : Nat → Nat) (cy : Nat → ClassId) (cl : ClassId) (X : va_W) (o : Nat) (A : Nat → Prop) (f : Nat → Int64) (st : gSt) (hD : va_D A ((X ++ [lA cl o f]) ++ gW L cy st)) (p0 : Int32) (p1 : Int32) (st' : gSt) (hM : gMi l yX6_keep wsX6_keep { frames := 3, cells := 0, slots := 0, locals := 69 } D L cy (X ++ [lA cl o f]) A [.ref (L 0), .int p0, .int p1] st 1 st') : hMt l yL_keep wsL_keep { frames := 4, cells := 0, slots := 0, locals := 99 } D L cy cl X o A f st [.ref (L 0), .int p0, .int p1, .ref o] 0 (vp_updL f 0 1) 0 0 := by
  refine h_entry hD (cc := cL_keep) (maxL := 5) (hh := [(0, 17, 20, 19), (0, 17, 24, 21)]) (by decide +kernel) rfl (Nat.le_of_ble_eq_true rfl) ?_
  intro p e s m args below meth c ls B
  obtain ⟨S, hr, hlocks, htab, h, hl⟩ := B
  have hx := S.1
  have hb := S.2.1
  have hts := S.2.2.2.2
  have hl : lv_has ls 5 [(0, .ref (L 0)), (1, .int p0), (2, .int p1), (3, .ref o)] := hl
  refine lv_aload_n hx hb dL_keep_0 rfl (lv_at hl 3 rfl) ?_
  refine lv_iconst (v := 0) hx hb dL_keep_1 (by decide) ?_
  refine lv_aload_n hx hb dL_keep_2 rfl (lv_at hl 0 rfl) ?_
  refine lv_iload_n hx hb dL_keep_3 rfl (lv_at hl 1 rfl) ?_
  refine lv_iload_n hx hb dL_keep_4 rfl (lv_at hl 2 rfl) ?_
  refine g_calli S h.1.1 hM (cwV 2 hts gL_keep_X6_keep rfl rfl rfl (by decide +kernel) ⟨Nat.le_of_ble_eq_true rfl, Nat.le_of_ble_eq_true rfl⟩) (g_pre h.1.1 gk_c0 (by decide) rfl rfl _) rfl hl.1 rfl (Nat.le_of_ble_eq_true rfl) dL_keep_5 ⟨Nat.zero_le _, Nat.zero_le _⟩ (fun H locs h1 => ?_)
  refine lv_if_eq (tgt := 15) hx hb dL_keep_8 (by decide) (fun c1 => absurd c1 (by decide)) (fun c1 => ?_)
  refine lv_lconst (v := 1) hx hb dL_keep_11 rfl ?_
  refine lv_goto (tgt := 16) hx hb dL_keep_12 (by decide) ?_
  refine h_put hx hb h.2.1 h1 dL_keep_16 (fun H1 locs1 hP1 hS1 => ?_)
  refine lv_goto (tgt := 28) hx hb dL_keep_17 (by decide) ?_
  refine lv_iconst (v := 0) hx hb dL_keep_28 (by decide) ?_
  exact h_ret hx hb hr hlocks hP1 hS1 rfl dL_keep_29
set_option maxHeartbeats 4000000 in
set_option maxRecDepth 100000 in
theorem h_keep_x1 (l : Launch) (D : va_G) (L : Nat → Nat) (cy : Nat → ClassId) (cl : ClassId) (X : va_W) (o : Nat) (A : Nat → Prop) (f : Nat → Int64) (st : gSt) (hD : va_D A ((X ++ [lA cl o f]) ++ gW L cy st)) (p0 : Int32) (p1 : Int32) (hM : xMi l yX6_keep wsX6_keep { frames := 10, cells := 1, slots := 6, locals := 300 } D L cy (X ++ [lA cl o f]) A [.ref (L 0), .int p0, .int p1] st xIO) : hMt l yL_keep wsL_keep { frames := 11, cells := 1, slots := 6, locals := 330 } D L cy cl X o A f st [.ref (L 0), .int p0, .int p1, .ref o] 1 f 1 6 := by
  refine h_entry hD (cc := cL_keep) (maxL := 5) (hh := [(0, 17, 20, 19), (0, 17, 24, 21)]) (by decide +kernel) rfl (Nat.le_of_ble_eq_true rfl) ?_
  intro p e s m args below meth c ls B
  obtain ⟨S, hr, hlocks, htab, h, hl⟩ := B
  have hx := S.1
  have hb := S.2.1
  have hts := S.2.2.2.2
  have hl : lv_has ls 5 [(0, .ref (L 0)), (1, .int p0), (2, .int p1), (3, .ref o)] := hl
  refine lv_aload_n hx hb dL_keep_0 rfl (lv_at hl 3 rfl) ?_
  refine lv_iconst (v := 0) hx hb dL_keep_1 (by decide) ?_
  refine lv_aload_n hx hb dL_keep_2 rfl (lv_at hl 0 rfl) ?_
  refine lv_iload_n hx hb dL_keep_3 rfl (lv_at hl 1 rfl) ?_
  refine lv_iload_n hx hb dL_keep_4 rfl (lv_at hl 2 rfl) ?_
  refine h_callx S h.1 hM (cwV 2 hts gL_keep_X6_keep rfl rfl rfl (by decide +kernel) ⟨Nat.le_of_ble_eq_true rfl, Nat.le_of_ble_eq_true rfl⟩) (x_pre h.1 gk_c0 (by decide) rfl rfl _) rfl hl.1 rfl (Nat.le_of_ble_eq_true rfl) dL_keep_5 ⟨Nat.le_of_ble_eq_true rfl, Nat.le_of_ble_eq_true rfl⟩ [] ⟨0, 17, 20, 19⟩ [⟨0, 17, 24, 21⟩] htab (fun z hz => absurd hz List.not_mem_nil) (by decide) (by decide) (hts (Cond.classLink RL 19 xIO) (by decide +kernel)) (by decide +kernel) (fun q H1 locs1 hP1 hS1 => ?_)
  refine lv_astore (lv' := [(4, .ref q), (0, .ref (L 0)), (1, .int p0), (2, .int p1), (3, .ref o)]) hx hb dL_keep_20 hl (by decide) rfl (fun ls hl => ?_)
  refine lv_iconst (v := 1) hx hb dL_keep_22 (by decide) ?_
  exact h_ret hx hb hr hlocks (h_front hP1) hS1 rfl dL_keep_23
set_option maxHeartbeats 4000000 in
set_option maxRecDepth 100000 in
theorem h_keep_x2 (l : Launch) (D : va_G) (L : Nat → Nat) (cy : Nat → ClassId) (cl : ClassId) (X : va_W) (o : Nat) (A : Nat → Prop) (f : Nat → Int64) (st : gSt) (hD : va_D A ((X ++ [lA cl o f]) ++ gW L cy st)) (p0 : Int32) (p1 : Int32) (hM : xMi l yX6_keep wsX6_keep { frames := 10, cells := 1, slots := 6, locals := 300 } D L cy (X ++ [lA cl o f]) A [.ref (L 0), .int p0, .int p1] st xIA) : hMt l yL_keep wsL_keep { frames := 11, cells := 1, slots := 6, locals := 330 } D L cy cl X o A f st [.ref (L 0), .int p0, .int p1, .ref o] 2 f 1 6 := by
  refine h_entry hD (cc := cL_keep) (maxL := 5) (hh := [(0, 17, 20, 19), (0, 17, 24, 21)]) (by decide +kernel) rfl (Nat.le_of_ble_eq_true rfl) ?_
  intro p e s m args below meth c ls B
  obtain ⟨S, hr, hlocks, htab, h, hl⟩ := B
  have hx := S.1
  have hb := S.2.1
  have hts := S.2.2.2.2
  have hl : lv_has ls 5 [(0, .ref (L 0)), (1, .int p0), (2, .int p1), (3, .ref o)] := hl
  refine lv_aload_n hx hb dL_keep_0 rfl (lv_at hl 3 rfl) ?_
  refine lv_iconst (v := 0) hx hb dL_keep_1 (by decide) ?_
  refine lv_aload_n hx hb dL_keep_2 rfl (lv_at hl 0 rfl) ?_
  refine lv_iload_n hx hb dL_keep_3 rfl (lv_at hl 1 rfl) ?_
  refine lv_iload_n hx hb dL_keep_4 rfl (lv_at hl 2 rfl) ?_
  refine h_callx S h.1 hM (cwV 2 hts gL_keep_X6_keep rfl rfl rfl (by decide +kernel) ⟨Nat.le_of_ble_eq_true rfl, Nat.le_of_ble_eq_true rfl⟩) (x_pre h.1 gk_c0 (by decide) rfl rfl _) rfl hl.1 rfl (Nat.le_of_ble_eq_true rfl) dL_keep_5 ⟨Nat.le_of_ble_eq_true rfl, Nat.le_of_ble_eq_true rfl⟩ [⟨0, 17, 20, 19⟩] ⟨0, 17, 24, 21⟩ [] htab (List.forall_mem_cons.mpr ⟨Or.inr ⟨by decide, xIO, hts (Cond.classLink RL 19 xIO) (by decide +kernel), h.2.2.1⟩, fun z hz => absurd hz List.not_mem_nil⟩) (by decide) (by decide) (hts (Cond.classLink RL 21 xIA) (by decide +kernel)) (by decide +kernel) (fun q H1 locs1 hP1 hS1 => ?_)
  refine lv_astore (lv' := [(4, .ref q), (0, .ref (L 0)), (1, .int p0), (2, .int p1), (3, .ref o)]) hx hb dL_keep_24 hl (by decide) rfl (fun ls hl => ?_)
  refine lv_iconst (v := 2) hx hb dL_keep_26 (by decide) ?_
  exact h_ret hx hb hr hlocks (h_front hP1) hS1 rfl dL_keep_27
set_option maxHeartbeats 4000000 in
set_option maxRecDepth 100000 in
theorem h_tick (l : Launch) (D : va_G) (L : Nat → Nat) (cy : Nat → ClassId) (cl : ClassId) (X : va_W) (o : Nat) (A : Nat → Prop) (f : Nat → Int64) (st : gSt) (hD : va_D A ((X ++ [lA cl o f]) ++ gW L cy st)) (p0 : Int32) (r : Int32) (st' : gSt) (hM : gMi l yX6_tick wsX6_tick { frames := 7, cells := 0, slots := 0, locals := 166 } D L cy (X ++ [lA cl o f]) A [.ref (L 0), .int p0] st r st') : hMt l yL_tick wsL_tick { frames := 8, cells := 0, slots := 0, locals := 196 } D L cy cl X o A f st [.ref (L 0), .int p0, .ref o] 0 (vp_updL f 0 r.toInt64) 0 0 := by
  refine h_entry hD (cc := cL_tick) (maxL := 4) (hh := [(0, 9, 12, 21)]) (by decide +kernel) rfl (Nat.le_of_ble_eq_true rfl) ?_
  intro p e s m args below meth c ls B
  obtain ⟨S, hr, hlocks, htab, h, hl⟩ := B
  have hx := S.1
  have hb := S.2.1
  have hts := S.2.2.2.2
  have hl : lv_has ls 4 [(0, .ref (L 0)), (1, .int p0), (2, .ref o)] := hl
  refine lv_aload_n hx hb dL_tick_0 rfl (lv_at hl 2 rfl) ?_
  refine lv_iconst (v := 0) hx hb dL_tick_1 (by decide) ?_
  refine lv_aload_n hx hb dL_tick_2 rfl (lv_at hl 0 rfl) ?_
  refine lv_iload_n hx hb dL_tick_3 rfl (lv_at hl 1 rfl) ?_
  refine g_calli S h.1.1 hM (cwV 1 hts gL_tick_X6_tick rfl rfl rfl (by decide +kernel) ⟨Nat.le_of_ble_eq_true rfl, Nat.le_of_ble_eq_true rfl⟩) (g_pre h.1.1 gk_c0 (by decide) rfl rfl _) rfl hl.1 rfl (Nat.le_of_ble_eq_true rfl) dL_tick_4 ⟨Nat.zero_le _, Nat.zero_le _⟩ (fun H locs h1 => ?_)
  refine lv_i2l (v := r.toInt64) hx hb dL_tick_7 rfl ?_
  refine h_put hx hb h.2.1 h1 dL_tick_8 (fun H1 locs1 hP1 hS1 => ?_)
  refine lv_goto (tgt := 15) hx hb dL_tick_9 (by decide) ?_
  refine lv_iconst (v := 0) hx hb dL_tick_15 (by decide) ?_
  exact h_ret hx hb hr hlocks hP1 hS1 rfl dL_tick_16
set_option maxHeartbeats 4000000 in
set_option maxRecDepth 100000 in
theorem h_tick_x1 (l : Launch) (D : va_G) (L : Nat → Nat) (cy : Nat → ClassId) (cl : ClassId) (X : va_W) (o : Nat) (A : Nat → Prop) (f : Nat → Int64) (st : gSt) (hD : va_D A ((X ++ [lA cl o f]) ++ gW L cy st)) (p0 : Int32) (hM : xMi l yX6_tick wsX6_tick { frames := 10, cells := 1, slots := 6, locals := 300 } D L cy (X ++ [lA cl o f]) A [.ref (L 0), .int p0] st xIA) : hMt l yL_tick wsL_tick { frames := 11, cells := 1, slots := 6, locals := 330 } D L cy cl X o A f st [.ref (L 0), .int p0, .ref o] 1 f 1 6 := by
  refine h_entry hD (cc := cL_tick) (maxL := 4) (hh := [(0, 9, 12, 21)]) (by decide +kernel) rfl (Nat.le_of_ble_eq_true rfl) ?_
  intro p e s m args below meth c ls B
  obtain ⟨S, hr, hlocks, htab, h, hl⟩ := B
  have hx := S.1
  have hb := S.2.1
  have hts := S.2.2.2.2
  have hl : lv_has ls 4 [(0, .ref (L 0)), (1, .int p0), (2, .ref o)] := hl
  refine lv_aload_n hx hb dL_tick_0 rfl (lv_at hl 2 rfl) ?_
  refine lv_iconst (v := 0) hx hb dL_tick_1 (by decide) ?_
  refine lv_aload_n hx hb dL_tick_2 rfl (lv_at hl 0 rfl) ?_
  refine lv_iload_n hx hb dL_tick_3 rfl (lv_at hl 1 rfl) ?_
  refine h_callx S h.1 hM (cwV 1 hts gL_tick_X6_tick rfl rfl rfl (by decide +kernel) ⟨Nat.le_of_ble_eq_true rfl, Nat.le_of_ble_eq_true rfl⟩) (x_pre h.1 gk_c0 (by decide) rfl rfl _) rfl hl.1 rfl (Nat.le_of_ble_eq_true rfl) dL_tick_4 ⟨Nat.le_of_ble_eq_true rfl, Nat.le_of_ble_eq_true rfl⟩ [] ⟨0, 9, 12, 21⟩ [] htab (fun z hz => absurd hz List.not_mem_nil) (by decide) (by decide) (hts (Cond.classLink RL 21 xIA) (by decide +kernel)) (by decide +kernel) (fun q H1 locs1 hP1 hS1 => ?_)
  refine lv_astore_n (lv' := [(3, .ref q), (0, .ref (L 0)), (1, .int p0), (2, .ref o)]) hx hb dL_tick_12 rfl hl (by decide) rfl (fun ls hl => ?_)
  refine lv_iconst (v := 1) hx hb dL_tick_13 (by decide) ?_
  exact h_ret hx hb hr hlocks (h_front hP1) hS1 rfl dL_tick_14
set_option maxHeartbeats 4000000 in
set_option maxRecDepth 100000 in
theorem h_stateOf (l : Launch) (D : va_G) (L : Nat → Nat) (cy : Nat → ClassId) (cl : ClassId) (X : va_W) (o : Nat) (A : Nat → Prop) (f : Nat → Int64) (st : gSt) (hD : va_D A ((X ++ [lA cl o f]) ++ gW L cy st)) (p0 : Int32) (r : Int32) (st' : gSt) (hM : gMi l yX6_stateOf wsX6_stateOf { frames := 1, cells := 0, slots := 0, locals := 21 } D L cy (X ++ [lA cl o f]) A [.ref (L 0), .int p0] st r st') : hMt l yL_stateOf wsL_stateOf { frames := 2, cells := 0, slots := 0, locals := 51 } D L cy cl X o A f st [.ref (L 0), .int p0, .ref o] 0 (vp_updL f 0 r.toInt64) 0 0 := by
  refine h_entry hD (cc := cL_stateOf) (maxL := 4) (hh := [(0, 9, 12, 19)]) (by decide +kernel) rfl (Nat.le_of_ble_eq_true rfl) ?_
  intro p e s m args below meth c ls B
  obtain ⟨S, hr, hlocks, htab, h, hl⟩ := B
  have hx := S.1
  have hb := S.2.1
  have hts := S.2.2.2.2
  have hl : lv_has ls 4 [(0, .ref (L 0)), (1, .int p0), (2, .ref o)] := hl
  refine lv_aload_n hx hb dL_stateOf_0 rfl (lv_at hl 2 rfl) ?_
  refine lv_iconst (v := 0) hx hb dL_stateOf_1 (by decide) ?_
  refine lv_aload_n hx hb dL_stateOf_2 rfl (lv_at hl 0 rfl) ?_
  refine lv_iload_n hx hb dL_stateOf_3 rfl (lv_at hl 1 rfl) ?_
  refine g_calli S h.1.1 hM (cwV 1 hts gL_stateOf_X6_stateOf rfl rfl rfl (by decide +kernel) ⟨Nat.le_of_ble_eq_true rfl, Nat.le_of_ble_eq_true rfl⟩) (g_pre h.1.1 gk_c0 (by decide) rfl rfl _) rfl hl.1 rfl (Nat.le_of_ble_eq_true rfl) dL_stateOf_4 ⟨Nat.zero_le _, Nat.zero_le _⟩ (fun H locs h1 => ?_)
  refine lv_i2l (v := r.toInt64) hx hb dL_stateOf_7 rfl ?_
  refine h_put hx hb h.2.1 h1 dL_stateOf_8 (fun H1 locs1 hP1 hS1 => ?_)
  refine lv_goto (tgt := 15) hx hb dL_stateOf_9 (by decide) ?_
  refine lv_iconst (v := 0) hx hb dL_stateOf_15 (by decide) ?_
  exact h_ret hx hb hr hlocks hP1 hS1 rfl dL_stateOf_16
set_option maxHeartbeats 4000000 in
set_option maxRecDepth 100000 in
theorem h_stateOf_x1 (l : Launch) (D : va_G) (L : Nat → Nat) (cy : Nat → ClassId) (cl : ClassId) (X : va_W) (o : Nat) (A : Nat → Prop) (f : Nat → Int64) (st : gSt) (hD : va_D A ((X ++ [lA cl o f]) ++ gW L cy st)) (p0 : Int32) (hM : xMi l yX6_stateOf wsX6_stateOf { frames := 10, cells := 1, slots := 6, locals := 300 } D L cy (X ++ [lA cl o f]) A [.ref (L 0), .int p0] st xIO) : hMt l yL_stateOf wsL_stateOf { frames := 11, cells := 1, slots := 6, locals := 330 } D L cy cl X o A f st [.ref (L 0), .int p0, .ref o] 1 f 1 6 := by
  refine h_entry hD (cc := cL_stateOf) (maxL := 4) (hh := [(0, 9, 12, 19)]) (by decide +kernel) rfl (Nat.le_of_ble_eq_true rfl) ?_
  intro p e s m args below meth c ls B
  obtain ⟨S, hr, hlocks, htab, h, hl⟩ := B
  have hx := S.1
  have hb := S.2.1
  have hts := S.2.2.2.2
  have hl : lv_has ls 4 [(0, .ref (L 0)), (1, .int p0), (2, .ref o)] := hl
  refine lv_aload_n hx hb dL_stateOf_0 rfl (lv_at hl 2 rfl) ?_
  refine lv_iconst (v := 0) hx hb dL_stateOf_1 (by decide) ?_
  refine lv_aload_n hx hb dL_stateOf_2 rfl (lv_at hl 0 rfl) ?_
  refine lv_iload_n hx hb dL_stateOf_3 rfl (lv_at hl 1 rfl) ?_
  refine h_callx S h.1 hM (cwV 1 hts gL_stateOf_X6_stateOf rfl rfl rfl (by decide +kernel) ⟨Nat.le_of_ble_eq_true rfl, Nat.le_of_ble_eq_true rfl⟩) (x_pre h.1 gk_c0 (by decide) rfl rfl _) rfl hl.1 rfl (Nat.le_of_ble_eq_true rfl) dL_stateOf_4 ⟨Nat.le_of_ble_eq_true rfl, Nat.le_of_ble_eq_true rfl⟩ [] ⟨0, 9, 12, 19⟩ [] htab (fun z hz => absurd hz List.not_mem_nil) (by decide) (by decide) (hts (Cond.classLink RL 19 xIO) (by decide +kernel)) (by decide +kernel) (fun q H1 locs1 hP1 hS1 => ?_)
  refine lv_astore_n (lv' := [(3, .ref q), (0, .ref (L 0)), (1, .int p0), (2, .ref o)]) hx hb dL_stateOf_12 rfl hl (by decide) rfl (fun ls hl => ?_)
  refine lv_iconst (v := 1) hx hb dL_stateOf_13 (by decide) ?_
  exact h_ret hx hb hr hlocks (h_front hP1) hS1 rfl dL_stateOf_14
set_option maxHeartbeats 4000000 in
set_option maxRecDepth 100000 in
theorem h_valueOf (l : Launch) (D : va_G) (L : Nat → Nat) (cy : Nat → ClassId) (cl : ClassId) (X : va_W) (o : Nat) (A : Nat → Prop) (f : Nat → Int64) (st : gSt) (hD : va_D A ((X ++ [lA cl o f]) ++ gW L cy st)) (p0 : Int32) (r : Int32) (st' : gSt) (hM : gMi l yX6_valueOf wsX6_valueOf { frames := 1, cells := 0, slots := 0, locals := 21 } D L cy (X ++ [lA cl o f]) A [.ref (L 0), .int p0] st r st') : hMt l yL_valueOf wsL_valueOf { frames := 2, cells := 0, slots := 0, locals := 51 } D L cy cl X o A f st [.ref (L 0), .int p0, .ref o] 0 (vp_updL f 0 r.toInt64) 0 0 := by
  refine h_entry hD (cc := cL_valueOf) (maxL := 4) (hh := [(0, 9, 12, 19)]) (by decide +kernel) rfl (Nat.le_of_ble_eq_true rfl) ?_
  intro p e s m args below meth c ls B
  obtain ⟨S, hr, hlocks, htab, h, hl⟩ := B
  have hx := S.1
  have hb := S.2.1
  have hts := S.2.2.2.2
  have hl : lv_has ls 4 [(0, .ref (L 0)), (1, .int p0), (2, .ref o)] := hl
  refine lv_aload_n hx hb dL_valueOf_0 rfl (lv_at hl 2 rfl) ?_
  refine lv_iconst (v := 0) hx hb dL_valueOf_1 (by decide) ?_
  refine lv_aload_n hx hb dL_valueOf_2 rfl (lv_at hl 0 rfl) ?_
  refine lv_iload_n hx hb dL_valueOf_3 rfl (lv_at hl 1 rfl) ?_
  refine g_calli S h.1.1 hM (cwV 1 hts gL_valueOf_X6_valueOf rfl rfl rfl (by decide +kernel) ⟨Nat.le_of_ble_eq_true rfl, Nat.le_of_ble_eq_true rfl⟩) (g_pre h.1.1 gk_c0 (by decide) rfl rfl _) rfl hl.1 rfl (Nat.le_of_ble_eq_true rfl) dL_valueOf_4 ⟨Nat.zero_le _, Nat.zero_le _⟩ (fun H locs h1 => ?_)
  refine lv_i2l (v := r.toInt64) hx hb dL_valueOf_7 rfl ?_
  refine h_put hx hb h.2.1 h1 dL_valueOf_8 (fun H1 locs1 hP1 hS1 => ?_)
  refine lv_goto (tgt := 15) hx hb dL_valueOf_9 (by decide) ?_
  refine lv_iconst (v := 0) hx hb dL_valueOf_15 (by decide) ?_
  exact h_ret hx hb hr hlocks hP1 hS1 rfl dL_valueOf_16
set_option maxHeartbeats 4000000 in
set_option maxRecDepth 100000 in
theorem h_valueOf_x1 (l : Launch) (D : va_G) (L : Nat → Nat) (cy : Nat → ClassId) (cl : ClassId) (X : va_W) (o : Nat) (A : Nat → Prop) (f : Nat → Int64) (st : gSt) (hD : va_D A ((X ++ [lA cl o f]) ++ gW L cy st)) (p0 : Int32) (hM : xMi l yX6_valueOf wsX6_valueOf { frames := 10, cells := 1, slots := 6, locals := 300 } D L cy (X ++ [lA cl o f]) A [.ref (L 0), .int p0] st xIO) : hMt l yL_valueOf wsL_valueOf { frames := 11, cells := 1, slots := 6, locals := 330 } D L cy cl X o A f st [.ref (L 0), .int p0, .ref o] 1 f 1 6 := by
  refine h_entry hD (cc := cL_valueOf) (maxL := 4) (hh := [(0, 9, 12, 19)]) (by decide +kernel) rfl (Nat.le_of_ble_eq_true rfl) ?_
  intro p e s m args below meth c ls B
  obtain ⟨S, hr, hlocks, htab, h, hl⟩ := B
  have hx := S.1
  have hb := S.2.1
  have hts := S.2.2.2.2
  have hl : lv_has ls 4 [(0, .ref (L 0)), (1, .int p0), (2, .ref o)] := hl
  refine lv_aload_n hx hb dL_valueOf_0 rfl (lv_at hl 2 rfl) ?_
  refine lv_iconst (v := 0) hx hb dL_valueOf_1 (by decide) ?_
  refine lv_aload_n hx hb dL_valueOf_2 rfl (lv_at hl 0 rfl) ?_
  refine lv_iload_n hx hb dL_valueOf_3 rfl (lv_at hl 1 rfl) ?_
  refine h_callx S h.1 hM (cwV 1 hts gL_valueOf_X6_valueOf rfl rfl rfl (by decide +kernel) ⟨Nat.le_of_ble_eq_true rfl, Nat.le_of_ble_eq_true rfl⟩) (x_pre h.1 gk_c0 (by decide) rfl rfl _) rfl hl.1 rfl (Nat.le_of_ble_eq_true rfl) dL_valueOf_4 ⟨Nat.le_of_ble_eq_true rfl, Nat.le_of_ble_eq_true rfl⟩ [] ⟨0, 9, 12, 19⟩ [] htab (fun z hz => absurd hz List.not_mem_nil) (by decide) (by decide) (hts (Cond.classLink RL 19 xIO) (by decide +kernel)) (by decide +kernel) (fun q H1 locs1 hP1 hS1 => ?_)
  refine lv_astore_n (lv' := [(3, .ref q), (0, .ref (L 0)), (1, .int p0), (2, .ref o)]) hx hb dL_valueOf_12 rfl hl (by decide) rfl (fun ls hl => ?_)
  refine lv_iconst (v := 1) hx hb dL_valueOf_13 (by decide) ?_
  exact h_ret hx hb hr hlocks (h_front hP1) hS1 rfl dL_valueOf_14
set_option maxHeartbeats 4000000 in
set_option maxRecDepth 100000 in
theorem h_stepOf (l : Launch) (D : va_G) (L : Nat → Nat) (cy : Nat → ClassId) (cl : ClassId) (X : va_W) (o : Nat) (A : Nat → Prop) (f : Nat → Int64) (st : gSt) (hD : va_D A ((X ++ [lA cl o f]) ++ gW L cy st)) (p0 : Int32) (r : Int32) (st' : gSt) (hM : gMi l yX6_stepOf wsX6_stepOf { frames := 1, cells := 0, slots := 0, locals := 21 } D L cy (X ++ [lA cl o f]) A [.ref (L 0), .int p0] st r st') : hMt l yL_stepOf wsL_stepOf { frames := 2, cells := 0, slots := 0, locals := 51 } D L cy cl X o A f st [.ref (L 0), .int p0, .ref o] 0 (vp_updL f 0 r.toInt64) 0 0 := by
  refine h_entry hD (cc := cL_stepOf) (maxL := 4) (hh := [(0, 9, 12, 19)]) (by decide +kernel) rfl (Nat.le_of_ble_eq_true rfl) ?_
  intro p e s m args below meth c ls B
  obtain ⟨S, hr, hlocks, htab, h, hl⟩ := B
  have hx := S.1
  have hb := S.2.1
  have hts := S.2.2.2.2
  have hl : lv_has ls 4 [(0, .ref (L 0)), (1, .int p0), (2, .ref o)] := hl
  refine lv_aload_n hx hb dL_stepOf_0 rfl (lv_at hl 2 rfl) ?_
  refine lv_iconst (v := 0) hx hb dL_stepOf_1 (by decide) ?_
  refine lv_aload_n hx hb dL_stepOf_2 rfl (lv_at hl 0 rfl) ?_
  refine lv_iload_n hx hb dL_stepOf_3 rfl (lv_at hl 1 rfl) ?_
  refine g_calli S h.1.1 hM (cwV 1 hts gL_stepOf_X6_stepOf rfl rfl rfl (by decide +kernel) ⟨Nat.le_of_ble_eq_true rfl, Nat.le_of_ble_eq_true rfl⟩) (g_pre h.1.1 gk_c0 (by decide) rfl rfl _) rfl hl.1 rfl (Nat.le_of_ble_eq_true rfl) dL_stepOf_4 ⟨Nat.zero_le _, Nat.zero_le _⟩ (fun H locs h1 => ?_)
  refine lv_i2l (v := r.toInt64) hx hb dL_stepOf_7 rfl ?_
  refine h_put hx hb h.2.1 h1 dL_stepOf_8 (fun H1 locs1 hP1 hS1 => ?_)
  refine lv_goto (tgt := 15) hx hb dL_stepOf_9 (by decide) ?_
  refine lv_iconst (v := 0) hx hb dL_stepOf_15 (by decide) ?_
  exact h_ret hx hb hr hlocks hP1 hS1 rfl dL_stepOf_16
set_option maxHeartbeats 4000000 in
set_option maxRecDepth 100000 in
theorem h_stepOf_x1 (l : Launch) (D : va_G) (L : Nat → Nat) (cy : Nat → ClassId) (cl : ClassId) (X : va_W) (o : Nat) (A : Nat → Prop) (f : Nat → Int64) (st : gSt) (hD : va_D A ((X ++ [lA cl o f]) ++ gW L cy st)) (p0 : Int32) (hM : xMi l yX6_stepOf wsX6_stepOf { frames := 10, cells := 1, slots := 6, locals := 300 } D L cy (X ++ [lA cl o f]) A [.ref (L 0), .int p0] st xIO) : hMt l yL_stepOf wsL_stepOf { frames := 11, cells := 1, slots := 6, locals := 330 } D L cy cl X o A f st [.ref (L 0), .int p0, .ref o] 1 f 1 6 := by
  refine h_entry hD (cc := cL_stepOf) (maxL := 4) (hh := [(0, 9, 12, 19)]) (by decide +kernel) rfl (Nat.le_of_ble_eq_true rfl) ?_
  intro p e s m args below meth c ls B
  obtain ⟨S, hr, hlocks, htab, h, hl⟩ := B
  have hx := S.1
  have hb := S.2.1
  have hts := S.2.2.2.2
  have hl : lv_has ls 4 [(0, .ref (L 0)), (1, .int p0), (2, .ref o)] := hl
  refine lv_aload_n hx hb dL_stepOf_0 rfl (lv_at hl 2 rfl) ?_
  refine lv_iconst (v := 0) hx hb dL_stepOf_1 (by decide) ?_
  refine lv_aload_n hx hb dL_stepOf_2 rfl (lv_at hl 0 rfl) ?_
  refine lv_iload_n hx hb dL_stepOf_3 rfl (lv_at hl 1 rfl) ?_
  refine h_callx S h.1 hM (cwV 1 hts gL_stepOf_X6_stepOf rfl rfl rfl (by decide +kernel) ⟨Nat.le_of_ble_eq_true rfl, Nat.le_of_ble_eq_true rfl⟩) (x_pre h.1 gk_c0 (by decide) rfl rfl _) rfl hl.1 rfl (Nat.le_of_ble_eq_true rfl) dL_stepOf_4 ⟨Nat.le_of_ble_eq_true rfl, Nat.le_of_ble_eq_true rfl⟩ [] ⟨0, 9, 12, 19⟩ [] htab (fun z hz => absurd hz List.not_mem_nil) (by decide) (by decide) (hts (Cond.classLink RL 19 xIO) (by decide +kernel)) (by decide +kernel) (fun q H1 locs1 hP1 hS1 => ?_)
  refine lv_astore_n (lv' := [(3, .ref q), (0, .ref (L 0)), (1, .int p0), (2, .ref o)]) hx hb dL_stepOf_12 rfl hl (by decide) rfl (fun ls hl => ?_)
  refine lv_iconst (v := 1) hx hb dL_stepOf_13 (by decide) ?_
  exact h_ret hx hb hr hlocks (h_front hP1) hS1 rfl dL_stepOf_14
set_option maxHeartbeats 4000000 in
set_option maxRecDepth 100000 in
theorem h_parentOf (l : Launch) (D : va_G) (L : Nat → Nat) (cy : Nat → ClassId) (cl : ClassId) (X : va_W) (o : Nat) (A : Nat → Prop) (f : Nat → Int64) (st : gSt) (hD : va_D A ((X ++ [lA cl o f]) ++ gW L cy st)) (p0 : Int32) (r : Int32) (st' : gSt) (hM : gMi l yX6_parentOf wsX6_parentOf { frames := 1, cells := 0, slots := 0, locals := 21 } D L cy (X ++ [lA cl o f]) A [.ref (L 0), .int p0] st r st') : hMt l yL_parentOf wsL_parentOf { frames := 2, cells := 0, slots := 0, locals := 51 } D L cy cl X o A f st [.ref (L 0), .int p0, .ref o] 0 (vp_updL f 0 r.toInt64) 0 0 := by
  refine h_entry hD (cc := cL_parentOf) (maxL := 4) (hh := [(0, 9, 12, 19)]) (by decide +kernel) rfl (Nat.le_of_ble_eq_true rfl) ?_
  intro p e s m args below meth c ls B
  obtain ⟨S, hr, hlocks, htab, h, hl⟩ := B
  have hx := S.1
  have hb := S.2.1
  have hts := S.2.2.2.2
  have hl : lv_has ls 4 [(0, .ref (L 0)), (1, .int p0), (2, .ref o)] := hl
  refine lv_aload_n hx hb dL_parentOf_0 rfl (lv_at hl 2 rfl) ?_
  refine lv_iconst (v := 0) hx hb dL_parentOf_1 (by decide) ?_
  refine lv_aload_n hx hb dL_parentOf_2 rfl (lv_at hl 0 rfl) ?_
  refine lv_iload_n hx hb dL_parentOf_3 rfl (lv_at hl 1 rfl) ?_
  refine g_calli S h.1.1 hM (cwV 1 hts gL_parentOf_X6_parentOf rfl rfl rfl (by decide +kernel) ⟨Nat.le_of_ble_eq_true rfl, Nat.le_of_ble_eq_true rfl⟩) (g_pre h.1.1 gk_c0 (by decide) rfl rfl _) rfl hl.1 rfl (Nat.le_of_ble_eq_true rfl) dL_parentOf_4 ⟨Nat.zero_le _, Nat.zero_le _⟩ (fun H locs h1 => ?_)
  refine lv_i2l (v := r.toInt64) hx hb dL_parentOf_7 rfl ?_
  refine h_put hx hb h.2.1 h1 dL_parentOf_8 (fun H1 locs1 hP1 hS1 => ?_)
  refine lv_goto (tgt := 15) hx hb dL_parentOf_9 (by decide) ?_
  refine lv_iconst (v := 0) hx hb dL_parentOf_15 (by decide) ?_
  exact h_ret hx hb hr hlocks hP1 hS1 rfl dL_parentOf_16
set_option maxHeartbeats 4000000 in
set_option maxRecDepth 100000 in
theorem h_parentOf_x1 (l : Launch) (D : va_G) (L : Nat → Nat) (cy : Nat → ClassId) (cl : ClassId) (X : va_W) (o : Nat) (A : Nat → Prop) (f : Nat → Int64) (st : gSt) (hD : va_D A ((X ++ [lA cl o f]) ++ gW L cy st)) (p0 : Int32) (hM : xMi l yX6_parentOf wsX6_parentOf { frames := 10, cells := 1, slots := 6, locals := 300 } D L cy (X ++ [lA cl o f]) A [.ref (L 0), .int p0] st xIO) : hMt l yL_parentOf wsL_parentOf { frames := 11, cells := 1, slots := 6, locals := 330 } D L cy cl X o A f st [.ref (L 0), .int p0, .ref o] 1 f 1 6 := by
  refine h_entry hD (cc := cL_parentOf) (maxL := 4) (hh := [(0, 9, 12, 19)]) (by decide +kernel) rfl (Nat.le_of_ble_eq_true rfl) ?_
  intro p e s m args below meth c ls B
  obtain ⟨S, hr, hlocks, htab, h, hl⟩ := B
  have hx := S.1
  have hb := S.2.1
  have hts := S.2.2.2.2
  have hl : lv_has ls 4 [(0, .ref (L 0)), (1, .int p0), (2, .ref o)] := hl
  refine lv_aload_n hx hb dL_parentOf_0 rfl (lv_at hl 2 rfl) ?_
  refine lv_iconst (v := 0) hx hb dL_parentOf_1 (by decide) ?_
  refine lv_aload_n hx hb dL_parentOf_2 rfl (lv_at hl 0 rfl) ?_
  refine lv_iload_n hx hb dL_parentOf_3 rfl (lv_at hl 1 rfl) ?_
  refine h_callx S h.1 hM (cwV 1 hts gL_parentOf_X6_parentOf rfl rfl rfl (by decide +kernel) ⟨Nat.le_of_ble_eq_true rfl, Nat.le_of_ble_eq_true rfl⟩) (x_pre h.1 gk_c0 (by decide) rfl rfl _) rfl hl.1 rfl (Nat.le_of_ble_eq_true rfl) dL_parentOf_4 ⟨Nat.le_of_ble_eq_true rfl, Nat.le_of_ble_eq_true rfl⟩ [] ⟨0, 9, 12, 19⟩ [] htab (fun z hz => absurd hz List.not_mem_nil) (by decide) (by decide) (hts (Cond.classLink RL 19 xIO) (by decide +kernel)) (by decide +kernel) (fun q H1 locs1 hP1 hS1 => ?_)
  refine lv_astore_n (lv' := [(3, .ref q), (0, .ref (L 0)), (1, .int p0), (2, .ref o)]) hx hb dL_parentOf_12 rfl hl (by decide) rfl (fun ls hl => ?_)
  refine lv_iconst (v := 1) hx hb dL_parentOf_13 (by decide) ?_
  exact h_ret hx hb hr hlocks (h_front hP1) hS1 rfl dL_parentOf_14
set_option maxHeartbeats 4000000 in
set_option maxRecDepth 100000 in
theorem h_childrenOf (l : Launch) (D : va_G) (L : Nat → Nat) (cy : Nat → ClassId) (cl : ClassId) (X : va_W) (o : Nat) (A : Nat → Prop) (f : Nat → Int64) (st : gSt) (hD : va_D A ((X ++ [lA cl o f]) ++ gW L cy st)) (p0 : Int32) (r : Int32) (st' : gSt) (hM : gMi l yX6_childrenOf wsX6_childrenOf { frames := 1, cells := 0, slots := 0, locals := 21 } D L cy (X ++ [lA cl o f]) A [.ref (L 0), .int p0] st r st') : hMt l yL_childrenOf wsL_childrenOf { frames := 2, cells := 0, slots := 0, locals := 51 } D L cy cl X o A f st [.ref (L 0), .int p0, .ref o] 0 (vp_updL f 0 r.toInt64) 0 0 := by
  refine h_entry hD (cc := cL_childrenOf) (maxL := 4) (hh := [(0, 9, 12, 19)]) (by decide +kernel) rfl (Nat.le_of_ble_eq_true rfl) ?_
  intro p e s m args below meth c ls B
  obtain ⟨S, hr, hlocks, htab, h, hl⟩ := B
  have hx := S.1
  have hb := S.2.1
  have hts := S.2.2.2.2
  have hl : lv_has ls 4 [(0, .ref (L 0)), (1, .int p0), (2, .ref o)] := hl
  refine lv_aload_n hx hb dL_childrenOf_0 rfl (lv_at hl 2 rfl) ?_
  refine lv_iconst (v := 0) hx hb dL_childrenOf_1 (by decide) ?_
  refine lv_aload_n hx hb dL_childrenOf_2 rfl (lv_at hl 0 rfl) ?_
  refine lv_iload_n hx hb dL_childrenOf_3 rfl (lv_at hl 1 rfl) ?_
  refine g_calli S h.1.1 hM (cwV 1 hts gL_childrenOf_X6_childrenOf rfl rfl rfl (by decide +kernel) ⟨Nat.le_of_ble_eq_true rfl, Nat.le_of_ble_eq_true rfl⟩) (g_pre h.1.1 gk_c0 (by decide) rfl rfl _) rfl hl.1 rfl (Nat.le_of_ble_eq_true rfl) dL_childrenOf_4 ⟨Nat.zero_le _, Nat.zero_le _⟩ (fun H locs h1 => ?_)
  refine lv_i2l (v := r.toInt64) hx hb dL_childrenOf_7 rfl ?_
  refine h_put hx hb h.2.1 h1 dL_childrenOf_8 (fun H1 locs1 hP1 hS1 => ?_)
  refine lv_goto (tgt := 15) hx hb dL_childrenOf_9 (by decide) ?_
  refine lv_iconst (v := 0) hx hb dL_childrenOf_15 (by decide) ?_
  exact h_ret hx hb hr hlocks hP1 hS1 rfl dL_childrenOf_16
set_option maxHeartbeats 4000000 in
set_option maxRecDepth 100000 in
theorem h_childrenOf_x1 (l : Launch) (D : va_G) (L : Nat → Nat) (cy : Nat → ClassId) (cl : ClassId) (X : va_W) (o : Nat) (A : Nat → Prop) (f : Nat → Int64) (st : gSt) (hD : va_D A ((X ++ [lA cl o f]) ++ gW L cy st)) (p0 : Int32) (hM : xMi l yX6_childrenOf wsX6_childrenOf { frames := 10, cells := 1, slots := 6, locals := 300 } D L cy (X ++ [lA cl o f]) A [.ref (L 0), .int p0] st xIO) : hMt l yL_childrenOf wsL_childrenOf { frames := 11, cells := 1, slots := 6, locals := 330 } D L cy cl X o A f st [.ref (L 0), .int p0, .ref o] 1 f 1 6 := by
  refine h_entry hD (cc := cL_childrenOf) (maxL := 4) (hh := [(0, 9, 12, 19)]) (by decide +kernel) rfl (Nat.le_of_ble_eq_true rfl) ?_
  intro p e s m args below meth c ls B
  obtain ⟨S, hr, hlocks, htab, h, hl⟩ := B
  have hx := S.1
  have hb := S.2.1
  have hts := S.2.2.2.2
  have hl : lv_has ls 4 [(0, .ref (L 0)), (1, .int p0), (2, .ref o)] := hl
  refine lv_aload_n hx hb dL_childrenOf_0 rfl (lv_at hl 2 rfl) ?_
  refine lv_iconst (v := 0) hx hb dL_childrenOf_1 (by decide) ?_
  refine lv_aload_n hx hb dL_childrenOf_2 rfl (lv_at hl 0 rfl) ?_
  refine lv_iload_n hx hb dL_childrenOf_3 rfl (lv_at hl 1 rfl) ?_
  refine h_callx S h.1 hM (cwV 1 hts gL_childrenOf_X6_childrenOf rfl rfl rfl (by decide +kernel) ⟨Nat.le_of_ble_eq_true rfl, Nat.le_of_ble_eq_true rfl⟩) (x_pre h.1 gk_c0 (by decide) rfl rfl _) rfl hl.1 rfl (Nat.le_of_ble_eq_true rfl) dL_childrenOf_4 ⟨Nat.le_of_ble_eq_true rfl, Nat.le_of_ble_eq_true rfl⟩ [] ⟨0, 9, 12, 19⟩ [] htab (fun z hz => absurd hz List.not_mem_nil) (by decide) (by decide) (hts (Cond.classLink RL 19 xIO) (by decide +kernel)) (by decide +kernel) (fun q H1 locs1 hP1 hS1 => ?_)
  refine lv_astore_n (lv' := [(3, .ref q), (0, .ref (L 0)), (1, .int p0), (2, .ref o)]) hx hb dL_childrenOf_12 rfl hl (by decide) rfl (fun ls hl => ?_)
  refine lv_iconst (v := 1) hx hb dL_childrenOf_13 (by decide) ?_
  exact h_ret hx hb hr hlocks (h_front hP1) hS1 rfl dL_childrenOf_14
set_option maxHeartbeats 4000000 in
set_option maxRecDepth 100000 in
theorem h_workOf (l : Launch) (D : va_G) (L : Nat → Nat) (cy : Nat → ClassId) (cl : ClassId) (X : va_W) (o : Nat) (A : Nat → Prop) (f : Nat → Int64) (st : gSt) (hD : va_D A ((X ++ [lA cl o f]) ++ gW L cy st)) (p0 : Int32) (r : Int32) (st' : gSt) (hM : gMi l yX6_workOf wsX6_workOf { frames := 2, cells := 0, slots := 0, locals := 46 } D L cy (X ++ [lA cl o f]) A [.ref (L 0), .int p0] st r st') : hMt l yL_workOf wsL_workOf { frames := 3, cells := 0, slots := 0, locals := 76 } D L cy cl X o A f st [.ref (L 0), .int p0, .ref o] 0 (vp_updL f 0 r.toInt64) 0 0 := by
  refine h_entry hD (cc := cL_workOf) (maxL := 4) (hh := [(0, 9, 12, 19)]) (by decide +kernel) rfl (Nat.le_of_ble_eq_true rfl) ?_
  intro p e s m args below meth c ls B
  obtain ⟨S, hr, hlocks, htab, h, hl⟩ := B
  have hx := S.1
  have hb := S.2.1
  have hts := S.2.2.2.2
  have hl : lv_has ls 4 [(0, .ref (L 0)), (1, .int p0), (2, .ref o)] := hl
  refine lv_aload_n hx hb dL_workOf_0 rfl (lv_at hl 2 rfl) ?_
  refine lv_iconst (v := 0) hx hb dL_workOf_1 (by decide) ?_
  refine lv_aload_n hx hb dL_workOf_2 rfl (lv_at hl 0 rfl) ?_
  refine lv_iload_n hx hb dL_workOf_3 rfl (lv_at hl 1 rfl) ?_
  refine g_calli S h.1.1 hM (cwV 1 hts gL_workOf_X6_workOf rfl rfl rfl (by decide +kernel) ⟨Nat.le_of_ble_eq_true rfl, Nat.le_of_ble_eq_true rfl⟩) (g_pre h.1.1 gk_c0 (by decide) rfl rfl _) rfl hl.1 rfl (Nat.le_of_ble_eq_true rfl) dL_workOf_4 ⟨Nat.zero_le _, Nat.zero_le _⟩ (fun H locs h1 => ?_)
  refine lv_i2l (v := r.toInt64) hx hb dL_workOf_7 rfl ?_
  refine h_put hx hb h.2.1 h1 dL_workOf_8 (fun H1 locs1 hP1 hS1 => ?_)
  refine lv_goto (tgt := 15) hx hb dL_workOf_9 (by decide) ?_
  refine lv_iconst (v := 0) hx hb dL_workOf_15 (by decide) ?_
  exact h_ret hx hb hr hlocks hP1 hS1 rfl dL_workOf_16
set_option maxHeartbeats 4000000 in
set_option maxRecDepth 100000 in
theorem h_workOf_x1 (l : Launch) (D : va_G) (L : Nat → Nat) (cy : Nat → ClassId) (cl : ClassId) (X : va_W) (o : Nat) (A : Nat → Prop) (f : Nat → Int64) (st : gSt) (hD : va_D A ((X ++ [lA cl o f]) ++ gW L cy st)) (p0 : Int32) (hM : xMi l yX6_workOf wsX6_workOf { frames := 10, cells := 1, slots := 6, locals := 300 } D L cy (X ++ [lA cl o f]) A [.ref (L 0), .int p0] st xIO) : hMt l yL_workOf wsL_workOf { frames := 11, cells := 1, slots := 6, locals := 330 } D L cy cl X o A f st [.ref (L 0), .int p0, .ref o] 1 f 1 6 := by
  refine h_entry hD (cc := cL_workOf) (maxL := 4) (hh := [(0, 9, 12, 19)]) (by decide +kernel) rfl (Nat.le_of_ble_eq_true rfl) ?_
  intro p e s m args below meth c ls B
  obtain ⟨S, hr, hlocks, htab, h, hl⟩ := B
  have hx := S.1
  have hb := S.2.1
  have hts := S.2.2.2.2
  have hl : lv_has ls 4 [(0, .ref (L 0)), (1, .int p0), (2, .ref o)] := hl
  refine lv_aload_n hx hb dL_workOf_0 rfl (lv_at hl 2 rfl) ?_
  refine lv_iconst (v := 0) hx hb dL_workOf_1 (by decide) ?_
  refine lv_aload_n hx hb dL_workOf_2 rfl (lv_at hl 0 rfl) ?_
  refine lv_iload_n hx hb dL_workOf_3 rfl (lv_at hl 1 rfl) ?_
  refine h_callx S h.1 hM (cwV 1 hts gL_workOf_X6_workOf rfl rfl rfl (by decide +kernel) ⟨Nat.le_of_ble_eq_true rfl, Nat.le_of_ble_eq_true rfl⟩) (x_pre h.1 gk_c0 (by decide) rfl rfl _) rfl hl.1 rfl (Nat.le_of_ble_eq_true rfl) dL_workOf_4 ⟨Nat.le_of_ble_eq_true rfl, Nat.le_of_ble_eq_true rfl⟩ [] ⟨0, 9, 12, 19⟩ [] htab (fun z hz => absurd hz List.not_mem_nil) (by decide) (by decide) (hts (Cond.classLink RL 19 xIO) (by decide +kernel)) (by decide +kernel) (fun q H1 locs1 hP1 hS1 => ?_)
  refine lv_astore_n (lv' := [(3, .ref q), (0, .ref (L 0)), (1, .int p0), (2, .ref o)]) hx hb dL_workOf_12 rfl hl (by decide) rfl (fun ls hl => ?_)
  refine lv_iconst (v := 1) hx hb dL_workOf_13 (by decide) ?_
  exact h_ret hx hb hr hlocks (h_front hP1) hS1 rfl dL_workOf_14
set_option maxHeartbeats 4000000 in
set_option maxRecDepth 100000 in
theorem h_overAt (l : Launch) (D : va_G) (L : Nat → Nat) (cy : Nat → ClassId) (cl : ClassId) (X : va_W) (o : Nat) (A : Nat → Prop) (f : Nat → Int64) (st : gSt) (hD : va_D A ((X ++ [lA cl o f]) ++ gW L cy st)) (p0 : Int32) (r : Int32) (st' : gSt) (hM : gMi l yX6_overAt wsX6_overAt { frames := 1, cells := 0, slots := 0, locals := 21 } D L cy (X ++ [lA cl o f]) A [.ref (L 0), .int p0] st r st') : hMt l yL_overAt wsL_overAt { frames := 2, cells := 0, slots := 0, locals := 51 } D L cy cl X o A f st [.ref (L 0), .int p0, .ref o] 0 (vp_updL f 0 r.toInt64) 0 0 := by
  refine h_entry hD (cc := cL_overAt) (maxL := 4) (hh := [(0, 9, 12, 19)]) (by decide +kernel) rfl (Nat.le_of_ble_eq_true rfl) ?_
  intro p e s m args below meth c ls B
  obtain ⟨S, hr, hlocks, htab, h, hl⟩ := B
  have hx := S.1
  have hb := S.2.1
  have hts := S.2.2.2.2
  have hl : lv_has ls 4 [(0, .ref (L 0)), (1, .int p0), (2, .ref o)] := hl
  refine lv_aload_n hx hb dL_overAt_0 rfl (lv_at hl 2 rfl) ?_
  refine lv_iconst (v := 0) hx hb dL_overAt_1 (by decide) ?_
  refine lv_aload_n hx hb dL_overAt_2 rfl (lv_at hl 0 rfl) ?_
  refine lv_iload_n hx hb dL_overAt_3 rfl (lv_at hl 1 rfl) ?_
  refine g_calli S h.1.1 hM (cwV 1 hts gL_overAt_X6_overAt rfl rfl rfl (by decide +kernel) ⟨Nat.le_of_ble_eq_true rfl, Nat.le_of_ble_eq_true rfl⟩) (g_pre h.1.1 gk_c0 (by decide) rfl rfl _) rfl hl.1 rfl (Nat.le_of_ble_eq_true rfl) dL_overAt_4 ⟨Nat.zero_le _, Nat.zero_le _⟩ (fun H locs h1 => ?_)
  refine lv_i2l (v := r.toInt64) hx hb dL_overAt_7 rfl ?_
  refine h_put hx hb h.2.1 h1 dL_overAt_8 (fun H1 locs1 hP1 hS1 => ?_)
  refine lv_goto (tgt := 15) hx hb dL_overAt_9 (by decide) ?_
  refine lv_iconst (v := 0) hx hb dL_overAt_15 (by decide) ?_
  exact h_ret hx hb hr hlocks hP1 hS1 rfl dL_overAt_16
set_option maxHeartbeats 4000000 in
set_option maxRecDepth 100000 in
theorem h_overAt_x1 (l : Launch) (D : va_G) (L : Nat → Nat) (cy : Nat → ClassId) (cl : ClassId) (X : va_W) (o : Nat) (A : Nat → Prop) (f : Nat → Int64) (st : gSt) (hD : va_D A ((X ++ [lA cl o f]) ++ gW L cy st)) (p0 : Int32) (hM : xMi l yX6_overAt wsX6_overAt { frames := 10, cells := 1, slots := 6, locals := 300 } D L cy (X ++ [lA cl o f]) A [.ref (L 0), .int p0] st xIO) : hMt l yL_overAt wsL_overAt { frames := 11, cells := 1, slots := 6, locals := 330 } D L cy cl X o A f st [.ref (L 0), .int p0, .ref o] 1 f 1 6 := by
  refine h_entry hD (cc := cL_overAt) (maxL := 4) (hh := [(0, 9, 12, 19)]) (by decide +kernel) rfl (Nat.le_of_ble_eq_true rfl) ?_
  intro p e s m args below meth c ls B
  obtain ⟨S, hr, hlocks, htab, h, hl⟩ := B
  have hx := S.1
  have hb := S.2.1
  have hts := S.2.2.2.2
  have hl : lv_has ls 4 [(0, .ref (L 0)), (1, .int p0), (2, .ref o)] := hl
  refine lv_aload_n hx hb dL_overAt_0 rfl (lv_at hl 2 rfl) ?_
  refine lv_iconst (v := 0) hx hb dL_overAt_1 (by decide) ?_
  refine lv_aload_n hx hb dL_overAt_2 rfl (lv_at hl 0 rfl) ?_
  refine lv_iload_n hx hb dL_overAt_3 rfl (lv_at hl 1 rfl) ?_
  refine h_callx S h.1 hM (cwV 1 hts gL_overAt_X6_overAt rfl rfl rfl (by decide +kernel) ⟨Nat.le_of_ble_eq_true rfl, Nat.le_of_ble_eq_true rfl⟩) (x_pre h.1 gk_c0 (by decide) rfl rfl _) rfl hl.1 rfl (Nat.le_of_ble_eq_true rfl) dL_overAt_4 ⟨Nat.le_of_ble_eq_true rfl, Nat.le_of_ble_eq_true rfl⟩ [] ⟨0, 9, 12, 19⟩ [] htab (fun z hz => absurd hz List.not_mem_nil) (by decide) (by decide) (hts (Cond.classLink RL 19 xIO) (by decide +kernel)) (by decide +kernel) (fun q H1 locs1 hP1 hS1 => ?_)
  refine lv_astore_n (lv' := [(3, .ref q), (0, .ref (L 0)), (1, .int p0), (2, .ref o)]) hx hb dL_overAt_12 rfl hl (by decide) rfl (fun ls hl => ?_)
  refine lv_iconst (v := 1) hx hb dL_overAt_13 (by decide) ?_
  exact h_ret hx hb hr hlocks (h_front hP1) hS1 rfl dL_overAt_14
set_option maxHeartbeats 4000000 in
set_option maxRecDepth 100000 in
theorem h_promise (l : Launch) (D : va_G) (L : Nat → Nat) (cy : Nat → ClassId) (cl : ClassId) (X : va_W) (o : Nat) (A : Nat → Prop) (f : Nat → Int64) (st : gSt) (hD : va_D A ((X ++ [lA cl o f]) ++ gW L cy st)) (p0 : Int32) (r : Int32) (st' : gSt) (hM : gMi l yX6_promise wsX6_promise { frames := 2, cells := 0, slots := 0, locals := 40 } D L cy (X ++ [lA cl o f]) A [.ref (L 0), .int p0] st r st') : hMt l yL_promise wsL_promise { frames := 3, cells := 0, slots := 0, locals := 70 } D L cy cl X o A f st [.ref (L 0), .int p0, .ref o] 0 (vp_updL f 0 r.toInt64) 0 0 := by
  refine h_entry hD (cc := cL_promise) (maxL := 4) (hh := [(0, 9, 12, 19)]) (by decide +kernel) rfl (Nat.le_of_ble_eq_true rfl) ?_
  intro p e s m args below meth c ls B
  obtain ⟨S, hr, hlocks, htab, h, hl⟩ := B
  have hx := S.1
  have hb := S.2.1
  have hts := S.2.2.2.2
  have hl : lv_has ls 4 [(0, .ref (L 0)), (1, .int p0), (2, .ref o)] := hl
  refine lv_aload_n hx hb dL_promise_0 rfl (lv_at hl 2 rfl) ?_
  refine lv_iconst (v := 0) hx hb dL_promise_1 (by decide) ?_
  refine lv_aload_n hx hb dL_promise_2 rfl (lv_at hl 0 rfl) ?_
  refine lv_iload_n hx hb dL_promise_3 rfl (lv_at hl 1 rfl) ?_
  refine g_calli S h.1.1 hM (cwV 1 hts gL_promise_X6_promise rfl rfl rfl (by decide +kernel) ⟨Nat.le_of_ble_eq_true rfl, Nat.le_of_ble_eq_true rfl⟩) (g_pre h.1.1 gk_c0 (by decide) rfl rfl _) rfl hl.1 rfl (Nat.le_of_ble_eq_true rfl) dL_promise_4 ⟨Nat.zero_le _, Nat.zero_le _⟩ (fun H locs h1 => ?_)
  refine lv_i2l (v := r.toInt64) hx hb dL_promise_7 rfl ?_
  refine h_put hx hb h.2.1 h1 dL_promise_8 (fun H1 locs1 hP1 hS1 => ?_)
  refine lv_goto (tgt := 15) hx hb dL_promise_9 (by decide) ?_
  refine lv_iconst (v := 0) hx hb dL_promise_15 (by decide) ?_
  exact h_ret hx hb hr hlocks hP1 hS1 rfl dL_promise_16
set_option maxHeartbeats 4000000 in
set_option maxRecDepth 100000 in
theorem h_promise_x1 (l : Launch) (D : va_G) (L : Nat → Nat) (cy : Nat → ClassId) (cl : ClassId) (X : va_W) (o : Nat) (A : Nat → Prop) (f : Nat → Int64) (st : gSt) (hD : va_D A ((X ++ [lA cl o f]) ++ gW L cy st)) (p0 : Int32) (hM : xMi l yX6_promise wsX6_promise { frames := 10, cells := 1, slots := 6, locals := 300 } D L cy (X ++ [lA cl o f]) A [.ref (L 0), .int p0] st xIO) : hMt l yL_promise wsL_promise { frames := 11, cells := 1, slots := 6, locals := 330 } D L cy cl X o A f st [.ref (L 0), .int p0, .ref o] 1 f 1 6 := by
  refine h_entry hD (cc := cL_promise) (maxL := 4) (hh := [(0, 9, 12, 19)]) (by decide +kernel) rfl (Nat.le_of_ble_eq_true rfl) ?_
  intro p e s m args below meth c ls B
  obtain ⟨S, hr, hlocks, htab, h, hl⟩ := B
  have hx := S.1
  have hb := S.2.1
  have hts := S.2.2.2.2
  have hl : lv_has ls 4 [(0, .ref (L 0)), (1, .int p0), (2, .ref o)] := hl
  refine lv_aload_n hx hb dL_promise_0 rfl (lv_at hl 2 rfl) ?_
  refine lv_iconst (v := 0) hx hb dL_promise_1 (by decide) ?_
  refine lv_aload_n hx hb dL_promise_2 rfl (lv_at hl 0 rfl) ?_
  refine lv_iload_n hx hb dL_promise_3 rfl (lv_at hl 1 rfl) ?_
  refine h_callx S h.1 hM (cwV 1 hts gL_promise_X6_promise rfl rfl rfl (by decide +kernel) ⟨Nat.le_of_ble_eq_true rfl, Nat.le_of_ble_eq_true rfl⟩) (x_pre h.1 gk_c0 (by decide) rfl rfl _) rfl hl.1 rfl (Nat.le_of_ble_eq_true rfl) dL_promise_4 ⟨Nat.le_of_ble_eq_true rfl, Nat.le_of_ble_eq_true rfl⟩ [] ⟨0, 9, 12, 19⟩ [] htab (fun z hz => absurd hz List.not_mem_nil) (by decide) (by decide) (hts (Cond.classLink RL 19 xIO) (by decide +kernel)) (by decide +kernel) (fun q H1 locs1 hP1 hS1 => ?_)
  refine lv_astore_n (lv' := [(3, .ref q), (0, .ref (L 0)), (1, .int p0), (2, .ref o)]) hx hb dL_promise_12 rfl hl (by decide) rfl (fun ls hl => ?_)
  refine lv_iconst (v := 1) hx hb dL_promise_13 (by decide) ?_
  exact h_ret hx hb hr hlocks (h_front hP1) hS1 rfl dL_promise_14
set_option maxHeartbeats 4000000 in
set_option maxRecDepth 100000 in
theorem h_top (l : Launch) (D : va_G) (L : Nat → Nat) (cy : Nat → ClassId) (cl : ClassId) (X : va_W) (o : Nat) (A : Nat → Prop) (f : Nat → Int64) (st : gSt) (hD : va_D A ((X ++ [lA cl o f]) ++ gW L cy st)) (p0 : Int32) (r : Int32) (st' : gSt) (hM : gMi l yX6_top wsX6_top { frames := 2, cells := 0, slots := 0, locals := 41 } D L cy (X ++ [lA cl o f]) A [.ref (L 0), .int p0] st r st') : hMt l yL_top wsL_top { frames := 3, cells := 0, slots := 0, locals := 71 } D L cy cl X o A f st [.ref (L 0), .int p0, .ref o] 0 (vp_updL f 0 r.toInt64) 0 0 := by
  refine h_entry hD (cc := cL_top) (maxL := 4) (hh := [(0, 9, 12, 19)]) (by decide +kernel) rfl (Nat.le_of_ble_eq_true rfl) ?_
  intro p e s m args below meth c ls B
  obtain ⟨S, hr, hlocks, htab, h, hl⟩ := B
  have hx := S.1
  have hb := S.2.1
  have hts := S.2.2.2.2
  have hl : lv_has ls 4 [(0, .ref (L 0)), (1, .int p0), (2, .ref o)] := hl
  refine lv_aload_n hx hb dL_top_0 rfl (lv_at hl 2 rfl) ?_
  refine lv_iconst (v := 0) hx hb dL_top_1 (by decide) ?_
  refine lv_aload_n hx hb dL_top_2 rfl (lv_at hl 0 rfl) ?_
  refine lv_iload_n hx hb dL_top_3 rfl (lv_at hl 1 rfl) ?_
  refine g_calli S h.1.1 hM (cwV 1 hts gL_top_X6_top rfl rfl rfl (by decide +kernel) ⟨Nat.le_of_ble_eq_true rfl, Nat.le_of_ble_eq_true rfl⟩) (g_pre h.1.1 gk_c0 (by decide) rfl rfl _) rfl hl.1 rfl (Nat.le_of_ble_eq_true rfl) dL_top_4 ⟨Nat.zero_le _, Nat.zero_le _⟩ (fun H locs h1 => ?_)
  refine lv_i2l (v := r.toInt64) hx hb dL_top_7 rfl ?_
  refine h_put hx hb h.2.1 h1 dL_top_8 (fun H1 locs1 hP1 hS1 => ?_)
  refine lv_goto (tgt := 15) hx hb dL_top_9 (by decide) ?_
  refine lv_iconst (v := 0) hx hb dL_top_15 (by decide) ?_
  exact h_ret hx hb hr hlocks hP1 hS1 rfl dL_top_16
set_option maxHeartbeats 4000000 in
set_option maxRecDepth 100000 in
theorem h_top_x1 (l : Launch) (D : va_G) (L : Nat → Nat) (cy : Nat → ClassId) (cl : ClassId) (X : va_W) (o : Nat) (A : Nat → Prop) (f : Nat → Int64) (st : gSt) (hD : va_D A ((X ++ [lA cl o f]) ++ gW L cy st)) (p0 : Int32) (hM : xMi l yX6_top wsX6_top { frames := 10, cells := 1, slots := 6, locals := 300 } D L cy (X ++ [lA cl o f]) A [.ref (L 0), .int p0] st xIO) : hMt l yL_top wsL_top { frames := 11, cells := 1, slots := 6, locals := 330 } D L cy cl X o A f st [.ref (L 0), .int p0, .ref o] 1 f 1 6 := by
  refine h_entry hD (cc := cL_top) (maxL := 4) (hh := [(0, 9, 12, 19)]) (by decide +kernel) rfl (Nat.le_of_ble_eq_true rfl) ?_
  intro p e s m args below meth c ls B
  obtain ⟨S, hr, hlocks, htab, h, hl⟩ := B
  have hx := S.1
  have hb := S.2.1
  have hts := S.2.2.2.2
  have hl : lv_has ls 4 [(0, .ref (L 0)), (1, .int p0), (2, .ref o)] := hl
  refine lv_aload_n hx hb dL_top_0 rfl (lv_at hl 2 rfl) ?_
  refine lv_iconst (v := 0) hx hb dL_top_1 (by decide) ?_
  refine lv_aload_n hx hb dL_top_2 rfl (lv_at hl 0 rfl) ?_
  refine lv_iload_n hx hb dL_top_3 rfl (lv_at hl 1 rfl) ?_
  refine h_callx S h.1 hM (cwV 1 hts gL_top_X6_top rfl rfl rfl (by decide +kernel) ⟨Nat.le_of_ble_eq_true rfl, Nat.le_of_ble_eq_true rfl⟩) (x_pre h.1 gk_c0 (by decide) rfl rfl _) rfl hl.1 rfl (Nat.le_of_ble_eq_true rfl) dL_top_4 ⟨Nat.le_of_ble_eq_true rfl, Nat.le_of_ble_eq_true rfl⟩ [] ⟨0, 9, 12, 19⟩ [] htab (fun z hz => absurd hz List.not_mem_nil) (by decide) (by decide) (hts (Cond.classLink RL 19 xIO) (by decide +kernel)) (by decide +kernel) (fun q H1 locs1 hP1 hS1 => ?_)
  refine lv_astore_n (lv' := [(3, .ref q), (0, .ref (L 0)), (1, .int p0), (2, .ref o)]) hx hb dL_top_12 rfl hl (by decide) rfl (fun ls hl => ?_)
  refine lv_iconst (v := 1) hx hb dL_top_13 (by decide) ?_
  exact h_ret hx hb hr hlocks (h_front hP1) hS1 rfl dL_top_14
set_option maxHeartbeats 4000000 in
set_option maxRecDepth 100000 in
theorem h_stack (l : Launch) (D : va_G) (L : Nat → Nat) (cy : Nat → ClassId) (cl : ClassId) (X : va_W) (o : Nat) (A : Nat → Prop) (f : Nat → Int64) (st : gSt) (hD : va_D A ((X ++ [lA cl o f]) ++ gW L cy st)) (p0 : Int32) (r : Int32) (st' : gSt) (hM : gMi l yX6_stack wsX6_stack { frames := 1, cells := 0, slots := 0, locals := 21 } D L cy (X ++ [lA cl o f]) A [.ref (L 0), .int p0] st r st') : hMt l yL_stack wsL_stack { frames := 2, cells := 0, slots := 0, locals := 51 } D L cy cl X o A f st [.ref (L 0), .int p0, .ref o] 0 (vp_updL f 0 r.toInt64) 0 0 := by
  refine h_entry hD (cc := cL_stack) (maxL := 4) (hh := [(0, 9, 12, 19)]) (by decide +kernel) rfl (Nat.le_of_ble_eq_true rfl) ?_
  intro p e s m args below meth c ls B
  obtain ⟨S, hr, hlocks, htab, h, hl⟩ := B
  have hx := S.1
  have hb := S.2.1
  have hts := S.2.2.2.2
  have hl : lv_has ls 4 [(0, .ref (L 0)), (1, .int p0), (2, .ref o)] := hl
  refine lv_aload_n hx hb dL_stack_0 rfl (lv_at hl 2 rfl) ?_
  refine lv_iconst (v := 0) hx hb dL_stack_1 (by decide) ?_
  refine lv_aload_n hx hb dL_stack_2 rfl (lv_at hl 0 rfl) ?_
  refine lv_iload_n hx hb dL_stack_3 rfl (lv_at hl 1 rfl) ?_
  refine g_calli S h.1.1 hM (cwV 1 hts gL_stack_X6_stack rfl rfl rfl (by decide +kernel) ⟨Nat.le_of_ble_eq_true rfl, Nat.le_of_ble_eq_true rfl⟩) (g_pre h.1.1 gk_c0 (by decide) rfl rfl _) rfl hl.1 rfl (Nat.le_of_ble_eq_true rfl) dL_stack_4 ⟨Nat.zero_le _, Nat.zero_le _⟩ (fun H locs h1 => ?_)
  refine lv_i2l (v := r.toInt64) hx hb dL_stack_7 rfl ?_
  refine h_put hx hb h.2.1 h1 dL_stack_8 (fun H1 locs1 hP1 hS1 => ?_)
  refine lv_goto (tgt := 15) hx hb dL_stack_9 (by decide) ?_
  refine lv_iconst (v := 0) hx hb dL_stack_15 (by decide) ?_
  exact h_ret hx hb hr hlocks hP1 hS1 rfl dL_stack_16
set_option maxHeartbeats 4000000 in
set_option maxRecDepth 100000 in
theorem h_stack_x1 (l : Launch) (D : va_G) (L : Nat → Nat) (cy : Nat → ClassId) (cl : ClassId) (X : va_W) (o : Nat) (A : Nat → Prop) (f : Nat → Int64) (st : gSt) (hD : va_D A ((X ++ [lA cl o f]) ++ gW L cy st)) (p0 : Int32) (hM : xMi l yX6_stack wsX6_stack { frames := 10, cells := 1, slots := 6, locals := 300 } D L cy (X ++ [lA cl o f]) A [.ref (L 0), .int p0] st xIO) : hMt l yL_stack wsL_stack { frames := 11, cells := 1, slots := 6, locals := 330 } D L cy cl X o A f st [.ref (L 0), .int p0, .ref o] 1 f 1 6 := by
  refine h_entry hD (cc := cL_stack) (maxL := 4) (hh := [(0, 9, 12, 19)]) (by decide +kernel) rfl (Nat.le_of_ble_eq_true rfl) ?_
  intro p e s m args below meth c ls B
  obtain ⟨S, hr, hlocks, htab, h, hl⟩ := B
  have hx := S.1
  have hb := S.2.1
  have hts := S.2.2.2.2
  have hl : lv_has ls 4 [(0, .ref (L 0)), (1, .int p0), (2, .ref o)] := hl
  refine lv_aload_n hx hb dL_stack_0 rfl (lv_at hl 2 rfl) ?_
  refine lv_iconst (v := 0) hx hb dL_stack_1 (by decide) ?_
  refine lv_aload_n hx hb dL_stack_2 rfl (lv_at hl 0 rfl) ?_
  refine lv_iload_n hx hb dL_stack_3 rfl (lv_at hl 1 rfl) ?_
  refine h_callx S h.1 hM (cwV 1 hts gL_stack_X6_stack rfl rfl rfl (by decide +kernel) ⟨Nat.le_of_ble_eq_true rfl, Nat.le_of_ble_eq_true rfl⟩) (x_pre h.1 gk_c0 (by decide) rfl rfl _) rfl hl.1 rfl (Nat.le_of_ble_eq_true rfl) dL_stack_4 ⟨Nat.le_of_ble_eq_true rfl, Nat.le_of_ble_eq_true rfl⟩ [] ⟨0, 9, 12, 19⟩ [] htab (fun z hz => absurd hz List.not_mem_nil) (by decide) (by decide) (hts (Cond.classLink RL 19 xIO) (by decide +kernel)) (by decide +kernel) (fun q H1 locs1 hP1 hS1 => ?_)
  refine lv_astore_n (lv' := [(3, .ref q), (0, .ref (L 0)), (1, .int p0), (2, .ref o)]) hx hb dL_stack_12 rfl hl (by decide) rfl (fun ls hl => ?_)
  refine lv_iconst (v := 1) hx hb dL_stack_13 (by decide) ?_
  exact h_ret hx hb hr hlocks (h_front hP1) hS1 rfl dL_stack_14
set_option maxHeartbeats 4000000 in
set_option maxRecDepth 100000 in
theorem h_row (l : Launch) (D : va_G) (L : Nat → Nat) (cy : Nat → ClassId) (cl : ClassId) (X : va_W) (o : Nat) (A : Nat → Prop) (f : Nat → Int64) (st : gSt) (hD : va_D A ((X ++ [lA cl o f]) ++ gW L cy st)) (p0 : Int32) (r : Int32) (st' : gSt) (hM : gMi l yX6_row wsX6_row { frames := 2, cells := 0, slots := 0, locals := 42 } D L cy (X ++ [lA cl o f]) A [.ref (L 0), .int p0] st r st') : hMt l yL_row wsL_row { frames := 3, cells := 0, slots := 0, locals := 72 } D L cy cl X o A f st [.ref (L 0), .int p0, .ref o] 0 (vp_updL f 0 r.toInt64) 0 0 := by
  refine h_entry hD (cc := cL_row) (maxL := 4) (hh := [(0, 9, 12, 19)]) (by decide +kernel) rfl (Nat.le_of_ble_eq_true rfl) ?_
  intro p e s m args below meth c ls B
  obtain ⟨S, hr, hlocks, htab, h, hl⟩ := B
  have hx := S.1
  have hb := S.2.1
  have hts := S.2.2.2.2
  have hl : lv_has ls 4 [(0, .ref (L 0)), (1, .int p0), (2, .ref o)] := hl
  refine lv_aload_n hx hb dL_row_0 rfl (lv_at hl 2 rfl) ?_
  refine lv_iconst (v := 0) hx hb dL_row_1 (by decide) ?_
  refine lv_aload_n hx hb dL_row_2 rfl (lv_at hl 0 rfl) ?_
  refine lv_iload_n hx hb dL_row_3 rfl (lv_at hl 1 rfl) ?_
  refine g_calli S h.1.1 hM (cwV 1 hts gL_row_X6_row rfl rfl rfl (by decide +kernel) ⟨Nat.le_of_ble_eq_true rfl, Nat.le_of_ble_eq_true rfl⟩) (g_pre h.1.1 gk_c0 (by decide) rfl rfl _) rfl hl.1 rfl (Nat.le_of_ble_eq_true rfl) dL_row_4 ⟨Nat.zero_le _, Nat.zero_le _⟩ (fun H locs h1 => ?_)
  refine lv_i2l (v := r.toInt64) hx hb dL_row_7 rfl ?_
  refine h_put hx hb h.2.1 h1 dL_row_8 (fun H1 locs1 hP1 hS1 => ?_)
  refine lv_goto (tgt := 15) hx hb dL_row_9 (by decide) ?_
  refine lv_iconst (v := 0) hx hb dL_row_15 (by decide) ?_
  exact h_ret hx hb hr hlocks hP1 hS1 rfl dL_row_16
set_option maxHeartbeats 4000000 in
set_option maxRecDepth 100000 in
theorem h_row_x1 (l : Launch) (D : va_G) (L : Nat → Nat) (cy : Nat → ClassId) (cl : ClassId) (X : va_W) (o : Nat) (A : Nat → Prop) (f : Nat → Int64) (st : gSt) (hD : va_D A ((X ++ [lA cl o f]) ++ gW L cy st)) (p0 : Int32) (hM : xMi l yX6_row wsX6_row { frames := 10, cells := 1, slots := 6, locals := 300 } D L cy (X ++ [lA cl o f]) A [.ref (L 0), .int p0] st xIO) : hMt l yL_row wsL_row { frames := 11, cells := 1, slots := 6, locals := 330 } D L cy cl X o A f st [.ref (L 0), .int p0, .ref o] 1 f 1 6 := by
  refine h_entry hD (cc := cL_row) (maxL := 4) (hh := [(0, 9, 12, 19)]) (by decide +kernel) rfl (Nat.le_of_ble_eq_true rfl) ?_
  intro p e s m args below meth c ls B
  obtain ⟨S, hr, hlocks, htab, h, hl⟩ := B
  have hx := S.1
  have hb := S.2.1
  have hts := S.2.2.2.2
  have hl : lv_has ls 4 [(0, .ref (L 0)), (1, .int p0), (2, .ref o)] := hl
  refine lv_aload_n hx hb dL_row_0 rfl (lv_at hl 2 rfl) ?_
  refine lv_iconst (v := 0) hx hb dL_row_1 (by decide) ?_
  refine lv_aload_n hx hb dL_row_2 rfl (lv_at hl 0 rfl) ?_
  refine lv_iload_n hx hb dL_row_3 rfl (lv_at hl 1 rfl) ?_
  refine h_callx S h.1 hM (cwV 1 hts gL_row_X6_row rfl rfl rfl (by decide +kernel) ⟨Nat.le_of_ble_eq_true rfl, Nat.le_of_ble_eq_true rfl⟩) (x_pre h.1 gk_c0 (by decide) rfl rfl _) rfl hl.1 rfl (Nat.le_of_ble_eq_true rfl) dL_row_4 ⟨Nat.le_of_ble_eq_true rfl, Nat.le_of_ble_eq_true rfl⟩ [] ⟨0, 9, 12, 19⟩ [] htab (fun z hz => absurd hz List.not_mem_nil) (by decide) (by decide) (hts (Cond.classLink RL 19 xIO) (by decide +kernel)) (by decide +kernel) (fun q H1 locs1 hP1 hS1 => ?_)
  refine lv_astore_n (lv' := [(3, .ref q), (0, .ref (L 0)), (1, .int p0), (2, .ref o)]) hx hb dL_row_12 rfl hl (by decide) rfl (fun ls hl => ?_)
  refine lv_iconst (v := 1) hx hb dL_row_13 (by decide) ?_
  exact h_ret hx hb hr hlocks (h_front hP1) hS1 rfl dL_row_14
set_option maxHeartbeats 4000000 in
set_option maxRecDepth 100000 in
theorem h_inRow (l : Launch) (D : va_G) (L : Nat → Nat) (cy : Nat → ClassId) (cl : ClassId) (X : va_W) (o : Nat) (A : Nat → Prop) (f : Nat → Int64) (st : gSt) (hD : va_D A ((X ++ [lA cl o f]) ++ gW L cy st)) (p0 : Int32) (p1 : Int32) (r : Int32) (st' : gSt) (hM : gMi l yX6_inRow wsX6_inRow { frames := 2, cells := 0, slots := 0, locals := 42 } D L cy (X ++ [lA cl o f]) A [.ref (L 0), .int p0, .int p1] st r st') : hMt l yL_inRow wsL_inRow { frames := 3, cells := 0, slots := 0, locals := 72 } D L cy cl X o A f st [.ref (L 0), .int p0, .int p1, .ref o] 0 (vp_updL f 0 r.toInt64) 0 0 := by
  refine h_entry hD (cc := cL_inRow) (maxL := 5) (hh := [(0, 10, 13, 19)]) (by decide +kernel) rfl (Nat.le_of_ble_eq_true rfl) ?_
  intro p e s m args below meth c ls B
  obtain ⟨S, hr, hlocks, htab, h, hl⟩ := B
  have hx := S.1
  have hb := S.2.1
  have hts := S.2.2.2.2
  have hl : lv_has ls 5 [(0, .ref (L 0)), (1, .int p0), (2, .int p1), (3, .ref o)] := hl
  refine lv_aload_n hx hb dL_inRow_0 rfl (lv_at hl 3 rfl) ?_
  refine lv_iconst (v := 0) hx hb dL_inRow_1 (by decide) ?_
  refine lv_aload_n hx hb dL_inRow_2 rfl (lv_at hl 0 rfl) ?_
  refine lv_iload_n hx hb dL_inRow_3 rfl (lv_at hl 1 rfl) ?_
  refine lv_iload_n hx hb dL_inRow_4 rfl (lv_at hl 2 rfl) ?_
  refine g_calli S h.1.1 hM (cwV 2 hts gL_inRow_X6_inRow rfl rfl rfl (by decide +kernel) ⟨Nat.le_of_ble_eq_true rfl, Nat.le_of_ble_eq_true rfl⟩) (g_pre h.1.1 gk_c0 (by decide) rfl rfl _) rfl hl.1 rfl (Nat.le_of_ble_eq_true rfl) dL_inRow_5 ⟨Nat.zero_le _, Nat.zero_le _⟩ (fun H locs h1 => ?_)
  refine lv_i2l (v := r.toInt64) hx hb dL_inRow_8 rfl ?_
  refine h_put hx hb h.2.1 h1 dL_inRow_9 (fun H1 locs1 hP1 hS1 => ?_)
  refine lv_goto (tgt := 17) hx hb dL_inRow_10 (by decide) ?_
  refine lv_iconst (v := 0) hx hb dL_inRow_17 (by decide) ?_
  exact h_ret hx hb hr hlocks hP1 hS1 rfl dL_inRow_18
set_option maxHeartbeats 4000000 in
set_option maxRecDepth 100000 in
theorem h_inRow_x1 (l : Launch) (D : va_G) (L : Nat → Nat) (cy : Nat → ClassId) (cl : ClassId) (X : va_W) (o : Nat) (A : Nat → Prop) (f : Nat → Int64) (st : gSt) (hD : va_D A ((X ++ [lA cl o f]) ++ gW L cy st)) (p0 : Int32) (p1 : Int32) (hM : xMi l yX6_inRow wsX6_inRow { frames := 10, cells := 1, slots := 6, locals := 300 } D L cy (X ++ [lA cl o f]) A [.ref (L 0), .int p0, .int p1] st xIO) : hMt l yL_inRow wsL_inRow { frames := 11, cells := 1, slots := 6, locals := 330 } D L cy cl X o A f st [.ref (L 0), .int p0, .int p1, .ref o] 1 f 1 6 := by
  refine h_entry hD (cc := cL_inRow) (maxL := 5) (hh := [(0, 10, 13, 19)]) (by decide +kernel) rfl (Nat.le_of_ble_eq_true rfl) ?_
  intro p e s m args below meth c ls B
  obtain ⟨S, hr, hlocks, htab, h, hl⟩ := B
  have hx := S.1
  have hb := S.2.1
  have hts := S.2.2.2.2
  have hl : lv_has ls 5 [(0, .ref (L 0)), (1, .int p0), (2, .int p1), (3, .ref o)] := hl
  refine lv_aload_n hx hb dL_inRow_0 rfl (lv_at hl 3 rfl) ?_
  refine lv_iconst (v := 0) hx hb dL_inRow_1 (by decide) ?_
  refine lv_aload_n hx hb dL_inRow_2 rfl (lv_at hl 0 rfl) ?_
  refine lv_iload_n hx hb dL_inRow_3 rfl (lv_at hl 1 rfl) ?_
  refine lv_iload_n hx hb dL_inRow_4 rfl (lv_at hl 2 rfl) ?_
  refine h_callx S h.1 hM (cwV 2 hts gL_inRow_X6_inRow rfl rfl rfl (by decide +kernel) ⟨Nat.le_of_ble_eq_true rfl, Nat.le_of_ble_eq_true rfl⟩) (x_pre h.1 gk_c0 (by decide) rfl rfl _) rfl hl.1 rfl (Nat.le_of_ble_eq_true rfl) dL_inRow_5 ⟨Nat.le_of_ble_eq_true rfl, Nat.le_of_ble_eq_true rfl⟩ [] ⟨0, 10, 13, 19⟩ [] htab (fun z hz => absurd hz List.not_mem_nil) (by decide) (by decide) (hts (Cond.classLink RL 19 xIO) (by decide +kernel)) (by decide +kernel) (fun q H1 locs1 hP1 hS1 => ?_)
  refine lv_astore (lv' := [(4, .ref q), (0, .ref (L 0)), (1, .int p0), (2, .int p1), (3, .ref o)]) hx hb dL_inRow_13 hl (by decide) rfl (fun ls hl => ?_)
  refine lv_iconst (v := 1) hx hb dL_inRow_15 (by decide) ?_
  exact h_ret hx hb hr hlocks (h_front hP1) hS1 rfl dL_inRow_16
set_option maxHeartbeats 4000000 in
set_option maxRecDepth 100000 in
theorem h_told (l : Launch) (D : va_G) (L : Nat → Nat) (cy : Nat → ClassId) (cl : ClassId) (X : va_W) (o : Nat) (A : Nat → Prop) (f : Nat → Int64) (st : gSt) (hD : va_D A ((X ++ [lA cl o f]) ++ gW L cy st)) (p0 : Int32) (p1 : Int32) (r : Int32) (st' : gSt) (hM : gMi l yX6_told wsX6_told { frames := 1, cells := 0, slots := 0, locals := 21 } D L cy (X ++ [lA cl o f]) A [.ref (L 0), .int p0, .int p1] st r st') : hMt l yL_told wsL_told { frames := 2, cells := 0, slots := 0, locals := 51 } D L cy cl X o A f st [.ref (L 0), .int p0, .int p1, .ref o] 0 (vp_updL f 0 r.toInt64) 0 0 := by
  refine h_entry hD (cc := cL_told) (maxL := 5) (hh := [(0, 10, 13, 19), (0, 10, 17, 21)]) (by decide +kernel) rfl (Nat.le_of_ble_eq_true rfl) ?_
  intro p e s m args below meth c ls B
  obtain ⟨S, hr, hlocks, htab, h, hl⟩ := B
  have hx := S.1
  have hb := S.2.1
  have hts := S.2.2.2.2
  have hl : lv_has ls 5 [(0, .ref (L 0)), (1, .int p0), (2, .int p1), (3, .ref o)] := hl
  refine lv_aload_n hx hb dL_told_0 rfl (lv_at hl 3 rfl) ?_
  refine lv_iconst (v := 0) hx hb dL_told_1 (by decide) ?_
  refine lv_aload_n hx hb dL_told_2 rfl (lv_at hl 0 rfl) ?_
  refine lv_iload_n hx hb dL_told_3 rfl (lv_at hl 1 rfl) ?_
  refine lv_iload_n hx hb dL_told_4 rfl (lv_at hl 2 rfl) ?_
  refine g_calli S h.1.1 hM (cwV 2 hts gL_told_X6_told rfl rfl rfl (by decide +kernel) ⟨Nat.le_of_ble_eq_true rfl, Nat.le_of_ble_eq_true rfl⟩) (g_pre h.1.1 gk_c0 (by decide) rfl rfl _) rfl hl.1 rfl (Nat.le_of_ble_eq_true rfl) dL_told_5 ⟨Nat.zero_le _, Nat.zero_le _⟩ (fun H locs h1 => ?_)
  refine lv_i2l (v := r.toInt64) hx hb dL_told_8 rfl ?_
  refine h_put hx hb h.2.1 h1 dL_told_9 (fun H1 locs1 hP1 hS1 => ?_)
  refine lv_goto (tgt := 21) hx hb dL_told_10 (by decide) ?_
  refine lv_iconst (v := 0) hx hb dL_told_21 (by decide) ?_
  exact h_ret hx hb hr hlocks hP1 hS1 rfl dL_told_22
set_option maxHeartbeats 4000000 in
set_option maxRecDepth 100000 in
theorem h_told_x1 (l : Launch) (D : va_G) (L : Nat → Nat) (cy : Nat → ClassId) (cl : ClassId) (X : va_W) (o : Nat) (A : Nat → Prop) (f : Nat → Int64) (st : gSt) (hD : va_D A ((X ++ [lA cl o f]) ++ gW L cy st)) (p0 : Int32) (p1 : Int32) (hM : xMi l yX6_told wsX6_told { frames := 10, cells := 1, slots := 6, locals := 300 } D L cy (X ++ [lA cl o f]) A [.ref (L 0), .int p0, .int p1] st xIO) : hMt l yL_told wsL_told { frames := 11, cells := 1, slots := 6, locals := 330 } D L cy cl X o A f st [.ref (L 0), .int p0, .int p1, .ref o] 1 f 1 6 := by
  refine h_entry hD (cc := cL_told) (maxL := 5) (hh := [(0, 10, 13, 19), (0, 10, 17, 21)]) (by decide +kernel) rfl (Nat.le_of_ble_eq_true rfl) ?_
  intro p e s m args below meth c ls B
  obtain ⟨S, hr, hlocks, htab, h, hl⟩ := B
  have hx := S.1
  have hb := S.2.1
  have hts := S.2.2.2.2
  have hl : lv_has ls 5 [(0, .ref (L 0)), (1, .int p0), (2, .int p1), (3, .ref o)] := hl
  refine lv_aload_n hx hb dL_told_0 rfl (lv_at hl 3 rfl) ?_
  refine lv_iconst (v := 0) hx hb dL_told_1 (by decide) ?_
  refine lv_aload_n hx hb dL_told_2 rfl (lv_at hl 0 rfl) ?_
  refine lv_iload_n hx hb dL_told_3 rfl (lv_at hl 1 rfl) ?_
  refine lv_iload_n hx hb dL_told_4 rfl (lv_at hl 2 rfl) ?_
  refine h_callx S h.1 hM (cwV 2 hts gL_told_X6_told rfl rfl rfl (by decide +kernel) ⟨Nat.le_of_ble_eq_true rfl, Nat.le_of_ble_eq_true rfl⟩) (x_pre h.1 gk_c0 (by decide) rfl rfl _) rfl hl.1 rfl (Nat.le_of_ble_eq_true rfl) dL_told_5 ⟨Nat.le_of_ble_eq_true rfl, Nat.le_of_ble_eq_true rfl⟩ [] ⟨0, 10, 13, 19⟩ [⟨0, 10, 17, 21⟩] htab (fun z hz => absurd hz List.not_mem_nil) (by decide) (by decide) (hts (Cond.classLink RL 19 xIO) (by decide +kernel)) (by decide +kernel) (fun q H1 locs1 hP1 hS1 => ?_)
  refine lv_astore (lv' := [(4, .ref q), (0, .ref (L 0)), (1, .int p0), (2, .int p1), (3, .ref o)]) hx hb dL_told_13 hl (by decide) rfl (fun ls hl => ?_)
  refine lv_iconst (v := 1) hx hb dL_told_15 (by decide) ?_
  exact h_ret hx hb hr hlocks (h_front hP1) hS1 rfl dL_told_16
set_option maxHeartbeats 4000000 in
set_option maxRecDepth 100000 in
theorem h_told_x2 (l : Launch) (D : va_G) (L : Nat → Nat) (cy : Nat → ClassId) (cl : ClassId) (X : va_W) (o : Nat) (A : Nat → Prop) (f : Nat → Int64) (st : gSt) (hD : va_D A ((X ++ [lA cl o f]) ++ gW L cy st)) (p0 : Int32) (p1 : Int32) (hM : xMi l yX6_told wsX6_told { frames := 10, cells := 1, slots := 6, locals := 300 } D L cy (X ++ [lA cl o f]) A [.ref (L 0), .int p0, .int p1] st xIA) : hMt l yL_told wsL_told { frames := 11, cells := 1, slots := 6, locals := 330 } D L cy cl X o A f st [.ref (L 0), .int p0, .int p1, .ref o] 2 f 1 6 := by
  refine h_entry hD (cc := cL_told) (maxL := 5) (hh := [(0, 10, 13, 19), (0, 10, 17, 21)]) (by decide +kernel) rfl (Nat.le_of_ble_eq_true rfl) ?_
  intro p e s m args below meth c ls B
  obtain ⟨S, hr, hlocks, htab, h, hl⟩ := B
  have hx := S.1
  have hb := S.2.1
  have hts := S.2.2.2.2
  have hl : lv_has ls 5 [(0, .ref (L 0)), (1, .int p0), (2, .int p1), (3, .ref o)] := hl
  refine lv_aload_n hx hb dL_told_0 rfl (lv_at hl 3 rfl) ?_
  refine lv_iconst (v := 0) hx hb dL_told_1 (by decide) ?_
  refine lv_aload_n hx hb dL_told_2 rfl (lv_at hl 0 rfl) ?_
  refine lv_iload_n hx hb dL_told_3 rfl (lv_at hl 1 rfl) ?_
  refine lv_iload_n hx hb dL_told_4 rfl (lv_at hl 2 rfl) ?_
  refine h_callx S h.1 hM (cwV 2 hts gL_told_X6_told rfl rfl rfl (by decide +kernel) ⟨Nat.le_of_ble_eq_true rfl, Nat.le_of_ble_eq_true rfl⟩) (x_pre h.1 gk_c0 (by decide) rfl rfl _) rfl hl.1 rfl (Nat.le_of_ble_eq_true rfl) dL_told_5 ⟨Nat.le_of_ble_eq_true rfl, Nat.le_of_ble_eq_true rfl⟩ [⟨0, 10, 13, 19⟩] ⟨0, 10, 17, 21⟩ [] htab (List.forall_mem_cons.mpr ⟨Or.inr ⟨by decide, xIO, hts (Cond.classLink RL 19 xIO) (by decide +kernel), h.2.2.1⟩, fun z hz => absurd hz List.not_mem_nil⟩) (by decide) (by decide) (hts (Cond.classLink RL 21 xIA) (by decide +kernel)) (by decide +kernel) (fun q H1 locs1 hP1 hS1 => ?_)
  refine lv_astore (lv' := [(4, .ref q), (0, .ref (L 0)), (1, .int p0), (2, .int p1), (3, .ref o)]) hx hb dL_told_17 hl (by decide) rfl (fun ls hl => ?_)
  refine lv_iconst (v := 2) hx hb dL_told_19 (by decide) ?_
  exact h_ret hx hb hr hlocks (h_front hP1) hS1 rfl dL_told_20
set_option maxHeartbeats 4000000 in
set_option maxRecDepth 100000 in
theorem h_ran (l : Launch) (D : va_G) (L : Nat → Nat) (cy : Nat → ClassId) (cl : ClassId) (X : va_W) (o : Nat) (A : Nat → Prop) (f : Nat → Int64) (st : gSt) (hD : va_D A ((X ++ [lA cl o f]) ++ gW L cy st)) (p0 : Int32) (p1 : Int32) (r : Int32) (st' : gSt) (hM : gMi l yX6_ran wsX6_ran { frames := 2, cells := 0, slots := 0, locals := 43 } D L cy (X ++ [lA cl o f]) A [.ref (L 0), .int p0, .int p1] st r st') : hMt l yL_ran wsL_ran { frames := 3, cells := 0, slots := 0, locals := 73 } D L cy cl X o A f st [.ref (L 0), .int p0, .int p1, .ref o] 0 (vp_updL f 0 r.toInt64) 0 0 := by
  refine h_entry hD (cc := cL_ran) (maxL := 5) (hh := [(0, 10, 13, 19), (0, 10, 17, 21)]) (by decide +kernel) rfl (Nat.le_of_ble_eq_true rfl) ?_
  intro p e s m args below meth c ls B
  obtain ⟨S, hr, hlocks, htab, h, hl⟩ := B
  have hx := S.1
  have hb := S.2.1
  have hts := S.2.2.2.2
  have hl : lv_has ls 5 [(0, .ref (L 0)), (1, .int p0), (2, .int p1), (3, .ref o)] := hl
  refine lv_aload_n hx hb dL_ran_0 rfl (lv_at hl 3 rfl) ?_
  refine lv_iconst (v := 0) hx hb dL_ran_1 (by decide) ?_
  refine lv_aload_n hx hb dL_ran_2 rfl (lv_at hl 0 rfl) ?_
  refine lv_iload_n hx hb dL_ran_3 rfl (lv_at hl 1 rfl) ?_
  refine lv_iload_n hx hb dL_ran_4 rfl (lv_at hl 2 rfl) ?_
  refine g_calli S h.1.1 hM (cwV 2 hts gL_ran_X6_ran rfl rfl rfl (by decide +kernel) ⟨Nat.le_of_ble_eq_true rfl, Nat.le_of_ble_eq_true rfl⟩) (g_pre h.1.1 gk_c0 (by decide) rfl rfl _) rfl hl.1 rfl (Nat.le_of_ble_eq_true rfl) dL_ran_5 ⟨Nat.zero_le _, Nat.zero_le _⟩ (fun H locs h1 => ?_)
  refine lv_i2l (v := r.toInt64) hx hb dL_ran_8 rfl ?_
  refine h_put hx hb h.2.1 h1 dL_ran_9 (fun H1 locs1 hP1 hS1 => ?_)
  refine lv_goto (tgt := 21) hx hb dL_ran_10 (by decide) ?_
  refine lv_iconst (v := 0) hx hb dL_ran_21 (by decide) ?_
  exact h_ret hx hb hr hlocks hP1 hS1 rfl dL_ran_22
set_option maxHeartbeats 4000000 in
set_option maxRecDepth 100000 in
theorem h_ran_x1 (l : Launch) (D : va_G) (L : Nat → Nat) (cy : Nat → ClassId) (cl : ClassId) (X : va_W) (o : Nat) (A : Nat → Prop) (f : Nat → Int64) (st : gSt) (hD : va_D A ((X ++ [lA cl o f]) ++ gW L cy st)) (p0 : Int32) (p1 : Int32) (hM : xMi l yX6_ran wsX6_ran { frames := 10, cells := 1, slots := 6, locals := 300 } D L cy (X ++ [lA cl o f]) A [.ref (L 0), .int p0, .int p1] st xIO) : hMt l yL_ran wsL_ran { frames := 11, cells := 1, slots := 6, locals := 330 } D L cy cl X o A f st [.ref (L 0), .int p0, .int p1, .ref o] 1 f 1 6 := by
  refine h_entry hD (cc := cL_ran) (maxL := 5) (hh := [(0, 10, 13, 19), (0, 10, 17, 21)]) (by decide +kernel) rfl (Nat.le_of_ble_eq_true rfl) ?_
  intro p e s m args below meth c ls B
  obtain ⟨S, hr, hlocks, htab, h, hl⟩ := B
  have hx := S.1
  have hb := S.2.1
  have hts := S.2.2.2.2
  have hl : lv_has ls 5 [(0, .ref (L 0)), (1, .int p0), (2, .int p1), (3, .ref o)] := hl
  refine lv_aload_n hx hb dL_ran_0 rfl (lv_at hl 3 rfl) ?_
  refine lv_iconst (v := 0) hx hb dL_ran_1 (by decide) ?_
  refine lv_aload_n hx hb dL_ran_2 rfl (lv_at hl 0 rfl) ?_
  refine lv_iload_n hx hb dL_ran_3 rfl (lv_at hl 1 rfl) ?_
  refine lv_iload_n hx hb dL_ran_4 rfl (lv_at hl 2 rfl) ?_
  refine h_callx S h.1 hM (cwV 2 hts gL_ran_X6_ran rfl rfl rfl (by decide +kernel) ⟨Nat.le_of_ble_eq_true rfl, Nat.le_of_ble_eq_true rfl⟩) (x_pre h.1 gk_c0 (by decide) rfl rfl _) rfl hl.1 rfl (Nat.le_of_ble_eq_true rfl) dL_ran_5 ⟨Nat.le_of_ble_eq_true rfl, Nat.le_of_ble_eq_true rfl⟩ [] ⟨0, 10, 13, 19⟩ [⟨0, 10, 17, 21⟩] htab (fun z hz => absurd hz List.not_mem_nil) (by decide) (by decide) (hts (Cond.classLink RL 19 xIO) (by decide +kernel)) (by decide +kernel) (fun q H1 locs1 hP1 hS1 => ?_)
  refine lv_astore (lv' := [(4, .ref q), (0, .ref (L 0)), (1, .int p0), (2, .int p1), (3, .ref o)]) hx hb dL_ran_13 hl (by decide) rfl (fun ls hl => ?_)
  refine lv_iconst (v := 1) hx hb dL_ran_15 (by decide) ?_
  exact h_ret hx hb hr hlocks (h_front hP1) hS1 rfl dL_ran_16
set_option maxHeartbeats 4000000 in
set_option maxRecDepth 100000 in
theorem h_ran_x2 (l : Launch) (D : va_G) (L : Nat → Nat) (cy : Nat → ClassId) (cl : ClassId) (X : va_W) (o : Nat) (A : Nat → Prop) (f : Nat → Int64) (st : gSt) (hD : va_D A ((X ++ [lA cl o f]) ++ gW L cy st)) (p0 : Int32) (p1 : Int32) (hM : xMi l yX6_ran wsX6_ran { frames := 10, cells := 1, slots := 6, locals := 300 } D L cy (X ++ [lA cl o f]) A [.ref (L 0), .int p0, .int p1] st xIA) : hMt l yL_ran wsL_ran { frames := 11, cells := 1, slots := 6, locals := 330 } D L cy cl X o A f st [.ref (L 0), .int p0, .int p1, .ref o] 2 f 1 6 := by
  refine h_entry hD (cc := cL_ran) (maxL := 5) (hh := [(0, 10, 13, 19), (0, 10, 17, 21)]) (by decide +kernel) rfl (Nat.le_of_ble_eq_true rfl) ?_
  intro p e s m args below meth c ls B
  obtain ⟨S, hr, hlocks, htab, h, hl⟩ := B
  have hx := S.1
  have hb := S.2.1
  have hts := S.2.2.2.2
  have hl : lv_has ls 5 [(0, .ref (L 0)), (1, .int p0), (2, .int p1), (3, .ref o)] := hl
  refine lv_aload_n hx hb dL_ran_0 rfl (lv_at hl 3 rfl) ?_
  refine lv_iconst (v := 0) hx hb dL_ran_1 (by decide) ?_
  refine lv_aload_n hx hb dL_ran_2 rfl (lv_at hl 0 rfl) ?_
  refine lv_iload_n hx hb dL_ran_3 rfl (lv_at hl 1 rfl) ?_
  refine lv_iload_n hx hb dL_ran_4 rfl (lv_at hl 2 rfl) ?_
  refine h_callx S h.1 hM (cwV 2 hts gL_ran_X6_ran rfl rfl rfl (by decide +kernel) ⟨Nat.le_of_ble_eq_true rfl, Nat.le_of_ble_eq_true rfl⟩) (x_pre h.1 gk_c0 (by decide) rfl rfl _) rfl hl.1 rfl (Nat.le_of_ble_eq_true rfl) dL_ran_5 ⟨Nat.le_of_ble_eq_true rfl, Nat.le_of_ble_eq_true rfl⟩ [⟨0, 10, 13, 19⟩] ⟨0, 10, 17, 21⟩ [] htab (List.forall_mem_cons.mpr ⟨Or.inr ⟨by decide, xIO, hts (Cond.classLink RL 19 xIO) (by decide +kernel), h.2.2.1⟩, fun z hz => absurd hz List.not_mem_nil⟩) (by decide) (by decide) (hts (Cond.classLink RL 21 xIA) (by decide +kernel)) (by decide +kernel) (fun q H1 locs1 hP1 hS1 => ?_)
  refine lv_astore (lv' := [(4, .ref q), (0, .ref (L 0)), (1, .int p0), (2, .int p1), (3, .ref o)]) hx hb dL_ran_17 hl (by decide) rfl (fun ls hl => ?_)
  refine lv_iconst (v := 2) hx hb dL_ran_19 (by decide) ?_
  exact h_ret hx hb hr hlocks (h_front hP1) hS1 rfl dL_ran_20
set_option maxHeartbeats 4000000 in
set_option maxRecDepth 100000 in
theorem h_overIn (l : Launch) (D : va_G) (L : Nat → Nat) (cy : Nat → ClassId) (cl : ClassId) (X : va_W) (o : Nat) (A : Nat → Prop) (f : Nat → Int64) (st : gSt) (hD : va_D A ((X ++ [lA cl o f]) ++ gW L cy st)) (p0 : Int32) (p1 : Int32) (r : Int32) (st' : gSt) (hM : gMi l yX6_overIn wsX6_overIn { frames := 7, cells := 0, slots := 0, locals := 166 } D L cy (X ++ [lA cl o f]) A [.ref (L 0), .int p0, .int p1] st r st') : hMt l yL_overIn wsL_overIn { frames := 8, cells := 0, slots := 0, locals := 196 } D L cy cl X o A f st [.ref (L 0), .int p0, .int p1, .ref o] 0 (vp_updL f 0 r.toInt64) 0 0 := by
  refine h_entry hD (cc := cL_overIn) (maxL := 5) (hh := [(0, 10, 13, 19), (0, 10, 17, 21)]) (by decide +kernel) rfl (Nat.le_of_ble_eq_true rfl) ?_
  intro p e s m args below meth c ls B
  obtain ⟨S, hr, hlocks, htab, h, hl⟩ := B
  have hx := S.1
  have hb := S.2.1
  have hts := S.2.2.2.2
  have hl : lv_has ls 5 [(0, .ref (L 0)), (1, .int p0), (2, .int p1), (3, .ref o)] := hl
  refine lv_aload_n hx hb dL_overIn_0 rfl (lv_at hl 3 rfl) ?_
  refine lv_iconst (v := 0) hx hb dL_overIn_1 (by decide) ?_
  refine lv_aload_n hx hb dL_overIn_2 rfl (lv_at hl 0 rfl) ?_
  refine lv_iload_n hx hb dL_overIn_3 rfl (lv_at hl 1 rfl) ?_
  refine lv_iload_n hx hb dL_overIn_4 rfl (lv_at hl 2 rfl) ?_
  refine g_calli S h.1.1 hM (cwV 2 hts gL_overIn_X6_overIn rfl rfl rfl (by decide +kernel) ⟨Nat.le_of_ble_eq_true rfl, Nat.le_of_ble_eq_true rfl⟩) (g_pre h.1.1 gk_c0 (by decide) rfl rfl _) rfl hl.1 rfl (Nat.le_of_ble_eq_true rfl) dL_overIn_5 ⟨Nat.zero_le _, Nat.zero_le _⟩ (fun H locs h1 => ?_)
  refine lv_i2l (v := r.toInt64) hx hb dL_overIn_8 rfl ?_
  refine h_put hx hb h.2.1 h1 dL_overIn_9 (fun H1 locs1 hP1 hS1 => ?_)
  refine lv_goto (tgt := 21) hx hb dL_overIn_10 (by decide) ?_
  refine lv_iconst (v := 0) hx hb dL_overIn_21 (by decide) ?_
  exact h_ret hx hb hr hlocks hP1 hS1 rfl dL_overIn_22
set_option maxHeartbeats 4000000 in
set_option maxRecDepth 100000 in
theorem h_overIn_x1 (l : Launch) (D : va_G) (L : Nat → Nat) (cy : Nat → ClassId) (cl : ClassId) (X : va_W) (o : Nat) (A : Nat → Prop) (f : Nat → Int64) (st : gSt) (hD : va_D A ((X ++ [lA cl o f]) ++ gW L cy st)) (p0 : Int32) (p1 : Int32) (hM : xMi l yX6_overIn wsX6_overIn { frames := 10, cells := 1, slots := 6, locals := 300 } D L cy (X ++ [lA cl o f]) A [.ref (L 0), .int p0, .int p1] st xIO) : hMt l yL_overIn wsL_overIn { frames := 11, cells := 1, slots := 6, locals := 330 } D L cy cl X o A f st [.ref (L 0), .int p0, .int p1, .ref o] 1 f 1 6 := by
  refine h_entry hD (cc := cL_overIn) (maxL := 5) (hh := [(0, 10, 13, 19), (0, 10, 17, 21)]) (by decide +kernel) rfl (Nat.le_of_ble_eq_true rfl) ?_
  intro p e s m args below meth c ls B
  obtain ⟨S, hr, hlocks, htab, h, hl⟩ := B
  have hx := S.1
  have hb := S.2.1
  have hts := S.2.2.2.2
  have hl : lv_has ls 5 [(0, .ref (L 0)), (1, .int p0), (2, .int p1), (3, .ref o)] := hl
  refine lv_aload_n hx hb dL_overIn_0 rfl (lv_at hl 3 rfl) ?_
  refine lv_iconst (v := 0) hx hb dL_overIn_1 (by decide) ?_
  refine lv_aload_n hx hb dL_overIn_2 rfl (lv_at hl 0 rfl) ?_
  refine lv_iload_n hx hb dL_overIn_3 rfl (lv_at hl 1 rfl) ?_
  refine lv_iload_n hx hb dL_overIn_4 rfl (lv_at hl 2 rfl) ?_
  refine h_callx S h.1 hM (cwV 2 hts gL_overIn_X6_overIn rfl rfl rfl (by decide +kernel) ⟨Nat.le_of_ble_eq_true rfl, Nat.le_of_ble_eq_true rfl⟩) (x_pre h.1 gk_c0 (by decide) rfl rfl _) rfl hl.1 rfl (Nat.le_of_ble_eq_true rfl) dL_overIn_5 ⟨Nat.le_of_ble_eq_true rfl, Nat.le_of_ble_eq_true rfl⟩ [] ⟨0, 10, 13, 19⟩ [⟨0, 10, 17, 21⟩] htab (fun z hz => absurd hz List.not_mem_nil) (by decide) (by decide) (hts (Cond.classLink RL 19 xIO) (by decide +kernel)) (by decide +kernel) (fun q H1 locs1 hP1 hS1 => ?_)
  refine lv_astore (lv' := [(4, .ref q), (0, .ref (L 0)), (1, .int p0), (2, .int p1), (3, .ref o)]) hx hb dL_overIn_13 hl (by decide) rfl (fun ls hl => ?_)
  refine lv_iconst (v := 1) hx hb dL_overIn_15 (by decide) ?_
  exact h_ret hx hb hr hlocks (h_front hP1) hS1 rfl dL_overIn_16
set_option maxHeartbeats 4000000 in
set_option maxRecDepth 100000 in
theorem h_overIn_x2 (l : Launch) (D : va_G) (L : Nat → Nat) (cy : Nat → ClassId) (cl : ClassId) (X : va_W) (o : Nat) (A : Nat → Prop) (f : Nat → Int64) (st : gSt) (hD : va_D A ((X ++ [lA cl o f]) ++ gW L cy st)) (p0 : Int32) (p1 : Int32) (hM : xMi l yX6_overIn wsX6_overIn { frames := 10, cells := 1, slots := 6, locals := 300 } D L cy (X ++ [lA cl o f]) A [.ref (L 0), .int p0, .int p1] st xIA) : hMt l yL_overIn wsL_overIn { frames := 11, cells := 1, slots := 6, locals := 330 } D L cy cl X o A f st [.ref (L 0), .int p0, .int p1, .ref o] 2 f 1 6 := by
  refine h_entry hD (cc := cL_overIn) (maxL := 5) (hh := [(0, 10, 13, 19), (0, 10, 17, 21)]) (by decide +kernel) rfl (Nat.le_of_ble_eq_true rfl) ?_
  intro p e s m args below meth c ls B
  obtain ⟨S, hr, hlocks, htab, h, hl⟩ := B
  have hx := S.1
  have hb := S.2.1
  have hts := S.2.2.2.2
  have hl : lv_has ls 5 [(0, .ref (L 0)), (1, .int p0), (2, .int p1), (3, .ref o)] := hl
  refine lv_aload_n hx hb dL_overIn_0 rfl (lv_at hl 3 rfl) ?_
  refine lv_iconst (v := 0) hx hb dL_overIn_1 (by decide) ?_
  refine lv_aload_n hx hb dL_overIn_2 rfl (lv_at hl 0 rfl) ?_
  refine lv_iload_n hx hb dL_overIn_3 rfl (lv_at hl 1 rfl) ?_
  refine lv_iload_n hx hb dL_overIn_4 rfl (lv_at hl 2 rfl) ?_
  refine h_callx S h.1 hM (cwV 2 hts gL_overIn_X6_overIn rfl rfl rfl (by decide +kernel) ⟨Nat.le_of_ble_eq_true rfl, Nat.le_of_ble_eq_true rfl⟩) (x_pre h.1 gk_c0 (by decide) rfl rfl _) rfl hl.1 rfl (Nat.le_of_ble_eq_true rfl) dL_overIn_5 ⟨Nat.le_of_ble_eq_true rfl, Nat.le_of_ble_eq_true rfl⟩ [⟨0, 10, 13, 19⟩] ⟨0, 10, 17, 21⟩ [] htab (List.forall_mem_cons.mpr ⟨Or.inr ⟨by decide, xIO, hts (Cond.classLink RL 19 xIO) (by decide +kernel), h.2.2.1⟩, fun z hz => absurd hz List.not_mem_nil⟩) (by decide) (by decide) (hts (Cond.classLink RL 21 xIA) (by decide +kernel)) (by decide +kernel) (fun q H1 locs1 hP1 hS1 => ?_)
  refine lv_astore (lv' := [(4, .ref q), (0, .ref (L 0)), (1, .int p0), (2, .int p1), (3, .ref o)]) hx hb dL_overIn_17 hl (by decide) rfl (fun ls hl => ?_)
  refine lv_iconst (v := 2) hx hb dL_overIn_19 (by decide) ?_
  exact h_ret hx hb hr hlocks (h_front hP1) hS1 rfl dL_overIn_20
set_option maxHeartbeats 4000000 in
set_option maxRecDepth 100000 in
theorem h_valueIn (l : Launch) (D : va_G) (L : Nat → Nat) (cy : Nat → ClassId) (cl : ClassId) (X : va_W) (o : Nat) (A : Nat → Prop) (f : Nat → Int64) (st : gSt) (hD : va_D A ((X ++ [lA cl o f]) ++ gW L cy st)) (p0 : Int32) (p1 : Int32) (r : Int32) (st' : gSt) (hM : gMi l yX6_valueIn wsX6_valueIn { frames := 7, cells := 0, slots := 0, locals := 166 } D L cy (X ++ [lA cl o f]) A [.ref (L 0), .int p0, .int p1] st r st') : hMt l yL_valueIn wsL_valueIn { frames := 8, cells := 0, slots := 0, locals := 196 } D L cy cl X o A f st [.ref (L 0), .int p0, .int p1, .ref o] 0 (vp_updL f 0 r.toInt64) 0 0 := by
  refine h_entry hD (cc := cL_valueIn) (maxL := 5) (hh := [(0, 10, 13, 19), (0, 10, 17, 21)]) (by decide +kernel) rfl (Nat.le_of_ble_eq_true rfl) ?_
  intro p e s m args below meth c ls B
  obtain ⟨S, hr, hlocks, htab, h, hl⟩ := B
  have hx := S.1
  have hb := S.2.1
  have hts := S.2.2.2.2
  have hl : lv_has ls 5 [(0, .ref (L 0)), (1, .int p0), (2, .int p1), (3, .ref o)] := hl
  refine lv_aload_n hx hb dL_valueIn_0 rfl (lv_at hl 3 rfl) ?_
  refine lv_iconst (v := 0) hx hb dL_valueIn_1 (by decide) ?_
  refine lv_aload_n hx hb dL_valueIn_2 rfl (lv_at hl 0 rfl) ?_
  refine lv_iload_n hx hb dL_valueIn_3 rfl (lv_at hl 1 rfl) ?_
  refine lv_iload_n hx hb dL_valueIn_4 rfl (lv_at hl 2 rfl) ?_
  refine g_calli S h.1.1 hM (cwV 2 hts gL_valueIn_X6_valueIn rfl rfl rfl (by decide +kernel) ⟨Nat.le_of_ble_eq_true rfl, Nat.le_of_ble_eq_true rfl⟩) (g_pre h.1.1 gk_c0 (by decide) rfl rfl _) rfl hl.1 rfl (Nat.le_of_ble_eq_true rfl) dL_valueIn_5 ⟨Nat.zero_le _, Nat.zero_le _⟩ (fun H locs h1 => ?_)
  refine lv_i2l (v := r.toInt64) hx hb dL_valueIn_8 rfl ?_
  refine h_put hx hb h.2.1 h1 dL_valueIn_9 (fun H1 locs1 hP1 hS1 => ?_)
  refine lv_goto (tgt := 21) hx hb dL_valueIn_10 (by decide) ?_
  refine lv_iconst (v := 0) hx hb dL_valueIn_21 (by decide) ?_
  exact h_ret hx hb hr hlocks hP1 hS1 rfl dL_valueIn_22
set_option maxHeartbeats 4000000 in
set_option maxRecDepth 100000 in
theorem h_valueIn_x1 (l : Launch) (D : va_G) (L : Nat → Nat) (cy : Nat → ClassId) (cl : ClassId) (X : va_W) (o : Nat) (A : Nat → Prop) (f : Nat → Int64) (st : gSt) (hD : va_D A ((X ++ [lA cl o f]) ++ gW L cy st)) (p0 : Int32) (p1 : Int32) (hM : xMi l yX6_valueIn wsX6_valueIn { frames := 10, cells := 1, slots := 6, locals := 300 } D L cy (X ++ [lA cl o f]) A [.ref (L 0), .int p0, .int p1] st xIO) : hMt l yL_valueIn wsL_valueIn { frames := 11, cells := 1, slots := 6, locals := 330 } D L cy cl X o A f st [.ref (L 0), .int p0, .int p1, .ref o] 1 f 1 6 := by
  refine h_entry hD (cc := cL_valueIn) (maxL := 5) (hh := [(0, 10, 13, 19), (0, 10, 17, 21)]) (by decide +kernel) rfl (Nat.le_of_ble_eq_true rfl) ?_
  intro p e s m args below meth c ls B
  obtain ⟨S, hr, hlocks, htab, h, hl⟩ := B
  have hx := S.1
  have hb := S.2.1
  have hts := S.2.2.2.2
  have hl : lv_has ls 5 [(0, .ref (L 0)), (1, .int p0), (2, .int p1), (3, .ref o)] := hl
  refine lv_aload_n hx hb dL_valueIn_0 rfl (lv_at hl 3 rfl) ?_
  refine lv_iconst (v := 0) hx hb dL_valueIn_1 (by decide) ?_
  refine lv_aload_n hx hb dL_valueIn_2 rfl (lv_at hl 0 rfl) ?_
  refine lv_iload_n hx hb dL_valueIn_3 rfl (lv_at hl 1 rfl) ?_
  refine lv_iload_n hx hb dL_valueIn_4 rfl (lv_at hl 2 rfl) ?_
  refine h_callx S h.1 hM (cwV 2 hts gL_valueIn_X6_valueIn rfl rfl rfl (by decide +kernel) ⟨Nat.le_of_ble_eq_true rfl, Nat.le_of_ble_eq_true rfl⟩) (x_pre h.1 gk_c0 (by decide) rfl rfl _) rfl hl.1 rfl (Nat.le_of_ble_eq_true rfl) dL_valueIn_5 ⟨Nat.le_of_ble_eq_true rfl, Nat.le_of_ble_eq_true rfl⟩ [] ⟨0, 10, 13, 19⟩ [⟨0, 10, 17, 21⟩] htab (fun z hz => absurd hz List.not_mem_nil) (by decide) (by decide) (hts (Cond.classLink RL 19 xIO) (by decide +kernel)) (by decide +kernel) (fun q H1 locs1 hP1 hS1 => ?_)
  refine lv_astore (lv' := [(4, .ref q), (0, .ref (L 0)), (1, .int p0), (2, .int p1), (3, .ref o)]) hx hb dL_valueIn_13 hl (by decide) rfl (fun ls hl => ?_)
  refine lv_iconst (v := 1) hx hb dL_valueIn_15 (by decide) ?_
  exact h_ret hx hb hr hlocks (h_front hP1) hS1 rfl dL_valueIn_16
set_option maxHeartbeats 4000000 in
set_option maxRecDepth 100000 in
theorem h_valueIn_x2 (l : Launch) (D : va_G) (L : Nat → Nat) (cy : Nat → ClassId) (cl : ClassId) (X : va_W) (o : Nat) (A : Nat → Prop) (f : Nat → Int64) (st : gSt) (hD : va_D A ((X ++ [lA cl o f]) ++ gW L cy st)) (p0 : Int32) (p1 : Int32) (hM : xMi l yX6_valueIn wsX6_valueIn { frames := 10, cells := 1, slots := 6, locals := 300 } D L cy (X ++ [lA cl o f]) A [.ref (L 0), .int p0, .int p1] st xIA) : hMt l yL_valueIn wsL_valueIn { frames := 11, cells := 1, slots := 6, locals := 330 } D L cy cl X o A f st [.ref (L 0), .int p0, .int p1, .ref o] 2 f 1 6 := by
  refine h_entry hD (cc := cL_valueIn) (maxL := 5) (hh := [(0, 10, 13, 19), (0, 10, 17, 21)]) (by decide +kernel) rfl (Nat.le_of_ble_eq_true rfl) ?_
  intro p e s m args below meth c ls B
  obtain ⟨S, hr, hlocks, htab, h, hl⟩ := B
  have hx := S.1
  have hb := S.2.1
  have hts := S.2.2.2.2
  have hl : lv_has ls 5 [(0, .ref (L 0)), (1, .int p0), (2, .int p1), (3, .ref o)] := hl
  refine lv_aload_n hx hb dL_valueIn_0 rfl (lv_at hl 3 rfl) ?_
  refine lv_iconst (v := 0) hx hb dL_valueIn_1 (by decide) ?_
  refine lv_aload_n hx hb dL_valueIn_2 rfl (lv_at hl 0 rfl) ?_
  refine lv_iload_n hx hb dL_valueIn_3 rfl (lv_at hl 1 rfl) ?_
  refine lv_iload_n hx hb dL_valueIn_4 rfl (lv_at hl 2 rfl) ?_
  refine h_callx S h.1 hM (cwV 2 hts gL_valueIn_X6_valueIn rfl rfl rfl (by decide +kernel) ⟨Nat.le_of_ble_eq_true rfl, Nat.le_of_ble_eq_true rfl⟩) (x_pre h.1 gk_c0 (by decide) rfl rfl _) rfl hl.1 rfl (Nat.le_of_ble_eq_true rfl) dL_valueIn_5 ⟨Nat.le_of_ble_eq_true rfl, Nat.le_of_ble_eq_true rfl⟩ [⟨0, 10, 13, 19⟩] ⟨0, 10, 17, 21⟩ [] htab (List.forall_mem_cons.mpr ⟨Or.inr ⟨by decide, xIO, hts (Cond.classLink RL 19 xIO) (by decide +kernel), h.2.2.1⟩, fun z hz => absurd hz List.not_mem_nil⟩) (by decide) (by decide) (hts (Cond.classLink RL 21 xIA) (by decide +kernel)) (by decide +kernel) (fun q H1 locs1 hP1 hS1 => ?_)
  refine lv_astore (lv' := [(4, .ref q), (0, .ref (L 0)), (1, .int p0), (2, .int p1), (3, .ref o)]) hx hb dL_valueIn_17 hl (by decide) rfl (fun ls hl => ?_)
  refine lv_iconst (v := 2) hx hb dL_valueIn_19 (by decide) ?_
  exact h_ret hx hb hr hlocks (h_front hP1) hS1 rfl dL_valueIn_20
set_option maxHeartbeats 4000000 in
set_option maxRecDepth 100000 in
theorem h_haltsIn (l : Launch) (D : va_G) (L : Nat → Nat) (cy : Nat → ClassId) (cl : ClassId) (X : va_W) (o : Nat) (A : Nat → Prop) (f : Nat → Int64) (st : gSt) (hD : va_D A ((X ++ [lA cl o f]) ++ gW L cy st)) (p0 : Int32) (r : Int32) (st' : gSt) (hM : gMi l yX6_haltsIn wsX6_haltsIn { frames := 7, cells := 0, slots := 0, locals := 166 } D L cy (X ++ [lA cl o f]) A [.ref (L 0), .int p0] st r st') : hMt l yL_haltsIn wsL_haltsIn { frames := 8, cells := 0, slots := 0, locals := 196 } D L cy cl X o A f st [.ref (L 0), .int p0, .ref o] 0 (vp_updL f 0 r.toInt64) 0 0 := by
  refine h_entry hD (cc := cL_haltsIn) (maxL := 4) (hh := [(0, 9, 12, 21)]) (by decide +kernel) rfl (Nat.le_of_ble_eq_true rfl) ?_
  intro p e s m args below meth c ls B
  obtain ⟨S, hr, hlocks, htab, h, hl⟩ := B
  have hx := S.1
  have hb := S.2.1
  have hts := S.2.2.2.2
  have hl : lv_has ls 4 [(0, .ref (L 0)), (1, .int p0), (2, .ref o)] := hl
  refine lv_aload_n hx hb dL_haltsIn_0 rfl (lv_at hl 2 rfl) ?_
  refine lv_iconst (v := 0) hx hb dL_haltsIn_1 (by decide) ?_
  refine lv_aload_n hx hb dL_haltsIn_2 rfl (lv_at hl 0 rfl) ?_
  refine lv_iload_n hx hb dL_haltsIn_3 rfl (lv_at hl 1 rfl) ?_
  refine g_calli S h.1.1 hM (cwV 1 hts gL_haltsIn_X6_haltsIn rfl rfl rfl (by decide +kernel) ⟨Nat.le_of_ble_eq_true rfl, Nat.le_of_ble_eq_true rfl⟩) (g_pre h.1.1 gk_c0 (by decide) rfl rfl _) rfl hl.1 rfl (Nat.le_of_ble_eq_true rfl) dL_haltsIn_4 ⟨Nat.zero_le _, Nat.zero_le _⟩ (fun H locs h1 => ?_)
  refine lv_i2l (v := r.toInt64) hx hb dL_haltsIn_7 rfl ?_
  refine h_put hx hb h.2.1 h1 dL_haltsIn_8 (fun H1 locs1 hP1 hS1 => ?_)
  refine lv_goto (tgt := 15) hx hb dL_haltsIn_9 (by decide) ?_
  refine lv_iconst (v := 0) hx hb dL_haltsIn_15 (by decide) ?_
  exact h_ret hx hb hr hlocks hP1 hS1 rfl dL_haltsIn_16
set_option maxHeartbeats 4000000 in
set_option maxRecDepth 100000 in
theorem h_haltsIn_x1 (l : Launch) (D : va_G) (L : Nat → Nat) (cy : Nat → ClassId) (cl : ClassId) (X : va_W) (o : Nat) (A : Nat → Prop) (f : Nat → Int64) (st : gSt) (hD : va_D A ((X ++ [lA cl o f]) ++ gW L cy st)) (p0 : Int32) (hM : xMi l yX6_haltsIn wsX6_haltsIn { frames := 10, cells := 1, slots := 6, locals := 300 } D L cy (X ++ [lA cl o f]) A [.ref (L 0), .int p0] st xIA) : hMt l yL_haltsIn wsL_haltsIn { frames := 11, cells := 1, slots := 6, locals := 330 } D L cy cl X o A f st [.ref (L 0), .int p0, .ref o] 1 f 1 6 := by
  refine h_entry hD (cc := cL_haltsIn) (maxL := 4) (hh := [(0, 9, 12, 21)]) (by decide +kernel) rfl (Nat.le_of_ble_eq_true rfl) ?_
  intro p e s m args below meth c ls B
  obtain ⟨S, hr, hlocks, htab, h, hl⟩ := B
  have hx := S.1
  have hb := S.2.1
  have hts := S.2.2.2.2
  have hl : lv_has ls 4 [(0, .ref (L 0)), (1, .int p0), (2, .ref o)] := hl
  refine lv_aload_n hx hb dL_haltsIn_0 rfl (lv_at hl 2 rfl) ?_
  refine lv_iconst (v := 0) hx hb dL_haltsIn_1 (by decide) ?_
  refine lv_aload_n hx hb dL_haltsIn_2 rfl (lv_at hl 0 rfl) ?_
  refine lv_iload_n hx hb dL_haltsIn_3 rfl (lv_at hl 1 rfl) ?_
  refine h_callx S h.1 hM (cwV 1 hts gL_haltsIn_X6_haltsIn rfl rfl rfl (by decide +kernel) ⟨Nat.le_of_ble_eq_true rfl, Nat.le_of_ble_eq_true rfl⟩) (x_pre h.1 gk_c0 (by decide) rfl rfl _) rfl hl.1 rfl (Nat.le_of_ble_eq_true rfl) dL_haltsIn_4 ⟨Nat.le_of_ble_eq_true rfl, Nat.le_of_ble_eq_true rfl⟩ [] ⟨0, 9, 12, 21⟩ [] htab (fun z hz => absurd hz List.not_mem_nil) (by decide) (by decide) (hts (Cond.classLink RL 21 xIA) (by decide +kernel)) (by decide +kernel) (fun q H1 locs1 hP1 hS1 => ?_)
  refine lv_astore_n (lv' := [(3, .ref q), (0, .ref (L 0)), (1, .int p0), (2, .ref o)]) hx hb dL_haltsIn_12 rfl hl (by decide) rfl (fun ls hl => ?_)
  refine lv_iconst (v := 1) hx hb dL_haltsIn_13 (by decide) ?_
  exact h_ret hx hb hr hlocks (h_front hP1) hS1 rfl dL_haltsIn_14
set_option maxHeartbeats 4000000 in
set_option maxRecDepth 100000 in
theorem h_alone_x1 (l : Launch) (D : va_G) (L : Nat → Nat) (cy : Nat → ClassId) (cl : ClassId) (X : va_W) (o : Nat) (A : Nat → Prop) (f : Nat → Int64) (st : gSt) (hD : va_D A ((X ++ [lA cl o f]) ++ gW L cy st)) (p0 : Int32) (p1 : Int32) (p2 : Int32) (hM : xMi l yX6_alone wsX6_alone { frames := 10, cells := 1, slots := 6, locals := 300 } D L cy (X ++ [lA cl o f]) A [.ref (L 0), .int p0, .int p1, .int p2] st xIO) : hMt l yL_alone wsL_alone { frames := 11, cells := 1, slots := 6, locals := 330 } D L cy cl X o A f st [.ref (L 0), .int p0, .int p1, .int p2, .ref o] 1 f 1 6 := by
  refine h_entry hD (cc := cL_alone) (maxL := 6) (hh := [(0, 12, 15, 19), (0, 12, 19, 21)]) (by decide +kernel) rfl (Nat.le_of_ble_eq_true rfl) ?_
  intro p e s m args below meth c ls B
  obtain ⟨S, hr, hlocks, htab, h, hl⟩ := B
  have hx := S.1
  have hb := S.2.1
  have hts := S.2.2.2.2
  have hl : lv_has ls 6 [(0, .ref (L 0)), (1, .int p0), (2, .int p1), (3, .int p2), (4, .ref o)] := hl
  refine lv_aload hx hb dL_alone_0 (lv_at hl 4 rfl) ?_
  refine lv_iconst (v := 0) hx hb dL_alone_2 (by decide) ?_
  refine lv_aload_n hx hb dL_alone_3 rfl (lv_at hl 0 rfl) ?_
  refine lv_iload_n hx hb dL_alone_4 rfl (lv_at hl 1 rfl) ?_
  refine lv_iload_n hx hb dL_alone_5 rfl (lv_at hl 2 rfl) ?_
  refine lv_iload_n hx hb dL_alone_6 rfl (lv_at hl 3 rfl) ?_
  refine h_callx S h.1 hM (cwV 3 hts gL_alone_X6_alone rfl rfl rfl (by decide +kernel) ⟨Nat.le_of_ble_eq_true rfl, Nat.le_of_ble_eq_true rfl⟩) (x_pre h.1 gk_c0 (by decide) rfl rfl _) rfl hl.1 rfl (Nat.le_of_ble_eq_true rfl) dL_alone_7 ⟨Nat.le_of_ble_eq_true rfl, Nat.le_of_ble_eq_true rfl⟩ [] ⟨0, 12, 15, 19⟩ [⟨0, 12, 19, 21⟩] htab (fun z hz => absurd hz List.not_mem_nil) (by decide) (by decide) (hts (Cond.classLink RL 19 xIO) (by decide +kernel)) (by decide +kernel) (fun q H1 locs1 hP1 hS1 => ?_)
  refine lv_astore (lv' := [(5, .ref q), (0, .ref (L 0)), (1, .int p0), (2, .int p1), (3, .int p2), (4, .ref o)]) hx hb dL_alone_15 hl (by decide) rfl (fun ls hl => ?_)
  refine lv_iconst (v := 1) hx hb dL_alone_17 (by decide) ?_
  exact h_ret hx hb hr hlocks (h_front hP1) hS1 rfl dL_alone_18
set_option maxHeartbeats 4000000 in
set_option maxRecDepth 100000 in
theorem h_alone_x2 (l : Launch) (D : va_G) (L : Nat → Nat) (cy : Nat → ClassId) (cl : ClassId) (X : va_W) (o : Nat) (A : Nat → Prop) (f : Nat → Int64) (st : gSt) (hD : va_D A ((X ++ [lA cl o f]) ++ gW L cy st)) (p0 : Int32) (p1 : Int32) (p2 : Int32) (hM : xMi l yX6_alone wsX6_alone { frames := 10, cells := 1, slots := 6, locals := 300 } D L cy (X ++ [lA cl o f]) A [.ref (L 0), .int p0, .int p1, .int p2] st xIA) : hMt l yL_alone wsL_alone { frames := 11, cells := 1, slots := 6, locals := 330 } D L cy cl X o A f st [.ref (L 0), .int p0, .int p1, .int p2, .ref o] 2 f 1 6 := by
  refine h_entry hD (cc := cL_alone) (maxL := 6) (hh := [(0, 12, 15, 19), (0, 12, 19, 21)]) (by decide +kernel) rfl (Nat.le_of_ble_eq_true rfl) ?_
  intro p e s m args below meth c ls B
  obtain ⟨S, hr, hlocks, htab, h, hl⟩ := B
  have hx := S.1
  have hb := S.2.1
  have hts := S.2.2.2.2
  have hl : lv_has ls 6 [(0, .ref (L 0)), (1, .int p0), (2, .int p1), (3, .int p2), (4, .ref o)] := hl
  refine lv_aload hx hb dL_alone_0 (lv_at hl 4 rfl) ?_
  refine lv_iconst (v := 0) hx hb dL_alone_2 (by decide) ?_
  refine lv_aload_n hx hb dL_alone_3 rfl (lv_at hl 0 rfl) ?_
  refine lv_iload_n hx hb dL_alone_4 rfl (lv_at hl 1 rfl) ?_
  refine lv_iload_n hx hb dL_alone_5 rfl (lv_at hl 2 rfl) ?_
  refine lv_iload_n hx hb dL_alone_6 rfl (lv_at hl 3 rfl) ?_
  refine h_callx S h.1 hM (cwV 3 hts gL_alone_X6_alone rfl rfl rfl (by decide +kernel) ⟨Nat.le_of_ble_eq_true rfl, Nat.le_of_ble_eq_true rfl⟩) (x_pre h.1 gk_c0 (by decide) rfl rfl _) rfl hl.1 rfl (Nat.le_of_ble_eq_true rfl) dL_alone_7 ⟨Nat.le_of_ble_eq_true rfl, Nat.le_of_ble_eq_true rfl⟩ [⟨0, 12, 15, 19⟩] ⟨0, 12, 19, 21⟩ [] htab (List.forall_mem_cons.mpr ⟨Or.inr ⟨by decide, xIO, hts (Cond.classLink RL 19 xIO) (by decide +kernel), h.2.2.1⟩, fun z hz => absurd hz List.not_mem_nil⟩) (by decide) (by decide) (hts (Cond.classLink RL 21 xIA) (by decide +kernel)) (by decide +kernel) (fun q H1 locs1 hP1 hS1 => ?_)
  refine lv_astore (lv' := [(5, .ref q), (0, .ref (L 0)), (1, .int p0), (2, .int p1), (3, .int p2), (4, .ref o)]) hx hb dL_alone_19 hl (by decide) rfl (fun ls hl => ?_)
  refine lv_iconst (v := 2) hx hb dL_alone_21 (by decide) ?_
  exact h_ret hx hb hr hlocks (h_front hP1) hS1 rfl dL_alone_22
