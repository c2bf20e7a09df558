set_option maxHeartbeats 8000000 in
set_option maxRecDepth 100000 in
/-- Pool.changeWorkerCount(count) -/
theorem c_X1_changeWorkerCount (l : Launch) (D : va_G) (L : Nat → Nat) (cy : Nat → ClassId) (X : va_W) (A : Nat → Prop) (st : gSt) (hD : va_D A (X ++ gW L cy st)) {P : Nat} (hP : gkd P = 5) (c0 : Int32)  : gMv l yX1_changeWorkerCount wsX1_changeWorkerCount { frames := 2, cells := 0, slots := 0, locals := 43 } D L cy X A [.ref (L P), .int c0] st (f_X1_changeWorkerCount st P c0) := by
  refine g_entry hD (cc := cX1_changeWorkerCount) (maxL := 3) (ret := none) (by decide +kernel) rfl (Nat.le_of_ble_eq_true rfl) ?_
  intro p e s m args below meth c ls B
  obtain ⟨S, hr, hlocks, h, hl⟩ := B
  have hx := S.1
  have hb := S.2.1
  have hts := S.2.2.2.2
  have in1 : ∀ w ∈ wsX10, w ∈ wsX1_changeWorkerCount := by decide +kernel
  have hl : lv_has ls 3 [(0, .ref (L P)), (1, .int c0)] := hl
  refine lv_aload_n hx hb dX1_changeWorkerCount_0 rfl (lv_at hl 0 rfl) ?_
  refine g_get S h hP (by decide) rfl rfl in1 (k := 6) (by decide) (by decide +kernel) rfl dX1_changeWorkerCount_1 ?_
  refine lv_topi (fun x1 ex1 => ?_)
  refine lv_istore_n (lv' := [(2, .int x1), (0, .ref (L P)), (1, .int c0)]) hx hb dX1_changeWorkerCount_4 rfl hl (by decide) rfl (fun ls hl => ?_)
  have loopL1 : ∀ (nL1 : Nat) (st1 : gSt) (x : Int32), ((c0.toInt - x.toInt).toNat < nL1) → ∀ (H : Heap) (locs : List Loc) (ls : Array Slot), gH D L cy X A st1 s H locs → lv_has ls 3 [(2, .int x), (0, .ref (L P)), (1, .int c0)] → W p l e { frames := 2, cells := 0, slots := 0, locals := 43 } s m args below meth c H locs 0 0 (MQ below (va_Qv (fun (_ : Unit) => True) (fun _ zt => va_P D vwCl (X ++ gW L cy (f_X1_changeWorkerCount_L1 P c0 nL1 st1 x)) zt.heap) A) args s 0 0 A) (F0 m 5 ls []) := by
    intro nL1
    induction nL1 with
    | zero => intros; omega
    | succ nL1 ihL1 =>
      intro st1 x hn H locs ls h hl
      refine lv_iload_n hx hb dX1_changeWorkerCount_5 rfl (lv_at hl 0 rfl) ?_
      refine lv_iload_n hx hb dX1_changeWorkerCount_6 rfl (lv_at hl 2 rfl) ?_
      refine lv_icmp_ge (tgt := 24) hx hb dX1_changeWorkerCount_7 (by decide) (fun c2 => ?_) (fun c2 => ?_)
      · refine lv_aload_n hx hb dX1_changeWorkerCount_24 rfl (lv_at hl 1 rfl) ?_
        refine lv_iload_n hx hb dX1_changeWorkerCount_25 rfl (lv_at hl 2 rfl) ?_
        refine g_put S h tyX1 tyX1_ok nmX1 hP (by decide) rfl rfl in1 (k := 6) (by decide) (by decide +kernel) rfl rfl (Nat.le_of_ble_eq_true rfl) rfl dX1_changeWorkerCount_26 (fun H locs h => ?_)
        exact g_retv S h hr hlocks (by first | (simp only [f_X1_changeWorkerCount_L1, if_pos c2]; done) | (simp only [f_X1_changeWorkerCount_L1, if_pos c2]; rfl) | rfl) dX1_changeWorkerCount_29
      · refine lv_aload_n hx hb dX1_changeWorkerCount_10 rfl (lv_at hl 1 rfl) ?_
        refine lv_iload_n hx hb dX1_changeWorkerCount_11 rfl (lv_at hl 0 rfl) ?_
        refine g_callr S h (c_X1_workerAt l D L cy X A _ (h.2.2.2.2 _) hP _) (cwV 1 hts gX1_changeWorkerCount_X1_workerAt rfl rfl rfl (by decide +kernel) ⟨Nat.le_of_ble_eq_true rfl, Nat.le_of_ble_eq_true rfl⟩) (g_pre h hP (by decide) rfl rfl _) rfl hl.1 rfl (Nat.le_of_ble_eq_true rfl) dX1_changeWorkerCount_12 ⟨Nat.zero_le _, Nat.zero_le _⟩ (fun H locs h => ?_)
        refine g_callv S h (c_X5_begin l D L cy X A _ (h.2.2.2.2 _) (gk_wk hP _)) (cwV 0 hts gX1_changeWorkerCount_X5_begin rfl rfl rfl (by decide +kernel) ⟨Nat.le_of_ble_eq_true rfl, Nat.le_of_ble_eq_true rfl⟩) (g_pre h (gk_wk hP _) (by decide) rfl rfl _) rfl hl.1 rfl (Nat.le_of_ble_eq_true rfl) dX1_changeWorkerCount_15 ⟨Nat.zero_le _, Nat.zero_le _⟩ (fun H locs h => ?_)
        obtain ⟨x5, ex5⟩ : ∃ zz : Int32, zz = x + 1 := ⟨_, rfl⟩
        refine lv_iinc (v := x5) (lv' := [(2, .int x5), (0, .ref (L P)), (1, .int c0)]) hx hb dX1_changeWorkerCount_18 hl (k := 0) rfl (by rw [ex5]; rfl) (by decide) rfl (fun ls hl => ?_)
        refine lv_goto (tgt := 5) hx hb dX1_changeWorkerCount_21 (by decide) ?_
        exact g_cvv (by subst ex5; first | (simp only [f_X1_changeWorkerCount_L1, if_neg c2]; done) | (simp only [f_X1_changeWorkerCount_L1, if_neg c2]; rfl) | rfl) (ihL1 _ x5 (Nat.lt_of_lt_of_le (g_ms ex5 c2) (Nat.le_of_lt_succ hn)) _ _ ls h (lv_sub hl [0, 1, 2] rfl))
  exact g_cvv (by subst ex1; first | (simp only [f_X1_changeWorkerCount]; done) | (simp only [f_X1_changeWorkerCount]; rfl) | rfl) (loopL1 _ _ x1 (Nat.lt_add_one _) _ _ ls h (lv_sub hl [0, 1, 2] rfl))
set_option maxHeartbeats 8000000 in
set_option maxRecDepth 100000 in
/-- Pool.free(task) -/
theorem c_X1_free (l : Launch) (D : va_G) (L : Nat → Nat) (cy : Nat → ClassId) (X : va_W) (A : Nat → Prop) (st : gSt) (hD : va_D A (X ++ gW L cy st)) {P : Nat} (hP : gkd P = 5) {t : Nat} (ht : gkd t = 7)  : gMv l yX1_free wsX1_free { frames := 1, cells := 0, slots := 0, locals := 22 } D L cy X A [.ref (L P), .ref (L t)] st (f_X1_free st P t) := by
  refine g_entry hD (cc := cX1_free) (maxL := 3) (ret := none) (by decide +kernel) rfl (Nat.le_of_ble_eq_true rfl) ?_
  intro p e s m args below meth c ls B
  obtain ⟨S, hr, hlocks, h, hl⟩ := B
  have hx := S.1
  have hb := S.2.1
  have hts := S.2.2.2.2
  have in1 : ∀ w ∈ wsX10, w ∈ wsX1_free := by decide +kernel
  have in4 : ∀ w ∈ wsX40, w ∈ wsX1_free := by decide +kernel
  have in5 : ∀ w ∈ wsX50, w ∈ wsX1_free := by decide +kernel
  have hl : lv_has ls 3 [(0, .ref (L P)), (1, .ref (L t))] := hl
  refine lv_iconst (v := 0) hx hb dX1_free_0 (by decide) ?_
  refine lv_istore_n (lv' := [(2, .int 0), (0, .ref (L P)), (1, .ref (L t))]) hx hb dX1_free_1 rfl hl (by decide) rfl (fun ls hl => ?_)
  have loopL1 : ∀ (nL1 : Nat) (st1 : gSt) (x : Int32), (((st1 P 6).toInt - x.toInt).toNat < nL1) → ∀ (H : Heap) (locs : List Loc) (ls : Array Slot), gH D L cy X A st1 s H locs → lv_has ls 3 [(2, .int x), (0, .ref (L P)), (1, .ref (L t))] → W p l e { frames := 1, cells := 0, slots := 0, locals := 22 } s m args below meth c H locs 0 0 (MQ below (va_Qv (fun (_ : Unit) => True) (fun _ zt => va_P D vwCl (X ++ gW L cy (f_X1_free_L1 P t nL1 st1 x)) zt.heap) A) args s 0 0 A) (F0 m 2 ls []) := by
    intro nL1
    induction nL1 with
    | zero => intros; omega
    | succ nL1 ihL1 =>
      intro st1 x hn H locs ls h hl
      refine lv_iload_n hx hb dX1_free_2 rfl (lv_at hl 0 rfl) ?_
      refine lv_aload_n hx hb dX1_free_3 rfl (lv_at hl 1 rfl) ?_
      refine g_get S h hP (by decide) rfl rfl in1 (k := 6) (by decide) (by decide +kernel) rfl dX1_free_4 ?_
      refine lv_icmp_ge (tgt := 40) hx hb dX1_free_7 (by decide) (fun c1 => ?_) (fun c1 => ?_)
      · refine lv_aload_n hx hb dX1_free_40 rfl (lv_at hl 2 rfl) ?_
        refine lv_iconst (v := 0) hx hb dX1_free_41 (by decide) ?_
        refine g_putN S h tyX4 tyX4_ok nmX4 ht (by decide) rfl rfl in4 (k := 2) (by decide) (by decide +kernel) rfl rfl (Nat.le_of_ble_eq_true rfl) rfl dX1_free_42 (fun H locs h => ?_)
        refine lv_aload_n hx hb dX1_free_45 rfl (lv_at hl 1 rfl) ?_
        refine lv_aload_n hx hb dX1_free_46 rfl (lv_at hl 2 rfl) ?_
        refine g_getN S h ht (by decide) rfl rfl in4 (k := 10) (by decide) (by decide +kernel) rfl dX1_free_47 ?_
        refine g_callr S h (c_X1_workerAt l D L cy X A _ (h.2.2.2.2 _) hP _) (cwV 1 hts gX1_free_X1_workerAt rfl rfl rfl (by decide +kernel) ⟨Nat.le_of_ble_eq_true rfl, Nat.le_of_ble_eq_true rfl⟩) (g_pre h hP (by decide) rfl rfl _) rfl hl.1 rfl (Nat.le_of_ble_eq_true rfl) dX1_free_50 ⟨Nat.zero_le _, Nat.zero_le _⟩ (fun H locs h => ?_)
        refine g_getN S h (gk_wk hP _) (by decide) rfl rfl in5 (k := 0) (by decide) (by decide +kernel) rfl dX1_free_53 ?_
        refine lv_aload_n hx hb dX1_free_56 rfl (lv_at hl 2 rfl) ?_
        refine g_getN S h ht (by decide) rfl rfl in4 (k := 0) (by decide) (by decide +kernel) rfl dX1_free_57 ?_
        refine g_callv S h (c_X2_append l D L cy X A _ (h.2.2.2.2 _) (gk9_1 (gk_wk hP _)) _) (cwV 1 hts gX1_free_X2_append rfl rfl rfl (by decide +kernel) ⟨Nat.le_of_ble_eq_true rfl, Nat.le_of_ble_eq_true rfl⟩) (g_pre h (gk9_1 (gk_wk hP _)) (by decide) rfl rfl _) rfl hl.1 rfl (Nat.le_of_ble_eq_true rfl) dX1_free_60 ⟨Nat.zero_le _, Nat.zero_le _⟩ (fun H locs h => ?_)
        exact g_retv S h hr hlocks (by first | (simp only [f_X1_free_L1, if_pos c1]; done) | (simp only [f_X1_free_L1, if_pos c1]; rfl) | rfl) dX1_free_63
      · refine lv_aload_n hx hb dX1_free_10 rfl (lv_at hl 1 rfl) ?_
        refine lv_iload_n hx hb dX1_free_11 rfl (lv_at hl 0 rfl) ?_
        refine g_callr S h (c_X1_workerAt l D L cy X A _ (h.2.2.2.2 _) hP _) (cwV 1 hts gX1_free_X1_workerAt rfl rfl rfl (by decide +kernel) ⟨Nat.le_of_ble_eq_true rfl, Nat.le_of_ble_eq_true rfl⟩) (g_pre h hP (by decide) rfl rfl _) rfl hl.1 rfl (Nat.le_of_ble_eq_true rfl) dX1_free_12 ⟨Nat.zero_le _, Nat.zero_le _⟩ (fun H locs h => ?_)
        refine g_getN S h (gk_wk hP _) (by decide) rfl rfl in5 (k := 1) (by decide) (by decide +kernel) rfl dX1_free_15 ?_
        refine lv_aload_n hx hb dX1_free_18 rfl (lv_at hl 2 rfl) ?_
        refine g_getN S h ht (by decide) rfl rfl in4 (k := 0) (by decide) (by decide +kernel) rfl dX1_free_19 ?_
        refine g_calli S h (c_X2_has l D L cy X A _ (h.2.2.2.2 _) (gk9_3 (gk_wk hP _)) _) (cwV 1 hts gX1_free_X2_has rfl rfl rfl (by decide +kernel) ⟨Nat.le_of_ble_eq_true rfl, Nat.le_of_ble_eq_true rfl⟩) (g_pre h (gk9_3 (gk_wk hP _)) (by decide) rfl rfl _) rfl hl.1 rfl (Nat.le_of_ble_eq_true rfl) dX1_free_22 ⟨Nat.zero_le _, Nat.zero_le _⟩ (fun H locs h => ?_)
        refine lv_if_eq (tgt := 34) hx hb dX1_free_25 (by decide) (fun c4 => ?_) (fun c4 => ?_)
        · obtain ⟨x5, ex5⟩ : ∃ zz : Int32, zz = x + 1 := ⟨_, rfl⟩
          refine lv_iinc (v := x5) (lv' := [(2, .int x5), (0, .ref (L P)), (1, .ref (L t))]) hx hb dX1_free_34 hl (k := 0) rfl (by rw [ex5]; rfl) (by decide) rfl (fun ls hl => ?_)
          refine lv_goto (tgt := 2) hx hb dX1_free_37 (by decide) ?_
          exact g_cvv (by subst ex5; first | (simp only [f_X1_free_L1, if_neg c1, if_pos c4]; done) | (simp only [f_X1_free_L1, if_neg c1, if_pos c4]; rfl) | rfl) (ihL1 _ x5 (Nat.lt_of_lt_of_le (g_ms ex5 c1) (Nat.le_of_lt_succ hn)) _ _ ls h (lv_sub hl [0, 1, 2] rfl))
        · refine lv_aload_n hx hb dX1_free_28 rfl (lv_at hl 2 rfl) ?_
          refine lv_iconst (v := 1) hx hb dX1_free_29 (by decide) ?_
          refine g_putN S h tyX4 tyX4_ok nmX4 ht (by decide) rfl rfl in4 (k := 2) (by decide) (by decide +kernel) rfl rfl (Nat.le_of_ble_eq_true rfl) rfl dX1_free_30 (fun H locs h => ?_)
          exact g_retv S h hr hlocks (by first | (simp only [f_X1_free_L1, if_neg c1, if_neg c4]; done) | (simp only [f_X1_free_L1, if_neg c1, if_neg c4]; rfl) | rfl) dX1_free_33
  exact g_cvv (by first | (simp only [f_X1_free]; done) | (simp only [f_X1_free]; rfl) | rfl) (loopL1 _ _ 0 (Nat.lt_add_one _) _ _ ls h (lv_sub hl [0, 1, 2] rfl))
set_option maxHeartbeats 8000000 in
set_option maxRecDepth 100000 in
/-- Pool.block(w, task, state) -/
theorem c_X1_block (l : Launch) (D : va_G) (L : Nat → Nat) (cy : Nat → ClassId) (X : va_W) (A : Nat → Prop) (st : gSt) (hD : va_D A (X ++ gW L cy st)) {P : Nat} (hP : gkd P = 5) (a : Int32) {t : Nat} (ht : gkd t = 7) (sq : Int32)  : gMv l yX1_block wsX1_block { frames := 1, cells := 0, slots := 0, locals := 23 } D L cy X A [.ref (L P), .int a, .ref (L t), .int sq] st (f_X1_block st P a t sq) := by
  refine g_entry hD (cc := cX1_block) (maxL := 4) (ret := none) (by decide +kernel) rfl (Nat.le_of_ble_eq_true rfl) ?_
  intro p e s m args below meth c ls B
  obtain ⟨S, hr, hlocks, h, hl⟩ := B
  have hx := S.1
  have hb := S.2.1
  have hts := S.2.2.2.2
  have in1 : ∀ w ∈ wsX10, w ∈ wsX1_block := by decide +kernel
  have in4 : ∀ w ∈ wsX40, w ∈ wsX1_block := by decide +kernel
  have in5 : ∀ w ∈ wsX50, w ∈ wsX1_block := by decide +kernel
  have hl : lv_has ls 4 [(0, .ref (L P)), (1, .int a), (2, .ref (L t)), (3, .int sq)] := hl
  refine lv_aload_n hx hb dX1_block_0 rfl (lv_at hl 2 rfl) ?_
  refine lv_iload_n hx hb dX1_block_1 rfl (lv_at hl 3 rfl) ?_
  refine g_putN S h tyX4 tyX4_ok nmX4 ht (by decide) rfl rfl in4 (k := 2) (by decide) (by decide +kernel) rfl rfl (Nat.le_of_ble_eq_true rfl) rfl dX1_block_2 (fun H locs h => ?_)
  refine lv_aload_n hx hb dX1_block_5 rfl (lv_at hl 2 rfl) ?_
  refine lv_iload_n hx hb dX1_block_6 rfl (lv_at hl 1 rfl) ?_
  refine g_putN S h tyX4 tyX4_ok nmX4 ht (by decide) rfl rfl in4 (k := 10) (by decide) (by decide +kernel) rfl rfl (Nat.le_of_ble_eq_true rfl) rfl dX1_block_7 (fun H locs h => ?_)
  refine lv_aload_n hx hb dX1_block_10 rfl (lv_at hl 0 rfl) ?_
  refine g_get S h hP (by decide) rfl rfl in1 (k := 9) (by decide) (by decide +kernel) rfl dX1_block_11 ?_
  refine lv_if_ne (tgt := 32) hx hb dX1_block_14 (by decide) (fun c3 => ?_) (fun c3 => ?_)
  · exact g_retv S h hr hlocks (by first | (simp only [f_X1_block, if_neg c3]; done) | (simp only [f_X1_block, if_neg c3]; rfl) | rfl) dX1_block_32
  · refine lv_aload_n hx hb dX1_block_17 rfl (lv_at hl 0 rfl) ?_
    refine lv_iload_n hx hb dX1_block_18 rfl (lv_at hl 1 rfl) ?_
    refine g_callr S h (c_X1_workerAt l D L cy X A _ (h.2.2.2.2 _) hP _) (cwV 1 hts gX1_block_X1_workerAt rfl rfl rfl (by decide +kernel) ⟨Nat.le_of_ble_eq_true rfl, Nat.le_of_ble_eq_true rfl⟩) (g_pre h hP (by decide) rfl rfl _) rfl hl.1 rfl (Nat.le_of_ble_eq_true rfl) dX1_block_19 ⟨Nat.zero_le _, Nat.zero_le _⟩ (fun H locs h => ?_)
    refine g_getN S h (gk_wk hP _) (by decide) rfl rfl in5 (k := 1) (by decide) (by decide +kernel) rfl dX1_block_22 ?_
    refine lv_aload_n hx hb dX1_block_25 rfl (lv_at hl 2 rfl) ?_
    refine g_getN S h ht (by decide) rfl rfl in4 (k := 0) (by decide) (by decide +kernel) rfl dX1_block_26 ?_
    refine g_callv S h (c_X2_remove l D L cy X A _ (h.2.2.2.2 _) (gk9_3 (gk_wk hP _)) _) (cwV 1 hts gX1_block_X2_remove rfl rfl rfl (by decide +kernel) ⟨Nat.le_of_ble_eq_true rfl, Nat.le_of_ble_eq_true rfl⟩) (g_pre h (gk9_3 (gk_wk hP _)) (by decide) rfl rfl _) rfl hl.1 rfl (Nat.le_of_ble_eq_true rfl) dX1_block_29 ⟨Nat.zero_le _, Nat.zero_le _⟩ (fun H locs h => ?_)
    exact g_retv S h hr hlocks (by first | (simp only [f_X1_block, if_pos c3]; done) | (simp only [f_X1_block, if_pos c3]; rfl) | rfl) dX1_block_32
set_option maxHeartbeats 8000000 in
set_option maxRecDepth 100000 in
/-- Pool.newTask(job, parent) -/
theorem c_X1_newTask (l : Launch) (D : va_G) (L : Nat → Nat) (cy : Nat → ClassId) (X : va_W) (A : Nat → Prop) (st : gSt) (hD : va_D A (X ++ gW L cy st)) {P : Nat} (hP : gkd P = 5) (a : Int32) (b : Int32)  : gMr l yX1_newTask wsX1_newTask { frames := 1, cells := 0, slots := 0, locals := 22 } D L cy X A [.ref (L P), .int a, .int b] st (f_X1_newTask st P a b).1 (f_X1_newTask st P a b).2 := by
  refine g_entry hD (cc := cX1_newTask) (maxL := 4) (ret := (some (.object "BobbinPool$Task"))) (by decide +kernel) rfl (Nat.le_of_ble_eq_true rfl) ?_
  intro p e s m args below meth c ls B
  obtain ⟨S, hr, hlocks, h, hl⟩ := B
  have hx := S.1
  have hb := S.2.1
  have hts := S.2.2.2.2
  have in1 : ∀ w ∈ wsX10, w ∈ wsX1_newTask := by decide +kernel
  have hl : lv_has ls 4 [(0, .ref (L P)), (1, .int a), (2, .int b)] := hl
  refine lv_aload_n hx hb dX1_newTask_0 rfl (lv_at hl 0 rfl) ?_
  refine lv_aload_n hx hb dX1_newTask_1 rfl (lv_at hl 0 rfl) ?_
  refine g_get S h hP (by decide) rfl rfl in1 (k := 3) (by decide) (by decide +kernel) rfl dX1_newTask_2 ?_
  refine g_callr S h (c_X1_taskAt l D L cy X A _ (h.2.2.2.2 _) hP _) (cwV 1 hts gX1_newTask_X1_taskAt rfl rfl rfl (by decide +kernel) ⟨Nat.le_of_ble_eq_true rfl, Nat.le_of_ble_eq_true rfl⟩) (g_pre h hP (by decide) rfl rfl _) rfl hl.1 rfl (Nat.le_of_ble_eq_true rfl) dX1_newTask_5 ⟨Nat.zero_le _, Nat.zero_le _⟩ (fun H locs h => ?_)
  refine g_topr (fun i1 ei1 => ?_)
  have hki1 : gkd i1 = 7 := by rw [ei1]; exact (gk_tk hP _)
  refine lv_astore_n (lv' := [(3, .ref (L i1)), (0, .ref (L P)), (1, .int a), (2, .int b)]) hx hb dX1_newTask_8 rfl hl (by decide) rfl (fun ls hl => ?_)
  refine lv_aload_n hx hb dX1_newTask_9 rfl (lv_at hl 1 rfl) ?_
  refine lv_dup hx hb dX1_newTask_10 rfl ?_
  refine g_get S h hP (by decide) rfl rfl in1 (k := 3) (by decide) (by decide +kernel) rfl dX1_newTask_11 ?_
  refine lv_iconst (v := 1) hx hb dX1_newTask_14 (by decide) ?_
  refine lv_iadd hx hb dX1_newTask_15 ?_
  refine g_put S h tyX1 tyX1_ok nmX1 hP (by decide) rfl rfl in1 (k := 3) (by decide) (by decide +kernel) rfl rfl (Nat.le_of_ble_eq_true rfl) rfl dX1_newTask_16 (fun H locs h => ?_)
  refine lv_aload_n hx hb dX1_newTask_19 rfl (lv_at hl 0 rfl) ?_
  refine lv_iload_n hx hb dX1_newTask_20 rfl (lv_at hl 2 rfl) ?_
  refine lv_iload_n hx hb dX1_newTask_21 rfl (lv_at hl 3 rfl) ?_
  refine g_callv S h (c_X4_begin l D L cy X A _ (h.2.2.2.2 _) hki1 _ _) (cwV 2 hts gX1_newTask_X4_begin rfl rfl rfl (by decide +kernel) ⟨Nat.le_of_ble_eq_true rfl, Nat.le_of_ble_eq_true rfl⟩) (g_pre h hki1 (by decide) rfl rfl _) rfl hl.1 rfl (Nat.le_of_ble_eq_true rfl) dX1_newTask_22 ⟨Nat.zero_le _, Nat.zero_le _⟩ (fun H locs h => ?_)
  refine lv_aload_n hx hb dX1_newTask_25 rfl (lv_at hl 0 rfl) ?_
  exact g_retr S h hr hlocks (by subst ei1; first | (simp only [f_X1_newTask]; done) | (simp only [f_X1_newTask]; rfl) | rfl) (by subst ei1; first | (simp only [f_X1_newTask]; done) | (simp only [f_X1_newTask]; rfl) | rfl) dX1_newTask_26
theorem gk_new {P : Nat} (hP : gkd P = 5) (st : gSt) (a b : Int32) : gkd (f_X1_newTask st P a b).1 = 7 := gk_tk hP _
set_option maxHeartbeats 8000000 in
set_option maxRecDepth 100000 in
/-- Pool.askFor(job) -/
theorem c_X1_askFor (l : Launch) (D : va_G) (L : Nat → Nat) (cy : Nat → ClassId) (X : va_W) (A : Nat → Prop) (st : gSt) (hD : va_D A (X ++ gW L cy st)) {P : Nat} (hP : gkd P = 5) (a : Int32)  : gMi l yX1_askFor wsX1_askFor { frames := 2, cells := 0, slots := 0, locals := 45 } D L cy X A [.ref (L P), .int a] st (f_X1_askFor st P a).1 (f_X1_askFor st P a).2 := by
  refine g_entry hD (cc := cX1_askFor) (maxL := 3) (ret := (some .int)) (by decide +kernel) rfl (Nat.le_of_ble_eq_true rfl) ?_
  intro p e s m args below meth c ls B
  obtain ⟨S, hr, hlocks, h, hl⟩ := B
  have hx := S.1
  have hb := S.2.1
  have hts := S.2.2.2.2
  have in1 : ∀ w ∈ wsX10, w ∈ wsX1_askFor := by decide +kernel
  have in4 : ∀ w ∈ wsX40, w ∈ wsX1_askFor := by decide +kernel
  have hl : lv_has ls 3 [(0, .ref (L P)), (1, .int a)] := hl
  refine lv_aload_n hx hb dX1_askFor_0 rfl (lv_at hl 0 rfl) ?_
  refine lv_iload_n hx hb dX1_askFor_1 rfl (lv_at hl 1 rfl) ?_
  refine lv_iconst (v := (-1)) hx hb dX1_askFor_2 (by decide) ?_
  refine g_callr S h (c_X1_newTask l D L cy X A _ (h.2.2.2.2 _) hP _ _) (cwV 2 hts gX1_askFor_X1_newTask rfl rfl rfl (by decide +kernel) ⟨Nat.le_of_ble_eq_true rfl, Nat.le_of_ble_eq_true rfl⟩) (g_pre h hP (by decide) rfl rfl _) rfl hl.1 rfl (Nat.le_of_ble_eq_true rfl) dX1_askFor_3 ⟨Nat.zero_le _, Nat.zero_le _⟩ (fun H locs h => ?_)
  refine g_topr (fun i2 ei2 => ?_)
  have hki2 : gkd i2 = 7 := by rw [ei2]; exact (gk_new hP _ _ _)
  refine lv_astore_n (lv' := [(2, .ref (L i2)), (0, .ref (L P)), (1, .int a)]) hx hb dX1_askFor_6 rfl hl (by decide) rfl (fun ls hl => ?_)
  refine lv_aload_n hx hb dX1_askFor_7 rfl (lv_at hl 1 rfl) ?_
  refine g_get S h hP (by decide) rfl rfl in1 (k := 7) (by decide) (by decide +kernel) rfl dX1_askFor_8 ?_
  refine lv_aload_n hx hb dX1_askFor_11 rfl (lv_at hl 0 rfl) ?_
  refine g_getN S h hki2 (by decide) rfl rfl in4 (k := 0) (by decide) (by decide +kernel) rfl dX1_askFor_12 ?_
  refine g_callv S h (c_X2_append l D L cy X A _ (h.2.2.2.2 _) (gk5_10 hP) _) (cwV 1 hts gX1_askFor_X2_append rfl rfl rfl (by decide +kernel) ⟨Nat.le_of_ble_eq_true rfl, Nat.le_of_ble_eq_true rfl⟩) (g_pre h (gk5_10 hP) (by decide) rfl rfl _) rfl hl.1 rfl (Nat.le_of_ble_eq_true rfl) dX1_askFor_15 ⟨Nat.zero_le _, Nat.zero_le _⟩ (fun H locs h => ?_)
  refine lv_aload_n hx hb dX1_askFor_18 rfl (lv_at hl 0 rfl) ?_
  refine g_getN S h hki2 (by decide) rfl rfl in4 (k := 0) (by decide) (by decide +kernel) rfl dX1_askFor_19 ?_
  exact g_reti S h hr hlocks rfl (by subst ei2; first | (simp only [f_X1_askFor]; done) | (simp only [f_X1_askFor]; rfl) | rfl) (by subst ei2; first | (simp only [f_X1_askFor]; done) | (simp only [f_X1_askFor]; rfl) | rfl) dX1_askFor_22
theorem f_rml_fr {st : gSt} {i : Nat} {x : Int32} {a b : Nat} (h : a ≠ i + 1) : ∀ k, (f_rml st i x k).1 a b = st a b
  | 0 => rfl
  | k + 1 => by
    have ih := f_rml_fr (st := st) (i := i) (x := x) (b := b) h k
    unfold f_rml
    split
    · exact ih
    · show gsu _ (i + 1) _ _ a b = _
      rw [gsu_ni h]
      exact ih
theorem f_rm_fr {st : gSt} {i : Nat} {x : Int32} {a b : Nat} (hi : gkd i = 10) (h : gkd a ≠ 10) (h2 : gkd a ≠ 11) : f_rm st i x a b = st a b := by
  have h3 : a ≠ i := fun e => h (by rw [e]; exact hi)
  have h4 : a ≠ i + 1 := fun e => h2 (by rw [e]; exact gk10_1 hi)
  unfold f_rm
  rw [gsu_ni h3, f_rml_fr h4]
theorem f_append_fr {st : gSt} {i : Nat} {x : Int32} {a b : Nat} (hi : gkd i = 10) (h : gkd a ≠ 10) (h2 : gkd a ≠ 11) : f_append st i x a b = st a b := by
  have h3 : a ≠ i := fun e => h (by rw [e]; exact hi)
  have h4 : a ≠ i + 1 := fun e => h2 (by rw [e]; exact gk10_1 hi)
  unfold f_append
  split
  · rfl
  · split
    · rfl
    · rw [gsu_ni h3, gsu_ni h4]
set_option maxHeartbeats 8000000 in
set_option maxRecDepth 100000 in
/-- Pool.end(task, state) -/
theorem c_X1_end (l : Launch) (D : va_G) (L : Nat → Nat) (cy : Nat → ClassId) (X : va_W) (A : Nat → Prop) (st : gSt) (hD : va_D A (X ++ gW L cy st)) {P : Nat} (hP : gkd P = 5) {t : Nat} (ht : gkd t = 7) (sq : Int32)  : gMv l yX1_end wsX1_end { frames := 2, cells := 0, slots := 0, locals := 44 } D L cy X A [.ref (L P), .ref (L t), .int sq] st (f_X1_end st P t sq) := by
  refine g_entry hD (cc := cX1_end) (maxL := 5) (ret := none) (by decide +kernel) rfl (Nat.le_of_ble_eq_true rfl) ?_
  intro p e s m args below meth c ls B
  obtain ⟨S, hr, hlocks, h, hl⟩ := B
  have hx := S.1
  have hb := S.2.1
  have hts := S.2.2.2.2
  have in1 : ∀ w ∈ wsX10, w ∈ wsX1_end := by decide +kernel
  have in4 : ∀ w ∈ wsX40, w ∈ wsX1_end := by decide +kernel
  have in5 : ∀ w ∈ wsX50, w ∈ wsX1_end := by decide +kernel
  have hl : lv_has ls 5 [(0, .ref (L P)), (1, .ref (L t)), (2, .int sq)] := hl
  refine lv_aload_n hx hb dX1_end_0 rfl (lv_at hl 1 rfl) ?_
  refine lv_iload_n hx hb dX1_end_1 rfl (lv_at hl 2 rfl) ?_
  refine g_putN S h tyX4 tyX4_ok nmX4 ht (by decide) rfl rfl in4 (k := 2) (by decide) (by decide +kernel) rfl rfl (Nat.le_of_ble_eq_true rfl) rfl dX1_end_2 (fun H locs h => ?_)
  refine lv_aload_n hx hb dX1_end_5 rfl (lv_at hl 1 rfl) ?_
  refine lv_aload_n hx hb dX1_end_6 rfl (lv_at hl 0 rfl) ?_
  refine g_get S h hP (by decide) rfl rfl in1 (k := 11) (by decide) (by decide +kernel) rfl dX1_end_7 ?_
  refine g_putN S h tyX4 tyX4_ok nmX4 ht (by decide) rfl rfl in4 (k := 7) (by decide) (by decide +kernel) rfl rfl (Nat.le_of_ble_eq_true rfl) rfl dX1_end_10 (fun H locs h => ?_)
  refine lv_aload_n hx hb dX1_end_13 rfl (lv_at hl 0 rfl) ?_
  refine g_get S h hP (by decide) rfl rfl in1 (k := 7) (by decide) (by decide +kernel) rfl dX1_end_14 ?_
  refine lv_aload_n hx hb dX1_end_17 rfl (lv_at hl 1 rfl) ?_
  refine g_getN S h ht (by decide) rfl rfl in4 (k := 0) (by decide) (by decide +kernel) rfl dX1_end_18 ?_
  refine g_callv S h (c_X2_remove l D L cy X A _ (h.2.2.2.2 _) (gk5_10 hP) _) (cwV 1 hts gX1_end_X2_remove rfl rfl rfl (by decide +kernel) ⟨Nat.le_of_ble_eq_true rfl, Nat.le_of_ble_eq_true rfl⟩) (g_pre h (gk5_10 hP) (by decide) rfl rfl _) rfl hl.1 rfl (Nat.le_of_ble_eq_true rfl) dX1_end_21 ⟨Nat.zero_le _, Nat.zero_le _⟩ (fun H locs h => ?_)
  refine lv_iconst (v := 0) hx hb dX1_end_24 (by decide) ?_
  refine lv_istore_n (lv' := [(3, .int 0), (0, .ref (L P)), (1, .ref (L t)), (2, .int sq)]) hx hb dX1_end_25 rfl hl (by decide) rfl (fun ls hl => ?_)
  have loopL1 : ∀ (nL1 : Nat) (st1 : gSt) (x : Int32), (((st1 P 6).toInt - x.toInt).toNat < nL1) → ∀ (H : Heap) (locs : List Loc) (ls : Array Slot), gH D L cy X A st1 s H locs → lv_has ls 5 [(3, .int x), (0, .ref (L P)), (1, .ref (L t)), (2, .int sq)] → W p l e { frames := 2, cells := 0, slots := 0, locals := 44 } s m args below meth c H locs 0 0 (MQ below (va_Qv (fun (_ : Unit) => True) (fun _ zt => va_P D vwCl (X ++ gW L cy (f_X1_end_L1 P t sq nL1 st1 x)) zt.heap) A) args s 0 0 A) (F0 m 26 ls []) := by
    intro nL1
    induction nL1 with
    | zero => intros; omega
    | succ nL1 ihL1 =>
      intro st1 x hn H locs ls h hl
      refine lv_iload_n hx hb dX1_end_26 rfl (lv_at hl 0 rfl) ?_
      refine lv_aload_n hx hb dX1_end_27 rfl (lv_at hl 1 rfl) ?_
      refine g_get S h hP (by decide) rfl rfl in1 (k := 6) (by decide) (by decide +kernel) rfl dX1_end_28 ?_
      refine lv_icmp_ge (tgt := 71) hx hb dX1_end_31 (by decide) (fun c4 => ?_) (fun c4 => ?_)
      · refine lv_aload_n hx hb dX1_end_71 rfl (lv_at hl 1 rfl) ?_
        refine lv_aload_n hx hb dX1_end_72 rfl (lv_at hl 2 rfl) ?_
        refine g_getN S h ht (by decide) rfl rfl in4 (k := 5) (by decide) (by decide +kernel) rfl dX1_end_73 ?_
        refine g_callr S h (c_X1_taskAt l D L cy X A _ (h.2.2.2.2 _) hP _) (cwV 1 hts gX1_end_X1_taskAt rfl rfl rfl (by decide +kernel) ⟨Nat.le_of_ble_eq_true rfl, Nat.le_of_ble_eq_true rfl⟩) (g_pre h hP (by decide) rfl rfl _) rfl hl.1 rfl (Nat.le_of_ble_eq_true rfl) dX1_end_76 ⟨Nat.zero_le _, Nat.zero_le _⟩ (fun H locs h => ?_)
        refine g_topr (fun i5 ei5 => ?_)
        have hki5 : gkd i5 = 7 := by rw [ei5]; exact (gk_tk hP _)
        refine lv_astore_n (lv' := [(3, .ref (L i5)), (0, .ref (L P)), (1, .ref (L t)), (2, .int sq)]) hx hb dX1_end_79 rfl hl (by decide) rfl (fun ls hl => ?_)
        refine lv_aload_n hx hb dX1_end_80 rfl (lv_at hl 0 rfl) ?_
        refine g_getN S h hki5 (by decide) rfl rfl in4 (k := 2) (by decide) (by decide +kernel) rfl dX1_end_81 ?_
        refine lv_iconst (v := 2) hx hb dX1_end_84 (by decide) ?_
        refine lv_icmp_ne (tgt := 104) hx hb dX1_end_85 (by decide) (fun c6 => ?_) (fun c6 => ?_)
        · exact g_retv S h hr hlocks (by subst ei5; first | (simp only [f_X1_end_L1, if_pos c4, if_neg c6]; done) | (simp only [f_X1_end_L1, if_pos c4, if_neg c6]; rfl) | rfl) dX1_end_104
        · refine lv_aload_n hx hb dX1_end_88 rfl (lv_at hl 0 rfl) ?_
          refine g_calli S h (c_X4_lastChild l D L cy X A _ (h.2.2.2.2 _) hki5) (cwV 0 hts gX1_end_X4_lastChild rfl rfl rfl (by decide +kernel) ⟨Nat.le_of_ble_eq_true rfl, Nat.le_of_ble_eq_true rfl⟩) (g_pre h hki5 (by decide) rfl rfl _) rfl hl.1 rfl (Nat.le_of_ble_eq_true rfl) dX1_end_89 ⟨Nat.zero_le _, Nat.zero_le _⟩ (fun H locs h => ?_)
          refine lv_aload_n hx hb dX1_end_92 rfl (lv_at hl 2 rfl) ?_
          refine g_getN S h ht (by decide) rfl rfl in4 (k := 0) (by decide) (by decide +kernel) rfl dX1_end_93 ?_
          refine lv_icmp_ne (tgt := 104) hx hb dX1_end_96 (by decide) (fun c7 => ?_) (fun c7 => ?_)
          · exact g_retv S h hr hlocks (by subst ei5; first | (simp only [f_X1_end_L1, if_pos c4, if_pos c6, if_neg c7]; done) | (simp only [f_X1_end_L1, if_pos c4, if_pos c6, if_neg c7]; rfl) | rfl) dX1_end_104
          · refine lv_aload_n hx hb dX1_end_99 rfl (lv_at hl 1 rfl) ?_
            refine lv_aload_n hx hb dX1_end_100 rfl (lv_at hl 0 rfl) ?_
            refine g_callv S h (c_X1_free l D L cy X A _ (h.2.2.2.2 _) hP hki5) (cwV 1 hts gX1_end_X1_free rfl rfl rfl (by decide +kernel) ⟨Nat.le_of_ble_eq_true rfl, Nat.le_of_ble_eq_true rfl⟩) (g_pre h hP (by decide) rfl rfl _) rfl hl.1 rfl (Nat.le_of_ble_eq_true rfl) dX1_end_101 ⟨Nat.zero_le _, Nat.zero_le _⟩ (fun H locs h => ?_)
            exact g_retv S h hr hlocks (by subst ei5; first | (simp only [f_X1_end_L1, if_pos c4, if_pos c6, if_pos c7]; done) | (simp only [f_X1_end_L1, if_pos c4, if_pos c6, if_pos c7]; rfl) | rfl) dX1_end_104
      · refine lv_aload_n hx hb dX1_end_34 rfl (lv_at hl 1 rfl) ?_
        refine lv_iload_n hx hb dX1_end_35 rfl (lv_at hl 0 rfl) ?_
        refine g_callr S h (c_X1_workerAt l D L cy X A _ (h.2.2.2.2 _) hP _) (cwV 1 hts gX1_end_X1_workerAt rfl rfl rfl (by decide +kernel) ⟨Nat.le_of_ble_eq_true rfl, Nat.le_of_ble_eq_true rfl⟩) (g_pre h hP (by decide) rfl rfl _) rfl hl.1 rfl (Nat.le_of_ble_eq_true rfl) dX1_end_36 ⟨Nat.zero_le _, Nat.zero_le _⟩ (fun H locs h => ?_)
        refine g_topr (fun i9 ei9 => ?_)
        have hki9 : gkd i9 = 9 := by rw [ei9]; exact (gk_wk hP _)
        refine lv_astore (lv' := [(4, .ref (L i9)), (3, .int x), (0, .ref (L P)), (1, .ref (L t)), (2, .int sq)]) hx hb dX1_end_39 hl (by decide) rfl (fun ls hl => ?_)
        refine lv_aload hx hb dX1_end_41 (lv_at hl 0 rfl) ?_
        refine g_getN S h hki9 (by decide) rfl rfl in5 (k := 0) (by decide) (by decide +kernel) rfl dX1_end_43 ?_
        refine lv_aload_n hx hb dX1_end_46 rfl (lv_at hl 3 rfl) ?_
        refine g_getN S h ht (by decide) rfl rfl in4 (k := 0) (by decide) (by decide +kernel) rfl dX1_end_47 ?_
        refine g_callv S h (c_X2_remove l D L cy X A _ (h.2.2.2.2 _) (gk9_1 hki9) _) (cwV 1 hts gX1_end_X2_remove rfl rfl rfl (by decide +kernel) ⟨Nat.le_of_ble_eq_true rfl, Nat.le_of_ble_eq_true rfl⟩) (g_pre h (gk9_1 hki9) (by decide) rfl rfl _) rfl hl.1 rfl (Nat.le_of_ble_eq_true rfl) dX1_end_50 ⟨Nat.zero_le _, Nat.zero_le _⟩ (fun H locs h => ?_)
        refine lv_aload hx hb dX1_end_53 (lv_at hl 0 rfl) ?_
        refine g_getN S h hki9 (by decide) rfl rfl in5 (k := 1) (by decide) (by decide +kernel) rfl dX1_end_55 ?_
        refine lv_aload_n hx hb dX1_end_58 rfl (lv_at hl 3 rfl) ?_
        refine g_getN S h ht (by decide) rfl rfl in4 (k := 0) (by decide) (by decide +kernel) rfl dX1_end_59 ?_
        refine g_callv S h (c_X2_remove l D L cy X A _ (h.2.2.2.2 _) (gk9_3 hki9) _) (cwV 1 hts gX1_end_X2_remove rfl rfl rfl (by decide +kernel) ⟨Nat.le_of_ble_eq_true rfl, Nat.le_of_ble_eq_true rfl⟩) (g_pre h (gk9_3 hki9) (by decide) rfl rfl _) rfl hl.1 rfl (Nat.le_of_ble_eq_true rfl) dX1_end_62 ⟨Nat.zero_le _, Nat.zero_le _⟩ (fun H locs h => ?_)
        obtain ⟨x12, ex12⟩ : ∃ zz : Int32, zz = x + 1 := ⟨_, rfl⟩
        refine lv_iinc (v := x12) (lv' := [(3, .int x12), (4, .ref (L i9)), (0, .ref (L P)), (1, .ref (L t)), (2, .int sq)]) hx hb dX1_end_65 hl (k := 1) rfl (by rw [ex12]; rfl) (by decide) rfl (fun ls hl => ?_)
        refine lv_goto (tgt := 26) hx hb dX1_end_68 (by decide) ?_
        exact g_cvv (by subst ex12 ei9; first | (simp only [f_X1_end_L1, if_neg c4]; done) | (simp only [f_X1_end_L1, if_neg c4]; rfl) | rfl) (ihL1 _ x12 (by rw [f_rm_fr (gk9_3 hki9) (by rw [hP]; decide) (by rw [hP]; decide), f_rm_fr (gk9_1 hki9) (by rw [hP]; decide) (by rw [hP]; decide)]; exact Nat.lt_of_lt_of_le (g_ms ex12 c4) (Nat.le_of_lt_succ hn)) _ _ ls h (lv_sub hl [0, 2, 3, 4] rfl))
  exact g_cvv (by first | (simp only [f_X1_end]; done) | (simp only [f_X1_end]; rfl) | rfl) (loopL1 _ _ 0 (Nat.lt_add_one _) _ _ ls h (lv_sub hl [0, 1, 2, 3] rfl))
set_option maxHeartbeats 8000000 in
set_option maxRecDepth 100000 in
/-- Pool.take(w, worker) -/
theorem c_X1_take (l : Launch) (D : va_G) (L : Nat → Nat) (cy : Nat → ClassId) (X : va_W) (A : Nat → Prop) (st : gSt) (hD : va_D A (X ++ gW L cy st)) {P : Nat} (hP : gkd P = 5) (a : Int32) {w : Nat} (hw : gkd w = 9)  : gMi l yX1_take wsX1_take { frames := 4, cells := 0, slots := 0, locals := 87 } D L cy X A [.ref (L P), .int a, .ref (L w)] st (f_X1_take st P a w).1 (f_X1_take st P a w).2 := by
  refine g_entry hD (cc := cX1_take) (maxL := 6) (ret := (some .boolean)) (by decide +kernel) rfl (Nat.le_of_ble_eq_true rfl) ?_
  intro p e s m args below meth c ls B
  obtain ⟨S, hr, hlocks, h, hl⟩ := B
  have hx := S.1
  have hb := S.2.1
  have hts := S.2.2.2.2
  have in4 : ∀ w ∈ wsX40, w ∈ wsX1_take := by decide +kernel
  have in5 : ∀ w ∈ wsX50, w ∈ wsX1_take := by decide +kernel
  have hl : lv_has ls 6 [(0, .ref (L P)), (1, .int a), (2, .ref (L w))] := hl
  have join50 : ∀ (st1 : gSt) (x : Int32) (y : Int32) (r : Nat) (hkr : gkd r = 10) (H : Heap) (locs : List Loc) (ls : Array Slot), gH D L cy X A st1 s H locs → lv_has ls 6 [(0, .ref (L P)), (1, .int a), (2, .ref (L w)), (3, .int x), (4, .ref (L r))] → W p l e { frames := 4, cells := 0, slots := 0, locals := 87 } s m args below meth c H locs 0 0 (MQ below (va_Qi (fun (zq : Int32) (_ : Unit) => zq = (f_X1_take_J50 P a w st1 x y r).1) (fun _ zt => va_P D vwCl (X ++ gW L cy (f_X1_take_J50 P a w st1 x y r).2) zt.heap) A) args s 0 0 A) (F0 m 50 ls [.int y]) := by
    intro st1 x y r hkr H locs ls h hl
    refine lv_istore (lv' := [(5, .int y), (0, .ref (L P)), (1, .int a), (2, .ref (L w)), (3, .int x), (4, .ref (L r))]) hx hb dX1_take_50 hl (by decide) rfl (fun ls hl => ?_)
    refine lv_aload hx hb dX1_take_52 (lv_at hl 5 rfl) ?_
    refine lv_iload hx hb dX1_take_54 (lv_at hl 0 rfl) ?_
    refine g_callv S h (c_X2_remove l D L cy X A _ (h.2.2.2.2 _) hkr _) (cwV 1 hts gX1_take_X2_remove rfl rfl rfl (by decide +kernel) ⟨Nat.le_of_ble_eq_true rfl, Nat.le_of_ble_eq_true rfl⟩) (g_pre h hkr (by decide) rfl rfl _) rfl hl.1 rfl (Nat.le_of_ble_eq_true rfl) dX1_take_56 ⟨Nat.zero_le _, Nat.zero_le _⟩ (fun H locs h => ?_)
    refine lv_aload_n hx hb dX1_take_59 rfl (lv_at hl 3 rfl) ?_
    refine g_getN S h hw (by decide) rfl rfl in5 (k := 1) (by decide) (by decide +kernel) rfl dX1_take_60 ?_
    refine lv_iload hx hb dX1_take_63 (lv_at hl 0 rfl) ?_
    refine g_callv S h (c_X2_append l D L cy X A _ (h.2.2.2.2 _) (gk9_3 hw) _) (cwV 1 hts gX1_take_X2_append rfl rfl rfl (by decide +kernel) ⟨Nat.le_of_ble_eq_true rfl, Nat.le_of_ble_eq_true rfl⟩) (g_pre h (gk9_3 hw) (by decide) rfl rfl _) rfl hl.1 rfl (Nat.le_of_ble_eq_true rfl) dX1_take_65 ⟨Nat.zero_le _, Nat.zero_le _⟩ (fun H locs h => ?_)
    refine lv_aload_n hx hb dX1_take_68 rfl (lv_at hl 1 rfl) ?_
    refine lv_iload hx hb dX1_take_69 (lv_at hl 0 rfl) ?_
    refine g_callr S h (c_X1_taskAt l D L cy X A _ (h.2.2.2.2 _) hP _) (cwV 1 hts gX1_take_X1_taskAt rfl rfl rfl (by decide +kernel) ⟨Nat.le_of_ble_eq_true rfl, Nat.le_of_ble_eq_true rfl⟩) (g_pre h hP (by decide) rfl rfl _) rfl hl.1 rfl (Nat.le_of_ble_eq_true rfl) dX1_take_71 ⟨Nat.zero_le _, Nat.zero_le _⟩ (fun H locs h => ?_)
    refine lv_iconst (v := 1) hx hb dX1_take_74 (by decide) ?_
    refine g_putN S h tyX4 tyX4_ok nmX4 (gk_tk hP _) (by decide) rfl rfl in4 (k := 2) (by decide) (by decide +kernel) rfl rfl (Nat.le_of_ble_eq_true rfl) rfl dX1_take_75 (fun H locs h => ?_)
    refine lv_iload_n hx hb dX1_take_78 rfl (lv_at hl 4 rfl) ?_
    refine lv_iload_n hx hb dX1_take_79 rfl (lv_at hl 2 rfl) ?_
    refine lv_icmp_eq (tgt := 88) hx hb dX1_take_80 (by decide) (fun c4 => ?_) (fun c4 => ?_)
    · refine lv_iconst (v := 1) hx hb dX1_take_88 (by decide) ?_
      exact g_reti S h hr hlocks rfl (by first | (simp only [f_X1_take_J50, if_pos c4]; done) | (simp only [f_X1_take_J50, if_pos c4]; rfl) | rfl) (by first | (simp only [f_X1_take_J50, if_pos c4]; done) | (simp only [f_X1_take_J50, if_pos c4]; rfl) | rfl) dX1_take_89
    · refine lv_iload_n hx hb dX1_take_83 rfl (lv_at hl 4 rfl) ?_
      refine lv_iconst (v := (-1)) hx hb dX1_take_84 (by decide) ?_
      refine lv_icmp_ne (tgt := 90) hx hb dX1_take_85 (by decide) (fun c5 => ?_) (fun c5 => ?_)
      · refine lv_aload_n hx hb dX1_take_90 rfl (lv_at hl 3 rfl) ?_
        refine lv_dup hx hb dX1_take_91 rfl ?_
        refine g_getN S h hw (by decide) rfl rfl in5 (k := 4) (by decide) (by decide +kernel) rfl dX1_take_92 ?_
        refine lv_iconst (v := 1) hx hb dX1_take_95 (by decide) ?_
        refine lv_iadd hx hb dX1_take_96 ?_
        refine g_putN S h tyX5 tyX5_ok nmX5 hw (by decide) rfl rfl in5 (k := 4) (by decide) (by decide +kernel) rfl rfl (Nat.le_of_ble_eq_true rfl) rfl dX1_take_97 (fun H locs h => ?_)
        refine lv_iconst (v := 0) hx hb dX1_take_100 (by decide) ?_
        exact g_reti S h hr hlocks rfl (by first | (simp only [f_X1_take_J50, if_neg c4, if_neg c5]; done) | (simp only [f_X1_take_J50, if_neg c4, if_neg c5]; rfl) | rfl) (by first | (simp only [f_X1_take_J50, if_neg c4, if_neg c5]; done) | (simp only [f_X1_take_J50, if_neg c4, if_neg c5]; rfl) | rfl) dX1_take_101
      · refine lv_iconst (v := 1) hx hb dX1_take_88 (by decide) ?_
        exact g_reti S h hr hlocks rfl (by first | (simp only [f_X1_take_J50, if_neg c4, if_pos c5]; done) | (simp only [f_X1_take_J50, if_neg c4, if_pos c5]; rfl) | rfl) (by first | (simp only [f_X1_take_J50, if_neg c4, if_pos c5]; done) | (simp only [f_X1_take_J50, if_neg c4, if_pos c5]; rfl) | rfl) dX1_take_89
  refine lv_aload_n hx hb dX1_take_0 rfl (lv_at hl 0 rfl) ?_
  refine lv_iload_n hx hb dX1_take_1 rfl (lv_at hl 1 rfl) ?_
  refine g_calli S h (c_X1_sourceFor l D L cy X A _ (h.2.2.2.2 _) hP _) (cwV 1 hts gX1_take_X1_sourceFor rfl rfl rfl (by decide +kernel) ⟨Nat.le_of_ble_eq_true rfl, Nat.le_of_ble_eq_true rfl⟩) (g_pre h hP (by decide) rfl rfl _) rfl hl.1 rfl (Nat.le_of_ble_eq_true rfl) dX1_take_2 ⟨Nat.zero_le _, Nat.zero_le _⟩ (fun H locs h => ?_)
  refine lv_topi (fun x7 ex7 => ?_)
  refine lv_istore_n (lv' := [(3, .int x7), (0, .ref (L P)), (1, .int a), (2, .ref (L w))]) hx hb dX1_take_5 rfl hl (by decide) rfl (fun ls hl => ?_)
  refine lv_iload_n hx hb dX1_take_6 rfl (lv_at hl 0 rfl) ?_
  refine lv_bipush (v := (-2)) hx hb dX1_take_7 (by decide) ?_
  refine lv_icmp_ne (tgt := 24) hx hb dX1_take_9 (by decide) (fun c8 => ?_) (fun c8 => ?_)
  · refine lv_aload_n hx hb dX1_take_24 rfl (lv_at hl 1 rfl) ?_
    refine lv_iload_n hx hb dX1_take_25 rfl (lv_at hl 0 rfl) ?_
    refine g_callr S h (c_X1_rowOf l D L cy X A _ (h.2.2.2.2 _) hP _) (cwV 1 hts gX1_take_X1_rowOf rfl rfl rfl (by decide +kernel) ⟨Nat.le_of_ble_eq_true rfl, Nat.le_of_ble_eq_true rfl⟩) (g_pre h hP (by decide) rfl rfl _) rfl hl.1 rfl (Nat.le_of_ble_eq_true rfl) dX1_take_26 ⟨Nat.zero_le _, Nat.zero_le _⟩ (fun H locs h => ?_)
    refine g_topr (fun i9 ei9 => ?_)
    have hki9 : gkd i9 = 10 := by rw [ei9]; exact (gk_row hP _)
    refine lv_astore (lv' := [(4, .ref (L i9)), (3, .int x7), (0, .ref (L P)), (1, .int a), (2, .ref (L w))]) hx hb dX1_take_29 hl (by decide) rfl (fun ls hl => ?_)
    refine lv_iload_n hx hb dX1_take_31 rfl (lv_at hl 1 rfl) ?_
    refine lv_iload_n hx hb dX1_take_32 rfl (lv_at hl 3 rfl) ?_
    refine lv_icmp_ne (tgt := 44) hx hb dX1_take_33 (by decide) (fun c10 => ?_) (fun c10 => ?_)
    · refine lv_aload hx hb dX1_take_44 (lv_at hl 0 rfl) ?_
      refine lv_iconst (v := 0) hx hb dX1_take_46 (by decide) ?_
      refine g_calli S h (c_X2_at l D L cy X A _ (h.2.2.2.2 _) hki9 _) (cwV 1 hts gX1_take_X2_at rfl rfl rfl (by decide +kernel) ⟨Nat.le_of_ble_eq_true rfl, Nat.le_of_ble_eq_true rfl⟩) (g_pre h hki9 (by decide) rfl rfl _) rfl hl.1 rfl (Nat.le_of_ble_eq_true rfl) dX1_take_47 ⟨Nat.zero_le _, Nat.zero_le _⟩ (fun H locs h => ?_)
      exact g_cvi (by subst ei9 ex7; first | (simp only [f_X1_take, if_neg c8, if_neg c10]; done) | (simp only [f_X1_take, if_neg c8, if_neg c10]; rfl) | rfl) (by subst ei9 ex7; first | (simp only [f_X1_take, if_neg c8, if_neg c10]; done) | (simp only [f_X1_take, if_neg c8, if_neg c10]; rfl) | rfl) (join50 _ _ _ _ hki9 _ _ ls h (lv_sub hl [2, 3, 4, 1, 0] rfl))
    · refine lv_aload hx hb dX1_take_36 (lv_at hl 0 rfl) ?_
      refine g_calli S h (c_X2_last l D L cy X A _ (h.2.2.2.2 _) hki9) (cwV 0 hts gX1_take_X2_last rfl rfl rfl (by decide +kernel) ⟨Nat.le_of_ble_eq_true rfl, Nat.le_of_ble_eq_true rfl⟩) (g_pre h hki9 (by decide) rfl rfl _) rfl hl.1 rfl (Nat.le_of_ble_eq_true rfl) dX1_take_38 ⟨Nat.zero_le _, Nat.zero_le _⟩ (fun H locs h => ?_)
      refine lv_goto (tgt := 50) hx hb dX1_take_41 (by decide) ?_
      exact g_cvi (by subst ei9 ex7; first | (simp only [f_X1_take, if_neg c8, if_pos c10]; done) | (simp only [f_X1_take, if_neg c8, if_pos c10]; rfl) | rfl) (by subst ei9 ex7; first | (simp only [f_X1_take, if_neg c8, if_pos c10]; done) | (simp only [f_X1_take, if_neg c8, if_pos c10]; rfl) | rfl) (join50 _ _ _ _ hki9 _ _ ls h (lv_sub hl [2, 3, 4, 1, 0] rfl))
  · refine lv_aload_n hx hb dX1_take_12 rfl (lv_at hl 3 rfl) ?_
    refine lv_dup hx hb dX1_take_13 rfl ?_
    refine g_getN S h hw (by decide) rfl rfl in5 (k := 3) (by decide) (by decide +kernel) rfl dX1_take_14 ?_
    refine lv_iconst (v := 1) hx hb dX1_take_17 (by decide) ?_
    refine lv_iadd hx hb dX1_take_18 ?_
    refine g_putN S h tyX5 tyX5_ok nmX5 hw (by decide) rfl rfl in5 (k := 3) (by decide) (by decide +kernel) rfl rfl (Nat.le_of_ble_eq_true rfl) rfl dX1_take_19 (fun H locs h => ?_)
    refine lv_iconst (v := 0) hx hb dX1_take_22 (by decide) ?_
    exact g_reti S h hr hlocks rfl (by subst ex7; first | (simp only [f_X1_take, if_pos c8]; done) | (simp only [f_X1_take, if_pos c8]; rfl) | rfl) (by subst ex7; first | (simp only [f_X1_take, if_pos c8]; done) | (simp only [f_X1_take, if_pos c8]; rfl) | rfl) dX1_take_23
set_option maxHeartbeats 8000000 in
set_option maxRecDepth 100000 in
/-- Pool.work(w, task, n) -/
theorem c_X1_work (l : Launch) (D : va_G) (L : Nat → Nat) (cy : Nat → ClassId) (X : va_W) (A : Nat → Prop) (st : gSt) (hD : va_D A (X ++ gW L cy st)) {P : Nat} (hP : gkd P = 5) (a : Int32) {t : Nat} (ht : gkd t = 7) (n0 : Int32)  : gMi l yX1_work wsX1_work { frames := 2, cells := 0, slots := 0, locals := 44 } D L cy X A [.ref (L P), .int a, .ref (L t), .int n0] st (f_X1_work st P a t n0).1 (f_X1_work st P a t n0).2 := by
  refine g_entry hD (cc := cX1_work) (maxL := 5) (ret := (some .boolean)) (by decide +kernel) rfl (Nat.le_of_ble_eq_true rfl) ?_
  intro p e s m args below meth c ls B
  obtain ⟨S, hr, hlocks, h, hl⟩ := B
  have hx := S.1
  have hb := S.2.1
  have hts := S.2.2.2.2
  have in1 : ∀ w ∈ wsX10, w ∈ wsX1_work := by decide +kernel
  have in4 : ∀ w ∈ wsX40, w ∈ wsX1_work := by decide +kernel
  have in5 : ∀ w ∈ wsX50, w ∈ wsX1_work := by decide +kernel
  have hl : lv_has ls 5 [(0, .ref (L P)), (1, .int a), (2, .ref (L t)), (3, .int n0)] := hl
  refine lv_aload_n hx hb dX1_work_0 rfl (lv_at hl 0 rfl) ?_
  refine lv_iload_n hx hb dX1_work_1 rfl (lv_at hl 1 rfl) ?_
  refine g_callr S h (c_X1_workerAt l D L cy X A _ (h.2.2.2.2 _) hP _) (cwV 1 hts gX1_work_X1_workerAt rfl rfl rfl (by decide +kernel) ⟨Nat.le_of_ble_eq_true rfl, Nat.le_of_ble_eq_true rfl⟩) (g_pre h hP (by decide) rfl rfl _) rfl hl.1 rfl (Nat.le_of_ble_eq_true rfl) dX1_work_2 ⟨Nat.zero_le _, Nat.zero_le _⟩ (fun H locs h => ?_)
  refine g_topr (fun i1 ei1 => ?_)
  have hki1 : gkd i1 = 9 := by rw [ei1]; exact (gk_wk hP _)
  refine lv_astore (lv' := [(4, .ref (L i1)), (0, .ref (L P)), (1, .int a), (2, .ref (L t)), (3, .int n0)]) hx hb dX1_work_5 hl (by decide) rfl (fun ls hl => ?_)
  refine lv_aload hx hb dX1_work_7 (lv_at hl 0 rfl) ?_
  refine lv_dup hx hb dX1_work_9 rfl ?_
  refine g_getN S h hki1 (by decide) rfl rfl in5 (k := 2) (by decide) (by decide +kernel) rfl dX1_work_10 ?_
  refine lv_iconst (v := 1) hx hb dX1_work_13 (by decide) ?_
  refine lv_iadd hx hb dX1_work_14 ?_
  refine g_putN S h tyX5 tyX5_ok nmX5 hki1 (by decide) rfl rfl in5 (k := 2) (by decide) (by decide +kernel) rfl rfl (Nat.le_of_ble_eq_true rfl) rfl dX1_work_15 (fun H locs h => ?_)
  refine lv_aload hx hb dX1_work_18 (lv_at hl 0 rfl) ?_
  refine lv_aload_n hx hb dX1_work_20 rfl (lv_at hl 1 rfl) ?_
  refine g_get S h hP (by decide) rfl rfl in1 (k := 11) (by decide) (by decide +kernel) rfl dX1_work_21 ?_
  refine lv_aload_n hx hb dX1_work_24 rfl (lv_at hl 3 rfl) ?_
  refine g_getN S h ht (by decide) rfl rfl in4 (k := 0) (by decide) (by decide +kernel) rfl dX1_work_25 ?_
  refine g_callv S h (c_X5_noteRan l D L cy X A _ (h.2.2.2.2 _) hki1 _ _) (cwV 2 hts gX1_work_X5_noteRan rfl rfl rfl (by decide +kernel) ⟨Nat.le_of_ble_eq_true rfl, Nat.le_of_ble_eq_true rfl⟩) (g_pre h hki1 (by decide) rfl rfl _) rfl hl.1 rfl (Nat.le_of_ble_eq_true rfl) dX1_work_28 ⟨Nat.zero_le _, Nat.zero_le _⟩ (fun H locs h => ?_)
  refine lv_aload_n hx hb dX1_work_31 rfl (lv_at hl 3 rfl) ?_
  refine lv_dup hx hb dX1_work_32 rfl ?_
  refine g_getN S h ht (by decide) rfl rfl in4 (k := 9) (by decide) (by decide +kernel) rfl dX1_work_33 ?_
  refine lv_iconst (v := 1) hx hb dX1_work_36 (by decide) ?_
  refine lv_iadd hx hb dX1_work_37 ?_
  refine g_putN S h tyX4 tyX4_ok nmX4 ht (by decide) rfl rfl in4 (k := 9) (by decide) (by decide +kernel) rfl rfl (Nat.le_of_ble_eq_true rfl) rfl dX1_work_38 (fun H locs h => ?_)
  refine lv_aload_n hx hb dX1_work_41 rfl (lv_at hl 3 rfl) ?_
  refine lv_dup hx hb dX1_work_42 rfl ?_
  refine g_getN S h ht (by decide) rfl rfl in4 (k := 8) (by decide) (by decide +kernel) rfl dX1_work_43 ?_
  refine lv_iconst (v := 1) hx hb dX1_work_46 (by decide) ?_
  refine lv_iadd hx hb dX1_work_47 ?_
  refine g_putN S h tyX4 tyX4_ok nmX4 ht (by decide) rfl rfl in4 (k := 8) (by decide) (by decide +kernel) rfl rfl (Nat.le_of_ble_eq_true rfl) rfl dX1_work_48 (fun H locs h => ?_)
  refine lv_aload_n hx hb dX1_work_51 rfl (lv_at hl 3 rfl) ?_
  refine g_getN S h ht (by decide) rfl rfl in4 (k := 8) (by decide) (by decide +kernel) rfl dX1_work_52 ?_
  refine lv_iload_n hx hb dX1_work_55 rfl (lv_at hl 4 rfl) ?_
  refine lv_icmp_lt (tgt := 63) hx hb dX1_work_56 (by decide) (fun c6 => ?_) (fun c6 => ?_)
  · refine lv_iconst (v := 0) hx hb dX1_work_63 (by decide) ?_
    exact g_reti S h hr hlocks rfl (by subst ei1; first | (simp only [f_X1_work, if_pos c6]; done) | (simp only [f_X1_work, if_pos c6]; rfl) | rfl) (by subst ei1; first | (simp only [f_X1_work, if_pos c6]; done) | (simp only [f_X1_work, if_pos c6]; rfl) | rfl) dX1_work_64
  · refine lv_iconst (v := 1) hx hb dX1_work_59 (by decide) ?_
    refine lv_goto (tgt := 64) hx hb dX1_work_60 (by decide) ?_
    exact g_reti S h hr hlocks rfl (by subst ei1; first | (simp only [f_X1_work, if_neg c6]; done) | (simp only [f_X1_work, if_neg c6]; rfl) | rfl) (by subst ei1; first | (simp only [f_X1_work, if_neg c6]; done) | (simp only [f_X1_work, if_neg c6]; rfl) | rfl) dX1_work_64
set_option maxHeartbeats 8000000 in
set_option maxRecDepth 100000 in
/-- Pool.advance(task, size) -/
theorem c_X1_advance (l : Launch) (D : va_G) (L : Nat → Nat) (cy : Nat → ClassId) (X : va_W) (A : Nat → Prop) (st : gSt) (hD : va_D A (X ++ gW L cy st)) {P : Nat} (hP : gkd P = 5) {t : Nat} (ht : gkd t = 7) (n0 : Int32)  : gMv l yX1_advance wsX1_advance { frames := 3, cells := 0, slots := 0, locals := 68 } D L cy X A [.ref (L P), .ref (L t), .int n0] st (f_X1_advance st P t n0) := by
  refine g_entry hD (cc := cX1_advance) (maxL := 3) (ret := none) (by decide +kernel) rfl (Nat.le_of_ble_eq_true rfl) ?_
  intro p e s m args below meth c ls B
  obtain ⟨S, hr, hlocks, h, hl⟩ := B
  have hx := S.1
  have hb := S.2.1
  have hts := S.2.2.2.2
  have in4 : ∀ w ∈ wsX40, w ∈ wsX1_advance := by decide +kernel
  have hl : lv_has ls 3 [(0, .ref (L P)), (1, .ref (L t)), (2, .int n0)] := hl
  refine lv_aload_n hx hb dX1_advance_0 rfl (lv_at hl 1 rfl) ?_
  refine lv_aload_n hx hb dX1_advance_1 rfl (lv_at hl 1 rfl) ?_
  refine g_getN S h ht (by decide) rfl rfl in4 (k := 3) (by decide) (by decide +kernel) rfl dX1_advance_2 ?_
  refine lv_iconst (v := 1) hx hb dX1_advance_5 (by decide) ?_
  refine lv_iadd hx hb dX1_advance_6 ?_
  refine lv_iload_n hx hb dX1_advance_7 rfl (lv_at hl 2 rfl) ?_
  refine va_mmin hx hb (S.2.2.1.trans hl.1.symm) S.2.2.2.1 (hts (.methodLink RX1 258 Lib.Math.min.name) (by decide +kernel)) (hts (.static Lib.Math.min.name) (by decide +kernel)) (hts (.initialized "java/lang/Math") (by decide +kernel)) (hts (.code Lib.Math.min.name Lib.Math.min.code 2 (some .int)) (by decide +kernel)) (Nat.le_of_ble_eq_true rfl) (Nat.le_of_ble_eq_true rfl) (Nat.zero_le _) (Nat.zero_le _) dX1_advance_8 ?_
  refine g_putN S h tyX4 tyX4_ok nmX4 ht (by decide) rfl rfl in4 (k := 3) (by decide) (by decide +kernel) rfl rfl (Nat.le_of_ble_eq_true rfl) rfl dX1_advance_11 (fun H locs h => ?_)
  refine lv_aload_n hx hb dX1_advance_14 rfl (lv_at hl 1 rfl) ?_
  refine lv_iconst (v := 0) hx hb dX1_advance_15 (by decide) ?_
  refine g_putN S h tyX4 tyX4_ok nmX4 ht (by decide) rfl rfl in4 (k := 8) (by decide) (by decide +kernel) rfl rfl (Nat.le_of_ble_eq_true rfl) rfl dX1_advance_16 (fun H locs h => ?_)
  refine lv_aload_n hx hb dX1_advance_19 rfl (lv_at hl 1 rfl) ?_
  refine g_getN S h ht (by decide) rfl rfl in4 (k := 3) (by decide) (by decide +kernel) rfl dX1_advance_20 ?_
  refine lv_iload_n hx hb dX1_advance_23 rfl (lv_at hl 2 rfl) ?_
  refine lv_icmp_ne (tgt := 33) hx hb dX1_advance_24 (by decide) (fun c3 => ?_) (fun c3 => ?_)
  · exact g_retv S h hr hlocks (by first | (simp only [f_X1_advance, if_neg c3]; done) | (simp only [f_X1_advance, if_neg c3]; rfl) | rfl) dX1_advance_33
  · refine lv_aload_n hx hb dX1_advance_27 rfl (lv_at hl 0 rfl) ?_
    refine lv_aload_n hx hb dX1_advance_28 rfl (lv_at hl 1 rfl) ?_
    refine lv_iconst (v := 4) hx hb dX1_advance_29 (by decide) ?_
    refine g_callv S h (c_X1_end l D L cy X A _ (h.2.2.2.2 _) hP ht _) (cwV 2 hts gX1_advance_X1_end rfl rfl rfl (by decide +kernel) ⟨Nat.le_of_ble_eq_true rfl, Nat.le_of_ble_eq_true rfl⟩) (g_pre h hP (by decide) rfl rfl _) rfl hl.1 rfl (Nat.le_of_ble_eq_true rfl) dX1_advance_30 ⟨Nat.zero_le _, Nat.zero_le _⟩ (fun H locs h => ?_)
    exact g_retv S h hr hlocks (by first | (simp only [f_X1_advance, if_pos c3]; done) | (simp only [f_X1_advance, if_pos c3]; rfl) | rfl) dX1_advance_33
set_option maxHeartbeats 8000000 in
set_option maxRecDepth 100000 in
/-- Pool.fork(w, parent, job) -/
theorem c_X1_fork (l : Launch) (D : va_G) (L : Nat → Nat) (cy : Nat → ClassId) (X : va_W) (A : Nat → Prop) (st : gSt) (hD : va_D A (X ++ gW L cy st)) {P : Nat} (hP : gkd P = 5) (a : Int32) {t : Nat} (ht : gkd t = 7) (b : Int32)  : gMv l yX1_fork wsX1_fork { frames := 2, cells := 0, slots := 0, locals := 45 } D L cy X A [.ref (L P), .int a, .ref (L t), .int b] st (f_X1_fork st P a t b) := by
  refine g_entry hD (cc := cX1_fork) (maxL := 5) (ret := none) (by decide +kernel) rfl (Nat.le_of_ble_eq_true rfl) ?_
  intro p e s m args below meth c ls B
  obtain ⟨S, hr, hlocks, h, hl⟩ := B
  have hx := S.1
  have hb := S.2.1
  have hts := S.2.2.2.2
  have in1 : ∀ w ∈ wsX10, w ∈ wsX1_fork := by decide +kernel
  have in4 : ∀ w ∈ wsX40, w ∈ wsX1_fork := by decide +kernel
  have hl : lv_has ls 5 [(0, .ref (L P)), (1, .int a), (2, .ref (L t)), (3, .int b)] := hl
  refine lv_aload_n hx hb dX1_fork_0 rfl (lv_at hl 0 rfl) ?_
  refine g_get S h hP (by decide) rfl rfl in1 (k := 3) (by decide) (by decide +kernel) rfl dX1_fork_1 ?_
  refine lv_bipush (v := 24) hx hb dX1_fork_4 (by decide) ?_
  refine lv_icmp_lt (tgt := 10) hx hb dX1_fork_6 (by decide) (fun c1 => ?_) (fun c1 => ?_)
  · refine lv_aload_n hx hb dX1_fork_10 rfl (lv_at hl 0 rfl) ?_
    refine lv_iload_n hx hb dX1_fork_11 rfl (lv_at hl 3 rfl) ?_
    refine lv_aload_n hx hb dX1_fork_12 rfl (lv_at hl 2 rfl) ?_
    refine g_getN S h ht (by decide) rfl rfl in4 (k := 0) (by decide) (by decide +kernel) rfl dX1_fork_13 ?_
    refine g_callr S h (c_X1_newTask l D L cy X A _ (h.2.2.2.2 _) hP _ _) (cwV 2 hts gX1_fork_X1_newTask rfl rfl rfl (by decide +kernel) ⟨Nat.le_of_ble_eq_true rfl, Nat.le_of_ble_eq_true rfl⟩) (g_pre h hP (by decide) rfl rfl _) rfl hl.1 rfl (Nat.le_of_ble_eq_true rfl) dX1_fork_16 ⟨Nat.zero_le _, Nat.zero_le _⟩ (fun H locs h => ?_)
    refine g_topr (fun i3 ei3 => ?_)
    have hki3 : gkd i3 = 7 := by rw [ei3]; exact (gk_new hP _ _ _)
    refine lv_astore (lv' := [(4, .ref (L i3)), (0, .ref (L P)), (1, .int a), (2, .ref (L t)), (3, .int b)]) hx hb dX1_fork_19 hl (by decide) rfl (fun ls hl => ?_)
    refine lv_aload_n hx hb dX1_fork_21 rfl (lv_at hl 3 rfl) ?_
    refine lv_dup hx hb dX1_fork_22 rfl ?_
    refine g_getN S h ht (by decide) rfl rfl in4 (k := 6) (by decide) (by decide +kernel) rfl dX1_fork_23 ?_
    refine lv_iconst (v := 1) hx hb dX1_fork_26 (by decide) ?_
    refine lv_aload hx hb dX1_fork_27 (lv_at hl 0 rfl) ?_
    refine g_getN S h hki3 (by decide) rfl rfl in4 (k := 0) (by decide) (by decide +kernel) rfl dX1_fork_29 ?_
    refine lv_ishl hx hb dX1_fork_32 ?_
    refine lv_ior hx hb dX1_fork_33 ?_
    refine g_putN S h tyX4 tyX4_ok nmX4 ht (by decide) rfl rfl in4 (k := 6) (by decide) (by decide +kernel) rfl rfl (Nat.le_of_ble_eq_true rfl) rfl dX1_fork_34 (fun H locs h => ?_)
    refine lv_aload_n hx hb dX1_fork_37 rfl (lv_at hl 1 rfl) ?_
    refine lv_iload_n hx hb dX1_fork_38 rfl (lv_at hl 2 rfl) ?_
    refine g_callr S h (c_X1_rowOf l D L cy X A _ (h.2.2.2.2 _) hP _) (cwV 1 hts gX1_fork_X1_rowOf rfl rfl rfl (by decide +kernel) ⟨Nat.le_of_ble_eq_true rfl, Nat.le_of_ble_eq_true rfl⟩) (g_pre h hP (by decide) rfl rfl _) rfl hl.1 rfl (Nat.le_of_ble_eq_true rfl) dX1_fork_39 ⟨Nat.zero_le _, Nat.zero_le _⟩ (fun H locs h => ?_)
    refine lv_aload hx hb dX1_fork_42 (lv_at hl 0 rfl) ?_
    refine g_getN S h hki3 (by decide) rfl rfl in4 (k := 0) (by decide) (by decide +kernel) rfl dX1_fork_44 ?_
    refine g_callv S h (c_X2_append l D L cy X A _ (h.2.2.2.2 _) (gk_row hP _) _) (cwV 1 hts gX1_fork_X2_append rfl rfl rfl (by decide +kernel) ⟨Nat.le_of_ble_eq_true rfl, Nat.le_of_ble_eq_true rfl⟩) (g_pre h (gk_row hP _) (by decide) rfl rfl _) rfl hl.1 rfl (Nat.le_of_ble_eq_true rfl) dX1_fork_47 ⟨Nat.zero_le _, Nat.zero_le _⟩ (fun H locs h => ?_)
    exact g_retv S h hr hlocks (by subst ei3; first | (simp only [f_X1_fork, if_pos c1]; done) | (simp only [f_X1_fork, if_pos c1]; rfl) | rfl) dX1_fork_50
  · exact g_retv S h hr hlocks (by first | (simp only [f_X1_fork, if_neg c1]; done) | (simp only [f_X1_fork, if_neg c1]; rfl) | rfl) dX1_fork_9
set_option maxHeartbeats 8000000 in
set_option maxRecDepth 100000 in
/-- Pool.await(w, task, promise) -/
theorem c_X1_await (l : Launch) (D : va_G) (L : Nat → Nat) (cy : Nat → ClassId) (X : va_W) (A : Nat → Prop) (st : gSt) (hD : va_D A (X ++ gW L cy st)) {P : Nat} (hP : gkd P = 5) (a : Int32) {t : Nat} (ht : gkd t = 7) (b : Int32)  : gMi l yX1_await wsX1_await { frames := 2, cells := 0, slots := 0, locals := 46 } D L cy X A [.ref (L P), .int a, .ref (L t), .int b] st (f_X1_await st P a t b).1 (f_X1_await st P a t b).2 := by
  refine g_entry hD (cc := cX1_await) (maxL := 5) (ret := (some .boolean)) (by decide +kernel) rfl (Nat.le_of_ble_eq_true rfl) ?_
  intro p e s m args below meth c ls B
  obtain ⟨S, hr, hlocks, h, hl⟩ := B
  have hx := S.1
  have hb := S.2.1
  have hts := S.2.2.2.2
  have hl : lv_has ls 5 [(0, .ref (L P)), (1, .int a), (2, .ref (L t)), (3, .int b)] := hl
  refine lv_aload_n hx hb dX1_await_0 rfl (lv_at hl 0 rfl) ?_
  refine lv_iload_n hx hb dX1_await_1 rfl (lv_at hl 3 rfl) ?_
  refine g_calli S h (c_X1_promiseAt l D L cy X A _ (h.2.2.2.2 _) hP _) (cwV 1 hts gX1_await_X1_promiseAt rfl rfl rfl (by decide +kernel) ⟨Nat.le_of_ble_eq_true rfl, Nat.le_of_ble_eq_true rfl⟩) (g_pre h hP (by decide) rfl rfl _) rfl hl.1 rfl (Nat.le_of_ble_eq_true rfl) dX1_await_2 ⟨Nat.zero_le _, Nat.zero_le _⟩ (fun H locs h => ?_)
  refine lv_topi (fun x1 ex1 => ?_)
  refine lv_istore (lv' := [(4, .int x1), (0, .ref (L P)), (1, .int a), (2, .ref (L t)), (3, .int b)]) hx hb dX1_await_5 hl (by decide) rfl (fun ls hl => ?_)
  refine lv_iload hx hb dX1_await_7 (lv_at hl 0 rfl) ?_
  refine lv_ldc (v := (-1000000)) hx hb S.2.2.2.1 (hts (.constant RX1 64 (-1000000)) (by decide +kernel)) dX1_await_9 ?_
  refine lv_icmp_ne (tgt := 23) hx hb dX1_await_11 (by decide) (fun c2 => ?_) (fun c2 => ?_)
  · refine lv_aload_n hx hb dX1_await_23 rfl (lv_at hl 3 rfl) ?_
    refine lv_iload hx hb dX1_await_24 (lv_at hl 0 rfl) ?_
    refine g_callv S h (c_X4_addValue l D L cy X A _ (h.2.2.2.2 _) ht _) (cwV 1 hts gX1_await_X4_addValue rfl rfl rfl (by decide +kernel) ⟨Nat.le_of_ble_eq_true rfl, Nat.le_of_ble_eq_true rfl⟩) (g_pre h ht (by decide) rfl rfl _) rfl hl.1 rfl (Nat.le_of_ble_eq_true rfl) dX1_await_26 ⟨Nat.zero_le _, Nat.zero_le _⟩ (fun H locs h => ?_)
    refine lv_iconst (v := 1) hx hb dX1_await_29 (by decide) ?_
    exact g_reti S h hr hlocks rfl (by subst ex1; first | (simp only [f_X1_await, if_neg c2]; done) | (simp only [f_X1_await, if_neg c2]; rfl) | rfl) (by subst ex1; first | (simp only [f_X1_await, if_neg c2]; done) | (simp only [f_X1_await, if_neg c2]; rfl) | rfl) dX1_await_30
  · refine lv_aload_n hx hb dX1_await_14 rfl (lv_at hl 1 rfl) ?_
    refine lv_iload_n hx hb dX1_await_15 rfl (lv_at hl 2 rfl) ?_
    refine lv_aload_n hx hb dX1_await_16 rfl (lv_at hl 3 rfl) ?_
    refine lv_iconst (v := 3) hx hb dX1_await_17 (by decide) ?_
    refine g_callv S h (c_X1_block l D L cy X A _ (h.2.2.2.2 _) hP _ ht _) (cwV 3 hts gX1_await_X1_block rfl rfl rfl (by decide +kernel) ⟨Nat.le_of_ble_eq_true rfl, Nat.le_of_ble_eq_true rfl⟩) (g_pre h hP (by decide) rfl rfl _) rfl hl.1 rfl (Nat.le_of_ble_eq_true rfl) dX1_await_18 ⟨Nat.zero_le _, Nat.zero_le _⟩ (fun H locs h => ?_)
    refine lv_iconst (v := 0) hx hb dX1_await_21 (by decide) ?_
    exact g_reti S h hr hlocks rfl (by subst ex1; first | (simp only [f_X1_await, if_pos c2]; done) | (simp only [f_X1_await, if_pos c2]; rfl) | rfl) (by subst ex1; first | (simp only [f_X1_await, if_pos c2]; done) | (simp only [f_X1_await, if_pos c2]; rfl) | rfl) dX1_await_22
set_option maxHeartbeats 8000000 in
set_option maxRecDepth 100000 in
/-- Pool.join(w, task, code) -/
theorem c_X1_join (l : Launch) (D : va_G) (L : Nat → Nat) (cy : Nat → ClassId) (X : va_W) (A : Nat → Prop) (st : gSt) (hD : va_D A (X ++ gW L cy st)) {P : Nat} (hP : gkd P = 5) (a : Int32) {t : Nat} (ht : gkd t = 7) (b : Int32)  : gMi l yX1_join wsX1_join { frames := 3, cells := 0, slots := 0, locals := 68 } D L cy X A [.ref (L P), .int a, .ref (L t), .int b] st (f_X1_join st P a t b).1 (f_X1_join st P a t b).2 := by
  refine g_entry hD (cc := cX1_join) (maxL := 7) (ret := (some .boolean)) (by decide +kernel) rfl (Nat.le_of_ble_eq_true rfl) ?_
  intro p e s m args below meth c ls B
  obtain ⟨S, hr, hlocks, h, hl⟩ := B
  have hx := S.1
  have hb := S.2.1
  have hts := S.2.2.2.2
  have in4 : ∀ w ∈ wsX40, w ∈ wsX1_join := by decide +kernel
  have hl : lv_has ls 7 [(0, .ref (L P)), (1, .int a), (2, .ref (L t)), (3, .int b)] := hl
  have join11 : ∀ (st1 : gSt) (mo : Int32) (H : Heap) (locs : List Loc) (ls : Array Slot), gH D L cy X A st1 s H locs → lv_has ls 7 [(0, .ref (L P)), (1, .int a), (2, .ref (L t)), (3, .int b)] → W p l e { frames := 3, cells := 0, slots := 0, locals := 68 } s m args below meth c H locs 0 0 (MQ below (va_Qi (fun (zq : Int32) (_ : Unit) => zq = (f_X1_join_J11 P a t b st1 mo).1) (fun _ zt => va_P D vwCl (X ++ gW L cy (f_X1_join_J11 P a t b st1 mo).2) zt.heap) A) args s 0 0 A) (F0 m 11 ls [.int mo]) := by
    intro st1 mo H locs ls h hl
    refine lv_istore (lv' := [(4, .int mo), (0, .ref (L P)), (1, .int a), (2, .ref (L t)), (3, .int b)]) hx hb dX1_join_11 hl (by decide) rfl (fun ls hl => ?_)
    refine lv_iconst (v := 0) hx hb dX1_join_13 (by decide) ?_
    refine lv_istore (lv' := [(5, .int 0), (4, .int mo), (0, .ref (L P)), (1, .int a), (2, .ref (L t)), (3, .int b)]) hx hb dX1_join_14 hl (by decide) rfl (fun ls hl => ?_)
    have loopL1 : ∀ (nL1 : Nat) (st1 : gSt) (mo : Int32) (x : Int32), ((mo.toInt - x.toInt).toNat < nL1) → ∀ (H : Heap) (locs : List Loc) (ls : Array Slot), gH D L cy X A st1 s H locs → lv_has ls 7 [(5, .int x), (4, .int mo), (0, .ref (L P)), (1, .int a), (2, .ref (L t)), (3, .int b)] → W p l e { frames := 3, cells := 0, slots := 0, locals := 68 } s m args below meth c H locs 0 0 (MQ below (va_Qi (fun (zq : Int32) (_ : Unit) => zq = (f_X1_join_L1 P a t b nL1 st1 mo x).1) (fun _ zt => va_P D vwCl (X ++ gW L cy (f_X1_join_L1 P a t b nL1 st1 mo x).2) zt.heap) A) args s 0 0 A) (F0 m 16 ls []) := by
      intro nL1
      induction nL1 with
      | zero => intros; omega
      | succ nL1 ihL1 =>
        intro st1 mo x hn H locs ls h hl
        refine lv_iload hx hb dX1_join_16 (lv_at hl 0 rfl) ?_
        refine lv_iload hx hb dX1_join_18 (lv_at hl 1 rfl) ?_
        refine lv_icmp_ge (tgt := 124) hx hb dX1_join_20 (by decide) (fun c1 => ?_) (fun c1 => ?_)
        · refine lv_iconst (v := 1) hx hb dX1_join_124 (by decide) ?_
          exact g_reti S h hr hlocks rfl (by first | (simp only [f_X1_join_L1, if_pos c1]; done) | (simp only [f_X1_join_L1, if_pos c1]; rfl) | rfl) (by first | (simp only [f_X1_join_L1, if_pos c1]; done) | (simp only [f_X1_join_L1, if_pos c1]; rfl) | rfl) dX1_join_125
        · refine lv_aload_n hx hb dX1_join_23 rfl (lv_at hl 4 rfl) ?_
          refine g_getN S h ht (by decide) rfl rfl in4 (k := 6) (by decide) (by decide +kernel) rfl dX1_join_24 ?_
          refine lv_if_eq (tgt := 124) hx hb dX1_join_27 (by decide) (fun c2 => ?_) (fun c2 => ?_)
          · refine lv_iconst (v := 1) hx hb dX1_join_124 (by decide) ?_
            exact g_reti S h hr hlocks rfl (by first | (simp only [f_X1_join_L1, if_neg c1, if_pos c2]; done) | (simp only [f_X1_join_L1, if_neg c1, if_pos c2]; rfl) | rfl) (by first | (simp only [f_X1_join_L1, if_neg c1, if_pos c2]; done) | (simp only [f_X1_join_L1, if_neg c1, if_pos c2]; rfl) | rfl) dX1_join_125
          · refine lv_aload_n hx hb dX1_join_30 rfl (lv_at hl 2 rfl) ?_
            refine lv_aload_n hx hb dX1_join_31 rfl (lv_at hl 4 rfl) ?_
            refine g_calli S h (c_X4_lastChild l D L cy X A _ (h.2.2.2.2 _) ht) (cwV 0 hts gX1_join_X4_lastChild rfl rfl rfl (by decide +kernel) ⟨Nat.le_of_ble_eq_true rfl, Nat.le_of_ble_eq_true rfl⟩) (g_pre h ht (by decide) rfl rfl _) rfl hl.1 rfl (Nat.le_of_ble_eq_true rfl) dX1_join_32 ⟨Nat.zero_le _, Nat.zero_le _⟩ (fun H locs h => ?_)
            refine g_callr S h (c_X1_taskAt l D L cy X A _ (h.2.2.2.2 _) hP _) (cwV 1 hts gX1_join_X1_taskAt rfl rfl rfl (by decide +kernel) ⟨Nat.le_of_ble_eq_true rfl, Nat.le_of_ble_eq_true rfl⟩) (g_pre h hP (by decide) rfl rfl _) rfl hl.1 rfl (Nat.le_of_ble_eq_true rfl) dX1_join_35 ⟨Nat.zero_le _, Nat.zero_le _⟩ (fun H locs h => ?_)
            refine g_topr (fun i3 ei3 => ?_)
            have hki3 : gkd i3 = 7 := by rw [ei3]; exact (gk_tk hP _)
            refine lv_astore (lv' := [(6, .ref (L i3)), (5, .int x), (4, .int mo), (0, .ref (L P)), (1, .int a), (2, .ref (L t)), (3, .int b)]) hx hb dX1_join_38 hl (by decide) rfl (fun ls hl => ?_)
            refine lv_aload hx hb dX1_join_40 (lv_at hl 0 rfl) ?_
            refine g_calli S h (c_X4_isOver l D L cy X A _ (h.2.2.2.2 _) hki3) (cwV 0 hts gX1_join_X4_isOver rfl rfl rfl (by decide +kernel) ⟨Nat.le_of_ble_eq_true rfl, Nat.le_of_ble_eq_true rfl⟩) (g_pre h hki3 (by decide) rfl rfl _) rfl hl.1 rfl (Nat.le_of_ble_eq_true rfl) dX1_join_42 ⟨Nat.zero_le _, Nat.zero_le _⟩ (fun H locs h => ?_)
            refine lv_if_ne (tgt := 57) hx hb dX1_join_45 (by decide) (fun c4 => ?_) (fun c4 => ?_)
            · refine lv_aload_n hx hb dX1_join_57 rfl (lv_at hl 5 rfl) ?_
              refine lv_dup hx hb dX1_join_58 rfl ?_
              refine g_getN S h ht (by decide) rfl rfl in4 (k := 6) (by decide) (by decide +kernel) rfl dX1_join_59 ?_
              refine lv_iconst (v := 1) hx hb dX1_join_62 (by decide) ?_
              refine lv_aload hx hb dX1_join_63 (lv_at hl 0 rfl) ?_
              refine g_getN S h hki3 (by decide) rfl rfl in4 (k := 0) (by decide) (by decide +kernel) rfl dX1_join_65 ?_
              refine lv_ishl hx hb dX1_join_68 ?_
              refine lv_iconst (v := (-1)) hx hb dX1_join_69 (by decide) ?_
              refine lv_ixor hx hb dX1_join_70 ?_
              refine lv_iand hx hb dX1_join_71 ?_
              refine g_putN S h tyX4 tyX4_ok nmX4 ht (by decide) rfl rfl in4 (k := 6) (by decide) (by decide +kernel) rfl rfl (Nat.le_of_ble_eq_true rfl) rfl dX1_join_72 (fun H locs h => ?_)
              refine lv_aload hx hb dX1_join_75 (lv_at hl 0 rfl) ?_
              refine g_getN S h hki3 (by decide) rfl rfl in4 (k := 2) (by decide) (by decide +kernel) rfl dX1_join_77 ?_
              refine lv_iconst (v := 4) hx hb dX1_join_80 (by decide) ?_
              refine lv_icmp_ne (tgt := 96) hx hb dX1_join_81 (by decide) (fun c6 => ?_) (fun c6 => ?_)
              · refine lv_aload hx hb dX1_join_96 (lv_at hl 0 rfl) ?_
                refine g_getN S h hki3 (by decide) rfl rfl in4 (k := 2) (by decide) (by decide +kernel) rfl dX1_join_98 ?_
                refine lv_iconst (v := 5) hx hb dX1_join_101 (by decide) ?_
                refine lv_icmp_ne (tgt := 118) hx hb dX1_join_102 (by decide) (fun c7 => ?_) (fun c7 => ?_)
                · obtain ⟨x8, ex8⟩ : ∃ zz : Int32, zz = x + 1 := ⟨_, rfl⟩
                  refine lv_iinc (v := x8) (lv' := [(5, .int x8), (6, .ref (L i3)), (4, .int mo), (0, .ref (L P)), (1, .int a), (2, .ref (L t)), (3, .int b)]) hx hb dX1_join_118 hl (k := 1) rfl (by rw [ex8]; rfl) (by decide) rfl (fun ls hl => ?_)
                  refine lv_goto (tgt := 16) hx hb dX1_join_121 (by decide) ?_
                  exact g_cvi (by subst ex8 ei3; first | (simp only [f_X1_join_L1, if_neg c1, if_neg c2, if_neg c4, if_neg c6, if_neg c7]; done) | (simp only [f_X1_join_L1, if_neg c1, if_neg c2, if_neg c4, if_neg c6, if_neg c7]; rfl) | rfl) (by subst ex8 ei3; first | (simp only [f_X1_join_L1, if_neg c1, if_neg c2, if_neg c4, if_neg c6, if_neg c7]; done) | (simp only [f_X1_join_L1, if_neg c1, if_neg c2, if_neg c4, if_neg c6, if_neg c7]; rfl) | rfl) (ihL1 _ mo x8 (Nat.lt_of_lt_of_le (g_ms ex8 c1) (Nat.le_of_lt_succ hn)) _ _ ls h (lv_sub hl [0, 2, 3, 4, 5, 6] rfl))
                · refine lv_iload_n hx hb dX1_join_105 rfl (lv_at hl 6 rfl) ?_
                  refine lv_iconst (v := 4) hx hb dX1_join_106 (by decide) ?_
                  refine lv_icmp_eq (tgt := 118) hx hb dX1_join_107 (by decide) (fun c9 => ?_) (fun c9 => ?_)
                  · obtain ⟨x10, ex10⟩ : ∃ zz : Int32, zz = x + 1 := ⟨_, rfl⟩
                    refine lv_iinc (v := x10) (lv' := [(5, .int x10), (6, .ref (L i3)), (4, .int mo), (0, .ref (L P)), (1, .int a), (2, .ref (L t)), (3, .int b)]) hx hb dX1_join_118 hl (k := 1) rfl (by rw [ex10]; rfl) (by decide) rfl (fun ls hl => ?_)
                    refine lv_goto (tgt := 16) hx hb dX1_join_121 (by decide) ?_
                    exact g_cvi (by subst ex10 ei3; first | (simp only [f_X1_join_L1, if_neg c1, if_neg c2, if_neg c4, if_neg c6, if_pos c7, if_pos c9]; done) | (simp only [f_X1_join_L1, if_neg c1, if_neg c2, if_neg c4, if_neg c6, if_pos c7, if_pos c9]; rfl) | rfl) (by subst ex10 ei3; first | (simp only [f_X1_join_L1, if_neg c1, if_neg c2, if_neg c4, if_neg c6, if_pos c7, if_pos c9]; done) | (simp only [f_X1_join_L1, if_neg c1, if_neg c2, if_neg c4, if_neg c6, if_pos c7, if_pos c9]; rfl) | rfl) (ihL1 _ mo x10 (Nat.lt_of_lt_of_le (g_ms ex10 c1) (Nat.le_of_lt_succ hn)) _ _ ls h (lv_sub hl [0, 2, 3, 4, 5, 6] rfl))
                  · refine lv_aload_n hx hb dX1_join_110 rfl (lv_at hl 3 rfl) ?_
                    refine lv_aload_n hx hb dX1_join_111 rfl (lv_at hl 5 rfl) ?_
                    refine lv_iconst (v := 5) hx hb dX1_join_112 (by decide) ?_
                    refine g_callv S h (c_X1_end l D L cy X A _ (h.2.2.2.2 _) hP ht _) (cwV 2 hts gX1_join_X1_end rfl rfl rfl (by decide +kernel) ⟨Nat.le_of_ble_eq_true rfl, Nat.le_of_ble_eq_true rfl⟩) (g_pre h hP (by decide) rfl rfl _) rfl hl.1 rfl (Nat.le_of_ble_eq_true rfl) dX1_join_113 ⟨Nat.zero_le _, Nat.zero_le _⟩ (fun H locs h => ?_)
                    refine lv_iconst (v := 0) hx hb dX1_join_116 (by decide) ?_
                    exact g_reti S h hr hlocks rfl (by subst ei3; first | (simp only [f_X1_join_L1, if_neg c1, if_neg c2, if_neg c4, if_neg c6, if_pos c7, if_neg c9]; done) | (simp only [f_X1_join_L1, if_neg c1, if_neg c2, if_neg c4, if_neg c6, if_pos c7, if_neg c9]; rfl) | rfl) (by subst ei3; first | (simp only [f_X1_join_L1, if_neg c1, if_neg c2, if_neg c4, if_neg c6, if_pos c7, if_neg c9]; done) | (simp only [f_X1_join_L1, if_neg c1, if_neg c2, if_neg c4, if_neg c6, if_pos c7, if_neg c9]; rfl) | rfl) dX1_join_117
              · refine lv_aload_n hx hb dX1_join_84 rfl (lv_at hl 5 rfl) ?_
                refine lv_aload hx hb dX1_join_85 (lv_at hl 0 rfl) ?_
                refine g_getN S h hki3 (by decide) rfl rfl in4 (k := 4) (by decide) (by decide +kernel) rfl dX1_join_87 ?_
                refine g_callv S h (c_X4_addValue l D L cy X A _ (h.2.2.2.2 _) ht _) (cwV 1 hts gX1_join_X4_addValue rfl rfl rfl (by decide +kernel) ⟨Nat.le_of_ble_eq_true rfl, Nat.le_of_ble_eq_true rfl⟩) (g_pre h ht (by decide) rfl rfl _) rfl hl.1 rfl (Nat.le_of_ble_eq_true rfl) dX1_join_90 ⟨Nat.zero_le _, Nat.zero_le _⟩ (fun H locs h => ?_)
                refine lv_goto (tgt := 118) hx hb dX1_join_93 (by decide) ?_
                obtain ⟨x13, ex13⟩ : ∃ zz : Int32, zz = x + 1 := ⟨_, rfl⟩
                refine lv_iinc (v := x13) (lv' := [(5, .int x13), (6, .ref (L i3)), (4, .int mo), (0, .ref (L P)), (1, .int a), (2, .ref (L t)), (3, .int b)]) hx hb dX1_join_118 hl (k := 1) rfl (by rw [ex13]; rfl) (by decide) rfl (fun ls hl => ?_)
                refine lv_goto (tgt := 16) hx hb dX1_join_121 (by decide) ?_
                exact g_cvi (by subst ex13 ei3; first | (simp only [f_X1_join_L1, if_neg c1, if_neg c2, if_neg c4, if_pos c6]; done) | (simp only [f_X1_join_L1, if_neg c1, if_neg c2, if_neg c4, if_pos c6]; rfl) | rfl) (by subst ex13 ei3; first | (simp only [f_X1_join_L1, if_neg c1, if_neg c2, if_neg c4, if_pos c6]; done) | (simp only [f_X1_join_L1, if_neg c1, if_neg c2, if_neg c4, if_pos c6]; rfl) | rfl) (ihL1 _ mo x13 (Nat.lt_of_lt_of_le (g_ms ex13 c1) (Nat.le_of_lt_succ hn)) _ _ ls h (lv_sub hl [0, 2, 3, 4, 5, 6] rfl))
            · refine lv_aload_n hx hb dX1_join_48 rfl (lv_at hl 3 rfl) ?_
              refine lv_iload_n hx hb dX1_join_49 rfl (lv_at hl 4 rfl) ?_
              refine lv_aload_n hx hb dX1_join_50 rfl (lv_at hl 5 rfl) ?_
              refine lv_iconst (v := 2) hx hb dX1_join_51 (by decide) ?_
              refine g_callv S h (c_X1_block l D L cy X A _ (h.2.2.2.2 _) hP _ ht _) (cwV 3 hts gX1_join_X1_block rfl rfl rfl (by decide +kernel) ⟨Nat.le_of_ble_eq_true rfl, Nat.le_of_ble_eq_true rfl⟩) (g_pre h hP (by decide) rfl rfl _) rfl hl.1 rfl (Nat.le_of_ble_eq_true rfl) dX1_join_52 ⟨Nat.zero_le _, Nat.zero_le _⟩ (fun H locs h => ?_)
              refine lv_iconst (v := 0) hx hb dX1_join_55 (by decide) ?_
              exact g_reti S h hr hlocks rfl (by subst ei3; first | (simp only [f_X1_join_L1, if_neg c1, if_neg c2, if_pos c4]; done) | (simp only [f_X1_join_L1, if_neg c1, if_neg c2, if_pos c4]; rfl) | rfl) (by subst ei3; first | (simp only [f_X1_join_L1, if_neg c1, if_neg c2, if_pos c4]; done) | (simp only [f_X1_join_L1, if_neg c1, if_neg c2, if_pos c4]; rfl) | rfl) dX1_join_56
    exact g_cvi (by first | (simp only [f_X1_join_J11]; done) | (simp only [f_X1_join_J11]; rfl) | rfl) (by first | (simp only [f_X1_join_J11]; done) | (simp only [f_X1_join_J11]; rfl) | rfl) (loopL1 _ _ mo 0 (Nat.lt_add_one _) _ _ ls h (lv_sub hl [0, 1, 2, 3, 4, 5] rfl))
  refine lv_iload_n hx hb dX1_join_0 rfl (lv_at hl 3 rfl) ?_
  refine lv_iconst (v := 3) hx hb dX1_join_1 (by decide) ?_
  refine lv_icmp_ne (tgt := 10) hx hb dX1_join_2 (by decide) (fun c15 => ?_) (fun c15 => ?_)
  · refine lv_iconst (v := 1) hx hb dX1_join_10 (by decide) ?_
    exact g_cvi (by first | (simp only [f_X1_join, if_neg c15]; done) | (simp only [f_X1_join, if_neg c15]; rfl) | rfl) (by first | (simp only [f_X1_join, if_neg c15]; done) | (simp only [f_X1_join, if_neg c15]; rfl) | rfl) (join11 _ _  _ _ ls h (lv_sub hl [0, 1, 2, 3] rfl))
  · refine lv_bipush (v := 24) hx hb dX1_join_5 (by decide) ?_
    refine lv_goto (tgt := 11) hx hb dX1_join_7 (by decide) ?_
    exact g_cvi (by first | (simp only [f_X1_join, if_pos c15]; done) | (simp only [f_X1_join, if_pos c15]; rfl) | rfl) (by first | (simp only [f_X1_join, if_pos c15]; done) | (simp only [f_X1_join, if_pos c15]; rfl) | rfl) (join11 _ _  _ _ ls h (lv_sub hl [0, 1, 2, 3] rfl))
