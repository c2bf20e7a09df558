set_option maxHeartbeats 1000000 in
set_option maxRecDepth 100000 in
/-- withTask(d, task) -/
theorem c_X6_withTask (l : Launch) (D : va_G) (L : Nat → Nat) (cy : Nat → ClassId) (X : va_W) (A : Nat → Prop) (st : gSt) (hD : va_D A (X ++ gW L cy st)) (d0 : Int64) (tk0 : Int32)  (hd1 : ¬ (tk0 < (0 : Int32))) (hd2 : tk0 < (st 30 3)) : gMl l yX6_withTask wsX6_withTask { frames := 3, cells := 0, slots := 0, locals := 67 } D L cy X A [.ref (L 0), .long d0, .int tk0] st (f_X6_withTask st d0 tk0) st := by
  refine g_entry hD (cc := cX6_withTask) (maxL := 6) (ret := (some .long)) (by decide +kernel) rfl (Nat.le_of_ble_eq_true rfl) ?_
  intro p e s m args below meth c ls B
  obtain ⟨S, hr, hlocks, h, hl⟩ := B
  have hx := S.1
  have hb := S.2.1
  have hts := S.2.2.2.2
  have hl : lv_has ls 6 [(0, .ref (L 0)), (1, .long d0), (3, .int tk0)] := hl
  refine lv_lload_n hx hb dX6_withTask_0 rfl (lv_at hl 1 rfl) ?_
  refine lv_lstore (lv' := [(4, .long d0), (0, .ref (L 0)), (1, .long d0), (3, .int tk0)]) hx hb dX6_withTask_1 hl (by decide) rfl (fun ls hl => ?_)
  refine lv_lload hx hb dX6_withTask_3 (lv_at hl 0 rfl) ?_
  refine lv_ldc2 (v := 31) hx hb S.2.2.2.1 (hts (.constantLong RX6 249 31) (by decide +kernel)) dX6_withTask_5 ?_
  refine lv_lmul hx hb dX6_withTask_8 ?_
  refine lv_aload_n hx hb dX6_withTask_9 rfl (lv_at hl 1 rfl) ?_
  refine lv_iload_n hx hb dX6_withTask_10 rfl (lv_at hl 3 rfl) ?_
  refine g_calli S h (c_X6_stateOf l D L cy X A _ (h.2.2.2.2 _) _ hd1 hd2) (cwV 1 hts gX6_withTask_X6_stateOf rfl rfl rfl (by decide +kernel) ⟨Nat.le_of_ble_eq_true rfl, Nat.le_of_ble_eq_true rfl⟩) (g_pre h gk_c0 (by decide) rfl rfl _) rfl hl.1 rfl (Nat.le_of_ble_eq_true rfl) dX6_withTask_11 ⟨Nat.zero_le _, Nat.zero_le _⟩ (fun H locs h => ?_)
  refine lv_i2l hx hb dX6_withTask_14 rfl ?_
  refine lv_ladd hx hb dX6_withTask_15 ?_
  refine lv_topl (fun d1 ed1 => ?_)
  refine lv_lstore (lv' := [(4, .long d1), (0, .ref (L 0)), (1, .long d0), (3, .int tk0)]) hx hb dX6_withTask_16 hl (by decide) rfl (fun ls hl => ?_)
  refine lv_lload hx hb dX6_withTask_18 (lv_at hl 0 rfl) ?_
  refine lv_ldc2 (v := 31) hx hb S.2.2.2.1 (hts (.constantLong RX6 249 31) (by decide +kernel)) dX6_withTask_20 ?_
  refine lv_lmul hx hb dX6_withTask_23 ?_
  refine lv_aload_n hx hb dX6_withTask_24 rfl (lv_at hl 1 rfl) ?_
  refine lv_iload_n hx hb dX6_withTask_25 rfl (lv_at hl 3 rfl) ?_
  refine g_calli S h (c_X6_valueOf l D L cy X A _ (h.2.2.2.2 _) _ (by subst ed1; exact hd1) (by subst ed1; exact hd2)) (cwV 1 hts gX6_withTask_X6_valueOf rfl rfl rfl (by decide +kernel) ⟨Nat.le_of_ble_eq_true rfl, Nat.le_of_ble_eq_true rfl⟩) (g_pre h gk_c0 (by decide) rfl rfl _) rfl hl.1 rfl (Nat.le_of_ble_eq_true rfl) dX6_withTask_26 ⟨Nat.zero_le _, Nat.zero_le _⟩ (fun H locs h => ?_)
  refine lv_i2l hx hb dX6_withTask_29 rfl ?_
  refine lv_ladd hx hb dX6_withTask_30 ?_
  refine lv_topl (fun d2 ed2 => ?_)
  refine lv_lstore (lv' := [(4, .long d2), (0, .ref (L 0)), (1, .long d0), (3, .int tk0)]) hx hb dX6_withTask_31 hl (by decide) rfl (fun ls hl => ?_)
  refine lv_lload hx hb dX6_withTask_33 (lv_at hl 0 rfl) ?_
  refine lv_ldc2 (v := 31) hx hb S.2.2.2.1 (hts (.constantLong RX6 249 31) (by decide +kernel)) dX6_withTask_35 ?_
  refine lv_lmul hx hb dX6_withTask_38 ?_
  refine lv_aload_n hx hb dX6_withTask_39 rfl (lv_at hl 1 rfl) ?_
  refine lv_iload_n hx hb dX6_withTask_40 rfl (lv_at hl 3 rfl) ?_
  refine g_calli S h (c_X6_stepOf l D L cy X A _ (h.2.2.2.2 _) _ (by subst ed2 ed1; exact hd1) (by subst ed2 ed1; exact hd2)) (cwV 1 hts gX6_withTask_X6_stepOf rfl rfl rfl (by decide +kernel) ⟨Nat.le_of_ble_eq_true rfl, Nat.le_of_ble_eq_true rfl⟩) (g_pre h gk_c0 (by decide) rfl rfl _) rfl hl.1 rfl (Nat.le_of_ble_eq_true rfl) dX6_withTask_41 ⟨Nat.zero_le _, Nat.zero_le _⟩ (fun H locs h => ?_)
  refine lv_i2l hx hb dX6_withTask_44 rfl ?_
  refine lv_ladd hx hb dX6_withTask_45 ?_
  refine lv_topl (fun d3 ed3 => ?_)
  refine lv_lstore (lv' := [(4, .long d3), (0, .ref (L 0)), (1, .long d0), (3, .int tk0)]) hx hb dX6_withTask_46 hl (by decide) rfl (fun ls hl => ?_)
  refine lv_lload hx hb dX6_withTask_48 (lv_at hl 0 rfl) ?_
  refine lv_ldc2 (v := 31) hx hb S.2.2.2.1 (hts (.constantLong RX6 249 31) (by decide +kernel)) dX6_withTask_50 ?_
  refine lv_lmul hx hb dX6_withTask_53 ?_
  refine lv_aload_n hx hb dX6_withTask_54 rfl (lv_at hl 1 rfl) ?_
  refine lv_iload_n hx hb dX6_withTask_55 rfl (lv_at hl 3 rfl) ?_
  refine g_calli S h (c_X6_parentOf l D L cy X A _ (h.2.2.2.2 _) _ (by subst ed3 ed2 ed1; exact hd1) (by subst ed3 ed2 ed1; exact hd2)) (cwV 1 hts gX6_withTask_X6_parentOf rfl rfl rfl (by decide +kernel) ⟨Nat.le_of_ble_eq_true rfl, Nat.le_of_ble_eq_true rfl⟩) (g_pre h gk_c0 (by decide) rfl rfl _) rfl hl.1 rfl (Nat.le_of_ble_eq_true rfl) dX6_withTask_56 ⟨Nat.zero_le _, Nat.zero_le _⟩ (fun H locs h => ?_)
  refine lv_i2l hx hb dX6_withTask_59 rfl ?_
  refine lv_ladd hx hb dX6_withTask_60 ?_
  refine lv_topl (fun d4 ed4 => ?_)
  refine lv_lstore (lv' := [(4, .long d4), (0, .ref (L 0)), (1, .long d0), (3, .int tk0)]) hx hb dX6_withTask_61 hl (by decide) rfl (fun ls hl => ?_)
  refine lv_lload hx hb dX6_withTask_63 (lv_at hl 0 rfl) ?_
  refine lv_ldc2 (v := 31) hx hb S.2.2.2.1 (hts (.constantLong RX6 249 31) (by decide +kernel)) dX6_withTask_65 ?_
  refine lv_lmul hx hb dX6_withTask_68 ?_
  refine lv_aload_n hx hb dX6_withTask_69 rfl (lv_at hl 1 rfl) ?_
  refine lv_iload_n hx hb dX6_withTask_70 rfl (lv_at hl 3 rfl) ?_
  refine g_calli S h (c_X6_childrenOf l D L cy X A _ (h.2.2.2.2 _) _ (by subst ed4 ed3 ed2 ed1; exact hd1) (by subst ed4 ed3 ed2 ed1; exact hd2)) (cwV 1 hts gX6_withTask_X6_childrenOf rfl rfl rfl (by decide +kernel) ⟨Nat.le_of_ble_eq_true rfl, Nat.le_of_ble_eq_true rfl⟩) (g_pre h gk_c0 (by decide) rfl rfl _) rfl hl.1 rfl (Nat.le_of_ble_eq_true rfl) dX6_withTask_71 ⟨Nat.zero_le _, Nat.zero_le _⟩ (fun H locs h => ?_)
  refine lv_i2l hx hb dX6_withTask_74 rfl ?_
  refine lv_ladd hx hb dX6_withTask_75 ?_
  refine lv_topl (fun d5 ed5 => ?_)
  refine lv_lstore (lv' := [(4, .long d5), (0, .ref (L 0)), (1, .long d0), (3, .int tk0)]) hx hb dX6_withTask_76 hl (by decide) rfl (fun ls hl => ?_)
  refine lv_lload hx hb dX6_withTask_78 (lv_at hl 0 rfl) ?_
  refine lv_ldc2 (v := 31) hx hb S.2.2.2.1 (hts (.constantLong RX6 249 31) (by decide +kernel)) dX6_withTask_80 ?_
  refine lv_lmul hx hb dX6_withTask_83 ?_
  refine lv_aload_n hx hb dX6_withTask_84 rfl (lv_at hl 1 rfl) ?_
  refine lv_iload_n hx hb dX6_withTask_85 rfl (lv_at hl 3 rfl) ?_
  refine g_calli S h (c_X6_workOf l D L cy X A _ (h.2.2.2.2 _) _ (by subst ed5 ed4 ed3 ed2 ed1; exact hd1) (by subst ed5 ed4 ed3 ed2 ed1; exact hd2)) (cwV 1 hts gX6_withTask_X6_workOf rfl rfl rfl (by decide +kernel) ⟨Nat.le_of_ble_eq_true rfl, Nat.le_of_ble_eq_true rfl⟩) (g_pre h gk_c0 (by decide) rfl rfl _) rfl hl.1 rfl (Nat.le_of_ble_eq_true rfl) dX6_withTask_86 ⟨Nat.zero_le _, Nat.zero_le _⟩ (fun H locs h => ?_)
  refine lv_i2l hx hb dX6_withTask_89 rfl ?_
  refine lv_ladd hx hb dX6_withTask_90 ?_
  refine lv_topl (fun d6 ed6 => ?_)
  refine lv_lstore (lv' := [(4, .long d6), (0, .ref (L 0)), (1, .long d0), (3, .int tk0)]) hx hb dX6_withTask_91 hl (by decide) rfl (fun ls hl => ?_)
  refine lv_lload hx hb dX6_withTask_93 (lv_at hl 0 rfl) ?_
  refine lv_ldc2 (v := 31) hx hb S.2.2.2.1 (hts (.constantLong RX6 249 31) (by decide +kernel)) dX6_withTask_95 ?_
  refine lv_lmul hx hb dX6_withTask_98 ?_
  refine lv_aload_n hx hb dX6_withTask_99 rfl (lv_at hl 1 rfl) ?_
  refine lv_iload_n hx hb dX6_withTask_100 rfl (lv_at hl 3 rfl) ?_
  refine g_calli S h (c_X6_overAt l D L cy X A _ (h.2.2.2.2 _) _ (by subst ed6 ed5 ed4 ed3 ed2 ed1; exact hd1) (by subst ed6 ed5 ed4 ed3 ed2 ed1; exact hd2)) (cwV 1 hts gX6_withTask_X6_overAt rfl rfl rfl (by decide +kernel) ⟨Nat.le_of_ble_eq_true rfl, Nat.le_of_ble_eq_true rfl⟩) (g_pre h gk_c0 (by decide) rfl rfl _) rfl hl.1 rfl (Nat.le_of_ble_eq_true rfl) dX6_withTask_101 ⟨Nat.zero_le _, Nat.zero_le _⟩ (fun H locs h => ?_)
  refine lv_i2l hx hb dX6_withTask_104 rfl ?_
  refine lv_ladd hx hb dX6_withTask_105 ?_
  exact g_retl S h hr hlocks (by subst ed6 ed5 ed4 ed3 ed2 ed1; first | (simp only [f_X6_withTask]; done) | contradiction | (simp only [f_X6_withTask]; rfl) | rfl) rfl dX6_withTask_106
set_option maxHeartbeats 1000000 in
set_option maxRecDepth 100000 in
/-- withRow(d, w) -/
theorem c_X6_withRow (l : Launch) (D : va_G) (L : Nat → Nat) (cy : Nat → ClassId) (X : va_W) (A : Nat → Prop) (st : gSt) (hD : va_D A (X ++ gW L cy st)) (d0 : Int64) (wk0 : Int32)  (hd1 : ¬ wk0 = (-1 : Int32) → ¬ wk0 < (0 : Int32)) (hd2 : ¬ wk0 = (-1 : Int32) → wk0 < (st 30 6)) : gMl l yX6_withRow wsX6_withRow { frames := 3, cells := 0, slots := 0, locals := 65 } D L cy X A [.ref (L 0), .long d0, .int wk0] st (f_X6_withRow st d0 wk0) st := by
  refine g_entry hD (cc := cX6_withRow) (maxL := 8) (ret := (some .long)) (by decide +kernel) rfl (Nat.le_of_ble_eq_true rfl) ?_
  intro p e s m args below meth c ls B
  obtain ⟨S, hr, hlocks, h, hl⟩ := B
  have hx := S.1
  have hb := S.2.1
  have hts := S.2.2.2.2
  have hl : lv_has ls 8 [(0, .ref (L 0)), (1, .long d0), (3, .int wk0)] := hl
  refine lv_aload_n hx hb dX6_withRow_0 rfl (lv_at hl 0 rfl) ?_
  refine lv_iload_n hx hb dX6_withRow_1 rfl (lv_at hl 2 rfl) ?_
  refine g_calli S h (c_X6_row l D L cy X A _ (h.2.2.2.2 _) _ hd1 hd2) (cwV 1 hts gX6_withRow_X6_row rfl rfl rfl (by decide +kernel) ⟨Nat.le_of_ble_eq_true rfl, Nat.le_of_ble_eq_true rfl⟩) (g_pre h gk_c0 (by decide) rfl rfl _) rfl hl.1 rfl (Nat.le_of_ble_eq_true rfl) dX6_withRow_2 ⟨Nat.zero_le _, Nat.zero_le _⟩ (fun H locs h => ?_)
  refine lv_topi (fun x1 ex1 => ?_)
  refine lv_istore (lv' := [(4, .int x1), (0, .ref (L 0)), (1, .long d0), (3, .int wk0)]) hx hb dX6_withRow_5 hl (by decide) rfl (fun ls hl => ?_)
  refine lv_lload_n hx hb dX6_withRow_7 rfl (lv_at hl 2 rfl) ?_
  refine lv_ldc2 (v := 31) hx hb S.2.2.2.1 (hts (.constantLong RX6 249 31) (by decide +kernel)) dX6_withRow_8 ?_
  refine lv_lmul hx hb dX6_withRow_11 ?_
  refine lv_iload hx hb dX6_withRow_12 (lv_at hl 0 rfl) ?_
  refine lv_i2l hx hb dX6_withRow_14 rfl ?_
  refine lv_ladd hx hb dX6_withRow_15 ?_
  refine lv_topl (fun d2 ed2 => ?_)
  refine lv_lstore (lv' := [(5, .long d2), (4, .int x1), (0, .ref (L 0)), (1, .long d0), (3, .int wk0)]) hx hb dX6_withRow_16 hl (by decide) rfl (fun ls hl => ?_)
  refine lv_iconst (v := 0) hx hb dX6_withRow_18 (by decide) ?_
  refine lv_istore (lv' := [(7, .int 0), (5, .long d2), (4, .int x1), (0, .ref (L 0)), (1, .long d0), (3, .int wk0)]) hx hb dX6_withRow_19 hl (by decide) rfl (fun ls hl => ?_)
  have loopL1 : ∀ (nL1 : Nat) (st1 : gSt) (sz : Int32) (da : Int64) (x : Int32), ((sz.toInt - x.toInt).toNat < nL1) → (st1 = st) → (0 ≤ x.toInt) → (sz = st1 (f_row 30 wk0) 1) → ∀ (H : Heap) (locs : List Loc) (ls : Array Slot), gH D L cy X A st1 s H locs → lv_has ls 8 [(7, .int x), (5, .long da), (4, .int sz), (0, .ref (L 0)), (1, .long d0), (3, .int wk0)] → W p l e { frames := 3, cells := 0, slots := 0, locals := 65 } s m args below meth c H locs 0 0 (MQ below (va_Ql (fun (zq : Int64) (_ : Unit) => zq = (f_X6_withRow_L1 d0 wk0 nL1 st1 sz da x)) (fun _ zt => va_P D vwCl (X ++ gW L cy st1) zt.heap) A) args s 0 0 A) (F0 m 21 ls []) := by
    intro nL1
    induction nL1 with
    | zero => intros; omega
    | succ nL1 ihL1 =>
      intro st1 sz da x hn hst hx0 hsz H locs ls h hl
      have hst := hst.symm; subst hst
      refine lv_iload hx hb dX6_withRow_21 (lv_at hl 0 rfl) ?_
      refine lv_iload hx hb dX6_withRow_23 (lv_at hl 2 rfl) ?_
      refine lv_icmp_ge (tgt := 51) hx hb dX6_withRow_25 (by decide) (fun c3 => ?_) (fun c3 => ?_)
      · refine lv_lload hx hb dX6_withRow_51 (lv_at hl 1 rfl) ?_
        exact g_retl S h hr hlocks (by first | (simp only [f_X6_withRow_L1, if_pos c3]; done) | contradiction | (simp only [f_X6_withRow_L1, if_pos c3]; rfl) | rfl) rfl dX6_withRow_53
      · refine lv_lload hx hb dX6_withRow_28 (lv_at hl 1 rfl) ?_
        refine lv_ldc2 (v := 31) hx hb S.2.2.2.1 (hts (.constantLong RX6 249 31) (by decide +kernel)) dX6_withRow_30 ?_
        refine lv_lmul hx hb dX6_withRow_33 ?_
        refine lv_aload_n hx hb dX6_withRow_34 rfl (lv_at hl 3 rfl) ?_
        refine lv_iload_n hx hb dX6_withRow_35 rfl (lv_at hl 5 rfl) ?_
        refine lv_iload hx hb dX6_withRow_36 (lv_at hl 0 rfl) ?_
        refine g_calli S h (c_X6_inRow l D L cy X A _ (h.2.2.2.2 _) _ _ hd1 hd2 (g_n0 hx0) (by rw [hsz] at c3; exact g_ltc c3)) (cwV 2 hts gX6_withRow_X6_inRow rfl rfl rfl (by decide +kernel) ⟨Nat.le_of_ble_eq_true rfl, Nat.le_of_ble_eq_true rfl⟩) (g_pre h gk_c0 (by decide) rfl rfl _) rfl hl.1 rfl (Nat.le_of_ble_eq_true rfl) dX6_withRow_38 ⟨Nat.zero_le _, Nat.zero_le _⟩ (fun H locs h => ?_)
        refine lv_i2l hx hb dX6_withRow_41 rfl ?_
        refine lv_ladd hx hb dX6_withRow_42 ?_
        refine lv_topl (fun d4 ed4 => ?_)
        refine lv_lstore (lv' := [(5, .long d4), (7, .int x), (4, .int sz), (0, .ref (L 0)), (1, .long d0), (3, .int wk0)]) hx hb dX6_withRow_43 hl (by decide) rfl (fun ls hl => ?_)
        obtain ⟨x5, ex5⟩ : ∃ zz : Int32, zz = x + 1 := ⟨_, rfl⟩
        refine lv_iinc (v := x5) (lv' := [(7, .int x5), (5, .long d4), (4, .int sz), (0, .ref (L 0)), (1, .long d0), (3, .int wk0)]) hx hb dX6_withRow_45 hl (k := 1) rfl (by rw [ex5]; rfl) (by decide) rfl (fun ls hl => ?_)
        refine lv_goto (tgt := 21) hx hb dX6_withRow_48 (by decide) ?_
        exact g_cvl (by subst ex5 ed4; first | (simp only [f_X6_withRow_L1, if_neg c3]; done) | contradiction | (simp only [f_X6_withRow_L1, if_neg c3]; rfl) | rfl) rfl (ihL1 _ sz d4 x5 (Nat.lt_of_lt_of_le (g_ms ex5 c3) (Nat.le_of_lt_succ hn)) rfl (by rw [g_inc ex5 c3]; omega) hsz _ _ ls h (lv_sub hl [0, 1, 2, 3, 4, 5] rfl))
  exact g_cvl (by subst ed2 ex1; first | (simp only [f_X6_withRow]; done) | contradiction | (simp only [f_X6_withRow]; rfl) | rfl) rfl (loopL1 _ _ x1 d2 0 (Nat.lt_add_one _) rfl (by decide) (by rw [ex1]; rfl) _ _ ls h (lv_sub hl [0, 1, 2, 3, 4, 5] rfl))
set_option maxHeartbeats 1000000 in
set_option maxRecDepth 100000 in
/-- withWorker(d, w) -/
theorem c_X6_withWorker (l : Launch) (D : va_G) (L : Nat → Nat) (cy : Nat → ClassId) (X : va_W) (A : Nat → Prop) (st : gSt) (hD : va_D A (X ++ gW L cy st)) (d0 : Int64) (wk0 : Int32)  (hd1 : ¬ (wk0 < (0 : Int32))) (hd2 : wk0 < (st 30 6)) : gMl l yX6_withWorker wsX6_withWorker { frames := 3, cells := 0, slots := 0, locals := 65 } D L cy X A [.ref (L 0), .long d0, .int wk0] st (f_X6_withWorker st d0 wk0) st := by
  refine g_entry hD (cc := cX6_withWorker) (maxL := 7) (ret := (some .long)) (by decide +kernel) rfl (Nat.le_of_ble_eq_true rfl) ?_
  intro p e s m args below meth c ls B
  obtain ⟨S, hr, hlocks, h, hl⟩ := B
  have hx := S.1
  have hb := S.2.1
  have hts := S.2.2.2.2
  have hl : lv_has ls 7 [(0, .ref (L 0)), (1, .long d0), (3, .int wk0)] := hl
  refine lv_lload_n hx hb dX6_withWorker_0 rfl (lv_at hl 1 rfl) ?_
  refine lv_lstore (lv' := [(4, .long d0), (0, .ref (L 0)), (1, .long d0), (3, .int wk0)]) hx hb dX6_withWorker_1 hl (by decide) rfl (fun ls hl => ?_)
  refine lv_lload hx hb dX6_withWorker_3 (lv_at hl 0 rfl) ?_
  refine lv_ldc2 (v := 31) hx hb S.2.2.2.1 (hts (.constantLong RX6 249 31) (by decide +kernel)) dX6_withWorker_5 ?_
  refine lv_lmul hx hb dX6_withWorker_8 ?_
  refine lv_aload_n hx hb dX6_withWorker_9 rfl (lv_at hl 1 rfl) ?_
  refine lv_iload_n hx hb dX6_withWorker_10 rfl (lv_at hl 3 rfl) ?_
  refine g_calli S h (c_X6_top l D L cy X A _ (h.2.2.2.2 _) _ hd1 hd2) (cwV 1 hts gX6_withWorker_X6_top rfl rfl rfl (by decide +kernel) ⟨Nat.le_of_ble_eq_true rfl, Nat.le_of_ble_eq_true rfl⟩) (g_pre h gk_c0 (by decide) rfl rfl _) rfl hl.1 rfl (Nat.le_of_ble_eq_true rfl) dX6_withWorker_11 ⟨Nat.zero_le _, Nat.zero_le _⟩ (fun H locs h => ?_)
  refine lv_i2l hx hb dX6_withWorker_14 rfl ?_
  refine lv_ladd hx hb dX6_withWorker_15 ?_
  refine lv_topl (fun d1 ed1 => ?_)
  refine lv_lstore (lv' := [(4, .long d1), (0, .ref (L 0)), (1, .long d0), (3, .int wk0)]) hx hb dX6_withWorker_16 hl (by decide) rfl (fun ls hl => ?_)
  refine lv_lload hx hb dX6_withWorker_18 (lv_at hl 0 rfl) ?_
  refine lv_ldc2 (v := 31) hx hb S.2.2.2.1 (hts (.constantLong RX6 249 31) (by decide +kernel)) dX6_withWorker_20 ?_
  refine lv_lmul hx hb dX6_withWorker_23 ?_
  refine lv_aload_n hx hb dX6_withWorker_24 rfl (lv_at hl 1 rfl) ?_
  refine lv_iload_n hx hb dX6_withWorker_25 rfl (lv_at hl 3 rfl) ?_
  refine g_calli S h (c_X6_stack l D L cy X A _ (h.2.2.2.2 _) _ (by subst ed1; exact hd1) (by subst ed1; exact hd2)) (cwV 1 hts gX6_withWorker_X6_stack rfl rfl rfl (by decide +kernel) ⟨Nat.le_of_ble_eq_true rfl, Nat.le_of_ble_eq_true rfl⟩) (g_pre h gk_c0 (by decide) rfl rfl _) rfl hl.1 rfl (Nat.le_of_ble_eq_true rfl) dX6_withWorker_26 ⟨Nat.zero_le _, Nat.zero_le _⟩ (fun H locs h => ?_)
  refine lv_i2l hx hb dX6_withWorker_29 rfl ?_
  refine lv_ladd hx hb dX6_withWorker_30 ?_
  refine lv_topl (fun d2 ed2 => ?_)
  refine lv_lstore (lv' := [(4, .long d2), (0, .ref (L 0)), (1, .long d0), (3, .int wk0)]) hx hb dX6_withWorker_31 hl (by decide) rfl (fun ls hl => ?_)
  refine lv_iconst (v := 0) hx hb dX6_withWorker_33 (by decide) ?_
  refine lv_istore (lv' := [(6, .int 0), (4, .long d2), (0, .ref (L 0)), (1, .long d0), (3, .int wk0)]) hx hb dX6_withWorker_34 hl (by decide) rfl (fun ls hl => ?_)
  have loopL1 : ∀ (nL1 : Nat) (st1 : gSt) (da : Int64) (x : Int32), ((2 + 1 - x.toInt).toNat < nL1) → (st1 = st) → (0 ≤ x.toInt) → ∀ (H : Heap) (locs : List Loc) (ls : Array Slot), gH D L cy X A st1 s H locs → lv_has ls 7 [(6, .int x), (4, .long da), (0, .ref (L 0)), (1, .long d0), (3, .int wk0)] → W p l e { frames := 3, cells := 0, slots := 0, locals := 65 } s m args below meth c H locs 0 0 (MQ below (va_Ql (fun (zq : Int64) (_ : Unit) => zq = (f_X6_withWorker_L1 d0 wk0 nL1 st1 da x)) (fun _ zt => va_P D vwCl (X ++ gW L cy st1) zt.heap) A) args s 0 0 A) (F0 m 36 ls []) := by
    intro nL1
    induction nL1 with
    | zero => intros; omega
    | succ nL1 ihL1 =>
      intro st1 da x hnL1 hst hx0 H locs ls h hl
      have hst := hst.symm; subst hst
      refine lv_iload hx hb dX6_withWorker_36 (lv_at hl 0 rfl) ?_
      refine lv_iconst (v := 2) hx hb dX6_withWorker_38 (by decide) ?_
      refine lv_icmp_gt (tgt := 65) hx hb dX6_withWorker_39 (by decide) (fun c3 => ?_) (fun c3 => ?_)
      · refine lv_iconst (v := 1) hx hb dX6_withWorker_65 (by decide) ?_
        refine lv_istore (lv' := [(6, .int 1), (4, .long da), (0, .ref (L 0)), (1, .long d0), (3, .int wk0)]) hx hb dX6_withWorker_66 hl (by decide) rfl (fun ls hl => ?_)
        have loopL2 : ∀ (nL2 : Nat) (st1 : gSt) (db : Int64) (y : Int32), ((3 + 1 - y.toInt).toNat < nL2) → (st1 = st) → (1 ≤ y.toInt) → ∀ (H : Heap) (locs : List Loc) (ls : Array Slot), gH D L cy X A st1 s H locs → lv_has ls 7 [(6, .int y), (4, .long db), (0, .ref (L 0)), (1, .long d0), (3, .int wk0)] → W p l e { frames := 3, cells := 0, slots := 0, locals := 65 } s m args below meth c H locs 0 0 (MQ below (va_Ql (fun (zq : Int64) (_ : Unit) => zq = (f_X6_withWorker_L2 d0 wk0 nL2 st1 db y)) (fun _ zt => va_P D vwCl (X ++ gW L cy st1) zt.heap) A) args s 0 0 A) (F0 m 68 ls []) := by
          intro nL2
          induction nL2 with
          | zero => intros; omega
          | succ nL2 ihL2 =>
            intro st1 db y hnL2 hst hy1 H locs ls h hl
            have hst := hst.symm; subst hst
            refine lv_iload hx hb dX6_withWorker_68 (lv_at hl 0 rfl) ?_
            refine lv_iconst (v := 3) hx hb dX6_withWorker_70 (by decide) ?_
            refine lv_icmp_gt (tgt := 97) hx hb dX6_withWorker_71 (by decide) (fun c4 => ?_) (fun c4 => ?_)
            · refine lv_lload hx hb dX6_withWorker_97 (lv_at hl 1 rfl) ?_
              exact g_retl S h hr hlocks (by first | (simp only [f_X6_withWorker_L2, if_pos c4]; done) | contradiction | (simp only [f_X6_withWorker_L2, if_pos c4]; rfl) | rfl) rfl dX6_withWorker_99
            · refine lv_lload hx hb dX6_withWorker_74 (lv_at hl 1 rfl) ?_
              refine lv_ldc2 (v := 31) hx hb S.2.2.2.1 (hts (.constantLong RX6 249 31) (by decide +kernel)) dX6_withWorker_76 ?_
              refine lv_lmul hx hb dX6_withWorker_79 ?_
              refine lv_aload_n hx hb dX6_withWorker_80 rfl (lv_at hl 2 rfl) ?_
              refine lv_iload_n hx hb dX6_withWorker_81 rfl (lv_at hl 4 rfl) ?_
              refine lv_iload hx hb dX6_withWorker_82 (lv_at hl 0 rfl) ?_
              refine g_calli S h (c_X6_ran l D L cy X A _ (h.2.2.2.2 _) _ _ hd1 hd2 (by intro q; have q2 := Int32.lt_iff_toInt_lt.mp q; have q1 : (1 : Int32).toInt = 1 := rfl; omega) (by have q := Int32.not_lt.mp c4; have q2 := Int32.le_iff_toInt_le.mp q; have q3 : (3 : Int32).toInt = 3 := rfl; have q20 : (20 : Int32).toInt = 20 := rfl; exact Int32.le_iff_toInt_le.mpr (by omega))) (cwV 2 hts gX6_withWorker_X6_ran rfl rfl rfl (by decide +kernel) ⟨Nat.le_of_ble_eq_true rfl, Nat.le_of_ble_eq_true rfl⟩) (g_pre h gk_c0 (by decide) rfl rfl _) rfl hl.1 rfl (Nat.le_of_ble_eq_true rfl) dX6_withWorker_84 ⟨Nat.zero_le _, Nat.zero_le _⟩ (fun H locs h => ?_)
              refine lv_i2l hx hb dX6_withWorker_87 rfl ?_
              refine lv_ladd hx hb dX6_withWorker_88 ?_
              refine lv_topl (fun d5 ed5 => ?_)
              refine lv_lstore (lv' := [(4, .long d5), (6, .int y), (0, .ref (L 0)), (1, .long d0), (3, .int wk0)]) hx hb dX6_withWorker_89 hl (by decide) rfl (fun ls hl => ?_)
              obtain ⟨x6, ex6⟩ : ∃ zz : Int32, zz = y + 1 := ⟨_, rfl⟩
              refine lv_iinc (v := x6) (lv' := [(6, .int x6), (4, .long d5), (0, .ref (L 0)), (1, .long d0), (3, .int wk0)]) hx hb dX6_withWorker_91 hl (k := 1) rfl (by rw [ex6]; rfl) (by decide) rfl (fun ls hl => ?_)
              refine lv_goto (tgt := 68) hx hb dX6_withWorker_94 (by decide) ?_
              have hms := g_msle (c := 3) (by decide) ex6 c4
              have hc3 : (3 : Int32).toInt = 3 := rfl
              exact g_cvl (by subst ex6 ed5; first | (simp only [f_X6_withWorker_L2, if_neg c4]; done) | contradiction | (simp only [f_X6_withWorker_L2, if_neg c4]; rfl) | rfl) rfl (ihL2 _ d5 x6 (by omega) rfl (by omega) _ _ ls h (lv_sub hl [0, 1, 2, 3, 4] rfl))
        exact g_cvl (by first | (simp only [f_X6_withWorker_L1, if_pos c3]; done) | contradiction | (simp only [f_X6_withWorker_L1, if_pos c3]; rfl) | rfl) rfl (loopL2 5 _ da 1 (by decide) rfl (by decide) _ _ ls h (lv_sub hl [0, 1, 2, 3, 4] rfl))
      · refine lv_lload hx hb dX6_withWorker_42 (lv_at hl 1 rfl) ?_
        refine lv_ldc2 (v := 31) hx hb S.2.2.2.1 (hts (.constantLong RX6 249 31) (by decide +kernel)) dX6_withWorker_44 ?_
        refine lv_lmul hx hb dX6_withWorker_47 ?_
        refine lv_aload_n hx hb dX6_withWorker_48 rfl (lv_at hl 2 rfl) ?_
        refine lv_iload_n hx hb dX6_withWorker_49 rfl (lv_at hl 4 rfl) ?_
        refine lv_iload hx hb dX6_withWorker_50 (lv_at hl 0 rfl) ?_
        refine g_calli S h (c_X6_told l D L cy X A _ (h.2.2.2.2 _) _ _ hd1 hd2 (g_n0 hx0) (Int32.not_lt.mp c3)) (cwV 2 hts gX6_withWorker_X6_told rfl rfl rfl (by decide +kernel) ⟨Nat.le_of_ble_eq_true rfl, Nat.le_of_ble_eq_true rfl⟩) (g_pre h gk_c0 (by decide) rfl rfl _) rfl hl.1 rfl (Nat.le_of_ble_eq_true rfl) dX6_withWorker_52 ⟨Nat.zero_le _, Nat.zero_le _⟩ (fun H locs h => ?_)
        refine lv_i2l hx hb dX6_withWorker_55 rfl ?_
        refine lv_ladd hx hb dX6_withWorker_56 ?_
        refine lv_topl (fun d7 ed7 => ?_)
        refine lv_lstore (lv' := [(4, .long d7), (6, .int x), (0, .ref (L 0)), (1, .long d0), (3, .int wk0)]) hx hb dX6_withWorker_57 hl (by decide) rfl (fun ls hl => ?_)
        obtain ⟨x8, ex8⟩ : ∃ zz : Int32, zz = x + 1 := ⟨_, rfl⟩
        refine lv_iinc (v := x8) (lv' := [(6, .int x8), (4, .long d7), (0, .ref (L 0)), (1, .long d0), (3, .int wk0)]) hx hb dX6_withWorker_59 hl (k := 1) rfl (by rw [ex8]; rfl) (by decide) rfl (fun ls hl => ?_)
        refine lv_goto (tgt := 36) hx hb dX6_withWorker_62 (by decide) ?_
        have hms := g_msle (c := 2) (by decide) ex8 c3
        have hc2 : (2 : Int32).toInt = 2 := rfl
        exact g_cvl (by subst ex8 ed7; first | (simp only [f_X6_withWorker_L1, if_neg c3]; done) | contradiction | (simp only [f_X6_withWorker_L1, if_neg c3]; rfl) | rfl) rfl (ihL1 _ d7 x8 (by omega) rfl (by omega) _ _ ls h (lv_sub hl [0, 1, 2, 3, 4] rfl))
  exact g_cvl (by subst ed2 ed1; first | (simp only [f_X6_withWorker]; done) | contradiction | (simp only [f_X6_withWorker]; rfl) | rfl) rfl (loopL1 4 _ d2 0 (by decide) rfl (by decide) _ _ ls h (lv_sub hl [0, 1, 2, 3, 4] rfl))
theorem g_nm1 {x : Int32} (h : -1 ≤ x.toInt) (q : ¬ x = (-1 : Int32)) : 0 ≤ x.toInt := by
  rcases Int.lt_or_le x.toInt 0 with h2 | h2
  · exfalso
    exact q (Int32.toInt_inj.mp (by have h1 : (-1 : Int32).toInt = -1 := rfl; omega))
  · exact h2
set_option maxHeartbeats 1000000 in
set_option maxRecDepth 100000 in
/-- digest() -/
theorem c_X6_digest (l : Launch) (D : va_G) (L : Nat → Nat) (cy : Nat → ClassId) (X : va_W) (A : Nat → Prop) (st : gSt) (hD : va_D A (X ++ gW L cy st))   : gMl l yX6_digest wsX6_digest { frames := 7, cells := 0, slots := 0, locals := 152 } D L cy X A [.ref (L 0)] st (f_X6_digest st) st := by
  refine g_entry hD (cc := cX6_digest) (maxL := 4) (ret := (some .long)) (by decide +kernel) rfl (Nat.le_of_ble_eq_true rfl) ?_
  intro p e s m args below meth c ls B
  obtain ⟨S, hr, hlocks, h, hl⟩ := B
  have hx := S.1
  have hb := S.2.1
  have hts := S.2.2.2.2
  have in1 : ∀ w ∈ wsX10, w ∈ wsX6_digest := by decide +kernel
  have in6 : ∀ w ∈ wsX60, w ∈ wsX6_digest := by decide +kernel
  have hl : lv_has ls 4 [(0, .ref (L 0))] := hl
  refine lv_ldc2 (v := 58063) hx hb S.2.2.2.1 (hts (.constantLong RX6 247 58063) (by decide +kernel)) dX6_digest_0 ?_
  refine lv_lstore_n (lv' := [(1, .long 58063), (0, .ref (L 0))]) hx hb dX6_digest_3 rfl hl (by decide) rfl (fun ls hl => ?_)
  refine lv_lload_n hx hb dX6_digest_4 rfl (lv_at hl 0 rfl) ?_
  refine lv_ldc2 (v := 31) hx hb S.2.2.2.1 (hts (.constantLong RX6 249 31) (by decide +kernel)) dX6_digest_5 ?_
  refine lv_lmul hx hb dX6_digest_8 ?_
  refine lv_aload_n hx hb dX6_digest_9 rfl (lv_at hl 1 rfl) ?_
  refine g_calli S h (c_X6_clock l D L cy X A _ (h.2.2.2.2 _)) (cwV 0 hts gX6_digest_X6_clock rfl rfl rfl (by decide +kernel) ⟨Nat.le_of_ble_eq_true rfl, Nat.le_of_ble_eq_true rfl⟩) (g_pre h gk_c0 (by decide) rfl rfl _) rfl hl.1 rfl (Nat.le_of_ble_eq_true rfl) dX6_digest_10 ⟨Nat.zero_le _, Nat.zero_le _⟩ (fun H locs h => ?_)
  refine lv_i2l hx hb dX6_digest_13 rfl ?_
  refine lv_ladd hx hb dX6_digest_14 ?_
  refine lv_topl (fun d1 ed1 => ?_)
  refine lv_lstore_n (lv' := [(1, .long d1), (0, .ref (L 0))]) hx hb dX6_digest_15 rfl hl (by decide) rfl (fun ls hl => ?_)
  refine lv_lload_n hx hb dX6_digest_16 rfl (lv_at hl 0 rfl) ?_
  refine lv_ldc2 (v := 31) hx hb S.2.2.2.1 (hts (.constantLong RX6 249 31) (by decide +kernel)) dX6_digest_17 ?_
  refine lv_lmul hx hb dX6_digest_20 ?_
  refine lv_aload_n hx hb dX6_digest_21 rfl (lv_at hl 1 rfl) ?_
  refine g_calli S h (c_X6_tasks l D L cy X A _ (h.2.2.2.2 _)) (cwV 0 hts gX6_digest_X6_tasks rfl rfl rfl (by decide +kernel) ⟨Nat.le_of_ble_eq_true rfl, Nat.le_of_ble_eq_true rfl⟩) (g_pre h gk_c0 (by decide) rfl rfl _) rfl hl.1 rfl (Nat.le_of_ble_eq_true rfl) dX6_digest_22 ⟨Nat.zero_le _, Nat.zero_le _⟩ (fun H locs h => ?_)
  refine lv_i2l hx hb dX6_digest_25 rfl ?_
  refine lv_ladd hx hb dX6_digest_26 ?_
  refine lv_topl (fun d2 ed2 => ?_)
  refine lv_lstore_n (lv' := [(1, .long d2), (0, .ref (L 0))]) hx hb dX6_digest_27 rfl hl (by decide) rfl (fun ls hl => ?_)
  refine lv_lload_n hx hb dX6_digest_28 rfl (lv_at hl 0 rfl) ?_
  refine lv_ldc2 (v := 31) hx hb S.2.2.2.1 (hts (.constantLong RX6 249 31) (by decide +kernel)) dX6_digest_29 ?_
  refine lv_lmul hx hb dX6_digest_32 ?_
  refine lv_aload_n hx hb dX6_digest_33 rfl (lv_at hl 1 rfl) ?_
  refine g_calli S h (c_X6_workers l D L cy X A _ (h.2.2.2.2 _)) (cwV 0 hts gX6_digest_X6_workers rfl rfl rfl (by decide +kernel) ⟨Nat.le_of_ble_eq_true rfl, Nat.le_of_ble_eq_true rfl⟩) (g_pre h gk_c0 (by decide) rfl rfl _) rfl hl.1 rfl (Nat.le_of_ble_eq_true rfl) dX6_digest_34 ⟨Nat.zero_le _, Nat.zero_le _⟩ (fun H locs h => ?_)
  refine lv_i2l hx hb dX6_digest_37 rfl ?_
  refine lv_ladd hx hb dX6_digest_38 ?_
  refine lv_topl (fun d3 ed3 => ?_)
  refine lv_lstore_n (lv' := [(1, .long d3), (0, .ref (L 0))]) hx hb dX6_digest_39 rfl hl (by decide) rfl (fun ls hl => ?_)
  refine lv_lload_n hx hb dX6_digest_40 rfl (lv_at hl 0 rfl) ?_
  refine lv_ldc2 (v := 31) hx hb S.2.2.2.1 (hts (.constantLong RX6 249 31) (by decide +kernel)) dX6_digest_41 ?_
  refine lv_lmul hx hb dX6_digest_44 ?_
  refine lv_aload_n hx hb dX6_digest_45 rfl (lv_at hl 1 rfl) ?_
  refine g_calli S h (c_X6_halted l D L cy X A _ (h.2.2.2.2 _)) (cwV 0 hts gX6_digest_X6_halted rfl rfl rfl (by decide +kernel) ⟨Nat.le_of_ble_eq_true rfl, Nat.le_of_ble_eq_true rfl⟩) (g_pre h gk_c0 (by decide) rfl rfl _) rfl hl.1 rfl (Nat.le_of_ble_eq_true rfl) dX6_digest_46 ⟨Nat.zero_le _, Nat.zero_le _⟩ (fun H locs h => ?_)
  refine lv_i2l hx hb dX6_digest_49 rfl ?_
  refine lv_ladd hx hb dX6_digest_50 ?_
  refine lv_topl (fun d4 ed4 => ?_)
  refine lv_lstore_n (lv' := [(1, .long d4), (0, .ref (L 0))]) hx hb dX6_digest_51 rfl hl (by decide) rfl (fun ls hl => ?_)
  refine lv_iconst (v := 0) hx hb dX6_digest_52 (by decide) ?_
  refine lv_istore_n (lv' := [(3, .int 0), (1, .long d4), (0, .ref (L 0))]) hx hb dX6_digest_53 rfl hl (by decide) rfl (fun ls hl => ?_)
  have loopL1 : ∀ (nL1 : Nat) (st1 : gSt) (da : Int64) (x : Int32), (((st1 30 3).toInt - x.toInt).toNat < nL1) → (st1 = st) → (0 ≤ x.toInt) → ∀ (H : Heap) (locs : List Loc) (ls : Array Slot), gH D L cy X A st1 s H locs → lv_has ls 4 [(3, .int x), (1, .long da), (0, .ref (L 0))] → W p l e { frames := 7, cells := 0, slots := 0, locals := 152 } s m args below meth c H locs 0 0 (MQ below (va_Ql (fun (zq : Int64) (_ : Unit) => zq = (f_X6_digest_L1  nL1 st1 da x)) (fun _ zt => va_P D vwCl (X ++ gW L cy st1) zt.heap) A) args s 0 0 A) (F0 m 54 ls []) := by
    intro nL1
    induction nL1 with
    | zero => intros; omega
    | succ nL1 ihL1 =>
      intro st1 da x hn hst hx0 H locs ls h hl
      have hst := hst.symm; subst hst
      refine lv_iload_n hx hb dX6_digest_54 rfl (lv_at hl 0 rfl) ?_
      refine lv_aload_n hx hb dX6_digest_55 rfl (lv_at hl 2 rfl) ?_
      refine g_get S h gk_c0 (by decide) rfl rfl in6 (k := 1) (by decide) (by decide +kernel) rfl dX6_digest_56 ?_
      refine g_getN S h gk_c30 (by decide) rfl rfl in1 (k := 3) (by decide) (by decide +kernel) rfl dX6_digest_59 ?_
      refine lv_icmp_ge (tgt := 78) hx hb dX6_digest_62 (by decide) (fun c5 => ?_) (fun c5 => ?_)
      · refine lv_iconst (v := 0) hx hb dX6_digest_78 (by decide) ?_
        refine lv_istore_n (lv' := [(3, .int 0), (1, .long da), (0, .ref (L 0))]) hx hb dX6_digest_79 rfl hl (by decide) rfl (fun ls hl => ?_)
        have loopL2 : ∀ (nL2 : Nat) (st1 : gSt) (db : Int64) (y : Int32), (((6 : Int32).toInt - y.toInt).toNat < nL2) → (st1 = st) → (0 ≤ y.toInt) → ∀ (H : Heap) (locs : List Loc) (ls : Array Slot), gH D L cy X A st1 s H locs → lv_has ls 4 [(3, .int y), (1, .long db), (0, .ref (L 0))] → W p l e { frames := 7, cells := 0, slots := 0, locals := 152 } s m args below meth c H locs 0 0 (MQ below (va_Ql (fun (zq : Int64) (_ : Unit) => zq = (f_X6_digest_L2  nL2 st1 db y)) (fun _ zt => va_P D vwCl (X ++ gW L cy st1) zt.heap) A) args s 0 0 A) (F0 m 80 ls []) := by
          intro nL2
          induction nL2 with
          | zero => intros; omega
          | succ nL2 ihL2 =>
            intro st1 db y hn2 hst hy0 H locs ls h hl
            have hst := hst.symm; subst hst
            refine lv_iload_n hx hb dX6_digest_80 rfl (lv_at hl 0 rfl) ?_
            refine lv_bipush (v := 6) hx hb dX6_digest_81 (by decide) ?_
            refine lv_icmp_ge (tgt := 105) hx hb dX6_digest_83 (by decide) (fun c6 => ?_) (fun c6 => ?_)
            · refine lv_iconst (v := (-1)) hx hb dX6_digest_105 (by decide) ?_
              refine lv_istore_n (lv' := [(3, .int (-1)), (1, .long db), (0, .ref (L 0))]) hx hb dX6_digest_106 rfl hl (by decide) rfl (fun ls hl => ?_)
              have loopL3 : ∀ (nL3 : Nat) (st1 : gSt) (dc : Int64) (z : Int32), (((st1 30 6).toInt - z.toInt).toNat < nL3) → (st1 = st) → (-1 ≤ z.toInt) → ∀ (H : Heap) (locs : List Loc) (ls : Array Slot), gH D L cy X A st1 s H locs → lv_has ls 4 [(3, .int z), (1, .long dc), (0, .ref (L 0))] → W p l e { frames := 7, cells := 0, slots := 0, locals := 152 } s m args below meth c H locs 0 0 (MQ below (va_Ql (fun (zq : Int64) (_ : Unit) => zq = (f_X6_digest_L3  nL3 st1 dc z)) (fun _ zt => va_P D vwCl (X ++ gW L cy st1) zt.heap) A) args s 0 0 A) (F0 m 107 ls []) := by
                intro nL3
                induction nL3 with
                | zero => intros; omega
                | succ nL3 ihL3 =>
                  intro st1 dc z hn3 hst hz0 H locs ls h hl
                  have hst := hst.symm; subst hst
                  refine lv_iload_n hx hb dX6_digest_107 rfl (lv_at hl 0 rfl) ?_
                  refine lv_aload_n hx hb dX6_digest_108 rfl (lv_at hl 2 rfl) ?_
                  refine g_get S h gk_c0 (by decide) rfl rfl in6 (k := 1) (by decide) (by decide +kernel) rfl dX6_digest_109 ?_
                  refine g_getN S h gk_c30 (by decide) rfl rfl in1 (k := 6) (by decide) (by decide +kernel) rfl dX6_digest_112 ?_
                  refine lv_icmp_ge (tgt := 131) hx hb dX6_digest_115 (by decide) (fun c7 => ?_) (fun c7 => ?_)
                  · refine lv_iconst (v := 0) hx hb dX6_digest_131 (by decide) ?_
                    refine lv_istore_n (lv' := [(3, .int 0), (1, .long dc), (0, .ref (L 0))]) hx hb dX6_digest_132 rfl hl (by decide) rfl (fun ls hl => ?_)
                    have loopL4 : ∀ (nL4 : Nat) (st1 : gSt) (de : Int64) (v : Int32), (((st1 30 6).toInt - v.toInt).toNat < nL4) → (st1 = st) → (0 ≤ v.toInt) → ∀ (H : Heap) (locs : List Loc) (ls : Array Slot), gH D L cy X A st1 s H locs → lv_has ls 4 [(3, .int v), (1, .long de), (0, .ref (L 0))] → W p l e { frames := 7, cells := 0, slots := 0, locals := 152 } s m args below meth c H locs 0 0 (MQ below (va_Ql (fun (zq : Int64) (_ : Unit) => zq = (f_X6_digest_L4  nL4 st1 de v)) (fun _ zt => va_P D vwCl (X ++ gW L cy st1) zt.heap) A) args s 0 0 A) (F0 m 133 ls []) := by
                      intro nL4
                      induction nL4 with
                      | zero => intros; omega
                      | succ nL4 ihL4 =>
                        intro st1 de v hn4 hst hv0 H locs ls h hl
                        have hst := hst.symm; subst hst
                        refine lv_iload_n hx hb dX6_digest_133 rfl (lv_at hl 0 rfl) ?_
                        refine lv_aload_n hx hb dX6_digest_134 rfl (lv_at hl 2 rfl) ?_
                        refine g_get S h gk_c0 (by decide) rfl rfl in6 (k := 1) (by decide) (by decide +kernel) rfl dX6_digest_135 ?_
                        refine g_getN S h gk_c30 (by decide) rfl rfl in1 (k := 6) (by decide) (by decide +kernel) rfl dX6_digest_138 ?_
                        refine lv_icmp_ge (tgt := 157) hx hb dX6_digest_141 (by decide) (fun c8 => ?_) (fun c8 => ?_)
                        · refine lv_lload_n hx hb dX6_digest_157 rfl (lv_at hl 1 rfl) ?_
                          exact g_retl S h hr hlocks (by first | (simp only [f_X6_digest_L4, if_pos c8]; done) | contradiction | (simp only [f_X6_digest_L4, if_pos c8]; rfl) | rfl) rfl dX6_digest_158
                        · refine lv_aload_n hx hb dX6_digest_144 rfl (lv_at hl 2 rfl) ?_
                          refine lv_lload_n hx hb dX6_digest_145 rfl (lv_at hl 1 rfl) ?_
                          refine lv_iload_n hx hb dX6_digest_146 rfl (lv_at hl 0 rfl) ?_
                          refine g_calll S h (c_X6_withWorker l D L cy X A _ (h.2.2.2.2 _) _ _ (g_n0 hv0) (g_ltc c8)) (cwV 2 hts gX6_digest_X6_withWorker rfl rfl rfl (by decide +kernel) ⟨Nat.le_of_ble_eq_true rfl, Nat.le_of_ble_eq_true rfl⟩) (g_pre h gk_c0 (by decide) rfl rfl _) rfl hl.1 rfl (Nat.le_of_ble_eq_true rfl) dX6_digest_147 ⟨Nat.zero_le _, Nat.zero_le _⟩ (fun H locs h => ?_)
                          refine lv_topl (fun d9 ed9 => ?_)
                          refine lv_lstore_n (lv' := [(1, .long d9), (3, .int v), (0, .ref (L 0))]) hx hb dX6_digest_150 rfl hl (by decide) rfl (fun ls hl => ?_)
                          obtain ⟨x10, ex10⟩ : ∃ zz : Int32, zz = v + 1 := ⟨_, rfl⟩
                          refine lv_iinc (v := x10) (lv' := [(3, .int x10), (1, .long d9), (0, .ref (L 0))]) hx hb dX6_digest_151 hl (k := 1) rfl (by rw [ex10]; rfl) (by decide) rfl (fun ls hl => ?_)
                          refine lv_goto (tgt := 133) hx hb dX6_digest_154 (by decide) ?_
                          exact g_cvl (by subst ex10 ed9; first | (simp only [f_X6_digest_L4, if_neg c8]; done) | contradiction | (simp only [f_X6_digest_L4, if_neg c8]; rfl) | rfl) rfl (ihL4 _ d9 x10 (Nat.lt_of_lt_of_le (g_ms ex10 c8) (Nat.le_of_lt_succ hn4)) rfl (by rw [g_inc ex10 c8]; omega) _ _ ls h (lv_sub hl [0, 1, 2] rfl))
                    exact g_cvl (by first | (simp only [f_X6_digest_L3, if_pos c7]; done) | contradiction | (simp only [f_X6_digest_L3, if_pos c7]; rfl) | rfl) rfl (loopL4 _ _ dc 0 (Nat.lt_add_one _) rfl (by decide) _ _ ls h (lv_sub hl [0, 1, 2] rfl))
                  · refine lv_aload_n hx hb dX6_digest_118 rfl (lv_at hl 2 rfl) ?_
                    refine lv_lload_n hx hb dX6_digest_119 rfl (lv_at hl 1 rfl) ?_
                    refine lv_iload_n hx hb dX6_digest_120 rfl (lv_at hl 0 rfl) ?_
                    refine g_calll S h (c_X6_withRow l D L cy X A _ (h.2.2.2.2 _) _ _ (fun q => g_n0 (g_nm1 hz0 q)) (fun _ => g_ltc c7)) (cwV 2 hts gX6_digest_X6_withRow rfl rfl rfl (by decide +kernel) ⟨Nat.le_of_ble_eq_true rfl, Nat.le_of_ble_eq_true rfl⟩) (g_pre h gk_c0 (by decide) rfl rfl _) rfl hl.1 rfl (Nat.le_of_ble_eq_true rfl) dX6_digest_121 ⟨Nat.zero_le _, Nat.zero_le _⟩ (fun H locs h => ?_)
                    refine lv_topl (fun d11 ed11 => ?_)
                    refine lv_lstore_n (lv' := [(1, .long d11), (3, .int z), (0, .ref (L 0))]) hx hb dX6_digest_124 rfl hl (by decide) rfl (fun ls hl => ?_)
                    obtain ⟨x12, ex12⟩ : ∃ zz : Int32, zz = z + 1 := ⟨_, rfl⟩
                    refine lv_iinc (v := x12) (lv' := [(3, .int x12), (1, .long d11), (0, .ref (L 0))]) hx hb dX6_digest_125 hl (k := 1) rfl (by rw [ex12]; rfl) (by decide) rfl (fun ls hl => ?_)
                    refine lv_goto (tgt := 107) hx hb dX6_digest_128 (by decide) ?_
                    exact g_cvl (by subst ex12 ed11; first | (simp only [f_X6_digest_L3, if_neg c7]; done) | contradiction | (simp only [f_X6_digest_L3, if_neg c7]; rfl) | rfl) rfl (ihL3 _ d11 x12 (Nat.lt_of_lt_of_le (g_ms ex12 c7) (Nat.le_of_lt_succ hn3)) rfl (by rw [g_inc ex12 c7]; omega) _ _ ls h (lv_sub hl [0, 1, 2] rfl))
              exact g_cvl (by first | (simp only [f_X6_digest_L2, if_pos c6]; done) | contradiction | (simp only [f_X6_digest_L2, if_pos c6]; rfl) | rfl) rfl (loopL3 _ _ db (-1) (Nat.lt_add_one _) rfl (by decide) _ _ ls h (lv_sub hl [0, 1, 2] rfl))
            · refine lv_lload_n hx hb dX6_digest_86 rfl (lv_at hl 1 rfl) ?_
              refine lv_ldc2 (v := 31) hx hb S.2.2.2.1 (hts (.constantLong RX6 249 31) (by decide +kernel)) dX6_digest_87 ?_
              refine lv_lmul hx hb dX6_digest_90 ?_
              refine lv_aload_n hx hb dX6_digest_91 rfl (lv_at hl 2 rfl) ?_
              refine lv_iload_n hx hb dX6_digest_92 rfl (lv_at hl 0 rfl) ?_
              refine g_calli S h (c_X6_promise l D L cy X A _ (h.2.2.2.2 _) _ (isP_ok (g_n0 hy0) c6)) (cwV 1 hts gX6_digest_X6_promise rfl rfl rfl (by decide +kernel) ⟨Nat.le_of_ble_eq_true rfl, Nat.le_of_ble_eq_true rfl⟩) (g_pre h gk_c0 (by decide) rfl rfl _) rfl hl.1 rfl (Nat.le_of_ble_eq_true rfl) dX6_digest_93 ⟨Nat.zero_le _, Nat.zero_le _⟩ (fun H locs h => ?_)
              refine lv_i2l hx hb dX6_digest_96 rfl ?_
              refine lv_ladd hx hb dX6_digest_97 ?_
              refine lv_topl (fun d13 ed13 => ?_)
              refine lv_lstore_n (lv' := [(1, .long d13), (3, .int y), (0, .ref (L 0))]) hx hb dX6_digest_98 rfl hl (by decide) rfl (fun ls hl => ?_)
              obtain ⟨x14, ex14⟩ : ∃ zz : Int32, zz = y + 1 := ⟨_, rfl⟩
              refine lv_iinc (v := x14) (lv' := [(3, .int x14), (1, .long d13), (0, .ref (L 0))]) hx hb dX6_digest_99 hl (k := 1) rfl (by rw [ex14]; rfl) (by decide) rfl (fun ls hl => ?_)
              refine lv_goto (tgt := 80) hx hb dX6_digest_102 (by decide) ?_
              exact g_cvl (by subst ex14 ed13; first | (simp only [f_X6_digest_L2, if_neg c6]; done) | contradiction | (simp only [f_X6_digest_L2, if_neg c6]; rfl) | rfl) rfl (ihL2 _ d13 x14 (Nat.lt_of_lt_of_le (g_ms ex14 c6) (Nat.le_of_lt_succ hn2)) rfl (by rw [g_inc ex14 c6]; omega) _ _ ls h (lv_sub hl [0, 1, 2] rfl))
        exact g_cvl (by first | (simp only [f_X6_digest_L1, if_pos c5]; done) | contradiction | (simp only [f_X6_digest_L1, if_pos c5]; rfl) | rfl) rfl (loopL2 _ _ da 0 (Nat.lt_add_one _) rfl (by decide) _ _ ls h (lv_sub hl [0, 1, 2] rfl))
      · refine lv_aload_n hx hb dX6_digest_65 rfl (lv_at hl 2 rfl) ?_
        refine lv_lload_n hx hb dX6_digest_66 rfl (lv_at hl 1 rfl) ?_
        refine lv_iload_n hx hb dX6_digest_67 rfl (lv_at hl 0 rfl) ?_
        refine g_calll S h (c_X6_withTask l D L cy X A _ (h.2.2.2.2 _) _ _ (g_n0 hx0) (g_ltc c5)) (cwV 2 hts gX6_digest_X6_withTask rfl rfl rfl (by decide +kernel) ⟨Nat.le_of_ble_eq_true rfl, Nat.le_of_ble_eq_true rfl⟩) (g_pre h gk_c0 (by decide) rfl rfl _) rfl hl.1 rfl (Nat.le_of_ble_eq_true rfl) dX6_digest_68 ⟨Nat.zero_le _, Nat.zero_le _⟩ (fun H locs h => ?_)
        refine lv_topl (fun d15 ed15 => ?_)
        refine lv_lstore_n (lv' := [(1, .long d15), (3, .int x), (0, .ref (L 0))]) hx hb dX6_digest_71 rfl hl (by decide) rfl (fun ls hl => ?_)
        obtain ⟨x16, ex16⟩ : ∃ zz : Int32, zz = x + 1 := ⟨_, rfl⟩
        refine lv_iinc (v := x16) (lv' := [(3, .int x16), (1, .long d15), (0, .ref (L 0))]) hx hb dX6_digest_72 hl (k := 1) rfl (by rw [ex16]; rfl) (by decide) rfl (fun ls hl => ?_)
        refine lv_goto (tgt := 54) hx hb dX6_digest_75 (by decide) ?_
        exact g_cvl (by subst ex16 ed15; first | (simp only [f_X6_digest_L1, if_neg c5]; done) | contradiction | (simp only [f_X6_digest_L1, if_neg c5]; rfl) | rfl) rfl (ihL1 _ d15 x16 (Nat.lt_of_lt_of_le (g_ms ex16 c5) (Nat.le_of_lt_succ hn)) rfl (by rw [g_inc ex16 c5]; omega) _ _ ls h (lv_sub hl [0, 1, 2] rfl))
  exact g_cvl (by subst ed4 ed3 ed2 ed1; first | (simp only [f_X6_digest]; done) | contradiction | (simp only [f_X6_digest]; rfl) | rfl) rfl (loopL1 _ _ d4 0 (Nat.lt_add_one _) rfl (by decide) _ _ ls h (lv_sub hl [0, 1, 2] rfl))
