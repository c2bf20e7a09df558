set_option maxHeartbeats 8000000 in
set_option maxRecDepth 100000 in
/-- Pool.act(w) -/
theorem c_X1_act (l : Launch) (D : va_G) (L : Nat → Nat) (cy : Nat → ClassId) (X : va_W) (A : Nat → Prop) (st : gSt) (hD : va_D A (X ++ gW L cy st)) {P : Nat} (hP : gkd P = 5) (a : Int32)  : gMi l yX1_act wsX1_act { frames := 5, cells := 0, slots := 0, locals := 120 } D L cy X A [.ref (L P), .int a] st (f_X1_act st P a).1 (f_X1_act st P a).2 := by
  refine g_entry hD (cc := cX1_act) (maxL := 4) (ret := (some .boolean)) (by decide +kernel) rfl (Nat.le_of_ble_eq_true rfl) ?_
  intro p e s m args below meth c ls B
  obtain ⟨S, hr, hlocks, h, hl⟩ := B
  have hx := S.1
  have hb := S.2.1
  have hts := S.2.2.2.2
  have in5 : ∀ w ∈ wsX50, w ∈ wsX1_act := by decide +kernel
  have hl : lv_has ls 4 [(0, .ref (L P)), (1, .int a)] := hl
  refine lv_aload_n hx hb dX1_act_0 rfl (lv_at hl 0 rfl) ?_
  refine lv_iload_n hx hb dX1_act_1 rfl (lv_at hl 1 rfl) ?_
  refine g_callr S h (c_X1_workerAt l D L cy X A _ (h.2.2.2.2 _) hP _) (cwV 1 hts gX1_act_X1_workerAt rfl rfl rfl (by decide +kernel) ⟨Nat.le_of_ble_eq_true rfl, Nat.le_of_ble_eq_true rfl⟩) (g_pre h hP (by decide) rfl rfl _) rfl hl.1 rfl (Nat.le_of_ble_eq_true rfl) dX1_act_2 ⟨Nat.zero_le _, Nat.zero_le _⟩ (fun H locs h => ?_)
  refine g_topr (fun i1 ei1 => ?_)
  have hki1 : gkd i1 = 9 := by rw [ei1]; exact (gk_wk hP _)
  refine lv_astore_n (lv' := [(2, .ref (L i1)), (0, .ref (L P)), (1, .int a)]) hx hb dX1_act_5 rfl hl (by decide) rfl (fun ls hl => ?_)
  refine lv_aload_n hx hb dX1_act_6 rfl (lv_at hl 1 rfl) ?_
  refine lv_aload_n hx hb dX1_act_7 rfl (lv_at hl 0 rfl) ?_
  refine g_calli S h (c_X1_wantsTask l D L cy X A _ (h.2.2.2.2 _) hP hki1) (cwV 1 hts gX1_act_X1_wantsTask rfl rfl rfl (by decide +kernel) ⟨Nat.le_of_ble_eq_true rfl, Nat.le_of_ble_eq_true rfl⟩) (g_pre h hP (by decide) rfl rfl _) rfl hl.1 rfl (Nat.le_of_ble_eq_true rfl) dX1_act_8 ⟨Nat.zero_le _, Nat.zero_le _⟩ (fun H locs h => ?_)
  refine lv_if_eq (tgt := 21) hx hb dX1_act_11 (by decide) (fun c2 => ?_) (fun c2 => ?_)
  · refine lv_aload_n hx hb dX1_act_21 rfl (lv_at hl 1 rfl) ?_
    refine lv_aload_n hx hb dX1_act_22 rfl (lv_at hl 0 rfl) ?_
    refine g_getN S h hki1 (by decide) rfl rfl in5 (k := 1) (by decide) (by decide +kernel) rfl dX1_act_23 ?_
    refine g_calli S h (c_X2_last l D L cy X A _ (h.2.2.2.2 _) (gk9_3 hki1)) (cwV 0 hts gX1_act_X2_last rfl rfl rfl (by decide +kernel) ⟨Nat.le_of_ble_eq_true rfl, Nat.le_of_ble_eq_true rfl⟩) (g_pre h (gk9_3 hki1) (by decide) rfl rfl _) rfl hl.1 rfl (Nat.le_of_ble_eq_true rfl) dX1_act_26 ⟨Nat.zero_le _, Nat.zero_le _⟩ (fun H locs h => ?_)
    refine g_callr S h (c_X1_taskAt l D L cy X A _ (h.2.2.2.2 _) hP _) (cwV 1 hts gX1_act_X1_taskAt rfl rfl rfl (by decide +kernel) ⟨Nat.le_of_ble_eq_true rfl, Nat.le_of_ble_eq_true rfl⟩) (g_pre h hP (by decide) rfl rfl _) rfl hl.1 rfl (Nat.le_of_ble_eq_true rfl) dX1_act_29 ⟨Nat.zero_le _, Nat.zero_le _⟩ (fun H locs h => ?_)
    refine g_topr (fun i3 ei3 => ?_)
    have hki3 : gkd i3 = 7 := by rw [ei3]; exact (gk_tk hP _)
    refine lv_astore_n (lv' := [(3, .ref (L i3)), (2, .ref (L i1)), (0, .ref (L P)), (1, .int a)]) hx hb dX1_act_32 rfl hl (by decide) rfl (fun ls hl => ?_)
    refine lv_aload_n hx hb dX1_act_33 rfl (lv_at hl 0 rfl) ?_
    refine g_calli S h (c_X4_isBlocked l D L cy X A _ (h.2.2.2.2 _) hki3) (cwV 0 hts gX1_act_X4_isBlocked rfl rfl rfl (by decide +kernel) ⟨Nat.le_of_ble_eq_true rfl, Nat.le_of_ble_eq_true rfl⟩) (g_pre h hki3 (by decide) rfl rfl _) rfl hl.1 rfl (Nat.le_of_ble_eq_true rfl) dX1_act_34 ⟨Nat.zero_le _, Nat.zero_le _⟩ (fun H locs h => ?_)
    refine lv_if_eq (tgt := 52) hx hb dX1_act_37 (by decide) (fun c4 => ?_) (fun c4 => ?_)
    · refine lv_aload_n hx hb dX1_act_52 rfl (lv_at hl 2 rfl) ?_
      refine lv_iload_n hx hb dX1_act_53 rfl (lv_at hl 3 rfl) ?_
      refine lv_aload_n hx hb dX1_act_54 rfl (lv_at hl 0 rfl) ?_
      refine g_calli S h (c_X1_goOn l D L cy X A _ (h.2.2.2.2 _) hP _ hki3) (cwV 2 hts gX1_act_X1_goOn rfl rfl rfl (by decide +kernel) ⟨Nat.le_of_ble_eq_true rfl, Nat.le_of_ble_eq_true rfl⟩) (g_pre h hP (by decide) rfl rfl _) rfl hl.1 rfl (Nat.le_of_ble_eq_true rfl) dX1_act_55 ⟨Nat.zero_le _, Nat.zero_le _⟩ (fun H locs h => ?_)
      exact g_reti S h hr hlocks (nb_of b_goOn) (by subst ei3 ei1; first | (simp only [f_X1_act, if_pos c2, if_pos c4]; done) | (simp only [f_X1_act, if_pos c2, if_pos c4]; rfl) | rfl) (by subst ei3 ei1; first | (simp only [f_X1_act, if_pos c2, if_pos c4]; done) | (simp only [f_X1_act, if_pos c2, if_pos c4]; rfl) | rfl) dX1_act_58
    · refine lv_aload_n hx hb dX1_act_40 rfl (lv_at hl 1 rfl) ?_
      refine lv_dup hx hb dX1_act_41 rfl ?_
      refine g_getN S h hki1 (by decide) rfl rfl in5 (k := 3) (by decide) (by decide +kernel) rfl dX1_act_42 ?_
      refine lv_iconst (v := 1) hx hb dX1_act_45 (by decide) ?_
      refine lv_iadd hx hb dX1_act_46 ?_
      refine g_putN S h tyX5 tyX5_ok nmX5 hki1 (by decide) rfl rfl in5 (k := 3) (by decide) (by decide +kernel) rfl rfl (Nat.le_of_ble_eq_true rfl) rfl dX1_act_47 (fun H locs h => ?_)
      refine lv_iconst (v := 0) hx hb dX1_act_50 (by decide) ?_
      exact g_reti S h hr hlocks rfl (by subst ei3 ei1; first | (simp only [f_X1_act, if_pos c2, if_neg c4]; done) | (simp only [f_X1_act, if_pos c2, if_neg c4]; rfl) | rfl) (by subst ei3 ei1; first | (simp only [f_X1_act, if_pos c2, if_neg c4]; done) | (simp only [f_X1_act, if_pos c2, if_neg c4]; rfl) | rfl) dX1_act_51
  · refine lv_aload_n hx hb dX1_act_14 rfl (lv_at hl 1 rfl) ?_
    refine lv_iload_n hx hb dX1_act_15 rfl (lv_at hl 2 rfl) ?_
    refine lv_aload_n hx hb dX1_act_16 rfl (lv_at hl 0 rfl) ?_
    refine g_calli S h (c_X1_take l D L cy X A _ (h.2.2.2.2 _) hP _ hki1) (cwV 2 hts gX1_act_X1_take rfl rfl rfl (by decide +kernel) ⟨Nat.le_of_ble_eq_true rfl, Nat.le_of_ble_eq_true rfl⟩) (g_pre h hP (by decide) rfl rfl _) rfl hl.1 rfl (Nat.le_of_ble_eq_true rfl) dX1_act_17 ⟨Nat.zero_le _, Nat.zero_le _⟩ (fun H locs h => ?_)
    exact g_reti S h hr hlocks (nb_of b_take) (by subst ei1; first | (simp only [f_X1_act, if_neg c2]; done) | (simp only [f_X1_act, if_neg c2]; rfl) | rfl) (by subst ei1; first | (simp only [f_X1_act, if_neg c2]; done) | (simp only [f_X1_act, if_neg c2]; rfl) | rfl) dX1_act_20
theorem gch_act {s : gSt} {P : Nat} {a : Int32} (hP : gkd P = 5) : gch gE1 s (f_X1_act s P a).2 := by
  simp only [f_X1_act]
  split
  · split
    · exact gch_goOn hP (gk_tk hP _)
    · exact gch_1 (gch_su (gE0_w (gk_wk hP _)) (gch_rf s))
  · exact gch_1 (gch_take hP (gk_wk hP _))
theorem g_ms2 {x y c : Int32} (ey : y = x + 1) (h : ¬ c ≤ x) : (c.toInt - y.toInt).toNat < (c.toInt - x.toInt).toNat := g_ms ey h
set_option maxHeartbeats 8000000 in
set_option maxRecDepth 100000 in
/-- Pool.passTick() -/
theorem c_X1_passTick (l : Launch) (D : va_G) (L : Nat → Nat) (cy : Nat → ClassId) (X : va_W) (A : Nat → Prop) (st : gSt) (hD : va_D A (X ++ gW L cy st)) {P : Nat} (hP : gkd P = 5)  : gMv l yX1_passTick wsX1_passTick { frames := 6, cells := 0, slots := 0, locals := 143 } D L cy X A [.ref (L P)] st (f_X1_passTick st P) := by
  refine g_entry hD (cc := cX1_passTick) (maxL := 4) (ret := none) (by decide +kernel) rfl (Nat.le_of_ble_eq_true rfl) ?_
  intro p e s m args below meth c ls B
  obtain ⟨S, hr, hlocks, h, hl⟩ := B
  have hx := S.1
  have hb := S.2.1
  have hts := S.2.2.2.2
  have in1 : ∀ w ∈ wsX10, w ∈ wsX1_passTick := by decide +kernel
  have hl : lv_has ls 4 [(0, .ref (L P))] := hl
  refine lv_iconst (v := 0) hx hb dX1_passTick_0 (by decide) ?_
  refine lv_istore_n (lv' := [(1, .int 0), (0, .ref (L P))]) hx hb dX1_passTick_1 rfl hl (by decide) rfl (fun ls hl => ?_)
  have loopL1 : ∀ (nL1 : Nat) (so : gSt) (x : Int32), (((so P 6).toInt - x.toInt).toNat < nL1) → ∀ (H : Heap) (locs : List Loc) (ls : Array Slot), gH D L cy X A so s H locs → lv_has ls 4 [(1, .int x), (0, .ref (L P))] → W p l e { frames := 6, cells := 0, slots := 0, locals := 143 } s m args below meth c H locs 0 0 (MQ below (va_Qv (fun (_ : Unit) => True) (fun _ zt => va_P D vwCl (X ++ gW L cy (f_X1_passTick_L1 P nL1 so x)) zt.heap) A) args s 0 0 A) (F0 m 2 ls []) := by
    intro nL1
    induction nL1 with
    | zero => intros; omega
    | succ nL1 ihL1 =>
      intro so x hn H locs ls h hl
      refine lv_iload_n hx hb dX1_passTick_2 rfl (lv_at hl 0 rfl) ?_
      refine lv_aload_n hx hb dX1_passTick_3 rfl (lv_at hl 1 rfl) ?_
      refine g_get S h hP (by decide) rfl rfl in1 (k := 6) (by decide) (by decide +kernel) rfl dX1_passTick_4 ?_
      refine lv_icmp_ge (tgt := 55) hx hb dX1_passTick_7 (by decide) (fun c1 => ?_) (fun c1 => ?_)
      · refine lv_aload_n hx hb dX1_passTick_55 rfl (lv_at hl 1 rfl) ?_
        refine lv_dup hx hb dX1_passTick_56 rfl ?_
        refine g_get S h hP (by decide) rfl rfl in1 (k := 11) (by decide) (by decide +kernel) rfl dX1_passTick_57 ?_
        refine lv_iconst (v := 1) hx hb dX1_passTick_60 (by decide) ?_
        refine lv_iadd hx hb dX1_passTick_61 ?_
        refine g_put S h tyX1 tyX1_ok nmX1 hP (by decide) rfl rfl in1 (k := 11) (by decide) (by decide +kernel) rfl rfl (Nat.le_of_ble_eq_true rfl) rfl dX1_passTick_62 (fun H locs h => ?_)
        exact g_retv S h hr hlocks (by first | (simp only [f_X1_passTick_L1, if_pos c1]; done) | (simp only [f_X1_passTick_L1, if_pos c1]; rfl) | rfl) dX1_passTick_65
      · refine lv_aload_n hx hb dX1_passTick_10 rfl (lv_at hl 1 rfl) ?_
        refine lv_iload_n hx hb dX1_passTick_11 rfl (lv_at hl 0 rfl) ?_
        refine g_callr S h (c_X1_workerAt l D L cy X A _ (h.2.2.2.2 _) hP _) (cwV 1 hts gX1_passTick_X1_workerAt rfl rfl rfl (by decide +kernel) ⟨Nat.le_of_ble_eq_true rfl, Nat.le_of_ble_eq_true rfl⟩) (g_pre h hP (by decide) rfl rfl _) rfl hl.1 rfl (Nat.le_of_ble_eq_true rfl) dX1_passTick_12 ⟨Nat.zero_le _, Nat.zero_le _⟩ (fun H locs h => ?_)
        refine lv_aload_n hx hb dX1_passTick_15 rfl (lv_at hl 1 rfl) ?_
        refine g_get S h hP (by decide) rfl rfl in1 (k := 11) (by decide) (by decide +kernel) rfl dX1_passTick_16 ?_
        refine lv_iconst (v := (-1)) hx hb dX1_passTick_19 (by decide) ?_
        refine g_callv S h (c_X5_noteRan l D L cy X A _ (h.2.2.2.2 _) (gk_wk hP _) _ _) (cwV 2 hts gX1_passTick_X5_noteRan rfl rfl rfl (by decide +kernel) ⟨Nat.le_of_ble_eq_true rfl, Nat.le_of_ble_eq_true rfl⟩) (g_pre h (gk_wk hP _) (by decide) rfl rfl _) rfl hl.1 rfl (Nat.le_of_ble_eq_true rfl) dX1_passTick_20 ⟨Nat.zero_le _, Nat.zero_le _⟩ (fun H locs h => ?_)
        refine lv_iconst (v := 1) hx hb dX1_passTick_23 (by decide) ?_
        refine lv_istore_n (lv' := [(2, .int 1), (1, .int x), (0, .ref (L P))]) hx hb dX1_passTick_24 rfl hl (by decide) rfl (fun ls hl => ?_)
        refine lv_iconst (v := 0) hx hb dX1_passTick_25 (by decide) ?_
        refine lv_istore_n (lv' := [(3, .int 0), (2, .int 1), (1, .int x), (0, .ref (L P))]) hx hb dX1_passTick_26 rfl hl (by decide) rfl (fun ls hl => ?_)
        have loopL2 : ∀ (nL2 : Nat) (st1 : gSt) (b : Int32) (y : Int32), (gch gE1 so st1) → (((1000000 : Int32).toInt - y.toInt).toNat < nL2) → ∀ (H : Heap) (locs : List Loc) (ls : Array Slot), gH D L cy X A st1 s H locs → lv_has ls 4 [(3, .int y), (2, .int b), (1, .int x), (0, .ref (L P))] → W p l e { frames := 6, cells := 0, slots := 0, locals := 143 } s m args below meth c H locs 0 0 (MQ below (va_Qv (fun (_ : Unit) => True) (fun _ zt => va_P D vwCl (X ++ gW L cy (f_X1_passTick_L2 P (f_X1_passTick_L1 P nL1) x nL2 st1 b y)) zt.heap) A) args s 0 0 A) (F0 m 27 ls []) := by
          intro nL2
          induction nL2 with
          | zero => intros; omega
          | succ nL2 ihL2 =>
            intro st1 b y hq hn2 H locs ls h hl
            refine lv_iload_n hx hb dX1_passTick_27 rfl (lv_at hl 0 rfl) ?_
            refine lv_ldc (v := 1000000) hx hb S.2.2.2.1 (hts (.constant RX1 190 1000000) (by decide +kernel)) dX1_passTick_28 ?_
            refine lv_icmp_ge (tgt := 49) hx hb dX1_passTick_30 (by decide) (fun c4 => ?_) (fun c4 => ?_)
            · obtain ⟨x5, ex5⟩ : ∃ zz : Int32, zz = x + 1 := ⟨_, rfl⟩
              refine lv_iinc (v := x5) (lv' := [(1, .int x5), (3, .int y), (2, .int b), (0, .ref (L P))]) hx hb dX1_passTick_49 hl (k := 2) rfl (by rw [ex5]; rfl) (by decide) rfl (fun ls hl => ?_)
              refine lv_goto (tgt := 2) hx hb dX1_passTick_52 (by decide) ?_
              exact g_cvv (by subst ex5; first | (simp only [f_X1_passTick_L2, if_pos c4]; done) | (simp only [f_X1_passTick_L2, if_pos c4]; rfl) | rfl) (ihL1 _ x5 (by rw [hq P 6 (nE1_P hP (by decide))]; exact Nat.lt_of_lt_of_le (g_ms ex5 c1) (Nat.le_of_lt_succ hn)) _ _ ls h (lv_sub hl [0, 3] rfl))
            · refine lv_iload_n hx hb dX1_passTick_33 rfl (lv_at hl 1 rfl) ?_
              refine lv_if_eq (tgt := 49) hx hb dX1_passTick_34 (by decide) (fun c6 => ?_) (fun c6 => ?_)
              · obtain ⟨x7, ex7⟩ : ∃ zz : Int32, zz = x + 1 := ⟨_, rfl⟩
                refine lv_iinc (v := x7) (lv' := [(1, .int x7), (3, .int y), (2, .int b), (0, .ref (L P))]) hx hb dX1_passTick_49 hl (k := 2) rfl (by rw [ex7]; rfl) (by decide) rfl (fun ls hl => ?_)
                refine lv_goto (tgt := 2) hx hb dX1_passTick_52 (by decide) ?_
                exact g_cvv (by subst ex7; first | (simp only [f_X1_passTick_L2, if_neg c4, if_pos c6]; done) | (simp only [f_X1_passTick_L2, if_neg c4, if_pos c6]; rfl) | rfl) (ihL1 _ x7 (by rw [hq P 6 (nE1_P hP (by decide))]; exact Nat.lt_of_lt_of_le (g_ms ex7 c1) (Nat.le_of_lt_succ hn)) _ _ ls h (lv_sub hl [0, 3] rfl))
              · refine lv_aload_n hx hb dX1_passTick_37 rfl (lv_at hl 3 rfl) ?_
                refine lv_iload_n hx hb dX1_passTick_38 rfl (lv_at hl 2 rfl) ?_
                refine g_calli S h (c_X1_act l D L cy X A _ (h.2.2.2.2 _) hP _) (cwV 1 hts gX1_passTick_X1_act rfl rfl rfl (by decide +kernel) ⟨Nat.le_of_ble_eq_true rfl, Nat.le_of_ble_eq_true rfl⟩) (g_pre h hP (by decide) rfl rfl _) rfl hl.1 rfl (Nat.le_of_ble_eq_true rfl) dX1_passTick_39 ⟨Nat.zero_le _, Nat.zero_le _⟩ (fun H locs h => ?_)
                refine lv_topi (fun x9 ex9 => ?_)
                refine lv_istore_n (lv' := [(2, .int x9), (3, .int y), (1, .int x), (0, .ref (L P))]) hx hb dX1_passTick_42 rfl hl (by decide) rfl (fun ls hl => ?_)
                obtain ⟨x10, ex10⟩ : ∃ zz : Int32, zz = y + 1 := ⟨_, rfl⟩
                refine lv_iinc (v := x10) (lv' := [(3, .int x10), (2, .int x9), (1, .int x), (0, .ref (L P))]) hx hb dX1_passTick_43 hl (k := 1) rfl (by rw [ex10]; rfl) (by decide) rfl (fun ls hl => ?_)
                refine lv_goto (tgt := 27) hx hb dX1_passTick_46 (by decide) ?_
                exact g_cvv (by subst ex10 ex9; first | (simp only [f_X1_passTick_L2, if_neg c4, if_neg c6]; done) | (simp only [f_X1_passTick_L2, if_neg c4, if_neg c6]; rfl) | rfl) (ihL2 _ x9 x10 (gch_tr hq (gch_act hP)) (Nat.lt_of_lt_of_le (g_ms2 ex10 c4) (Nat.le_of_lt_succ hn2)) _ _ ls h (lv_sub hl [0, 1, 2, 3] rfl))
        exact g_cvv (by first | (simp only [f_X1_passTick_L1, if_neg c1]; done) | (simp only [f_X1_passTick_L1, if_neg c1]; rfl) | rfl) (loopL2 _ _ 1 0 (gch_1 (gch_note (gk_wk hP _))) (show ((1000000 : Int32).toInt - (0 : Int32).toInt).toNat < 1000001 by decide) _ _ ls h (lv_sub hl [0, 1, 2, 3] rfl))
  exact g_cvv (by first | (simp only [f_X1_passTick]; done) | (simp only [f_X1_passTick]; rfl) | rfl) (loopL1 _ _ 0 (Nat.lt_add_one _) _ _ ls h (lv_sub hl [0, 1] rfl))
