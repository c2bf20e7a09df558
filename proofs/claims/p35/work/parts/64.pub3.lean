theorem g_inc {x y c : Int32} (ey : y = x + 1) (h : ¬ c ≤ x) : y.toInt = x.toInt + 1 := by
  have h1 : ¬ c.toInt ≤ x.toInt := fun q => h (Int32.le_iff_toInt_le.mpr q)
  have h2 := Int32.toInt_lt c
  have h3 := Int32.le_toInt x
  rw [ey, Int32.toInt_add]
  have e1 : (1 : Int32).toInt = 1 := rfl
  rw [e1]
  exact Int.bmod_eq_of_le (by omega) (by omega)
theorem g_n0 {x : Int32} (h : 0 ≤ x.toInt) : ¬ x < (0 : Int32) := fun q => by
  have := Int32.lt_iff_toInt_lt.mp q
  have h0 : (0 : Int32).toInt = 0 := rfl
  omega
theorem g_ltc {x c : Int32} (h : ¬ c ≤ x) : x < c := Int32.lt_iff_toInt_lt.mpr (by
  have h1 : ¬ c.toInt ≤ x.toInt := fun q => h (Int32.le_iff_toInt_le.mpr q)
  omega)
/-- a loop that goes on while x ≤ c -/
theorem g_msle {x y c : Int32} (hc : c.toInt < 2147483647) (ey : y = x + 1) (h : ¬ c < x) : (c.toInt + 1 - y.toInt).toNat < (c.toInt + 1 - x.toInt).toNat ∧ y.toInt = x.toInt + 1 := by
  have h1 : ¬ c.toInt < x.toInt := fun q => h (Int32.lt_iff_toInt_lt.mpr q)
  have h3 := Int32.le_toInt x
  have h4 : y.toInt = x.toInt + 1 := by
    rw [ey, Int32.toInt_add]
    have e1 : (1 : Int32).toInt = 1 := rfl
    rw [e1]
    exact Int.bmod_eq_of_le (by omega) (by omega)
  exact ⟨by omega, h4⟩
theorem isP_ok {s : gSt} {x : Int32} (h0 : ¬ x < 0) (h : ¬ 6 ≤ x) : ¬ (f_X6_isPromise s x) = 0 := by
  simp only [f_X6_isPromise, if_neg h0, if_neg h]
  decide
set_option maxHeartbeats 8000000 in
set_option maxRecDepth 100000 in
/-- Pool.needsWorkerFrom(count) -/
theorem c_X1_needsWorkerFrom (l : Launch) (D : va_G) (L : Nat → Nat) (cy : Nat → ClassId) (X : va_W) (A : Nat → Prop) (st : gSt) (hD : va_D A (X ++ gW L cy st)) {P : Nat} (hP : gkd P = 5) (a : Int32)  : gMi l yX1_needsWorkerFrom wsX1_needsWorkerFrom { frames := 1, cells := 0, slots := 0, locals := 21 } D L cy X A [.ref (L P), .int a] st (f_X1_needsWorkerFrom st P a) st := by
  refine g_entry hD (cc := cX1_needsWorkerFrom) (maxL := 4) (ret := (some .boolean)) (by decide +kernel) rfl (Nat.le_of_ble_eq_true rfl) ?_
  intro p e s m args below meth c ls B
  obtain ⟨S, hr, hlocks, h, hl⟩ := B
  have hx := S.1
  have hb := S.2.1
  have hts := S.2.2.2.2
  have in1 : ∀ w ∈ wsX10, w ∈ wsX1_needsWorkerFrom := by decide +kernel
  have in2 : ∀ w ∈ wsX20, w ∈ wsX1_needsWorkerFrom := by decide +kernel
  have in4 : ∀ w ∈ wsX40, w ∈ wsX1_needsWorkerFrom := by decide +kernel
  have in5 : ∀ w ∈ wsX50, w ∈ wsX1_needsWorkerFrom := by decide +kernel
  have hl : lv_has ls 4 [(0, .ref (L P)), (1, .int a)] := hl
  refine lv_iload_n hx hb dX1_needsWorkerFrom_0 rfl (lv_at hl 1 rfl) ?_
  refine lv_istore_n (lv' := [(2, .int a), (0, .ref (L P)), (1, .int a)]) hx hb dX1_needsWorkerFrom_1 rfl hl (by decide) rfl (fun ls hl => ?_)
  have loopL1 : ∀ (nL1 : Nat) (st1 : gSt) (x : Int32), (((st1 P 6).toInt - x.toInt).toNat < nL1) → ∀ (H : Heap) (locs : List Loc) (ls : Array Slot), gH D L cy X A st1 s H locs → lv_has ls 4 [(2, .int x), (0, .ref (L P)), (1, .int a)] → W p l e { frames := 1, cells := 0, slots := 0, locals := 21 } s m args below meth c H locs 0 0 (MQ below (va_Qi (fun (zq : Int32) (_ : Unit) => zq = (f_X1_needsWorkerFrom_L1 P a nL1 st1 x)) (fun _ zt => va_P D vwCl (X ++ gW L cy st1) zt.heap) A) args s 0 0 A) (F0 m 2 ls []) := by
    intro nL1
    induction nL1 with
    | zero => intros; omega
    | succ nL1 ihL1 =>
      intro st1 x hn H locs ls h hl
      refine lv_iload_n hx hb dX1_needsWorkerFrom_2 rfl (lv_at hl 0 rfl) ?_
      refine lv_aload_n hx hb dX1_needsWorkerFrom_3 rfl (lv_at hl 1 rfl) ?_
      refine g_get S h hP (by decide) rfl rfl in1 (k := 6) (by decide) (by decide +kernel) rfl dX1_needsWorkerFrom_4 ?_
      refine lv_icmp_ge (tgt := 44) hx hb dX1_needsWorkerFrom_7 (by decide) (fun c1 => ?_) (fun c1 => ?_)
      · refine lv_iconst (v := 0) hx hb dX1_needsWorkerFrom_44 (by decide) ?_
        refine lv_istore_n (lv' := [(2, .int 0), (0, .ref (L P)), (1, .int a)]) hx hb dX1_needsWorkerFrom_45 rfl hl (by decide) rfl (fun ls hl => ?_)
        have loopL2 : ∀ (nL2 : Nat) (st1 : gSt) (x : Int32), (((st1 P 3).toInt - x.toInt).toNat < nL2) → ∀ (H : Heap) (locs : List Loc) (ls : Array Slot), gH D L cy X A st1 s H locs → lv_has ls 4 [(2, .int x), (0, .ref (L P)), (1, .int a)] → W p l e { frames := 1, cells := 0, slots := 0, locals := 21 } s m args below meth c H locs 0 0 (MQ below (va_Qi (fun (zq : Int32) (_ : Unit) => zq = (f_X1_needsWorkerFrom_L2 P a nL2 st1 x)) (fun _ zt => va_P D vwCl (X ++ gW L cy st1) zt.heap) A) args s 0 0 A) (F0 m 46 ls []) := by
          intro nL2
          induction nL2 with
          | zero => intros; omega
          | succ nL2 ihL2 =>
            intro st1 x hn H locs ls h hl
            refine lv_iload_n hx hb dX1_needsWorkerFrom_46 rfl (lv_at hl 0 rfl) ?_
            refine lv_aload_n hx hb dX1_needsWorkerFrom_47 rfl (lv_at hl 1 rfl) ?_
            refine g_get S h hP (by decide) rfl rfl in1 (k := 3) (by decide) (by decide +kernel) rfl dX1_needsWorkerFrom_48 ?_
            refine lv_icmp_ge (tgt := 83) hx hb dX1_needsWorkerFrom_51 (by decide) (fun c2 => ?_) (fun c2 => ?_)
            · refine lv_iconst (v := 0) hx hb dX1_needsWorkerFrom_83 (by decide) ?_
              exact g_reti S h hr hlocks rfl (by first | (simp only [f_X1_needsWorkerFrom_L2, if_pos c2]; done) | contradiction | (simp only [f_X1_needsWorkerFrom_L2, if_pos c2]; rfl) | rfl) rfl dX1_needsWorkerFrom_84
            · refine lv_aload_n hx hb dX1_needsWorkerFrom_54 rfl (lv_at hl 1 rfl) ?_
              refine lv_iload_n hx hb dX1_needsWorkerFrom_55 rfl (lv_at hl 0 rfl) ?_
              refine g_callr S h (c_X1_taskAt l D L cy X A _ (h.2.2.2.2 _) hP _) (cwV 1 hts gX1_needsWorkerFrom_X1_taskAt rfl rfl rfl (by decide +kernel) ⟨Nat.le_of_ble_eq_true rfl, Nat.le_of_ble_eq_true rfl⟩) (g_pre h hP (by decide) rfl rfl _) rfl hl.1 rfl (Nat.le_of_ble_eq_true rfl) dX1_needsWorkerFrom_56 ⟨Nat.zero_le _, Nat.zero_le _⟩ (fun H locs h => ?_)
              refine g_topr (fun i3 ei3 => ?_)
              have hki3 : gkd i3 = 7 := by rw [ei3]; exact (gk_tk hP _)
              refine lv_astore_n (lv' := [(3, .ref (L i3)), (2, .int x), (0, .ref (L P)), (1, .int a)]) hx hb dX1_needsWorkerFrom_59 rfl hl (by decide) rfl (fun ls hl => ?_)
              refine lv_aload_n hx hb dX1_needsWorkerFrom_60 rfl (lv_at hl 0 rfl) ?_
              refine g_calli S h (c_X4_isBlocked l D L cy X A _ (h.2.2.2.2 _) hki3) (cwV 0 hts gX1_needsWorkerFrom_X4_isBlocked rfl rfl rfl (by decide +kernel) ⟨Nat.le_of_ble_eq_true rfl, Nat.le_of_ble_eq_true rfl⟩) (g_pre h hki3 (by decide) rfl rfl _) rfl hl.1 rfl (Nat.le_of_ble_eq_true rfl) dX1_needsWorkerFrom_61 ⟨Nat.zero_le _, Nat.zero_le _⟩ (fun H locs h => ?_)
              refine lv_if_eq (tgt := 77) hx hb dX1_needsWorkerFrom_64 (by decide) (fun c4 => ?_) (fun c4 => ?_)
              · obtain ⟨x5, ex5⟩ : ∃ zz : Int32, zz = x + 1 := ⟨_, rfl⟩
                refine lv_iinc (v := x5) (lv' := [(2, .int x5), (3, .ref (L i3)), (0, .ref (L P)), (1, .int a)]) hx hb dX1_needsWorkerFrom_77 hl (k := 1) rfl (by rw [ex5]; rfl) (by decide) rfl (fun ls hl => ?_)
                refine lv_goto (tgt := 46) hx hb dX1_needsWorkerFrom_80 (by decide) ?_
                exact g_cvi (by subst ex5 ei3; first | (simp only [f_X1_needsWorkerFrom_L2, if_neg c2, if_pos c4]; done) | contradiction | (simp only [f_X1_needsWorkerFrom_L2, if_neg c2, if_pos c4]; rfl) | rfl) rfl (ihL2 _ x5 (Nat.lt_of_lt_of_le (g_ms ex5 c2) (Nat.le_of_lt_succ hn)) _ _ ls h (lv_sub hl [0, 2, 3] rfl))
              · refine lv_aload_n hx hb dX1_needsWorkerFrom_67 rfl (lv_at hl 0 rfl) ?_
                refine g_getN S h hki3 (by decide) rfl rfl in4 (k := 10) (by decide) (by decide +kernel) rfl dX1_needsWorkerFrom_68 ?_
                refine lv_iload_n hx hb dX1_needsWorkerFrom_71 rfl (lv_at hl 3 rfl) ?_
                refine lv_icmp_lt (tgt := 77) hx hb dX1_needsWorkerFrom_72 (by decide) (fun c6 => ?_) (fun c6 => ?_)
                · obtain ⟨x7, ex7⟩ : ∃ zz : Int32, zz = x + 1 := ⟨_, rfl⟩
                  refine lv_iinc (v := x7) (lv' := [(2, .int x7), (3, .ref (L i3)), (0, .ref (L P)), (1, .int a)]) hx hb dX1_needsWorkerFrom_77 hl (k := 1) rfl (by rw [ex7]; rfl) (by decide) rfl (fun ls hl => ?_)
                  refine lv_goto (tgt := 46) hx hb dX1_needsWorkerFrom_80 (by decide) ?_
                  exact g_cvi (by subst ex7 ei3; first | (simp only [f_X1_needsWorkerFrom_L2, if_neg c2, if_neg c4, if_pos c6]; done) | contradiction | (simp only [f_X1_needsWorkerFrom_L2, if_neg c2, if_neg c4, if_pos c6]; rfl) | rfl) rfl (ihL2 _ x7 (Nat.lt_of_lt_of_le (g_ms ex7 c2) (Nat.le_of_lt_succ hn)) _ _ ls h (lv_sub hl [0, 2, 3] rfl))
                · refine lv_iconst (v := 1) hx hb dX1_needsWorkerFrom_75 (by decide) ?_
                  exact g_reti S h hr hlocks rfl (by subst ei3; first | (simp only [f_X1_needsWorkerFrom_L2, if_neg c2, if_neg c4, if_neg c6]; done) | contradiction | (simp only [f_X1_needsWorkerFrom_L2, if_neg c2, if_neg c4, if_neg c6]; rfl) | rfl) rfl dX1_needsWorkerFrom_76
        exact g_cvi (by first | (simp only [f_X1_needsWorkerFrom_L1, if_pos c1]; done) | contradiction | (simp only [f_X1_needsWorkerFrom_L1, if_pos c1]; rfl) | rfl) rfl (loopL2 _ _ 0 (Nat.lt_add_one _) _ _ ls h (lv_sub hl [0, 1, 2] rfl))
      · refine lv_aload_n hx hb dX1_needsWorkerFrom_10 rfl (lv_at hl 1 rfl) ?_
        refine lv_iload_n hx hb dX1_needsWorkerFrom_11 rfl (lv_at hl 0 rfl) ?_
        refine g_callr S h (c_X1_workerAt l D L cy X A _ (h.2.2.2.2 _) hP _) (cwV 1 hts gX1_needsWorkerFrom_X1_workerAt rfl rfl rfl (by decide +kernel) ⟨Nat.le_of_ble_eq_true rfl, Nat.le_of_ble_eq_true rfl⟩) (g_pre h hP (by decide) rfl rfl _) rfl hl.1 rfl (Nat.le_of_ble_eq_true rfl) dX1_needsWorkerFrom_12 ⟨Nat.zero_le _, Nat.zero_le _⟩ (fun H locs h => ?_)
        refine g_topr (fun i8 ei8 => ?_)
        have hki8 : gkd i8 = 9 := by rw [ei8]; exact (gk_wk hP _)
        refine lv_astore_n (lv' := [(3, .ref (L i8)), (2, .int x), (0, .ref (L P)), (1, .int a)]) hx hb dX1_needsWorkerFrom_15 rfl hl (by decide) rfl (fun ls hl => ?_)
        refine lv_aload_n hx hb dX1_needsWorkerFrom_16 rfl (lv_at hl 0 rfl) ?_
        refine g_getN S h hki8 (by decide) rfl rfl in5 (k := 0) (by decide) (by decide +kernel) rfl dX1_needsWorkerFrom_17 ?_
        refine g_getN S h (gk9_1 hki8) (by decide) rfl rfl in2 (k := 1) (by decide) (by decide +kernel) rfl dX1_needsWorkerFrom_20 ?_
        refine lv_if_gt (tgt := 36) hx hb dX1_needsWorkerFrom_23 (by decide) (fun c9 => ?_) (fun c9 => ?_)
        · refine lv_iconst (v := 1) hx hb dX1_needsWorkerFrom_36 (by decide) ?_
          exact g_reti S h hr hlocks rfl (by subst ei8; first | (simp only [f_X1_needsWorkerFrom_L1, if_neg c1, if_pos c9]; done) | contradiction | (simp only [f_X1_needsWorkerFrom_L1, if_neg c1, if_pos c9]; rfl) | rfl) rfl dX1_needsWorkerFrom_37
        · refine lv_aload_n hx hb dX1_needsWorkerFrom_26 rfl (lv_at hl 0 rfl) ?_
          refine g_getN S h hki8 (by decide) rfl rfl in5 (k := 1) (by decide) (by decide +kernel) rfl dX1_needsWorkerFrom_27 ?_
          refine g_getN S h (gk9_3 hki8) (by decide) rfl rfl in2 (k := 1) (by decide) (by decide +kernel) rfl dX1_needsWorkerFrom_30 ?_
          refine lv_if_le (tgt := 38) hx hb dX1_needsWorkerFrom_33 (by decide) (fun c10 => ?_) (fun c10 => ?_)
          · obtain ⟨x11, ex11⟩ : ∃ zz : Int32, zz = x + 1 := ⟨_, rfl⟩
            refine lv_iinc (v := x11) (lv' := [(2, .int x11), (3, .ref (L i8)), (0, .ref (L P)), (1, .int a)]) hx hb dX1_needsWorkerFrom_38 hl (k := 1) rfl (by rw [ex11]; rfl) (by decide) rfl (fun ls hl => ?_)
            refine lv_goto (tgt := 2) hx hb dX1_needsWorkerFrom_41 (by decide) ?_
            exact g_cvi (by subst ex11 ei8; first | (simp only [f_X1_needsWorkerFrom_L1, if_neg c1, if_neg c9, if_pos c10]; done) | contradiction | (simp only [f_X1_needsWorkerFrom_L1, if_neg c1, if_neg c9, if_pos c10]; rfl) | rfl) rfl (ihL1 _ x11 (Nat.lt_of_lt_of_le (g_ms ex11 c1) (Nat.le_of_lt_succ hn)) _ _ ls h (lv_sub hl [0, 2, 3] rfl))
          · refine lv_iconst (v := 1) hx hb dX1_needsWorkerFrom_36 (by decide) ?_
            exact g_reti S h hr hlocks rfl (by subst ei8; first | (simp only [f_X1_needsWorkerFrom_L1, if_neg c1, if_neg c9, if_neg c10]; done) | contradiction | (simp only [f_X1_needsWorkerFrom_L1, if_neg c1, if_neg c9, if_neg c10]; rfl) | rfl) rfl dX1_needsWorkerFrom_37
  exact g_cvi (by first | (simp only [f_X1_needsWorkerFrom]; done) | contradiction | (simp only [f_X1_needsWorkerFrom]; rfl) | rfl) rfl (loopL1 _ _ a (Nat.lt_add_one _) _ _ ls h (lv_sub hl [0, 1, 2] rfl))
set_option maxHeartbeats 8000000 in
set_option maxRecDepth 100000 in
/-- addJob() -/
theorem c_X6_addJob (l : Launch) (D : va_G) (L : Nat → Nat) (cy : Nat → ClassId) (X : va_W) (A : Nat → Prop) (st : gSt) (hD : va_D A (X ++ gW L cy st))   (hd1 : (st 1 2) < (8 : Int32)) : gMi l yX6_addJob wsX6_addJob { frames := 1, cells := 0, slots := 0, locals := 21 } D L cy X A [.ref (L 0)] st (f_X6_addJob st).1 (f_X6_addJob st).2 := by
  refine g_entry hD (cc := cX6_addJob) (maxL := 1) (ret := (some .int)) (by decide +kernel) rfl (Nat.le_of_ble_eq_true rfl) ?_
  intro p e s m args below meth c ls B
  obtain ⟨S, hr, hlocks, h, hl⟩ := B
  have hx := S.1
  have hb := S.2.1
  have hts := S.2.2.2.2
  have in0 : ∀ w ∈ wsX00, w ∈ wsX6_addJob := by decide +kernel
  have in6 : ∀ w ∈ wsX60, w ∈ wsX6_addJob := by decide +kernel
  have hl : lv_has ls 1 [(0, .ref (L 0))] := hl
  refine lv_aload_n hx hb dX6_addJob_0 rfl (lv_at hl 0 rfl) ?_
  refine g_get S h gk_c0 (by decide) rfl rfl in6 (k := 0) (by decide) (by decide +kernel) rfl dX6_addJob_1 ?_
  refine g_getN S h gk_c1 (by decide) rfl rfl in0 (k := 2) (by decide) (by decide +kernel) rfl dX6_addJob_4 ?_
  refine lv_bipush (v := 8) hx hb dX6_addJob_7 (by decide) ?_
  refine lv_icmp_lt (tgt := 22) hx hb dX6_addJob_9 (by decide) (fun c1 => ?_) (fun c1 => ?_)
  · refine lv_aload_n hx hb dX6_addJob_22 rfl (lv_at hl 0 rfl) ?_
    refine g_get S h gk_c0 (by decide) rfl rfl in6 (k := 0) (by decide) (by decide +kernel) rfl dX6_addJob_23 ?_
    refine g_calli S h (c_X0_append l D L cy X A _ (h.2.2.2.2 _)) (cwV 0 hts gX6_addJob_X0_append rfl rfl rfl (by decide +kernel) ⟨Nat.le_of_ble_eq_true rfl, Nat.le_of_ble_eq_true rfl⟩) (g_pre h gk_c1 (by decide) rfl rfl _) rfl hl.1 rfl (Nat.le_of_ble_eq_true rfl) dX6_addJob_26 ⟨Nat.zero_le _, Nat.zero_le _⟩ (fun H locs h => ?_)
    exact g_reti S h hr hlocks rfl (by first | (simp only [f_X6_addJob, if_pos c1]; done) | contradiction | (simp only [f_X6_addJob, if_pos c1]; rfl) | rfl) (by first | (simp only [f_X6_addJob, if_pos c1]; done) | contradiction | (simp only [f_X6_addJob, if_pos c1]; rfl) | rfl) dX6_addJob_29
  · exact absurd hd1 c1
set_option maxHeartbeats 8000000 in
set_option maxRecDepth 100000 in
/-- addStep(job, code, n) -/
theorem c_X6_addStep (l : Launch) (D : va_G) (L : Nat → Nat) (cy : Nat → ClassId) (X : va_W) (A : Nat → Prop) (st : gSt) (hD : va_D A (X ++ gW L cy st)) (job : Int32) (cd : Int32) (n0 : Int32)  (hd1 : ¬ ((f_X6_isJob st job) = 0)) (hd2 : (f_X1_hasTaskOf st 30 job) = 0) (hd3 : (st (f_sc job) 2) < (12 : Int32)) (hd4 : ¬ ((f_X6_isStep st cd n0) = 0)) : gMi l yX6_addStep wsX6_addStep { frames := 2, cells := 0, slots := 0, locals := 43 } D L cy X A [.ref (L 0), .int job, .int cd, .int n0] st (f_X6_addStep st job cd n0).1 (f_X6_addStep st job cd n0).2 := by
  refine g_entry hD (cc := cX6_addStep) (maxL := 5) (ret := (some .int)) (by decide +kernel) rfl (Nat.le_of_ble_eq_true rfl) ?_
  intro p e s m args below meth c ls B
  obtain ⟨S, hr, hlocks, h, hl⟩ := B
  have hx := S.1
  have hb := S.2.1
  have hts := S.2.2.2.2
  have in3 : ∀ w ∈ wsX30, w ∈ wsX6_addStep := by decide +kernel
  have in6 : ∀ w ∈ wsX60, w ∈ wsX6_addStep := by decide +kernel
  have hl : lv_has ls 5 [(0, .ref (L 0)), (1, .int job), (2, .int cd), (3, .int n0)] := hl
  refine lv_aload_n hx hb dX6_addStep_0 rfl (lv_at hl 0 rfl) ?_
  refine lv_iload_n hx hb dX6_addStep_1 rfl (lv_at hl 1 rfl) ?_
  refine g_callv S h (c_X6_needJob l D L cy X A _ (h.2.2.2.2 _) _ hd1) (cwV 1 hts gX6_addStep_X6_needJob rfl rfl rfl (by decide +kernel) ⟨Nat.le_of_ble_eq_true rfl, Nat.le_of_ble_eq_true rfl⟩) (g_pre h gk_c0 (by decide) rfl rfl _) rfl hl.1 rfl (Nat.le_of_ble_eq_true rfl) dX6_addStep_2 ⟨Nat.zero_le _, Nat.zero_le _⟩ (fun H locs h => ?_)
  refine lv_aload_n hx hb dX6_addStep_5 rfl (lv_at hl 0 rfl) ?_
  refine lv_iload_n hx hb dX6_addStep_6 rfl (lv_at hl 2 rfl) ?_
  refine lv_iload_n hx hb dX6_addStep_7 rfl (lv_at hl 3 rfl) ?_
  refine g_calli S h (c_X6_isStep l D L cy X A _ (h.2.2.2.2 _) _ _) (cwV 2 hts gX6_addStep_X6_isStep rfl rfl rfl (by decide +kernel) ⟨Nat.le_of_ble_eq_true rfl, Nat.le_of_ble_eq_true rfl⟩) (g_pre h gk_c0 (by decide) rfl rfl _) rfl hl.1 rfl (Nat.le_of_ble_eq_true rfl) dX6_addStep_8 ⟨Nat.zero_le _, Nat.zero_le _⟩ (fun H locs h => ?_)
  refine lv_if_ne (tgt := 24) hx hb dX6_addStep_11 (by decide) (fun c1 => ?_) (fun c1 => ?_)
  · refine lv_aload_n hx hb dX6_addStep_24 rfl (lv_at hl 0 rfl) ?_
    refine g_get S h gk_c0 (by decide) rfl rfl in6 (k := 0) (by decide) (by decide +kernel) rfl dX6_addStep_25 ?_
    refine lv_iload_n hx hb dX6_addStep_28 rfl (lv_at hl 1 rfl) ?_
    refine g_callr S h (c_X0_scriptAt l D L cy X A _ (h.2.2.2.2 _) _) (cwV 1 hts gX6_addStep_X0_scriptAt rfl rfl rfl (by decide +kernel) ⟨Nat.le_of_ble_eq_true rfl, Nat.le_of_ble_eq_true rfl⟩) (g_pre h gk_c1 (by decide) rfl rfl _) rfl hl.1 rfl (Nat.le_of_ble_eq_true rfl) dX6_addStep_29 ⟨Nat.zero_le _, Nat.zero_le _⟩ (fun H locs h => ?_)
    refine g_topr (fun i2 ei2 => ?_)
    have hki2 : gkd i2 = 3 := by rw [ei2]; exact (gk_sc _)
    refine lv_astore (lv' := [(4, .ref (L i2)), (0, .ref (L 0)), (1, .int job), (2, .int cd), (3, .int n0)]) hx hb dX6_addStep_32 hl (by decide) rfl (fun ls hl => ?_)
    refine lv_aload hx hb dX6_addStep_34 (lv_at hl 0 rfl) ?_
    refine g_getN S h hki2 (by decide) rfl rfl in3 (k := 2) (by decide) (by decide +kernel) rfl dX6_addStep_36 ?_
    refine lv_bipush (v := 12) hx hb dX6_addStep_39 (by decide) ?_
    refine lv_icmp_lt (tgt := 54) hx hb dX6_addStep_41 (by decide) (fun c3 => ?_) (fun c3 => ?_)
    · refine lv_aload_n hx hb dX6_addStep_54 rfl (lv_at hl 1 rfl) ?_
      refine g_get S h gk_c0 (by decide) rfl rfl in6 (k := 1) (by decide) (by decide +kernel) rfl dX6_addStep_55 ?_
      refine lv_iload_n hx hb dX6_addStep_58 rfl (lv_at hl 2 rfl) ?_
      refine g_calli S h (c_X1_hasTaskOf l D L cy X A _ (h.2.2.2.2 _) gk_c30 _) (cwV 1 hts gX6_addStep_X1_hasTaskOf rfl rfl rfl (by decide +kernel) ⟨Nat.le_of_ble_eq_true rfl, Nat.le_of_ble_eq_true rfl⟩) (g_pre h gk_c30 (by decide) rfl rfl _) rfl hl.1 rfl (Nat.le_of_ble_eq_true rfl) dX6_addStep_59 ⟨Nat.zero_le _, Nat.zero_le _⟩ (fun H locs h => ?_)
      refine lv_if_eq (tgt := 75) hx hb dX6_addStep_62 (by decide) (fun c4 => ?_) (fun c4 => ?_)
      · refine lv_aload hx hb dX6_addStep_75 (lv_at hl 0 rfl) ?_
        refine lv_iload_n hx hb dX6_addStep_77 rfl (lv_at hl 3 rfl) ?_
        refine lv_iload_n hx hb dX6_addStep_78 rfl (lv_at hl 4 rfl) ?_
        refine g_callv S h (c_X3_append l D L cy X A _ (h.2.2.2.2 _) hki2 _ _) (cwV 2 hts gX6_addStep_X3_append rfl rfl rfl (by decide +kernel) ⟨Nat.le_of_ble_eq_true rfl, Nat.le_of_ble_eq_true rfl⟩) (g_pre h hki2 (by decide) rfl rfl _) rfl hl.1 rfl (Nat.le_of_ble_eq_true rfl) dX6_addStep_79 ⟨Nat.zero_le _, Nat.zero_le _⟩ (fun H locs h => ?_)
        refine lv_aload hx hb dX6_addStep_82 (lv_at hl 0 rfl) ?_
        refine g_getN S h hki2 (by decide) rfl rfl in3 (k := 2) (by decide) (by decide +kernel) rfl dX6_addStep_84 ?_
        exact g_reti S h hr hlocks rfl (by subst ei2; first | (simp only [f_X6_addStep, if_neg c1, if_pos c3, if_pos c4]; done) | contradiction | (simp only [f_X6_addStep, if_neg c1, if_pos c3, if_pos c4]; rfl) | rfl) (by subst ei2; first | (simp only [f_X6_addStep, if_neg c1, if_pos c3, if_pos c4]; done) | contradiction | (simp only [f_X6_addStep, if_neg c1, if_pos c3, if_pos c4]; rfl) | rfl) dX6_addStep_87
      · subst ei2; exact absurd hd2 c4
    · subst ei2; exact absurd hd3 c3
  · exact absurd c1 hd4
set_option maxHeartbeats 8000000 in
set_option maxRecDepth 100000 in
/-- setWorkers(n) -/
theorem c_X6_setWorkers (l : Launch) (D : va_G) (L : Nat → Nat) (cy : Nat → ClassId) (X : va_W) (A : Nat → Prop) (st : gSt) (hD : va_D A (X ++ gW L cy st)) (nw : Int32)  (hd1 : ¬ (nw < (1 : Int32))) (hd2 : nw ≤ (5 : Int32)) (hd3 : (f_X1_needsWorkerFrom st 30 nw) = 0) : gMi l yX6_setWorkers wsX6_setWorkers { frames := 3, cells := 0, slots := 0, locals := 65 } D L cy X A [.ref (L 0), .int nw] st (f_X6_setWorkers st nw).1 (f_X6_setWorkers st nw).2 := by
  refine g_entry hD (cc := cX6_setWorkers) (maxL := 3) (ret := (some .int)) (by decide +kernel) rfl (Nat.le_of_ble_eq_true rfl) ?_
  intro p e s m args below meth c ls B
  obtain ⟨S, hr, hlocks, h, hl⟩ := B
  have hx := S.1
  have hb := S.2.1
  have hts := S.2.2.2.2
  have in1 : ∀ w ∈ wsX10, w ∈ wsX6_setWorkers := by decide +kernel
  have in6 : ∀ w ∈ wsX60, w ∈ wsX6_setWorkers := by decide +kernel
  have hl : lv_has ls 3 [(0, .ref (L 0)), (1, .int nw)] := hl
  refine lv_iload_n hx hb dX6_setWorkers_0 rfl (lv_at hl 1 rfl) ?_
  refine g_callvS S h (c_X6_needWorkerCount l D L cy X A _ (h.2.2.2.2 _) _ hd1 hd2) (cwS 1 hts gX6_setWorkers_X6_needWorkerCount rfl rfl rfl (by decide +kernel) ⟨Nat.le_of_ble_eq_true rfl, Nat.le_of_ble_eq_true rfl⟩) rfl hl.1 rfl (Nat.le_of_ble_eq_true rfl) dX6_setWorkers_1 ⟨Nat.zero_le _, Nat.zero_le _⟩ (fun H locs h => ?_)
  refine lv_aload_n hx hb dX6_setWorkers_4 rfl (lv_at hl 0 rfl) ?_
  refine g_get S h gk_c0 (by decide) rfl rfl in6 (k := 1) (by decide) (by decide +kernel) rfl dX6_setWorkers_5 ?_
  refine lv_iload_n hx hb dX6_setWorkers_8 rfl (lv_at hl 1 rfl) ?_
  refine g_calli S h (c_X1_needsWorkerFrom l D L cy X A _ (h.2.2.2.2 _) gk_c30 _) (cwV 1 hts gX6_setWorkers_X1_needsWorkerFrom rfl rfl rfl (by decide +kernel) ⟨Nat.le_of_ble_eq_true rfl, Nat.le_of_ble_eq_true rfl⟩) (g_pre h gk_c30 (by decide) rfl rfl _) rfl hl.1 rfl (Nat.le_of_ble_eq_true rfl) dX6_setWorkers_9 ⟨Nat.zero_le _, Nat.zero_le _⟩ (fun H locs h => ?_)
  refine lv_if_eq (tgt := 25) hx hb dX6_setWorkers_12 (by decide) (fun c1 => ?_) (fun c1 => ?_)
  · refine lv_aload_n hx hb dX6_setWorkers_25 rfl (lv_at hl 0 rfl) ?_
    refine g_get S h gk_c0 (by decide) rfl rfl in6 (k := 1) (by decide) (by decide +kernel) rfl dX6_setWorkers_26 ?_
    refine g_getN S h gk_c30 (by decide) rfl rfl in1 (k := 6) (by decide) (by decide +kernel) rfl dX6_setWorkers_29 ?_
    refine lv_topi (fun x2 ex2 => ?_)
    refine lv_istore_n (lv' := [(2, .int x2), (0, .ref (L 0)), (1, .int nw)]) hx hb dX6_setWorkers_32 rfl hl (by decide) rfl (fun ls hl => ?_)
    refine lv_aload_n hx hb dX6_setWorkers_33 rfl (lv_at hl 1 rfl) ?_
    refine g_get S h gk_c0 (by decide) rfl rfl in6 (k := 1) (by decide) (by decide +kernel) rfl dX6_setWorkers_34 ?_
    refine lv_iload_n hx hb dX6_setWorkers_37 rfl (lv_at hl 2 rfl) ?_
    refine g_callv S h (c_X1_changeWorkerCount l D L cy X A _ (h.2.2.2.2 _) gk_c30 _) (cwV 1 hts gX6_setWorkers_X1_changeWorkerCount rfl rfl rfl (by decide +kernel) ⟨Nat.le_of_ble_eq_true rfl, Nat.le_of_ble_eq_true rfl⟩) (g_pre h gk_c30 (by decide) rfl rfl _) rfl hl.1 rfl (Nat.le_of_ble_eq_true rfl) dX6_setWorkers_38 ⟨Nat.zero_le _, Nat.zero_le _⟩ (fun H locs h => ?_)
    refine lv_iload_n hx hb dX6_setWorkers_41 rfl (lv_at hl 0 rfl) ?_
    exact g_reti S h hr hlocks rfl (by subst ex2; first | (simp only [f_X6_setWorkers, if_pos c1]; done) | contradiction | (simp only [f_X6_setWorkers, if_pos c1]; rfl) | rfl) (by subst ex2; first | (simp only [f_X6_setWorkers, if_pos c1]; done) | contradiction | (simp only [f_X6_setWorkers, if_pos c1]; rfl) | rfl) dX6_setWorkers_42
  · exact absurd hd3 c1
set_option maxHeartbeats 8000000 in
set_option maxRecDepth 100000 in
/-- setWay(way, theft) -/
theorem c_X6_setWay (l : Launch) (D : va_G) (L : Nat → Nat) (cy : Nat → ClassId) (X : va_W) (A : Nat → Prop) (st : gSt) (hD : va_D A (X ++ gW L cy st)) (wy : Int32) (th : Int32)  (hd1 : ¬ (wy < (0 : Int32))) (hd2 : wy ≤ (2 : Int32)) (hd3 : ¬ (th < (0 : Int32))) (hd4 : (f_X1_hasStackedTask st 30) = 0) (hd5 : th ≤ (2 : Int32)) : gMi l yX6_setWay wsX6_setWay { frames := 2, cells := 0, slots := 0, locals := 42 } D L cy X A [.ref (L 0), .int wy, .int th] st (f_X6_setWay st wy th).1 (f_X6_setWay st wy th).2 := by
  refine g_entry hD (cc := cX6_setWay) (maxL := 4) (ret := (some .int)) (by decide +kernel) rfl (Nat.le_of_ble_eq_true rfl) ?_
  intro p e s m args below meth c ls B
  obtain ⟨S, hr, hlocks, h, hl⟩ := B
  have hx := S.1
  have hb := S.2.1
  have hts := S.2.2.2.2
  have in1 : ∀ w ∈ wsX10, w ∈ wsX6_setWay := by decide +kernel
  have in6 : ∀ w ∈ wsX60, w ∈ wsX6_setWay := by decide +kernel
  have hl : lv_has ls 4 [(0, .ref (L 0)), (1, .int wy), (2, .int th)] := hl
  refine lv_iload_n hx hb dX6_setWay_0 rfl (lv_at hl 1 rfl) ?_
  refine g_callvS S h (c_X6_needWay l D L cy X A _ (h.2.2.2.2 _) _ hd1 hd2) (cwS 1 hts gX6_setWay_X6_needWay rfl rfl rfl (by decide +kernel) ⟨Nat.le_of_ble_eq_true rfl, Nat.le_of_ble_eq_true rfl⟩) rfl hl.1 rfl (Nat.le_of_ble_eq_true rfl) dX6_setWay_1 ⟨Nat.zero_le _, Nat.zero_le _⟩ (fun H locs h => ?_)
  refine lv_iload_n hx hb dX6_setWay_4 rfl (lv_at hl 2 rfl) ?_
  refine lv_if_lt (tgt := 13) hx hb dX6_setWay_5 (by decide) (fun c1 => ?_) (fun c1 => ?_)
  · exact absurd c1 hd3
  · refine lv_iload_n hx hb dX6_setWay_8 rfl (lv_at hl 2 rfl) ?_
    refine lv_iconst (v := 2) hx hb dX6_setWay_9 (by decide) ?_
    refine lv_icmp_le (tgt := 23) hx hb dX6_setWay_10 (by decide) (fun c2 => ?_) (fun c2 => ?_)
    · refine lv_iload_n hx hb dX6_setWay_23 rfl (lv_at hl 1 rfl) ?_
      refine lv_aload_n hx hb dX6_setWay_24 rfl (lv_at hl 0 rfl) ?_
      refine g_get S h gk_c0 (by decide) rfl rfl in6 (k := 1) (by decide) (by decide +kernel) rfl dX6_setWay_25 ?_
      refine g_getN S h gk_c30 (by decide) rfl rfl in1 (k := 9) (by decide) (by decide +kernel) rfl dX6_setWay_28 ?_
      refine lv_icmp_eq (tgt := 54) hx hb dX6_setWay_31 (by decide) (fun c3 => ?_) (fun c3 => ?_)
      · refine lv_aload_n hx hb dX6_setWay_54 rfl (lv_at hl 0 rfl) ?_
        refine g_get S h gk_c0 (by decide) rfl rfl in6 (k := 1) (by decide) (by decide +kernel) rfl dX6_setWay_55 ?_
        refine g_getN S h gk_c30 (by decide) rfl rfl in1 (k := 9) (by decide) (by decide +kernel) rfl dX6_setWay_58 ?_
        refine lv_topi (fun x4 ex4 => ?_)
        refine lv_istore_n (lv' := [(3, .int x4), (0, .ref (L 0)), (1, .int wy), (2, .int th)]) hx hb dX6_setWay_61 rfl hl (by decide) rfl (fun ls hl => ?_)
        refine lv_aload_n hx hb dX6_setWay_62 rfl (lv_at hl 1 rfl) ?_
        refine g_get S h gk_c0 (by decide) rfl rfl in6 (k := 1) (by decide) (by decide +kernel) rfl dX6_setWay_63 ?_
        refine lv_iload_n hx hb dX6_setWay_66 rfl (lv_at hl 2 rfl) ?_
        refine g_putN S h tyX1 tyX1_ok nmX1 gk_c30 (by decide) rfl rfl in1 (k := 9) (by decide) (by decide +kernel) rfl rfl (Nat.le_of_ble_eq_true rfl) rfl dX6_setWay_67 (fun H locs h => ?_)
        refine lv_aload_n hx hb dX6_setWay_70 rfl (lv_at hl 1 rfl) ?_
        refine g_get S h gk_c0 (by decide) rfl rfl in6 (k := 1) (by decide) (by decide +kernel) rfl dX6_setWay_71 ?_
        refine lv_iload_n hx hb dX6_setWay_74 rfl (lv_at hl 3 rfl) ?_
        refine g_putN S h tyX1 tyX1_ok nmX1 gk_c30 (by decide) rfl rfl in1 (k := 10) (by decide) (by decide +kernel) rfl rfl (Nat.le_of_ble_eq_true rfl) rfl dX6_setWay_75 (fun H locs h => ?_)
        refine lv_iload_n hx hb dX6_setWay_78 rfl (lv_at hl 0 rfl) ?_
        exact g_reti S h hr hlocks rfl (by subst ex4; first | (simp only [f_X6_setWay, if_neg c1, if_pos c2, if_pos c3]; done) | contradiction | (simp only [f_X6_setWay, if_neg c1, if_pos c2, if_pos c3]; rfl) | rfl) (by subst ex4; first | (simp only [f_X6_setWay, if_neg c1, if_pos c2, if_pos c3]; done) | contradiction | (simp only [f_X6_setWay, if_neg c1, if_pos c2, if_pos c3]; rfl) | rfl) dX6_setWay_79
      · refine lv_aload_n hx hb dX6_setWay_34 rfl (lv_at hl 0 rfl) ?_
        refine g_get S h gk_c0 (by decide) rfl rfl in6 (k := 1) (by decide) (by decide +kernel) rfl dX6_setWay_35 ?_
        refine g_calli S h (c_X1_hasStackedTask l D L cy X A _ (h.2.2.2.2 _) gk_c30) (cwV 0 hts gX6_setWay_X1_hasStackedTask rfl rfl rfl (by decide +kernel) ⟨Nat.le_of_ble_eq_true rfl, Nat.le_of_ble_eq_true rfl⟩) (g_pre h gk_c30 (by decide) rfl rfl _) rfl hl.1 rfl (Nat.le_of_ble_eq_true rfl) dX6_setWay_38 ⟨Nat.zero_le _, Nat.zero_le _⟩ (fun H locs h => ?_)
        refine lv_if_eq (tgt := 54) hx hb dX6_setWay_41 (by decide) (fun c7 => ?_) (fun c7 => ?_)
        · refine lv_aload_n hx hb dX6_setWay_54 rfl (lv_at hl 0 rfl) ?_
          refine g_get S h gk_c0 (by decide) rfl rfl in6 (k := 1) (by decide) (by decide +kernel) rfl dX6_setWay_55 ?_
          refine g_getN S h gk_c30 (by decide) rfl rfl in1 (k := 9) (by decide) (by decide +kernel) rfl dX6_setWay_58 ?_
          refine lv_topi (fun x8 ex8 => ?_)
          refine lv_istore_n (lv' := [(3, .int x8), (0, .ref (L 0)), (1, .int wy), (2, .int th)]) hx hb dX6_setWay_61 rfl hl (by decide) rfl (fun ls hl => ?_)
          refine lv_aload_n hx hb dX6_setWay_62 rfl (lv_at hl 1 rfl) ?_
          refine g_get S h gk_c0 (by decide) rfl rfl in6 (k := 1) (by decide) (by decide +kernel) rfl dX6_setWay_63 ?_
          refine lv_iload_n hx hb dX6_setWay_66 rfl (lv_at hl 2 rfl) ?_
          refine g_putN S h tyX1 tyX1_ok nmX1 gk_c30 (by decide) rfl rfl in1 (k := 9) (by decide) (by decide +kernel) rfl rfl (Nat.le_of_ble_eq_true rfl) rfl dX6_setWay_67 (fun H locs h => ?_)
          refine lv_aload_n hx hb dX6_setWay_70 rfl (lv_at hl 1 rfl) ?_
          refine g_get S h gk_c0 (by decide) rfl rfl in6 (k := 1) (by decide) (by decide +kernel) rfl dX6_setWay_71 ?_
          refine lv_iload_n hx hb dX6_setWay_74 rfl (lv_at hl 3 rfl) ?_
          refine g_putN S h tyX1 tyX1_ok nmX1 gk_c30 (by decide) rfl rfl in1 (k := 10) (by decide) (by decide +kernel) rfl rfl (Nat.le_of_ble_eq_true rfl) rfl dX6_setWay_75 (fun H locs h => ?_)
          refine lv_iload_n hx hb dX6_setWay_78 rfl (lv_at hl 0 rfl) ?_
          exact g_reti S h hr hlocks rfl (by subst ex8; first | (simp only [f_X6_setWay, if_neg c1, if_pos c2, if_neg c3, if_pos c7]; done) | contradiction | (simp only [f_X6_setWay, if_neg c1, if_pos c2, if_neg c3, if_pos c7]; rfl) | rfl) (by subst ex8; first | (simp only [f_X6_setWay, if_neg c1, if_pos c2, if_neg c3, if_pos c7]; done) | contradiction | (simp only [f_X6_setWay, if_neg c1, if_pos c2, if_neg c3, if_pos c7]; rfl) | rfl) dX6_setWay_79
        · exact absurd hd4 c7
    · exact absurd hd5 c2
set_option maxHeartbeats 8000000 in
set_option maxRecDepth 100000 in
/-- submit(job) -/
theorem c_X6_submit (l : Launch) (D : va_G) (L : Nat → Nat) (cy : Nat → ClassId) (X : va_W) (A : Nat → Prop) (st : gSt) (hD : va_D A (X ++ gW L cy st)) (job : Int32)  (hd1 : ¬ ((f_X6_isJob st job) = 0)) (hd2 : (st 30 3) < (24 : Int32)) : gMi l yX6_submit wsX6_submit { frames := 3, cells := 0, slots := 0, locals := 67 } D L cy X A [.ref (L 0), .int job] st (f_X6_submit st job).1 (f_X6_submit st job).2 := by
  refine g_entry hD (cc := cX6_submit) (maxL := 2) (ret := (some .int)) (by decide +kernel) rfl (Nat.le_of_ble_eq_true rfl) ?_
  intro p e s m args below meth c ls B
  obtain ⟨S, hr, hlocks, h, hl⟩ := B
  have hx := S.1
  have hb := S.2.1
  have hts := S.2.2.2.2
  have in1 : ∀ w ∈ wsX10, w ∈ wsX6_submit := by decide +kernel
  have in6 : ∀ w ∈ wsX60, w ∈ wsX6_submit := by decide +kernel
  have hl : lv_has ls 2 [(0, .ref (L 0)), (1, .int job)] := hl
  refine lv_aload_n hx hb dX6_submit_0 rfl (lv_at hl 0 rfl) ?_
  refine lv_iload_n hx hb dX6_submit_1 rfl (lv_at hl 1 rfl) ?_
  refine g_callv S h (c_X6_needJob l D L cy X A _ (h.2.2.2.2 _) _ hd1) (cwV 1 hts gX6_submit_X6_needJob rfl rfl rfl (by decide +kernel) ⟨Nat.le_of_ble_eq_true rfl, Nat.le_of_ble_eq_true rfl⟩) (g_pre h gk_c0 (by decide) rfl rfl _) rfl hl.1 rfl (Nat.le_of_ble_eq_true rfl) dX6_submit_2 ⟨Nat.zero_le _, Nat.zero_le _⟩ (fun H locs h => ?_)
  refine lv_aload_n hx hb dX6_submit_5 rfl (lv_at hl 0 rfl) ?_
  refine g_get S h gk_c0 (by decide) rfl rfl in6 (k := 1) (by decide) (by decide +kernel) rfl dX6_submit_6 ?_
  refine g_getN S h gk_c30 (by decide) rfl rfl in1 (k := 3) (by decide) (by decide +kernel) rfl dX6_submit_9 ?_
  refine lv_bipush (v := 24) hx hb dX6_submit_12 (by decide) ?_
  refine lv_icmp_lt (tgt := 27) hx hb dX6_submit_14 (by decide) (fun c1 => ?_) (fun c1 => ?_)
  · refine lv_aload_n hx hb dX6_submit_27 rfl (lv_at hl 0 rfl) ?_
    refine g_get S h gk_c0 (by decide) rfl rfl in6 (k := 1) (by decide) (by decide +kernel) rfl dX6_submit_28 ?_
    refine lv_iload_n hx hb dX6_submit_31 rfl (lv_at hl 1 rfl) ?_
    refine g_calli S h (c_X1_askFor l D L cy X A _ (h.2.2.2.2 _) gk_c30 _) (cwV 1 hts gX6_submit_X1_askFor rfl rfl rfl (by decide +kernel) ⟨Nat.le_of_ble_eq_true rfl, Nat.le_of_ble_eq_true rfl⟩) (g_pre h gk_c30 (by decide) rfl rfl _) rfl hl.1 rfl (Nat.le_of_ble_eq_true rfl) dX6_submit_32 ⟨Nat.zero_le _, Nat.zero_le _⟩ (fun H locs h => ?_)
    exact g_reti S h hr hlocks rfl (by first | (simp only [f_X6_submit, if_pos c1]; done) | contradiction | (simp only [f_X6_submit, if_pos c1]; rfl) | rfl) (by first | (simp only [f_X6_submit, if_pos c1]; done) | contradiction | (simp only [f_X6_submit, if_pos c1]; rfl) | rfl) dX6_submit_35
  · exact absurd hd2 c1
set_option maxHeartbeats 8000000 in
set_option maxRecDepth 100000 in
/-- cancel(task) -/
theorem c_X6_cancel (l : Launch) (D : va_G) (L : Nat → Nat) (cy : Nat → ClassId) (X : va_W) (A : Nat → Prop) (st : gSt) (hD : va_D A (X ++ gW L cy st)) (tk0 : Int32)  (hd1 : ¬ (tk0 < (0 : Int32))) (hd2 : tk0 < (st 30 3)) (hd3 : (f_isO st (f_tk 30 tk0)) = 0) : gMi l yX6_cancel wsX6_cancel { frames := 4, cells := 0, slots := 0, locals := 92 } D L cy X A [.ref (L 0), .int tk0] st (f_X6_cancel st tk0).1 (f_X6_cancel st tk0).2 := by
  refine g_entry hD (cc := cX6_cancel) (maxL := 4) (ret := (some .int)) (by decide +kernel) rfl (Nat.le_of_ble_eq_true rfl) ?_
  intro p e s m args below meth c ls B
  obtain ⟨S, hr, hlocks, h, hl⟩ := B
  have hx := S.1
  have hb := S.2.1
  have hts := S.2.2.2.2
  have in6 : ∀ w ∈ wsX60, w ∈ wsX6_cancel := by decide +kernel
  have hl : lv_has ls 4 [(0, .ref (L 0)), (1, .int tk0)] := hl
  refine lv_aload_n hx hb dX6_cancel_0 rfl (lv_at hl 0 rfl) ?_
  refine lv_iload_n hx hb dX6_cancel_1 rfl (lv_at hl 1 rfl) ?_
  refine g_callv S h (c_X6_needTask l D L cy X A _ (h.2.2.2.2 _) _ hd1 hd2) (cwV 1 hts gX6_cancel_X6_needTask rfl rfl rfl (by decide +kernel) ⟨Nat.le_of_ble_eq_true rfl, Nat.le_of_ble_eq_true rfl⟩) (g_pre h gk_c0 (by decide) rfl rfl _) rfl hl.1 rfl (Nat.le_of_ble_eq_true rfl) dX6_cancel_2 ⟨Nat.zero_le _, Nat.zero_le _⟩ (fun H locs h => ?_)
  refine lv_aload_n hx hb dX6_cancel_5 rfl (lv_at hl 0 rfl) ?_
  refine g_get S h gk_c0 (by decide) rfl rfl in6 (k := 1) (by decide) (by decide +kernel) rfl dX6_cancel_6 ?_
  refine lv_iload_n hx hb dX6_cancel_9 rfl (lv_at hl 1 rfl) ?_
  refine g_callr S h (c_X1_taskAt l D L cy X A _ (h.2.2.2.2 _) gk_c30 _) (cwV 1 hts gX6_cancel_X1_taskAt rfl rfl rfl (by decide +kernel) ⟨Nat.le_of_ble_eq_true rfl, Nat.le_of_ble_eq_true rfl⟩) (g_pre h gk_c30 (by decide) rfl rfl _) rfl hl.1 rfl (Nat.le_of_ble_eq_true rfl) dX6_cancel_10 ⟨Nat.zero_le _, Nat.zero_le _⟩ (fun H locs h => ?_)
  refine g_topr (fun i1 ei1 => ?_)
  have hki1 : gkd i1 = 7 := by rw [ei1]; exact (gk_tk gk_c30 _)
  refine lv_astore_n (lv' := [(2, .ref (L i1)), (0, .ref (L 0)), (1, .int tk0)]) hx hb dX6_cancel_13 rfl hl (by decide) rfl (fun ls hl => ?_)
  refine lv_aload_n hx hb dX6_cancel_14 rfl (lv_at hl 0 rfl) ?_
  refine g_calli S h (c_X4_isOver l D L cy X A _ (h.2.2.2.2 _) hki1) (cwV 0 hts gX6_cancel_X4_isOver rfl rfl rfl (by decide +kernel) ⟨Nat.le_of_ble_eq_true rfl, Nat.le_of_ble_eq_true rfl⟩) (g_pre h hki1 (by decide) rfl rfl _) rfl hl.1 rfl (Nat.le_of_ble_eq_true rfl) dX6_cancel_15 ⟨Nat.zero_le _, Nat.zero_le _⟩ (fun H locs h => ?_)
  refine lv_if_eq (tgt := 31) hx hb dX6_cancel_18 (by decide) (fun c2 => ?_) (fun c2 => ?_)
  · refine lv_aload_n hx hb dX6_cancel_31 rfl (lv_at hl 1 rfl) ?_
    refine g_get S h gk_c0 (by decide) rfl rfl in6 (k := 1) (by decide) (by decide +kernel) rfl dX6_cancel_32 ?_
    refine lv_aload_n hx hb dX6_cancel_35 rfl (lv_at hl 0 rfl) ?_
    refine g_calli S h (c_X1_cancelBelow l D L cy X A _ (h.2.2.2.2 _) gk_c30 hki1) (cwV 1 hts gX6_cancel_X1_cancelBelow rfl rfl rfl (by decide +kernel) ⟨Nat.le_of_ble_eq_true rfl, Nat.le_of_ble_eq_true rfl⟩) (g_pre h gk_c30 (by decide) rfl rfl _) rfl hl.1 rfl (Nat.le_of_ble_eq_true rfl) dX6_cancel_36 ⟨Nat.zero_le _, Nat.zero_le _⟩ (fun H locs h => ?_)
    refine lv_topi (fun x4 ex4 => ?_)
    refine lv_istore_n (lv' := [(3, .int x4), (2, .ref (L i1)), (0, .ref (L 0)), (1, .int tk0)]) hx hb dX6_cancel_39 rfl hl (by decide) rfl (fun ls hl => ?_)
    refine lv_aload_n hx hb dX6_cancel_40 rfl (lv_at hl 2 rfl) ?_
    refine g_get S h gk_c0 (by decide) rfl rfl in6 (k := 1) (by decide) (by decide +kernel) rfl dX6_cancel_41 ?_
    refine lv_aload_n hx hb dX6_cancel_44 rfl (lv_at hl 1 rfl) ?_
    refine lv_bipush (v := 6) hx hb dX6_cancel_45 (by decide) ?_
    refine g_callv S h (c_X1_end l D L cy X A _ (h.2.2.2.2 _) gk_c30 hki1 _) (cwV 2 hts gX6_cancel_X1_end rfl rfl rfl (by decide +kernel) ⟨Nat.le_of_ble_eq_true rfl, Nat.le_of_ble_eq_true rfl⟩) (g_pre h gk_c30 (by decide) rfl rfl _) rfl hl.1 rfl (Nat.le_of_ble_eq_true rfl) dX6_cancel_47 ⟨Nat.zero_le _, Nat.zero_le _⟩ (fun H locs h => ?_)
    refine lv_iload_n hx hb dX6_cancel_50 rfl (lv_at hl 0 rfl) ?_
    refine lv_iconst (v := 1) hx hb dX6_cancel_51 (by decide) ?_
    refine lv_iadd hx hb dX6_cancel_52 ?_
    exact g_reti S h hr hlocks rfl (by subst ex4 ei1; first | (simp only [f_X6_cancel, if_pos c2]; done) | contradiction | (simp only [f_X6_cancel, if_pos c2]; rfl) | rfl) (by subst ex4 ei1; first | (simp only [f_X6_cancel, if_pos c2]; done) | contradiction | (simp only [f_X6_cancel, if_pos c2]; rfl) | rfl) dX6_cancel_53
  · subst ei1; exact absurd hd3 c2
theorem b_keepP {s : gSt} {P : Nat} {a b : Int32} (h : ∀ n s x, (f_X1_keepPromise_L1 P a b n s x).1 = 0 ∨ (f_X1_keepPromise_L1 P a b n s x).1 = 1) : (f_X1_keepPromise s P a b).1 = 0 ∨ (f_X1_keepPromise s P a b).1 = 1 := by
  simp only [f_X1_keepPromise]
  split
  · exact Or.inl rfl
  · split
    · exact Or.inl rfl
    · split
      · exact h _ _ _
      · exact Or.inl rfl
theorem b_keepL {P : Nat} {a b : Int32} : ∀ n s x, (f_X1_keepPromise_L1 P a b n s x).1 = 0 ∨ (f_X1_keepPromise_L1 P a b n s x).1 = 1 := by
  intro n
  induction n with
  | zero => intro s x; exact Or.inl rfl
  | succ n ih =>
    intro s x
    simp only [f_X1_keepPromise_L1]
    split
    · exact Or.inr rfl
    · split
      · split
        · exact ih _ _
        · exact ih _ _
      · exact ih _ _
set_option maxHeartbeats 8000000 in
set_option maxRecDepth 100000 in
/-- keep(p, n) -/
theorem c_X6_keep (l : Launch) (D : va_G) (L : Nat → Nat) (cy : Nat → ClassId) (X : va_W) (A : Nat → Prop) (st : gSt) (hD : va_D A (X ++ gW L cy st)) (pr : Int32) (n0 : Int32)  (hd1 : ¬ ((f_X6_isPromise st pr) = 0)) (hd2 : ¬ (n0 < (-999 : Int32))) (hd3 : n0 ≤ (999 : Int32)) : gMi l yX6_keep wsX6_keep { frames := 3, cells := 0, slots := 0, locals := 69 } D L cy X A [.ref (L 0), .int pr, .int n0] st (f_X6_keep st pr n0).1 (f_X6_keep st pr n0).2 := by
  refine g_entry hD (cc := cX6_keep) (maxL := 3) (ret := (some .boolean)) (by decide +kernel) rfl (Nat.le_of_ble_eq_true rfl) ?_
  intro p e s m args below meth c ls B
  obtain ⟨S, hr, hlocks, h, hl⟩ := B
  have hx := S.1
  have hb := S.2.1
  have hts := S.2.2.2.2
  have in6 : ∀ w ∈ wsX60, w ∈ wsX6_keep := by decide +kernel
  have hl : lv_has ls 3 [(0, .ref (L 0)), (1, .int pr), (2, .int n0)] := hl
  refine lv_iload_n hx hb dX6_keep_0 rfl (lv_at hl 1 rfl) ?_
  refine g_callvS S h (c_X6_needPromise l D L cy X A _ (h.2.2.2.2 _) _ hd1) (cwS 1 hts gX6_keep_X6_needPromise rfl rfl rfl (by decide +kernel) ⟨Nat.le_of_ble_eq_true rfl, Nat.le_of_ble_eq_true rfl⟩) rfl hl.1 rfl (Nat.le_of_ble_eq_true rfl) dX6_keep_1 ⟨Nat.zero_le _, Nat.zero_le _⟩ (fun H locs h => ?_)
  refine lv_iload_n hx hb dX6_keep_4 rfl (lv_at hl 2 rfl) ?_
  refine lv_sipush (v := (-999)) hx hb dX6_keep_5 (by decide) ?_
  refine lv_icmp_lt (tgt := 18) hx hb dX6_keep_8 (by decide) (fun c1 => ?_) (fun c1 => ?_)
  · exact absurd c1 hd2
  · refine lv_iload_n hx hb dX6_keep_11 rfl (lv_at hl 2 rfl) ?_
    refine lv_sipush (v := 999) hx hb dX6_keep_12 (by decide) ?_
    refine lv_icmp_le (tgt := 28) hx hb dX6_keep_15 (by decide) (fun c2 => ?_) (fun c2 => ?_)
    · refine lv_aload_n hx hb dX6_keep_28 rfl (lv_at hl 0 rfl) ?_
      refine g_get S h gk_c0 (by decide) rfl rfl in6 (k := 1) (by decide) (by decide +kernel) rfl dX6_keep_29 ?_
      refine lv_iload_n hx hb dX6_keep_32 rfl (lv_at hl 1 rfl) ?_
      refine lv_iload_n hx hb dX6_keep_33 rfl (lv_at hl 2 rfl) ?_
      refine g_calli S h (c_X1_keepPromise l D L cy X A _ (h.2.2.2.2 _) gk_c30 _ _) (cwV 2 hts gX6_keep_X1_keepPromise rfl rfl rfl (by decide +kernel) ⟨Nat.le_of_ble_eq_true rfl, Nat.le_of_ble_eq_true rfl⟩) (g_pre h gk_c30 (by decide) rfl rfl _) rfl hl.1 rfl (Nat.le_of_ble_eq_true rfl) dX6_keep_34 ⟨Nat.zero_le _, Nat.zero_le _⟩ (fun H locs h => ?_)
      exact g_reti S h hr hlocks (nb_of (b_keepP b_keepL)) (by first | (simp only [f_X6_keep, if_neg c1, if_pos c2]; done) | contradiction | (simp only [f_X6_keep, if_neg c1, if_pos c2]; rfl) | rfl) (by first | (simp only [f_X6_keep, if_neg c1, if_pos c2]; done) | contradiction | (simp only [f_X6_keep, if_neg c1, if_pos c2]; rfl) | rfl) dX6_keep_37
    · exact absurd hd3 c2
set_option maxHeartbeats 8000000 in
set_option maxRecDepth 100000 in
/-- tick(ticks) -/
theorem c_X6_tick (l : Launch) (D : va_G) (L : Nat → Nat) (cy : Nat → ClassId) (X : va_W) (A : Nat → Prop) (st : gSt) (hD : va_D A (X ++ gW L cy st)) (ta : Int32)  (hd1 : ¬ (ta < (1 : Int32))) (hd2 : ta ≤ (40 : Int32)) : gMi l yX6_tick wsX6_tick { frames := 7, cells := 0, slots := 0, locals := 166 } D L cy X A [.ref (L 0), .int ta] st (f_X6_tick st ta).1 (f_X6_tick st ta).2 := by
  refine g_entry hD (cc := cX6_tick) (maxL := 3) (ret := (some .int)) (by decide +kernel) rfl (Nat.le_of_ble_eq_true rfl) ?_
  intro p e s m args below meth c ls B
  obtain ⟨S, hr, hlocks, h, hl⟩ := B
  have hx := S.1
  have hb := S.2.1
  have hts := S.2.2.2.2
  have in6 : ∀ w ∈ wsX60, w ∈ wsX6_tick := by decide +kernel
  have hl : lv_has ls 3 [(0, .ref (L 0)), (1, .int ta)] := hl
  refine lv_iload_n hx hb dX6_tick_0 rfl (lv_at hl 1 rfl) ?_
  refine lv_iconst (v := 1) hx hb dX6_tick_1 (by decide) ?_
  refine lv_icmp_lt (tgt := 11) hx hb dX6_tick_2 (by decide) (fun c1 => ?_) (fun c1 => ?_)
  · exact absurd c1 hd1
  · refine lv_iload_n hx hb dX6_tick_5 rfl (lv_at hl 1 rfl) ?_
    refine lv_bipush (v := 40) hx hb dX6_tick_6 (by decide) ?_
    refine lv_icmp_le (tgt := 21) hx hb dX6_tick_8 (by decide) (fun c2 => ?_) (fun c2 => ?_)
    · refine lv_iconst (v := 0) hx hb dX6_tick_21 (by decide) ?_
      refine lv_istore_n (lv' := [(2, .int 0), (0, .ref (L 0)), (1, .int ta)]) hx hb dX6_tick_22 rfl hl (by decide) rfl (fun ls hl => ?_)
      have loopL1 : ∀ (nL1 : Nat) (st1 : gSt) (x : Int32), ((ta.toInt - x.toInt).toNat < nL1) → ∀ (H : Heap) (locs : List Loc) (ls : Array Slot), gH D L cy X A st1 s H locs → lv_has ls 3 [(2, .int x), (0, .ref (L 0)), (1, .int ta)] → W p l e { frames := 7, cells := 0, slots := 0, locals := 166 } s m args below meth c H locs 0 0 (MQ below (va_Qi (fun (zq : Int32) (_ : Unit) => zq = (f_X6_tick_L1 ta nL1 st1 x).1) (fun _ zt => va_P D vwCl (X ++ gW L cy (f_X6_tick_L1 ta nL1 st1 x).2) zt.heap) A) args s 0 0 A) (F0 m 23 ls []) := by
        intro nL1
        induction nL1 with
        | zero => intros; omega
        | succ nL1 ihL1 =>
          intro st1 x hn H locs ls h hl
          refine lv_iload_n hx hb dX6_tick_23 rfl (lv_at hl 0 rfl) ?_
          refine lv_iload_n hx hb dX6_tick_24 rfl (lv_at hl 2 rfl) ?_
          refine lv_icmp_ge (tgt := 41) hx hb dX6_tick_25 (by decide) (fun c3 => ?_) (fun c3 => ?_)
          · refine lv_aload_n hx hb dX6_tick_41 rfl (lv_at hl 1 rfl) ?_
            refine g_get S h gk_c0 (by decide) rfl rfl in6 (k := 1) (by decide) (by decide +kernel) rfl dX6_tick_42 ?_
            refine g_calli S h (c_X1_countUnfinished l D L cy X A _ (h.2.2.2.2 _) gk_c30) (cwV 0 hts gX6_tick_X1_countUnfinished rfl rfl rfl (by decide +kernel) ⟨Nat.le_of_ble_eq_true rfl, Nat.le_of_ble_eq_true rfl⟩) (g_pre h gk_c30 (by decide) rfl rfl _) rfl hl.1 rfl (Nat.le_of_ble_eq_true rfl) dX6_tick_45 ⟨Nat.zero_le _, Nat.zero_le _⟩ (fun H locs h => ?_)
            exact g_reti S h hr hlocks rfl (by first | (simp only [f_X6_tick_L1, if_pos c3]; done) | contradiction | (simp only [f_X6_tick_L1, if_pos c3]; rfl) | rfl) (by first | (simp only [f_X6_tick_L1, if_pos c3]; done) | contradiction | (simp only [f_X6_tick_L1, if_pos c3]; rfl) | rfl) dX6_tick_48
          · refine lv_aload_n hx hb dX6_tick_28 rfl (lv_at hl 1 rfl) ?_
            refine g_get S h gk_c0 (by decide) rfl rfl in6 (k := 1) (by decide) (by decide +kernel) rfl dX6_tick_29 ?_
            refine g_callv S h (c_X1_passTick l D L cy X A _ (h.2.2.2.2 _) gk_c30) (cwV 0 hts gX6_tick_X1_passTick rfl rfl rfl (by decide +kernel) ⟨Nat.le_of_ble_eq_true rfl, Nat.le_of_ble_eq_true rfl⟩) (g_pre h gk_c30 (by decide) rfl rfl _) rfl hl.1 rfl (Nat.le_of_ble_eq_true rfl) dX6_tick_32 ⟨Nat.zero_le _, Nat.zero_le _⟩ (fun H locs h => ?_)
            obtain ⟨x5, ex5⟩ : ∃ zz : Int32, zz = x + 1 := ⟨_, rfl⟩
            refine lv_iinc (v := x5) (lv' := [(2, .int x5), (0, .ref (L 0)), (1, .int ta)]) hx hb dX6_tick_35 hl (k := 0) rfl (by rw [ex5]; rfl) (by decide) rfl (fun ls hl => ?_)
            refine lv_goto (tgt := 23) hx hb dX6_tick_38 (by decide) ?_
            exact g_cvi (by subst ex5; first | (simp only [f_X6_tick_L1, if_neg c3]; done) | contradiction | (simp only [f_X6_tick_L1, if_neg c3]; rfl) | rfl) (by subst ex5; first | (simp only [f_X6_tick_L1, if_neg c3]; done) | contradiction | (simp only [f_X6_tick_L1, if_neg c3]; rfl) | rfl) (ihL1 _ x5 (Nat.lt_of_lt_of_le (g_ms ex5 c3) (Nat.le_of_lt_succ hn)) _ _ ls h (lv_sub hl [0, 1, 2] rfl))
      exact g_cvi (by first | (simp only [f_X6_tick, if_neg c1, if_pos c2]; done) | contradiction | (simp only [f_X6_tick, if_neg c1, if_pos c2]; rfl) | rfl) (by first | (simp only [f_X6_tick, if_neg c1, if_pos c2]; done) | contradiction | (simp only [f_X6_tick, if_neg c1, if_pos c2]; rfl) | rfl) (loopL1 _ _ 0 (Nat.lt_add_one _) _ _ ls h (lv_sub hl [0, 1, 2] rfl))
    · exact absurd hd2 c2
set_option maxHeartbeats 8000000 in
set_option maxRecDepth 100000 in
/-- overIn(task, ticks) -/
theorem c_X6_overIn (l : Launch) (D : va_G) (L : Nat → Nat) (cy : Nat → ClassId) (X : va_W) (A : Nat → Prop) (st : gSt) (hD : va_D A (X ++ gW L cy st)) (tk0 : Int32) (ta : Int32)  (hd1 : ¬ (tk0 < (0 : Int32))) (hd2 : tk0 < (st 30 3)) (hd3 : ¬ (ta < (1 : Int32))) (hd4 : ta ≤ (60 : Int32)) : gMi l yX6_overIn wsX6_overIn { frames := 7, cells := 0, slots := 0, locals := 166 } D L cy X A [.ref (L 0), .int tk0, .int ta] st (f_X6_overIn st tk0 ta).1 (f_X6_overIn st tk0 ta).2 := by
  refine g_entry hD (cc := cX6_overIn) (maxL := 5) (ret := (some .int)) (by decide +kernel) rfl (Nat.le_of_ble_eq_true rfl) ?_
  intro p e s m args below meth c ls B
  obtain ⟨S, hr, hlocks, h, hl⟩ := B
  have hx := S.1
  have hb := S.2.1
  have hts := S.2.2.2.2
  have in1 : ∀ w ∈ wsX10, w ∈ wsX6_overIn := by decide +kernel
  have in6 : ∀ w ∈ wsX60, w ∈ wsX6_overIn := by decide +kernel
  have hl : lv_has ls 5 [(0, .ref (L 0)), (1, .int tk0), (2, .int ta)] := hl
  refine lv_aload_n hx hb dX6_overIn_0 rfl (lv_at hl 0 rfl) ?_
  refine lv_iload_n hx hb dX6_overIn_1 rfl (lv_at hl 1 rfl) ?_
  refine g_callv S h (c_X6_needTask l D L cy X A _ (h.2.2.2.2 _) _ hd1 hd2) (cwV 1 hts gX6_overIn_X6_needTask rfl rfl rfl (by decide +kernel) ⟨Nat.le_of_ble_eq_true rfl, Nat.le_of_ble_eq_true rfl⟩) (g_pre h gk_c0 (by decide) rfl rfl _) rfl hl.1 rfl (Nat.le_of_ble_eq_true rfl) dX6_overIn_2 ⟨Nat.zero_le _, Nat.zero_le _⟩ (fun H locs h => ?_)
  refine lv_iload_n hx hb dX6_overIn_5 rfl (lv_at hl 2 rfl) ?_
  refine g_callvS S h (c_X6_needTicksAhead l D L cy X A _ (h.2.2.2.2 _) _ hd3 hd4) (cwS 1 hts gX6_overIn_X6_needTicksAhead rfl rfl rfl (by decide +kernel) ⟨Nat.le_of_ble_eq_true rfl, Nat.le_of_ble_eq_true rfl⟩) rfl hl.1 rfl (Nat.le_of_ble_eq_true rfl) dX6_overIn_6 ⟨Nat.zero_le _, Nat.zero_le _⟩ (fun H locs h => ?_)
  refine lv_aload_n hx hb dX6_overIn_9 rfl (lv_at hl 0 rfl) ?_
  refine g_get S h gk_c0 (by decide) rfl rfl in6 (k := 2) (by decide) (by decide +kernel) rfl dX6_overIn_10 ?_
  refine lv_aload_n hx hb dX6_overIn_13 rfl (lv_at hl 0 rfl) ?_
  refine g_get S h gk_c0 (by decide) rfl rfl in6 (k := 1) (by decide) (by decide +kernel) rfl dX6_overIn_14 ?_
  refine g_callv S h (c_X1_copyFrom l D L cy X A _ (h.2.2.2.2 _) gk_c97 gk_c30) (cwV 1 hts gX6_overIn_X1_copyFrom rfl rfl rfl (by decide +kernel) ⟨Nat.le_of_ble_eq_true rfl, Nat.le_of_ble_eq_true rfl⟩) (g_pre h gk_c97 (by decide) rfl rfl _) rfl hl.1 rfl (Nat.le_of_ble_eq_true rfl) dX6_overIn_17 ⟨Nat.zero_le _, Nat.zero_le _⟩ (fun H locs h => ?_)
  refine lv_aload_n hx hb dX6_overIn_20 rfl (lv_at hl 0 rfl) ?_
  refine g_get S h gk_c0 (by decide) rfl rfl in6 (k := 2) (by decide) (by decide +kernel) rfl dX6_overIn_21 ?_
  refine lv_iload_n hx hb dX6_overIn_24 rfl (lv_at hl 1 rfl) ?_
  refine g_callr S h (c_X1_taskAt l D L cy X A _ (h.2.2.2.2 _) gk_c97 _) (cwV 1 hts gX6_overIn_X1_taskAt rfl rfl rfl (by decide +kernel) ⟨Nat.le_of_ble_eq_true rfl, Nat.le_of_ble_eq_true rfl⟩) (g_pre h gk_c97 (by decide) rfl rfl _) rfl hl.1 rfl (Nat.le_of_ble_eq_true rfl) dX6_overIn_25 ⟨Nat.zero_le _, Nat.zero_le _⟩ (fun H locs h => ?_)
  refine lv_astore_n (lv' := [(3, .ref (L (f_tk 97 tk0))), (0, .ref (L 0)), (1, .int tk0), (2, .int ta)]) hx hb dX6_overIn_28 rfl hl (by decide) rfl (fun ls hl => ?_)
  refine lv_iconst (v := 0) hx hb dX6_overIn_29 (by decide) ?_
  refine lv_istore (lv' := [(4, .int 0), (3, .ref (L (f_tk 97 tk0))), (0, .ref (L 0)), (1, .int tk0), (2, .int ta)]) hx hb dX6_overIn_30 hl (by decide) rfl (fun ls hl => ?_)
  have loopL1 : ∀ (nL1 : Nat) (st1 : gSt) (x : Int32), ((ta.toInt - x.toInt).toNat < nL1) → ∀ (H : Heap) (locs : List Loc) (ls : Array Slot), gH D L cy X A st1 s H locs → lv_has ls 5 [(4, .int x), (3, .ref (L (f_tk 97 tk0))), (0, .ref (L 0)), (1, .int tk0), (2, .int ta)] → W p l e { frames := 7, cells := 0, slots := 0, locals := 166 } s m args below meth c H locs 0 0 (MQ below (va_Qi (fun (zq : Int32) (_ : Unit) => zq = (f_X6_overIn_L1 tk0 ta nL1 st1 x).1) (fun _ zt => va_P D vwCl (X ++ gW L cy (f_X6_overIn_L1 tk0 ta nL1 st1 x).2) zt.heap) A) args s 0 0 A) (F0 m 32 ls []) := by
    intro nL1
    induction nL1 with
    | zero => intros; omega
    | succ nL1 ihL1 =>
      intro st1 x hn H locs ls h hl
      refine lv_iload hx hb dX6_overIn_32 (lv_at hl 0 rfl) ?_
      refine lv_iload_n hx hb dX6_overIn_34 rfl (lv_at hl 4 rfl) ?_
      refine lv_icmp_ge (tgt := 58) hx hb dX6_overIn_35 (by decide) (fun c2 => ?_) (fun c2 => ?_)
      · refine lv_aload_n hx hb dX6_overIn_58 rfl (lv_at hl 1 rfl) ?_
        refine g_calli S h (c_X4_isOver l D L cy X A _ (h.2.2.2.2 _) (gk_tk gk_c97 _)) (cwV 0 hts gX6_overIn_X4_isOver rfl rfl rfl (by decide +kernel) ⟨Nat.le_of_ble_eq_true rfl, Nat.le_of_ble_eq_true rfl⟩) (g_pre h (gk_tk gk_c97 _) (by decide) rfl rfl _) rfl hl.1 rfl (Nat.le_of_ble_eq_true rfl) dX6_overIn_59 ⟨Nat.zero_le _, Nat.zero_le _⟩ (fun H locs h => ?_)
        refine lv_if_eq (tgt := 83) hx hb dX6_overIn_62 (by decide) (fun c3 => ?_) (fun c3 => ?_)
        · refine lv_iconst (v := (-1)) hx hb dX6_overIn_83 (by decide) ?_
          exact g_reti S h hr hlocks rfl (by first | (simp only [f_X6_overIn_L1, if_pos c2, if_pos c3]; done) | contradiction | (simp only [f_X6_overIn_L1, if_pos c2, if_pos c3]; rfl) | rfl) (by first | (simp only [f_X6_overIn_L1, if_pos c2, if_pos c3]; done) | contradiction | (simp only [f_X6_overIn_L1, if_pos c2, if_pos c3]; rfl) | rfl) dX6_overIn_84
        · refine lv_aload_n hx hb dX6_overIn_65 rfl (lv_at hl 2 rfl) ?_
          refine g_get S h gk_c0 (by decide) rfl rfl in6 (k := 2) (by decide) (by decide +kernel) rfl dX6_overIn_66 ?_
          refine g_getN S h gk_c97 (by decide) rfl rfl in1 (k := 11) (by decide) (by decide +kernel) rfl dX6_overIn_69 ?_
          refine lv_aload_n hx hb dX6_overIn_72 rfl (lv_at hl 2 rfl) ?_
          refine g_get S h gk_c0 (by decide) rfl rfl in6 (k := 1) (by decide) (by decide +kernel) rfl dX6_overIn_73 ?_
          refine g_getN S h gk_c30 (by decide) rfl rfl in1 (k := 11) (by decide) (by decide +kernel) rfl dX6_overIn_76 ?_
          refine lv_isub hx hb dX6_overIn_79 ?_
          refine lv_goto (tgt := 84) hx hb dX6_overIn_80 (by decide) ?_
          exact g_reti S h hr hlocks rfl (by first | (simp only [f_X6_overIn_L1, if_pos c2, if_neg c3]; done) | contradiction | (simp only [f_X6_overIn_L1, if_pos c2, if_neg c3]; rfl) | rfl) (by first | (simp only [f_X6_overIn_L1, if_pos c2, if_neg c3]; done) | contradiction | (simp only [f_X6_overIn_L1, if_pos c2, if_neg c3]; rfl) | rfl) dX6_overIn_84
      · refine lv_aload_n hx hb dX6_overIn_38 rfl (lv_at hl 1 rfl) ?_
        refine g_calli S h (c_X4_isOver l D L cy X A _ (h.2.2.2.2 _) (gk_tk gk_c97 _)) (cwV 0 hts gX6_overIn_X4_isOver rfl rfl rfl (by decide +kernel) ⟨Nat.le_of_ble_eq_true rfl, Nat.le_of_ble_eq_true rfl⟩) (g_pre h (gk_tk gk_c97 _) (by decide) rfl rfl _) rfl hl.1 rfl (Nat.le_of_ble_eq_true rfl) dX6_overIn_39 ⟨Nat.zero_le _, Nat.zero_le _⟩ (fun H locs h => ?_)
        refine lv_if_ne (tgt := 58) hx hb dX6_overIn_42 (by decide) (fun c4 => ?_) (fun c4 => ?_)
        · refine lv_aload_n hx hb dX6_overIn_58 rfl (lv_at hl 1 rfl) ?_
          refine g_calli S h (c_X4_isOver l D L cy X A _ (h.2.2.2.2 _) (gk_tk gk_c97 _)) (cwV 0 hts gX6_overIn_X4_isOver rfl rfl rfl (by decide +kernel) ⟨Nat.le_of_ble_eq_true rfl, Nat.le_of_ble_eq_true rfl⟩) (g_pre h (gk_tk gk_c97 _) (by decide) rfl rfl _) rfl hl.1 rfl (Nat.le_of_ble_eq_true rfl) dX6_overIn_59 ⟨Nat.zero_le _, Nat.zero_le _⟩ (fun H locs h => ?_)
          refine lv_if_eq (tgt := 83) hx hb dX6_overIn_62 (by decide) (fun c5 => ?_) (fun c5 => ?_)
          · refine lv_iconst (v := (-1)) hx hb dX6_overIn_83 (by decide) ?_
            exact g_reti S h hr hlocks rfl (by first | (simp only [f_X6_overIn_L1, if_neg c2, if_neg c4, if_pos c5]; done) | contradiction | (simp only [f_X6_overIn_L1, if_neg c2, if_neg c4, if_pos c5]; rfl) | rfl) (by first | (simp only [f_X6_overIn_L1, if_neg c2, if_neg c4, if_pos c5]; done) | contradiction | (simp only [f_X6_overIn_L1, if_neg c2, if_neg c4, if_pos c5]; rfl) | rfl) dX6_overIn_84
          · refine lv_aload_n hx hb dX6_overIn_65 rfl (lv_at hl 2 rfl) ?_
            refine g_get S h gk_c0 (by decide) rfl rfl in6 (k := 2) (by decide) (by decide +kernel) rfl dX6_overIn_66 ?_
            refine g_getN S h gk_c97 (by decide) rfl rfl in1 (k := 11) (by decide) (by decide +kernel) rfl dX6_overIn_69 ?_
            refine lv_aload_n hx hb dX6_overIn_72 rfl (lv_at hl 2 rfl) ?_
            refine g_get S h gk_c0 (by decide) rfl rfl in6 (k := 1) (by decide) (by decide +kernel) rfl dX6_overIn_73 ?_
            refine g_getN S h gk_c30 (by decide) rfl rfl in1 (k := 11) (by decide) (by decide +kernel) rfl dX6_overIn_76 ?_
            refine lv_isub hx hb dX6_overIn_79 ?_
            refine lv_goto (tgt := 84) hx hb dX6_overIn_80 (by decide) ?_
            exact g_reti S h hr hlocks rfl (by first | (simp only [f_X6_overIn_L1, if_neg c2, if_neg c4, if_neg c5]; done) | contradiction | (simp only [f_X6_overIn_L1, if_neg c2, if_neg c4, if_neg c5]; rfl) | rfl) (by first | (simp only [f_X6_overIn_L1, if_neg c2, if_neg c4, if_neg c5]; done) | contradiction | (simp only [f_X6_overIn_L1, if_neg c2, if_neg c4, if_neg c5]; rfl) | rfl) dX6_overIn_84
        · refine lv_aload_n hx hb dX6_overIn_45 rfl (lv_at hl 2 rfl) ?_
          refine g_get S h gk_c0 (by decide) rfl rfl in6 (k := 2) (by decide) (by decide +kernel) rfl dX6_overIn_46 ?_
          refine g_callv S h (c_X1_passTick l D L cy X A _ (h.2.2.2.2 _) gk_c97) (cwV 0 hts gX6_overIn_X1_passTick rfl rfl rfl (by decide +kernel) ⟨Nat.le_of_ble_eq_true rfl, Nat.le_of_ble_eq_true rfl⟩) (g_pre h gk_c97 (by decide) rfl rfl _) rfl hl.1 rfl (Nat.le_of_ble_eq_true rfl) dX6_overIn_49 ⟨Nat.zero_le _, Nat.zero_le _⟩ (fun H locs h => ?_)
          obtain ⟨x7, ex7⟩ : ∃ zz : Int32, zz = x + 1 := ⟨_, rfl⟩
          refine lv_iinc (v := x7) (lv' := [(4, .int x7), (3, .ref (L (f_tk 97 tk0))), (0, .ref (L 0)), (1, .int tk0), (2, .int ta)]) hx hb dX6_overIn_52 hl (k := 0) rfl (by rw [ex7]; rfl) (by decide) rfl (fun ls hl => ?_)
          refine lv_goto (tgt := 32) hx hb dX6_overIn_55 (by decide) ?_
          exact g_cvi (by subst ex7; first | (simp only [f_X6_overIn_L1, if_neg c2, if_pos c4]; done) | contradiction | (simp only [f_X6_overIn_L1, if_neg c2, if_pos c4]; rfl) | rfl) (by subst ex7; first | (simp only [f_X6_overIn_L1, if_neg c2, if_pos c4]; done) | contradiction | (simp only [f_X6_overIn_L1, if_neg c2, if_pos c4]; rfl) | rfl) (ihL1 _ x7 (Nat.lt_of_lt_of_le (g_ms ex7 c2) (Nat.le_of_lt_succ hn)) _ _ ls h (lv_sub hl [0, 1, 2, 3, 4] rfl))
  exact g_cvi (by first | (simp only [f_X6_overIn]; done) | contradiction | (simp only [f_X6_overIn]; rfl) | rfl) (by first | (simp only [f_X6_overIn]; done) | contradiction | (simp only [f_X6_overIn]; rfl) | rfl) (loopL1 _ _ 0 (Nat.lt_add_one _) _ _ ls h (lv_sub hl [0, 1, 2, 3, 4] rfl))
set_option maxHeartbeats 8000000 in
set_option maxRecDepth 100000 in
/-- valueIn(task, ticks) -/
theorem c_X6_valueIn (l : Launch) (D : va_G) (L : Nat → Nat) (cy : Nat → ClassId) (X : va_W) (A : Nat → Prop) (st : gSt) (hD : va_D A (X ++ gW L cy st)) (tk0 : Int32) (ta : Int32)  (hd1 : ¬ (tk0 < (0 : Int32))) (hd2 : tk0 < (st 30 3)) (hd3 : ¬ (ta < (1 : Int32))) (hd4 : ta ≤ (60 : Int32)) : gMi l yX6_valueIn wsX6_valueIn { frames := 7, cells := 0, slots := 0, locals := 166 } D L cy X A [.ref (L 0), .int tk0, .int ta] st (f_X6_valueIn st tk0 ta).1 (f_X6_valueIn st tk0 ta).2 := by
  refine g_entry hD (cc := cX6_valueIn) (maxL := 4) (ret := (some .int)) (by decide +kernel) rfl (Nat.le_of_ble_eq_true rfl) ?_
  intro p e s m args below meth c ls B
  obtain ⟨S, hr, hlocks, h, hl⟩ := B
  have hx := S.1
  have hb := S.2.1
  have hts := S.2.2.2.2
  have in4 : ∀ w ∈ wsX40, w ∈ wsX6_valueIn := by decide +kernel
  have in6 : ∀ w ∈ wsX60, w ∈ wsX6_valueIn := by decide +kernel
  have hl : lv_has ls 4 [(0, .ref (L 0)), (1, .int tk0), (2, .int ta)] := hl
  refine lv_aload_n hx hb dX6_valueIn_0 rfl (lv_at hl 0 rfl) ?_
  refine lv_iload_n hx hb dX6_valueIn_1 rfl (lv_at hl 1 rfl) ?_
  refine g_callv S h (c_X6_needTask l D L cy X A _ (h.2.2.2.2 _) _ hd1 hd2) (cwV 1 hts gX6_valueIn_X6_needTask rfl rfl rfl (by decide +kernel) ⟨Nat.le_of_ble_eq_true rfl, Nat.le_of_ble_eq_true rfl⟩) (g_pre h gk_c0 (by decide) rfl rfl _) rfl hl.1 rfl (Nat.le_of_ble_eq_true rfl) dX6_valueIn_2 ⟨Nat.zero_le _, Nat.zero_le _⟩ (fun H locs h => ?_)
  refine lv_iload_n hx hb dX6_valueIn_5 rfl (lv_at hl 2 rfl) ?_
  refine g_callvS S h (c_X6_needTicksAhead l D L cy X A _ (h.2.2.2.2 _) _ hd3 hd4) (cwS 1 hts gX6_valueIn_X6_needTicksAhead rfl rfl rfl (by decide +kernel) ⟨Nat.le_of_ble_eq_true rfl, Nat.le_of_ble_eq_true rfl⟩) rfl hl.1 rfl (Nat.le_of_ble_eq_true rfl) dX6_valueIn_6 ⟨Nat.zero_le _, Nat.zero_le _⟩ (fun H locs h => ?_)
  refine lv_aload_n hx hb dX6_valueIn_9 rfl (lv_at hl 0 rfl) ?_
  refine g_get S h gk_c0 (by decide) rfl rfl in6 (k := 2) (by decide) (by decide +kernel) rfl dX6_valueIn_10 ?_
  refine lv_aload_n hx hb dX6_valueIn_13 rfl (lv_at hl 0 rfl) ?_
  refine g_get S h gk_c0 (by decide) rfl rfl in6 (k := 1) (by decide) (by decide +kernel) rfl dX6_valueIn_14 ?_
  refine g_callv S h (c_X1_copyFrom l D L cy X A _ (h.2.2.2.2 _) gk_c97 gk_c30) (cwV 1 hts gX6_valueIn_X1_copyFrom rfl rfl rfl (by decide +kernel) ⟨Nat.le_of_ble_eq_true rfl, Nat.le_of_ble_eq_true rfl⟩) (g_pre h gk_c97 (by decide) rfl rfl _) rfl hl.1 rfl (Nat.le_of_ble_eq_true rfl) dX6_valueIn_17 ⟨Nat.zero_le _, Nat.zero_le _⟩ (fun H locs h => ?_)
  refine lv_iconst (v := 0) hx hb dX6_valueIn_20 (by decide) ?_
  refine lv_istore_n (lv' := [(3, .int 0), (0, .ref (L 0)), (1, .int tk0), (2, .int ta)]) hx hb dX6_valueIn_21 rfl hl (by decide) rfl (fun ls hl => ?_)
  have loopL1 : ∀ (nL1 : Nat) (st1 : gSt) (x : Int32), ((ta.toInt - x.toInt).toNat < nL1) → ∀ (H : Heap) (locs : List Loc) (ls : Array Slot), gH D L cy X A st1 s H locs → lv_has ls 4 [(3, .int x), (0, .ref (L 0)), (1, .int tk0), (2, .int ta)] → W p l e { frames := 7, cells := 0, slots := 0, locals := 166 } s m args below meth c H locs 0 0 (MQ below (va_Qi (fun (zq : Int32) (_ : Unit) => zq = (f_X6_valueIn_L1 tk0 ta nL1 st1 x).1) (fun _ zt => va_P D vwCl (X ++ gW L cy (f_X6_valueIn_L1 tk0 ta nL1 st1 x).2) zt.heap) A) args s 0 0 A) (F0 m 22 ls []) := by
    intro nL1
    induction nL1 with
    | zero => intros; omega
    | succ nL1 ihL1 =>
      intro st1 x hn H locs ls h hl
      refine lv_iload_n hx hb dX6_valueIn_22 rfl (lv_at hl 0 rfl) ?_
      refine lv_iload_n hx hb dX6_valueIn_23 rfl (lv_at hl 3 rfl) ?_
      refine lv_icmp_ge (tgt := 40) hx hb dX6_valueIn_24 (by decide) (fun c2 => ?_) (fun c2 => ?_)
      · refine lv_aload_n hx hb dX6_valueIn_40 rfl (lv_at hl 1 rfl) ?_
        refine g_get S h gk_c0 (by decide) rfl rfl in6 (k := 2) (by decide) (by decide +kernel) rfl dX6_valueIn_41 ?_
        refine lv_iload_n hx hb dX6_valueIn_44 rfl (lv_at hl 2 rfl) ?_
        refine g_callr S h (c_X1_taskAt l D L cy X A _ (h.2.2.2.2 _) gk_c97 _) (cwV 1 hts gX6_valueIn_X1_taskAt rfl rfl rfl (by decide +kernel) ⟨Nat.le_of_ble_eq_true rfl, Nat.le_of_ble_eq_true rfl⟩) (g_pre h gk_c97 (by decide) rfl rfl _) rfl hl.1 rfl (Nat.le_of_ble_eq_true rfl) dX6_valueIn_45 ⟨Nat.zero_le _, Nat.zero_le _⟩ (fun H locs h => ?_)
        refine g_getN S h (gk_tk gk_c97 _) (by decide) rfl rfl in4 (k := 4) (by decide) (by decide +kernel) rfl dX6_valueIn_48 ?_
        exact g_reti S h hr hlocks rfl (by first | (simp only [f_X6_valueIn_L1, if_pos c2]; done) | contradiction | (simp only [f_X6_valueIn_L1, if_pos c2]; rfl) | rfl) (by first | (simp only [f_X6_valueIn_L1, if_pos c2]; done) | contradiction | (simp only [f_X6_valueIn_L1, if_pos c2]; rfl) | rfl) dX6_valueIn_51
      · refine lv_aload_n hx hb dX6_valueIn_27 rfl (lv_at hl 1 rfl) ?_
        refine g_get S h gk_c0 (by decide) rfl rfl in6 (k := 2) (by decide) (by decide +kernel) rfl dX6_valueIn_28 ?_
        refine g_callv S h (c_X1_passTick l D L cy X A _ (h.2.2.2.2 _) gk_c97) (cwV 0 hts gX6_valueIn_X1_passTick rfl rfl rfl (by decide +kernel) ⟨Nat.le_of_ble_eq_true rfl, Nat.le_of_ble_eq_true rfl⟩) (g_pre h gk_c97 (by decide) rfl rfl _) rfl hl.1 rfl (Nat.le_of_ble_eq_true rfl) dX6_valueIn_31 ⟨Nat.zero_le _, Nat.zero_le _⟩ (fun H locs h => ?_)
        obtain ⟨x4, ex4⟩ : ∃ zz : Int32, zz = x + 1 := ⟨_, rfl⟩
        refine lv_iinc (v := x4) (lv' := [(3, .int x4), (0, .ref (L 0)), (1, .int tk0), (2, .int ta)]) hx hb dX6_valueIn_34 hl (k := 0) rfl (by rw [ex4]; rfl) (by decide) rfl (fun ls hl => ?_)
        refine lv_goto (tgt := 22) hx hb dX6_valueIn_37 (by decide) ?_
        exact g_cvi (by subst ex4; first | (simp only [f_X6_valueIn_L1, if_neg c2]; done) | contradiction | (simp only [f_X6_valueIn_L1, if_neg c2]; rfl) | rfl) (by subst ex4; first | (simp only [f_X6_valueIn_L1, if_neg c2]; done) | contradiction | (simp only [f_X6_valueIn_L1, if_neg c2]; rfl) | rfl) (ihL1 _ x4 (Nat.lt_of_lt_of_le (g_ms ex4 c2) (Nat.le_of_lt_succ hn)) _ _ ls h (lv_sub hl [0, 1, 2, 3] rfl))
  exact g_cvi (by first | (simp only [f_X6_valueIn]; done) | contradiction | (simp only [f_X6_valueIn]; rfl) | rfl) (by first | (simp only [f_X6_valueIn]; done) | contradiction | (simp only [f_X6_valueIn]; rfl) | rfl) (loopL1 _ _ 0 (Nat.lt_add_one _) _ _ ls h (lv_sub hl [0, 1, 2, 3] rfl))
set_option maxHeartbeats 8000000 in
set_option maxRecDepth 100000 in
/-- haltsIn(ticks) -/
theorem c_X6_haltsIn (l : Launch) (D : va_G) (L : Nat → Nat) (cy : Nat → ClassId) (X : va_W) (A : Nat → Prop) (st : gSt) (hD : va_D A (X ++ gW L cy st)) (ta : Int32)  (hd1 : ¬ (ta < (1 : Int32))) (hd2 : ta ≤ (60 : Int32)) : gMi l yX6_haltsIn wsX6_haltsIn { frames := 7, cells := 0, slots := 0, locals := 166 } D L cy X A [.ref (L 0), .int ta] st (f_X6_haltsIn st ta).1 (f_X6_haltsIn st ta).2 := by
  refine g_entry hD (cc := cX6_haltsIn) (maxL := 3) (ret := (some .int)) (by decide +kernel) rfl (Nat.le_of_ble_eq_true rfl) ?_
  intro p e s m args below meth c ls B
  obtain ⟨S, hr, hlocks, h, hl⟩ := B
  have hx := S.1
  have hb := S.2.1
  have hts := S.2.2.2.2
  have in1 : ∀ w ∈ wsX10, w ∈ wsX6_haltsIn := by decide +kernel
  have in6 : ∀ w ∈ wsX60, w ∈ wsX6_haltsIn := by decide +kernel
  have hl : lv_has ls 3 [(0, .ref (L 0)), (1, .int ta)] := hl
  refine lv_iload_n hx hb dX6_haltsIn_0 rfl (lv_at hl 1 rfl) ?_
  refine g_callvS S h (c_X6_needTicksAhead l D L cy X A _ (h.2.2.2.2 _) _ hd1 hd2) (cwS 1 hts gX6_haltsIn_X6_needTicksAhead rfl rfl rfl (by decide +kernel) ⟨Nat.le_of_ble_eq_true rfl, Nat.le_of_ble_eq_true rfl⟩) rfl hl.1 rfl (Nat.le_of_ble_eq_true rfl) dX6_haltsIn_1 ⟨Nat.zero_le _, Nat.zero_le _⟩ (fun H locs h => ?_)
  refine lv_aload_n hx hb dX6_haltsIn_4 rfl (lv_at hl 0 rfl) ?_
  refine g_get S h gk_c0 (by decide) rfl rfl in6 (k := 2) (by decide) (by decide +kernel) rfl dX6_haltsIn_5 ?_
  refine lv_aload_n hx hb dX6_haltsIn_8 rfl (lv_at hl 0 rfl) ?_
  refine g_get S h gk_c0 (by decide) rfl rfl in6 (k := 1) (by decide) (by decide +kernel) rfl dX6_haltsIn_9 ?_
  refine g_callv S h (c_X1_copyFrom l D L cy X A _ (h.2.2.2.2 _) gk_c97 gk_c30) (cwV 1 hts gX6_haltsIn_X1_copyFrom rfl rfl rfl (by decide +kernel) ⟨Nat.le_of_ble_eq_true rfl, Nat.le_of_ble_eq_true rfl⟩) (g_pre h gk_c97 (by decide) rfl rfl _) rfl hl.1 rfl (Nat.le_of_ble_eq_true rfl) dX6_haltsIn_12 ⟨Nat.zero_le _, Nat.zero_le _⟩ (fun H locs h => ?_)
  refine lv_iconst (v := 0) hx hb dX6_haltsIn_15 (by decide) ?_
  refine lv_istore_n (lv' := [(2, .int 0), (0, .ref (L 0)), (1, .int ta)]) hx hb dX6_haltsIn_16 rfl hl (by decide) rfl (fun ls hl => ?_)
  have loopL1 : ∀ (nL1 : Nat) (st1 : gSt) (x : Int32), ((ta.toInt - x.toInt).toNat < nL1) → ∀ (H : Heap) (locs : List Loc) (ls : Array Slot), gH D L cy X A st1 s H locs → lv_has ls 3 [(2, .int x), (0, .ref (L 0)), (1, .int ta)] → W p l e { frames := 7, cells := 0, slots := 0, locals := 166 } s m args below meth c H locs 0 0 (MQ below (va_Qi (fun (zq : Int32) (_ : Unit) => zq = (f_X6_haltsIn_L1 ta nL1 st1 x).1) (fun _ zt => va_P D vwCl (X ++ gW L cy (f_X6_haltsIn_L1 ta nL1 st1 x).2) zt.heap) A) args s 0 0 A) (F0 m 17 ls []) := by
    intro nL1
    induction nL1 with
    | zero => intros; omega
    | succ nL1 ihL1 =>
      intro st1 x hn H locs ls h hl
      refine lv_iload_n hx hb dX6_haltsIn_17 rfl (lv_at hl 0 rfl) ?_
      refine lv_iload_n hx hb dX6_haltsIn_18 rfl (lv_at hl 2 rfl) ?_
      refine lv_icmp_ge (tgt := 45) hx hb dX6_haltsIn_19 (by decide) (fun c2 => ?_) (fun c2 => ?_)
      · refine lv_aload_n hx hb dX6_haltsIn_45 rfl (lv_at hl 1 rfl) ?_
        refine g_get S h gk_c0 (by decide) rfl rfl in6 (k := 2) (by decide) (by decide +kernel) rfl dX6_haltsIn_46 ?_
        refine g_calli S h (c_X1_isHalted l D L cy X A _ (h.2.2.2.2 _) gk_c97) (cwV 0 hts gX6_haltsIn_X1_isHalted rfl rfl rfl (by decide +kernel) ⟨Nat.le_of_ble_eq_true rfl, Nat.le_of_ble_eq_true rfl⟩) (g_pre h gk_c97 (by decide) rfl rfl _) rfl hl.1 rfl (Nat.le_of_ble_eq_true rfl) dX6_haltsIn_49 ⟨Nat.zero_le _, Nat.zero_le _⟩ (fun H locs h => ?_)
        refine lv_if_eq (tgt := 73) hx hb dX6_haltsIn_52 (by decide) (fun c3 => ?_) (fun c3 => ?_)
        · refine lv_iconst (v := (-1)) hx hb dX6_haltsIn_73 (by decide) ?_
          exact g_reti S h hr hlocks rfl (by first | (simp only [f_X6_haltsIn_L1, if_pos c2, if_pos c3]; done) | contradiction | (simp only [f_X6_haltsIn_L1, if_pos c2, if_pos c3]; rfl) | rfl) (by first | (simp only [f_X6_haltsIn_L1, if_pos c2, if_pos c3]; done) | contradiction | (simp only [f_X6_haltsIn_L1, if_pos c2, if_pos c3]; rfl) | rfl) dX6_haltsIn_74
        · refine lv_aload_n hx hb dX6_haltsIn_55 rfl (lv_at hl 1 rfl) ?_
          refine g_get S h gk_c0 (by decide) rfl rfl in6 (k := 2) (by decide) (by decide +kernel) rfl dX6_haltsIn_56 ?_
          refine g_getN S h gk_c97 (by decide) rfl rfl in1 (k := 11) (by decide) (by decide +kernel) rfl dX6_haltsIn_59 ?_
          refine lv_aload_n hx hb dX6_haltsIn_62 rfl (lv_at hl 1 rfl) ?_
          refine g_get S h gk_c0 (by decide) rfl rfl in6 (k := 1) (by decide) (by decide +kernel) rfl dX6_haltsIn_63 ?_
          refine g_getN S h gk_c30 (by decide) rfl rfl in1 (k := 11) (by decide) (by decide +kernel) rfl dX6_haltsIn_66 ?_
          refine lv_isub hx hb dX6_haltsIn_69 ?_
          refine lv_goto (tgt := 74) hx hb dX6_haltsIn_70 (by decide) ?_
          exact g_reti S h hr hlocks rfl (by first | (simp only [f_X6_haltsIn_L1, if_pos c2, if_neg c3]; done) | contradiction | (simp only [f_X6_haltsIn_L1, if_pos c2, if_neg c3]; rfl) | rfl) (by first | (simp only [f_X6_haltsIn_L1, if_pos c2, if_neg c3]; done) | contradiction | (simp only [f_X6_haltsIn_L1, if_pos c2, if_neg c3]; rfl) | rfl) dX6_haltsIn_74
      · refine lv_aload_n hx hb dX6_haltsIn_22 rfl (lv_at hl 1 rfl) ?_
        refine g_get S h gk_c0 (by decide) rfl rfl in6 (k := 2) (by decide) (by decide +kernel) rfl dX6_haltsIn_23 ?_
        refine g_calli S h (c_X1_isHalted l D L cy X A _ (h.2.2.2.2 _) gk_c97) (cwV 0 hts gX6_haltsIn_X1_isHalted rfl rfl rfl (by decide +kernel) ⟨Nat.le_of_ble_eq_true rfl, Nat.le_of_ble_eq_true rfl⟩) (g_pre h gk_c97 (by decide) rfl rfl _) rfl hl.1 rfl (Nat.le_of_ble_eq_true rfl) dX6_haltsIn_26 ⟨Nat.zero_le _, Nat.zero_le _⟩ (fun H locs h => ?_)
        refine lv_if_ne (tgt := 45) hx hb dX6_haltsIn_29 (by decide) (fun c4 => ?_) (fun c4 => ?_)
        · refine lv_aload_n hx hb dX6_haltsIn_45 rfl (lv_at hl 1 rfl) ?_
          refine g_get S h gk_c0 (by decide) rfl rfl in6 (k := 2) (by decide) (by decide +kernel) rfl dX6_haltsIn_46 ?_
          refine g_calli S h (c_X1_isHalted l D L cy X A _ (h.2.2.2.2 _) gk_c97) (cwV 0 hts gX6_haltsIn_X1_isHalted rfl rfl rfl (by decide +kernel) ⟨Nat.le_of_ble_eq_true rfl, Nat.le_of_ble_eq_true rfl⟩) (g_pre h gk_c97 (by decide) rfl rfl _) rfl hl.1 rfl (Nat.le_of_ble_eq_true rfl) dX6_haltsIn_49 ⟨Nat.zero_le _, Nat.zero_le _⟩ (fun H locs h => ?_)
          refine lv_if_eq (tgt := 73) hx hb dX6_haltsIn_52 (by decide) (fun c5 => ?_) (fun c5 => ?_)
          · refine lv_iconst (v := (-1)) hx hb dX6_haltsIn_73 (by decide) ?_
            exact g_reti S h hr hlocks rfl (by first | (simp only [f_X6_haltsIn_L1, if_neg c2, if_neg c4, if_pos c5]; done) | contradiction | (simp only [f_X6_haltsIn_L1, if_neg c2, if_neg c4, if_pos c5]; rfl) | rfl) (by first | (simp only [f_X6_haltsIn_L1, if_neg c2, if_neg c4, if_pos c5]; done) | contradiction | (simp only [f_X6_haltsIn_L1, if_neg c2, if_neg c4, if_pos c5]; rfl) | rfl) dX6_haltsIn_74
          · refine lv_aload_n hx hb dX6_haltsIn_55 rfl (lv_at hl 1 rfl) ?_
            refine g_get S h gk_c0 (by decide) rfl rfl in6 (k := 2) (by decide) (by decide +kernel) rfl dX6_haltsIn_56 ?_
            refine g_getN S h gk_c97 (by decide) rfl rfl in1 (k := 11) (by decide) (by decide +kernel) rfl dX6_haltsIn_59 ?_
            refine lv_aload_n hx hb dX6_haltsIn_62 rfl (lv_at hl 1 rfl) ?_
            refine g_get S h gk_c0 (by decide) rfl rfl in6 (k := 1) (by decide) (by decide +kernel) rfl dX6_haltsIn_63 ?_
            refine g_getN S h gk_c30 (by decide) rfl rfl in1 (k := 11) (by decide) (by decide +kernel) rfl dX6_haltsIn_66 ?_
            refine lv_isub hx hb dX6_haltsIn_69 ?_
            refine lv_goto (tgt := 74) hx hb dX6_haltsIn_70 (by decide) ?_
            exact g_reti S h hr hlocks rfl (by first | (simp only [f_X6_haltsIn_L1, if_neg c2, if_neg c4, if_neg c5]; done) | contradiction | (simp only [f_X6_haltsIn_L1, if_neg c2, if_neg c4, if_neg c5]; rfl) | rfl) (by first | (simp only [f_X6_haltsIn_L1, if_neg c2, if_neg c4, if_neg c5]; done) | contradiction | (simp only [f_X6_haltsIn_L1, if_neg c2, if_neg c4, if_neg c5]; rfl) | rfl) dX6_haltsIn_74
        · refine lv_aload_n hx hb dX6_haltsIn_32 rfl (lv_at hl 1 rfl) ?_
          refine g_get S h gk_c0 (by decide) rfl rfl in6 (k := 2) (by decide) (by decide +kernel) rfl dX6_haltsIn_33 ?_
          refine g_callv S h (c_X1_passTick l D L cy X A _ (h.2.2.2.2 _) gk_c97) (cwV 0 hts gX6_haltsIn_X1_passTick rfl rfl rfl (by decide +kernel) ⟨Nat.le_of_ble_eq_true rfl, Nat.le_of_ble_eq_true rfl⟩) (g_pre h gk_c97 (by decide) rfl rfl _) rfl hl.1 rfl (Nat.le_of_ble_eq_true rfl) dX6_haltsIn_36 ⟨Nat.zero_le _, Nat.zero_le _⟩ (fun H locs h => ?_)
          obtain ⟨x7, ex7⟩ : ∃ zz : Int32, zz = x + 1 := ⟨_, rfl⟩
          refine lv_iinc (v := x7) (lv' := [(2, .int x7), (0, .ref (L 0)), (1, .int ta)]) hx hb dX6_haltsIn_39 hl (k := 0) rfl (by rw [ex7]; rfl) (by decide) rfl (fun ls hl => ?_)
          refine lv_goto (tgt := 17) hx hb dX6_haltsIn_42 (by decide) ?_
          exact g_cvi (by subst ex7; first | (simp only [f_X6_haltsIn_L1, if_neg c2, if_pos c4]; done) | contradiction | (simp only [f_X6_haltsIn_L1, if_neg c2, if_pos c4]; rfl) | rfl) (by subst ex7; first | (simp only [f_X6_haltsIn_L1, if_neg c2, if_pos c4]; done) | contradiction | (simp only [f_X6_haltsIn_L1, if_neg c2, if_pos c4]; rfl) | rfl) (ihL1 _ x7 (Nat.lt_of_lt_of_le (g_ms ex7 c2) (Nat.le_of_lt_succ hn)) _ _ ls h (lv_sub hl [0, 1, 2] rfl))
  exact g_cvi (by first | (simp only [f_X6_haltsIn]; done) | contradiction | (simp only [f_X6_haltsIn]; rfl) | rfl) (by first | (simp only [f_X6_haltsIn]; done) | contradiction | (simp only [f_X6_haltsIn]; rfl) | rfl) (loopL1 _ _ 0 (Nat.lt_add_one _) _ _ ls h (lv_sub hl [0, 1, 2] rfl))
