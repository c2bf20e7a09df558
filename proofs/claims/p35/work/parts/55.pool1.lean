theorem g_ms {x y c : Int32} (ey : y = x + 1) (h : ¬ c ≤ x) : (c.toInt - y.toInt).toNat < (c.toInt - x.toInt).toNat := by
  have h1 : ¬ c.toInt ≤ x.toInt := fun q => h (Int32.le_iff_toInt_le.mpr q)
  have h2 := Int32.toInt_lt c
  have h3 := Int32.le_toInt x
  have h4 : y.toInt = x.toInt + 1 := by
    rw [ey, Int32.toInt_add]
    have e1 : (1 : Int32).toInt = 1 := rfl
    rw [e1]
    exact Int.bmod_eq_of_le (by omega) (by omega)
  omega
set_option maxHeartbeats 8000000 in
set_option maxRecDepth 100000 in
/-- Pool.isIn(set, number) -/
theorem c_X1_isIn (l : Launch) (D : va_G) (L : Nat → Nat) (cy : Nat → ClassId) (X : va_W) (A : Nat → Prop) (st : gSt) (hD : va_D A (X ++ gW L cy st)) (a : Int32) (b : Int32)  : gMi l yX1_isIn wsX1_isIn { frames := 0, cells := 0, slots := 0, locals := 0 } D L cy X A [.int a, .int b] st (f_X1_isIn st a b) st := by
  refine g_entry hD (cc := cX1_isIn) (maxL := 2) (ret := (some .boolean)) (by decide +kernel) rfl (Nat.le_of_ble_eq_true rfl) ?_
  intro p e s m args below meth c ls B
  obtain ⟨S, hr, hlocks, h, hl⟩ := B
  have hx := S.1
  have hb := S.2.1
  have hts := S.2.2.2.2
  have hl : lv_has ls 2 [(0, .int a), (1, .int b)] := hl
  refine lv_iload_n hx hb dX1_isIn_0 rfl (lv_at hl 1 rfl) ?_
  refine lv_if_lt (tgt := 23) hx hb dX1_isIn_1 (by decide) (fun c1 => ?_) (fun c1 => ?_)
  · refine lv_iconst (v := 0) hx hb dX1_isIn_23 (by decide) ?_
    exact g_reti S h hr hlocks rfl (by first | (simp only [f_X1_isIn, if_pos c1]; done) | (simp only [f_X1_isIn, if_pos c1]; rfl) | rfl) rfl dX1_isIn_24
  · refine lv_iload_n hx hb dX1_isIn_4 rfl (lv_at hl 1 rfl) ?_
    refine lv_bipush (v := 24) hx hb dX1_isIn_5 (by decide) ?_
    refine lv_icmp_ge (tgt := 23) hx hb dX1_isIn_7 (by decide) (fun c2 => ?_) (fun c2 => ?_)
    · refine lv_iconst (v := 0) hx hb dX1_isIn_23 (by decide) ?_
      exact g_reti S h hr hlocks rfl (by first | (simp only [f_X1_isIn, if_neg c1, if_pos c2]; done) | (simp only [f_X1_isIn, if_neg c1, if_pos c2]; rfl) | rfl) rfl dX1_isIn_24
    · refine lv_iload_n hx hb dX1_isIn_10 rfl (lv_at hl 0 rfl) ?_
      refine lv_iload_n hx hb dX1_isIn_11 rfl (lv_at hl 1 rfl) ?_
      refine lv_ishr hx hb dX1_isIn_12 ?_
      refine lv_iconst (v := 1) hx hb dX1_isIn_13 (by decide) ?_
      refine lv_iand hx hb dX1_isIn_14 ?_
      refine lv_iconst (v := 1) hx hb dX1_isIn_15 (by decide) ?_
      refine lv_icmp_ne (tgt := 23) hx hb dX1_isIn_16 (by decide) (fun c3 => ?_) (fun c3 => ?_)
      · refine lv_iconst (v := 0) hx hb dX1_isIn_23 (by decide) ?_
        exact g_reti S h hr hlocks rfl (by first | (simp only [f_X1_isIn, if_neg c1, if_neg c2, if_neg c3]; done) | (simp only [f_X1_isIn, if_neg c1, if_neg c2, if_neg c3]; rfl) | rfl) rfl dX1_isIn_24
      · refine lv_iconst (v := 1) hx hb dX1_isIn_19 (by decide) ?_
        refine lv_goto (tgt := 24) hx hb dX1_isIn_20 (by decide) ?_
        exact g_reti S h hr hlocks rfl (by first | (simp only [f_X1_isIn, if_neg c1, if_neg c2, if_pos c3]; done) | (simp only [f_X1_isIn, if_neg c1, if_neg c2, if_pos c3]; rfl) | rfl) rfl dX1_isIn_24
set_option maxHeartbeats 8000000 in
set_option maxRecDepth 100000 in
/-- Pool.hasTaskOf(job) -/
theorem c_X1_hasTaskOf (l : Launch) (D : va_G) (L : Nat → Nat) (cy : Nat → ClassId) (X : va_W) (A : Nat → Prop) (st : gSt) (hD : va_D A (X ++ gW L cy st)) {P : Nat} (hP : gkd P = 5) (job : Int32)  : gMi l yX1_hasTaskOf wsX1_hasTaskOf { frames := 1, cells := 0, slots := 0, locals := 21 } D L cy X A [.ref (L P), .int job] st (f_X1_hasTaskOf st P job) st := by
  refine g_entry hD (cc := cX1_hasTaskOf) (maxL := 3) (ret := (some .boolean)) (by decide +kernel) rfl (Nat.le_of_ble_eq_true rfl) ?_
  intro p e s m args below meth c ls B
  obtain ⟨S, hr, hlocks, h, hl⟩ := B
  have hx := S.1
  have hb := S.2.1
  have hts := S.2.2.2.2
  have in1 : ∀ w ∈ wsX10, w ∈ wsX1_hasTaskOf := by decide +kernel
  have in4 : ∀ w ∈ wsX40, w ∈ wsX1_hasTaskOf := by decide +kernel
  have hl : lv_has ls 3 [(0, .ref (L P)), (1, .int job)] := hl
  refine lv_iconst (v := 0) hx hb dX1_hasTaskOf_0 (by decide) ?_
  refine lv_istore_n (lv' := [(2, .int 0), (0, .ref (L P)), (1, .int job)]) hx hb dX1_hasTaskOf_1 rfl hl (by decide) rfl (fun ls hl => ?_)
  have loopL1 : ∀ (nL1 : Nat) (st1 : gSt) (x : Int32), (((st1 P 3).toInt - x.toInt).toNat < nL1) → ∀ (H : Heap) (locs : List Loc) (ls : Array Slot), gH D L cy X A st1 s H locs → lv_has ls 3 [(2, .int x), (0, .ref (L P)), (1, .int job)] → W p l e { frames := 1, cells := 0, slots := 0, locals := 21 } s m args below meth c H locs 0 0 (MQ below (va_Qi (fun (zq : Int32) (_ : Unit) => zq = (f_X1_hasTaskOf_L1 P job nL1 st1 x)) (fun _ zt => va_P D vwCl (X ++ gW L cy st1) zt.heap) A) args s 0 0 A) (F0 m 2 ls []) := by
    intro nL1
    induction nL1 with
    | zero => intros; omega
    | succ nL1 ihL1 =>
      intro st1 x hn H locs ls h hl
      refine lv_iload_n hx hb dX1_hasTaskOf_2 rfl (lv_at hl 0 rfl) ?_
      refine lv_aload_n hx hb dX1_hasTaskOf_3 rfl (lv_at hl 1 rfl) ?_
      refine g_get S h hP (by decide) rfl rfl in1 (k := 3) (by decide) (by decide +kernel) rfl dX1_hasTaskOf_4 ?_
      refine lv_icmp_ge (tgt := 30) hx hb dX1_hasTaskOf_7 (by decide) (fun c1 => ?_) (fun c1 => ?_)
      · refine lv_iconst (v := 0) hx hb dX1_hasTaskOf_30 (by decide) ?_
        exact g_reti S h hr hlocks rfl (by first | (simp only [f_X1_hasTaskOf_L1, if_pos c1]; done) | (simp only [f_X1_hasTaskOf_L1, if_pos c1]; rfl) | rfl) rfl dX1_hasTaskOf_31
      · refine lv_aload_n hx hb dX1_hasTaskOf_10 rfl (lv_at hl 1 rfl) ?_
        refine lv_iload_n hx hb dX1_hasTaskOf_11 rfl (lv_at hl 0 rfl) ?_
        refine g_callr S h (c_X1_taskAt l D L cy X A _ (h.2.2.2.2 _) hP _) (cwV 1 hts gX1_hasTaskOf_X1_taskAt rfl rfl rfl (by decide +kernel) ⟨Nat.le_of_ble_eq_true rfl, Nat.le_of_ble_eq_true rfl⟩) (g_pre h hP (by decide) rfl rfl _) rfl hl.1 rfl (Nat.le_of_ble_eq_true rfl) dX1_hasTaskOf_12 ⟨Nat.zero_le _, Nat.zero_le _⟩ (fun H locs h => ?_)
        refine g_getN S h (gk_tk hP _) (by decide) rfl rfl in4 (k := 1) (by decide) (by decide +kernel) rfl dX1_hasTaskOf_15 ?_
        refine lv_iload_n hx hb dX1_hasTaskOf_18 rfl (lv_at hl 2 rfl) ?_
        refine lv_icmp_ne (tgt := 24) hx hb dX1_hasTaskOf_19 (by decide) (fun c2 => ?_) (fun c2 => ?_)
        · obtain ⟨x3, ex3⟩ : ∃ zz : Int32, zz = x + 1 := ⟨_, rfl⟩
          refine lv_iinc (v := x3) (lv' := [(2, .int x3), (0, .ref (L P)), (1, .int job)]) hx hb dX1_hasTaskOf_24 hl (k := 0) rfl (by rw [ex3]; rfl) (by decide) rfl (fun ls hl => ?_)
          refine lv_goto (tgt := 2) hx hb dX1_hasTaskOf_27 (by decide) ?_
          exact g_cvi (by subst ex3; first | (simp only [f_X1_hasTaskOf_L1, if_neg c1, if_neg c2]; done) | (simp only [f_X1_hasTaskOf_L1, if_neg c1, if_neg c2]; rfl) | rfl) rfl (ihL1 _ x3 (Nat.lt_of_lt_of_le (g_ms ex3 c1) (Nat.le_of_lt_succ hn)) _ _ ls h (lv_sub hl [0, 1, 2] rfl))
        · refine lv_iconst (v := 1) hx hb dX1_hasTaskOf_22 (by decide) ?_
          exact g_reti S h hr hlocks rfl (by first | (simp only [f_X1_hasTaskOf_L1, if_neg c1, if_pos c2]; done) | (simp only [f_X1_hasTaskOf_L1, if_neg c1, if_pos c2]; rfl) | rfl) rfl dX1_hasTaskOf_23
  exact g_cvi (by first | (simp only [f_X1_hasTaskOf]; done) | (simp only [f_X1_hasTaskOf]; rfl) | rfl) rfl (loopL1 _ _ 0 (Nat.lt_add_one _) _ _ ls h (lv_sub hl [0, 1, 2] rfl))
set_option maxHeartbeats 8000000 in
set_option maxRecDepth 100000 in
/-- Pool.hasTaskIn(state) -/
theorem c_X1_hasTaskIn (l : Launch) (D : va_G) (L : Nat → Nat) (cy : Nat → ClassId) (X : va_W) (A : Nat → Prop) (st : gSt) (hD : va_D A (X ++ gW L cy st)) {P : Nat} (hP : gkd P = 5) (sq : Int32)  : gMi l yX1_hasTaskIn wsX1_hasTaskIn { frames := 1, cells := 0, slots := 0, locals := 21 } D L cy X A [.ref (L P), .int sq] st (f_X1_hasTaskIn st P sq) st := by
  refine g_entry hD (cc := cX1_hasTaskIn) (maxL := 3) (ret := (some .boolean)) (by decide +kernel) rfl (Nat.le_of_ble_eq_true rfl) ?_
  intro p e s m args below meth c ls B
  obtain ⟨S, hr, hlocks, h, hl⟩ := B
  have hx := S.1
  have hb := S.2.1
  have hts := S.2.2.2.2
  have in1 : ∀ w ∈ wsX10, w ∈ wsX1_hasTaskIn := by decide +kernel
  have in4 : ∀ w ∈ wsX40, w ∈ wsX1_hasTaskIn := by decide +kernel
  have hl : lv_has ls 3 [(0, .ref (L P)), (1, .int sq)] := hl
  refine lv_iconst (v := 0) hx hb dX1_hasTaskIn_0 (by decide) ?_
  refine lv_istore_n (lv' := [(2, .int 0), (0, .ref (L P)), (1, .int sq)]) hx hb dX1_hasTaskIn_1 rfl hl (by decide) rfl (fun ls hl => ?_)
  have loopL1 : ∀ (nL1 : Nat) (st1 : gSt) (x : Int32), (((st1 P 3).toInt - x.toInt).toNat < nL1) → ∀ (H : Heap) (locs : List Loc) (ls : Array Slot), gH D L cy X A st1 s H locs → lv_has ls 3 [(2, .int x), (0, .ref (L P)), (1, .int sq)] → W p l e { frames := 1, cells := 0, slots := 0, locals := 21 } s m args below meth c H locs 0 0 (MQ below (va_Qi (fun (zq : Int32) (_ : Unit) => zq = (f_X1_hasTaskIn_L1 P sq nL1 st1 x)) (fun _ zt => va_P D vwCl (X ++ gW L cy st1) zt.heap) A) args s 0 0 A) (F0 m 2 ls []) := by
    intro nL1
    induction nL1 with
    | zero => intros; omega
    | succ nL1 ihL1 =>
      intro st1 x hn H locs ls h hl
      refine lv_iload_n hx hb dX1_hasTaskIn_2 rfl (lv_at hl 0 rfl) ?_
      refine lv_aload_n hx hb dX1_hasTaskIn_3 rfl (lv_at hl 1 rfl) ?_
      refine g_get S h hP (by decide) rfl rfl in1 (k := 3) (by decide) (by decide +kernel) rfl dX1_hasTaskIn_4 ?_
      refine lv_icmp_ge (tgt := 30) hx hb dX1_hasTaskIn_7 (by decide) (fun c1 => ?_) (fun c1 => ?_)
      · refine lv_iconst (v := 0) hx hb dX1_hasTaskIn_30 (by decide) ?_
        exact g_reti S h hr hlocks rfl (by first | (simp only [f_X1_hasTaskIn_L1, if_pos c1]; done) | (simp only [f_X1_hasTaskIn_L1, if_pos c1]; rfl) | rfl) rfl dX1_hasTaskIn_31
      · refine lv_aload_n hx hb dX1_hasTaskIn_10 rfl (lv_at hl 1 rfl) ?_
        refine lv_iload_n hx hb dX1_hasTaskIn_11 rfl (lv_at hl 0 rfl) ?_
        refine g_callr S h (c_X1_taskAt l D L cy X A _ (h.2.2.2.2 _) hP _) (cwV 1 hts gX1_hasTaskIn_X1_taskAt rfl rfl rfl (by decide +kernel) ⟨Nat.le_of_ble_eq_true rfl, Nat.le_of_ble_eq_true rfl⟩) (g_pre h hP (by decide) rfl rfl _) rfl hl.1 rfl (Nat.le_of_ble_eq_true rfl) dX1_hasTaskIn_12 ⟨Nat.zero_le _, Nat.zero_le _⟩ (fun H locs h => ?_)
        refine g_getN S h (gk_tk hP _) (by decide) rfl rfl in4 (k := 2) (by decide) (by decide +kernel) rfl dX1_hasTaskIn_15 ?_
        refine lv_iload_n hx hb dX1_hasTaskIn_18 rfl (lv_at hl 2 rfl) ?_
        refine lv_icmp_ne (tgt := 24) hx hb dX1_hasTaskIn_19 (by decide) (fun c2 => ?_) (fun c2 => ?_)
        · obtain ⟨x3, ex3⟩ : ∃ zz : Int32, zz = x + 1 := ⟨_, rfl⟩
          refine lv_iinc (v := x3) (lv' := [(2, .int x3), (0, .ref (L P)), (1, .int sq)]) hx hb dX1_hasTaskIn_24 hl (k := 0) rfl (by rw [ex3]; rfl) (by decide) rfl (fun ls hl => ?_)
          refine lv_goto (tgt := 2) hx hb dX1_hasTaskIn_27 (by decide) ?_
          exact g_cvi (by subst ex3; first | (simp only [f_X1_hasTaskIn_L1, if_neg c1, if_neg c2]; done) | (simp only [f_X1_hasTaskIn_L1, if_neg c1, if_neg c2]; rfl) | rfl) rfl (ihL1 _ x3 (Nat.lt_of_lt_of_le (g_ms ex3 c1) (Nat.le_of_lt_succ hn)) _ _ ls h (lv_sub hl [0, 1, 2] rfl))
        · refine lv_iconst (v := 1) hx hb dX1_hasTaskIn_22 (by decide) ?_
          exact g_reti S h hr hlocks rfl (by first | (simp only [f_X1_hasTaskIn_L1, if_neg c1, if_pos c2]; done) | (simp only [f_X1_hasTaskIn_L1, if_neg c1, if_pos c2]; rfl) | rfl) rfl dX1_hasTaskIn_23
  exact g_cvi (by first | (simp only [f_X1_hasTaskIn]; done) | (simp only [f_X1_hasTaskIn]; rfl) | rfl) rfl (loopL1 _ _ 0 (Nat.lt_add_one _) _ _ ls h (lv_sub hl [0, 1, 2] rfl))
set_option maxHeartbeats 8000000 in
set_option maxRecDepth 100000 in
/-- Pool.hasStackedTask() -/
theorem c_X1_hasStackedTask (l : Launch) (D : va_G) (L : Nat → Nat) (cy : Nat → ClassId) (X : va_W) (A : Nat → Prop) (st : gSt) (hD : va_D A (X ++ gW L cy st)) {P : Nat} (hP : gkd P = 5)  : gMi l yX1_hasStackedTask wsX1_hasStackedTask { frames := 1, cells := 0, slots := 0, locals := 21 } D L cy X A [.ref (L P)] st (f_X1_hasStackedTask st P) st := by
  refine g_entry hD (cc := cX1_hasStackedTask) (maxL := 2) (ret := (some .boolean)) (by decide +kernel) rfl (Nat.le_of_ble_eq_true rfl) ?_
  intro p e s m args below meth c ls B
  obtain ⟨S, hr, hlocks, h, hl⟩ := B
  have hx := S.1
  have hb := S.2.1
  have hts := S.2.2.2.2
  have in1 : ∀ w ∈ wsX10, w ∈ wsX1_hasStackedTask := by decide +kernel
  have in2 : ∀ w ∈ wsX20, w ∈ wsX1_hasStackedTask := by decide +kernel
  have in5 : ∀ w ∈ wsX50, w ∈ wsX1_hasStackedTask := by decide +kernel
  have hl : lv_has ls 2 [(0, .ref (L P))] := hl
  refine lv_iconst (v := 0) hx hb dX1_hasStackedTask_0 (by decide) ?_
  refine lv_istore_n (lv' := [(1, .int 0), (0, .ref (L P))]) hx hb dX1_hasStackedTask_1 rfl hl (by decide) rfl (fun ls hl => ?_)
  have loopL1 : ∀ (nL1 : Nat) (st1 : gSt) (x : Int32), (((st1 P 6).toInt - x.toInt).toNat < nL1) → ∀ (H : Heap) (locs : List Loc) (ls : Array Slot), gH D L cy X A st1 s H locs → lv_has ls 2 [(1, .int x), (0, .ref (L P))] → W p l e { frames := 1, cells := 0, slots := 0, locals := 21 } s m args below meth c H locs 0 0 (MQ below (va_Qi (fun (zq : Int32) (_ : Unit) => zq = (f_X1_hasStackedTask_L1 P nL1 st1 x)) (fun _ zt => va_P D vwCl (X ++ gW L cy st1) zt.heap) A) args s 0 0 A) (F0 m 2 ls []) := by
    intro nL1
    induction nL1 with
    | zero => intros; omega
    | succ nL1 ihL1 =>
      intro st1 x hn H locs ls h hl
      refine lv_iload_n hx hb dX1_hasStackedTask_2 rfl (lv_at hl 0 rfl) ?_
      refine lv_aload_n hx hb dX1_hasStackedTask_3 rfl (lv_at hl 1 rfl) ?_
      refine g_get S h hP (by decide) rfl rfl in1 (k := 6) (by decide) (by decide +kernel) rfl dX1_hasStackedTask_4 ?_
      refine lv_icmp_ge (tgt := 32) hx hb dX1_hasStackedTask_7 (by decide) (fun c1 => ?_) (fun c1 => ?_)
      · refine lv_iconst (v := 0) hx hb dX1_hasStackedTask_32 (by decide) ?_
        exact g_reti S h hr hlocks rfl (by first | (simp only [f_X1_hasStackedTask_L1, if_pos c1]; done) | (simp only [f_X1_hasStackedTask_L1, if_pos c1]; rfl) | rfl) rfl dX1_hasStackedTask_33
      · refine lv_aload_n hx hb dX1_hasStackedTask_10 rfl (lv_at hl 1 rfl) ?_
        refine lv_iload_n hx hb dX1_hasStackedTask_11 rfl (lv_at hl 0 rfl) ?_
        refine g_callr S h (c_X1_workerAt l D L cy X A _ (h.2.2.2.2 _) hP _) (cwV 1 hts gX1_hasStackedTask_X1_workerAt rfl rfl rfl (by decide +kernel) ⟨Nat.le_of_ble_eq_true rfl, Nat.le_of_ble_eq_true rfl⟩) (g_pre h hP (by decide) rfl rfl _) rfl hl.1 rfl (Nat.le_of_ble_eq_true rfl) dX1_hasStackedTask_12 ⟨Nat.zero_le _, Nat.zero_le _⟩ (fun H locs h => ?_)
        refine g_getN S h (gk_wk hP _) (by decide) rfl rfl in5 (k := 1) (by decide) (by decide +kernel) rfl dX1_hasStackedTask_15 ?_
        refine g_getN S h (gk9_3 (gk_wk hP _)) (by decide) rfl rfl in2 (k := 1) (by decide) (by decide +kernel) rfl dX1_hasStackedTask_18 ?_
        refine lv_if_le (tgt := 26) hx hb dX1_hasStackedTask_21 (by decide) (fun c2 => ?_) (fun c2 => ?_)
        · obtain ⟨x3, ex3⟩ : ∃ zz : Int32, zz = x + 1 := ⟨_, rfl⟩
          refine lv_iinc (v := x3) (lv' := [(1, .int x3), (0, .ref (L P))]) hx hb dX1_hasStackedTask_26 hl (k := 0) rfl (by rw [ex3]; rfl) (by decide) rfl (fun ls hl => ?_)
          refine lv_goto (tgt := 2) hx hb dX1_hasStackedTask_29 (by decide) ?_
          exact g_cvi (by subst ex3; first | (simp only [f_X1_hasStackedTask_L1, if_neg c1, if_pos c2]; done) | (simp only [f_X1_hasStackedTask_L1, if_neg c1, if_pos c2]; rfl) | rfl) rfl (ihL1 _ x3 (Nat.lt_of_lt_of_le (g_ms ex3 c1) (Nat.le_of_lt_succ hn)) _ _ ls h (lv_sub hl [0, 1] rfl))
        · refine lv_iconst (v := 1) hx hb dX1_hasStackedTask_24 (by decide) ?_
          exact g_reti S h hr hlocks rfl (by first | (simp only [f_X1_hasStackedTask_L1, if_neg c1, if_neg c2]; done) | (simp only [f_X1_hasStackedTask_L1, if_neg c1, if_neg c2]; rfl) | rfl) rfl dX1_hasStackedTask_25
  exact g_cvi (by first | (simp only [f_X1_hasStackedTask]; done) | (simp only [f_X1_hasStackedTask]; rfl) | rfl) rfl (loopL1 _ _ 0 (Nat.lt_add_one _) _ _ ls h (lv_sub hl [0, 1] rfl))
set_option maxHeartbeats 8000000 in
set_option maxRecDepth 100000 in
/-- Pool.countUnfinished() -/
theorem c_X1_countUnfinished (l : Launch) (D : va_G) (L : Nat → Nat) (cy : Nat → ClassId) (X : va_W) (A : Nat → Prop) (st : gSt) (hD : va_D A (X ++ gW L cy st)) {P : Nat} (hP : gkd P = 5)  : gMi l yX1_countUnfinished wsX1_countUnfinished { frames := 1, cells := 0, slots := 0, locals := 21 } D L cy X A [.ref (L P)] st (f_X1_countUnfinished st P) st := by
  refine g_entry hD (cc := cX1_countUnfinished) (maxL := 3) (ret := (some .int)) (by decide +kernel) rfl (Nat.le_of_ble_eq_true rfl) ?_
  intro p e s m args below meth c ls B
  obtain ⟨S, hr, hlocks, h, hl⟩ := B
  have hx := S.1
  have hb := S.2.1
  have hts := S.2.2.2.2
  have in1 : ∀ w ∈ wsX10, w ∈ wsX1_countUnfinished := by decide +kernel
  have hl : lv_has ls 3 [(0, .ref (L P))] := hl
  refine lv_iconst (v := 0) hx hb dX1_countUnfinished_0 (by decide) ?_
  refine lv_istore_n (lv' := [(1, .int 0), (0, .ref (L P))]) hx hb dX1_countUnfinished_1 rfl hl (by decide) rfl (fun ls hl => ?_)
  refine lv_iconst (v := 0) hx hb dX1_countUnfinished_2 (by decide) ?_
  refine lv_istore_n (lv' := [(2, .int 0), (1, .int 0), (0, .ref (L P))]) hx hb dX1_countUnfinished_3 rfl hl (by decide) rfl (fun ls hl => ?_)
  have loopL1 : ∀ (nL1 : Nat) (st1 : gSt) (y : Int32) (x : Int32), (((st1 P 3).toInt - x.toInt).toNat < nL1) → ∀ (H : Heap) (locs : List Loc) (ls : Array Slot), gH D L cy X A st1 s H locs → lv_has ls 3 [(2, .int x), (1, .int y), (0, .ref (L P))] → W p l e { frames := 1, cells := 0, slots := 0, locals := 21 } s m args below meth c H locs 0 0 (MQ below (va_Qi (fun (zq : Int32) (_ : Unit) => zq = (f_X1_countUnfinished_L1 P nL1 st1 y x)) (fun _ zt => va_P D vwCl (X ++ gW L cy st1) zt.heap) A) args s 0 0 A) (F0 m 4 ls []) := by
    intro nL1
    induction nL1 with
    | zero => intros; omega
    | succ nL1 ihL1 =>
      intro st1 y x hn H locs ls h hl
      refine lv_iload_n hx hb dX1_countUnfinished_4 rfl (lv_at hl 0 rfl) ?_
      refine lv_aload_n hx hb dX1_countUnfinished_5 rfl (lv_at hl 2 rfl) ?_
      refine g_get S h hP (by decide) rfl rfl in1 (k := 3) (by decide) (by decide +kernel) rfl dX1_countUnfinished_6 ?_
      refine lv_icmp_ge (tgt := 32) hx hb dX1_countUnfinished_9 (by decide) (fun c1 => ?_) (fun c1 => ?_)
      · refine lv_iload_n hx hb dX1_countUnfinished_32 rfl (lv_at hl 1 rfl) ?_
        exact g_reti S h hr hlocks rfl (by first | (simp only [f_X1_countUnfinished_L1, if_pos c1]; done) | (simp only [f_X1_countUnfinished_L1, if_pos c1]; rfl) | rfl) rfl dX1_countUnfinished_33
      · refine lv_aload_n hx hb dX1_countUnfinished_12 rfl (lv_at hl 2 rfl) ?_
        refine lv_iload_n hx hb dX1_countUnfinished_13 rfl (lv_at hl 0 rfl) ?_
        refine g_callr S h (c_X1_taskAt l D L cy X A _ (h.2.2.2.2 _) hP _) (cwV 1 hts gX1_countUnfinished_X1_taskAt rfl rfl rfl (by decide +kernel) ⟨Nat.le_of_ble_eq_true rfl, Nat.le_of_ble_eq_true rfl⟩) (g_pre h hP (by decide) rfl rfl _) rfl hl.1 rfl (Nat.le_of_ble_eq_true rfl) dX1_countUnfinished_14 ⟨Nat.zero_le _, Nat.zero_le _⟩ (fun H locs h => ?_)
        refine g_calli S h (c_X4_isOver l D L cy X A _ (h.2.2.2.2 _) (gk_tk hP _)) (cwV 0 hts gX1_countUnfinished_X4_isOver rfl rfl rfl (by decide +kernel) ⟨Nat.le_of_ble_eq_true rfl, Nat.le_of_ble_eq_true rfl⟩) (g_pre h (gk_tk hP _) (by decide) rfl rfl _) rfl hl.1 rfl (Nat.le_of_ble_eq_true rfl) dX1_countUnfinished_17 ⟨Nat.zero_le _, Nat.zero_le _⟩ (fun H locs h => ?_)
        refine lv_if_ne (tgt := 26) hx hb dX1_countUnfinished_20 (by decide) (fun c2 => ?_) (fun c2 => ?_)
        · obtain ⟨x3, ex3⟩ : ∃ zz : Int32, zz = x + 1 := ⟨_, rfl⟩
          refine lv_iinc (v := x3) (lv' := [(2, .int x3), (1, .int y), (0, .ref (L P))]) hx hb dX1_countUnfinished_26 hl (k := 0) rfl (by rw [ex3]; rfl) (by decide) rfl (fun ls hl => ?_)
          refine lv_goto (tgt := 4) hx hb dX1_countUnfinished_29 (by decide) ?_
          exact g_cvi (by subst ex3; first | (simp only [f_X1_countUnfinished_L1, if_neg c1, if_neg c2]; done) | (simp only [f_X1_countUnfinished_L1, if_neg c1, if_neg c2]; rfl) | rfl) rfl (ihL1 _ y x3 (Nat.lt_of_lt_of_le (g_ms ex3 c1) (Nat.le_of_lt_succ hn)) _ _ ls h (lv_sub hl [0, 1, 2] rfl))
        · obtain ⟨x4, ex4⟩ : ∃ zz : Int32, zz = y + 1 := ⟨_, rfl⟩
          refine lv_iinc (v := x4) (lv' := [(1, .int x4), (2, .int x), (0, .ref (L P))]) hx hb dX1_countUnfinished_23 hl (k := 1) rfl (by rw [ex4]; rfl) (by decide) rfl (fun ls hl => ?_)
          obtain ⟨x5, ex5⟩ : ∃ zz : Int32, zz = x + 1 := ⟨_, rfl⟩
          refine lv_iinc (v := x5) (lv' := [(2, .int x5), (1, .int x4), (0, .ref (L P))]) hx hb dX1_countUnfinished_26 hl (k := 1) rfl (by rw [ex5]; rfl) (by decide) rfl (fun ls hl => ?_)
          refine lv_goto (tgt := 4) hx hb dX1_countUnfinished_29 (by decide) ?_
          exact g_cvi (by subst ex5 ex4; first | (simp only [f_X1_countUnfinished_L1, if_neg c1, if_pos c2]; done) | (simp only [f_X1_countUnfinished_L1, if_neg c1, if_pos c2]; rfl) | rfl) rfl (ihL1 _ x4 x5 (Nat.lt_of_lt_of_le (g_ms ex5 c1) (Nat.le_of_lt_succ hn)) _ _ ls h (lv_sub hl [0, 1, 2] rfl))
  exact g_cvi (by first | (simp only [f_X1_countUnfinished]; done) | (simp only [f_X1_countUnfinished]; rfl) | rfl) rfl (loopL1 _ _ 0 0 (Nat.lt_add_one _) _ _ ls h (lv_sub hl [0, 1, 2] rfl))
set_option maxHeartbeats 8000000 in
set_option maxRecDepth 100000 in
/-- Pool.sumWork(number) -/
theorem c_X1_sumWork (l : Launch) (D : va_G) (L : Nat → Nat) (cy : Nat → ClassId) (X : va_W) (A : Nat → Prop) (st : gSt) (hD : va_D A (X ++ gW L cy st)) {P : Nat} (hP : gkd P = 5) (a : Int32)  : gMi l yX1_sumWork wsX1_sumWork { frames := 1, cells := 0, slots := 0, locals := 21 } D L cy X A [.ref (L P), .int a] st (f_X1_sumWork st P a) st := by
  refine g_entry hD (cc := cX1_sumWork) (maxL := 6) (ret := (some .int)) (by decide +kernel) rfl (Nat.le_of_ble_eq_true rfl) ?_
  intro p e s m args below meth c ls B
  obtain ⟨S, hr, hlocks, h, hl⟩ := B
  have hx := S.1
  have hb := S.2.1
  have hts := S.2.2.2.2
  have in1 : ∀ w ∈ wsX10, w ∈ wsX1_sumWork := by decide +kernel
  have in4 : ∀ w ∈ wsX40, w ∈ wsX1_sumWork := by decide +kernel
  have hl : lv_has ls 6 [(0, .ref (L P)), (1, .int a)] := hl
  refine lv_iconst (v := 1) hx hb dX1_sumWork_0 (by decide) ?_
  refine lv_iload_n hx hb dX1_sumWork_1 rfl (lv_at hl 1 rfl) ?_
  refine lv_ishl hx hb dX1_sumWork_2 ?_
  refine lv_topi (fun x1 ex1 => ?_)
  refine lv_istore_n (lv' := [(2, .int x1), (0, .ref (L P)), (1, .int a)]) hx hb dX1_sumWork_3 rfl hl (by decide) rfl (fun ls hl => ?_)
  refine lv_aload_n hx hb dX1_sumWork_4 rfl (lv_at hl 1 rfl) ?_
  refine lv_iload_n hx hb dX1_sumWork_5 rfl (lv_at hl 2 rfl) ?_
  refine g_callr S h (c_X1_taskAt l D L cy X A _ (h.2.2.2.2 _) hP _) (cwV 1 hts gX1_sumWork_X1_taskAt rfl rfl rfl (by decide +kernel) ⟨Nat.le_of_ble_eq_true rfl, Nat.le_of_ble_eq_true rfl⟩) (g_pre h hP (by decide) rfl rfl _) rfl hl.1 rfl (Nat.le_of_ble_eq_true rfl) dX1_sumWork_6 ⟨Nat.zero_le _, Nat.zero_le _⟩ (fun H locs h => ?_)
  refine g_getN S h (gk_tk hP _) (by decide) rfl rfl in4 (k := 9) (by decide) (by decide +kernel) rfl dX1_sumWork_9 ?_
  refine lv_topi (fun x2 ex2 => ?_)
  refine lv_istore_n (lv' := [(3, .int x2), (2, .int x1), (0, .ref (L P)), (1, .int a)]) hx hb dX1_sumWork_12 rfl hl (by decide) rfl (fun ls hl => ?_)
  refine lv_iload_n hx hb dX1_sumWork_13 rfl (lv_at hl 3 rfl) ?_
  refine lv_iconst (v := 1) hx hb dX1_sumWork_14 (by decide) ?_
  refine lv_iadd hx hb dX1_sumWork_15 ?_
  refine lv_topi (fun x3 ex3 => ?_)
  refine lv_istore (lv' := [(4, .int x3), (3, .int x2), (2, .int x1), (0, .ref (L P)), (1, .int a)]) hx hb dX1_sumWork_16 hl (by decide) rfl (fun ls hl => ?_)
  have loopL1 : ∀ (nL1 : Nat) (st1 : gSt) (f : Int32) (y : Int32) (x : Int32), (((st1 P 3).toInt - x.toInt).toNat < nL1) → ∀ (H : Heap) (locs : List Loc) (ls : Array Slot), gH D L cy X A st1 s H locs → lv_has ls 6 [(4, .int x), (3, .int y), (2, .int f), (0, .ref (L P)), (1, .int a)] → W p l e { frames := 1, cells := 0, slots := 0, locals := 21 } s m args below meth c H locs 0 0 (MQ below (va_Qi (fun (zq : Int32) (_ : Unit) => zq = (f_X1_sumWork_L1 P a nL1 st1 f y x)) (fun _ zt => va_P D vwCl (X ++ gW L cy st1) zt.heap) A) args s 0 0 A) (F0 m 18 ls []) := by
    intro nL1
    induction nL1 with
    | zero => intros; omega
    | succ nL1 ihL1 =>
      intro st1 f y x hn H locs ls h hl
      refine lv_iload hx hb dX1_sumWork_18 (lv_at hl 0 rfl) ?_
      refine lv_aload_n hx hb dX1_sumWork_20 rfl (lv_at hl 3 rfl) ?_
      refine g_get S h hP (by decide) rfl rfl in1 (k := 3) (by decide) (by decide +kernel) rfl dX1_sumWork_21 ?_
      refine lv_icmp_ge (tgt := 68) hx hb dX1_sumWork_24 (by decide) (fun c4 => ?_) (fun c4 => ?_)
      · refine lv_iload_n hx hb dX1_sumWork_68 rfl (lv_at hl 1 rfl) ?_
        exact g_reti S h hr hlocks rfl (by first | (simp only [f_X1_sumWork_L1, if_pos c4]; done) | (simp only [f_X1_sumWork_L1, if_pos c4]; rfl) | rfl) rfl dX1_sumWork_69
      · refine lv_aload_n hx hb dX1_sumWork_27 rfl (lv_at hl 3 rfl) ?_
        refine lv_iload hx hb dX1_sumWork_28 (lv_at hl 0 rfl) ?_
        refine g_callr S h (c_X1_taskAt l D L cy X A _ (h.2.2.2.2 _) hP _) (cwV 1 hts gX1_sumWork_X1_taskAt rfl rfl rfl (by decide +kernel) ⟨Nat.le_of_ble_eq_true rfl, Nat.le_of_ble_eq_true rfl⟩) (g_pre h hP (by decide) rfl rfl _) rfl hl.1 rfl (Nat.le_of_ble_eq_true rfl) dX1_sumWork_30 ⟨Nat.zero_le _, Nat.zero_le _⟩ (fun H locs h => ?_)
        refine g_topr (fun i5 ei5 => ?_)
        have hki5 : gkd i5 = 7 := by rw [ei5]; exact (gk_tk hP _)
        refine lv_astore (lv' := [(5, .ref (L i5)), (4, .int x), (3, .int y), (2, .int f), (0, .ref (L P)), (1, .int a)]) hx hb dX1_sumWork_33 hl (by decide) rfl (fun ls hl => ?_)
        refine lv_iload_n hx hb dX1_sumWork_35 rfl (lv_at hl 3 rfl) ?_
        refine lv_aload hx hb dX1_sumWork_36 (lv_at hl 0 rfl) ?_
        refine g_getN S h hki5 (by decide) rfl rfl in4 (k := 5) (by decide) (by decide +kernel) rfl dX1_sumWork_38 ?_
        refine g_calliS S h (c_X1_isIn l D L cy X A _ (h.2.2.2.2 _) _ _) (cwS 2 hts gX1_sumWork_X1_isIn rfl rfl rfl (by decide +kernel) ⟨Nat.le_of_ble_eq_true rfl, Nat.le_of_ble_eq_true rfl⟩) rfl hl.1 rfl (Nat.le_of_ble_eq_true rfl) dX1_sumWork_41 ⟨Nat.zero_le _, Nat.zero_le _⟩ (fun H locs h => ?_)
        refine lv_if_eq (tgt := 62) hx hb dX1_sumWork_44 (by decide) (fun c6 => ?_) (fun c6 => ?_)
        · obtain ⟨x7, ex7⟩ : ∃ zz : Int32, zz = x + 1 := ⟨_, rfl⟩
          refine lv_iinc (v := x7) (lv' := [(4, .int x7), (5, .ref (L i5)), (3, .int y), (2, .int f), (0, .ref (L P)), (1, .int a)]) hx hb dX1_sumWork_62 hl (k := 1) rfl (by rw [ex7]; rfl) (by decide) rfl (fun ls hl => ?_)
          refine lv_goto (tgt := 18) hx hb dX1_sumWork_65 (by decide) ?_
          exact g_cvi (by subst ex7 ei5; first | (simp only [f_X1_sumWork_L1, if_neg c4, if_pos c6]; done) | (simp only [f_X1_sumWork_L1, if_neg c4, if_pos c6]; rfl) | rfl) rfl (ihL1 _ f y x7 (Nat.lt_of_lt_of_le (g_ms ex7 c4) (Nat.le_of_lt_succ hn)) _ _ ls h (lv_sub hl [0, 2, 3, 4, 5] rfl))
        · refine lv_iload_n hx hb dX1_sumWork_47 rfl (lv_at hl 3 rfl) ?_
          refine lv_iconst (v := 1) hx hb dX1_sumWork_48 (by decide) ?_
          refine lv_iload hx hb dX1_sumWork_49 (lv_at hl 1 rfl) ?_
          refine lv_ishl hx hb dX1_sumWork_51 ?_
          refine lv_ior hx hb dX1_sumWork_52 ?_
          refine lv_topi (fun x8 ex8 => ?_)
          refine lv_istore_n (lv' := [(2, .int x8), (5, .ref (L i5)), (4, .int x), (3, .int y), (0, .ref (L P)), (1, .int a)]) hx hb dX1_sumWork_53 rfl hl (by decide) rfl (fun ls hl => ?_)
          refine lv_iload_n hx hb dX1_sumWork_54 rfl (lv_at hl 3 rfl) ?_
          refine lv_aload hx hb dX1_sumWork_55 (lv_at hl 1 rfl) ?_
          refine g_getN S h hki5 (by decide) rfl rfl in4 (k := 9) (by decide) (by decide +kernel) rfl dX1_sumWork_57 ?_
          refine lv_iadd hx hb dX1_sumWork_60 ?_
          refine lv_topi (fun x9 ex9 => ?_)
          refine lv_istore_n (lv' := [(3, .int x9), (2, .int x8), (5, .ref (L i5)), (4, .int x), (0, .ref (L P)), (1, .int a)]) hx hb dX1_sumWork_61 rfl hl (by decide) rfl (fun ls hl => ?_)
          obtain ⟨x10, ex10⟩ : ∃ zz : Int32, zz = x + 1 := ⟨_, rfl⟩
          refine lv_iinc (v := x10) (lv' := [(4, .int x10), (3, .int x9), (2, .int x8), (5, .ref (L i5)), (0, .ref (L P)), (1, .int a)]) hx hb dX1_sumWork_62 hl (k := 3) rfl (by rw [ex10]; rfl) (by decide) rfl (fun ls hl => ?_)
          refine lv_goto (tgt := 18) hx hb dX1_sumWork_65 (by decide) ?_
          exact g_cvi (by subst ex10 ex9 ex8 ei5; first | (simp only [f_X1_sumWork_L1, if_neg c4, if_neg c6]; done) | (simp only [f_X1_sumWork_L1, if_neg c4, if_neg c6]; rfl) | rfl) rfl (ihL1 _ x8 x9 x10 (Nat.lt_of_lt_of_le (g_ms ex10 c4) (Nat.le_of_lt_succ hn)) _ _ ls h (lv_sub hl [0, 1, 2, 4, 5] rfl))
  exact g_cvi (by subst ex3 ex2 ex1; first | (simp only [f_X1_sumWork]; done) | (simp only [f_X1_sumWork]; rfl) | rfl) rfl (loopL1 _ _ x1 x2 x3 (Nat.lt_add_one _) _ _ ls h (lv_sub hl [0, 1, 2, 3, 4] rfl))
set_option maxHeartbeats 8000000 in
set_option maxRecDepth 100000 in
/-- Pool.wantsTask(worker) -/
theorem c_X1_wantsTask (l : Launch) (D : va_G) (L : Nat → Nat) (cy : Nat → ClassId) (X : va_W) (A : Nat → Prop) (st : gSt) (hD : va_D A (X ++ gW L cy st)) {P : Nat} (hP : gkd P = 5) {w : Nat} (hw : gkd w = 9)  : gMi l yX1_wantsTask wsX1_wantsTask { frames := 2, cells := 0, slots := 0, locals := 41 } D L cy X A [.ref (L P), .ref (L w)] st (f_X1_wantsTask st P w) st := by
  refine g_entry hD (cc := cX1_wantsTask) (maxL := 2) (ret := (some .boolean)) (by decide +kernel) rfl (Nat.le_of_ble_eq_true rfl) ?_
  intro p e s m args below meth c ls B
  obtain ⟨S, hr, hlocks, h, hl⟩ := B
  have hx := S.1
  have hb := S.2.1
  have hts := S.2.2.2.2
  have in1 : ∀ w ∈ wsX10, w ∈ wsX1_wantsTask := by decide +kernel
  have in2 : ∀ w ∈ wsX20, w ∈ wsX1_wantsTask := by decide +kernel
  have in5 : ∀ w ∈ wsX50, w ∈ wsX1_wantsTask := by decide +kernel
  have hl : lv_has ls 2 [(0, .ref (L P)), (1, .ref (L w))] := hl
  refine lv_aload_n hx hb dX1_wantsTask_0 rfl (lv_at hl 1 rfl) ?_
  refine g_getN S h hw (by decide) rfl rfl in5 (k := 1) (by decide) (by decide +kernel) rfl dX1_wantsTask_1 ?_
  refine g_getN S h (gk9_3 hw) (by decide) rfl rfl in2 (k := 1) (by decide) (by decide +kernel) rfl dX1_wantsTask_4 ?_
  refine lv_if_eq (tgt := 35) hx hb dX1_wantsTask_7 (by decide) (fun c1 => ?_) (fun c1 => ?_)
  · refine lv_iconst (v := 1) hx hb dX1_wantsTask_35 (by decide) ?_
    refine lv_goto (tgt := 40) hx hb dX1_wantsTask_36 (by decide) ?_
    exact g_reti S h hr hlocks rfl (by first | (simp only [f_X1_wantsTask, if_pos c1]; done) | (simp only [f_X1_wantsTask, if_pos c1]; rfl) | rfl) rfl dX1_wantsTask_40
  · refine lv_aload_n hx hb dX1_wantsTask_10 rfl (lv_at hl 0 rfl) ?_
    refine g_get S h hP (by decide) rfl rfl in1 (k := 9) (by decide) (by decide +kernel) rfl dX1_wantsTask_11 ?_
    refine lv_iconst (v := 2) hx hb dX1_wantsTask_14 (by decide) ?_
    refine lv_icmp_ne (tgt := 39) hx hb dX1_wantsTask_15 (by decide) (fun c2 => ?_) (fun c2 => ?_)
    · refine lv_iconst (v := 0) hx hb dX1_wantsTask_39 (by decide) ?_
      exact g_reti S h hr hlocks rfl (by first | (simp only [f_X1_wantsTask, if_neg c1, if_neg c2]; done) | (simp only [f_X1_wantsTask, if_neg c1, if_neg c2]; rfl) | rfl) rfl dX1_wantsTask_40
    · refine lv_aload_n hx hb dX1_wantsTask_18 rfl (lv_at hl 0 rfl) ?_
      refine lv_aload_n hx hb dX1_wantsTask_19 rfl (lv_at hl 1 rfl) ?_
      refine g_getN S h hw (by decide) rfl rfl in5 (k := 1) (by decide) (by decide +kernel) rfl dX1_wantsTask_20 ?_
      refine g_calli S h (c_X2_last l D L cy X A _ (h.2.2.2.2 _) (gk9_3 hw)) (cwV 0 hts gX1_wantsTask_X2_last rfl rfl rfl (by decide +kernel) ⟨Nat.le_of_ble_eq_true rfl, Nat.le_of_ble_eq_true rfl⟩) (g_pre h (gk9_3 hw) (by decide) rfl rfl _) rfl hl.1 rfl (Nat.le_of_ble_eq_true rfl) dX1_wantsTask_23 ⟨Nat.zero_le _, Nat.zero_le _⟩ (fun H locs h => ?_)
      refine g_callr S h (c_X1_taskAt l D L cy X A _ (h.2.2.2.2 _) hP _) (cwV 1 hts gX1_wantsTask_X1_taskAt rfl rfl rfl (by decide +kernel) ⟨Nat.le_of_ble_eq_true rfl, Nat.le_of_ble_eq_true rfl⟩) (g_pre h hP (by decide) rfl rfl _) rfl hl.1 rfl (Nat.le_of_ble_eq_true rfl) dX1_wantsTask_26 ⟨Nat.zero_le _, Nat.zero_le _⟩ (fun H locs h => ?_)
      refine g_calli S h (c_X4_isBlocked l D L cy X A _ (h.2.2.2.2 _) (gk_tk hP _)) (cwV 0 hts gX1_wantsTask_X4_isBlocked rfl rfl rfl (by decide +kernel) ⟨Nat.le_of_ble_eq_true rfl, Nat.le_of_ble_eq_true rfl⟩) (g_pre h (gk_tk hP _) (by decide) rfl rfl _) rfl hl.1 rfl (Nat.le_of_ble_eq_true rfl) dX1_wantsTask_29 ⟨Nat.zero_le _, Nat.zero_le _⟩ (fun H locs h => ?_)
      refine lv_if_eq (tgt := 39) hx hb dX1_wantsTask_32 (by decide) (fun c3 => ?_) (fun c3 => ?_)
      · refine lv_iconst (v := 0) hx hb dX1_wantsTask_39 (by decide) ?_
        exact g_reti S h hr hlocks rfl (by first | (simp only [f_X1_wantsTask, if_neg c1, if_pos c2, if_pos c3]; done) | (simp only [f_X1_wantsTask, if_neg c1, if_pos c2, if_pos c3]; rfl) | rfl) rfl dX1_wantsTask_40
      · refine lv_iconst (v := 1) hx hb dX1_wantsTask_35 (by decide) ?_
        refine lv_goto (tgt := 40) hx hb dX1_wantsTask_36 (by decide) ?_
        exact g_reti S h hr hlocks rfl (by first | (simp only [f_X1_wantsTask, if_neg c1, if_pos c2, if_neg c3]; done) | (simp only [f_X1_wantsTask, if_neg c1, if_pos c2, if_neg c3]; rfl) | rfl) rfl dX1_wantsTask_40
set_option maxHeartbeats 8000000 in
set_option maxRecDepth 100000 in
/-- Pool.nextWithTasks(w) -/
theorem c_X1_nextWithTasks (l : Launch) (D : va_G) (L : Nat → Nat) (cy : Nat → ClassId) (X : va_W) (A : Nat → Prop) (st : gSt) (hD : va_D A (X ++ gW L cy st)) {P : Nat} (hP : gkd P = 5) (a : Int32)  : gMi l yX1_nextWithTasks wsX1_nextWithTasks { frames := 2, cells := 0, slots := 0, locals := 42 } D L cy X A [.ref (L P), .int a] st (f_X1_nextWithTasks st P a) st := by
  refine g_entry hD (cc := cX1_nextWithTasks) (maxL := 4) (ret := (some .int)) (by decide +kernel) rfl (Nat.le_of_ble_eq_true rfl) ?_
  intro p e s m args below meth c ls B
  obtain ⟨S, hr, hlocks, h, hl⟩ := B
  have hx := S.1
  have hb := S.2.1
  have hts := S.2.2.2.2
  have in1 : ∀ w ∈ wsX10, w ∈ wsX1_nextWithTasks := by decide +kernel
  have in2 : ∀ w ∈ wsX20, w ∈ wsX1_nextWithTasks := by decide +kernel
  have hl : lv_has ls 4 [(0, .ref (L P)), (1, .int a)] := hl
  refine lv_iconst (v := 1) hx hb dX1_nextWithTasks_0 (by decide) ?_
  refine lv_istore_n (lv' := [(2, .int 1), (0, .ref (L P)), (1, .int a)]) hx hb dX1_nextWithTasks_1 rfl hl (by decide) rfl (fun ls hl => ?_)
  have loopL1 : ∀ (nL1 : Nat) (st1 : gSt) (x : Int32), (((st1 P 6).toInt - x.toInt).toNat < nL1) → ∀ (H : Heap) (locs : List Loc) (ls : Array Slot), gH D L cy X A st1 s H locs → lv_has ls 4 [(2, .int x), (0, .ref (L P)), (1, .int a)] → W p l e { frames := 2, cells := 0, slots := 0, locals := 42 } s m args below meth c H locs 0 0 (MQ below (va_Qi (fun (zq : Int32) (_ : Unit) => zq = (f_X1_nextWithTasks_L1 P a nL1 st1 x)) (fun _ zt => va_P D vwCl (X ++ gW L cy st1) zt.heap) A) args s 0 0 A) (F0 m 2 ls []) := by
    intro nL1
    induction nL1 with
    | zero => intros; omega
    | succ nL1 ihL1 =>
      intro st1 x hn H locs ls h hl
      refine lv_iload_n hx hb dX1_nextWithTasks_2 rfl (lv_at hl 0 rfl) ?_
      refine lv_aload_n hx hb dX1_nextWithTasks_3 rfl (lv_at hl 1 rfl) ?_
      refine g_get S h hP (by decide) rfl rfl in1 (k := 6) (by decide) (by decide +kernel) rfl dX1_nextWithTasks_4 ?_
      refine lv_icmp_ge (tgt := 54) hx hb dX1_nextWithTasks_7 (by decide) (fun c1 => ?_) (fun c1 => ?_)
      · refine lv_bipush (v := (-2)) hx hb dX1_nextWithTasks_54 (by decide) ?_
        exact g_reti S h hr hlocks rfl (by first | (simp only [f_X1_nextWithTasks_L1, if_pos c1]; done) | (simp only [f_X1_nextWithTasks_L1, if_pos c1]; rfl) | rfl) rfl dX1_nextWithTasks_56
      · refine lv_iload_n hx hb dX1_nextWithTasks_10 rfl (lv_at hl 2 rfl) ?_
        refine lv_iload_n hx hb dX1_nextWithTasks_11 rfl (lv_at hl 0 rfl) ?_
        refine lv_iadd hx hb dX1_nextWithTasks_12 ?_
        refine lv_aload_n hx hb dX1_nextWithTasks_13 rfl (lv_at hl 1 rfl) ?_
        refine g_get S h hP (by decide) rfl rfl in1 (k := 6) (by decide) (by decide +kernel) rfl dX1_nextWithTasks_14 ?_
        refine lv_icmp_ge (tgt := 26) hx hb dX1_nextWithTasks_17 (by decide) (fun c2 => ?_) (fun c2 => ?_)
        · refine lv_iload_n hx hb dX1_nextWithTasks_26 rfl (lv_at hl 2 rfl) ?_
          refine lv_iload_n hx hb dX1_nextWithTasks_27 rfl (lv_at hl 0 rfl) ?_
          refine lv_iadd hx hb dX1_nextWithTasks_28 ?_
          refine lv_aload_n hx hb dX1_nextWithTasks_29 rfl (lv_at hl 1 rfl) ?_
          refine g_get S h hP (by decide) rfl rfl in1 (k := 6) (by decide) (by decide +kernel) rfl dX1_nextWithTasks_30 ?_
          refine lv_isub hx hb dX1_nextWithTasks_33 ?_
          refine lv_topi (fun x3 ex3 => ?_)
          refine lv_istore_n (lv' := [(3, .int x3), (2, .int x), (0, .ref (L P)), (1, .int a)]) hx hb dX1_nextWithTasks_34 rfl hl (by decide) rfl (fun ls hl => ?_)
          refine lv_aload_n hx hb dX1_nextWithTasks_35 rfl (lv_at hl 2 rfl) ?_
          refine lv_iload_n hx hb dX1_nextWithTasks_36 rfl (lv_at hl 0 rfl) ?_
          refine g_callr S h (c_X1_rowOf l D L cy X A _ (h.2.2.2.2 _) hP _) (cwV 1 hts gX1_nextWithTasks_X1_rowOf rfl rfl rfl (by decide +kernel) ⟨Nat.le_of_ble_eq_true rfl, Nat.le_of_ble_eq_true rfl⟩) (g_pre h hP (by decide) rfl rfl _) rfl hl.1 rfl (Nat.le_of_ble_eq_true rfl) dX1_nextWithTasks_37 ⟨Nat.zero_le _, Nat.zero_le _⟩ (fun H locs h => ?_)
          refine g_getN S h (gk_row hP _) (by decide) rfl rfl in2 (k := 1) (by decide) (by decide +kernel) rfl dX1_nextWithTasks_40 ?_
          refine lv_if_le (tgt := 48) hx hb dX1_nextWithTasks_43 (by decide) (fun c4 => ?_) (fun c4 => ?_)
          · obtain ⟨x5, ex5⟩ : ∃ zz : Int32, zz = x + 1 := ⟨_, rfl⟩
            refine lv_iinc (v := x5) (lv' := [(2, .int x5), (3, .int x3), (0, .ref (L P)), (1, .int a)]) hx hb dX1_nextWithTasks_48 hl (k := 1) rfl (by rw [ex5]; rfl) (by decide) rfl (fun ls hl => ?_)
            refine lv_goto (tgt := 2) hx hb dX1_nextWithTasks_51 (by decide) ?_
            exact g_cvi (by subst ex5 ex3; first | (simp only [f_X1_nextWithTasks_L1, if_neg c1, if_pos c2, if_pos c4]; done) | (simp only [f_X1_nextWithTasks_L1, if_neg c1, if_pos c2, if_pos c4]; rfl) | rfl) rfl (ihL1 _ x5 (Nat.lt_of_lt_of_le (g_ms ex5 c1) (Nat.le_of_lt_succ hn)) _ _ ls h (lv_sub hl [0, 2, 3] rfl))
          · refine lv_iload_n hx hb dX1_nextWithTasks_46 rfl (lv_at hl 0 rfl) ?_
            exact g_reti S h hr hlocks rfl (by subst ex3; first | (simp only [f_X1_nextWithTasks_L1, if_neg c1, if_pos c2, if_neg c4]; done) | (simp only [f_X1_nextWithTasks_L1, if_neg c1, if_pos c2, if_neg c4]; rfl) | rfl) rfl dX1_nextWithTasks_47
        · refine lv_iload_n hx hb dX1_nextWithTasks_20 rfl (lv_at hl 2 rfl) ?_
          refine lv_iload_n hx hb dX1_nextWithTasks_21 rfl (lv_at hl 0 rfl) ?_
          refine lv_iadd hx hb dX1_nextWithTasks_22 ?_
          refine lv_goto (tgt := 34) hx hb dX1_nextWithTasks_23 (by decide) ?_
          refine lv_topi (fun x6 ex6 => ?_)
          refine lv_istore_n (lv' := [(3, .int x6), (2, .int x), (0, .ref (L P)), (1, .int a)]) hx hb dX1_nextWithTasks_34 rfl hl (by decide) rfl (fun ls hl => ?_)
          refine lv_aload_n hx hb dX1_nextWithTasks_35 rfl (lv_at hl 2 rfl) ?_
          refine lv_iload_n hx hb dX1_nextWithTasks_36 rfl (lv_at hl 0 rfl) ?_
          refine g_callr S h (c_X1_rowOf l D L cy X A _ (h.2.2.2.2 _) hP _) (cwV 1 hts gX1_nextWithTasks_X1_rowOf rfl rfl rfl (by decide +kernel) ⟨Nat.le_of_ble_eq_true rfl, Nat.le_of_ble_eq_true rfl⟩) (g_pre h hP (by decide) rfl rfl _) rfl hl.1 rfl (Nat.le_of_ble_eq_true rfl) dX1_nextWithTasks_37 ⟨Nat.zero_le _, Nat.zero_le _⟩ (fun H locs h => ?_)
          refine g_getN S h (gk_row hP _) (by decide) rfl rfl in2 (k := 1) (by decide) (by decide +kernel) rfl dX1_nextWithTasks_40 ?_
          refine lv_if_le (tgt := 48) hx hb dX1_nextWithTasks_43 (by decide) (fun c7 => ?_) (fun c7 => ?_)
          · obtain ⟨x8, ex8⟩ : ∃ zz : Int32, zz = x + 1 := ⟨_, rfl⟩
            refine lv_iinc (v := x8) (lv' := [(2, .int x8), (3, .int x6), (0, .ref (L P)), (1, .int a)]) hx hb dX1_nextWithTasks_48 hl (k := 1) rfl (by rw [ex8]; rfl) (by decide) rfl (fun ls hl => ?_)
            refine lv_goto (tgt := 2) hx hb dX1_nextWithTasks_51 (by decide) ?_
            exact g_cvi (by subst ex8 ex6; first | (simp only [f_X1_nextWithTasks_L1, if_neg c1, if_neg c2, if_pos c7]; done) | (simp only [f_X1_nextWithTasks_L1, if_neg c1, if_neg c2, if_pos c7]; rfl) | rfl) rfl (ihL1 _ x8 (Nat.lt_of_lt_of_le (g_ms ex8 c1) (Nat.le_of_lt_succ hn)) _ _ ls h (lv_sub hl [0, 2, 3] rfl))
          · refine lv_iload_n hx hb dX1_nextWithTasks_46 rfl (lv_at hl 0 rfl) ?_
            exact g_reti S h hr hlocks rfl (by subst ex6; first | (simp only [f_X1_nextWithTasks_L1, if_neg c1, if_neg c2, if_neg c7]; done) | (simp only [f_X1_nextWithTasks_L1, if_neg c1, if_neg c2, if_neg c7]; rfl) | rfl) rfl dX1_nextWithTasks_47
  exact g_cvi (by first | (simp only [f_X1_nextWithTasks]; done) | (simp only [f_X1_nextWithTasks]; rfl) | rfl) rfl (loopL1 _ _ 1 (Nat.lt_add_one _) _ _ ls h (lv_sub hl [0, 1, 2] rfl))
set_option maxHeartbeats 8000000 in
set_option maxRecDepth 100000 in
/-- Pool.firstWithMostTasks() -/
theorem c_X1_firstWithMostTasks (l : Launch) (D : va_G) (L : Nat → Nat) (cy : Nat → ClassId) (X : va_W) (A : Nat → Prop) (st : gSt) (hD : va_D A (X ++ gW L cy st)) {P : Nat} (hP : gkd P = 5)  : gMi l yX1_firstWithMostTasks wsX1_firstWithMostTasks { frames := 2, cells := 0, slots := 0, locals := 42 } D L cy X A [.ref (L P)] st (f_X1_firstWithMostTasks st P) st := by
  refine g_entry hD (cc := cX1_firstWithMostTasks) (maxL := 5) (ret := (some .int)) (by decide +kernel) rfl (Nat.le_of_ble_eq_true rfl) ?_
  intro p e s m args below meth c ls B
  obtain ⟨S, hr, hlocks, h, hl⟩ := B
  have hx := S.1
  have hb := S.2.1
  have hts := S.2.2.2.2
  have in1 : ∀ w ∈ wsX10, w ∈ wsX1_firstWithMostTasks := by decide +kernel
  have in2 : ∀ w ∈ wsX20, w ∈ wsX1_firstWithMostTasks := by decide +kernel
  have hl : lv_has ls 5 [(0, .ref (L P))] := hl
  refine lv_bipush (v := (-2)) hx hb dX1_firstWithMostTasks_0 (by decide) ?_
  refine lv_istore_n (lv' := [(1, .int (-2)), (0, .ref (L P))]) hx hb dX1_firstWithMostTasks_2 rfl hl (by decide) rfl (fun ls hl => ?_)
  refine lv_iconst (v := 0) hx hb dX1_firstWithMostTasks_3 (by decide) ?_
  refine lv_istore_n (lv' := [(2, .int 0), (1, .int (-2)), (0, .ref (L P))]) hx hb dX1_firstWithMostTasks_4 rfl hl (by decide) rfl (fun ls hl => ?_)
  refine lv_iconst (v := 0) hx hb dX1_firstWithMostTasks_5 (by decide) ?_
  refine lv_istore_n (lv' := [(3, .int 0), (2, .int 0), (1, .int (-2)), (0, .ref (L P))]) hx hb dX1_firstWithMostTasks_6 rfl hl (by decide) rfl (fun ls hl => ?_)
  have loopL1 : ∀ (nL1 : Nat) (st1 : gSt) (y : Int32) (z : Int32) (x : Int32), (((st1 P 6).toInt - x.toInt).toNat < nL1) → ∀ (H : Heap) (locs : List Loc) (ls : Array Slot), gH D L cy X A st1 s H locs → lv_has ls 5 [(3, .int x), (2, .int z), (1, .int y), (0, .ref (L P))] → W p l e { frames := 2, cells := 0, slots := 0, locals := 42 } s m args below meth c H locs 0 0 (MQ below (va_Qi (fun (zq : Int32) (_ : Unit) => zq = (f_X1_firstWithMostTasks_L1 P nL1 st1 y z x)) (fun _ zt => va_P D vwCl (X ++ gW L cy st1) zt.heap) A) args s 0 0 A) (F0 m 7 ls []) := by
    intro nL1
    induction nL1 with
    | zero => intros; omega
    | succ nL1 ihL1 =>
      intro st1 y z x hn H locs ls h hl
      refine lv_iload_n hx hb dX1_firstWithMostTasks_7 rfl (lv_at hl 0 rfl) ?_
      refine lv_aload_n hx hb dX1_firstWithMostTasks_8 rfl (lv_at hl 3 rfl) ?_
      refine g_get S h hP (by decide) rfl rfl in1 (k := 6) (by decide) (by decide +kernel) rfl dX1_firstWithMostTasks_9 ?_
      refine lv_icmp_ge (tgt := 42) hx hb dX1_firstWithMostTasks_12 (by decide) (fun c1 => ?_) (fun c1 => ?_)
      · refine lv_iload_n hx hb dX1_firstWithMostTasks_42 rfl (lv_at hl 2 rfl) ?_
        exact g_reti S h hr hlocks rfl (by first | (simp only [f_X1_firstWithMostTasks_L1, if_pos c1]; done) | (simp only [f_X1_firstWithMostTasks_L1, if_pos c1]; rfl) | rfl) rfl dX1_firstWithMostTasks_43
      · refine lv_aload_n hx hb dX1_firstWithMostTasks_15 rfl (lv_at hl 3 rfl) ?_
        refine lv_iload_n hx hb dX1_firstWithMostTasks_16 rfl (lv_at hl 0 rfl) ?_
        refine g_callr S h (c_X1_rowOf l D L cy X A _ (h.2.2.2.2 _) hP _) (cwV 1 hts gX1_firstWithMostTasks_X1_rowOf rfl rfl rfl (by decide +kernel) ⟨Nat.le_of_ble_eq_true rfl, Nat.le_of_ble_eq_true rfl⟩) (g_pre h hP (by decide) rfl rfl _) rfl hl.1 rfl (Nat.le_of_ble_eq_true rfl) dX1_firstWithMostTasks_17 ⟨Nat.zero_le _, Nat.zero_le _⟩ (fun H locs h => ?_)
        refine g_getN S h (gk_row hP _) (by decide) rfl rfl in2 (k := 1) (by decide) (by decide +kernel) rfl dX1_firstWithMostTasks_20 ?_
        refine lv_topi (fun x2 ex2 => ?_)
        refine lv_istore (lv' := [(4, .int x2), (3, .int x), (2, .int z), (1, .int y), (0, .ref (L P))]) hx hb dX1_firstWithMostTasks_23 hl (by decide) rfl (fun ls hl => ?_)
        refine lv_iload hx hb dX1_firstWithMostTasks_25 (lv_at hl 0 rfl) ?_
        refine lv_iload_n hx hb dX1_firstWithMostTasks_27 rfl (lv_at hl 2 rfl) ?_
        refine lv_icmp_le (tgt := 36) hx hb dX1_firstWithMostTasks_28 (by decide) (fun c3 => ?_) (fun c3 => ?_)
        · obtain ⟨x4, ex4⟩ : ∃ zz : Int32, zz = x + 1 := ⟨_, rfl⟩
          refine lv_iinc (v := x4) (lv' := [(3, .int x4), (4, .int x2), (2, .int z), (1, .int y), (0, .ref (L P))]) hx hb dX1_firstWithMostTasks_36 hl (k := 1) rfl (by rw [ex4]; rfl) (by decide) rfl (fun ls hl => ?_)
          refine lv_goto (tgt := 7) hx hb dX1_firstWithMostTasks_39 (by decide) ?_
          exact g_cvi (by subst ex4 ex2; first | (simp only [f_X1_firstWithMostTasks_L1, if_neg c1, if_pos c3]; done) | (simp only [f_X1_firstWithMostTasks_L1, if_neg c1, if_pos c3]; rfl) | rfl) rfl (ihL1 _ y z x4 (Nat.lt_of_lt_of_le (g_ms ex4 c1) (Nat.le_of_lt_succ hn)) _ _ ls h (lv_sub hl [0, 2, 3, 4] rfl))
        · refine lv_iload hx hb dX1_firstWithMostTasks_31 (lv_at hl 0 rfl) ?_
          refine lv_istore_n (lv' := [(2, .int x2), (4, .int x2), (3, .int x), (1, .int y), (0, .ref (L P))]) hx hb dX1_firstWithMostTasks_33 rfl hl (by decide) rfl (fun ls hl => ?_)
          refine lv_iload_n hx hb dX1_firstWithMostTasks_34 rfl (lv_at hl 2 rfl) ?_
          refine lv_istore_n (lv' := [(1, .int x), (2, .int x2), (4, .int x2), (3, .int x), (0, .ref (L P))]) hx hb dX1_firstWithMostTasks_35 rfl hl (by decide) rfl (fun ls hl => ?_)
          obtain ⟨x5, ex5⟩ : ∃ zz : Int32, zz = x + 1 := ⟨_, rfl⟩
          refine lv_iinc (v := x5) (lv' := [(3, .int x5), (1, .int x), (2, .int x2), (4, .int x2), (0, .ref (L P))]) hx hb dX1_firstWithMostTasks_36 hl (k := 3) rfl (by rw [ex5]; rfl) (by decide) rfl (fun ls hl => ?_)
          refine lv_goto (tgt := 7) hx hb dX1_firstWithMostTasks_39 (by decide) ?_
          exact g_cvi (by subst ex5 ex2; first | (simp only [f_X1_firstWithMostTasks_L1, if_neg c1, if_neg c3]; done) | (simp only [f_X1_firstWithMostTasks_L1, if_neg c1, if_neg c3]; rfl) | rfl) rfl (ihL1 _ x x2 x5 (Nat.lt_of_lt_of_le (g_ms ex5 c1) (Nat.le_of_lt_succ hn)) _ _ ls h (lv_sub hl [0, 2, 1, 4] rfl))
  exact g_cvi (by first | (simp only [f_X1_firstWithMostTasks]; done) | (simp only [f_X1_firstWithMostTasks]; rfl) | rfl) rfl (loopL1 _ _ (-2) 0 0 (Nat.lt_add_one _) _ _ ls h (lv_sub hl [0, 1, 2, 3] rfl))
set_option maxHeartbeats 8000000 in
set_option maxRecDepth 100000 in
/-- Pool.sourceFor(w) -/
theorem c_X1_sourceFor (l : Launch) (D : va_G) (L : Nat → Nat) (cy : Nat → ClassId) (X : va_W) (A : Nat → Prop) (st : gSt) (hD : va_D A (X ++ gW L cy st)) {P : Nat} (hP : gkd P = 5) (a : Int32)  : gMi l yX1_sourceFor wsX1_sourceFor { frames := 3, cells := 0, slots := 0, locals := 66 } D L cy X A [.ref (L P), .int a] st (f_X1_sourceFor st P a) st := by
  refine g_entry hD (cc := cX1_sourceFor) (maxL := 2) (ret := (some .int)) (by decide +kernel) rfl (Nat.le_of_ble_eq_true rfl) ?_
  intro p e s m args below meth c ls B
  obtain ⟨S, hr, hlocks, h, hl⟩ := B
  have hx := S.1
  have hb := S.2.1
  have hts := S.2.2.2.2
  have in1 : ∀ w ∈ wsX10, w ∈ wsX1_sourceFor := by decide +kernel
  have in2 : ∀ w ∈ wsX20, w ∈ wsX1_sourceFor := by decide +kernel
  have hl : lv_has ls 2 [(0, .ref (L P)), (1, .int a)] := hl
  refine lv_aload_n hx hb dX1_sourceFor_0 rfl (lv_at hl 0 rfl) ?_
  refine lv_iload_n hx hb dX1_sourceFor_1 rfl (lv_at hl 1 rfl) ?_
  refine g_callr S h (c_X1_rowOf l D L cy X A _ (h.2.2.2.2 _) hP _) (cwV 1 hts gX1_sourceFor_X1_rowOf rfl rfl rfl (by decide +kernel) ⟨Nat.le_of_ble_eq_true rfl, Nat.le_of_ble_eq_true rfl⟩) (g_pre h hP (by decide) rfl rfl _) rfl hl.1 rfl (Nat.le_of_ble_eq_true rfl) dX1_sourceFor_2 ⟨Nat.zero_le _, Nat.zero_le _⟩ (fun H locs h => ?_)
  refine g_getN S h (gk_row hP _) (by decide) rfl rfl in2 (k := 1) (by decide) (by decide +kernel) rfl dX1_sourceFor_5 ?_
  refine lv_if_le (tgt := 13) hx hb dX1_sourceFor_8 (by decide) (fun c1 => ?_) (fun c1 => ?_)
  · refine lv_aload_n hx hb dX1_sourceFor_13 rfl (lv_at hl 0 rfl) ?_
    refine g_get S h hP (by decide) rfl rfl in1 (k := 7) (by decide) (by decide +kernel) rfl dX1_sourceFor_14 ?_
    refine g_getN S h (gk5_10 hP) (by decide) rfl rfl in2 (k := 1) (by decide) (by decide +kernel) rfl dX1_sourceFor_17 ?_
    refine lv_if_le (tgt := 25) hx hb dX1_sourceFor_20 (by decide) (fun c2 => ?_) (fun c2 => ?_)
    · refine lv_aload_n hx hb dX1_sourceFor_25 rfl (lv_at hl 0 rfl) ?_
      refine g_get S h hP (by decide) rfl rfl in1 (k := 10) (by decide) (by decide +kernel) rfl dX1_sourceFor_26 ?_
      refine lv_if_ne (tgt := 38) hx hb dX1_sourceFor_29 (by decide) (fun c3 => ?_) (fun c3 => ?_)
      · refine lv_aload_n hx hb dX1_sourceFor_38 rfl (lv_at hl 0 rfl) ?_
        refine g_get S h hP (by decide) rfl rfl in1 (k := 10) (by decide) (by decide +kernel) rfl dX1_sourceFor_39 ?_
        refine lv_iconst (v := 1) hx hb dX1_sourceFor_42 (by decide) ?_
        refine lv_icmp_ne (tgt := 53) hx hb dX1_sourceFor_43 (by decide) (fun c4 => ?_) (fun c4 => ?_)
        · refine lv_bipush (v := (-2)) hx hb dX1_sourceFor_53 (by decide) ?_
          exact g_reti S h hr hlocks rfl (by first | (simp only [f_X1_sourceFor, if_pos c1, if_pos c2, if_neg c3, if_neg c4]; done) | (simp only [f_X1_sourceFor, if_pos c1, if_pos c2, if_neg c3, if_neg c4]; rfl) | rfl) rfl dX1_sourceFor_55
        · refine lv_aload_n hx hb dX1_sourceFor_46 rfl (lv_at hl 0 rfl) ?_
          refine g_calli S h (c_X1_firstWithMostTasks l D L cy X A _ (h.2.2.2.2 _) hP) (cwV 0 hts gX1_sourceFor_X1_firstWithMostTasks rfl rfl rfl (by decide +kernel) ⟨Nat.le_of_ble_eq_true rfl, Nat.le_of_ble_eq_true rfl⟩) (g_pre h hP (by decide) rfl rfl _) rfl hl.1 rfl (Nat.le_of_ble_eq_true rfl) dX1_sourceFor_47 ⟨Nat.zero_le _, Nat.zero_le _⟩ (fun H locs h => ?_)
          refine lv_goto (tgt := 55) hx hb dX1_sourceFor_50 (by decide) ?_
          exact g_reti S h hr hlocks rfl (by first | (simp only [f_X1_sourceFor, if_pos c1, if_pos c2, if_neg c3, if_pos c4]; done) | (simp only [f_X1_sourceFor, if_pos c1, if_pos c2, if_neg c3, if_pos c4]; rfl) | rfl) rfl dX1_sourceFor_55
      · refine lv_aload_n hx hb dX1_sourceFor_32 rfl (lv_at hl 0 rfl) ?_
        refine lv_iload_n hx hb dX1_sourceFor_33 rfl (lv_at hl 1 rfl) ?_
        refine g_calli S h (c_X1_nextWithTasks l D L cy X A _ (h.2.2.2.2 _) hP _) (cwV 1 hts gX1_sourceFor_X1_nextWithTasks rfl rfl rfl (by decide +kernel) ⟨Nat.le_of_ble_eq_true rfl, Nat.le_of_ble_eq_true rfl⟩) (g_pre h hP (by decide) rfl rfl _) rfl hl.1 rfl (Nat.le_of_ble_eq_true rfl) dX1_sourceFor_34 ⟨Nat.zero_le _, Nat.zero_le _⟩ (fun H locs h => ?_)
        exact g_reti S h hr hlocks rfl (by first | (simp only [f_X1_sourceFor, if_pos c1, if_pos c2, if_pos c3]; done) | (simp only [f_X1_sourceFor, if_pos c1, if_pos c2, if_pos c3]; rfl) | rfl) rfl dX1_sourceFor_37
    · refine lv_iconst (v := (-1)) hx hb dX1_sourceFor_23 (by decide) ?_
      exact g_reti S h hr hlocks rfl (by first | (simp only [f_X1_sourceFor, if_pos c1, if_neg c2]; done) | (simp only [f_X1_sourceFor, if_pos c1, if_neg c2]; rfl) | rfl) rfl dX1_sourceFor_24
  · refine lv_iload_n hx hb dX1_sourceFor_11 rfl (lv_at hl 1 rfl) ?_
    exact g_reti S h hr hlocks rfl (by first | (simp only [f_X1_sourceFor, if_neg c1]; done) | (simp only [f_X1_sourceFor, if_neg c1]; rfl) | rfl) rfl dX1_sourceFor_12
set_option maxHeartbeats 8000000 in
set_option maxRecDepth 100000 in
/-- Pool.wouldAct(w) -/
theorem c_X1_wouldAct (l : Launch) (D : va_G) (L : Nat → Nat) (cy : Nat → ClassId) (X : va_W) (A : Nat → Prop) (st : gSt) (hD : va_D A (X ++ gW L cy st)) {P : Nat} (hP : gkd P = 5) (a : Int32)  : gMi l yX1_wouldAct wsX1_wouldAct { frames := 4, cells := 0, slots := 0, locals := 87 } D L cy X A [.ref (L P), .int a] st (f_X1_wouldAct st P a) st := by
  refine g_entry hD (cc := cX1_wouldAct) (maxL := 3) (ret := (some .boolean)) (by decide +kernel) rfl (Nat.le_of_ble_eq_true rfl) ?_
  intro p e s m args below meth c ls B
  obtain ⟨S, hr, hlocks, h, hl⟩ := B
  have hx := S.1
  have hb := S.2.1
  have hts := S.2.2.2.2
  have in5 : ∀ w ∈ wsX50, w ∈ wsX1_wouldAct := by decide +kernel
  have hl : lv_has ls 3 [(0, .ref (L P)), (1, .int a)] := hl
  refine lv_aload_n hx hb dX1_wouldAct_0 rfl (lv_at hl 0 rfl) ?_
  refine lv_iload_n hx hb dX1_wouldAct_1 rfl (lv_at hl 1 rfl) ?_
  refine g_callr S h (c_X1_workerAt l D L cy X A _ (h.2.2.2.2 _) hP _) (cwV 1 hts gX1_wouldAct_X1_workerAt rfl rfl rfl (by decide +kernel) ⟨Nat.le_of_ble_eq_true rfl, Nat.le_of_ble_eq_true rfl⟩) (g_pre h hP (by decide) rfl rfl _) rfl hl.1 rfl (Nat.le_of_ble_eq_true rfl) dX1_wouldAct_2 ⟨Nat.zero_le _, Nat.zero_le _⟩ (fun H locs h => ?_)
  refine g_topr (fun i1 ei1 => ?_)
  have hki1 : gkd i1 = 9 := by rw [ei1]; exact (gk_wk hP _)
  refine lv_astore_n (lv' := [(2, .ref (L i1)), (0, .ref (L P)), (1, .int a)]) hx hb dX1_wouldAct_5 rfl hl (by decide) rfl (fun ls hl => ?_)
  refine lv_aload_n hx hb dX1_wouldAct_6 rfl (lv_at hl 1 rfl) ?_
  refine lv_aload_n hx hb dX1_wouldAct_7 rfl (lv_at hl 0 rfl) ?_
  refine g_calli S h (c_X1_wantsTask l D L cy X A _ (h.2.2.2.2 _) hP hki1) (cwV 1 hts gX1_wouldAct_X1_wantsTask rfl rfl rfl (by decide +kernel) ⟨Nat.le_of_ble_eq_true rfl, Nat.le_of_ble_eq_true rfl⟩) (g_pre h hP (by decide) rfl rfl _) rfl hl.1 rfl (Nat.le_of_ble_eq_true rfl) dX1_wouldAct_8 ⟨Nat.zero_le _, Nat.zero_le _⟩ (fun H locs h => ?_)
  refine lv_if_eq (tgt := 30) hx hb dX1_wouldAct_11 (by decide) (fun c2 => ?_) (fun c2 => ?_)
  · refine lv_aload_n hx hb dX1_wouldAct_30 rfl (lv_at hl 1 rfl) ?_
    refine lv_aload_n hx hb dX1_wouldAct_31 rfl (lv_at hl 0 rfl) ?_
    refine g_getN S h hki1 (by decide) rfl rfl in5 (k := 1) (by decide) (by decide +kernel) rfl dX1_wouldAct_32 ?_
    refine g_calli S h (c_X2_last l D L cy X A _ (h.2.2.2.2 _) (gk9_3 hki1)) (cwV 0 hts gX1_wouldAct_X2_last rfl rfl rfl (by decide +kernel) ⟨Nat.le_of_ble_eq_true rfl, Nat.le_of_ble_eq_true rfl⟩) (g_pre h (gk9_3 hki1) (by decide) rfl rfl _) rfl hl.1 rfl (Nat.le_of_ble_eq_true rfl) dX1_wouldAct_35 ⟨Nat.zero_le _, Nat.zero_le _⟩ (fun H locs h => ?_)
    refine g_callr S h (c_X1_taskAt l D L cy X A _ (h.2.2.2.2 _) hP _) (cwV 1 hts gX1_wouldAct_X1_taskAt rfl rfl rfl (by decide +kernel) ⟨Nat.le_of_ble_eq_true rfl, Nat.le_of_ble_eq_true rfl⟩) (g_pre h hP (by decide) rfl rfl _) rfl hl.1 rfl (Nat.le_of_ble_eq_true rfl) dX1_wouldAct_38 ⟨Nat.zero_le _, Nat.zero_le _⟩ (fun H locs h => ?_)
    refine g_calli S h (c_X4_isBlocked l D L cy X A _ (h.2.2.2.2 _) (gk_tk hP _)) (cwV 0 hts gX1_wouldAct_X4_isBlocked rfl rfl rfl (by decide +kernel) ⟨Nat.le_of_ble_eq_true rfl, Nat.le_of_ble_eq_true rfl⟩) (g_pre h (gk_tk hP _) (by decide) rfl rfl _) rfl hl.1 rfl (Nat.le_of_ble_eq_true rfl) dX1_wouldAct_41 ⟨Nat.zero_le _, Nat.zero_le _⟩ (fun H locs h => ?_)
    refine lv_if_ne (tgt := 51) hx hb dX1_wouldAct_44 (by decide) (fun c3 => ?_) (fun c3 => ?_)
    · refine lv_iconst (v := 0) hx hb dX1_wouldAct_51 (by decide) ?_
      exact g_reti S h hr hlocks rfl (by subst ei1; first | (simp only [f_X1_wouldAct, if_pos c2, if_neg c3]; done) | (simp only [f_X1_wouldAct, if_pos c2, if_neg c3]; rfl) | rfl) rfl dX1_wouldAct_52
    · refine lv_iconst (v := 1) hx hb dX1_wouldAct_47 (by decide) ?_
      refine lv_goto (tgt := 52) hx hb dX1_wouldAct_48 (by decide) ?_
      exact g_reti S h hr hlocks rfl (by subst ei1; first | (simp only [f_X1_wouldAct, if_pos c2, if_pos c3]; done) | (simp only [f_X1_wouldAct, if_pos c2, if_pos c3]; rfl) | rfl) rfl dX1_wouldAct_52
  · refine lv_aload_n hx hb dX1_wouldAct_14 rfl (lv_at hl 1 rfl) ?_
    refine lv_iload_n hx hb dX1_wouldAct_15 rfl (lv_at hl 2 rfl) ?_
    refine g_calli S h (c_X1_sourceFor l D L cy X A _ (h.2.2.2.2 _) hP _) (cwV 1 hts gX1_wouldAct_X1_sourceFor rfl rfl rfl (by decide +kernel) ⟨Nat.le_of_ble_eq_true rfl, Nat.le_of_ble_eq_true rfl⟩) (g_pre h hP (by decide) rfl rfl _) rfl hl.1 rfl (Nat.le_of_ble_eq_true rfl) dX1_wouldAct_16 ⟨Nat.zero_le _, Nat.zero_le _⟩ (fun H locs h => ?_)
    refine lv_bipush (v := (-2)) hx hb dX1_wouldAct_19 (by decide) ?_
    refine lv_icmp_eq (tgt := 28) hx hb dX1_wouldAct_21 (by decide) (fun c4 => ?_) (fun c4 => ?_)
    · refine lv_iconst (v := 0) hx hb dX1_wouldAct_28 (by decide) ?_
      exact g_reti S h hr hlocks rfl (by subst ei1; first | (simp only [f_X1_wouldAct, if_neg c2, if_pos c4]; done) | (simp only [f_X1_wouldAct, if_neg c2, if_pos c4]; rfl) | rfl) rfl dX1_wouldAct_29
    · refine lv_iconst (v := 1) hx hb dX1_wouldAct_24 (by decide) ?_
      refine lv_goto (tgt := 29) hx hb dX1_wouldAct_25 (by decide) ?_
      exact g_reti S h hr hlocks rfl (by subst ei1; first | (simp only [f_X1_wouldAct, if_neg c2, if_neg c4]; done) | (simp only [f_X1_wouldAct, if_neg c2, if_neg c4]; rfl) | rfl) rfl dX1_wouldAct_29
set_option maxHeartbeats 8000000 in
set_option maxRecDepth 100000 in
/-- Pool.isHalted() -/
theorem c_X1_isHalted (l : Launch) (D : va_G) (L : Nat → Nat) (cy : Nat → ClassId) (X : va_W) (A : Nat → Prop) (st : gSt) (hD : va_D A (X ++ gW L cy st)) {P : Nat} (hP : gkd P = 5)  : gMi l yX1_isHalted wsX1_isHalted { frames := 5, cells := 0, slots := 0, locals := 109 } D L cy X A [.ref (L P)] st (f_X1_isHalted st P) st := by
  refine g_entry hD (cc := cX1_isHalted) (maxL := 2) (ret := (some .boolean)) (by decide +kernel) rfl (Nat.le_of_ble_eq_true rfl) ?_
  intro p e s m args below meth c ls B
  obtain ⟨S, hr, hlocks, h, hl⟩ := B
  have hx := S.1
  have hb := S.2.1
  have hts := S.2.2.2.2
  have in1 : ∀ w ∈ wsX10, w ∈ wsX1_isHalted := by decide +kernel
  have hl : lv_has ls 2 [(0, .ref (L P))] := hl
  refine lv_aload_n hx hb dX1_isHalted_0 rfl (lv_at hl 0 rfl) ?_
  refine g_calli S h (c_X1_countUnfinished l D L cy X A _ (h.2.2.2.2 _) hP) (cwV 0 hts gX1_isHalted_X1_countUnfinished rfl rfl rfl (by decide +kernel) ⟨Nat.le_of_ble_eq_true rfl, Nat.le_of_ble_eq_true rfl⟩) (g_pre h hP (by decide) rfl rfl _) rfl hl.1 rfl (Nat.le_of_ble_eq_true rfl) dX1_isHalted_1 ⟨Nat.zero_le _, Nat.zero_le _⟩ (fun H locs h => ?_)
  refine lv_if_ne (tgt := 9) hx hb dX1_isHalted_4 (by decide) (fun c1 => ?_) (fun c1 => ?_)
  · refine lv_iconst (v := 0) hx hb dX1_isHalted_9 (by decide) ?_
    refine lv_istore_n (lv' := [(1, .int 0), (0, .ref (L P))]) hx hb dX1_isHalted_10 rfl hl (by decide) rfl (fun ls hl => ?_)
    have loopL1 : ∀ (nL1 : Nat) (st1 : gSt) (x : Int32), (((st1 P 6).toInt - x.toInt).toNat < nL1) → ∀ (H : Heap) (locs : List Loc) (ls : Array Slot), gH D L cy X A st1 s H locs → lv_has ls 2 [(1, .int x), (0, .ref (L P))] → W p l e { frames := 5, cells := 0, slots := 0, locals := 109 } s m args below meth c H locs 0 0 (MQ below (va_Qi (fun (zq : Int32) (_ : Unit) => zq = (f_X1_isHalted_L1 P nL1 st1 x)) (fun _ zt => va_P D vwCl (X ++ gW L cy st1) zt.heap) A) args s 0 0 A) (F0 m 11 ls []) := by
      intro nL1
      induction nL1 with
      | zero => intros; omega
      | succ nL1 ihL1 =>
        intro st1 x hn H locs ls h hl
        refine lv_iload_n hx hb dX1_isHalted_11 rfl (lv_at hl 0 rfl) ?_
        refine lv_aload_n hx hb dX1_isHalted_12 rfl (lv_at hl 1 rfl) ?_
        refine g_get S h hP (by decide) rfl rfl in1 (k := 6) (by decide) (by decide +kernel) rfl dX1_isHalted_13 ?_
        refine lv_icmp_ge (tgt := 35) hx hb dX1_isHalted_16 (by decide) (fun c2 => ?_) (fun c2 => ?_)
        · refine lv_iconst (v := 1) hx hb dX1_isHalted_35 (by decide) ?_
          exact g_reti S h hr hlocks rfl (by first | (simp only [f_X1_isHalted_L1, if_pos c2]; done) | (simp only [f_X1_isHalted_L1, if_pos c2]; rfl) | rfl) rfl dX1_isHalted_36
        · refine lv_aload_n hx hb dX1_isHalted_19 rfl (lv_at hl 1 rfl) ?_
          refine lv_iload_n hx hb dX1_isHalted_20 rfl (lv_at hl 0 rfl) ?_
          refine g_calli S h (c_X1_wouldAct l D L cy X A _ (h.2.2.2.2 _) hP _) (cwV 1 hts gX1_isHalted_X1_wouldAct rfl rfl rfl (by decide +kernel) ⟨Nat.le_of_ble_eq_true rfl, Nat.le_of_ble_eq_true rfl⟩) (g_pre h hP (by decide) rfl rfl _) rfl hl.1 rfl (Nat.le_of_ble_eq_true rfl) dX1_isHalted_21 ⟨Nat.zero_le _, Nat.zero_le _⟩ (fun H locs h => ?_)
          refine lv_if_eq (tgt := 29) hx hb dX1_isHalted_24 (by decide) (fun c3 => ?_) (fun c3 => ?_)
          · obtain ⟨x4, ex4⟩ : ∃ zz : Int32, zz = x + 1 := ⟨_, rfl⟩
            refine lv_iinc (v := x4) (lv' := [(1, .int x4), (0, .ref (L P))]) hx hb dX1_isHalted_29 hl (k := 0) rfl (by rw [ex4]; rfl) (by decide) rfl (fun ls hl => ?_)
            refine lv_goto (tgt := 11) hx hb dX1_isHalted_32 (by decide) ?_
            exact g_cvi (by subst ex4; first | (simp only [f_X1_isHalted_L1, if_neg c2, if_pos c3]; done) | (simp only [f_X1_isHalted_L1, if_neg c2, if_pos c3]; rfl) | rfl) rfl (ihL1 _ x4 (Nat.lt_of_lt_of_le (g_ms ex4 c2) (Nat.le_of_lt_succ hn)) _ _ ls h (lv_sub hl [0, 1] rfl))
          · refine lv_iconst (v := 0) hx hb dX1_isHalted_27 (by decide) ?_
            exact g_reti S h hr hlocks rfl (by first | (simp only [f_X1_isHalted_L1, if_neg c2, if_neg c3]; done) | (simp only [f_X1_isHalted_L1, if_neg c2, if_neg c3]; rfl) | rfl) rfl dX1_isHalted_28
    exact g_cvi (by first | (simp only [f_X1_isHalted, if_neg c1]; done) | (simp only [f_X1_isHalted, if_neg c1]; rfl) | rfl) rfl (loopL1 _ _ 0 (Nat.lt_add_one _) _ _ ls h (lv_sub hl [0, 1] rfl))
  · refine lv_iconst (v := 0) hx hb dX1_isHalted_7 (by decide) ?_
    exact g_reti S h hr hlocks rfl (by first | (simp only [f_X1_isHalted, if_pos c1]; done) | (simp only [f_X1_isHalted, if_pos c1]; rfl) | rfl) rfl dX1_isHalted_8
