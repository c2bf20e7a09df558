set_option maxHeartbeats 4000000 in
set_option maxRecDepth 100000 in
/-- isIn: yes -/
theorem k_isIn1 (l : Launch) (D : va_G) (E : rEn) (cy : rC) (X : va_W) (A : Nat → Prop) (v lo hi : Int32) (h0 : ¬ v < lo) (h1 : ¬ hi < v) : rMi l yX10_isIn wsX10_isIn { frames := 0, cells := 0, slots := 0, locals := 0 } D E cy X [] A [.int v, .int lo, .int hi] 1 (fun (_ : Unit) => []) (fun _ => True) 0 0 := by
  refine r_entry (cc := cX10_isIn) (maxL := 3) (ret := (some .boolean)) (by decide +kernel) rfl (Nat.le_of_ble_eq_true rfl) ?_
  intro p e s m args below meth c ls B
  obtain ⟨S, hr, hlocks, hmi, h, hl⟩ := B
  have hx := S.1
  have hb := S.2.1
  have hts := S.2.2.2.2
  have hl : lv_has ls 3 [(0, .int v), (1, .int lo), (2, .int hi)] := hl
  refine lv_iload_n hx hb dX10_isIn_0 rfl (lv_at hl 0 rfl) ?_
  refine lv_iload_n hx hb dX10_isIn_1 rfl (lv_at hl 1 rfl) ?_
  refine lv_icmp_lt (tgt := 14) hx hb dX10_isIn_2 (by decide) (fun c1 => absurd c1 h0) (fun c1 => ?_)
  refine lv_iload_n hx hb dX10_isIn_5 rfl (lv_at hl 0 rfl) ?_
  refine lv_iload_n hx hb dX10_isIn_6 rfl (lv_at hl 2 rfl) ?_
  refine lv_icmp_gt (tgt := 14) hx hb dX10_isIn_7 (by decide) (fun c2 => absurd c2 h1) (fun c2 => ?_)
  refine lv_iconst (v := 1) hx hb dX10_isIn_10 (by decide) ?_
  refine lv_goto (tgt := 15) hx hb dX10_isIn_11 (by decide) ?_
  exact r_reti S h () rfl trivial hr hlocks rfl (rfl) ⟨Nat.le_of_ble_eq_true rfl, Nat.le_of_ble_eq_true rfl⟩ dX10_isIn_15
set_option maxHeartbeats 4000000 in
set_option maxRecDepth 100000 in
/-- isIn: too small -/
theorem k_isIn0a (l : Launch) (D : va_G) (E : rEn) (cy : rC) (X : va_W) (A : Nat → Prop) (v lo hi : Int32) (h0 : v < lo) : rMi l yX10_isIn wsX10_isIn { frames := 0, cells := 0, slots := 0, locals := 0 } D E cy X [] A [.int v, .int lo, .int hi] 0 (fun (_ : Unit) => []) (fun _ => True) 0 0 := by
  refine r_entry (cc := cX10_isIn) (maxL := 3) (ret := (some .boolean)) (by decide +kernel) rfl (Nat.le_of_ble_eq_true rfl) ?_
  intro p e s m args below meth c ls B
  obtain ⟨S, hr, hlocks, hmi, h, hl⟩ := B
  have hx := S.1
  have hb := S.2.1
  have hts := S.2.2.2.2
  have hl : lv_has ls 3 [(0, .int v), (1, .int lo), (2, .int hi)] := hl
  refine lv_iload_n hx hb dX10_isIn_0 rfl (lv_at hl 0 rfl) ?_
  refine lv_iload_n hx hb dX10_isIn_1 rfl (lv_at hl 1 rfl) ?_
  refine lv_icmp_lt (tgt := 14) hx hb dX10_isIn_2 (by decide) (fun c1 => ?_) (fun c1 => absurd h0 c1)
  refine lv_iconst (v := 0) hx hb dX10_isIn_14 (by decide) ?_
  exact r_reti S h () rfl trivial hr hlocks rfl (rfl) ⟨Nat.le_of_ble_eq_true rfl, Nat.le_of_ble_eq_true rfl⟩ dX10_isIn_15
set_option maxHeartbeats 4000000 in
set_option maxRecDepth 100000 in
/-- isIn: too great -/
theorem k_isIn0b (l : Launch) (D : va_G) (E : rEn) (cy : rC) (X : va_W) (A : Nat → Prop) (v lo hi : Int32) (h0 : ¬ v < lo) (h1 : hi < v) : rMi l yX10_isIn wsX10_isIn { frames := 0, cells := 0, slots := 0, locals := 0 } D E cy X [] A [.int v, .int lo, .int hi] 0 (fun (_ : Unit) => []) (fun _ => True) 0 0 := by
  refine r_entry (cc := cX10_isIn) (maxL := 3) (ret := (some .boolean)) (by decide +kernel) rfl (Nat.le_of_ble_eq_true rfl) ?_
  intro p e s m args below meth c ls B
  obtain ⟨S, hr, hlocks, hmi, h, hl⟩ := B
  have hx := S.1
  have hb := S.2.1
  have hts := S.2.2.2.2
  have hl : lv_has ls 3 [(0, .int v), (1, .int lo), (2, .int hi)] := hl
  refine lv_iload_n hx hb dX10_isIn_0 rfl (lv_at hl 0 rfl) ?_
  refine lv_iload_n hx hb dX10_isIn_1 rfl (lv_at hl 1 rfl) ?_
  refine lv_icmp_lt (tgt := 14) hx hb dX10_isIn_2 (by decide) (fun c1 => absurd c1 h0) (fun c1 => ?_)
  refine lv_iload_n hx hb dX10_isIn_5 rfl (lv_at hl 0 rfl) ?_
  refine lv_iload_n hx hb dX10_isIn_6 rfl (lv_at hl 2 rfl) ?_
  refine lv_icmp_gt (tgt := 14) hx hb dX10_isIn_7 (by decide) (fun c2 => ?_) (fun c2 => absurd h1 c2)
  refine lv_iconst (v := 0) hx hb dX10_isIn_14 (by decide) ?_
  exact r_reti S h () rfl trivial hr hlocks rfl (rfl) ⟨Nat.le_of_ble_eq_true rfl, Nat.le_of_ble_eq_true rfl⟩ dX10_isIn_15
theorem k_isIn0 (l : Launch) (D : va_G) (E : rEn) (cy : rC) (X : va_W) (A : Nat → Prop) (v lo hi : Int32) (h : v < lo ∨ hi < v) : rMi l yX10_isIn wsX10_isIn { frames := 0, cells := 0, slots := 0, locals := 0 } D E cy X [] A [.int v, .int lo, .int hi] 0 (fun (_ : Unit) => []) (fun _ => True) 0 0 := by
  by_cases h0 : v < lo
  · exact k_isIn0a l D E cy X A v lo hi h0
  · exact k_isIn0b l D E cy X A v lo hi h0 (h.resolve_left h0)
theorem r_none (j : Int32) : j < 0 ∨ (-1 : Int32) < j := by
  by_cases h : j < 0
  · exact Or.inl h
  · refine Or.inr ?_
    have h1 : ¬ j.toInt < (0 : Int32).toInt := fun q => h (Int32.lt_iff_toInt_lt.mpr q)
    refine Int32.lt_iff_toInt_lt.mpr ?_
    have e0 : (0 : Int32).toInt = 0 := rfl
    have e1 : (-1 : Int32).toInt = -1 := rfl
    omega
set_option maxHeartbeats 4000000 in
set_option maxRecDepth 100000 in
/-- refuse(false, ..) -/
theorem k_refuse0 (l : Launch) (D : va_G) (E : rEn) (cy : rC) (X : va_W) (A : Nat → Prop) (km ks kp : Nat) (w : Int32) : rMi l yX10_refuse wsX10_refuse { frames := 0, cells := 0, slots := 0, locals := 0 } D E cy X [(km, .inr (12, [.int 0, .ref ks, .ref kp]))] A [.ref km, .int 0, .int w] 0 (fun (_ : Unit) => [(km, .inr (12, [.int 0, .ref ks, .ref kp]))]) (fun _ => True) 0 0 := by
  refine r_entry (cc := cX10_refuse) (maxL := 3) (ret := (some .boolean)) (by decide +kernel) rfl (Nat.le_of_ble_eq_true rfl) ?_
  intro p e s m args below meth c ls B
  obtain ⟨S, hr, hlocks, hmi, h, hl⟩ := B
  have hx := S.1
  have hb := S.2.1
  have hts := S.2.2.2.2
  have inX10 : ∀ w ∈ wsX100, w ∈ wsX10_refuse := by decide +kernel
  have hl : lv_has ls 3 [(0, .ref km), (1, .int 0), (2, .int w)] := hl
  refine lv_iload_n hx hb dX10_refuse_0 rfl (lv_at hl 1 rfl) ?_
  refine lv_if_eq (tgt := 16) hx hb dX10_refuse_1 (by decide) (fun c1 => ?_) (fun c1 => absurd (by decide) c1)
  refine lv_aload_n hx hb dX10_refuse_16 rfl (lv_at hl 0 rfl) ?_
  refine r_get S h 0 inX10 (ref := "BobbinPoolModel") rfl rfl (k := 0) (by decide) (by decide +kernel) (fun _ h9 => h9) rfl dX10_refuse_17 ?_
  refine lv_if_le (tgt := 27) hx hb dX10_refuse_20 (by decide) (fun c2 => ?_) (fun c2 => absurd (by decide) c2)
  refine lv_iconst (v := 0) hx hb dX10_refuse_27 (by decide) ?_
  exact r_reti S h () rfl trivial hr hlocks rfl (rfl) ⟨Nat.le_of_ble_eq_true rfl, Nat.le_of_ble_eq_true rfl⟩ dX10_refuse_28
set_option maxHeartbeats 4000000 in
set_option maxRecDepth 100000 in
/-- refuse(true, 1) -/
theorem k_refuse1_1 (l : Launch) (D : va_G) (E : rEn) (cy : rC) (X : va_W) (A : Nat → Prop) (km ks kp : Nat) : rMi l yX10_refuse wsX10_refuse { frames := 0, cells := 0, slots := 0, locals := 0 } D E cy X [(km, .inr (12, [.int 0, .ref ks, .ref kp]))] A [.ref km, .int 1, .int 1] 1 (fun (_ : Unit) => [(km, .inr (12, [.int 1, .ref ks, .ref kp]))]) (fun _ => True) 0 0 := by
  refine r_entry (cc := cX10_refuse) (maxL := 3) (ret := (some .boolean)) (by decide +kernel) rfl (Nat.le_of_ble_eq_true rfl) ?_
  intro p e s m args below meth c ls B
  obtain ⟨S, hr, hlocks, hmi, h, hl⟩ := B
  have hx := S.1
  have hb := S.2.1
  have hts := S.2.2.2.2
  have inX10 : ∀ w ∈ wsX100, w ∈ wsX10_refuse := by decide +kernel
  have hl : lv_has ls 3 [(0, .ref km), (1, .int 1), (2, .int 1)] := hl
  refine lv_iload_n hx hb dX10_refuse_0 rfl (lv_at hl 1 rfl) ?_
  refine lv_if_eq (tgt := 16) hx hb dX10_refuse_1 (by decide) (fun c1 => absurd c1 (by decide)) (fun c1 => ?_)
  refine lv_aload_n hx hb dX10_refuse_4 rfl (lv_at hl 0 rfl) ?_
  refine r_get S h 0 inX10 (ref := "BobbinPoolModel") rfl rfl (k := 0) (by decide) (by decide +kernel) (fun _ h9 => h9) rfl dX10_refuse_5 ?_
  refine lv_if_ne (tgt := 16) hx hb dX10_refuse_8 (by decide) (fun c2 => absurd (by decide) c2) (fun c2 => ?_)
  refine lv_aload_n hx hb dX10_refuse_11 rfl (lv_at hl 0 rfl) ?_
  refine lv_iload_n hx hb dX10_refuse_12 rfl (lv_at hl 2 rfl) ?_
  refine r_put S h 0 tyX10 tyX10_ok nmX10 inX10 (ref := "BobbinPoolModel") rfl rfl (k := 0) (by decide) (by decide +kernel) (fun _ h9 => h9) rfl rfl rfl rfl (Nat.le_of_ble_eq_true rfl) dX10_refuse_13 (fun H locs h => ?_)
  have h : rH D E cy X [(km, .inr (12, [.int 1, .ref ks, .ref kp]))] A s H _ := h
  refine lv_aload_n hx hb dX10_refuse_16 rfl (lv_at hl 0 rfl) ?_
  refine r_get S h 0 inX10 (ref := "BobbinPoolModel") rfl rfl (k := 0) (by decide) (by decide +kernel) (fun _ h9 => h9) rfl dX10_refuse_17 ?_
  refine lv_if_le (tgt := 27) hx hb dX10_refuse_20 (by decide) (fun c3 => absurd c3 (by decide)) (fun c3 => ?_)
  refine lv_iconst (v := 1) hx hb dX10_refuse_23 (by decide) ?_
  refine lv_goto (tgt := 28) hx hb dX10_refuse_24 (by decide) ?_
  exact r_reti S h () rfl trivial hr hlocks rfl (rfl) ⟨Nat.le_of_ble_eq_true rfl, Nat.le_of_ble_eq_true rfl⟩ dX10_refuse_28
set_option maxHeartbeats 4000000 in
set_option maxRecDepth 100000 in
/-- refuse(true, 2) -/
theorem k_refuse1_2 (l : Launch) (D : va_G) (E : rEn) (cy : rC) (X : va_W) (A : Nat → Prop) (km ks kp : Nat) : rMi l yX10_refuse wsX10_refuse { frames := 0, cells := 0, slots := 0, locals := 0 } D E cy X [(km, .inr (12, [.int 0, .ref ks, .ref kp]))] A [.ref km, .int 1, .int 2] 1 (fun (_ : Unit) => [(km, .inr (12, [.int 2, .ref ks, .ref kp]))]) (fun _ => True) 0 0 := by
  refine r_entry (cc := cX10_refuse) (maxL := 3) (ret := (some .boolean)) (by decide +kernel) rfl (Nat.le_of_ble_eq_true rfl) ?_
  intro p e s m args below meth c ls B
  obtain ⟨S, hr, hlocks, hmi, h, hl⟩ := B
  have hx := S.1
  have hb := S.2.1
  have hts := S.2.2.2.2
  have inX10 : ∀ w ∈ wsX100, w ∈ wsX10_refuse := by decide +kernel
  have hl : lv_has ls 3 [(0, .ref km), (1, .int 1), (2, .int 2)] := hl
  refine lv_iload_n hx hb dX10_refuse_0 rfl (lv_at hl 1 rfl) ?_
  refine lv_if_eq (tgt := 16) hx hb dX10_refuse_1 (by decide) (fun c1 => absurd c1 (by decide)) (fun c1 => ?_)
  refine lv_aload_n hx hb dX10_refuse_4 rfl (lv_at hl 0 rfl) ?_
  refine r_get S h 0 inX10 (ref := "BobbinPoolModel") rfl rfl (k := 0) (by decide) (by decide +kernel) (fun _ h9 => h9) rfl dX10_refuse_5 ?_
  refine lv_if_ne (tgt := 16) hx hb dX10_refuse_8 (by decide) (fun c2 => absurd (by decide) c2) (fun c2 => ?_)
  refine lv_aload_n hx hb dX10_refuse_11 rfl (lv_at hl 0 rfl) ?_
  refine lv_iload_n hx hb dX10_refuse_12 rfl (lv_at hl 2 rfl) ?_
  refine r_put S h 0 tyX10 tyX10_ok nmX10 inX10 (ref := "BobbinPoolModel") rfl rfl (k := 0) (by decide) (by decide +kernel) (fun _ h9 => h9) rfl rfl rfl rfl (Nat.le_of_ble_eq_true rfl) dX10_refuse_13 (fun H locs h => ?_)
  have h : rH D E cy X [(km, .inr (12, [.int 2, .ref ks, .ref kp]))] A s H _ := h
  refine lv_aload_n hx hb dX10_refuse_16 rfl (lv_at hl 0 rfl) ?_
  refine r_get S h 0 inX10 (ref := "BobbinPoolModel") rfl rfl (k := 0) (by decide) (by decide +kernel) (fun _ h9 => h9) rfl dX10_refuse_17 ?_
  refine lv_if_le (tgt := 27) hx hb dX10_refuse_20 (by decide) (fun c3 => absurd c3 (by decide)) (fun c3 => ?_)
  refine lv_iconst (v := 1) hx hb dX10_refuse_23 (by decide) ?_
  refine lv_goto (tgt := 28) hx hb dX10_refuse_24 (by decide) ?_
  exact r_reti S h () rfl trivial hr hlocks rfl (rfl) ⟨Nat.le_of_ble_eq_true rfl, Nat.le_of_ble_eq_true rfl⟩ dX10_refuse_28
set_option maxHeartbeats 4000000 in
set_option maxRecDepth 100000 in
/-- start(false, ..) -/
theorem k_start0 (l : Launch) (D : va_G) (E : rEn) (cy : rC) (X : va_W) (A : Nat → Prop) (km ks kp : Nat) (w : Int32) : rMi l yX10_start wsX10_start { frames := 1, cells := 0, slots := 0, locals := 22 } D E cy X [(km, .inr (12, [.int 0, .ref ks, .ref kp]))] A [.ref km, .int 0, .int w] 0 (fun (_ : Unit) => [(km, .inr (12, [.int 0, .ref ks, .ref kp]))]) (fun _ => True) 0 0 := by
  refine r_entry (cc := cX10_start) (maxL := 3) (ret := (some .boolean)) (by decide +kernel) rfl (Nat.le_of_ble_eq_true rfl) ?_
  intro p e s m args below meth c ls B
  obtain ⟨S, hr, hlocks, hmi, h, hl⟩ := B
  have hx := S.1
  have hb := S.2.1
  have hts := S.2.2.2.2
  have inX10 : ∀ w ∈ wsX100, w ∈ wsX10_start := by decide +kernel
  have hl : lv_has ls 3 [(0, .ref km), (1, .int 0), (2, .int w)] := hl
  refine lv_aload_n hx hb dX10_start_0 rfl (lv_at hl 0 rfl) ?_
  refine lv_iconst (v := 0) hx hb dX10_start_1 (by decide) ?_
  refine r_put S h 0 tyX10 tyX10_ok nmX10 inX10 (ref := "BobbinPoolModel") rfl rfl (k := 0) (by decide) (by decide +kernel) (fun _ h9 => h9) rfl rfl rfl rfl (Nat.le_of_ble_eq_true rfl) dX10_start_2 (fun H locs h => ?_)
  have h : rH D E cy X [(km, .inr (12, [.int 0, .ref ks, .ref kp]))] A s H _ := h
  refine lv_aload_n hx hb dX10_start_5 rfl (lv_at hl 0 rfl) ?_
  refine lv_iload_n hx hb dX10_start_6 rfl (lv_at hl 1 rfl) ?_
  refine lv_iload_n hx hb dX10_start_7 rfl (lv_at hl 2 rfl) ?_
  refine r_calli S h (k_refuse0 l D E cy _ A km ks kp w) (cwV 2 hts gX10_start_X10_refuse rfl rfl rfl (by decide +kernel) ⟨Nat.le_of_ble_eq_true rfl, Nat.le_of_ble_eq_true rfl⟩) (r_preV h [] [0] (wr := []) (wc := [(km, .inr (12, [.int 0, .ref ks, .ref kp]))]) rfl rfl rfl 0 rfl rfl _) rfl hl.1 rfl (Nat.le_of_ble_eq_true rfl) dX10_start_8 ⟨Nat.le_of_ble_eq_true rfl, Nat.le_of_ble_eq_true rfl⟩ (fun u1 H locs k2 h => ?_)
  have h : rH D E cy X [(km, .inr (12, [.int 0, .ref ks, .ref kp]))] A s H _ := h
  exact r_reti S h () rfl trivial hr hlocks rfl (rfl) ⟨Nat.le_of_ble_eq_true rfl, Nat.le_of_ble_eq_true rfl⟩ dX10_start_11
set_option maxHeartbeats 4000000 in
set_option maxRecDepth 100000 in
/-- start(true, 1) -/
theorem k_start1 (l : Launch) (D : va_G) (E : rEn) (cy : rC) (X : va_W) (A : Nat → Prop) (km ks kp : Nat) : rMi l yX10_start wsX10_start { frames := 1, cells := 0, slots := 0, locals := 22 } D E cy X [(km, .inr (12, [.int 0, .ref ks, .ref kp]))] A [.ref km, .int 1, .int 1] 1 (fun (_ : Unit) => [(km, .inr (12, [.int 1, .ref ks, .ref kp]))]) (fun _ => True) 0 0 := by
  refine r_entry (cc := cX10_start) (maxL := 3) (ret := (some .boolean)) (by decide +kernel) rfl (Nat.le_of_ble_eq_true rfl) ?_
  intro p e s m args below meth c ls B
  obtain ⟨S, hr, hlocks, hmi, h, hl⟩ := B
  have hx := S.1
  have hb := S.2.1
  have hts := S.2.2.2.2
  have inX10 : ∀ w ∈ wsX100, w ∈ wsX10_start := by decide +kernel
  have hl : lv_has ls 3 [(0, .ref km), (1, .int 1), (2, .int 1)] := hl
  refine lv_aload_n hx hb dX10_start_0 rfl (lv_at hl 0 rfl) ?_
  refine lv_iconst (v := 0) hx hb dX10_start_1 (by decide) ?_
  refine r_put S h 0 tyX10 tyX10_ok nmX10 inX10 (ref := "BobbinPoolModel") rfl rfl (k := 0) (by decide) (by decide +kernel) (fun _ h9 => h9) rfl rfl rfl rfl (Nat.le_of_ble_eq_true rfl) dX10_start_2 (fun H locs h => ?_)
  have h : rH D E cy X [(km, .inr (12, [.int 0, .ref ks, .ref kp]))] A s H _ := h
  refine lv_aload_n hx hb dX10_start_5 rfl (lv_at hl 0 rfl) ?_
  refine lv_iload_n hx hb dX10_start_6 rfl (lv_at hl 1 rfl) ?_
  refine lv_iload_n hx hb dX10_start_7 rfl (lv_at hl 2 rfl) ?_
  refine r_calli S h (k_refuse1_1 l D E cy _ A km ks kp) (cwV 2 hts gX10_start_X10_refuse rfl rfl rfl (by decide +kernel) ⟨Nat.le_of_ble_eq_true rfl, Nat.le_of_ble_eq_true rfl⟩) (r_preV h [] [0] (wr := []) (wc := [(km, .inr (12, [.int 0, .ref ks, .ref kp]))]) rfl rfl rfl 0 rfl rfl _) rfl hl.1 rfl (Nat.le_of_ble_eq_true rfl) dX10_start_8 ⟨Nat.le_of_ble_eq_true rfl, Nat.le_of_ble_eq_true rfl⟩ (fun u1 H locs k2 h => ?_)
  have h : rH D E cy X [(km, .inr (12, [.int 1, .ref ks, .ref kp]))] A s H _ := h
  exact r_reti S h () rfl trivial hr hlocks rfl (rfl) ⟨Nat.le_of_ble_eq_true rfl, Nat.le_of_ble_eq_true rfl⟩ dX10_start_11
set_option maxHeartbeats 4000000 in
set_option maxRecDepth 100000 in
/-- plain -/
theorem k_plain (l : Launch) (D : va_G) (E : rEn) (cy : rC) (X : va_W) (A : Nat → Prop) (km ks kp : Nat) (v : Int32) : rMi l yX10_plain wsX10_plain { frames := 0, cells := 0, slots := 0, locals := 0 } D E cy X [(km, .inr (12, [.int 0, .ref ks, .ref kp]))] A [.ref km, .int v] v (fun (_ : Unit) => [(km, .inr (12, [.int 0, .ref ks, .ref kp]))]) (fun _ => True) 0 0 := by
  refine r_entry (cc := cX10_plain) (maxL := 2) (ret := (some .int)) (by decide +kernel) rfl (Nat.le_of_ble_eq_true rfl) ?_
  intro p e s m args below meth c ls B
  obtain ⟨S, hr, hlocks, hmi, h, hl⟩ := B
  have hx := S.1
  have hb := S.2.1
  have hts := S.2.2.2.2
  have inX10 : ∀ w ∈ wsX100, w ∈ wsX10_plain := by decide +kernel
  have hl : lv_has ls 2 [(0, .ref km), (1, .int v)] := hl
  refine lv_aload_n hx hb dX10_plain_0 rfl (lv_at hl 0 rfl) ?_
  refine lv_iconst (v := 0) hx hb dX10_plain_1 (by decide) ?_
  refine r_put S h 0 tyX10 tyX10_ok nmX10 inX10 (ref := "BobbinPoolModel") rfl rfl (k := 0) (by decide) (by decide +kernel) (fun _ h9 => h9) rfl rfl rfl rfl (Nat.le_of_ble_eq_true rfl) dX10_plain_2 (fun H locs h => ?_)
  have h : rH D E cy X [(km, .inr (12, [.int 0, .ref ks, .ref kp]))] A s H _ := h
  refine lv_iload_n hx hb dX10_plain_5 rfl (lv_at hl 1 rfl) ?_
  exact r_reti S h () rfl trivial hr hlocks rfl (rfl) ⟨Nat.le_of_ble_eq_true rfl, Nat.le_of_ble_eq_true rfl⟩ dX10_plain_6
set_option maxHeartbeats 4000000 in
set_option maxRecDepth 100000 in
/-- isNoJob of a new object -/
theorem k_isNoJob (l : Launch) (D : va_G) (E : rEn) (cy : rC) (X : va_W) (A : Nat → Prop) (km ks kp : Nat) (j : Int32) : rMi l yX10_isNoJob wsX10_isNoJob { frames := 1, cells := 0, slots := 0, locals := 22 } D E cy X [(km, .inr (12, [.int 0, .ref ks, .ref kp])), (ks, .inr (1, [.int 0, .ref E.1, .int 0]))] A [.ref km, .int j] 1 (fun (_ : Unit) => [(km, .inr (12, [.int 0, .ref ks, .ref kp])), (ks, .inr (1, [.int 0, .ref E.1, .int 0]))]) (fun _ => True) 0 0 := by
  refine r_entry (cc := cX10_isNoJob) (maxL := 2) (ret := (some .boolean)) (by decide +kernel) rfl (Nat.le_of_ble_eq_true rfl) ?_
  intro p e s m args below meth c ls B
  obtain ⟨S, hr, hlocks, hmi, h, hl⟩ := B
  have hx := S.1
  have hb := S.2.1
  have hts := S.2.2.2.2
  have inX10 : ∀ w ∈ wsX100, w ∈ wsX10_isNoJob := by decide +kernel
  have hl : lv_has ls 2 [(0, .ref km), (1, .int j)] := hl
  refine lv_iload_n hx hb dX10_isNoJob_0 rfl (lv_at hl 1 rfl) ?_
  refine lv_iconst (v := 0) hx hb dX10_isNoJob_1 (by decide) ?_
  refine lv_aload_n hx hb dX10_isNoJob_2 rfl (lv_at hl 0 rfl) ?_
  refine r_get S h 0 inX10 (ref := "BobbinPoolModel") rfl rfl (k := 1) (by decide) (by decide +kernel) (fun _ h9 => h9) rfl dX10_isNoJob_3 ?_
  refine r_calli S h (k_AL_size l D E cy _ A ks E.1 0 0) (cwV 0 hts gX10_isNoJob_Jx4a65c_size_8abf5 rfl rfl rfl (by decide +kernel) ⟨Nat.le_of_ble_eq_true rfl, Nat.le_of_ble_eq_true rfl⟩) (r_preV h [0] [1] (wr := [(km, .inr (12, [.int 0, .ref ks, .ref kp]))]) (wc := [(ks, .inr (1, [.int 0, .ref E.1, .int 0]))]) rfl rfl rfl 1 rfl rfl _) rfl hl.1 rfl (Nat.le_of_ble_eq_true rfl) dX10_isNoJob_6 ⟨Nat.le_of_ble_eq_true rfl, Nat.le_of_ble_eq_true rfl⟩ (fun u1 H locs k2 h => ?_)
  have h : rH D E cy X [(km, .inr (12, [.int 0, .ref ks, .ref kp])), (ks, .inr (1, [.int 0, .ref E.1, .int 0]))] A s H _ := h
  refine lv_iconst (v := 1) hx hb dX10_isNoJob_9 (by decide) ?_
  refine lv_isub hx hb dX10_isNoJob_10 ?_
  refine lv_topi (fun x3 ex3 => ?_)
  obtain rfl : x3 = (-1) := by rw [ex3]; decide
  refine r_calliS S h (k_isIn0 l D E cy _ A j 0 (-1) (r_none _)) (cwS 3 hts gX10_isNoJob_X10_isIn rfl rfl rfl (by decide +kernel) ⟨Nat.le_of_ble_eq_true rfl, Nat.le_of_ble_eq_true rfl⟩) (r_preS h [0, 1] [] (wr := [(km, .inr (12, [.int 0, .ref ks, .ref kp])), (ks, .inr (1, [.int 0, .ref E.1, .int 0]))]) (wc := []) rfl rfl rfl _) rfl hl.1 rfl (Nat.le_of_ble_eq_true rfl) dX10_isNoJob_11 ⟨Nat.le_of_ble_eq_true rfl, Nat.le_of_ble_eq_true rfl⟩ (fun u4 H locs k5 h => ?_)
  have h : rH D E cy X [(km, .inr (12, [.int 0, .ref ks, .ref kp])), (ks, .inr (1, [.int 0, .ref E.1, .int 0]))] A s H _ := h
  refine lv_if_ne (tgt := 21) hx hb dX10_isNoJob_14 (by decide) (fun c6 => absurd (by decide) c6) (fun c6 => ?_)
  refine lv_iconst (v := 1) hx hb dX10_isNoJob_17 (by decide) ?_
  refine lv_goto (tgt := 22) hx hb dX10_isNoJob_18 (by decide) ?_
  exact r_reti S h () rfl trivial hr hlocks rfl (rfl) ⟨Nat.le_of_ble_eq_true rfl, Nat.le_of_ble_eq_true rfl⟩ dX10_isNoJob_22
set_option maxHeartbeats 4000000 in
set_option maxRecDepth 100000 in
/-- Worker.top() of an empty stack -/
theorem k_top (l : Launch) (D : va_G) (E : rEn) (cy : rC) (X : va_W) (A : Nat → Prop) (kwk kq kst ko kr ds : Nat) : rMi l yX9_top wsX9_top { frames := 1, cells := 0, slots := 0, locals := 20 } D E cy X [(kwk, .inr (11, [.ref kq, .ref kst, .ref ko, .ref kr])), (kst, .inr (1, [.int 0, .ref ds, .int 0]))] A [.ref kwk] (-1) (fun (_ : Unit) => [(kwk, .inr (11, [.ref kq, .ref kst, .ref ko, .ref kr])), (kst, .inr (1, [.int 0, .ref ds, .int 0]))]) (fun _ => True) 0 0 := by
  refine r_entry (cc := cX9_top) (maxL := 1) (ret := (some .int)) (by decide +kernel) rfl (Nat.le_of_ble_eq_true rfl) ?_
  intro p e s m args below meth c ls B
  obtain ⟨S, hr, hlocks, hmi, h, hl⟩ := B
  have hx := S.1
  have hb := S.2.1
  have hts := S.2.2.2.2
  have inX9 : ∀ w ∈ wsX90, w ∈ wsX9_top := by decide +kernel
  have hl : lv_has ls 1 [(0, .ref kwk)] := hl
  refine lv_aload_n hx hb dX9_top_0 rfl (lv_at hl 0 rfl) ?_
  refine r_get S h 0 inX9 (ref := "BobbinPoolModel$Worker") rfl rfl (k := 1) (by decide) (by decide +kernel) (fun _ h9 => h9) rfl dX9_top_1 ?_
  refine r_calli S h (k_AL_isEmpty l D E cy _ A kst ds 0) (cwV 0 hts gX9_top_Jx4a65c_isEmpty_aae02 rfl rfl rfl (by decide +kernel) ⟨Nat.le_of_ble_eq_true rfl, Nat.le_of_ble_eq_true rfl⟩) (r_preV h [0] [1] (wr := [(kwk, .inr (11, [.ref kq, .ref kst, .ref ko, .ref kr]))]) (wc := [(kst, .inr (1, [.int 0, .ref ds, .int 0]))]) rfl rfl rfl 1 rfl rfl _) rfl hl.1 rfl (Nat.le_of_ble_eq_true rfl) dX9_top_4 ⟨Nat.le_of_ble_eq_true rfl, Nat.le_of_ble_eq_true rfl⟩ (fun u1 H locs k2 h => ?_)
  have h : rH D E cy X [(kwk, .inr (11, [.ref kq, .ref kst, .ref ko, .ref kr])), (kst, .inr (1, [.int 0, .ref ds, .int 0]))] A s H _ := h
  refine lv_if_eq (tgt := 14) hx hb dX9_top_7 (by decide) (fun c3 => absurd c3 (by decide)) (fun c3 => ?_)
  refine lv_iconst (v := (-1)) hx hb dX9_top_10 (by decide) ?_
  refine lv_goto (tgt := 36) hx hb dX9_top_11 (by decide) ?_
  exact r_reti S h () rfl trivial hr hlocks rfl (rfl) ⟨Nat.le_of_ble_eq_true rfl, Nat.le_of_ble_eq_true rfl⟩ dX9_top_36
set_option maxHeartbeats 4000000 in
set_option maxRecDepth 100000 in
/-- wants(0) -/
theorem k_wants (l : Launch) (D : va_G) (E : rEn) (cy : rC) (X : va_W) (A : Nat → Prop) (kp ks kt kw kc kpr kwk kq kst ko kr ds kd : Nat) (ck : Int32) : rMi l yX7_wants wsX7_wants { frames := 3, cells := 0, slots := 0, locals := 64 } D E cy X [(kp, .inr (9, [.ref ks, .ref kt, .ref kw, .ref kc, .ref kpr, .int 0, .int 0, .int ck])), (kwk, .inr (11, [.ref kq, .ref kst, .ref ko, .ref kr])), (kst, .inr (1, [.int 0, .ref ds, .int 0])), (kw, .inr (1, [.int 1, .ref kd, .int 1])), rAr cy kd 10 (va_up (fun _ => none) 0 (some kwk))] A [.ref kp, .int 0] 1 (fun (_ : Unit) => [(kp, .inr (9, [.ref ks, .ref kt, .ref kw, .ref kc, .ref kpr, .int 0, .int 0, .int ck])), (kwk, .inr (11, [.ref kq, .ref kst, .ref ko, .ref kr])), (kst, .inr (1, [.int 0, .ref ds, .int 0])), (kw, .inr (1, [.int 1, .ref kd, .int 1])), rAr cy kd 10 (va_up (fun _ => none) 0 (some kwk))]) (fun _ => True) 0 0 := by
  refine r_entry (cc := cX7_wants) (maxL := 3) (ret := (some .boolean)) (by decide +kernel) rfl (Nat.le_of_ble_eq_true rfl) ?_
  intro p e s m args below meth c ls B
  obtain ⟨S, hr, hlocks, hmi, h, hl⟩ := B
  have hx := S.1
  have hb := S.2.1
  have hts := S.2.2.2.2
  have inX7 : ∀ w ∈ wsX70, w ∈ wsX7_wants := by decide +kernel
  have hl : lv_has ls 3 [(0, .ref kp), (1, .int 0)] := hl
  refine lv_aload_n hx hb dX7_wants_0 rfl (lv_at hl 0 rfl) ?_
  refine r_get S h 0 inX7 (ref := "BobbinPoolModel$Pool") rfl rfl (k := 2) (by decide) (by decide +kernel) (fun _ h9 => h9) rfl dX7_wants_1 ?_
  refine lv_iload_n hx hb dX7_wants_4 rfl (lv_at hl 1 rfl) ?_
  refine r_callr S h (k_AL_get0 l D E cy _ A kw kd kwk 1) (cwV 1 hts gX7_wants_Jx4a65c_get_915e3 rfl rfl rfl (by decide +kernel) ⟨Nat.le_of_ble_eq_true rfl, Nat.le_of_ble_eq_true rfl⟩) (r_preV h [0, 1, 2] [3, 4] (wr := [(kp, .inr (9, [.ref ks, .ref kt, .ref kw, .ref kc, .ref kpr, .int 0, .int 0, .int ck])), (kwk, .inr (11, [.ref kq, .ref kst, .ref ko, .ref kr])), (kst, .inr (1, [.int 0, .ref ds, .int 0]))]) (wc := [(kw, .inr (1, [.int 1, .ref kd, .int 1])), rAr cy kd 10 (va_up (fun _ => none) 0 (some kwk))]) rfl rfl rfl 3 rfl rfl _) rfl hl.1 rfl (Nat.le_of_ble_eq_true rfl) dX7_wants_5 ⟨Nat.le_of_ble_eq_true rfl, Nat.le_of_ble_eq_true rfl⟩ (fun u1 H locs k2 h => ?_)
  have h : rH D E cy X [(kp, .inr (9, [.ref ks, .ref kt, .ref kw, .ref kc, .ref kpr, .int 0, .int 0, .int ck])), (kwk, .inr (11, [.ref kq, .ref kst, .ref ko, .ref kr])), (kst, .inr (1, [.int 0, .ref ds, .int 0])), (kw, .inr (1, [.int 1, .ref kd, .int 1])), rAr cy kd 10 (va_up (fun _ => none) 0 (some kwk))] A s H _ := h
  refine r_cast S h 1 rfl rfl (by decide +kernel) dX7_wants_8 ?_
  refine r_calli S h (k_top l D E cy _ A kwk kq kst ko kr ds) (cwV 0 hts gX7_wants_X9_top rfl rfl rfl (by decide +kernel) ⟨Nat.le_of_ble_eq_true rfl, Nat.le_of_ble_eq_true rfl⟩) (r_preV h [0, 3, 4] [1, 2] (wr := [(kp, .inr (9, [.ref ks, .ref kt, .ref kw, .ref kc, .ref kpr, .int 0, .int 0, .int ck])), (kw, .inr (1, [.int 1, .ref kd, .int 1])), rAr cy kd 10 (va_up (fun _ => none) 0 (some kwk))]) (wc := [(kwk, .inr (11, [.ref kq, .ref kst, .ref ko, .ref kr])), (kst, .inr (1, [.int 0, .ref ds, .int 0]))]) rfl rfl rfl 1 rfl rfl _) rfl hl.1 rfl (Nat.le_of_ble_eq_true rfl) dX7_wants_11 ⟨Nat.le_of_ble_eq_true rfl, Nat.le_of_ble_eq_true rfl⟩ (fun u3 H locs k4 h => ?_)
  have h : rH D E cy X [(kp, .inr (9, [.ref ks, .ref kt, .ref kw, .ref kc, .ref kpr, .int 0, .int 0, .int ck])), (kw, .inr (1, [.int 1, .ref kd, .int 1])), rAr cy kd 10 (va_up (fun _ => none) 0 (some kwk)), (kwk, .inr (11, [.ref kq, .ref kst, .ref ko, .ref kr])), (kst, .inr (1, [.int 0, .ref ds, .int 0]))] A s H _ := h
  refine lv_istore_n (lv' := [(2, .int (-1)), (0, .ref kp), (1, .int 0)]) hx hb dX7_wants_14 rfl hl (by decide) rfl (fun ls hl => ?_)
  refine lv_iload_n hx hb dX7_wants_15 rfl (lv_at hl 0 rfl) ?_
  refine lv_iconst (v := (-1)) hx hb dX7_wants_16 (by decide) ?_
  refine lv_icmp_eq (tgt := 45) hx hb dX7_wants_17 (by decide) (fun c5 => ?_) (fun c5 => absurd (by decide) c5)
  refine lv_iconst (v := 1) hx hb dX7_wants_45 (by decide) ?_
  refine lv_goto (tgt := 50) hx hb dX7_wants_46 (by decide) ?_
  have h := h.pick [0, 3, 4, 1, 2] (w := [(kp, .inr (9, [.ref ks, .ref kt, .ref kw, .ref kc, .ref kpr, .int 0, .int 0, .int ck])), (kwk, .inr (11, [.ref kq, .ref kst, .ref ko, .ref kr])), (kst, .inr (1, [.int 0, .ref ds, .int 0])), (kw, .inr (1, [.int 1, .ref kd, .int 1])), rAr cy kd 10 (va_up (fun _ => none) 0 (some kwk))]) rfl rfl
  exact r_reti S h () rfl trivial hr hlocks rfl (rfl) ⟨Nat.le_of_ble_eq_true rfl, Nat.le_of_ble_eq_true rfl⟩ dX7_wants_50
set_option maxHeartbeats 4000000 in
set_option maxRecDepth 100000 in
/-- victim(0) -/
theorem k_victim (l : Launch) (D : va_G) (E : rEn) (cy : rC) (X : va_W) (A : Nat → Prop) (kp ks kt kw kc kpr kd : Nat) (ck : Int32) : rMi l yX7_victim wsX7_victim { frames := 1, cells := 0, slots := 0, locals := 20 } D E cy X [(kp, .inr (9, [.ref ks, .ref kt, .ref kw, .ref kc, .ref kpr, .int 0, .int 0, .int ck])), (kw, .inr (1, [.int 1, .ref kd, .int 1]))] A [.ref kp, .int 0] (-1) (fun (_ : Unit) => [(kp, .inr (9, [.ref ks, .ref kt, .ref kw, .ref kc, .ref kpr, .int 0, .int 0, .int ck])), (kw, .inr (1, [.int 1, .ref kd, .int 1]))]) (fun _ => True) 0 0 := by
  refine r_entry (cc := cX7_victim) (maxL := 5) (ret := (some .int)) (by decide +kernel) rfl (Nat.le_of_ble_eq_true rfl) ?_
  intro p e s m args below meth c ls B
  obtain ⟨S, hr, hlocks, hmi, h, hl⟩ := B
  have hx := S.1
  have hb := S.2.1
  have hts := S.2.2.2.2
  have inX7 : ∀ w ∈ wsX70, w ∈ wsX7_victim := by decide +kernel
  have hl : lv_has ls 5 [(0, .ref kp), (1, .int 0)] := hl
  refine lv_iconst (v := (-1)) hx hb dX7_victim_0 (by decide) ?_
  refine lv_istore_n (lv' := [(2, .int (-1)), (0, .ref kp), (1, .int 0)]) hx hb dX7_victim_1 rfl hl (by decide) rfl (fun ls hl => ?_)
  refine lv_iconst (v := 1) hx hb dX7_victim_2 (by decide) ?_
  refine lv_istore_n (lv' := [(3, .int 1), (2, .int (-1)), (0, .ref kp), (1, .int 0)]) hx hb dX7_victim_3 rfl hl (by decide) rfl (fun ls hl => ?_)
  refine lv_iload_n hx hb dX7_victim_4 rfl (lv_at hl 0 rfl) ?_
  refine lv_aload_n hx hb dX7_victim_5 rfl (lv_at hl 2 rfl) ?_
  refine r_get S h 0 inX7 (ref := "BobbinPoolModel$Pool") rfl rfl (k := 2) (by decide) (by decide +kernel) (fun _ h9 => h9) rfl dX7_victim_6 ?_
  refine r_calli S h (k_AL_size l D E cy _ A kw kd 1 1) (cwV 0 hts gX7_victim_Jx4a65c_size_8abf5 rfl rfl rfl (by decide +kernel) ⟨Nat.le_of_ble_eq_true rfl, Nat.le_of_ble_eq_true rfl⟩) (r_preV h [0] [1] (wr := [(kp, .inr (9, [.ref ks, .ref kt, .ref kw, .ref kc, .ref kpr, .int 0, .int 0, .int ck]))]) (wc := [(kw, .inr (1, [.int 1, .ref kd, .int 1]))]) rfl rfl rfl 1 rfl rfl _) rfl hl.1 rfl (Nat.le_of_ble_eq_true rfl) dX7_victim_9 ⟨Nat.le_of_ble_eq_true rfl, Nat.le_of_ble_eq_true rfl⟩ (fun u1 H locs k2 h => ?_)
  have h : rH D E cy X [(kp, .inr (9, [.ref ks, .ref kt, .ref kw, .ref kc, .ref kpr, .int 0, .int 0, .int ck])), (kw, .inr (1, [.int 1, .ref kd, .int 1]))] A s H _ := h
  refine lv_icmp_ge (tgt := 70) hx hb dX7_victim_12 (by decide) (fun c3 => ?_) (fun c3 => absurd (by decide) c3)
  refine lv_iconst (v := 0) hx hb dX7_victim_70 (by decide) ?_
  refine lv_istore_n (lv' := [(3, .int 0), (2, .int (-1)), (0, .ref kp), (1, .int 0)]) hx hb dX7_victim_71 rfl hl (by decide) rfl (fun ls hl => ?_)
  refine lv_aload_n hx hb dX7_victim_72 rfl (lv_at hl 2 rfl) ?_
  refine r_get S h 0 inX7 (ref := "BobbinPoolModel$Pool") rfl rfl (k := 6) (by decide) (by decide +kernel) (fun _ h9 => h9) rfl dX7_victim_73 ?_
  refine lv_iconst (v := 1) hx hb dX7_victim_76 (by decide) ?_
  refine lv_icmp_ne (tgt := 150) hx hb dX7_victim_77 (by decide) (fun c4 => ?_) (fun c4 => absurd c4 (by decide))
  refine lv_iload_n hx hb dX7_victim_150 rfl (lv_at hl 1 rfl) ?_
  exact r_reti S h () rfl trivial hr hlocks rfl (rfl) ⟨Nat.le_of_ble_eq_true rfl, Nat.le_of_ble_eq_true rfl⟩ dX7_victim_151
set_option maxHeartbeats 4000000 in
set_option maxRecDepth 100000 in
/-- isBusy(0) -/
theorem k_isBusy (l : Launch) (D : va_G) (E : rEn) (cy : rC) (X : va_W) (A : Nat → Prop) (kp ks kt kw kc kpr dc kwk kq kst ko kr dq ds kd : Nat) (ck : Int32) : rMi l yX7_isBusy wsX7_isBusy { frames := 4, cells := 0, slots := 0, locals := 86 } D E cy X [(kp, .inr (9, [.ref ks, .ref kt, .ref kw, .ref kc, .ref kpr, .int 0, .int 0, .int ck])), (kc, .inr (1, [.int 0, .ref dc, .int 0])), (kwk, .inr (11, [.ref kq, .ref kst, .ref ko, .ref kr])), (kq, .inr (1, [.int 0, .ref dq, .int 0])), (kst, .inr (1, [.int 0, .ref ds, .int 0])), (kw, .inr (1, [.int 1, .ref kd, .int 1])), rAr cy kd 10 (va_up (fun _ => none) 0 (some kwk))] A [.ref kp, .int 0] 0 (fun (_ : Unit) => [(kp, .inr (9, [.ref ks, .ref kt, .ref kw, .ref kc, .ref kpr, .int 0, .int 0, .int ck])), (kc, .inr (1, [.int 0, .ref dc, .int 0])), (kwk, .inr (11, [.ref kq, .ref kst, .ref ko, .ref kr])), (kq, .inr (1, [.int 0, .ref dq, .int 0])), (kst, .inr (1, [.int 0, .ref ds, .int 0])), (kw, .inr (1, [.int 1, .ref kd, .int 1])), rAr cy kd 10 (va_up (fun _ => none) 0 (some kwk))]) (fun _ => True) 0 0 := by
  refine r_entry (cc := cX7_isBusy) (maxL := 2) (ret := (some .boolean)) (by decide +kernel) rfl (Nat.le_of_ble_eq_true rfl) ?_
  intro p e s m args below meth c ls B
  obtain ⟨S, hr, hlocks, hmi, h, hl⟩ := B
  have hx := S.1
  have hb := S.2.1
  have hts := S.2.2.2.2
  have inX7 : ∀ w ∈ wsX70, w ∈ wsX7_isBusy := by decide +kernel
  have inX9 : ∀ w ∈ wsX90, w ∈ wsX7_isBusy := by decide +kernel
  have hl : lv_has ls 2 [(0, .ref kp), (1, .int 0)] := hl
  refine lv_aload_n hx hb dX7_isBusy_0 rfl (lv_at hl 0 rfl) ?_
  refine lv_iload_n hx hb dX7_isBusy_1 rfl (lv_at hl 1 rfl) ?_
  refine r_calli S h (k_wants l D E cy _ A kp ks kt kw kc kpr kwk kq kst ko kr ds kd ck) (cwV 1 hts gX7_isBusy_X7_wants rfl rfl rfl (by decide +kernel) ⟨Nat.le_of_ble_eq_true rfl, Nat.le_of_ble_eq_true rfl⟩) (r_preV h [1, 3] [0, 2, 4, 5, 6] (wr := [(kc, .inr (1, [.int 0, .ref dc, .int 0])), (kq, .inr (1, [.int 0, .ref dq, .int 0]))]) (wc := [(kp, .inr (9, [.ref ks, .ref kt, .ref kw, .ref kc, .ref kpr, .int 0, .int 0, .int ck])), (kwk, .inr (11, [.ref kq, .ref kst, .ref ko, .ref kr])), (kst, .inr (1, [.int 0, .ref ds, .int 0])), (kw, .inr (1, [.int 1, .ref kd, .int 1])), rAr cy kd 10 (va_up (fun _ => none) 0 (some kwk))]) rfl rfl rfl 0 rfl rfl _) rfl hl.1 rfl (Nat.le_of_ble_eq_true rfl) dX7_isBusy_2 ⟨Nat.le_of_ble_eq_true rfl, Nat.le_of_ble_eq_true rfl⟩ (fun u1 H locs k2 h => ?_)
  have h : rH D E cy X [(kc, .inr (1, [.int 0, .ref dc, .int 0])), (kq, .inr (1, [.int 0, .ref dq, .int 0])), (kp, .inr (9, [.ref ks, .ref kt, .ref kw, .ref kc, .ref kpr, .int 0, .int 0, .int ck])), (kwk, .inr (11, [.ref kq, .ref kst, .ref ko, .ref kr])), (kst, .inr (1, [.int 0, .ref ds, .int 0])), (kw, .inr (1, [.int 1, .ref kd, .int 1])), rAr cy kd 10 (va_up (fun _ => none) 0 (some kwk))] A s H _ := h
  refine lv_if_eq (tgt := 53) hx hb dX7_isBusy_5 (by decide) (fun c3 => absurd c3 (by decide)) (fun c3 => ?_)
  refine lv_aload_n hx hb dX7_isBusy_8 rfl (lv_at hl 0 rfl) ?_
  refine r_get S h 2 inX7 (ref := "BobbinPoolModel$Pool") rfl rfl (k := 2) (by decide) (by decide +kernel) (fun _ h9 => h9) rfl dX7_isBusy_9 ?_
  refine lv_iload_n hx hb dX7_isBusy_12 rfl (lv_at hl 1 rfl) ?_
  refine r_callr S h (k_AL_get0 l D E cy _ A kw kd kwk 1) (cwV 1 hts gX7_isBusy_Jx4a65c_get_915e3 rfl rfl rfl (by decide +kernel) ⟨Nat.le_of_ble_eq_true rfl, Nat.le_of_ble_eq_true rfl⟩) (r_preV h [0, 1, 2, 3, 4] [5, 6] (wr := [(kc, .inr (1, [.int 0, .ref dc, .int 0])), (kq, .inr (1, [.int 0, .ref dq, .int 0])), (kp, .inr (9, [.ref ks, .ref kt, .ref kw, .ref kc, .ref kpr, .int 0, .int 0, .int ck])), (kwk, .inr (11, [.ref kq, .ref kst, .ref ko, .ref kr])), (kst, .inr (1, [.int 0, .ref ds, .int 0]))]) (wc := [(kw, .inr (1, [.int 1, .ref kd, .int 1])), rAr cy kd 10 (va_up (fun _ => none) 0 (some kwk))]) rfl rfl rfl 5 rfl rfl _) rfl hl.1 rfl (Nat.le_of_ble_eq_true rfl) dX7_isBusy_13 ⟨Nat.le_of_ble_eq_true rfl, Nat.le_of_ble_eq_true rfl⟩ (fun u4 H locs k5 h => ?_)
  have h : rH D E cy X [(kc, .inr (1, [.int 0, .ref dc, .int 0])), (kq, .inr (1, [.int 0, .ref dq, .int 0])), (kp, .inr (9, [.ref ks, .ref kt, .ref kw, .ref kc, .ref kpr, .int 0, .int 0, .int ck])), (kwk, .inr (11, [.ref kq, .ref kst, .ref ko, .ref kr])), (kst, .inr (1, [.int 0, .ref ds, .int 0])), (kw, .inr (1, [.int 1, .ref kd, .int 1])), rAr cy kd 10 (va_up (fun _ => none) 0 (some kwk))] A s H _ := h
  refine r_cast S h 3 rfl rfl (by decide +kernel) dX7_isBusy_16 ?_
  refine r_get S h 3 inX9 (ref := "BobbinPoolModel$Worker") rfl rfl (k := 0) (by decide) (by decide +kernel) (fun _ h9 => h9) rfl dX7_isBusy_19 ?_
  refine r_calli S h (k_AL_isEmpty l D E cy _ A kq dq 0) (cwV 0 hts gX7_isBusy_Jx4a65c_isEmpty_aae02 rfl rfl rfl (by decide +kernel) ⟨Nat.le_of_ble_eq_true rfl, Nat.le_of_ble_eq_true rfl⟩) (r_preV h [0, 2, 3, 4, 5, 6] [1] (wr := [(kc, .inr (1, [.int 0, .ref dc, .int 0])), (kp, .inr (9, [.ref ks, .ref kt, .ref kw, .ref kc, .ref kpr, .int 0, .int 0, .int ck])), (kwk, .inr (11, [.ref kq, .ref kst, .ref ko, .ref kr])), (kst, .inr (1, [.int 0, .ref ds, .int 0])), (kw, .inr (1, [.int 1, .ref kd, .int 1])), rAr cy kd 10 (va_up (fun _ => none) 0 (some kwk))]) (wc := [(kq, .inr (1, [.int 0, .ref dq, .int 0]))]) rfl rfl rfl 1 rfl rfl _) rfl hl.1 rfl (Nat.le_of_ble_eq_true rfl) dX7_isBusy_22 ⟨Nat.le_of_ble_eq_true rfl, Nat.le_of_ble_eq_true rfl⟩ (fun u6 H locs k7 h => ?_)
  have h : rH D E cy X [(kc, .inr (1, [.int 0, .ref dc, .int 0])), (kp, .inr (9, [.ref ks, .ref kt, .ref kw, .ref kc, .ref kpr, .int 0, .int 0, .int ck])), (kwk, .inr (11, [.ref kq, .ref kst, .ref ko, .ref kr])), (kst, .inr (1, [.int 0, .ref ds, .int 0])), (kw, .inr (1, [.int 1, .ref kd, .int 1])), rAr cy kd 10 (va_up (fun _ => none) 0 (some kwk)), (kq, .inr (1, [.int 0, .ref dq, .int 0]))] A s H _ := h
  refine lv_if_eq (tgt := 47) hx hb dX7_isBusy_25 (by decide) (fun c8 => absurd c8 (by decide)) (fun c8 => ?_)
  refine lv_aload_n hx hb dX7_isBusy_28 rfl (lv_at hl 0 rfl) ?_
  refine r_get S h 1 inX7 (ref := "BobbinPoolModel$Pool") rfl rfl (k := 3) (by decide) (by decide +kernel) (fun _ h9 => h9) rfl dX7_isBusy_29 ?_
  refine r_calli S h (k_AL_isEmpty l D E cy _ A kc dc 0) (cwV 0 hts gX7_isBusy_Jx4a65c_isEmpty_aae02 rfl rfl rfl (by decide +kernel) ⟨Nat.le_of_ble_eq_true rfl, Nat.le_of_ble_eq_true rfl⟩) (r_preV h [1, 2, 3, 4, 5, 6] [0] (wr := [(kp, .inr (9, [.ref ks, .ref kt, .ref kw, .ref kc, .ref kpr, .int 0, .int 0, .int ck])), (kwk, .inr (11, [.ref kq, .ref kst, .ref ko, .ref kr])), (kst, .inr (1, [.int 0, .ref ds, .int 0])), (kw, .inr (1, [.int 1, .ref kd, .int 1])), rAr cy kd 10 (va_up (fun _ => none) 0 (some kwk)), (kq, .inr (1, [.int 0, .ref dq, .int 0]))]) (wc := [(kc, .inr (1, [.int 0, .ref dc, .int 0]))]) rfl rfl rfl 0 rfl rfl _) rfl hl.1 rfl (Nat.le_of_ble_eq_true rfl) dX7_isBusy_32 ⟨Nat.le_of_ble_eq_true rfl, Nat.le_of_ble_eq_true rfl⟩ (fun u9 H locs k10 h => ?_)
  have h : rH D E cy X [(kp, .inr (9, [.ref ks, .ref kt, .ref kw, .ref kc, .ref kpr, .int 0, .int 0, .int ck])), (kwk, .inr (11, [.ref kq, .ref kst, .ref ko, .ref kr])), (kst, .inr (1, [.int 0, .ref ds, .int 0])), (kw, .inr (1, [.int 1, .ref kd, .int 1])), rAr cy kd 10 (va_up (fun _ => none) 0 (some kwk)), (kq, .inr (1, [.int 0, .ref dq, .int 0])), (kc, .inr (1, [.int 0, .ref dc, .int 0]))] A s H _ := h
  refine lv_if_eq (tgt := 47) hx hb dX7_isBusy_35 (by decide) (fun c11 => absurd c11 (by decide)) (fun c11 => ?_)
  refine lv_aload_n hx hb dX7_isBusy_38 rfl (lv_at hl 0 rfl) ?_
  refine lv_iload_n hx hb dX7_isBusy_39 rfl (lv_at hl 1 rfl) ?_
  refine r_calli S h (k_victim l D E cy _ A kp ks kt kw kc kpr kd ck) (cwV 1 hts gX7_isBusy_X7_victim rfl rfl rfl (by decide +kernel) ⟨Nat.le_of_ble_eq_true rfl, Nat.le_of_ble_eq_true rfl⟩) (r_preV h [1, 2, 4, 5, 6] [0, 3] (wr := [(kwk, .inr (11, [.ref kq, .ref kst, .ref ko, .ref kr])), (kst, .inr (1, [.int 0, .ref ds, .int 0])), rAr cy kd 10 (va_up (fun _ => none) 0 (some kwk)), (kq, .inr (1, [.int 0, .ref dq, .int 0])), (kc, .inr (1, [.int 0, .ref dc, .int 0]))]) (wc := [(kp, .inr (9, [.ref ks, .ref kt, .ref kw, .ref kc, .ref kpr, .int 0, .int 0, .int ck])), (kw, .inr (1, [.int 1, .ref kd, .int 1]))]) rfl rfl rfl 0 rfl rfl _) rfl hl.1 rfl (Nat.le_of_ble_eq_true rfl) dX7_isBusy_40 ⟨Nat.le_of_ble_eq_true rfl, Nat.le_of_ble_eq_true rfl⟩ (fun u12 H locs k13 h => ?_)
  have h : rH D E cy X [(kwk, .inr (11, [.ref kq, .ref kst, .ref ko, .ref kr])), (kst, .inr (1, [.int 0, .ref ds, .int 0])), rAr cy kd 10 (va_up (fun _ => none) 0 (some kwk)), (kq, .inr (1, [.int 0, .ref dq, .int 0])), (kc, .inr (1, [.int 0, .ref dc, .int 0])), (kp, .inr (9, [.ref ks, .ref kt, .ref kw, .ref kc, .ref kpr, .int 0, .int 0, .int ck])), (kw, .inr (1, [.int 1, .ref kd, .int 1]))] A s H _ := h
  refine lv_iconst (v := (-1)) hx hb dX7_isBusy_43 (by decide) ?_
  refine lv_icmp_eq (tgt := 51) hx hb dX7_isBusy_44 (by decide) (fun c14 => ?_) (fun c14 => absurd (by decide) c14)
  refine lv_iconst (v := 0) hx hb dX7_isBusy_51 (by decide) ?_
  have h := h.pick [5, 4, 0, 3, 1, 6, 2] (w := [(kp, .inr (9, [.ref ks, .ref kt, .ref kw, .ref kc, .ref kpr, .int 0, .int 0, .int ck])), (kc, .inr (1, [.int 0, .ref dc, .int 0])), (kwk, .inr (11, [.ref kq, .ref kst, .ref ko, .ref kr])), (kq, .inr (1, [.int 0, .ref dq, .int 0])), (kst, .inr (1, [.int 0, .ref ds, .int 0])), (kw, .inr (1, [.int 1, .ref kd, .int 1])), rAr cy kd 10 (va_up (fun _ => none) 0 (some kwk))]) rfl rfl
  exact r_reti S h () rfl trivial hr hlocks rfl (rfl) ⟨Nat.le_of_ble_eq_true rfl, Nat.le_of_ble_eq_true rfl⟩ dX7_isBusy_52
set_option maxHeartbeats 4000000 in
set_option maxRecDepth 100000 in
/-- open() -/
theorem k_open (l : Launch) (D : va_G) (E : rEn) (cy : rC) (X : va_W) (A : Nat → Prop) (kp ks kt kw kc kpr dt : Nat) (ck : Int32) : rMi l yX7_open wsX7_open { frames := 1, cells := 0, slots := 0, locals := 20 } D E cy X [(kp, .inr (9, [.ref ks, .ref kt, .ref kw, .ref kc, .ref kpr, .int 0, .int 0, .int ck])), (kt, .inr (1, [.int 0, .ref dt, .int 0]))] A [.ref kp] 0 (fun (_ : Unit) => [(kp, .inr (9, [.ref ks, .ref kt, .ref kw, .ref kc, .ref kpr, .int 0, .int 0, .int ck])), (kt, .inr (1, [.int 0, .ref dt, .int 0]))]) (fun _ => True) 0 0 := by
  refine r_entry (cc := cX7_open) (maxL := 3) (ret := (some .int)) (by decide +kernel) rfl (Nat.le_of_ble_eq_true rfl) ?_
  intro p e s m args below meth c ls B
  obtain ⟨S, hr, hlocks, hmi, h, hl⟩ := B
  have hx := S.1
  have hb := S.2.1
  have hts := S.2.2.2.2
  have inX7 : ∀ w ∈ wsX70, w ∈ wsX7_open := by decide +kernel
  have hl : lv_has ls 3 [(0, .ref kp)] := hl
  refine lv_iconst (v := 0) hx hb dX7_open_0 (by decide) ?_
  refine lv_istore_n (lv' := [(1, .int 0), (0, .ref kp)]) hx hb dX7_open_1 rfl hl (by decide) rfl (fun ls hl => ?_)
  refine lv_iconst (v := 0) hx hb dX7_open_2 (by decide) ?_
  refine lv_istore_n (lv' := [(2, .int 0), (1, .int 0), (0, .ref kp)]) hx hb dX7_open_3 rfl hl (by decide) rfl (fun ls hl => ?_)
  refine lv_iload_n hx hb dX7_open_4 rfl (lv_at hl 0 rfl) ?_
  refine lv_aload_n hx hb dX7_open_5 rfl (lv_at hl 2 rfl) ?_
  refine r_get S h 0 inX7 (ref := "BobbinPoolModel$Pool") rfl rfl (k := 1) (by decide) (by decide +kernel) (fun _ h9 => h9) rfl dX7_open_6 ?_
  refine r_calli S h (k_AL_size l D E cy _ A kt dt 0 0) (cwV 0 hts gX7_open_Jx4a65c_size_8abf5 rfl rfl rfl (by decide +kernel) ⟨Nat.le_of_ble_eq_true rfl, Nat.le_of_ble_eq_true rfl⟩) (r_preV h [0] [1] (wr := [(kp, .inr (9, [.ref ks, .ref kt, .ref kw, .ref kc, .ref kpr, .int 0, .int 0, .int ck]))]) (wc := [(kt, .inr (1, [.int 0, .ref dt, .int 0]))]) rfl rfl rfl 1 rfl rfl _) rfl hl.1 rfl (Nat.le_of_ble_eq_true rfl) dX7_open_9 ⟨Nat.le_of_ble_eq_true rfl, Nat.le_of_ble_eq_true rfl⟩ (fun u1 H locs k2 h => ?_)
  have h : rH D E cy X [(kp, .inr (9, [.ref ks, .ref kt, .ref kw, .ref kc, .ref kpr, .int 0, .int 0, .int ck])), (kt, .inr (1, [.int 0, .ref dt, .int 0]))] A s H _ := h
  refine lv_icmp_ge (tgt := 46) hx hb dX7_open_12 (by decide) (fun c3 => ?_) (fun c3 => absurd (by decide) c3)
  refine lv_iload_n hx hb dX7_open_46 rfl (lv_at hl 1 rfl) ?_
  exact r_reti S h () rfl trivial hr hlocks rfl (rfl) ⟨Nat.le_of_ble_eq_true rfl, Nat.le_of_ble_eq_true rfl⟩ dX7_open_47
set_option maxHeartbeats 4000000 in
set_option maxRecDepth 100000 in
/-- isHalted() -/
theorem k_isHalted (l : Launch) (D : va_G) (E : rEn) (cy : rC) (X : va_W) (A : Nat → Prop) (kp ks kt kw kc kpr dt dc kwk kq kst ko kr dq ds kd : Nat) (ck : Int32) : rMi l yX7_isHalted wsX7_isHalted { frames := 5, cells := 0, slots := 0, locals := 107 } D E cy X [(kp, .inr (9, [.ref ks, .ref kt, .ref kw, .ref kc, .ref kpr, .int 0, .int 0, .int ck])), (kt, .inr (1, [.int 0, .ref dt, .int 0])), (kc, .inr (1, [.int 0, .ref dc, .int 0])), (kwk, .inr (11, [.ref kq, .ref kst, .ref ko, .ref kr])), (kq, .inr (1, [.int 0, .ref dq, .int 0])), (kst, .inr (1, [.int 0, .ref ds, .int 0])), (kw, .inr (1, [.int 1, .ref kd, .int 1])), rAr cy kd 10 (va_up (fun _ => none) 0 (some kwk))] A [.ref kp] 0 (fun (_ : Unit) => [(kp, .inr (9, [.ref ks, .ref kt, .ref kw, .ref kc, .ref kpr, .int 0, .int 0, .int ck])), (kt, .inr (1, [.int 0, .ref dt, .int 0])), (kc, .inr (1, [.int 0, .ref dc, .int 0])), (kwk, .inr (11, [.ref kq, .ref kst, .ref ko, .ref kr])), (kq, .inr (1, [.int 0, .ref dq, .int 0])), (kst, .inr (1, [.int 0, .ref ds, .int 0])), (kw, .inr (1, [.int 1, .ref kd, .int 1])), rAr cy kd 10 (va_up (fun _ => none) 0 (some kwk))]) (fun _ => True) 0 0 := by
  refine r_entry (cc := cX7_isHalted) (maxL := 3) (ret := (some .boolean)) (by decide +kernel) rfl (Nat.le_of_ble_eq_true rfl) ?_
  intro p e s m args below meth c ls B
  obtain ⟨S, hr, hlocks, hmi, h, hl⟩ := B
  have hx := S.1
  have hb := S.2.1
  have hts := S.2.2.2.2
  have inX7 : ∀ w ∈ wsX70, w ∈ wsX7_isHalted := by decide +kernel
  have hl : lv_has ls 3 [(0, .ref kp)] := hl
  refine lv_iconst (v := 0) hx hb dX7_isHalted_0 (by decide) ?_
  refine lv_istore_n (lv' := [(1, .int 0), (0, .ref kp)]) hx hb dX7_isHalted_1 rfl hl (by decide) rfl (fun ls hl => ?_)
  refine lv_iconst (v := 0) hx hb dX7_isHalted_2 (by decide) ?_
  refine lv_istore_n (lv' := [(2, .int 0), (1, .int 0), (0, .ref kp)]) hx hb dX7_isHalted_3 rfl hl (by decide) rfl (fun ls hl => ?_)
  refine lv_iload_n hx hb dX7_isHalted_4 rfl (lv_at hl 0 rfl) ?_
  refine lv_aload_n hx hb dX7_isHalted_5 rfl (lv_at hl 2 rfl) ?_
  refine r_get S h 0 inX7 (ref := "BobbinPoolModel$Pool") rfl rfl (k := 2) (by decide) (by decide +kernel) (fun _ h9 => h9) rfl dX7_isHalted_6 ?_
  refine r_calli S h (k_AL_size l D E cy _ A kw kd 1 1) (cwV 0 hts gX7_isHalted_Jx4a65c_size_8abf5 rfl rfl rfl (by decide +kernel) ⟨Nat.le_of_ble_eq_true rfl, Nat.le_of_ble_eq_true rfl⟩) (r_preV h [0, 1, 2, 3, 4, 5, 7] [6] (wr := [(kp, .inr (9, [.ref ks, .ref kt, .ref kw, .ref kc, .ref kpr, .int 0, .int 0, .int ck])), (kt, .inr (1, [.int 0, .ref dt, .int 0])), (kc, .inr (1, [.int 0, .ref dc, .int 0])), (kwk, .inr (11, [.ref kq, .ref kst, .ref ko, .ref kr])), (kq, .inr (1, [.int 0, .ref dq, .int 0])), (kst, .inr (1, [.int 0, .ref ds, .int 0])), rAr cy kd 10 (va_up (fun _ => none) 0 (some kwk))]) (wc := [(kw, .inr (1, [.int 1, .ref kd, .int 1]))]) rfl rfl rfl 6 rfl rfl _) rfl hl.1 rfl (Nat.le_of_ble_eq_true rfl) dX7_isHalted_9 ⟨Nat.le_of_ble_eq_true rfl, Nat.le_of_ble_eq_true rfl⟩ (fun u1 H locs k2 h => ?_)
  have h : rH D E cy X [(kp, .inr (9, [.ref ks, .ref kt, .ref kw, .ref kc, .ref kpr, .int 0, .int 0, .int ck])), (kt, .inr (1, [.int 0, .ref dt, .int 0])), (kc, .inr (1, [.int 0, .ref dc, .int 0])), (kwk, .inr (11, [.ref kq, .ref kst, .ref ko, .ref kr])), (kq, .inr (1, [.int 0, .ref dq, .int 0])), (kst, .inr (1, [.int 0, .ref ds, .int 0])), rAr cy kd 10 (va_up (fun _ => none) 0 (some kwk)), (kw, .inr (1, [.int 1, .ref kd, .int 1]))] A s H _ := h
  refine lv_icmp_ge (tgt := 29) hx hb dX7_isHalted_12 (by decide) (fun c3 => absurd c3 (by decide)) (fun c3 => ?_)
  refine lv_iload_n hx hb dX7_isHalted_15 rfl (lv_at hl 1 rfl) ?_
  refine lv_aload_n hx hb dX7_isHalted_16 rfl (lv_at hl 2 rfl) ?_
  refine lv_iload_n hx hb dX7_isHalted_17 rfl (lv_at hl 0 rfl) ?_
  refine r_calli S h (k_isBusy l D E cy _ A kp ks kt kw kc kpr dc kwk kq kst ko kr dq ds kd ck) (cwV 1 hts gX7_isHalted_X7_isBusy rfl rfl rfl (by decide +kernel) ⟨Nat.le_of_ble_eq_true rfl, Nat.le_of_ble_eq_true rfl⟩) (r_preV h [1] [0, 2, 3, 4, 5, 7, 6] (wr := [(kt, .inr (1, [.int 0, .ref dt, .int 0]))]) (wc := [(kp, .inr (9, [.ref ks, .ref kt, .ref kw, .ref kc, .ref kpr, .int 0, .int 0, .int ck])), (kc, .inr (1, [.int 0, .ref dc, .int 0])), (kwk, .inr (11, [.ref kq, .ref kst, .ref ko, .ref kr])), (kq, .inr (1, [.int 0, .ref dq, .int 0])), (kst, .inr (1, [.int 0, .ref ds, .int 0])), (kw, .inr (1, [.int 1, .ref kd, .int 1])), rAr cy kd 10 (va_up (fun _ => none) 0 (some kwk))]) rfl rfl rfl 0 rfl rfl _) rfl hl.1 rfl (Nat.le_of_ble_eq_true rfl) dX7_isHalted_18 ⟨Nat.le_of_ble_eq_true rfl, Nat.le_of_ble_eq_true rfl⟩ (fun u4 H locs k5 h => ?_)
  have h : rH D E cy X [(kt, .inr (1, [.int 0, .ref dt, .int 0])), (kp, .inr (9, [.ref ks, .ref kt, .ref kw, .ref kc, .ref kpr, .int 0, .int 0, .int ck])), (kc, .inr (1, [.int 0, .ref dc, .int 0])), (kwk, .inr (11, [.ref kq, .ref kst, .ref ko, .ref kr])), (kq, .inr (1, [.int 0, .ref dq, .int 0])), (kst, .inr (1, [.int 0, .ref ds, .int 0])), (kw, .inr (1, [.int 1, .ref kd, .int 1])), rAr cy kd 10 (va_up (fun _ => none) 0 (some kwk))] A s H _ := h
  refine lv_ior hx hb dX7_isHalted_21 ?_
  refine lv_topi (fun x6 ex6 => ?_)
  obtain rfl : x6 = 0 := by rw [ex6]; decide
  refine lv_istore_n (lv' := [(1, .int 0), (2, .int 0), (0, .ref kp)]) hx hb dX7_isHalted_22 rfl hl (by decide) rfl (fun ls hl => ?_)
  refine lv_iinc (v := 1) (lv' := [(2, .int 1), (1, .int 0), (0, .ref kp)]) hx hb dX7_isHalted_23 hl (k := 1) rfl (by decide) (by decide) rfl (fun ls hl => ?_)
  refine lv_goto (tgt := 4) hx hb dX7_isHalted_26 (by decide) ?_
  refine lv_iload_n hx hb dX7_isHalted_4 rfl (lv_at hl 0 rfl) ?_
  refine lv_aload_n hx hb dX7_isHalted_5 rfl (lv_at hl 2 rfl) ?_
  refine r_get S h 1 inX7 (ref := "BobbinPoolModel$Pool") rfl rfl (k := 2) (by decide) (by decide +kernel) (fun _ h9 => h9) rfl dX7_isHalted_6 ?_
  refine r_calli S h (k_AL_size l D E cy _ A kw kd 1 1) (cwV 0 hts gX7_isHalted_Jx4a65c_size_8abf5 rfl rfl rfl (by decide +kernel) ⟨Nat.le_of_ble_eq_true rfl, Nat.le_of_ble_eq_true rfl⟩) (r_preV h [0, 1, 2, 3, 4, 5, 7] [6] (wr := [(kt, .inr (1, [.int 0, .ref dt, .int 0])), (kp, .inr (9, [.ref ks, .ref kt, .ref kw, .ref kc, .ref kpr, .int 0, .int 0, .int ck])), (kc, .inr (1, [.int 0, .ref dc, .int 0])), (kwk, .inr (11, [.ref kq, .ref kst, .ref ko, .ref kr])), (kq, .inr (1, [.int 0, .ref dq, .int 0])), (kst, .inr (1, [.int 0, .ref ds, .int 0])), rAr cy kd 10 (va_up (fun _ => none) 0 (some kwk))]) (wc := [(kw, .inr (1, [.int 1, .ref kd, .int 1]))]) rfl rfl rfl 6 rfl rfl _) rfl hl.1 rfl (Nat.le_of_ble_eq_true rfl) dX7_isHalted_9 ⟨Nat.le_of_ble_eq_true rfl, Nat.le_of_ble_eq_true rfl⟩ (fun u7 H locs k8 h => ?_)
  have h : rH D E cy X [(kt, .inr (1, [.int 0, .ref dt, .int 0])), (kp, .inr (9, [.ref ks, .ref kt, .ref kw, .ref kc, .ref kpr, .int 0, .int 0, .int ck])), (kc, .inr (1, [.int 0, .ref dc, .int 0])), (kwk, .inr (11, [.ref kq, .ref kst, .ref ko, .ref kr])), (kq, .inr (1, [.int 0, .ref dq, .int 0])), (kst, .inr (1, [.int 0, .ref ds, .int 0])), rAr cy kd 10 (va_up (fun _ => none) 0 (some kwk)), (kw, .inr (1, [.int 1, .ref kd, .int 1]))] A s H _ := h
  refine lv_icmp_ge (tgt := 29) hx hb dX7_isHalted_12 (by decide) (fun c9 => ?_) (fun c9 => absurd (by decide) c9)
  refine lv_iload_n hx hb dX7_isHalted_29 rfl (lv_at hl 1 rfl) ?_
  refine lv_if_ne (tgt := 44) hx hb dX7_isHalted_30 (by decide) (fun c10 => absurd (by decide) c10) (fun c10 => ?_)
  refine lv_aload_n hx hb dX7_isHalted_33 rfl (lv_at hl 2 rfl) ?_
  refine r_calli S h (k_open l D E cy _ A kp ks kt kw kc kpr dt ck) (cwV 0 hts gX7_isHalted_X7_open rfl rfl rfl (by decide +kernel) ⟨Nat.le_of_ble_eq_true rfl, Nat.le_of_ble_eq_true rfl⟩) (r_preV h [2, 3, 4, 5, 6, 7] [1, 0] (wr := [(kc, .inr (1, [.int 0, .ref dc, .int 0])), (kwk, .inr (11, [.ref kq, .ref kst, .ref ko, .ref kr])), (kq, .inr (1, [.int 0, .ref dq, .int 0])), (kst, .inr (1, [.int 0, .ref ds, .int 0])), rAr cy kd 10 (va_up (fun _ => none) 0 (some kwk)), (kw, .inr (1, [.int 1, .ref kd, .int 1]))]) (wc := [(kp, .inr (9, [.ref ks, .ref kt, .ref kw, .ref kc, .ref kpr, .int 0, .int 0, .int ck])), (kt, .inr (1, [.int 0, .ref dt, .int 0]))]) rfl rfl rfl 1 rfl rfl _) rfl hl.1 rfl (Nat.le_of_ble_eq_true rfl) dX7_isHalted_34 ⟨Nat.le_of_ble_eq_true rfl, Nat.le_of_ble_eq_true rfl⟩ (fun u11 H locs k12 h => ?_)
  have h : rH D E cy X [(kc, .inr (1, [.int 0, .ref dc, .int 0])), (kwk, .inr (11, [.ref kq, .ref kst, .ref ko, .ref kr])), (kq, .inr (1, [.int 0, .ref dq, .int 0])), (kst, .inr (1, [.int 0, .ref ds, .int 0])), rAr cy kd 10 (va_up (fun _ => none) 0 (some kwk)), (kw, .inr (1, [.int 1, .ref kd, .int 1])), (kp, .inr (9, [.ref ks, .ref kt, .ref kw, .ref kc, .ref kpr, .int 0, .int 0, .int ck])), (kt, .inr (1, [.int 0, .ref dt, .int 0]))] A s H _ := h
  refine lv_if_le (tgt := 44) hx hb dX7_isHalted_37 (by decide) (fun c13 => ?_) (fun c13 => absurd (by decide) c13)
  refine lv_iconst (v := 0) hx hb dX7_isHalted_44 (by decide) ?_
  have h := h.pick [6, 7, 0, 1, 2, 3, 5, 4] (w := [(kp, .inr (9, [.ref ks, .ref kt, .ref kw, .ref kc, .ref kpr, .int 0, .int 0, .int ck])), (kt, .inr (1, [.int 0, .ref dt, .int 0])), (kc, .inr (1, [.int 0, .ref dc, .int 0])), (kwk, .inr (11, [.ref kq, .ref kst, .ref ko, .ref kr])), (kq, .inr (1, [.int 0, .ref dq, .int 0])), (kst, .inr (1, [.int 0, .ref ds, .int 0])), (kw, .inr (1, [.int 1, .ref kd, .int 1])), rAr cy kd 10 (va_up (fun _ => none) 0 (some kwk))]) rfl rfl
  exact r_reti S h () rfl trivial hr hlocks rfl (rfl) ⟨Nat.le_of_ble_eq_true rfl, Nat.le_of_ble_eq_true rfl⟩ dX7_isHalted_45
set_option maxHeartbeats 4000000 in
set_option maxRecDepth 100000 in
/-- take(0) -/
theorem k_take (l : Launch) (D : va_G) (E : rEn) (cy : rC) (X : va_W) (A : Nat → Prop) (kp ks kt kw kc kpr dc kwk kq kst ko kr dq kd : Nat) (ck : Int32) : rMi l yX7_take wsX7_take { frames := 3, cells := 0, slots := 0, locals := 64 } D E cy X [(kp, .inr (9, [.ref ks, .ref kt, .ref kw, .ref kc, .ref kpr, .int 0, .int 0, .int ck])), (kc, .inr (1, [.int 0, .ref dc, .int 0])), (kwk, .inr (11, [.ref kq, .ref kst, .ref ko, .ref kr])), (kq, .inr (1, [.int 0, .ref dq, .int 0])), (kw, .inr (1, [.int 1, .ref kd, .int 1])), rAr cy kd 10 (va_up (fun _ => none) 0 (some kwk))] A [.ref kp, .int 0] 0 (fun (_ : Unit) => [(kp, .inr (9, [.ref ks, .ref kt, .ref kw, .ref kc, .ref kpr, .int 0, .int 0, .int ck])), (kc, .inr (1, [.int 0, .ref dc, .int 0])), (kwk, .inr (11, [.ref kq, .ref kst, .ref ko, .ref kr])), (kq, .inr (1, [.int 0, .ref dq, .int 0])), (kw, .inr (1, [.int 1, .ref kd, .int 1])), rAr cy kd 10 (va_up (fun _ => none) 0 (some kwk))]) (fun _ => True) 0 0 := by
  refine r_entry (cc := cX7_take) (maxL := 6) (ret := (some .int)) (by decide +kernel) rfl (Nat.le_of_ble_eq_true rfl) ?_
  intro p e s m args below meth c ls B
  obtain ⟨S, hr, hlocks, hmi, h, hl⟩ := B
  have hx := S.1
  have hb := S.2.1
  have hts := S.2.2.2.2
  have inX7 : ∀ w ∈ wsX70, w ∈ wsX7_take := by decide +kernel
  have inX9 : ∀ w ∈ wsX90, w ∈ wsX7_take := by decide +kernel
  have hl : lv_has ls 6 [(0, .ref kp), (1, .int 0)] := hl
  refine lv_aload_n hx hb dX7_take_0 rfl (lv_at hl 0 rfl) ?_
  refine r_get S h 0 inX7 (ref := "BobbinPoolModel$Pool") rfl rfl (k := 2) (by decide) (by decide +kernel) (fun _ h9 => h9) rfl dX7_take_1 ?_
  refine lv_iload_n hx hb dX7_take_4 rfl (lv_at hl 1 rfl) ?_
  refine r_callr S h (k_AL_get0 l D E cy _ A kw kd kwk 1) (cwV 1 hts gX7_take_Jx4a65c_get_915e3 rfl rfl rfl (by decide +kernel) ⟨Nat.le_of_ble_eq_true rfl, Nat.le_of_ble_eq_true rfl⟩) (r_preV h [0, 1, 2, 3] [4, 5] (wr := [(kp, .inr (9, [.ref ks, .ref kt, .ref kw, .ref kc, .ref kpr, .int 0, .int 0, .int ck])), (kc, .inr (1, [.int 0, .ref dc, .int 0])), (kwk, .inr (11, [.ref kq, .ref kst, .ref ko, .ref kr])), (kq, .inr (1, [.int 0, .ref dq, .int 0]))]) (wc := [(kw, .inr (1, [.int 1, .ref kd, .int 1])), rAr cy kd 10 (va_up (fun _ => none) 0 (some kwk))]) rfl rfl rfl 4 rfl rfl _) rfl hl.1 rfl (Nat.le_of_ble_eq_true rfl) dX7_take_5 ⟨Nat.le_of_ble_eq_true rfl, Nat.le_of_ble_eq_true rfl⟩ (fun u1 H locs k2 h => ?_)
  have h : rH D E cy X [(kp, .inr (9, [.ref ks, .ref kt, .ref kw, .ref kc, .ref kpr, .int 0, .int 0, .int ck])), (kc, .inr (1, [.int 0, .ref dc, .int 0])), (kwk, .inr (11, [.ref kq, .ref kst, .ref ko, .ref kr])), (kq, .inr (1, [.int 0, .ref dq, .int 0])), (kw, .inr (1, [.int 1, .ref kd, .int 1])), rAr cy kd 10 (va_up (fun _ => none) 0 (some kwk))] A s H _ := h
  refine r_cast S h 2 rfl rfl (by decide +kernel) dX7_take_8 ?_
  refine lv_astore_n (lv' := [(2, .ref kwk), (0, .ref kp), (1, .int 0)]) hx hb dX7_take_11 rfl hl (by decide) rfl (fun ls hl => ?_)
  refine lv_aload_n hx hb dX7_take_12 rfl (lv_at hl 1 rfl) ?_
  refine lv_iload_n hx hb dX7_take_13 rfl (lv_at hl 2 rfl) ?_
  refine r_calli S h (k_victim l D E cy _ A kp ks kt kw kc kpr kd ck) (cwV 1 hts gX7_take_X7_victim rfl rfl rfl (by decide +kernel) ⟨Nat.le_of_ble_eq_true rfl, Nat.le_of_ble_eq_true rfl⟩) (r_preV h [1, 2, 3, 5] [0, 4] (wr := [(kc, .inr (1, [.int 0, .ref dc, .int 0])), (kwk, .inr (11, [.ref kq, .ref kst, .ref ko, .ref kr])), (kq, .inr (1, [.int 0, .ref dq, .int 0])), rAr cy kd 10 (va_up (fun _ => none) 0 (some kwk))]) (wc := [(kp, .inr (9, [.ref ks, .ref kt, .ref kw, .ref kc, .ref kpr, .int 0, .int 0, .int ck])), (kw, .inr (1, [.int 1, .ref kd, .int 1]))]) rfl rfl rfl 0 rfl rfl _) rfl hl.1 rfl (Nat.le_of_ble_eq_true rfl) dX7_take_14 ⟨Nat.le_of_ble_eq_true rfl, Nat.le_of_ble_eq_true rfl⟩ (fun u3 H locs k4 h => ?_)
  have h : rH D E cy X [(kc, .inr (1, [.int 0, .ref dc, .int 0])), (kwk, .inr (11, [.ref kq, .ref kst, .ref ko, .ref kr])), (kq, .inr (1, [.int 0, .ref dq, .int 0])), rAr cy kd 10 (va_up (fun _ => none) 0 (some kwk)), (kp, .inr (9, [.ref ks, .ref kt, .ref kw, .ref kc, .ref kpr, .int 0, .int 0, .int ck])), (kw, .inr (1, [.int 1, .ref kd, .int 1]))] A s H _ := h
  refine lv_istore_n (lv' := [(3, .int (-1)), (2, .ref kwk), (0, .ref kp), (1, .int 0)]) hx hb dX7_take_17 rfl hl (by decide) rfl (fun ls hl => ?_)
  refine lv_iconst (v := 1) hx hb dX7_take_18 (by decide) ?_
  refine lv_istore (lv' := [(5, .int 1), (3, .int (-1)), (2, .ref kwk), (0, .ref kp), (1, .int 0)]) hx hb dX7_take_19 hl (by decide) rfl (fun ls hl => ?_)
  refine lv_aload_n hx hb dX7_take_21 rfl (lv_at hl 2 rfl) ?_
  refine r_get S h 1 inX9 (ref := "BobbinPoolModel$Worker") rfl rfl (k := 0) (by decide) (by decide +kernel) (fun _ h9 => h9) rfl dX7_take_22 ?_
  refine r_calli S h (k_AL_isEmpty l D E cy _ A kq dq 0) (cwV 0 hts gX7_take_Jx4a65c_isEmpty_aae02 rfl rfl rfl (by decide +kernel) ⟨Nat.le_of_ble_eq_true rfl, Nat.le_of_ble_eq_true rfl⟩) (r_preV h [0, 1, 3, 4, 5] [2] (wr := [(kc, .inr (1, [.int 0, .ref dc, .int 0])), (kwk, .inr (11, [.ref kq, .ref kst, .ref ko, .ref kr])), rAr cy kd 10 (va_up (fun _ => none) 0 (some kwk)), (kp, .inr (9, [.ref ks, .ref kt, .ref kw, .ref kc, .ref kpr, .int 0, .int 0, .int ck])), (kw, .inr (1, [.int 1, .ref kd, .int 1]))]) (wc := [(kq, .inr (1, [.int 0, .ref dq, .int 0]))]) rfl rfl rfl 2 rfl rfl _) rfl hl.1 rfl (Nat.le_of_ble_eq_true rfl) dX7_take_25 ⟨Nat.le_of_ble_eq_true rfl, Nat.le_of_ble_eq_true rfl⟩ (fun u5 H locs k6 h => ?_)
  have h : rH D E cy X [(kc, .inr (1, [.int 0, .ref dc, .int 0])), (kwk, .inr (11, [.ref kq, .ref kst, .ref ko, .ref kr])), rAr cy kd 10 (va_up (fun _ => none) 0 (some kwk)), (kp, .inr (9, [.ref ks, .ref kt, .ref kw, .ref kc, .ref kpr, .int 0, .int 0, .int ck])), (kw, .inr (1, [.int 1, .ref kd, .int 1])), (kq, .inr (1, [.int 0, .ref dq, .int 0]))] A s H _ := h
  refine lv_if_ne (tgt := 58) hx hb dX7_take_28 (by decide) (fun c7 => ?_) (fun c7 => absurd c7 (by decide))
  refine lv_aload_n hx hb dX7_take_58 rfl (lv_at hl 3 rfl) ?_
  refine r_get S h 3 inX7 (ref := "BobbinPoolModel$Pool") rfl rfl (k := 3) (by decide) (by decide +kernel) (fun _ h9 => h9) rfl dX7_take_59 ?_
  refine r_calli S h (k_AL_isEmpty l D E cy _ A kc dc 0) (cwV 0 hts gX7_take_Jx4a65c_isEmpty_aae02 rfl rfl rfl (by decide +kernel) ⟨Nat.le_of_ble_eq_true rfl, Nat.le_of_ble_eq_true rfl⟩) (r_preV h [1, 2, 3, 4, 5] [0] (wr := [(kwk, .inr (11, [.ref kq, .ref kst, .ref ko, .ref kr])), rAr cy kd 10 (va_up (fun _ => none) 0 (some kwk)), (kp, .inr (9, [.ref ks, .ref kt, .ref kw, .ref kc, .ref kpr, .int 0, .int 0, .int ck])), (kw, .inr (1, [.int 1, .ref kd, .int 1])), (kq, .inr (1, [.int 0, .ref dq, .int 0]))]) (wc := [(kc, .inr (1, [.int 0, .ref dc, .int 0]))]) rfl rfl rfl 0 rfl rfl _) rfl hl.1 rfl (Nat.le_of_ble_eq_true rfl) dX7_take_62 ⟨Nat.le_of_ble_eq_true rfl, Nat.le_of_ble_eq_true rfl⟩ (fun u8 H locs k9 h => ?_)
  have h : rH D E cy X [(kwk, .inr (11, [.ref kq, .ref kst, .ref ko, .ref kr])), rAr cy kd 10 (va_up (fun _ => none) 0 (some kwk)), (kp, .inr (9, [.ref ks, .ref kt, .ref kw, .ref kc, .ref kpr, .int 0, .int 0, .int ck])), (kw, .inr (1, [.int 1, .ref kd, .int 1])), (kq, .inr (1, [.int 0, .ref dq, .int 0])), (kc, .inr (1, [.int 0, .ref dc, .int 0]))] A s H _ := h
  refine lv_if_ne (tgt := 87) hx hb dX7_take_65 (by decide) (fun c10 => ?_) (fun c10 => absurd c10 (by decide))
  refine lv_iload_n hx hb dX7_take_87 rfl (lv_at hl 1 rfl) ?_
  refine lv_iconst (v := (-1)) hx hb dX7_take_88 (by decide) ?_
  refine lv_icmp_eq (tgt := 134) hx hb dX7_take_89 (by decide) (fun c11 => ?_) (fun c11 => absurd (by decide) c11)
  refine lv_iconst (v := 0) hx hb dX7_take_134 (by decide) ?_
  have h := h.pick [2, 5, 0, 4, 3, 1] (w := [(kp, .inr (9, [.ref ks, .ref kt, .ref kw, .ref kc, .ref kpr, .int 0, .int 0, .int ck])), (kc, .inr (1, [.int 0, .ref dc, .int 0])), (kwk, .inr (11, [.ref kq, .ref kst, .ref ko, .ref kr])), (kq, .inr (1, [.int 0, .ref dq, .int 0])), (kw, .inr (1, [.int 1, .ref kd, .int 1])), rAr cy kd 10 (va_up (fun _ => none) 0 (some kwk))]) rfl rfl
  exact r_reti S h () rfl trivial hr hlocks rfl (rfl) ⟨Nat.le_of_ble_eq_true rfl, Nat.le_of_ble_eq_true rfl⟩ dX7_take_135
