theorem gsu_p1 {st : gSt} {i k b : Nat} {v : Int32} : gsu st (i + 1) k v i b = st i b := gsu_ni (by omega)
theorem gsu_p2 {st : gSt} {i k b : Nat} {v : Int32} : gsu st (i + 2) k v i b = st i b := gsu_ni (by omega)
set_option maxHeartbeats 4000000 in
set_option maxRecDepth 100000 in
/-- Row.clear() -/
theorem c_X2_clear (l : Launch) (D : va_G) (L : Nat → Nat) (cy : Nat → ClassId) (X : va_W) (A : Nat → Prop) (st : gSt) (hD : va_D A (X ++ gW L cy st)) {i : Nat} (hi : gkd i = 10) : gMv l yX2_clear wsX2_clear { frames := 0, cells := 0, slots := 0, locals := 0 } D L cy X A [.ref (L i)] st (gsu st i 1 0) := by
  refine g_entry hD (cc := cX2_clear) (maxL := 1) (ret := none) (by decide) rfl (Nat.le_of_ble_eq_true rfl) ?_
  intro p e s m args below meth c ls B
  obtain ⟨S, hr, hlocks, h, hl⟩ := B
  have hx := S.1
  have hb := S.2.1
  have hts := S.2.2.2.2
  have in2 : ∀ w ∈ wsX20, w ∈ wsX2_clear := by decide +kernel
  have hl : lv_has ls 1 [(0, .ref (L i))] := hl
  refine lv_aload_n hx hb dX2_clear_0 rfl (lv_at hl 0 rfl) ?_
  refine lv_iconst (v := 0) hx hb dX2_clear_1 (by decide) ?_
  refine g_put S h tyX2 tyX2_ok nmX2 hi (by decide) rfl rfl in2 (k := 1) (by decide) (by decide +kernel) rfl rfl (Nat.le_of_ble_eq_true rfl) rfl dX2_clear_2 (fun H locs h => ?_)
  exact g_retv S h hr hlocks rfl dX2_clear_5
set_option maxHeartbeats 4000000 in
set_option maxRecDepth 100000 in
/-- Row.at(place) -/
theorem c_X2_at (l : Launch) (D : va_G) (L : Nat → Nat) (cy : Nat → ClassId) (X : va_W) (A : Nat → Prop) (st : gSt) (hD : va_D A (X ++ gW L cy st)) {i : Nat} (hi : gkd i = 10) (x : Int32) : gMi l yX2_at wsX2_at { frames := 0, cells := 0, slots := 0, locals := 0 } D L cy X A [.ref (L i), .int x] st (f_at st i x) st := by
  refine g_entry hD (cc := cX2_at) (maxL := 2) (ret := (some .int)) (by decide) rfl (Nat.le_of_ble_eq_true rfl) ?_
  intro p e s m args below meth c ls B
  obtain ⟨S, hr, hlocks, h, hl⟩ := B
  have hx := S.1
  have hb := S.2.1
  have hts := S.2.2.2.2
  have in2 : ∀ w ∈ wsX20, w ∈ wsX2_at := by decide +kernel
  have hl : lv_has ls 2 [(0, .ref (L i)), (1, .int x)] := hl
  refine lv_iload_n hx hb dX2_at_0 rfl (lv_at hl 1 rfl) ?_
  refine lv_if_lt (tgt := 27) hx hb dX2_at_1 (by decide) (fun c1 => ?_) (fun c1 => ?_)
  · refine lv_iconst (v := (-1)) hx hb dX2_at_27 (by decide) ?_
    exact g_reti S h hr hlocks rfl (by simp only [f_at, if_pos c1]) rfl dX2_at_28
  · refine lv_iload_n hx hb dX2_at_4 rfl (lv_at hl 1 rfl) ?_
    refine lv_aload_n hx hb dX2_at_5 rfl (lv_at hl 0 rfl) ?_
    refine g_get S h hi (by decide) rfl rfl in2 (k := 1) (by decide) (by decide +kernel) rfl dX2_at_6 ?_
    refine lv_icmp_ge (tgt := 27) hx hb dX2_at_9 (by decide) (fun c2 => ?_) (fun c2 => ?_)
    · refine lv_iconst (v := (-1)) hx hb dX2_at_27 (by decide) ?_
      exact g_reti S h hr hlocks rfl (by simp only [f_at, if_neg c1, if_pos c2]) rfl dX2_at_28
    · refine lv_iload_n hx hb dX2_at_12 rfl (lv_at hl 1 rfl) ?_
      refine lv_bipush (v := 24) hx hb dX2_at_13 (by decide) ?_
      refine lv_icmp_ge (tgt := 27) hx hb dX2_at_15 (by decide) (fun c3 => ?_) (fun c3 => ?_)
      · refine lv_iconst (v := (-1)) hx hb dX2_at_27 (by decide) ?_
        exact g_reti S h hr hlocks rfl (by simp only [f_at, if_neg c1, if_neg c2, if_pos c3]) rfl dX2_at_28
      · refine lv_aload_n hx hb dX2_at_18 rfl (lv_at hl 0 rfl) ?_
        refine g_get S h hi (by decide) rfl rfl in2 (k := 0) (by decide) (by decide +kernel) rfl dX2_at_19 ?_
        refine lv_iload_n hx hb dX2_at_22 rfl (lv_at hl 1 rfl) ?_
        refine g_ial S h (gk10_1 hi) (by decide) rfl (gin c1 c3 rfl) dX2_at_23 ?_
        refine lv_goto (tgt := 28) hx hb dX2_at_24 (by decide) ?_
        exact g_reti S h hr hlocks rfl (by simp only [f_at, if_neg c1, if_neg c2, if_neg c3]) rfl dX2_at_28
set_option maxHeartbeats 4000000 in
set_option maxRecDepth 100000 in
/-- Row.last() -/
theorem c_X2_last (l : Launch) (D : va_G) (L : Nat → Nat) (cy : Nat → ClassId) (X : va_W) (A : Nat → Prop) (st : gSt) (hD : va_D A (X ++ gW L cy st)) {i : Nat} (hi : gkd i = 10) : gMi l yX2_last wsX2_last { frames := 1, cells := 0, slots := 0, locals := 21 } D L cy X A [.ref (L i)] st (f_last st i) st := by
  refine g_entry hD (cc := cX2_last) (maxL := 1) (ret := (some .int)) (by decide) rfl (Nat.le_of_ble_eq_true rfl) ?_
  intro p e s m args below meth c ls B
  obtain ⟨S, hr, hlocks, h, hl⟩ := B
  have hx := S.1
  have hb := S.2.1
  have hts := S.2.2.2.2
  have in2 : ∀ w ∈ wsX20, w ∈ wsX2_last := by decide +kernel
  have hl : lv_has ls 1 [(0, .ref (L i))] := hl
  refine lv_aload_n hx hb dX2_last_0 rfl (lv_at hl 0 rfl) ?_
  refine lv_aload_n hx hb dX2_last_1 rfl (lv_at hl 0 rfl) ?_
  refine g_get S h hi (by decide) rfl rfl in2 (k := 1) (by decide) (by decide +kernel) rfl dX2_last_2 ?_
  refine lv_iconst (v := 1) hx hb dX2_last_5 (by decide) ?_
  refine lv_isub hx hb dX2_last_6 ?_
  refine g_calli S h (c_X2_at l D L cy X A _ (h.2.2.2.2 _) hi _) (cwV 1 hts gX2_last_X2_at rfl rfl rfl (by decide +kernel) ⟨Nat.le_of_ble_eq_true rfl, Nat.le_of_ble_eq_true rfl⟩) (g_pre h hi (by decide) rfl rfl _) rfl hl.1 rfl (Nat.le_of_ble_eq_true rfl) dX2_last_7 ⟨Nat.zero_le _, Nat.zero_le _⟩ (fun H locs h => ?_)
  exact g_reti S h hr hlocks rfl rfl rfl dX2_last_10
set_option maxHeartbeats 4000000 in
set_option maxRecDepth 100000 in
/-- Row.append(number) -/
theorem c_X2_append (l : Launch) (D : va_G) (L : Nat → Nat) (cy : Nat → ClassId) (X : va_W) (A : Nat → Prop) (st : gSt) (hD : va_D A (X ++ gW L cy st)) {i : Nat} (hi : gkd i = 10) (n : Int32) : gMv l yX2_append wsX2_append { frames := 0, cells := 0, slots := 0, locals := 0 } D L cy X A [.ref (L i), .int n] st (f_append st i n) := by
  refine g_entry hD (cc := cX2_append) (maxL := 2) (ret := none) (by decide) rfl (Nat.le_of_ble_eq_true rfl) ?_
  intro p e s m args below meth c ls B
  obtain ⟨S, hr, hlocks, h, hl⟩ := B
  have hx := S.1
  have hb := S.2.1
  have hts := S.2.2.2.2
  have in2 : ∀ w ∈ wsX20, w ∈ wsX2_append := by decide +kernel
  have hl : lv_has ls 2 [(0, .ref (L i)), (1, .int n)] := hl
  refine lv_aload_n hx hb dX2_append_0 rfl (lv_at hl 0 rfl) ?_
  refine g_get S h hi (by decide) rfl rfl in2 (k := 1) (by decide) (by decide +kernel) rfl dX2_append_1 ?_
  refine lv_if_lt (tgt := 36) hx hb dX2_append_4 (by decide) (fun c1 => ?_) (fun c1 => ?_)
  · exact g_retv S h hr hlocks (by simp only [f_append, gsu_p1, if_pos c1]) dX2_append_36
  · refine lv_aload_n hx hb dX2_append_7 rfl (lv_at hl 0 rfl) ?_
    refine g_get S h hi (by decide) rfl rfl in2 (k := 1) (by decide) (by decide +kernel) rfl dX2_append_8 ?_
    refine lv_bipush (v := 24) hx hb dX2_append_11 (by decide) ?_
    refine lv_icmp_ge (tgt := 36) hx hb dX2_append_13 (by decide) (fun c2 => ?_) (fun c2 => ?_)
    · exact g_retv S h hr hlocks (by simp only [f_append, gsu_p1, if_neg c1, if_pos c2]) dX2_append_36
    · refine lv_aload_n hx hb dX2_append_16 rfl (lv_at hl 0 rfl) ?_
      refine g_get S h hi (by decide) rfl rfl in2 (k := 0) (by decide) (by decide +kernel) rfl dX2_append_17 ?_
      refine lv_aload_n hx hb dX2_append_20 rfl (lv_at hl 0 rfl) ?_
      refine g_get S h hi (by decide) rfl rfl in2 (k := 1) (by decide) (by decide +kernel) rfl dX2_append_21 ?_
      refine lv_iload_n hx hb dX2_append_24 rfl (lv_at hl 1 rfl) ?_
      refine g_ias S h (gk10_1 hi) (by decide) (fun _ => rfl) (gin c1 c2 rfl) dX2_append_25 (fun H locs h => ?_)
      refine lv_aload_n hx hb dX2_append_26 rfl (lv_at hl 0 rfl) ?_
      refine lv_dup hx hb dX2_append_27 rfl ?_
      refine g_get S h hi (by decide) rfl rfl in2 (k := 1) (by decide) (by decide +kernel) rfl dX2_append_28 ?_
      refine lv_iconst (v := 1) hx hb dX2_append_31 (by decide) ?_
      refine lv_iadd hx hb dX2_append_32 ?_
      refine g_put S h tyX2 tyX2_ok nmX2 hi (by decide) rfl rfl in2 (k := 1) (by decide) (by decide +kernel) rfl rfl (Nat.le_of_ble_eq_true rfl) rfl dX2_append_33 (fun H locs h => ?_)
      exact g_retv S h hr hlocks (by simp only [f_append, gsu_p1, if_neg c1, if_neg c2]) dX2_append_36
set_option maxHeartbeats 4000000 in
set_option maxRecDepth 100000 in
/-- Script.append(code, n) -/
theorem c_X3_append (l : Launch) (D : va_G) (L : Nat → Nat) (cy : Nat → ClassId) (X : va_W) (A : Nat → Prop) (st : gSt) (hD : va_D A (X ++ gW L cy st)) {i : Nat} (hi : gkd i = 3) (a b : Int32) : gMv l yX3_append wsX3_append { frames := 0, cells := 0, slots := 0, locals := 0 } D L cy X A [.ref (L i), .int a, .int b] st (f_sapp st i a b) := by
  refine g_entry hD (cc := cX3_append) (maxL := 3) (ret := none) (by decide) rfl (Nat.le_of_ble_eq_true rfl) ?_
  intro p e s m args below meth c ls B
  obtain ⟨S, hr, hlocks, h, hl⟩ := B
  have hx := S.1
  have hb := S.2.1
  have hts := S.2.2.2.2
  have in3 : ∀ w ∈ wsX30, w ∈ wsX3_append := by decide +kernel
  have hl : lv_has ls 3 [(0, .ref (L i)), (1, .int a), (2, .int b)] := hl
  refine lv_aload_n hx hb dX3_append_0 rfl (lv_at hl 0 rfl) ?_
  refine g_get S h hi (by decide) rfl rfl in3 (k := 2) (by decide) (by decide +kernel) rfl dX3_append_1 ?_
  refine lv_if_lt (tgt := 46) hx hb dX3_append_4 (by decide) (fun c1 => ?_) (fun c1 => ?_)
  · exact g_retv S h hr hlocks (by simp only [f_sapp, gsu_p1, gsu_p2, if_pos c1]) dX3_append_46
  · refine lv_aload_n hx hb dX3_append_7 rfl (lv_at hl 0 rfl) ?_
    refine g_get S h hi (by decide) rfl rfl in3 (k := 2) (by decide) (by decide +kernel) rfl dX3_append_8 ?_
    refine lv_bipush (v := 12) hx hb dX3_append_11 (by decide) ?_
    refine lv_icmp_ge (tgt := 46) hx hb dX3_append_13 (by decide) (fun c2 => ?_) (fun c2 => ?_)
    · exact g_retv S h hr hlocks (by simp only [f_sapp, gsu_p1, gsu_p2, if_neg c1, if_pos c2]) dX3_append_46
    · refine lv_aload_n hx hb dX3_append_16 rfl (lv_at hl 0 rfl) ?_
      refine g_get S h hi (by decide) rfl rfl in3 (k := 0) (by decide) (by decide +kernel) rfl dX3_append_17 ?_
      refine lv_aload_n hx hb dX3_append_20 rfl (lv_at hl 0 rfl) ?_
      refine g_get S h hi (by decide) rfl rfl in3 (k := 2) (by decide) (by decide +kernel) rfl dX3_append_21 ?_
      refine lv_iload_n hx hb dX3_append_24 rfl (lv_at hl 1 rfl) ?_
      refine g_ias S h (gk3_1 hi) (by decide) (fun _ => rfl) (by (try simp only [gsu_p1]); exact gin c1 c2 rfl) dX3_append_25 (fun H locs h => ?_)
      refine lv_aload_n hx hb dX3_append_26 rfl (lv_at hl 0 rfl) ?_
      refine g_get S h hi (by decide) rfl rfl in3 (k := 1) (by decide) (by decide +kernel) rfl dX3_append_27 ?_
      refine lv_aload_n hx hb dX3_append_30 rfl (lv_at hl 0 rfl) ?_
      refine g_get S h hi (by decide) rfl rfl in3 (k := 2) (by decide) (by decide +kernel) rfl dX3_append_31 ?_
      refine lv_iload_n hx hb dX3_append_34 rfl (lv_at hl 2 rfl) ?_
      refine g_ias S h (gk3_2 hi) (by decide) (fun _ => rfl) (by (try simp only [gsu_p1]); exact gin c1 c2 rfl) dX3_append_35 (fun H locs h => ?_)
      refine lv_aload_n hx hb dX3_append_36 rfl (lv_at hl 0 rfl) ?_
      refine lv_dup hx hb dX3_append_37 rfl ?_
      refine g_get S h hi (by decide) rfl rfl in3 (k := 2) (by decide) (by decide +kernel) rfl dX3_append_38 ?_
      refine lv_iconst (v := 1) hx hb dX3_append_41 (by decide) ?_
      refine lv_iadd hx hb dX3_append_42 ?_
      refine g_put S h tyX3 tyX3_ok nmX3 hi (by decide) rfl rfl in3 (k := 2) (by decide) (by decide +kernel) rfl rfl (Nat.le_of_ble_eq_true rfl) rfl dX3_append_43 (fun H locs h => ?_)
      exact g_retv S h hr hlocks (by simp only [f_sapp, gsu_p1, gsu_p2, if_neg c1, if_neg c2]) dX3_append_46
set_option maxHeartbeats 4000000 in
set_option maxRecDepth 100000 in
/-- Script.codeAt(step) -/
theorem c_X3_codeAt (l : Launch) (D : va_G) (L : Nat → Nat) (cy : Nat → ClassId) (X : va_W) (A : Nat → Prop) (st : gSt) (hD : va_D A (X ++ gW L cy st)) {i : Nat} (hi : gkd i = 3) (x : Int32) : gMi l yX3_codeAt wsX3_codeAt { frames := 0, cells := 0, slots := 0, locals := 0 } D L cy X A [.ref (L i), .int x] st (f_codeAt st i x) st := by
  refine g_entry hD (cc := cX3_codeAt) (maxL := 2) (ret := (some .int)) (by decide) rfl (Nat.le_of_ble_eq_true rfl) ?_
  intro p e s m args below meth c ls B
  obtain ⟨S, hr, hlocks, h, hl⟩ := B
  have hx := S.1
  have hb := S.2.1
  have hts := S.2.2.2.2
  have in3 : ∀ w ∈ wsX30, w ∈ wsX3_codeAt := by decide +kernel
  have hl : lv_has ls 2 [(0, .ref (L i)), (1, .int x)] := hl
  refine lv_iload_n hx hb dX3_codeAt_0 rfl (lv_at hl 1 rfl) ?_
  refine lv_if_lt (tgt := 19) hx hb dX3_codeAt_1 (by decide) (fun c1 => ?_) (fun c1 => ?_)
  · refine lv_iconst (v := (-1)) hx hb dX3_codeAt_19 (by decide) ?_
    exact g_reti S h hr hlocks rfl (by simp only [f_codeAt, if_pos c1]) rfl dX3_codeAt_20
  · refine lv_iload_n hx hb dX3_codeAt_4 rfl (lv_at hl 1 rfl) ?_
    refine lv_bipush (v := 12) hx hb dX3_codeAt_5 (by decide) ?_
    refine lv_icmp_ge (tgt := 19) hx hb dX3_codeAt_7 (by decide) (fun c2 => ?_) (fun c2 => ?_)
    · refine lv_iconst (v := (-1)) hx hb dX3_codeAt_19 (by decide) ?_
      exact g_reti S h hr hlocks rfl (by simp only [f_codeAt, if_neg c1, if_pos c2]) rfl dX3_codeAt_20
    · refine lv_aload_n hx hb dX3_codeAt_10 rfl (lv_at hl 0 rfl) ?_
      refine g_get S h hi (by decide) rfl rfl in3 (k := 0) (by decide) (by decide +kernel) rfl dX3_codeAt_11 ?_
      refine lv_iload_n hx hb dX3_codeAt_14 rfl (lv_at hl 1 rfl) ?_
      refine g_ial S h (gk3_1 hi) (by decide) rfl (gin c1 c2 rfl) dX3_codeAt_15 ?_
      refine lv_goto (tgt := 20) hx hb dX3_codeAt_16 (by decide) ?_
      exact g_reti S h hr hlocks rfl (by simp only [f_codeAt, if_neg c1, if_neg c2]) rfl dX3_codeAt_20
set_option maxHeartbeats 4000000 in
set_option maxRecDepth 100000 in
/-- Script.numberAt(step) -/
theorem c_X3_numberAt (l : Launch) (D : va_G) (L : Nat → Nat) (cy : Nat → ClassId) (X : va_W) (A : Nat → Prop) (st : gSt) (hD : va_D A (X ++ gW L cy st)) {i : Nat} (hi : gkd i = 3) (x : Int32) : gMi l yX3_numberAt wsX3_numberAt { frames := 0, cells := 0, slots := 0, locals := 0 } D L cy X A [.ref (L i), .int x] st (f_numberAt st i x) st := by
  refine g_entry hD (cc := cX3_numberAt) (maxL := 2) (ret := (some .int)) (by decide) rfl (Nat.le_of_ble_eq_true rfl) ?_
  intro p e s m args below meth c ls B
  obtain ⟨S, hr, hlocks, h, hl⟩ := B
  have hx := S.1
  have hb := S.2.1
  have hts := S.2.2.2.2
  have in3 : ∀ w ∈ wsX30, w ∈ wsX3_numberAt := by decide +kernel
  have hl : lv_has ls 2 [(0, .ref (L i)), (1, .int x)] := hl
  refine lv_iload_n hx hb dX3_numberAt_0 rfl (lv_at hl 1 rfl) ?_
  refine lv_if_lt (tgt := 19) hx hb dX3_numberAt_1 (by decide) (fun c1 => ?_) (fun c1 => ?_)
  · refine lv_iconst (v := 0) hx hb dX3_numberAt_19 (by decide) ?_
    exact g_reti S h hr hlocks rfl (by simp only [f_numberAt, if_pos c1]) rfl dX3_numberAt_20
  · refine lv_iload_n hx hb dX3_numberAt_4 rfl (lv_at hl 1 rfl) ?_
    refine lv_bipush (v := 12) hx hb dX3_numberAt_5 (by decide) ?_
    refine lv_icmp_ge (tgt := 19) hx hb dX3_numberAt_7 (by decide) (fun c2 => ?_) (fun c2 => ?_)
    · refine lv_iconst (v := 0) hx hb dX3_numberAt_19 (by decide) ?_
      exact g_reti S h hr hlocks rfl (by simp only [f_numberAt, if_neg c1, if_pos c2]) rfl dX3_numberAt_20
    · refine lv_aload_n hx hb dX3_numberAt_10 rfl (lv_at hl 0 rfl) ?_
      refine g_get S h hi (by decide) rfl rfl in3 (k := 1) (by decide) (by decide +kernel) rfl dX3_numberAt_11 ?_
      refine lv_iload_n hx hb dX3_numberAt_14 rfl (lv_at hl 1 rfl) ?_
      refine g_ial S h (gk3_2 hi) (by decide) rfl (gin c1 c2 rfl) dX3_numberAt_15 ?_
      refine lv_goto (tgt := 20) hx hb dX3_numberAt_16 (by decide) ?_
      exact g_reti S h hr hlocks rfl (by simp only [f_numberAt, if_neg c1, if_neg c2]) rfl dX3_numberAt_20
set_option maxHeartbeats 4000000 in
set_option maxRecDepth 100000 in
/-- Task.begin(job, parent) -/
theorem c_X4_begin (l : Launch) (D : va_G) (L : Nat → Nat) (cy : Nat → ClassId) (X : va_W) (A : Nat → Prop) (st : gSt) (hD : va_D A (X ++ gW L cy st)) {i : Nat} (hi : gkd i = 7) (a b : Int32) : gMv l yX4_begin wsX4_begin { frames := 0, cells := 0, slots := 0, locals := 0 } D L cy X A [.ref (L i), .int a, .int b] st (f_begin st i a b) := by
  refine g_entry hD (cc := cX4_begin) (maxL := 3) (ret := none) (by decide) rfl (Nat.le_of_ble_eq_true rfl) ?_
  intro p e s m args below meth c ls B
  obtain ⟨S, hr, hlocks, h, hl⟩ := B
  have hx := S.1
  have hb := S.2.1
  have hts := S.2.2.2.2
  have in4 : ∀ w ∈ wsX40, w ∈ wsX4_begin := by decide +kernel
  have hl : lv_has ls 3 [(0, .ref (L i)), (1, .int a), (2, .int b)] := hl
  refine lv_aload_n hx hb dX4_begin_0 rfl (lv_at hl 0 rfl) ?_
  refine lv_iload_n hx hb dX4_begin_1 rfl (lv_at hl 1 rfl) ?_
  refine g_put S h tyX4 tyX4_ok nmX4 hi (by decide) rfl rfl in4 (k := 1) (by decide) (by decide +kernel) rfl rfl (Nat.le_of_ble_eq_true rfl) rfl dX4_begin_2 (fun H locs h => ?_)
  refine lv_aload_n hx hb dX4_begin_5 rfl (lv_at hl 0 rfl) ?_
  refine lv_iconst (v := 0) hx hb dX4_begin_6 (by decide) ?_
  refine g_put S h tyX4 tyX4_ok nmX4 hi (by decide) rfl rfl in4 (k := 2) (by decide) (by decide +kernel) rfl rfl (Nat.le_of_ble_eq_true rfl) rfl dX4_begin_7 (fun H locs h => ?_)
  refine lv_aload_n hx hb dX4_begin_10 rfl (lv_at hl 0 rfl) ?_
  refine lv_iconst (v := 0) hx hb dX4_begin_11 (by decide) ?_
  refine g_put S h tyX4 tyX4_ok nmX4 hi (by decide) rfl rfl in4 (k := 3) (by decide) (by decide +kernel) rfl rfl (Nat.le_of_ble_eq_true rfl) rfl dX4_begin_12 (fun H locs h => ?_)
  refine lv_aload_n hx hb dX4_begin_15 rfl (lv_at hl 0 rfl) ?_
  refine lv_iconst (v := 0) hx hb dX4_begin_16 (by decide) ?_
  refine g_put S h tyX4 tyX4_ok nmX4 hi (by decide) rfl rfl in4 (k := 4) (by decide) (by decide +kernel) rfl rfl (Nat.le_of_ble_eq_true rfl) rfl dX4_begin_17 (fun H locs h => ?_)
  refine lv_aload_n hx hb dX4_begin_20 rfl (lv_at hl 0 rfl) ?_
  refine lv_iload_n hx hb dX4_begin_21 rfl (lv_at hl 2 rfl) ?_
  refine g_put S h tyX4 tyX4_ok nmX4 hi (by decide) rfl rfl in4 (k := 5) (by decide) (by decide +kernel) rfl rfl (Nat.le_of_ble_eq_true rfl) rfl dX4_begin_22 (fun H locs h => ?_)
  refine lv_aload_n hx hb dX4_begin_25 rfl (lv_at hl 0 rfl) ?_
  refine lv_iconst (v := 0) hx hb dX4_begin_26 (by decide) ?_
  refine g_put S h tyX4 tyX4_ok nmX4 hi (by decide) rfl rfl in4 (k := 6) (by decide) (by decide +kernel) rfl rfl (Nat.le_of_ble_eq_true rfl) rfl dX4_begin_27 (fun H locs h => ?_)
  refine lv_aload_n hx hb dX4_begin_30 rfl (lv_at hl 0 rfl) ?_
  refine lv_iconst (v := (-1)) hx hb dX4_begin_31 (by decide) ?_
  refine g_put S h tyX4 tyX4_ok nmX4 hi (by decide) rfl rfl in4 (k := 7) (by decide) (by decide +kernel) rfl rfl (Nat.le_of_ble_eq_true rfl) rfl dX4_begin_32 (fun H locs h => ?_)
  refine lv_aload_n hx hb dX4_begin_35 rfl (lv_at hl 0 rfl) ?_
  refine lv_iconst (v := 0) hx hb dX4_begin_36 (by decide) ?_
  refine g_put S h tyX4 tyX4_ok nmX4 hi (by decide) rfl rfl in4 (k := 8) (by decide) (by decide +kernel) rfl rfl (Nat.le_of_ble_eq_true rfl) rfl dX4_begin_37 (fun H locs h => ?_)
  refine lv_aload_n hx hb dX4_begin_40 rfl (lv_at hl 0 rfl) ?_
  refine lv_iconst (v := 0) hx hb dX4_begin_41 (by decide) ?_
  refine g_put S h tyX4 tyX4_ok nmX4 hi (by decide) rfl rfl in4 (k := 9) (by decide) (by decide +kernel) rfl rfl (Nat.le_of_ble_eq_true rfl) rfl dX4_begin_42 (fun H locs h => ?_)
  refine lv_aload_n hx hb dX4_begin_45 rfl (lv_at hl 0 rfl) ?_
  refine lv_iconst (v := (-1)) hx hb dX4_begin_46 (by decide) ?_
  refine g_put S h tyX4 tyX4_ok nmX4 hi (by decide) rfl rfl in4 (k := 10) (by decide) (by decide +kernel) rfl rfl (Nat.le_of_ble_eq_true rfl) rfl dX4_begin_47 (fun H locs h => ?_)
  exact g_retv S h hr hlocks rfl dX4_begin_50
set_option maxHeartbeats 4000000 in
set_option maxRecDepth 100000 in
/-- Task.copyFrom(other) -/
theorem c_X4_copyFrom (l : Launch) (D : va_G) (L : Nat → Nat) (cy : Nat → ClassId) (X : va_W) (A : Nat → Prop) (st : gSt) (hD : va_D A (X ++ gW L cy st)) {i j : Nat} (hi : gkd i = 7) (hj : gkd j = 7) : gMv l yX4_copyFrom wsX4_copyFrom { frames := 0, cells := 0, slots := 0, locals := 0 } D L cy X A [.ref (L i), .ref (L j)] st (f_tcopy st i j) := by
  refine g_entry hD (cc := cX4_copyFrom) (maxL := 2) (ret := none) (by decide) rfl (Nat.le_of_ble_eq_true rfl) ?_
  intro p e s m args below meth c ls B
  obtain ⟨S, hr, hlocks, h, hl⟩ := B
  have hx := S.1
  have hb := S.2.1
  have hts := S.2.2.2.2
  have in4 : ∀ w ∈ wsX40, w ∈ wsX4_copyFrom := by decide +kernel
  have hl : lv_has ls 2 [(0, .ref (L i)), (1, .ref (L j))] := hl
  refine lv_aload_n hx hb dX4_copyFrom_0 rfl (lv_at hl 0 rfl) ?_
  refine lv_aload_n hx hb dX4_copyFrom_1 rfl (lv_at hl 1 rfl) ?_
  refine g_get S h hj (by decide) rfl rfl in4 (k := 1) (by decide) (by decide +kernel) rfl dX4_copyFrom_2 ?_
  refine g_put S h tyX4 tyX4_ok nmX4 hi (by decide) rfl rfl in4 (k := 1) (by decide) (by decide +kernel) rfl rfl (Nat.le_of_ble_eq_true rfl) rfl dX4_copyFrom_5 (fun H locs h => ?_)
  refine lv_aload_n hx hb dX4_copyFrom_8 rfl (lv_at hl 0 rfl) ?_
  refine lv_aload_n hx hb dX4_copyFrom_9 rfl (lv_at hl 1 rfl) ?_
  refine g_get S h hj (by decide) rfl rfl in4 (k := 2) (by decide) (by decide +kernel) rfl dX4_copyFrom_10 ?_
  refine g_put S h tyX4 tyX4_ok nmX4 hi (by decide) rfl rfl in4 (k := 2) (by decide) (by decide +kernel) rfl rfl (Nat.le_of_ble_eq_true rfl) rfl dX4_copyFrom_13 (fun H locs h => ?_)
  refine lv_aload_n hx hb dX4_copyFrom_16 rfl (lv_at hl 0 rfl) ?_
  refine lv_aload_n hx hb dX4_copyFrom_17 rfl (lv_at hl 1 rfl) ?_
  refine g_get S h hj (by decide) rfl rfl in4 (k := 3) (by decide) (by decide +kernel) rfl dX4_copyFrom_18 ?_
  refine g_put S h tyX4 tyX4_ok nmX4 hi (by decide) rfl rfl in4 (k := 3) (by decide) (by decide +kernel) rfl rfl (Nat.le_of_ble_eq_true rfl) rfl dX4_copyFrom_21 (fun H locs h => ?_)
  refine lv_aload_n hx hb dX4_copyFrom_24 rfl (lv_at hl 0 rfl) ?_
  refine lv_aload_n hx hb dX4_copyFrom_25 rfl (lv_at hl 1 rfl) ?_
  refine g_get S h hj (by decide) rfl rfl in4 (k := 4) (by decide) (by decide +kernel) rfl dX4_copyFrom_26 ?_
  refine g_put S h tyX4 tyX4_ok nmX4 hi (by decide) rfl rfl in4 (k := 4) (by decide) (by decide +kernel) rfl rfl (Nat.le_of_ble_eq_true rfl) rfl dX4_copyFrom_29 (fun H locs h => ?_)
  refine lv_aload_n hx hb dX4_copyFrom_32 rfl (lv_at hl 0 rfl) ?_
  refine lv_aload_n hx hb dX4_copyFrom_33 rfl (lv_at hl 1 rfl) ?_
  refine g_get S h hj (by decide) rfl rfl in4 (k := 5) (by decide) (by decide +kernel) rfl dX4_copyFrom_34 ?_
  refine g_put S h tyX4 tyX4_ok nmX4 hi (by decide) rfl rfl in4 (k := 5) (by decide) (by decide +kernel) rfl rfl (Nat.le_of_ble_eq_true rfl) rfl dX4_copyFrom_37 (fun H locs h => ?_)
  refine lv_aload_n hx hb dX4_copyFrom_40 rfl (lv_at hl 0 rfl) ?_
  refine lv_aload_n hx hb dX4_copyFrom_41 rfl (lv_at hl 1 rfl) ?_
  refine g_get S h hj (by decide) rfl rfl in4 (k := 6) (by decide) (by decide +kernel) rfl dX4_copyFrom_42 ?_
  refine g_put S h tyX4 tyX4_ok nmX4 hi (by decide) rfl rfl in4 (k := 6) (by decide) (by decide +kernel) rfl rfl (Nat.le_of_ble_eq_true rfl) rfl dX4_copyFrom_45 (fun H locs h => ?_)
  refine lv_aload_n hx hb dX4_copyFrom_48 rfl (lv_at hl 0 rfl) ?_
  refine lv_aload_n hx hb dX4_copyFrom_49 rfl (lv_at hl 1 rfl) ?_
  refine g_get S h hj (by decide) rfl rfl in4 (k := 7) (by decide) (by decide +kernel) rfl dX4_copyFrom_50 ?_
  refine g_put S h tyX4 tyX4_ok nmX4 hi (by decide) rfl rfl in4 (k := 7) (by decide) (by decide +kernel) rfl rfl (Nat.le_of_ble_eq_true rfl) rfl dX4_copyFrom_53 (fun H locs h => ?_)
  refine lv_aload_n hx hb dX4_copyFrom_56 rfl (lv_at hl 0 rfl) ?_
  refine lv_aload_n hx hb dX4_copyFrom_57 rfl (lv_at hl 1 rfl) ?_
  refine g_get S h hj (by decide) rfl rfl in4 (k := 8) (by decide) (by decide +kernel) rfl dX4_copyFrom_58 ?_
  refine g_put S h tyX4 tyX4_ok nmX4 hi (by decide) rfl rfl in4 (k := 8) (by decide) (by decide +kernel) rfl rfl (Nat.le_of_ble_eq_true rfl) rfl dX4_copyFrom_61 (fun H locs h => ?_)
  refine lv_aload_n hx hb dX4_copyFrom_64 rfl (lv_at hl 0 rfl) ?_
  refine lv_aload_n hx hb dX4_copyFrom_65 rfl (lv_at hl 1 rfl) ?_
  refine g_get S h hj (by decide) rfl rfl in4 (k := 9) (by decide) (by decide +kernel) rfl dX4_copyFrom_66 ?_
  refine g_put S h tyX4 tyX4_ok nmX4 hi (by decide) rfl rfl in4 (k := 9) (by decide) (by decide +kernel) rfl rfl (Nat.le_of_ble_eq_true rfl) rfl dX4_copyFrom_69 (fun H locs h => ?_)
  refine lv_aload_n hx hb dX4_copyFrom_72 rfl (lv_at hl 0 rfl) ?_
  refine lv_aload_n hx hb dX4_copyFrom_73 rfl (lv_at hl 1 rfl) ?_
  refine g_get S h hj (by decide) rfl rfl in4 (k := 10) (by decide) (by decide +kernel) rfl dX4_copyFrom_74 ?_
  refine g_put S h tyX4 tyX4_ok nmX4 hi (by decide) rfl rfl in4 (k := 10) (by decide) (by decide +kernel) rfl rfl (Nat.le_of_ble_eq_true rfl) rfl dX4_copyFrom_77 (fun H locs h => ?_)
  exact g_retv S h hr hlocks (by simp (config := { decide := true }) only [f_tcopy, gsu_nk, ne_eq, not_false_eq_true]) dX4_copyFrom_80
set_option maxHeartbeats 4000000 in
set_option maxRecDepth 100000 in
/-- Task.isBlocked() -/
theorem c_X4_isBlocked (l : Launch) (D : va_G) (L : Nat → Nat) (cy : Nat → ClassId) (X : va_W) (A : Nat → Prop) (st : gSt) (hD : va_D A (X ++ gW L cy st)) {i : Nat} (hi : gkd i = 7) : gMi l yX4_isBlocked wsX4_isBlocked { frames := 0, cells := 0, slots := 0, locals := 0 } D L cy X A [.ref (L i)] st (f_isB st i) st := by
  refine g_entry hD (cc := cX4_isBlocked) (maxL := 1) (ret := (some .boolean)) (by decide) rfl (Nat.le_of_ble_eq_true rfl) ?_
  intro p e s m args below meth c ls B
  obtain ⟨S, hr, hlocks, h, hl⟩ := B
  have hx := S.1
  have hb := S.2.1
  have hts := S.2.2.2.2
  have in4 : ∀ w ∈ wsX40, w ∈ wsX4_isBlocked := by decide +kernel
  have hl : lv_has ls 1 [(0, .ref (L i))] := hl
  refine lv_aload_n hx hb dX4_isBlocked_0 rfl (lv_at hl 0 rfl) ?_
  refine g_get S h hi (by decide) rfl rfl in4 (k := 2) (by decide) (by decide +kernel) rfl dX4_isBlocked_1 ?_
  refine lv_iconst (v := 2) hx hb dX4_isBlocked_4 (by decide) ?_
  refine lv_icmp_eq (tgt := 16) hx hb dX4_isBlocked_5 (by decide) (fun c1 => ?_) (fun c1 => ?_)
  · refine lv_iconst (v := 1) hx hb dX4_isBlocked_16 (by decide) ?_
    refine lv_goto (tgt := 21) hx hb dX4_isBlocked_17 (by decide) ?_
    exact g_reti S h hr hlocks rfl (by simp only [f_isB, if_pos c1]) rfl dX4_isBlocked_21
  · refine lv_aload_n hx hb dX4_isBlocked_8 rfl (lv_at hl 0 rfl) ?_
    refine g_get S h hi (by decide) rfl rfl in4 (k := 2) (by decide) (by decide +kernel) rfl dX4_isBlocked_9 ?_
    refine lv_iconst (v := 3) hx hb dX4_isBlocked_12 (by decide) ?_
    refine lv_icmp_ne (tgt := 20) hx hb dX4_isBlocked_13 (by decide) (fun c2 => ?_) (fun c2 => ?_)
    · refine lv_iconst (v := 0) hx hb dX4_isBlocked_20 (by decide) ?_
      exact g_reti S h hr hlocks rfl (by simp only [f_isB, if_neg c1, if_neg c2]) rfl dX4_isBlocked_21
    · refine lv_iconst (v := 1) hx hb dX4_isBlocked_16 (by decide) ?_
      refine lv_goto (tgt := 21) hx hb dX4_isBlocked_17 (by decide) ?_
      exact g_reti S h hr hlocks rfl (by simp only [f_isB, if_neg c1, if_pos c2]) rfl dX4_isBlocked_21
set_option maxHeartbeats 4000000 in
set_option maxRecDepth 100000 in
/-- Task.isOver() -/
theorem c_X4_isOver (l : Launch) (D : va_G) (L : Nat → Nat) (cy : Nat → ClassId) (X : va_W) (A : Nat → Prop) (st : gSt) (hD : va_D A (X ++ gW L cy st)) {i : Nat} (hi : gkd i = 7) : gMi l yX4_isOver wsX4_isOver { frames := 0, cells := 0, slots := 0, locals := 0 } D L cy X A [.ref (L i)] st (f_isO st i) st := by
  refine g_entry hD (cc := cX4_isOver) (maxL := 1) (ret := (some .boolean)) (by decide) rfl (Nat.le_of_ble_eq_true rfl) ?_
  intro p e s m args below meth c ls B
  obtain ⟨S, hr, hlocks, h, hl⟩ := B
  have hx := S.1
  have hb := S.2.1
  have hts := S.2.2.2.2
  have in4 : ∀ w ∈ wsX40, w ∈ wsX4_isOver := by decide +kernel
  have hl : lv_has ls 1 [(0, .ref (L i))] := hl
  refine lv_aload_n hx hb dX4_isOver_0 rfl (lv_at hl 0 rfl) ?_
  refine g_get S h hi (by decide) rfl rfl in4 (k := 2) (by decide) (by decide +kernel) rfl dX4_isOver_1 ?_
  refine lv_iconst (v := 4) hx hb dX4_isOver_4 (by decide) ?_
  refine lv_icmp_lt (tgt := 12) hx hb dX4_isOver_5 (by decide) (fun c1 => ?_) (fun c1 => ?_)
  · refine lv_iconst (v := 0) hx hb dX4_isOver_12 (by decide) ?_
    exact g_reti S h hr hlocks rfl (by simp only [f_isO, if_pos c1]) rfl dX4_isOver_13
  · refine lv_iconst (v := 1) hx hb dX4_isOver_8 (by decide) ?_
    refine lv_goto (tgt := 13) hx hb dX4_isOver_9 (by decide) ?_
    exact g_reti S h hr hlocks rfl (by simp only [f_isO, if_neg c1]) rfl dX4_isOver_13
theorem gk_c1 : gkd 1 = 1 := by decide +kernel
theorem gk_c2 : gkd 2 = 2 := by decide +kernel
theorem gk_c3 : gkd 3 = 3 := by decide +kernel
theorem gk_c30 : gkd 30 = 5 := by decide +kernel
theorem gk_c97 : gkd 97 = 5 := by decide +kernel
theorem gk_sc (x : Int32) : gkd (f_sc x) = 3 := by
  unfold f_sc
  split
  · exact gk_c3
  · split
    · exact gk_c3
    · rename_i c1 c2
      exact gk2_j (Nat.lt_of_lt_of_le (gin_lt (n := 8) (gin c1 c2 rfl)) (by decide))
set_option maxHeartbeats 4000000 in
set_option maxRecDepth 100000 in
/-- Book.append() -/
theorem c_X0_append (l : Launch) (D : va_G) (L : Nat → Nat) (cy : Nat → ClassId) (X : va_W) (A : Nat → Prop) (st : gSt) (hD : va_D A (X ++ gW L cy st))  : gMi l yX0_append wsX0_append { frames := 0, cells := 0, slots := 0, locals := 0 } D L cy X A [.ref (L 1)] st (st 1 2) (gsu st 1 2 (st 1 2 + 1)) := by
  refine g_entry hD (cc := cX0_append) (maxL := 2) (ret := (some .int)) (by decide) rfl (Nat.le_of_ble_eq_true rfl) ?_
  intro p e s m args below meth c ls B
  obtain ⟨S, hr, hlocks, h, hl⟩ := B
  have hx := S.1
  have hb := S.2.1
  have hts := S.2.2.2.2
  have in0 : ∀ w ∈ wsX00, w ∈ wsX0_append := by decide +kernel
  have hl : lv_has ls 2 [(0, .ref (L 1))] := hl
  refine lv_aload_n hx hb dX0_append_0 rfl (lv_at hl 0 rfl) ?_
  refine g_get S h gk_c1 (by decide) rfl rfl in0 (k := 2) (by decide) (by decide +kernel) rfl dX0_append_1 ?_
  refine lv_topi (fun x1 ex1 => ?_)
  refine lv_istore_n (lv' := [(1, .int x1), (0, .ref (L 1))]) hx hb dX0_append_4 rfl hl (by decide) rfl (fun ls hl => ?_)
  refine lv_aload_n hx hb dX0_append_5 rfl (lv_at hl 1 rfl) ?_
  refine lv_dup hx hb dX0_append_6 rfl ?_
  refine g_get S h gk_c1 (by decide) rfl rfl in0 (k := 2) (by decide) (by decide +kernel) rfl dX0_append_7 ?_
  refine lv_iconst (v := 1) hx hb dX0_append_10 (by decide) ?_
  refine lv_iadd hx hb dX0_append_11 ?_
  refine g_put S h tyX0 tyX0_ok nmX0 gk_c1 (by decide) rfl rfl in0 (k := 2) (by decide) (by decide +kernel) rfl rfl (Nat.le_of_ble_eq_true rfl) rfl dX0_append_12 (fun H locs h => ?_)
  refine lv_iload_n hx hb dX0_append_15 rfl (lv_at hl 0 rfl) ?_
  exact g_reti S h hr hlocks rfl ex1 rfl dX0_append_16
set_option maxHeartbeats 4000000 in
set_option maxRecDepth 100000 in
/-- Book.scriptAt(job) -/
theorem c_X0_scriptAt (l : Launch) (D : va_G) (L : Nat → Nat) (cy : Nat → ClassId) (X : va_W) (A : Nat → Prop) (st : gSt) (hD : va_D A (X ++ gW L cy st)) (x : Int32) : gMr l yX0_scriptAt wsX0_scriptAt { frames := 0, cells := 0, slots := 0, locals := 0 } D L cy X A [.ref (L 1), .int x] st (f_sc x) st := by
  refine g_entry hD (cc := cX0_scriptAt) (maxL := 2) (ret := (some (.object "BobbinPool$Script"))) (by decide) rfl (Nat.le_of_ble_eq_true rfl) ?_
  intro p e s m args below meth c ls B
  obtain ⟨S, hr, hlocks, h, hl⟩ := B
  have hx := S.1
  have hb := S.2.1
  have hts := S.2.2.2.2
  have in0 : ∀ w ∈ wsX00, w ∈ wsX0_scriptAt := by decide +kernel
  have hl : lv_has ls 2 [(0, .ref (L 1)), (1, .int x)] := hl
  refine lv_iload_n hx hb dX0_scriptAt_0 rfl (lv_at hl 1 rfl) ?_
  refine lv_if_lt (tgt := 19) hx hb dX0_scriptAt_1 (by decide) (fun c1 => ?_) (fun c1 => ?_)
  · refine lv_aload_n hx hb dX0_scriptAt_19 rfl (lv_at hl 0 rfl) ?_
    refine g_get S h gk_c1 (by decide) rfl rfl in0 (k := 1) (by decide) (by decide +kernel) rfl dX0_scriptAt_20 ?_
    exact g_retr S h hr hlocks (by simp only [f_sc, if_pos c1]) rfl dX0_scriptAt_23
  · refine lv_iload_n hx hb dX0_scriptAt_4 rfl (lv_at hl 1 rfl) ?_
    refine lv_bipush (v := 8) hx hb dX0_scriptAt_5 (by decide) ?_
    refine lv_icmp_ge (tgt := 19) hx hb dX0_scriptAt_7 (by decide) (fun c2 => ?_) (fun c2 => ?_)
    · refine lv_aload_n hx hb dX0_scriptAt_19 rfl (lv_at hl 0 rfl) ?_
      refine g_get S h gk_c1 (by decide) rfl rfl in0 (k := 1) (by decide) (by decide +kernel) rfl dX0_scriptAt_20 ?_
      exact g_retr S h hr hlocks (by simp only [f_sc, if_neg c1, if_pos c2]) rfl dX0_scriptAt_23
    · refine lv_aload_n hx hb dX0_scriptAt_10 rfl (lv_at hl 0 rfl) ?_
      refine g_get S h gk_c1 (by decide) rfl rfl in0 (k := 0) (by decide) (by decide +kernel) rfl dX0_scriptAt_11 ?_
      refine lv_iload_n hx hb dX0_scriptAt_14 rfl (lv_at hl 1 rfl) ?_
      refine g_aal S h (t0 := 1) gk_c2 (by decide) rfl rfl (gin c1 c2 rfl) dX0_scriptAt_15 ?_
      refine lv_goto (tgt := 23) hx hb dX0_scriptAt_16 (by decide) ?_
      exact g_retr S h hr hlocks (by simp only [f_sc, if_neg c1, if_neg c2]) rfl dX0_scriptAt_23
theorem gk_tk {P : Nat} (hP : gkd P = 5) (x : Int32) : gkd (f_tk P x) = 7 := by
  unfold f_tk
  split
  · exact gk5_2 hP
  · split
    · exact gk5_2 hP
    · rename_i c1 c2
      exact gk6_j (gk5_1 hP) (Nat.lt_of_lt_of_le (gin_lt (n := 24) (gin c1 c2 rfl)) (by decide))
theorem gk_wk {P : Nat} (hP : gkd P = 5) (x : Int32) : gkd (f_wk P x) = 9 := by
  unfold f_wk
  split
  · exact gk5_4 hP
  · split
    · exact gk5_4 hP
    · rename_i c1 c2
      exact gk8_j (gk5_3 hP) (Nat.lt_of_lt_of_le (gin_lt (n := 5) (gin c1 c2 rfl)) (by decide))
theorem gk_row {P : Nat} (hP : gkd P = 5) (x : Int32) : gkd (f_row P x) = 10 := by
  unfold f_row
  split
  · exact gk5_10 hP
  · exact gk9_1 (gk_wk hP x)
set_option maxHeartbeats 4000000 in
set_option maxRecDepth 100000 in
/-- Pool.taskAt(number) -/
theorem c_X1_taskAt (l : Launch) (D : va_G) (L : Nat → Nat) (cy : Nat → ClassId) (X : va_W) (A : Nat → Prop) (st : gSt) (hD : va_D A (X ++ gW L cy st)) {P : Nat} (hP : gkd P = 5) (x : Int32) : gMr l yX1_taskAt wsX1_taskAt { frames := 0, cells := 0, slots := 0, locals := 0 } D L cy X A [.ref (L P), .int x] st (f_tk P x) st := by
  refine g_entry hD (cc := cX1_taskAt) (maxL := 2) (ret := (some (.object "BobbinPool$Task"))) (by decide) rfl (Nat.le_of_ble_eq_true rfl) ?_
  intro p e s m args below meth c ls B
  obtain ⟨S, hr, hlocks, h, hl⟩ := B
  have hx := S.1
  have hb := S.2.1
  have hts := S.2.2.2.2
  have in1 : ∀ w ∈ wsX10, w ∈ wsX1_taskAt := by decide +kernel
  have hl : lv_has ls 2 [(0, .ref (L P)), (1, .int x)] := hl
  refine lv_iload_n hx hb dX1_taskAt_0 rfl (lv_at hl 1 rfl) ?_
  refine lv_if_lt (tgt := 19) hx hb dX1_taskAt_1 (by decide) (fun c1 => ?_) (fun c1 => ?_)
  · refine lv_aload_n hx hb dX1_taskAt_19 rfl (lv_at hl 0 rfl) ?_
    refine g_get S h hP (by decide) rfl rfl in1 (k := 2) (by decide) (by decide +kernel) rfl dX1_taskAt_20 ?_
    exact g_retr S h hr hlocks (by simp only [f_tk, if_pos c1]) rfl dX1_taskAt_23
  · refine lv_iload_n hx hb dX1_taskAt_4 rfl (lv_at hl 1 rfl) ?_
    refine lv_bipush (v := 24) hx hb dX1_taskAt_5 (by decide) ?_
    refine lv_icmp_ge (tgt := 19) hx hb dX1_taskAt_7 (by decide) (fun c2 => ?_) (fun c2 => ?_)
    · refine lv_aload_n hx hb dX1_taskAt_19 rfl (lv_at hl 0 rfl) ?_
      refine g_get S h hP (by decide) rfl rfl in1 (k := 2) (by decide) (by decide +kernel) rfl dX1_taskAt_20 ?_
      exact g_retr S h hr hlocks (by simp only [f_tk, if_neg c1, if_pos c2]) rfl dX1_taskAt_23
    · refine lv_aload_n hx hb dX1_taskAt_10 rfl (lv_at hl 0 rfl) ?_
      refine g_get S h hP (by decide) rfl rfl in1 (k := 1) (by decide) (by decide +kernel) rfl dX1_taskAt_11 ?_
      refine lv_iload_n hx hb dX1_taskAt_14 rfl (lv_at hl 1 rfl) ?_
      refine g_aal S h (t0 := 2) (gk5_1 hP) (by decide) rfl rfl (gin c1 c2 rfl) dX1_taskAt_15 ?_
      refine lv_goto (tgt := 23) hx hb dX1_taskAt_16 (by decide) ?_
      exact g_retr S h hr hlocks (by simp only [f_tk, if_neg c1, if_neg c2]) rfl dX1_taskAt_23
set_option maxHeartbeats 4000000 in
set_option maxRecDepth 100000 in
/-- Pool.workerAt(number) -/
theorem c_X1_workerAt (l : Launch) (D : va_G) (L : Nat → Nat) (cy : Nat → ClassId) (X : va_W) (A : Nat → Prop) (st : gSt) (hD : va_D A (X ++ gW L cy st)) {P : Nat} (hP : gkd P = 5) (x : Int32) : gMr l yX1_workerAt wsX1_workerAt { frames := 0, cells := 0, slots := 0, locals := 0 } D L cy X A [.ref (L P), .int x] st (f_wk P x) st := by
  refine g_entry hD (cc := cX1_workerAt) (maxL := 2) (ret := (some (.object "BobbinPool$Worker"))) (by decide) rfl (Nat.le_of_ble_eq_true rfl) ?_
  intro p e s m args below meth c ls B
  obtain ⟨S, hr, hlocks, h, hl⟩ := B
  have hx := S.1
  have hb := S.2.1
  have hts := S.2.2.2.2
  have in1 : ∀ w ∈ wsX10, w ∈ wsX1_workerAt := by decide +kernel
  have hl : lv_has ls 2 [(0, .ref (L P)), (1, .int x)] := hl
  refine lv_iload_n hx hb dX1_workerAt_0 rfl (lv_at hl 1 rfl) ?_
  refine lv_if_lt (tgt := 18) hx hb dX1_workerAt_1 (by decide) (fun c1 => ?_) (fun c1 => ?_)
  · refine lv_aload_n hx hb dX1_workerAt_18 rfl (lv_at hl 0 rfl) ?_
    refine g_get S h hP (by decide) rfl rfl in1 (k := 5) (by decide) (by decide +kernel) rfl dX1_workerAt_19 ?_
    exact g_retr S h hr hlocks (by simp only [f_wk, if_pos c1]) rfl dX1_workerAt_22
  · refine lv_iload_n hx hb dX1_workerAt_4 rfl (lv_at hl 1 rfl) ?_
    refine lv_iconst (v := 5) hx hb dX1_workerAt_5 (by decide) ?_
    refine lv_icmp_ge (tgt := 18) hx hb dX1_workerAt_6 (by decide) (fun c2 => ?_) (fun c2 => ?_)
    · refine lv_aload_n hx hb dX1_workerAt_18 rfl (lv_at hl 0 rfl) ?_
      refine g_get S h hP (by decide) rfl rfl in1 (k := 5) (by decide) (by decide +kernel) rfl dX1_workerAt_19 ?_
      exact g_retr S h hr hlocks (by simp only [f_wk, if_neg c1, if_pos c2]) rfl dX1_workerAt_22
    · refine lv_aload_n hx hb dX1_workerAt_9 rfl (lv_at hl 0 rfl) ?_
      refine g_get S h hP (by decide) rfl rfl in1 (k := 4) (by decide) (by decide +kernel) rfl dX1_workerAt_10 ?_
      refine lv_iload_n hx hb dX1_workerAt_13 rfl (lv_at hl 1 rfl) ?_
      refine g_aal S h (t0 := 3) (gk5_3 hP) (by decide) rfl rfl (gin c1 c2 rfl) dX1_workerAt_14 ?_
      refine lv_goto (tgt := 22) hx hb dX1_workerAt_15 (by decide) ?_
      exact g_retr S h hr hlocks (by simp only [f_wk, if_neg c1, if_neg c2]) rfl dX1_workerAt_22
set_option maxHeartbeats 4000000 in
set_option maxRecDepth 100000 in
/-- Pool.rowOf(worker) -/
theorem c_X1_rowOf (l : Launch) (D : va_G) (L : Nat → Nat) (cy : Nat → ClassId) (X : va_W) (A : Nat → Prop) (st : gSt) (hD : va_D A (X ++ gW L cy st)) {P : Nat} (hP : gkd P = 5) (x : Int32) : gMr l yX1_rowOf wsX1_rowOf { frames := 1, cells := 0, slots := 0, locals := 21 } D L cy X A [.ref (L P), .int x] st (f_row P x) st := by
  refine g_entry hD (cc := cX1_rowOf) (maxL := 2) (ret := (some (.object "BobbinPool$Row"))) (by decide) rfl (Nat.le_of_ble_eq_true rfl) ?_
  intro p e s m args below meth c ls B
  obtain ⟨S, hr, hlocks, h, hl⟩ := B
  have hx := S.1
  have hb := S.2.1
  have hts := S.2.2.2.2
  have in1 : ∀ w ∈ wsX10, w ∈ wsX1_rowOf := by decide +kernel
  have in5 : ∀ w ∈ wsX50, w ∈ wsX1_rowOf := by decide +kernel
  have hl : lv_has ls 2 [(0, .ref (L P)), (1, .int x)] := hl
  refine lv_iload_n hx hb dX1_rowOf_0 rfl (lv_at hl 1 rfl) ?_
  refine lv_iconst (v := (-1)) hx hb dX1_rowOf_1 (by decide) ?_
  refine lv_icmp_ne (tgt := 12) hx hb dX1_rowOf_2 (by decide) (fun c1 => ?_) (fun c1 => ?_)
  · refine lv_aload_n hx hb dX1_rowOf_12 rfl (lv_at hl 0 rfl) ?_
    refine lv_iload_n hx hb dX1_rowOf_13 rfl (lv_at hl 1 rfl) ?_
    refine g_callr S h (c_X1_workerAt l D L cy X A _ (h.2.2.2.2 _) hP _) (cwV 1 hts gX1_rowOf_X1_workerAt rfl rfl rfl (by decide +kernel) ⟨Nat.le_of_ble_eq_true rfl, Nat.le_of_ble_eq_true rfl⟩) (g_pre h hP (by decide) rfl rfl _) rfl hl.1 rfl (Nat.le_of_ble_eq_true rfl) dX1_rowOf_14 ⟨Nat.zero_le _, Nat.zero_le _⟩ (fun H locs h => ?_)
    refine g_getN S h (gk_wk hP _) (by decide) rfl rfl in5 (k := 0) (by decide) (by decide +kernel) rfl dX1_rowOf_17 ?_
    exact g_retr S h hr hlocks (by simp only [f_row, if_neg c1]) rfl dX1_rowOf_20
  · refine lv_aload_n hx hb dX1_rowOf_5 rfl (lv_at hl 0 rfl) ?_
    refine g_get S h hP (by decide) rfl rfl in1 (k := 7) (by decide) (by decide +kernel) rfl dX1_rowOf_6 ?_
    refine lv_goto (tgt := 20) hx hb dX1_rowOf_9 (by decide) ?_
    exact g_retr S h hr hlocks (by simp only [f_row, if_pos c1]) rfl dX1_rowOf_20
set_option maxHeartbeats 4000000 in
set_option maxRecDepth 100000 in
/-- Pool.promiseAt(promise) -/
theorem c_X1_promiseAt (l : Launch) (D : va_G) (L : Nat → Nat) (cy : Nat → ClassId) (X : va_W) (A : Nat → Prop) (st : gSt) (hD : va_D A (X ++ gW L cy st)) {P : Nat} (hP : gkd P = 5) (x : Int32) : gMi l yX1_promiseAt wsX1_promiseAt { frames := 0, cells := 0, slots := 0, locals := 0 } D L cy X A [.ref (L P), .int x] st (f_prom st P x) st := by
  refine g_entry hD (cc := cX1_promiseAt) (maxL := 2) (ret := (some .int)) (by decide) rfl (Nat.le_of_ble_eq_true rfl) ?_
  intro p e s m args below meth c ls B
  obtain ⟨S, hr, hlocks, h, hl⟩ := B
  have hx := S.1
  have hb := S.2.1
  have hts := S.2.2.2.2
  have in1 : ∀ w ∈ wsX10, w ∈ wsX1_promiseAt := by decide +kernel
  have hl : lv_has ls 2 [(0, .ref (L P)), (1, .int x)] := hl
  refine lv_iload_n hx hb dX1_promiseAt_0 rfl (lv_at hl 1 rfl) ?_
  refine lv_if_lt (tgt := 19) hx hb dX1_promiseAt_1 (by decide) (fun c1 => ?_) (fun c1 => ?_)
  · refine lv_ldc (v := (-1000000)) hx hb S.2.2.2.1 (S.2.2.2.2 (.constant RX1 64 (-1000000)) (by decide +kernel)) dX1_promiseAt_19 ?_
    exact g_reti S h hr hlocks rfl (by simp only [f_prom, if_pos c1]) rfl dX1_promiseAt_21
  · refine lv_iload_n hx hb dX1_promiseAt_4 rfl (lv_at hl 1 rfl) ?_
    refine lv_bipush (v := 6) hx hb dX1_promiseAt_5 (by decide) ?_
    refine lv_icmp_ge (tgt := 19) hx hb dX1_promiseAt_7 (by decide) (fun c2 => ?_) (fun c2 => ?_)
    · refine lv_ldc (v := (-1000000)) hx hb S.2.2.2.1 (S.2.2.2.2 (.constant RX1 64 (-1000000)) (by decide +kernel)) dX1_promiseAt_19 ?_
      exact g_reti S h hr hlocks rfl (by simp only [f_prom, if_neg c1, if_pos c2]) rfl dX1_promiseAt_21
    · refine lv_aload_n hx hb dX1_promiseAt_10 rfl (lv_at hl 0 rfl) ?_
      refine g_get S h hP (by decide) rfl rfl in1 (k := 8) (by decide) (by decide +kernel) rfl dX1_promiseAt_11 ?_
      refine lv_iload_n hx hb dX1_promiseAt_14 rfl (lv_at hl 1 rfl) ?_
      refine g_ial S h (gk5_12 hP) (by decide) rfl (gin c1 c2 rfl) dX1_promiseAt_15 ?_
      refine lv_goto (tgt := 21) hx hb dX1_promiseAt_16 (by decide) ?_
      exact g_reti S h hr hlocks rfl (by simp only [f_prom, if_neg c1, if_neg c2]) rfl dX1_promiseAt_21
theorem g_ge {x M : Int32} {k n : Nat} (ex : x = nI k) (hM : M = nI n) (hk : k < 2 ^ 31) (hn : n < 2 ^ 31) (c : M ≤ x) : n ≤ k := by
  subst ex; subst hM
  exact (nI_leI hn hk).mp c
theorem g_lt {x M : Int32} {k n : Nat} (ex : x = nI k) (hM : M = nI n) (hk : k < 2 ^ 31) (hn : n < 2 ^ 31) (c : ¬ M ≤ x) : k < n := by
  subst ex; subst hM
  exact Nat.not_le.mp fun q => c ((nI_leI hn hk).mpr q)
theorem g_cl {x : Int32} {k : Nat} (ex : x = nI k) (hk : k < 2 ^ 31) : x.toNatClampNeg = k := by
  subst ex
  exact nI_clamp hk
theorem g_in {x : Int32} {k n : Nat} (ex : x = nI k) (hk : k < n) (hn : n < 2 ^ 31) : vp_in x n := by
  subst ex
  exact vp_in_nI hk hn
theorem g_s1 {x y : Int32} {k : Nat} (ey : y = x + 1) (ex : x = nI k) : y = nI (k + 1) := by
  rw [ey, ex]
  exact nI_1 k
theorem g_clle {y : Int32} {k : Nat} (hk : k < 2 ^ 31) : y ≤ nI k ↔ y.toNatClampNeg ≤ k := by
  rw [Int32.le_iff_toInt_le, nI_toInt hk]
  have h1 : y.toNatClampNeg = y.toInt.toNat := rfl
  omega
theorem g_gey {x y : Int32} {k : Nat} (ex : x = nI k) (hk : k < 2 ^ 31) (c : y ≤ x) : y.toNatClampNeg ≤ k := by
  subst ex
  exact (g_clle hk).mp c
theorem g_lty {x y : Int32} {k : Nat} (ex : x = nI k) (hk : k < 2 ^ 31) (c : ¬ y ≤ x) : k < y.toNatClampNeg := by
  subst ex
  exact Nat.not_le.mp fun q => c ((g_clle hk).mpr q)
set_option maxHeartbeats 4000000 in
set_option maxRecDepth 100000 in
/-- Row.copyFrom(other) -/
theorem c_X2_copyFrom (l : Launch) (D : va_G) (L : Nat → Nat) (cy : Nat → ClassId) (X : va_W) (A : Nat → Prop) (st : gSt) (hD : va_D A (X ++ gW L cy st)) {i j : Nat} (hi : gkd i = 10) (hj : gkd j = 10) : gMv l yX2_copyFrom wsX2_copyFrom { frames := 0, cells := 0, slots := 0, locals := 0 } D L cy X A [.ref (L i), .ref (L j)] st (f_rcopy st i j) := by
  refine g_entry hD (cc := cX2_copyFrom) (maxL := 3) (ret := none) (by decide) rfl (Nat.le_of_ble_eq_true rfl) ?_
  intro p e s m args below meth c ls B
  obtain ⟨S, hr, hlocks, h, hl⟩ := B
  have hx := S.1
  have hb := S.2.1
  have hts := S.2.2.2.2
  have in2 : ∀ w ∈ wsX20, w ∈ wsX2_copyFrom := by decide +kernel
  have hl : lv_has ls 3 [(0, .ref (L i)), (1, .ref (L j))] := hl
  refine lv_aload_n hx hb dX2_copyFrom_0 rfl (lv_at hl 0 rfl) ?_
  refine lv_aload_n hx hb dX2_copyFrom_1 rfl (lv_at hl 1 rfl) ?_
  refine g_get S h hj (by decide) rfl rfl in2 (k := 1) (by decide) (by decide +kernel) rfl dX2_copyFrom_2 ?_
  refine g_put S h tyX2 tyX2_ok nmX2 hi (by decide) rfl rfl in2 (k := 1) (by decide) (by decide +kernel) rfl rfl (Nat.le_of_ble_eq_true rfl) rfl dX2_copyFrom_5 (fun H locs h => ?_)
  refine lv_iconst (v := 0) hx hb dX2_copyFrom_8 (by decide) ?_
  refine lv_istore_n (lv' := [(2, .int 0), (0, .ref (L i)), (1, .ref (L j))]) hx hb dX2_copyFrom_9 rfl hl (by decide) rfl (fun ls hl => ?_)
  have loop : ∀ (n : Nat) (k : Nat) (x : Int32), (k ≤ 24) → (25 ≤ k + n) → (x = nI k) → ∀ (H : Heap) (locs : List Loc) (ls : Array Slot), gH D L cy X A (f_cp (gsu st i 1 (st j 1)) (i + 1) (j + 1) k) s H locs → lv_has ls 3 [(0, .ref (L i)), (1, .ref (L j)), (2, .int x)] → W p l e { frames := 0, cells := 0, slots := 0, locals := 0 } s m args below meth c H locs 0 0 (MQ below (va_Qv (fun (_ : Unit) => True) (fun _ t => va_P D vwCl (X ++ gW L cy (f_rcopy st i j)) t.heap) A) args s 0 0 A) (F0 m 10 ls []) := by
    intro n
    induction n with
    | zero => intros; omega
    | succ n ih =>
      intro k x hk hn ex H locs ls h hl
      refine lv_iload_n hx hb dX2_copyFrom_10 rfl (lv_at hl 2 rfl) ?_
      refine lv_bipush (v := 24) hx hb dX2_copyFrom_11 (by decide) ?_
      refine lv_icmp_ge (tgt := 34) hx hb dX2_copyFrom_13 (by decide) (fun c1 => ?_) (fun c1 => ?_)
      · exact g_retv S h hr hlocks (by have q := g_ge ex (M := 24) (n := 24) rfl (by omega) (by omega) c1; obtain rfl : k = 24 := (by omega); rfl) dX2_copyFrom_34
      · refine lv_aload_n hx hb dX2_copyFrom_16 rfl (lv_at hl 0 rfl) ?_
        refine g_get S h hi (by decide) rfl rfl in2 (k := 0) (by decide) (by decide +kernel) rfl dX2_copyFrom_17 ?_
        refine lv_iload_n hx hb dX2_copyFrom_20 rfl (lv_at hl 2 rfl) ?_
        refine lv_aload_n hx hb dX2_copyFrom_21 rfl (lv_at hl 1 rfl) ?_
        refine g_get S h hj (by decide) rfl rfl in2 (k := 0) (by decide) (by decide +kernel) rfl dX2_copyFrom_22 ?_
        refine lv_iload_n hx hb dX2_copyFrom_25 rfl (lv_at hl 2 rfl) ?_
        refine g_ial S h (gk10_1 hj) (by decide) rfl (g_in ex (g_lt ex (M := 24) (n := 24) rfl (by omega) (by omega) c1) (by omega)) dX2_copyFrom_26 ?_
        refine g_ias S h (gk10_1 hi) (by decide) (fun _ => rfl) (g_in ex (g_lt ex (M := 24) (n := 24) rfl (by omega) (by omega) c1) (by omega)) dX2_copyFrom_27 (fun H locs h => ?_)
        obtain ⟨x2, ex2⟩ : ∃ zz : Int32, zz = x + 1 := ⟨_, rfl⟩
        refine lv_iinc (v := x2) (lv' := [(2, .int x2), (0, .ref (L i)), (1, .ref (L j))]) hx hb dX2_copyFrom_28 hl (k := 2) rfl (by rw [ex2]; rfl) (by decide) rfl (fun ls hl => ?_)
        refine lv_goto (tgt := 10) hx hb dX2_copyFrom_31 (by decide) ?_
        have hlt := g_lt ex (M := 24) (n := 24) rfl (by omega) (by omega) c1
        rw [g_cl ex (by omega)] at h
        exact ih (k + 1) x2 (by omega) (by omega) (g_s1 ex2 ex) _ _ ls h (lv_sub hl [1, 2, 0] rfl)
  exact loop 25 0 0 (by omega) (by omega) rfl _ _ ls h (lv_sub hl [1, 2, 0] rfl)
theorem f_has_1 {st : gSt} {i k : Nat} {x : Int32} (hk : k < (st i 1).toNatClampNeg) (h24 : k < 24) (e : st (i + 1) k = x) : 1 = f_has st i x := by
  unfold f_has
  rw [if_pos]
  rw [List.any_eq_true]
  exact ⟨k, List.mem_range.mpr (by unfold gsz; omega), by simp [e]⟩
theorem f_has_0 {st : gSt} {i k : Nat} {x : Int32} (hk : (st i 1).toNatClampNeg ≤ k ∨ 24 ≤ k) (h : ∀ a, a < k → ¬ st (i + 1) a = x) : 0 = f_has st i x := by
  unfold f_has
  rw [if_neg]
  rw [List.any_eq_true]
  rintro ⟨a, ha, e⟩
  have h1 := List.mem_range.mp ha
  unfold gsz at h1
  exact h a (by omega) (of_decide_eq_true e)
set_option maxHeartbeats 4000000 in
set_option maxRecDepth 100000 in
/-- Row.has(number) -/
theorem c_X2_has (l : Launch) (D : va_G) (L : Nat → Nat) (cy : Nat → ClassId) (X : va_W) (A : Nat → Prop) (st : gSt) (hD : va_D A (X ++ gW L cy st)) {i : Nat} (hi : gkd i = 10) (x0 : Int32) : gMi l yX2_has wsX2_has { frames := 0, cells := 0, slots := 0, locals := 0 } D L cy X A [.ref (L i), .int x0] st (f_has st i x0) st := by
  refine g_entry hD (cc := cX2_has) (maxL := 3) (ret := (some .boolean)) (by decide) rfl (Nat.le_of_ble_eq_true rfl) ?_
  intro p e s m args below meth c ls B
  obtain ⟨S, hr, hlocks, h, hl⟩ := B
  have hx := S.1
  have hb := S.2.1
  have hts := S.2.2.2.2
  have in2 : ∀ w ∈ wsX20, w ∈ wsX2_has := by decide +kernel
  have hl : lv_has ls 3 [(0, .ref (L i)), (1, .int x0)] := hl
  refine lv_iconst (v := 0) hx hb dX2_has_0 (by decide) ?_
  refine lv_istore_n (lv' := [(2, .int 0), (0, .ref (L i)), (1, .int x0)]) hx hb dX2_has_1 rfl hl (by decide) rfl (fun ls hl => ?_)
  have loop : ∀ (n : Nat) (k : Nat) (x : Int32), (k ≤ 24) → (25 ≤ k + n) → (x = nI k) → (∀ a, a < k → ¬ st (i + 1) a = x0) → ∀ (H : Heap) (locs : List Loc) (ls : Array Slot), gH D L cy X A st s H locs → lv_has ls 3 [(0, .ref (L i)), (1, .int x0), (2, .int x)] → W p l e { frames := 0, cells := 0, slots := 0, locals := 0 } s m args below meth c H locs 0 0 (MQ below (va_Qi (fun (q : Int32) (_ : Unit) => q = (f_has st i x0)) (fun _ t => va_P D vwCl (X ++ gW L cy st) t.heap) A) args s 0 0 A) (F0 m 2 ls []) := by
    intro n
    induction n with
    | zero => intros; omega
    | succ n ih =>
      intro k x hk hn ex ha H locs ls h hl
      refine lv_iload_n hx hb dX2_has_2 rfl (lv_at hl 2 rfl) ?_
      refine lv_aload_n hx hb dX2_has_3 rfl (lv_at hl 0 rfl) ?_
      refine g_get S h hi (by decide) rfl rfl in2 (k := 1) (by decide) (by decide +kernel) rfl dX2_has_4 ?_
      refine lv_icmp_ge (tgt := 34) hx hb dX2_has_7 (by decide) (fun c1 => ?_) (fun c1 => ?_)
      · refine lv_iconst (v := 0) hx hb dX2_has_34 (by decide) ?_
        exact g_reti S h hr hlocks rfl (f_has_0 (Or.inl (g_gey ex (by omega) c1)) ha) rfl dX2_has_35
      · refine lv_iload_n hx hb dX2_has_10 rfl (lv_at hl 2 rfl) ?_
        refine lv_bipush (v := 24) hx hb dX2_has_11 (by decide) ?_
        refine lv_icmp_ge (tgt := 34) hx hb dX2_has_13 (by decide) (fun c2 => ?_) (fun c2 => ?_)
        · refine lv_iconst (v := 0) hx hb dX2_has_34 (by decide) ?_
          exact g_reti S h hr hlocks rfl (f_has_0 (Or.inr (g_ge ex (M := 24) (n := 24) rfl (by omega) (by omega) c2)) ha) rfl dX2_has_35
        · refine lv_aload_n hx hb dX2_has_16 rfl (lv_at hl 0 rfl) ?_
          refine g_get S h hi (by decide) rfl rfl in2 (k := 0) (by decide) (by decide +kernel) rfl dX2_has_17 ?_
          refine lv_iload_n hx hb dX2_has_20 rfl (lv_at hl 2 rfl) ?_
          refine g_ial S h (gk10_1 hi) (by decide) rfl (g_in ex (g_lt ex (M := 24) (n := 24) rfl (by omega) (by omega) c2) (by omega)) dX2_has_21 ?_
          refine lv_iload_n hx hb dX2_has_22 rfl (lv_at hl 1 rfl) ?_
          refine lv_icmp_ne (tgt := 28) hx hb dX2_has_23 (by decide) (fun c3 => ?_) (fun c3 => ?_)
          · obtain ⟨x4, ex4⟩ : ∃ zz : Int32, zz = x + 1 := ⟨_, rfl⟩
            refine lv_iinc (v := x4) (lv' := [(2, .int x4), (0, .ref (L i)), (1, .int x0)]) hx hb dX2_has_28 hl (k := 2) rfl (by rw [ex4]; rfl) (by decide) rfl (fun ls hl => ?_)
            refine lv_goto (tgt := 2) hx hb dX2_has_31 (by decide) ?_
            have hlt := g_lt ex (M := 24) (n := 24) rfl (by omega) (by omega) c2
            rw [g_cl ex (by omega)] at c3
            exact ih (k + 1) x4 (by omega) (by omega) (g_s1 ex4 ex) (lt_s ha c3) _ _ ls h (lv_sub hl [1, 2, 0] rfl)
          · refine lv_iconst (v := 1) hx hb dX2_has_26 (by decide) ?_
            exact g_reti S h hr hlocks rfl (f_has_1 (g_lty ex (by omega) c1) (g_lt ex (M := 24) (n := 24) rfl (by omega) (by omega) c2) (by rw [← c3, g_cl ex (by omega)])) rfl dX2_has_27
  exact loop 25 0 0 (by omega) (by omega) rfl (fun a h => absurd h (by omega)) _ _ ls h (lv_sub hl [1, 2, 0] rfl)
theorem f_rml_le {st : gSt} {i : Nat} {x : Int32} : ∀ k, (f_rml st i x k).2 ≤ k
  | 0 => Nat.le_refl _
  | k + 1 => by
    have h := f_rml_le (st := st) (i := i) (x := x) k
    unfold f_rml
    split
    · omega
    · show (f_rml st i x k).2 + 1 ≤ k + 1
      omega
theorem f_rml_i {st : gSt} {i : Nat} {x : Int32} {b : Nat} : ∀ k, (f_rml st i x k).1 i b = st i b
  | 0 => rfl
  | k + 1 => by
    have h := f_rml_i (st := st) (i := i) (x := x) (b := b) k
    unfold f_rml
    split
    · exact h
    · show gsu _ (i + 1) _ _ i b = _
      rw [gsu_p1]
      exact h
theorem f_rml_t {st : gSt} {i k : Nat} {x : Int32} (e : (f_rml st i x k).1 (i + 1) k = x) : f_rml st i x (k + 1) = f_rml st i x k := by
  show (if _ then _ else _) = _
  rw [if_pos e]
theorem f_rml_f {st : gSt} {i k : Nat} {x : Int32} (e : ¬ (f_rml st i x k).1 (i + 1) k = x) : f_rml st i x (k + 1) = (gsu (f_rml st i x k).1 (i + 1) (f_rml st i x k).2 ((f_rml st i x k).1 (i + 1) k), (f_rml st i x k).2 + 1) := by
  show (if _ then _ else _) = _
  rw [if_neg e]
theorem f_rm_end {st : gSt} {i k : Nat} {x : Int32} (hk : k ≤ (st i 1).toNatClampNeg) (h24 : k ≤ 24) (h : (st i 1).toNatClampNeg ≤ k ∨ 24 ≤ k) : gsu (f_rml st i x k).1 i 1 (nI (f_rml st i x k).2) = f_rm st i x := by
  have e : k = gsz st i := by unfold gsz; omega
  subst e
  rfl
set_option maxHeartbeats 4000000 in
set_option maxRecDepth 100000 in
/-- Row.remove(number) -/
theorem c_X2_remove (l : Launch) (D : va_G) (L : Nat → Nat) (cy : Nat → ClassId) (X : va_W) (A : Nat → Prop) (st : gSt) (hD : va_D A (X ++ gW L cy st)) {i : Nat} (hi : gkd i = 10) (x0 : Int32) : gMv l yX2_remove wsX2_remove { frames := 0, cells := 0, slots := 0, locals := 0 } D L cy X A [.ref (L i), .int x0] st (f_rm st i x0) := by
  refine g_entry hD (cc := cX2_remove) (maxL := 4) (ret := none) (by decide) rfl (Nat.le_of_ble_eq_true rfl) ?_
  intro p e s m args below meth c ls B
  obtain ⟨S, hr, hlocks, h, hl⟩ := B
  have hx := S.1
  have hb := S.2.1
  have hts := S.2.2.2.2
  have in2 : ∀ w ∈ wsX20, w ∈ wsX2_remove := by decide +kernel
  have hl : lv_has ls 4 [(0, .ref (L i)), (1, .int x0)] := hl
  refine lv_iconst (v := 0) hx hb dX2_remove_0 (by decide) ?_
  refine lv_istore_n (lv' := [(2, .int 0), (0, .ref (L i)), (1, .int x0)]) hx hb dX2_remove_1 rfl hl (by decide) rfl (fun ls hl => ?_)
  refine lv_iconst (v := 0) hx hb dX2_remove_2 (by decide) ?_
  refine lv_istore_n (lv' := [(3, .int 0), (2, .int 0), (0, .ref (L i)), (1, .int x0)]) hx hb dX2_remove_3 rfl hl (by decide) rfl (fun ls hl => ?_)
  have loop : ∀ (n : Nat) (k : Nat) (x : Int32) (y : Int32), (k ≤ 24) → (25 ≤ k + n) → (x = nI k) → (y = nI (f_rml st i x0 k).2) → (k ≤ (st i 1).toNatClampNeg) → ∀ (H : Heap) (locs : List Loc) (ls : Array Slot), gH D L cy X A (f_rml st i x0 k).1 s H locs → lv_has ls 4 [(0, .ref (L i)), (1, .int x0), (2, .int y), (3, .int x)] → W p l e { frames := 0, cells := 0, slots := 0, locals := 0 } s m args below meth c H locs 0 0 (MQ below (va_Qv (fun (_ : Unit) => True) (fun _ t => va_P D vwCl (X ++ gW L cy (f_rm st i x0)) t.heap) A) args s 0 0 A) (F0 m 4 ls []) := by
    intro n
    induction n with
    | zero => intros; omega
    | succ n ih =>
      intro k x y hk hn ex ey hz H locs ls h hl
      refine lv_iload_n hx hb dX2_remove_4 rfl (lv_at hl 3 rfl) ?_
      refine lv_aload_n hx hb dX2_remove_5 rfl (lv_at hl 0 rfl) ?_
      refine g_get S h hi (by decide) rfl rfl in2 (k := 1) (by decide) (by decide +kernel) rfl dX2_remove_6 ?_
      refine lv_icmp_ge (tgt := 49) hx hb dX2_remove_9 (by decide) (fun c1 => ?_) (fun c1 => ?_)
      · refine lv_aload_n hx hb dX2_remove_49 rfl (lv_at hl 0 rfl) ?_
        refine lv_iload_n hx hb dX2_remove_50 rfl (lv_at hl 2 rfl) ?_
        refine g_put S h tyX2 tyX2_ok nmX2 hi (by decide) rfl rfl in2 (k := 1) (by decide) (by decide +kernel) rfl rfl (Nat.le_of_ble_eq_true rfl) rfl dX2_remove_51 (fun H locs h => ?_)
        exact g_retv S h hr hlocks (by rw [ey]; rw [f_rml_i] at c1; exact f_rm_end hz hk (Or.inl (g_gey ex (by omega) c1))) dX2_remove_54
      · refine lv_iload_n hx hb dX2_remove_12 rfl (lv_at hl 3 rfl) ?_
        refine lv_bipush (v := 24) hx hb dX2_remove_13 (by decide) ?_
        refine lv_icmp_ge (tgt := 49) hx hb dX2_remove_15 (by decide) (fun c2 => ?_) (fun c2 => ?_)
        · refine lv_aload_n hx hb dX2_remove_49 rfl (lv_at hl 0 rfl) ?_
          refine lv_iload_n hx hb dX2_remove_50 rfl (lv_at hl 2 rfl) ?_
          refine g_put S h tyX2 tyX2_ok nmX2 hi (by decide) rfl rfl in2 (k := 1) (by decide) (by decide +kernel) rfl rfl (Nat.le_of_ble_eq_true rfl) rfl dX2_remove_51 (fun H locs h => ?_)
          exact g_retv S h hr hlocks (by rw [ey]; exact f_rm_end hz hk (Or.inr (g_ge ex (M := 24) (n := 24) rfl (by omega) (by omega) c2))) dX2_remove_54
        · refine lv_aload_n hx hb dX2_remove_18 rfl (lv_at hl 0 rfl) ?_
          refine g_get S h hi (by decide) rfl rfl in2 (k := 0) (by decide) (by decide +kernel) rfl dX2_remove_19 ?_
          refine lv_iload_n hx hb dX2_remove_22 rfl (lv_at hl 3 rfl) ?_
          refine g_ial S h (gk10_1 hi) (by decide) rfl (g_in ex (g_lt ex (M := 24) (n := 24) rfl (by omega) (by omega) c2) (by omega)) dX2_remove_23 ?_
          refine lv_iload_n hx hb dX2_remove_24 rfl (lv_at hl 1 rfl) ?_
          refine lv_icmp_eq (tgt := 43) hx hb dX2_remove_25 (by decide) (fun c3 => ?_) (fun c3 => ?_)
          · obtain ⟨x4, ex4⟩ : ∃ zz : Int32, zz = x + 1 := ⟨_, rfl⟩
            refine lv_iinc (v := x4) (lv' := [(3, .int x4), (0, .ref (L i)), (1, .int x0), (2, .int y)]) hx hb dX2_remove_43 hl (k := 3) rfl (by rw [ex4]; rfl) (by decide) rfl (fun ls hl => ?_)
            refine lv_goto (tgt := 4) hx hb dX2_remove_46 (by decide) ?_
            have hl2 := g_lt ex (M := 24) (n := 24) rfl (by omega) (by omega) c2
            rw [f_rml_i] at c1
            have hlt := g_lty ex (by omega) c1
            rw [g_cl ex (by omega)] at c3
            have hq := f_rml_t c3
            have h : gH D L cy X A (f_rml st i x0 (k + 1)).1 s H locs := by rw [hq]; exact h
            exact ih (k + 1) x4 y (by omega) (by omega) (g_s1 ex4 ex) (by rw [hq]; exact ey) (by omega) _ _ ls h (lv_sub hl [1, 2, 3, 0] rfl)
          · refine lv_aload_n hx hb dX2_remove_28 rfl (lv_at hl 0 rfl) ?_
            refine g_get S h hi (by decide) rfl rfl in2 (k := 0) (by decide) (by decide +kernel) rfl dX2_remove_29 ?_
            refine lv_iload_n hx hb dX2_remove_32 rfl (lv_at hl 2 rfl) ?_
            refine lv_aload_n hx hb dX2_remove_33 rfl (lv_at hl 0 rfl) ?_
            refine g_get S h hi (by decide) rfl rfl in2 (k := 0) (by decide) (by decide +kernel) rfl dX2_remove_34 ?_
            refine lv_iload_n hx hb dX2_remove_37 rfl (lv_at hl 3 rfl) ?_
            refine g_ial S h (gk10_1 hi) (by decide) rfl (g_in ex (g_lt ex (M := 24) (n := 24) rfl (by omega) (by omega) c2) (by omega)) dX2_remove_38 ?_
            refine g_ias S h (gk10_1 hi) (by decide) (fun _ => rfl) (g_in ey (Nat.lt_of_le_of_lt (f_rml_le k) (g_lt ex (M := 24) (n := 24) rfl (by omega) (by omega) c2)) (by omega)) dX2_remove_39 (fun H locs h => ?_)
            obtain ⟨x5, ex5⟩ : ∃ zz : Int32, zz = y + 1 := ⟨_, rfl⟩
            refine lv_iinc (v := x5) (lv' := [(2, .int x5), (0, .ref (L i)), (1, .int x0), (3, .int x)]) hx hb dX2_remove_40 hl (k := 2) rfl (by rw [ex5]; rfl) (by decide) rfl (fun ls hl => ?_)
            obtain ⟨x6, ex6⟩ : ∃ zz : Int32, zz = x + 1 := ⟨_, rfl⟩
            refine lv_iinc (v := x6) (lv' := [(3, .int x6), (2, .int x5), (0, .ref (L i)), (1, .int x0)]) hx hb dX2_remove_43 hl (k := 3) rfl (by rw [ex6]; rfl) (by decide) rfl (fun ls hl => ?_)
            refine lv_goto (tgt := 4) hx hb dX2_remove_46 (by decide) ?_
            have hl2 := g_lt ex (M := 24) (n := 24) rfl (by omega) (by omega) c2
            rw [f_rml_i] at c1
            have hlt := g_lty ex (by omega) c1
            rw [g_cl ex (by omega)] at c3
            have hq := f_rml_f c3
            rw [g_cl ex (by omega), g_cl ey (by have := f_rml_le (st := st) (i := i) (x := x0) k; omega)] at h
            have h : gH D L cy X A (f_rml st i x0 (k + 1)).1 s H locs := by rw [hq]; exact h
            exact ih (k + 1) x6 x5 (by omega) (by omega) (g_s1 ex6 ex) (by rw [hq]; exact g_s1 ex5 ey) (by omega) _ _ ls h (lv_sub hl [2, 3, 1, 0] rfl)
  exact loop 25 0 0 0 (by omega) (by omega) rfl rfl (by omega) _ _ ls h (lv_sub hl [2, 3, 1, 0] rfl)
