abbrev n_row (cy : Nat → ClassId) (a b : Nat) : va_W := [(a, .inr (2, [.ref b, .int 0])), (b, .inl (cy 0, 24, .inl (fun _ => 0)))]
abbrev n_script (cy : Nat → ClassId) (a b d : Nat) : va_W := [(a, .inr (3, [.ref b, .ref d, .int 0])), (b, .inl (cy 0, 12, .inl (fun _ => 0))), (d, .inl (cy 0, 12, .inl (fun _ => 0)))]
abbrev n_task (a : Nat) (n : Int32) : va_W := [(a, .inr (4, [.int n, .int 0, .int 0, .int 0, .int 0, .int 0, .int 0, .int 0, .int 0, .int 0, .int 0]))]
abbrev n_worker (cy : Nat → ClassId) (a r rn k kn t : Nat) : va_W := [(a, .inr (5, [.ref r, .ref k, .int 0, .int 0, .int 0, .ref t])), (r, .inr (2, [.ref rn, .int 0])), (rn, .inl (cy 0, 24, .inl (fun _ => 0))), (k, .inr (2, [.ref kn, .int 0])), (kn, .inl (cy 0, 24, .inl (fun _ => 0))), (t, .inl (cy 0, 20, .inl (fun _ => 0)))]
set_option maxHeartbeats 8000000 in
set_option maxRecDepth 100000 in
/-- Row() -/
theorem n_X2_init (l : Launch) (D : va_G) (cy : Nat → ClassId) (X : va_W) (A : Nat → Prop) (sz a : Nat)  (hA : ∀ q, sz ≤ q → A q) (hD : va_D A (X ++ [(a, .inr (2, [.null, .int 0]))])) : nM l yX2_init wsX2_init { frames := 1, cells := 1, slots := 24, locals := 12 } D cy X [(a, .inr (2, [.null, .int 0]))] A sz [.ref a] (fun b : Nat => n_row cy a b) 1 24 := by
  refine n_entry hA hD (cc := cX2_init) (maxL := 1) (by decide +kernel) rfl rfl (Nat.le_of_ble_eq_true rfl) ?_
  intro p e s m args below meth c ls B
  obtain ⟨S, hr, hlocks, hmi, h, hl⟩ := B
  have hx := S.1
  have hb := S.2.1
  have hts := S.2.2.2.2
  have hl : lv_has ls 1 [(0, .ref a)] := hl
  have in2 : ∀ w ∈ wsX20, w ∈ wsX2_init := by decide +kernel
  refine lv_aload_n hx hb dX2_init_0 rfl (lv_at hl 0 rfl) ?_
  refine W.objInit hx hb S.2.2.2.1 (hts (.methodLink RX2 3 objectInit) (by decide +kernel)) (hts (.instanceMethod objectInit) (by decide +kernel)) (hts (.code objectInit ⟨#[0xb1]⟩ 1 none) (by decide +kernel)) rfl (by rw [S.2.2.1]; exact hl.1) rfl dX2_init_1 (Nat.le_of_ble_eq_true rfl) (Nat.le_of_ble_eq_true rfl) ?_
  refine W.eq (g2 := F0 m 4 ls []) rfl ?_
  refine lv_aload_n hx hb dX2_init_4 rfl (lv_at hl 0 rfl) ?_
  refine lv_bipush (v := 24) hx hb dX2_init_5 (by decide) ?_
  refine n_newa S h (by decide +kernel) (by decide) rfl (by decide) (Nat.le_of_ble_eq_true rfl) (Nat.le_of_ble_eq_true rfl) dX2_init_7 (fun q H h => ?_)
  refine n_putF S h 0 tyX2 tyX2_ok nmX2 in2 rfl rfl (k := 0) (by decide) (by decide +kernel) rfl hmi rfl (ty := .array .int) rfl rfl rfl (Nat.le_of_ble_eq_true rfl) dX2_init_9 (fun H locs h => ?_)
  exact n_ret S h hr hlocks q rfl dX2_init_12
set_option maxHeartbeats 8000000 in
set_option maxRecDepth 100000 in
/-- Script() -/
theorem n_X3_init (l : Launch) (D : va_G) (cy : Nat → ClassId) (X : va_W) (A : Nat → Prop) (sz a : Nat)  (hA : ∀ q, sz ≤ q → A q) (hD : va_D A (X ++ [(a, .inr (3, [.null, .null, .int 0]))])) : nM l yX3_init wsX3_init { frames := 1, cells := 2, slots := 24, locals := 12 } D cy X [(a, .inr (3, [.null, .null, .int 0]))] A sz [.ref a] (fun u : Nat × Nat => n_script cy a u.1 u.2) 2 24 := by
  refine n_entry hA hD (cc := cX3_init) (maxL := 1) (by decide +kernel) rfl rfl (Nat.le_of_ble_eq_true rfl) ?_
  intro p e s m args below meth c ls B
  obtain ⟨S, hr, hlocks, hmi, h, hl⟩ := B
  have hx := S.1
  have hb := S.2.1
  have hts := S.2.2.2.2
  have hl : lv_has ls 1 [(0, .ref a)] := hl
  have in3 : ∀ w ∈ wsX30, w ∈ wsX3_init := by decide +kernel
  refine lv_aload_n hx hb dX3_init_0 rfl (lv_at hl 0 rfl) ?_
  refine W.objInit hx hb S.2.2.2.1 (hts (.methodLink RX3 3 objectInit) (by decide +kernel)) (hts (.instanceMethod objectInit) (by decide +kernel)) (hts (.code objectInit ⟨#[0xb1]⟩ 1 none) (by decide +kernel)) rfl (by rw [S.2.2.1]; exact hl.1) rfl dX3_init_1 (Nat.le_of_ble_eq_true rfl) (Nat.le_of_ble_eq_true rfl) ?_
  refine W.eq (g2 := F0 m 4 ls []) rfl ?_
  refine lv_aload_n hx hb dX3_init_4 rfl (lv_at hl 0 rfl) ?_
  refine lv_bipush (v := 12) hx hb dX3_init_5 (by decide) ?_
  refine n_newa S h (by decide +kernel) (by decide) rfl (by decide) (Nat.le_of_ble_eq_true rfl) (Nat.le_of_ble_eq_true rfl) dX3_init_7 (fun q H h => ?_)
  refine n_putF S h 0 tyX3 tyX3_ok nmX3 in3 rfl rfl (k := 0) (by decide) (by decide +kernel) rfl hmi rfl (ty := .array .int) rfl rfl rfl (Nat.le_of_ble_eq_true rfl) dX3_init_9 (fun H locs h => ?_)
  refine lv_aload_n hx hb dX3_init_12 rfl (lv_at hl 0 rfl) ?_
  refine lv_bipush (v := 12) hx hb dX3_init_13 (by decide) ?_
  refine n_newa S h (by decide +kernel) (by decide) rfl (by decide) (Nat.le_of_ble_eq_true rfl) (Nat.le_of_ble_eq_true rfl) dX3_init_15 (fun q2 H h => ?_)
  refine n_putF S h 0 tyX3 tyX3_ok nmX3 in3 rfl rfl (k := 1) (by decide) (by decide +kernel) rfl hmi rfl (ty := .array .int) rfl rfl rfl (Nat.le_of_ble_eq_true rfl) dX3_init_17 (fun H locs h => ?_)
  exact n_ret S h hr hlocks (q, q2) rfl dX3_init_20
set_option maxHeartbeats 8000000 in
set_option maxRecDepth 100000 in
/-- Task(number) -/
theorem n_X4_init (l : Launch) (D : va_G) (cy : Nat → ClassId) (X : va_W) (A : Nat → Prop) (sz a : Nat) (n0 : Int32) (hA : ∀ q, sz ≤ q → A q) (hD : va_D A (X ++ [(a, .inr (4, [.int 0, .int 0, .int 0, .int 0, .int 0, .int 0, .int 0, .int 0, .int 0, .int 0, .int 0]))])) : nM l yX4_init wsX4_init { frames := 1, cells := 0, slots := 0, locals := 12 } D cy X [(a, .inr (4, [.int 0, .int 0, .int 0, .int 0, .int 0, .int 0, .int 0, .int 0, .int 0, .int 0, .int 0]))] A sz [.ref a, .int n0] (fun _ : Unit => n_task a n0) 0 0 := by
  refine n_entry hA hD (cc := cX4_init) (maxL := 2) (by decide +kernel) rfl rfl (Nat.le_of_ble_eq_true rfl) ?_
  intro p e s m args below meth c ls B
  obtain ⟨S, hr, hlocks, hmi, h, hl⟩ := B
  have hx := S.1
  have hb := S.2.1
  have hts := S.2.2.2.2
  have hl : lv_has ls 2 [(0, .ref a), (1, .int n0)] := hl
  have in4 : ∀ w ∈ wsX40, w ∈ wsX4_init := by decide +kernel
  refine lv_aload_n hx hb dX4_init_0 rfl (lv_at hl 0 rfl) ?_
  refine W.objInit hx hb S.2.2.2.1 (hts (.methodLink RX4 1 objectInit) (by decide +kernel)) (hts (.instanceMethod objectInit) (by decide +kernel)) (hts (.code objectInit ⟨#[0xb1]⟩ 1 none) (by decide +kernel)) rfl (by rw [S.2.2.1]; exact hl.1) rfl dX4_init_1 (Nat.le_of_ble_eq_true rfl) (Nat.le_of_ble_eq_true rfl) ?_
  refine W.eq (g2 := F0 m 4 ls []) rfl ?_
  refine lv_aload_n hx hb dX4_init_4 rfl (lv_at hl 0 rfl) ?_
  refine lv_iload_n hx hb dX4_init_5 rfl (lv_at hl 1 rfl) ?_
  refine n_putF S h 0 tyX4 tyX4_ok nmX4 in4 rfl rfl (k := 0) (by decide) (by decide +kernel) rfl hmi rfl (ty := .int) rfl rfl rfl (Nat.le_of_ble_eq_true rfl) dX4_init_6 (fun H locs h => ?_)
  exact n_ret S h hr hlocks () rfl dX4_init_9
set_option maxHeartbeats 8000000 in
set_option maxRecDepth 100000 in
/-- Worker() -/
theorem n_X5_init (l : Launch) (D : va_G) (cy : Nat → ClassId) (X : va_W) (A : Nat → Prop) (sz a : Nat)  (hA : ∀ q, sz ≤ q → A q) (hD : va_D A (X ++ [(a, .inr (5, [.null, .null, .int 0, .int 0, .int 0, .null]))])) : nM l yX5_init wsX5_init { frames := 2, cells := 5, slots := 72, locals := 32 } D cy X [(a, .inr (5, [.null, .null, .int 0, .int 0, .int 0, .null]))] A sz [.ref a] (fun u : Nat × Nat × Nat × Nat × Nat => n_worker cy a u.1 u.2.1 u.2.2.1 u.2.2.2.1 u.2.2.2.2) 5 72 := by
  refine n_entry hA hD (cc := cX5_init) (maxL := 1) (by decide +kernel) rfl rfl (Nat.le_of_ble_eq_true rfl) ?_
  intro p e s m args below meth c ls B
  obtain ⟨S, hr, hlocks, hmi, h, hl⟩ := B
  have hx := S.1
  have hb := S.2.1
  have hts := S.2.2.2.2
  have hl : lv_has ls 1 [(0, .ref a)] := hl
  have in2 : ∀ w ∈ wsX20, w ∈ wsX5_init := by decide +kernel
  have in5 : ∀ w ∈ wsX50, w ∈ wsX5_init := by decide +kernel
  refine lv_aload_n hx hb dX5_init_0 rfl (lv_at hl 0 rfl) ?_
  refine W.objInit hx hb S.2.2.2.1 (hts (.methodLink RX5 3 objectInit) (by decide +kernel)) (hts (.instanceMethod objectInit) (by decide +kernel)) (hts (.code objectInit ⟨#[0xb1]⟩ 1 none) (by decide +kernel)) rfl (by rw [S.2.2.1]; exact hl.1) rfl dX5_init_1 (Nat.le_of_ble_eq_true rfl) (Nat.le_of_ble_eq_true rfl) ?_
  refine W.eq (g2 := F0 m 4 ls []) rfl ?_
  refine lv_aload_n hx hb dX5_init_4 rfl (lv_at hl 0 rfl) ?_
  refine n_new S h (ci := 2) (fs := [.null, .int 0]) tyX2 tyX2_ok in2 (by decide +kernel) (by decide +kernel) (by decide +kernel) rfl (fun j hj => by rcases (show j = 0 ∨ j = 1 by omega) with rfl | rfl <;> rfl) (Nat.le_of_ble_eq_true rfl) (Nat.le_of_ble_eq_true rfl) dX5_init_5 (fun r H h => ?_)
  refine lv_dup hx hb dX5_init_8 rfl ?_
  refine n_callN S h (fun hA hD => n_X2_init l D cy _ A _ _ hA hD) ⟨va_cnB 0 hts gX5_init_X2_init_n11 rfl rfl rfl h.2.2.2.1.2.1.2.2.2 (hts _ (show Cond.initialized RX2 ∈ wsX5_init by decide +kernel)) (by decide +kernel) ⟨(Nat.le_of_ble_eq_true rfl), (Nat.le_of_ble_eq_true rfl)⟩, rfl, hts _ (show Cond.instanceMethod yX2_init ∈ wsX5_init by decide +kernel)⟩ rfl hl.1 rfl (Nat.le_of_ble_eq_true rfl) dX5_init_9 ⟨(Nat.le_of_ble_eq_true rfl), (Nat.le_of_ble_eq_true rfl)⟩ (fun rn H locs h => ?_)
  refine n_putF S h 0 tyX5 tyX5_ok nmX5 in5 rfl rfl (k := 0) (by decide) (by decide +kernel) rfl hmi rfl (ty := .object RX2) rfl rfl rfl (Nat.le_of_ble_eq_true rfl) dX5_init_12 (fun H locs h => ?_)
  have h : nH D cy X [(a, .inr (5, [.ref r, .null, .int 0, .int 0, .int 0, .null])), (r, .inr (2, [.ref rn, .int 0])), (rn, .inl (cy 0, 24, .inl (fun _ => 0)))] A s H locs := h
  refine lv_aload_n hx hb dX5_init_15 rfl (lv_at hl 0 rfl) ?_
  refine n_new S h (ci := 2) (fs := [.null, .int 0]) tyX2 tyX2_ok in2 (by decide +kernel) (by decide +kernel) (by decide +kernel) rfl (fun j hj => by rcases (show j = 0 ∨ j = 1 by omega) with rfl | rfl <;> rfl) (Nat.le_of_ble_eq_true rfl) (Nat.le_of_ble_eq_true rfl) dX5_init_16 (fun k H h => ?_)
  refine lv_dup hx hb dX5_init_19 rfl ?_
  refine n_callN S h (fun hA hD => n_X2_init l D cy _ A _ _ hA hD) ⟨va_cnB 0 hts gX5_init_X2_init_n11 rfl rfl rfl h.2.2.2.1.2.1.2.2.2 (hts _ (show Cond.initialized RX2 ∈ wsX5_init by decide +kernel)) (by decide +kernel) ⟨(Nat.le_of_ble_eq_true rfl), (Nat.le_of_ble_eq_true rfl)⟩, rfl, hts _ (show Cond.instanceMethod yX2_init ∈ wsX5_init by decide +kernel)⟩ rfl hl.1 rfl (Nat.le_of_ble_eq_true rfl) dX5_init_20 ⟨(Nat.le_of_ble_eq_true rfl), (Nat.le_of_ble_eq_true rfl)⟩ (fun kn H locs h => ?_)
  refine n_putF S h 0 tyX5 tyX5_ok nmX5 in5 rfl rfl (k := 1) (by decide) (by decide +kernel) rfl hmi rfl (ty := .object RX2) rfl rfl rfl (Nat.le_of_ble_eq_true rfl) dX5_init_23 (fun H locs h => ?_)
  have h : nH D cy X [(a, .inr (5, [.ref r, .ref k, .int 0, .int 0, .int 0, .null])), (r, .inr (2, [.ref rn, .int 0])), (rn, .inl (cy 0, 24, .inl (fun _ => 0))), (k, .inr (2, [.ref kn, .int 0])), (kn, .inl (cy 0, 24, .inl (fun _ => 0)))] A s H locs := h
  refine lv_aload_n hx hb dX5_init_26 rfl (lv_at hl 0 rfl) ?_
  refine lv_bipush (v := 20) hx hb dX5_init_27 (by decide) ?_
  refine n_newa S h (by decide +kernel) (by decide) rfl (by decide) (Nat.le_of_ble_eq_true rfl) (Nat.le_of_ble_eq_true rfl) dX5_init_29 (fun t H h => ?_)
  refine n_putF S h 0 tyX5 tyX5_ok nmX5 in5 rfl rfl (k := 5) (by decide) (by decide +kernel) rfl hmi rfl (ty := .array .int) rfl rfl rfl (Nat.le_of_ble_eq_true rfl) dX5_init_31 (fun H locs h => ?_)
  exact n_ret S h hr hlocks (r, rn, k, kn, t) rfl dX5_init_34
