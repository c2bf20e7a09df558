set_option maxHeartbeats 4000000 in
set_option maxRecDepth 100000 in
/-- Integer.valueOf(-1) -/
theorem k_boxOf (l : Launch) (D : va_G) (E : rEn) (cy : rC) (X : va_W) (A : Nat → Prop) : rMr l yJ6_valueOf_2dffe wsJ6_valueOf_2dffe { frames := 0, cells := 0, slots := 0, locals := 0 } D E cy X [] A [.int (-1)] (fun (_ : Unit) => (E.2.2.1 127)) (fun (_ : Unit) => []) (fun _ => True) 0 0 := by
  refine r_entry (cc := cJ6_valueOf_2dffe) (maxL := 1) (ret := (some (.object "java/lang/Integer"))) (by decide +kernel) rfl (Nat.le_of_ble_eq_true rfl) ?_
  intro p e s m args below meth c ls B
  obtain ⟨S, hr, hlocks, hmi, h, hl⟩ := B
  have hx := S.1
  have hb := S.2.1
  have hts := S.2.2.2.2
  have hl : lv_has ls 1 [(0, .int (-1))] := hl
  refine lv_iload_n hx hb dJ6_valueOf_2dffe_0 rfl (lv_at hl 0 rfl) ?_
  refine lv_bipush (v := (-128)) hx hb dJ6_valueOf_2dffe_1 (by decide) ?_
  refine lv_icmp_lt (tgt := 23) hx hb dJ6_valueOf_2dffe_3 (by decide) (fun c1 => absurd c1 (by decide)) (fun c1 => ?_)
  refine lv_iload_n hx hb dJ6_valueOf_2dffe_6 rfl (lv_at hl 0 rfl) ?_
  refine r_getsH S h (by decide +kernel) dJ6_valueOf_2dffe_7 ?_
  refine lv_icmp_gt (tgt := 23) hx hb dJ6_valueOf_2dffe_10 (by decide) (fun c2 => absurd c2 (by decide)) (fun c2 => ?_)
  refine r_getsC S h (by decide +kernel) dJ6_valueOf_2dffe_13 ?_
  refine lv_iload_n hx hb dJ6_valueOf_2dffe_16 rfl (lv_at hl 0 rfl) ?_
  refine lv_sipush (v := 128) hx hb dJ6_valueOf_2dffe_17 (by decide) ?_
  refine lv_iadd hx hb dJ6_valueOf_2dffe_20 ?_
  refine lv_topi (fun x3 ex3 => ?_)
  obtain rfl : x3 = 127 := by rw [ex3]; decide
  refine r_cald S h (j := 127) (by unfold vp_in; decide) (by decide +kernel) dJ6_valueOf_2dffe_21 ?_
  exact r_retr S h (Or.inl ⟨_, rfl⟩) () rfl trivial hr hlocks rfl ⟨Nat.le_of_ble_eq_true rfl, Nat.le_of_ble_eq_true rfl⟩ dJ6_valueOf_2dffe_22
set_option maxHeartbeats 4000000 in
set_option maxRecDepth 100000 in
/-- newLength(0, 1, ..) -/
theorem k_newLen0 (l : Launch) (D : va_G) (E : rEn) (cy : rC) (X : va_W) (A : Nat → Prop) : rMi l yJ8_newLength_cabcc wsJ8_newLength_cabcc { frames := 1, cells := 0, slots := 0, locals := 24 } D E cy X [] A [.int 0, .int 1, .int 0] 1 (fun (_ : Unit) => []) (fun _ => True) 0 0 := by
  refine r_entry (cc := cJ8_newLength_cabcc) (maxL := 4) (ret := (some .int)) (by decide +kernel) rfl (Nat.le_of_ble_eq_true rfl) ?_
  intro p e s m args below meth c ls B
  obtain ⟨S, hr, hlocks, hmi, h, hl⟩ := B
  have hx := S.1
  have hb := S.2.1
  have hts := S.2.2.2.2
  have hl : lv_has ls 4 [(0, .int 0), (1, .int 1), (2, .int 0)] := hl
  refine lv_iload_n hx hb dJ8_newLength_cabcc_0 rfl (lv_at hl 0 rfl) ?_
  refine lv_iload_n hx hb dJ8_newLength_cabcc_1 rfl (lv_at hl 1 rfl) ?_
  refine lv_iload_n hx hb dJ8_newLength_cabcc_2 rfl (lv_at hl 2 rfl) ?_
  refine va_mmax hx hb (S.2.2.1.trans hl.1.symm) S.2.2.2.1 (hts (.methodLink RJ8 194 Lib.Math.max.name) (by decide +kernel)) (hts (.static Lib.Math.max.name) (by decide +kernel)) (hts (.initialized "java/lang/Math") (by decide +kernel)) (hts (.code Lib.Math.max.name Lib.Math.max.code 2 (some .int)) (by decide +kernel)) (Nat.le_of_ble_eq_true rfl) (Nat.le_of_ble_eq_true rfl) (Nat.le_of_ble_eq_true rfl) (Nat.le_of_ble_eq_true rfl) dJ8_newLength_cabcc_3 ?_
  refine lv_topi (fun x1 ex1 => ?_)
  obtain rfl : x1 = 1 := by rw [ex1]; decide
  refine lv_iadd hx hb dJ8_newLength_cabcc_6 ?_
  refine lv_topi (fun x2 ex2 => ?_)
  obtain rfl : x2 = 1 := by rw [ex2]; decide
  refine lv_istore_n (lv' := [(3, .int 1), (0, .int 0), (1, .int 1), (2, .int 0)]) hx hb dJ8_newLength_cabcc_7 rfl hl (by decide) rfl (fun ls hl => ?_)
  refine lv_iconst (v := 0) hx hb dJ8_newLength_cabcc_8 (by decide) ?_
  refine lv_iload_n hx hb dJ8_newLength_cabcc_9 rfl (lv_at hl 0 rfl) ?_
  refine lv_icmp_ge (tgt := 21) hx hb dJ8_newLength_cabcc_10 (by decide) (fun c3 => absurd c3 (by decide)) (fun c3 => ?_)
  refine lv_iload_n hx hb dJ8_newLength_cabcc_13 rfl (lv_at hl 0 rfl) ?_
  refine lv_ldc (v := 2147483639) hx hb S.2.2.2.1 (hts (.constant RJ8 200 2147483639) (by decide +kernel)) dJ8_newLength_cabcc_14 ?_
  refine lv_icmp_gt (tgt := 21) hx hb dJ8_newLength_cabcc_16 (by decide) (fun c4 => absurd c4 (by decide)) (fun c4 => ?_)
  refine lv_iload_n hx hb dJ8_newLength_cabcc_19 rfl (lv_at hl 0 rfl) ?_
  exact r_reti S h () rfl trivial hr hlocks rfl (rfl) ⟨Nat.le_of_ble_eq_true rfl, Nat.le_of_ble_eq_true rfl⟩ dJ8_newLength_cabcc_20
set_option maxHeartbeats 4000000 in
set_option maxRecDepth 100000 in
/-- newLength(1, 1, ..) -/
theorem k_newLen1 (l : Launch) (D : va_G) (E : rEn) (cy : rC) (X : va_W) (A : Nat → Prop) : rMi l yJ8_newLength_cabcc wsJ8_newLength_cabcc { frames := 1, cells := 0, slots := 0, locals := 24 } D E cy X [] A [.int 1, .int 1, .int 0] 2 (fun (_ : Unit) => []) (fun _ => True) 0 0 := by
  refine r_entry (cc := cJ8_newLength_cabcc) (maxL := 4) (ret := (some .int)) (by decide +kernel) rfl (Nat.le_of_ble_eq_true rfl) ?_
  intro p e s m args below meth c ls B
  obtain ⟨S, hr, hlocks, hmi, h, hl⟩ := B
  have hx := S.1
  have hb := S.2.1
  have hts := S.2.2.2.2
  have hl : lv_has ls 4 [(0, .int 1), (1, .int 1), (2, .int 0)] := hl
  refine lv_iload_n hx hb dJ8_newLength_cabcc_0 rfl (lv_at hl 0 rfl) ?_
  refine lv_iload_n hx hb dJ8_newLength_cabcc_1 rfl (lv_at hl 1 rfl) ?_
  refine lv_iload_n hx hb dJ8_newLength_cabcc_2 rfl (lv_at hl 2 rfl) ?_
  refine va_mmax hx hb (S.2.2.1.trans hl.1.symm) S.2.2.2.1 (hts (.methodLink RJ8 194 Lib.Math.max.name) (by decide +kernel)) (hts (.static Lib.Math.max.name) (by decide +kernel)) (hts (.initialized "java/lang/Math") (by decide +kernel)) (hts (.code Lib.Math.max.name Lib.Math.max.code 2 (some .int)) (by decide +kernel)) (Nat.le_of_ble_eq_true rfl) (Nat.le_of_ble_eq_true rfl) (Nat.le_of_ble_eq_true rfl) (Nat.le_of_ble_eq_true rfl) dJ8_newLength_cabcc_3 ?_
  refine lv_topi (fun x1 ex1 => ?_)
  obtain rfl : x1 = 1 := by rw [ex1]; decide
  refine lv_iadd hx hb dJ8_newLength_cabcc_6 ?_
  refine lv_topi (fun x2 ex2 => ?_)
  obtain rfl : x2 = 2 := by rw [ex2]; decide
  refine lv_istore_n (lv' := [(3, .int 2), (0, .int 1), (1, .int 1), (2, .int 0)]) hx hb dJ8_newLength_cabcc_7 rfl hl (by decide) rfl (fun ls hl => ?_)
  refine lv_iconst (v := 0) hx hb dJ8_newLength_cabcc_8 (by decide) ?_
  refine lv_iload_n hx hb dJ8_newLength_cabcc_9 rfl (lv_at hl 0 rfl) ?_
  refine lv_icmp_ge (tgt := 21) hx hb dJ8_newLength_cabcc_10 (by decide) (fun c3 => absurd c3 (by decide)) (fun c3 => ?_)
  refine lv_iload_n hx hb dJ8_newLength_cabcc_13 rfl (lv_at hl 0 rfl) ?_
  refine lv_ldc (v := 2147483639) hx hb S.2.2.2.1 (hts (.constant RJ8 200 2147483639) (by decide +kernel)) dJ8_newLength_cabcc_14 ?_
  refine lv_icmp_gt (tgt := 21) hx hb dJ8_newLength_cabcc_16 (by decide) (fun c4 => absurd c4 (by decide)) (fun c4 => ?_)
  refine lv_iload_n hx hb dJ8_newLength_cabcc_19 rfl (lv_at hl 0 rfl) ?_
  exact r_reti S h () rfl trivial hr hlocks rfl (rfl) ⟨Nat.le_of_ble_eq_true rfl, Nat.le_of_ble_eq_true rfl⟩ dJ8_newLength_cabcc_20
set_option maxHeartbeats 4000000 in
set_option maxRecDepth 100000 in
/-- newLength(2, 1, ..) -/
theorem k_newLen2 (l : Launch) (D : va_G) (E : rEn) (cy : rC) (X : va_W) (A : Nat → Prop) : rMi l yJ8_newLength_cabcc wsJ8_newLength_cabcc { frames := 1, cells := 0, slots := 0, locals := 24 } D E cy X [] A [.int 2, .int 1, .int 1] 3 (fun (_ : Unit) => []) (fun _ => True) 0 0 := by
  refine r_entry (cc := cJ8_newLength_cabcc) (maxL := 4) (ret := (some .int)) (by decide +kernel) rfl (Nat.le_of_ble_eq_true rfl) ?_
  intro p e s m args below meth c ls B
  obtain ⟨S, hr, hlocks, hmi, h, hl⟩ := B
  have hx := S.1
  have hb := S.2.1
  have hts := S.2.2.2.2
  have hl : lv_has ls 4 [(0, .int 2), (1, .int 1), (2, .int 1)] := hl
  refine lv_iload_n hx hb dJ8_newLength_cabcc_0 rfl (lv_at hl 0 rfl) ?_
  refine lv_iload_n hx hb dJ8_newLength_cabcc_1 rfl (lv_at hl 1 rfl) ?_
  refine lv_iload_n hx hb dJ8_newLength_cabcc_2 rfl (lv_at hl 2 rfl) ?_
  refine va_mmax hx hb (S.2.2.1.trans hl.1.symm) S.2.2.2.1 (hts (.methodLink RJ8 194 Lib.Math.max.name) (by decide +kernel)) (hts (.static Lib.Math.max.name) (by decide +kernel)) (hts (.initialized "java/lang/Math") (by decide +kernel)) (hts (.code Lib.Math.max.name Lib.Math.max.code 2 (some .int)) (by decide +kernel)) (Nat.le_of_ble_eq_true rfl) (Nat.le_of_ble_eq_true rfl) (Nat.le_of_ble_eq_true rfl) (Nat.le_of_ble_eq_true rfl) dJ8_newLength_cabcc_3 ?_
  refine lv_topi (fun x1 ex1 => ?_)
  obtain rfl : x1 = 1 := by rw [ex1]; decide
  refine lv_iadd hx hb dJ8_newLength_cabcc_6 ?_
  refine lv_topi (fun x2 ex2 => ?_)
  obtain rfl : x2 = 3 := by rw [ex2]; decide
  refine lv_istore_n (lv' := [(3, .int 3), (0, .int 2), (1, .int 1), (2, .int 1)]) hx hb dJ8_newLength_cabcc_7 rfl hl (by decide) rfl (fun ls hl => ?_)
  refine lv_iconst (v := 0) hx hb dJ8_newLength_cabcc_8 (by decide) ?_
  refine lv_iload_n hx hb dJ8_newLength_cabcc_9 rfl (lv_at hl 0 rfl) ?_
  refine lv_icmp_ge (tgt := 21) hx hb dJ8_newLength_cabcc_10 (by decide) (fun c3 => absurd c3 (by decide)) (fun c3 => ?_)
  refine lv_iload_n hx hb dJ8_newLength_cabcc_13 rfl (lv_at hl 0 rfl) ?_
  refine lv_ldc (v := 2147483639) hx hb S.2.2.2.1 (hts (.constant RJ8 200 2147483639) (by decide +kernel)) dJ8_newLength_cabcc_14 ?_
  refine lv_icmp_gt (tgt := 21) hx hb dJ8_newLength_cabcc_16 (by decide) (fun c4 => absurd c4 (by decide)) (fun c4 => ?_)
  refine lv_iload_n hx hb dJ8_newLength_cabcc_19 rfl (lv_at hl 0 rfl) ?_
  exact r_reti S h () rfl trivial hr hlocks rfl (rfl) ⟨Nat.le_of_ble_eq_true rfl, Nat.le_of_ble_eq_true rfl⟩ dJ8_newLength_cabcc_20
set_option maxHeartbeats 4000000 in
set_option maxRecDepth 100000 in
/-- newLength(3, 1, ..) -/
theorem k_newLen3 (l : Launch) (D : va_G) (E : rEn) (cy : rC) (X : va_W) (A : Nat → Prop) : rMi l yJ8_newLength_cabcc wsJ8_newLength_cabcc { frames := 1, cells := 0, slots := 0, locals := 24 } D E cy X [] A [.int 3, .int 1, .int 1] 4 (fun (_ : Unit) => []) (fun _ => True) 0 0 := by
  refine r_entry (cc := cJ8_newLength_cabcc) (maxL := 4) (ret := (some .int)) (by decide +kernel) rfl (Nat.le_of_ble_eq_true rfl) ?_
  intro p e s m args below meth c ls B
  obtain ⟨S, hr, hlocks, hmi, h, hl⟩ := B
  have hx := S.1
  have hb := S.2.1
  have hts := S.2.2.2.2
  have hl : lv_has ls 4 [(0, .int 3), (1, .int 1), (2, .int 1)] := hl
  refine lv_iload_n hx hb dJ8_newLength_cabcc_0 rfl (lv_at hl 0 rfl) ?_
  refine lv_iload_n hx hb dJ8_newLength_cabcc_1 rfl (lv_at hl 1 rfl) ?_
  refine lv_iload_n hx hb dJ8_newLength_cabcc_2 rfl (lv_at hl 2 rfl) ?_
  refine va_mmax hx hb (S.2.2.1.trans hl.1.symm) S.2.2.2.1 (hts (.methodLink RJ8 194 Lib.Math.max.name) (by decide +kernel)) (hts (.static Lib.Math.max.name) (by decide +kernel)) (hts (.initialized "java/lang/Math") (by decide +kernel)) (hts (.code Lib.Math.max.name Lib.Math.max.code 2 (some .int)) (by decide +kernel)) (Nat.le_of_ble_eq_true rfl) (Nat.le_of_ble_eq_true rfl) (Nat.le_of_ble_eq_true rfl) (Nat.le_of_ble_eq_true rfl) dJ8_newLength_cabcc_3 ?_
  refine lv_topi (fun x1 ex1 => ?_)
  obtain rfl : x1 = 1 := by rw [ex1]; decide
  refine lv_iadd hx hb dJ8_newLength_cabcc_6 ?_
  refine lv_topi (fun x2 ex2 => ?_)
  obtain rfl : x2 = 4 := by rw [ex2]; decide
  refine lv_istore_n (lv' := [(3, .int 4), (0, .int 3), (1, .int 1), (2, .int 1)]) hx hb dJ8_newLength_cabcc_7 rfl hl (by decide) rfl (fun ls hl => ?_)
  refine lv_iconst (v := 0) hx hb dJ8_newLength_cabcc_8 (by decide) ?_
  refine lv_iload_n hx hb dJ8_newLength_cabcc_9 rfl (lv_at hl 0 rfl) ?_
  refine lv_icmp_ge (tgt := 21) hx hb dJ8_newLength_cabcc_10 (by decide) (fun c3 => absurd c3 (by decide)) (fun c3 => ?_)
  refine lv_iload_n hx hb dJ8_newLength_cabcc_13 rfl (lv_at hl 0 rfl) ?_
  refine lv_ldc (v := 2147483639) hx hb S.2.2.2.1 (hts (.constant RJ8 200 2147483639) (by decide +kernel)) dJ8_newLength_cabcc_14 ?_
  refine lv_icmp_gt (tgt := 21) hx hb dJ8_newLength_cabcc_16 (by decide) (fun c4 => absurd c4 (by decide)) (fun c4 => ?_)
  refine lv_iload_n hx hb dJ8_newLength_cabcc_19 rfl (lv_at hl 0 rfl) ?_
  exact r_reti S h () rfl trivial hr hlocks rfl (rfl) ⟨Nat.le_of_ble_eq_true rfl, Nat.le_of_ble_eq_true rfl⟩ dJ8_newLength_cabcc_20
set_option maxHeartbeats 4000000 in
set_option maxRecDepth 100000 in
/-- newLength(4, 1, ..) -/
theorem k_newLen4 (l : Launch) (D : va_G) (E : rEn) (cy : rC) (X : va_W) (A : Nat → Prop) : rMi l yJ8_newLength_cabcc wsJ8_newLength_cabcc { frames := 1, cells := 0, slots := 0, locals := 24 } D E cy X [] A [.int 4, .int 1, .int 2] 6 (fun (_ : Unit) => []) (fun _ => True) 0 0 := by
  refine r_entry (cc := cJ8_newLength_cabcc) (maxL := 4) (ret := (some .int)) (by decide +kernel) rfl (Nat.le_of_ble_eq_true rfl) ?_
  intro p e s m args below meth c ls B
  obtain ⟨S, hr, hlocks, hmi, h, hl⟩ := B
  have hx := S.1
  have hb := S.2.1
  have hts := S.2.2.2.2
  have hl : lv_has ls 4 [(0, .int 4), (1, .int 1), (2, .int 2)] := hl
  refine lv_iload_n hx hb dJ8_newLength_cabcc_0 rfl (lv_at hl 0 rfl) ?_
  refine lv_iload_n hx hb dJ8_newLength_cabcc_1 rfl (lv_at hl 1 rfl) ?_
  refine lv_iload_n hx hb dJ8_newLength_cabcc_2 rfl (lv_at hl 2 rfl) ?_
  refine va_mmax hx hb (S.2.2.1.trans hl.1.symm) S.2.2.2.1 (hts (.methodLink RJ8 194 Lib.Math.max.name) (by decide +kernel)) (hts (.static Lib.Math.max.name) (by decide +kernel)) (hts (.initialized "java/lang/Math") (by decide +kernel)) (hts (.code Lib.Math.max.name Lib.Math.max.code 2 (some .int)) (by decide +kernel)) (Nat.le_of_ble_eq_true rfl) (Nat.le_of_ble_eq_true rfl) (Nat.le_of_ble_eq_true rfl) (Nat.le_of_ble_eq_true rfl) dJ8_newLength_cabcc_3 ?_
  refine lv_topi (fun x1 ex1 => ?_)
  obtain rfl : x1 = 2 := by rw [ex1]; decide
  refine lv_iadd hx hb dJ8_newLength_cabcc_6 ?_
  refine lv_topi (fun x2 ex2 => ?_)
  obtain rfl : x2 = 6 := by rw [ex2]; decide
  refine lv_istore_n (lv' := [(3, .int 6), (0, .int 4), (1, .int 1), (2, .int 2)]) hx hb dJ8_newLength_cabcc_7 rfl hl (by decide) rfl (fun ls hl => ?_)
  refine lv_iconst (v := 0) hx hb dJ8_newLength_cabcc_8 (by decide) ?_
  refine lv_iload_n hx hb dJ8_newLength_cabcc_9 rfl (lv_at hl 0 rfl) ?_
  refine lv_icmp_ge (tgt := 21) hx hb dJ8_newLength_cabcc_10 (by decide) (fun c3 => absurd c3 (by decide)) (fun c3 => ?_)
  refine lv_iload_n hx hb dJ8_newLength_cabcc_13 rfl (lv_at hl 0 rfl) ?_
  refine lv_ldc (v := 2147483639) hx hb S.2.2.2.1 (hts (.constant RJ8 200 2147483639) (by decide +kernel)) dJ8_newLength_cabcc_14 ?_
  refine lv_icmp_gt (tgt := 21) hx hb dJ8_newLength_cabcc_16 (by decide) (fun c4 => absurd c4 (by decide)) (fun c4 => ?_)
  refine lv_iload_n hx hb dJ8_newLength_cabcc_19 rfl (lv_at hl 0 rfl) ?_
  exact r_reti S h () rfl trivial hr hlocks rfl (rfl) ⟨Nat.le_of_ble_eq_true rfl, Nat.le_of_ble_eq_true rfl⟩ dJ8_newLength_cabcc_20
set_option maxHeartbeats 4000000 in
set_option maxRecDepth 100000 in
/-- newLength(6, 1, ..) -/
theorem k_newLen6 (l : Launch) (D : va_G) (E : rEn) (cy : rC) (X : va_W) (A : Nat → Prop) : rMi l yJ8_newLength_cabcc wsJ8_newLength_cabcc { frames := 1, cells := 0, slots := 0, locals := 24 } D E cy X [] A [.int 6, .int 1, .int 3] 9 (fun (_ : Unit) => []) (fun _ => True) 0 0 := by
  refine r_entry (cc := cJ8_newLength_cabcc) (maxL := 4) (ret := (some .int)) (by decide +kernel) rfl (Nat.le_of_ble_eq_true rfl) ?_
  intro p e s m args below meth c ls B
  obtain ⟨S, hr, hlocks, hmi, h, hl⟩ := B
  have hx := S.1
  have hb := S.2.1
  have hts := S.2.2.2.2
  have hl : lv_has ls 4 [(0, .int 6), (1, .int 1), (2, .int 3)] := hl
  refine lv_iload_n hx hb dJ8_newLength_cabcc_0 rfl (lv_at hl 0 rfl) ?_
  refine lv_iload_n hx hb dJ8_newLength_cabcc_1 rfl (lv_at hl 1 rfl) ?_
  refine lv_iload_n hx hb dJ8_newLength_cabcc_2 rfl (lv_at hl 2 rfl) ?_
  refine va_mmax hx hb (S.2.2.1.trans hl.1.symm) S.2.2.2.1 (hts (.methodLink RJ8 194 Lib.Math.max.name) (by decide +kernel)) (hts (.static Lib.Math.max.name) (by decide +kernel)) (hts (.initialized "java/lang/Math") (by decide +kernel)) (hts (.code Lib.Math.max.name Lib.Math.max.code 2 (some .int)) (by decide +kernel)) (Nat.le_of_ble_eq_true rfl) (Nat.le_of_ble_eq_true rfl) (Nat.le_of_ble_eq_true rfl) (Nat.le_of_ble_eq_true rfl) dJ8_newLength_cabcc_3 ?_
  refine lv_topi (fun x1 ex1 => ?_)
  obtain rfl : x1 = 3 := by rw [ex1]; decide
  refine lv_iadd hx hb dJ8_newLength_cabcc_6 ?_
  refine lv_topi (fun x2 ex2 => ?_)
  obtain rfl : x2 = 9 := by rw [ex2]; decide
  refine lv_istore_n (lv' := [(3, .int 9), (0, .int 6), (1, .int 1), (2, .int 3)]) hx hb dJ8_newLength_cabcc_7 rfl hl (by decide) rfl (fun ls hl => ?_)
  refine lv_iconst (v := 0) hx hb dJ8_newLength_cabcc_8 (by decide) ?_
  refine lv_iload_n hx hb dJ8_newLength_cabcc_9 rfl (lv_at hl 0 rfl) ?_
  refine lv_icmp_ge (tgt := 21) hx hb dJ8_newLength_cabcc_10 (by decide) (fun c3 => absurd c3 (by decide)) (fun c3 => ?_)
  refine lv_iload_n hx hb dJ8_newLength_cabcc_13 rfl (lv_at hl 0 rfl) ?_
  refine lv_ldc (v := 2147483639) hx hb S.2.2.2.1 (hts (.constant RJ8 200 2147483639) (by decide +kernel)) dJ8_newLength_cabcc_14 ?_
  refine lv_icmp_gt (tgt := 21) hx hb dJ8_newLength_cabcc_16 (by decide) (fun c4 => absurd c4 (by decide)) (fun c4 => ?_)
  refine lv_iload_n hx hb dJ8_newLength_cabcc_19 rfl (lv_at hl 0 rfl) ?_
  exact r_reti S h () rfl trivial hr hlocks rfl (rfl) ⟨Nat.le_of_ble_eq_true rfl, Nat.le_of_ble_eq_true rfl⟩ dJ8_newLength_cabcc_20
set_option maxHeartbeats 4000000 in
set_option maxRecDepth 100000 in
/-- newLength(9, 1, ..) -/
theorem k_newLen9 (l : Launch) (D : va_G) (E : rEn) (cy : rC) (X : va_W) (A : Nat → Prop) : rMi l yJ8_newLength_cabcc wsJ8_newLength_cabcc { frames := 1, cells := 0, slots := 0, locals := 24 } D E cy X [] A [.int 9, .int 1, .int 4] 13 (fun (_ : Unit) => []) (fun _ => True) 0 0 := by
  refine r_entry (cc := cJ8_newLength_cabcc) (maxL := 4) (ret := (some .int)) (by decide +kernel) rfl (Nat.le_of_ble_eq_true rfl) ?_
  intro p e s m args below meth c ls B
  obtain ⟨S, hr, hlocks, hmi, h, hl⟩ := B
  have hx := S.1
  have hb := S.2.1
  have hts := S.2.2.2.2
  have hl : lv_has ls 4 [(0, .int 9), (1, .int 1), (2, .int 4)] := hl
  refine lv_iload_n hx hb dJ8_newLength_cabcc_0 rfl (lv_at hl 0 rfl) ?_
  refine lv_iload_n hx hb dJ8_newLength_cabcc_1 rfl (lv_at hl 1 rfl) ?_
  refine lv_iload_n hx hb dJ8_newLength_cabcc_2 rfl (lv_at hl 2 rfl) ?_
  refine va_mmax hx hb (S.2.2.1.trans hl.1.symm) S.2.2.2.1 (hts (.methodLink RJ8 194 Lib.Math.max.name) (by decide +kernel)) (hts (.static Lib.Math.max.name) (by decide +kernel)) (hts (.initialized "java/lang/Math") (by decide +kernel)) (hts (.code Lib.Math.max.name Lib.Math.max.code 2 (some .int)) (by decide +kernel)) (Nat.le_of_ble_eq_true rfl) (Nat.le_of_ble_eq_true rfl) (Nat.le_of_ble_eq_true rfl) (Nat.le_of_ble_eq_true rfl) dJ8_newLength_cabcc_3 ?_
  refine lv_topi (fun x1 ex1 => ?_)
  obtain rfl : x1 = 4 := by rw [ex1]; decide
  refine lv_iadd hx hb dJ8_newLength_cabcc_6 ?_
  refine lv_topi (fun x2 ex2 => ?_)
  obtain rfl : x2 = 13 := by rw [ex2]; decide
  refine lv_istore_n (lv' := [(3, .int 13), (0, .int 9), (1, .int 1), (2, .int 4)]) hx hb dJ8_newLength_cabcc_7 rfl hl (by decide) rfl (fun ls hl => ?_)
  refine lv_iconst (v := 0) hx hb dJ8_newLength_cabcc_8 (by decide) ?_
  refine lv_iload_n hx hb dJ8_newLength_cabcc_9 rfl (lv_at hl 0 rfl) ?_
  refine lv_icmp_ge (tgt := 21) hx hb dJ8_newLength_cabcc_10 (by decide) (fun c3 => absurd c3 (by decide)) (fun c3 => ?_)
  refine lv_iload_n hx hb dJ8_newLength_cabcc_13 rfl (lv_at hl 0 rfl) ?_
  refine lv_ldc (v := 2147483639) hx hb S.2.2.2.1 (hts (.constant RJ8 200 2147483639) (by decide +kernel)) dJ8_newLength_cabcc_14 ?_
  refine lv_icmp_gt (tgt := 21) hx hb dJ8_newLength_cabcc_16 (by decide) (fun c4 => absurd c4 (by decide)) (fun c4 => ?_)
  refine lv_iload_n hx hb dJ8_newLength_cabcc_19 rfl (lv_at hl 0 rfl) ?_
  exact r_reti S h () rfl trivial hr hlocks rfl (rfl) ⟨Nat.le_of_ble_eq_true rfl, Nat.le_of_ble_eq_true rfl⟩ dJ8_newLength_cabcc_20
set_option maxHeartbeats 4000000 in
set_option maxRecDepth 100000 in
/-- newLength(10, 1, ..) -/
theorem k_newLen10 (l : Launch) (D : va_G) (E : rEn) (cy : rC) (X : va_W) (A : Nat → Prop) : rMi l yJ8_newLength_cabcc wsJ8_newLength_cabcc { frames := 1, cells := 0, slots := 0, locals := 24 } D E cy X [] A [.int 10, .int 1, .int 5] 15 (fun (_ : Unit) => []) (fun _ => True) 0 0 := by
  refine r_entry (cc := cJ8_newLength_cabcc) (maxL := 4) (ret := (some .int)) (by decide +kernel) rfl (Nat.le_of_ble_eq_true rfl) ?_
  intro p e s m args below meth c ls B
  obtain ⟨S, hr, hlocks, hmi, h, hl⟩ := B
  have hx := S.1
  have hb := S.2.1
  have hts := S.2.2.2.2
  have hl : lv_has ls 4 [(0, .int 10), (1, .int 1), (2, .int 5)] := hl
  refine lv_iload_n hx hb dJ8_newLength_cabcc_0 rfl (lv_at hl 0 rfl) ?_
  refine lv_iload_n hx hb dJ8_newLength_cabcc_1 rfl (lv_at hl 1 rfl) ?_
  refine lv_iload_n hx hb dJ8_newLength_cabcc_2 rfl (lv_at hl 2 rfl) ?_
  refine va_mmax hx hb (S.2.2.1.trans hl.1.symm) S.2.2.2.1 (hts (.methodLink RJ8 194 Lib.Math.max.name) (by decide +kernel)) (hts (.static Lib.Math.max.name) (by decide +kernel)) (hts (.initialized "java/lang/Math") (by decide +kernel)) (hts (.code Lib.Math.max.name Lib.Math.max.code 2 (some .int)) (by decide +kernel)) (Nat.le_of_ble_eq_true rfl) (Nat.le_of_ble_eq_true rfl) (Nat.le_of_ble_eq_true rfl) (Nat.le_of_ble_eq_true rfl) dJ8_newLength_cabcc_3 ?_
  refine lv_topi (fun x1 ex1 => ?_)
  obtain rfl : x1 = 5 := by rw [ex1]; decide
  refine lv_iadd hx hb dJ8_newLength_cabcc_6 ?_
  refine lv_topi (fun x2 ex2 => ?_)
  obtain rfl : x2 = 15 := by rw [ex2]; decide
  refine lv_istore_n (lv' := [(3, .int 15), (0, .int 10), (1, .int 1), (2, .int 5)]) hx hb dJ8_newLength_cabcc_7 rfl hl (by decide) rfl (fun ls hl => ?_)
  refine lv_iconst (v := 0) hx hb dJ8_newLength_cabcc_8 (by decide) ?_
  refine lv_iload_n hx hb dJ8_newLength_cabcc_9 rfl (lv_at hl 0 rfl) ?_
  refine lv_icmp_ge (tgt := 21) hx hb dJ8_newLength_cabcc_10 (by decide) (fun c3 => absurd c3 (by decide)) (fun c3 => ?_)
  refine lv_iload_n hx hb dJ8_newLength_cabcc_13 rfl (lv_at hl 0 rfl) ?_
  refine lv_ldc (v := 2147483639) hx hb S.2.2.2.1 (hts (.constant RJ8 200 2147483639) (by decide +kernel)) dJ8_newLength_cabcc_14 ?_
  refine lv_icmp_gt (tgt := 21) hx hb dJ8_newLength_cabcc_16 (by decide) (fun c4 => absurd c4 (by decide)) (fun c4 => ?_)
  refine lv_iload_n hx hb dJ8_newLength_cabcc_19 rfl (lv_at hl 0 rfl) ?_
  exact r_reti S h () rfl trivial hr hlocks rfl (rfl) ⟨Nat.le_of_ble_eq_true rfl, Nat.le_of_ble_eq_true rfl⟩ dJ8_newLength_cabcc_20
set_option maxHeartbeats 4000000 in
set_option maxRecDepth 100000 in
/-- newLength(13, 1, ..) -/
theorem k_newLen13 (l : Launch) (D : va_G) (E : rEn) (cy : rC) (X : va_W) (A : Nat → Prop) : rMi l yJ8_newLength_cabcc wsJ8_newLength_cabcc { frames := 1, cells := 0, slots := 0, locals := 24 } D E cy X [] A [.int 13, .int 1, .int 6] 19 (fun (_ : Unit) => []) (fun _ => True) 0 0 := by
  refine r_entry (cc := cJ8_newLength_cabcc) (maxL := 4) (ret := (some .int)) (by decide +kernel) rfl (Nat.le_of_ble_eq_true rfl) ?_
  intro p e s m args below meth c ls B
  obtain ⟨S, hr, hlocks, hmi, h, hl⟩ := B
  have hx := S.1
  have hb := S.2.1
  have hts := S.2.2.2.2
  have hl : lv_has ls 4 [(0, .int 13), (1, .int 1), (2, .int 6)] := hl
  refine lv_iload_n hx hb dJ8_newLength_cabcc_0 rfl (lv_at hl 0 rfl) ?_
  refine lv_iload_n hx hb dJ8_newLength_cabcc_1 rfl (lv_at hl 1 rfl) ?_
  refine lv_iload_n hx hb dJ8_newLength_cabcc_2 rfl (lv_at hl 2 rfl) ?_
  refine va_mmax hx hb (S.2.2.1.trans hl.1.symm) S.2.2.2.1 (hts (.methodLink RJ8 194 Lib.Math.max.name) (by decide +kernel)) (hts (.static Lib.Math.max.name) (by decide +kernel)) (hts (.initialized "java/lang/Math") (by decide +kernel)) (hts (.code Lib.Math.max.name Lib.Math.max.code 2 (some .int)) (by decide +kernel)) (Nat.le_of_ble_eq_true rfl) (Nat.le_of_ble_eq_true rfl) (Nat.le_of_ble_eq_true rfl) (Nat.le_of_ble_eq_true rfl) dJ8_newLength_cabcc_3 ?_
  refine lv_topi (fun x1 ex1 => ?_)
  obtain rfl : x1 = 6 := by rw [ex1]; decide
  refine lv_iadd hx hb dJ8_newLength_cabcc_6 ?_
  refine lv_topi (fun x2 ex2 => ?_)
  obtain rfl : x2 = 19 := by rw [ex2]; decide
  refine lv_istore_n (lv' := [(3, .int 19), (0, .int 13), (1, .int 1), (2, .int 6)]) hx hb dJ8_newLength_cabcc_7 rfl hl (by decide) rfl (fun ls hl => ?_)
  refine lv_iconst (v := 0) hx hb dJ8_newLength_cabcc_8 (by decide) ?_
  refine lv_iload_n hx hb dJ8_newLength_cabcc_9 rfl (lv_at hl 0 rfl) ?_
  refine lv_icmp_ge (tgt := 21) hx hb dJ8_newLength_cabcc_10 (by decide) (fun c3 => absurd c3 (by decide)) (fun c3 => ?_)
  refine lv_iload_n hx hb dJ8_newLength_cabcc_13 rfl (lv_at hl 0 rfl) ?_
  refine lv_ldc (v := 2147483639) hx hb S.2.2.2.1 (hts (.constant RJ8 200 2147483639) (by decide +kernel)) dJ8_newLength_cabcc_14 ?_
  refine lv_icmp_gt (tgt := 21) hx hb dJ8_newLength_cabcc_16 (by decide) (fun c4 => absurd c4 (by decide)) (fun c4 => ?_)
  refine lv_iload_n hx hb dJ8_newLength_cabcc_19 rfl (lv_at hl 0 rfl) ?_
  exact r_reti S h () rfl trivial hr hlocks rfl (rfl) ⟨Nat.le_of_ble_eq_true rfl, Nat.le_of_ble_eq_true rfl⟩ dJ8_newLength_cabcc_20
set_option maxHeartbeats 4000000 in
set_option maxRecDepth 100000 in
/-- newLength(15, 1, ..) -/
theorem k_newLen15 (l : Launch) (D : va_G) (E : rEn) (cy : rC) (X : va_W) (A : Nat → Prop) : rMi l yJ8_newLength_cabcc wsJ8_newLength_cabcc { frames := 1, cells := 0, slots := 0, locals := 24 } D E cy X [] A [.int 15, .int 1, .int 7] 22 (fun (_ : Unit) => []) (fun _ => True) 0 0 := by
  refine r_entry (cc := cJ8_newLength_cabcc) (maxL := 4) (ret := (some .int)) (by decide +kernel) rfl (Nat.le_of_ble_eq_true rfl) ?_
  intro p e s m args below meth c ls B
  obtain ⟨S, hr, hlocks, hmi, h, hl⟩ := B
  have hx := S.1
  have hb := S.2.1
  have hts := S.2.2.2.2
  have hl : lv_has ls 4 [(0, .int 15), (1, .int 1), (2, .int 7)] := hl
  refine lv_iload_n hx hb dJ8_newLength_cabcc_0 rfl (lv_at hl 0 rfl) ?_
  refine lv_iload_n hx hb dJ8_newLength_cabcc_1 rfl (lv_at hl 1 rfl) ?_
  refine lv_iload_n hx hb dJ8_newLength_cabcc_2 rfl (lv_at hl 2 rfl) ?_
  refine va_mmax hx hb (S.2.2.1.trans hl.1.symm) S.2.2.2.1 (hts (.methodLink RJ8 194 Lib.Math.max.name) (by decide +kernel)) (hts (.static Lib.Math.max.name) (by decide +kernel)) (hts (.initialized "java/lang/Math") (by decide +kernel)) (hts (.code Lib.Math.max.name Lib.Math.max.code 2 (some .int)) (by decide +kernel)) (Nat.le_of_ble_eq_true rfl) (Nat.le_of_ble_eq_true rfl) (Nat.le_of_ble_eq_true rfl) (Nat.le_of_ble_eq_true rfl) dJ8_newLength_cabcc_3 ?_
  refine lv_topi (fun x1 ex1 => ?_)
  obtain rfl : x1 = 7 := by rw [ex1]; decide
  refine lv_iadd hx hb dJ8_newLength_cabcc_6 ?_
  refine lv_topi (fun x2 ex2 => ?_)
  obtain rfl : x2 = 22 := by rw [ex2]; decide
  refine lv_istore_n (lv' := [(3, .int 22), (0, .int 15), (1, .int 1), (2, .int 7)]) hx hb dJ8_newLength_cabcc_7 rfl hl (by decide) rfl (fun ls hl => ?_)
  refine lv_iconst (v := 0) hx hb dJ8_newLength_cabcc_8 (by decide) ?_
  refine lv_iload_n hx hb dJ8_newLength_cabcc_9 rfl (lv_at hl 0 rfl) ?_
  refine lv_icmp_ge (tgt := 21) hx hb dJ8_newLength_cabcc_10 (by decide) (fun c3 => absurd c3 (by decide)) (fun c3 => ?_)
  refine lv_iload_n hx hb dJ8_newLength_cabcc_13 rfl (lv_at hl 0 rfl) ?_
  refine lv_ldc (v := 2147483639) hx hb S.2.2.2.1 (hts (.constant RJ8 200 2147483639) (by decide +kernel)) dJ8_newLength_cabcc_14 ?_
  refine lv_icmp_gt (tgt := 21) hx hb dJ8_newLength_cabcc_16 (by decide) (fun c4 => absurd c4 (by decide)) (fun c4 => ?_)
  refine lv_iload_n hx hb dJ8_newLength_cabcc_19 rfl (lv_at hl 0 rfl) ?_
  exact r_reti S h () rfl trivial hr hlocks rfl (rfl) ⟨Nat.le_of_ble_eq_true rfl, Nat.le_of_ble_eq_true rfl⟩ dJ8_newLength_cabcc_20
set_option maxHeartbeats 4000000 in
set_option maxRecDepth 100000 in
/-- newLength(19, 1, ..) -/
theorem k_newLen19 (l : Launch) (D : va_G) (E : rEn) (cy : rC) (X : va_W) (A : Nat → Prop) : rMi l yJ8_newLength_cabcc wsJ8_newLength_cabcc { frames := 1, cells := 0, slots := 0, locals := 24 } D E cy X [] A [.int 19, .int 1, .int 9] 28 (fun (_ : Unit) => []) (fun _ => True) 0 0 := by
  refine r_entry (cc := cJ8_newLength_cabcc) (maxL := 4) (ret := (some .int)) (by decide +kernel) rfl (Nat.le_of_ble_eq_true rfl) ?_
  intro p e s m args below meth c ls B
  obtain ⟨S, hr, hlocks, hmi, h, hl⟩ := B
  have hx := S.1
  have hb := S.2.1
  have hts := S.2.2.2.2
  have hl : lv_has ls 4 [(0, .int 19), (1, .int 1), (2, .int 9)] := hl
  refine lv_iload_n hx hb dJ8_newLength_cabcc_0 rfl (lv_at hl 0 rfl) ?_
  refine lv_iload_n hx hb dJ8_newLength_cabcc_1 rfl (lv_at hl 1 rfl) ?_
  refine lv_iload_n hx hb dJ8_newLength_cabcc_2 rfl (lv_at hl 2 rfl) ?_
  refine va_mmax hx hb (S.2.2.1.trans hl.1.symm) S.2.2.2.1 (hts (.methodLink RJ8 194 Lib.Math.max.name) (by decide +kernel)) (hts (.static Lib.Math.max.name) (by decide +kernel)) (hts (.initialized "java/lang/Math") (by decide +kernel)) (hts (.code Lib.Math.max.name Lib.Math.max.code 2 (some .int)) (by decide +kernel)) (Nat.le_of_ble_eq_true rfl) (Nat.le_of_ble_eq_true rfl) (Nat.le_of_ble_eq_true rfl) (Nat.le_of_ble_eq_true rfl) dJ8_newLength_cabcc_3 ?_
  refine lv_topi (fun x1 ex1 => ?_)
  obtain rfl : x1 = 9 := by rw [ex1]; decide
  refine lv_iadd hx hb dJ8_newLength_cabcc_6 ?_
  refine lv_topi (fun x2 ex2 => ?_)
  obtain rfl : x2 = 28 := by rw [ex2]; decide
  refine lv_istore_n (lv' := [(3, .int 28), (0, .int 19), (1, .int 1), (2, .int 9)]) hx hb dJ8_newLength_cabcc_7 rfl hl (by decide) rfl (fun ls hl => ?_)
  refine lv_iconst (v := 0) hx hb dJ8_newLength_cabcc_8 (by decide) ?_
  refine lv_iload_n hx hb dJ8_newLength_cabcc_9 rfl (lv_at hl 0 rfl) ?_
  refine lv_icmp_ge (tgt := 21) hx hb dJ8_newLength_cabcc_10 (by decide) (fun c3 => absurd c3 (by decide)) (fun c3 => ?_)
  refine lv_iload_n hx hb dJ8_newLength_cabcc_13 rfl (lv_at hl 0 rfl) ?_
  refine lv_ldc (v := 2147483639) hx hb S.2.2.2.1 (hts (.constant RJ8 200 2147483639) (by decide +kernel)) dJ8_newLength_cabcc_14 ?_
  refine lv_icmp_gt (tgt := 21) hx hb dJ8_newLength_cabcc_16 (by decide) (fun c4 => absurd c4 (by decide)) (fun c4 => ?_)
  refine lv_iload_n hx hb dJ8_newLength_cabcc_19 rfl (lv_at hl 0 rfl) ?_
  exact r_reti S h () rfl trivial hr hlocks rfl (rfl) ⟨Nat.le_of_ble_eq_true rfl, Nat.le_of_ble_eq_true rfl⟩ dJ8_newLength_cabcc_20
set_option maxHeartbeats 4000000 in
set_option maxRecDepth 100000 in
/-- newLength(22, 1, ..) -/
theorem k_newLen22 (l : Launch) (D : va_G) (E : rEn) (cy : rC) (X : va_W) (A : Nat → Prop) : rMi l yJ8_newLength_cabcc wsJ8_newLength_cabcc { frames := 1, cells := 0, slots := 0, locals := 24 } D E cy X [] A [.int 22, .int 1, .int 11] 33 (fun (_ : Unit) => []) (fun _ => True) 0 0 := by
  refine r_entry (cc := cJ8_newLength_cabcc) (maxL := 4) (ret := (some .int)) (by decide +kernel) rfl (Nat.le_of_ble_eq_true rfl) ?_
  intro p e s m args below meth c ls B
  obtain ⟨S, hr, hlocks, hmi, h, hl⟩ := B
  have hx := S.1
  have hb := S.2.1
  have hts := S.2.2.2.2
  have hl : lv_has ls 4 [(0, .int 22), (1, .int 1), (2, .int 11)] := hl
  refine lv_iload_n hx hb dJ8_newLength_cabcc_0 rfl (lv_at hl 0 rfl) ?_
  refine lv_iload_n hx hb dJ8_newLength_cabcc_1 rfl (lv_at hl 1 rfl) ?_
  refine lv_iload_n hx hb dJ8_newLength_cabcc_2 rfl (lv_at hl 2 rfl) ?_
  refine va_mmax hx hb (S.2.2.1.trans hl.1.symm) S.2.2.2.1 (hts (.methodLink RJ8 194 Lib.Math.max.name) (by decide +kernel)) (hts (.static Lib.Math.max.name) (by decide +kernel)) (hts (.initialized "java/lang/Math") (by decide +kernel)) (hts (.code Lib.Math.max.name Lib.Math.max.code 2 (some .int)) (by decide +kernel)) (Nat.le_of_ble_eq_true rfl) (Nat.le_of_ble_eq_true rfl) (Nat.le_of_ble_eq_true rfl) (Nat.le_of_ble_eq_true rfl) dJ8_newLength_cabcc_3 ?_
  refine lv_topi (fun x1 ex1 => ?_)
  obtain rfl : x1 = 11 := by rw [ex1]; decide
  refine lv_iadd hx hb dJ8_newLength_cabcc_6 ?_
  refine lv_topi (fun x2 ex2 => ?_)
  obtain rfl : x2 = 33 := by rw [ex2]; decide
  refine lv_istore_n (lv' := [(3, .int 33), (0, .int 22), (1, .int 1), (2, .int 11)]) hx hb dJ8_newLength_cabcc_7 rfl hl (by decide) rfl (fun ls hl => ?_)
  refine lv_iconst (v := 0) hx hb dJ8_newLength_cabcc_8 (by decide) ?_
  refine lv_iload_n hx hb dJ8_newLength_cabcc_9 rfl (lv_at hl 0 rfl) ?_
  refine lv_icmp_ge (tgt := 21) hx hb dJ8_newLength_cabcc_10 (by decide) (fun c3 => absurd c3 (by decide)) (fun c3 => ?_)
  refine lv_iload_n hx hb dJ8_newLength_cabcc_13 rfl (lv_at hl 0 rfl) ?_
  refine lv_ldc (v := 2147483639) hx hb S.2.2.2.1 (hts (.constant RJ8 200 2147483639) (by decide +kernel)) dJ8_newLength_cabcc_14 ?_
  refine lv_icmp_gt (tgt := 21) hx hb dJ8_newLength_cabcc_16 (by decide) (fun c4 => absurd c4 (by decide)) (fun c4 => ?_)
  refine lv_iload_n hx hb dJ8_newLength_cabcc_19 rfl (lv_at hl 0 rfl) ?_
  exact r_reti S h () rfl trivial hr hlocks rfl (rfl) ⟨Nat.le_of_ble_eq_true rfl, Nat.le_of_ble_eq_true rfl⟩ dJ8_newLength_cabcc_20
set_option maxHeartbeats 4000000 in
set_option maxRecDepth 100000 in
/-- newLength(28, 1, ..) -/
theorem k_newLen28 (l : Launch) (D : va_G) (E : rEn) (cy : rC) (X : va_W) (A : Nat → Prop) : rMi l yJ8_newLength_cabcc wsJ8_newLength_cabcc { frames := 1, cells := 0, slots := 0, locals := 24 } D E cy X [] A [.int 28, .int 1, .int 14] 42 (fun (_ : Unit) => []) (fun _ => True) 0 0 := by
  refine r_entry (cc := cJ8_newLength_cabcc) (maxL := 4) (ret := (some .int)) (by decide +kernel) rfl (Nat.le_of_ble_eq_true rfl) ?_
  intro p e s m args below meth c ls B
  obtain ⟨S, hr, hlocks, hmi, h, hl⟩ := B
  have hx := S.1
  have hb := S.2.1
  have hts := S.2.2.2.2
  have hl : lv_has ls 4 [(0, .int 28), (1, .int 1), (2, .int 14)] := hl
  refine lv_iload_n hx hb dJ8_newLength_cabcc_0 rfl (lv_at hl 0 rfl) ?_
  refine lv_iload_n hx hb dJ8_newLength_cabcc_1 rfl (lv_at hl 1 rfl) ?_
  refine lv_iload_n hx hb dJ8_newLength_cabcc_2 rfl (lv_at hl 2 rfl) ?_
  refine va_mmax hx hb (S.2.2.1.trans hl.1.symm) S.2.2.2.1 (hts (.methodLink RJ8 194 Lib.Math.max.name) (by decide +kernel)) (hts (.static Lib.Math.max.name) (by decide +kernel)) (hts (.initialized "java/lang/Math") (by decide +kernel)) (hts (.code Lib.Math.max.name Lib.Math.max.code 2 (some .int)) (by decide +kernel)) (Nat.le_of_ble_eq_true rfl) (Nat.le_of_ble_eq_true rfl) (Nat.le_of_ble_eq_true rfl) (Nat.le_of_ble_eq_true rfl) dJ8_newLength_cabcc_3 ?_
  refine lv_topi (fun x1 ex1 => ?_)
  obtain rfl : x1 = 14 := by rw [ex1]; decide
  refine lv_iadd hx hb dJ8_newLength_cabcc_6 ?_
  refine lv_topi (fun x2 ex2 => ?_)
  obtain rfl : x2 = 42 := by rw [ex2]; decide
  refine lv_istore_n (lv' := [(3, .int 42), (0, .int 28), (1, .int 1), (2, .int 14)]) hx hb dJ8_newLength_cabcc_7 rfl hl (by decide) rfl (fun ls hl => ?_)
  refine lv_iconst (v := 0) hx hb dJ8_newLength_cabcc_8 (by decide) ?_
  refine lv_iload_n hx hb dJ8_newLength_cabcc_9 rfl (lv_at hl 0 rfl) ?_
  refine lv_icmp_ge (tgt := 21) hx hb dJ8_newLength_cabcc_10 (by decide) (fun c3 => absurd c3 (by decide)) (fun c3 => ?_)
  refine lv_iload_n hx hb dJ8_newLength_cabcc_13 rfl (lv_at hl 0 rfl) ?_
  refine lv_ldc (v := 2147483639) hx hb S.2.2.2.1 (hts (.constant RJ8 200 2147483639) (by decide +kernel)) dJ8_newLength_cabcc_14 ?_
  refine lv_icmp_gt (tgt := 21) hx hb dJ8_newLength_cabcc_16 (by decide) (fun c4 => absurd c4 (by decide)) (fun c4 => ?_)
  refine lv_iload_n hx hb dJ8_newLength_cabcc_19 rfl (lv_at hl 0 rfl) ?_
  exact r_reti S h () rfl trivial hr hlocks rfl (rfl) ⟨Nat.le_of_ble_eq_true rfl, Nat.le_of_ble_eq_true rfl⟩ dJ8_newLength_cabcc_20
set_option maxHeartbeats 4000000 in
set_option maxRecDepth 100000 in
/-- newLength(33, 1, ..) -/
theorem k_newLen33 (l : Launch) (D : va_G) (E : rEn) (cy : rC) (X : va_W) (A : Nat → Prop) : rMi l yJ8_newLength_cabcc wsJ8_newLength_cabcc { frames := 1, cells := 0, slots := 0, locals := 24 } D E cy X [] A [.int 33, .int 1, .int 16] 49 (fun (_ : Unit) => []) (fun _ => True) 0 0 := by
  refine r_entry (cc := cJ8_newLength_cabcc) (maxL := 4) (ret := (some .int)) (by decide +kernel) rfl (Nat.le_of_ble_eq_true rfl) ?_
  intro p e s m args below meth c ls B
  obtain ⟨S, hr, hlocks, hmi, h, hl⟩ := B
  have hx := S.1
  have hb := S.2.1
  have hts := S.2.2.2.2
  have hl : lv_has ls 4 [(0, .int 33), (1, .int 1), (2, .int 16)] := hl
  refine lv_iload_n hx hb dJ8_newLength_cabcc_0 rfl (lv_at hl 0 rfl) ?_
  refine lv_iload_n hx hb dJ8_newLength_cabcc_1 rfl (lv_at hl 1 rfl) ?_
  refine lv_iload_n hx hb dJ8_newLength_cabcc_2 rfl (lv_at hl 2 rfl) ?_
  refine va_mmax hx hb (S.2.2.1.trans hl.1.symm) S.2.2.2.1 (hts (.methodLink RJ8 194 Lib.Math.max.name) (by decide +kernel)) (hts (.static Lib.Math.max.name) (by decide +kernel)) (hts (.initialized "java/lang/Math") (by decide +kernel)) (hts (.code Lib.Math.max.name Lib.Math.max.code 2 (some .int)) (by decide +kernel)) (Nat.le_of_ble_eq_true rfl) (Nat.le_of_ble_eq_true rfl) (Nat.le_of_ble_eq_true rfl) (Nat.le_of_ble_eq_true rfl) dJ8_newLength_cabcc_3 ?_
  refine lv_topi (fun x1 ex1 => ?_)
  obtain rfl : x1 = 16 := by rw [ex1]; decide
  refine lv_iadd hx hb dJ8_newLength_cabcc_6 ?_
  refine lv_topi (fun x2 ex2 => ?_)
  obtain rfl : x2 = 49 := by rw [ex2]; decide
  refine lv_istore_n (lv' := [(3, .int 49), (0, .int 33), (1, .int 1), (2, .int 16)]) hx hb dJ8_newLength_cabcc_7 rfl hl (by decide) rfl (fun ls hl => ?_)
  refine lv_iconst (v := 0) hx hb dJ8_newLength_cabcc_8 (by decide) ?_
  refine lv_iload_n hx hb dJ8_newLength_cabcc_9 rfl (lv_at hl 0 rfl) ?_
  refine lv_icmp_ge (tgt := 21) hx hb dJ8_newLength_cabcc_10 (by decide) (fun c3 => absurd c3 (by decide)) (fun c3 => ?_)
  refine lv_iload_n hx hb dJ8_newLength_cabcc_13 rfl (lv_at hl 0 rfl) ?_
  refine lv_ldc (v := 2147483639) hx hb S.2.2.2.1 (hts (.constant RJ8 200 2147483639) (by decide +kernel)) dJ8_newLength_cabcc_14 ?_
  refine lv_icmp_gt (tgt := 21) hx hb dJ8_newLength_cabcc_16 (by decide) (fun c4 => absurd c4 (by decide)) (fun c4 => ?_)
  refine lv_iload_n hx hb dJ8_newLength_cabcc_19 rfl (lv_at hl 0 rfl) ?_
  exact r_reti S h () rfl trivial hr hlocks rfl (rfl) ⟨Nat.le_of_ble_eq_true rfl, Nat.le_of_ble_eq_true rfl⟩ dJ8_newLength_cabcc_20
set_option maxHeartbeats 4000000 in
set_option maxRecDepth 100000 in
/-- newLength(42, 1, ..) -/
theorem k_newLen42 (l : Launch) (D : va_G) (E : rEn) (cy : rC) (X : va_W) (A : Nat → Prop) : rMi l yJ8_newLength_cabcc wsJ8_newLength_cabcc { frames := 1, cells := 0, slots := 0, locals := 24 } D E cy X [] A [.int 42, .int 1, .int 21] 63 (fun (_ : Unit) => []) (fun _ => True) 0 0 := by
  refine r_entry (cc := cJ8_newLength_cabcc) (maxL := 4) (ret := (some .int)) (by decide +kernel) rfl (Nat.le_of_ble_eq_true rfl) ?_
  intro p e s m args below meth c ls B
  obtain ⟨S, hr, hlocks, hmi, h, hl⟩ := B
  have hx := S.1
  have hb := S.2.1
  have hts := S.2.2.2.2
  have hl : lv_has ls 4 [(0, .int 42), (1, .int 1), (2, .int 21)] := hl
  refine lv_iload_n hx hb dJ8_newLength_cabcc_0 rfl (lv_at hl 0 rfl) ?_
  refine lv_iload_n hx hb dJ8_newLength_cabcc_1 rfl (lv_at hl 1 rfl) ?_
  refine lv_iload_n hx hb dJ8_newLength_cabcc_2 rfl (lv_at hl 2 rfl) ?_
  refine va_mmax hx hb (S.2.2.1.trans hl.1.symm) S.2.2.2.1 (hts (.methodLink RJ8 194 Lib.Math.max.name) (by decide +kernel)) (hts (.static Lib.Math.max.name) (by decide +kernel)) (hts (.initialized "java/lang/Math") (by decide +kernel)) (hts (.code Lib.Math.max.name Lib.Math.max.code 2 (some .int)) (by decide +kernel)) (Nat.le_of_ble_eq_true rfl) (Nat.le_of_ble_eq_true rfl) (Nat.le_of_ble_eq_true rfl) (Nat.le_of_ble_eq_true rfl) dJ8_newLength_cabcc_3 ?_
  refine lv_topi (fun x1 ex1 => ?_)
  obtain rfl : x1 = 21 := by rw [ex1]; decide
  refine lv_iadd hx hb dJ8_newLength_cabcc_6 ?_
  refine lv_topi (fun x2 ex2 => ?_)
  obtain rfl : x2 = 63 := by rw [ex2]; decide
  refine lv_istore_n (lv' := [(3, .int 63), (0, .int 42), (1, .int 1), (2, .int 21)]) hx hb dJ8_newLength_cabcc_7 rfl hl (by decide) rfl (fun ls hl => ?_)
  refine lv_iconst (v := 0) hx hb dJ8_newLength_cabcc_8 (by decide) ?_
  refine lv_iload_n hx hb dJ8_newLength_cabcc_9 rfl (lv_at hl 0 rfl) ?_
  refine lv_icmp_ge (tgt := 21) hx hb dJ8_newLength_cabcc_10 (by decide) (fun c3 => absurd c3 (by decide)) (fun c3 => ?_)
  refine lv_iload_n hx hb dJ8_newLength_cabcc_13 rfl (lv_at hl 0 rfl) ?_
  refine lv_ldc (v := 2147483639) hx hb S.2.2.2.1 (hts (.constant RJ8 200 2147483639) (by decide +kernel)) dJ8_newLength_cabcc_14 ?_
  refine lv_icmp_gt (tgt := 21) hx hb dJ8_newLength_cabcc_16 (by decide) (fun c4 => absurd c4 (by decide)) (fun c4 => ?_)
  refine lv_iload_n hx hb dJ8_newLength_cabcc_19 rfl (lv_at hl 0 rfl) ?_
  exact r_reti S h () rfl trivial hr hlocks rfl (rfl) ⟨Nat.le_of_ble_eq_true rfl, Nat.le_of_ble_eq_true rfl⟩ dJ8_newLength_cabcc_20
set_option maxHeartbeats 4000000 in
set_option maxRecDepth 100000 in
/-- copyOf, 1 to 2 -/
theorem k_copyC1 (l : Launch) (D : va_G) (E : rEn) (cy : rC) (X : va_W) (A : Nat → Prop) (d : Nat) (f : Nat → Option Nat) (hf : rCa E f) : rMr l yJ7_copyOf_6403c wsJ7_copyOf_6403c { frames := 1, cells := 1, slots := 2, locals := 60 } D E cy X [rAr cy d 1 f] A [.ref d, .int 2, .ref E.2.2.2.2] (fun (q : Nat) => q) (fun (q : Nat) => [rAr cy d 1 f, rAr cy q 2 (va_cpy f (fun _ => none) 0 0 1)]) (fun _ => True) 1 2 := by
  refine r_entry (cc := cJ7_copyOf_6403c) (maxL := 4) (ret := (some (.array (.object "java/lang/Object")))) (by decide +kernel) rfl (Nat.le_of_ble_eq_true rfl) ?_
  intro p e s m args below meth c ls B
  obtain ⟨S, hr, hlocks, hmi, h, hl⟩ := B
  have hx := S.1
  have hb := S.2.1
  have hts := S.2.2.2.2
  have hl : lv_has ls 4 [(0, .ref d), (1, .int 2), (2, .ref E.2.2.2.2)] := hl
  refine lv_aload_n hx hb dJ7_copyOf_6403c_0 rfl (lv_at hl 2 rfl) ?_
  refine r_ldcM S h (by decide +kernel) dJ7_copyOf_6403c_1 ?_
  refine lv_acmp_ne (rx := some E.2.2.2.2) (ry := some E.2.2.2.2) (tgt := 13) hx hb dJ7_copyOf_6403c_3 (by decide) (fun c1 => absurd rfl c1) (fun c1 => ?_)
  refine lv_iload_n hx hb dJ7_copyOf_6403c_6 rfl (lv_at hl 1 rfl) ?_
  refine r_newq S h (N := 2) (by decide +kernel) (by decide) rfl (by decide) (Nat.le_of_ble_eq_true rfl) (Nat.le_of_ble_eq_true rfl) dJ7_copyOf_6403c_7 (fun n2 H h => ?_)
  have h : rH D E cy X [rAr cy d 1 f, rAr cy n2 2 (fun _ => none)] A s H _ := h
  refine lv_goto (tgt := 24) hx hb dJ7_copyOf_6403c_10 (by decide) ?_
  refine lv_astore_n (lv' := [(3, .ref n2), (0, .ref d), (1, .int 2), (2, .ref E.2.2.2.2)]) hx hb dJ7_copyOf_6403c_24 rfl hl (by decide) rfl (fun ls hl => ?_)
  refine lv_aload_n hx hb dJ7_copyOf_6403c_25 rfl (lv_at hl 1 rfl) ?_
  refine lv_iconst (v := 0) hx hb dJ7_copyOf_6403c_26 (by decide) ?_
  refine lv_aload_n hx hb dJ7_copyOf_6403c_27 rfl (lv_at hl 0 rfl) ?_
  refine lv_iconst (v := 0) hx hb dJ7_copyOf_6403c_28 (by decide) ?_
  refine lv_aload_n hx hb dJ7_copyOf_6403c_29 rfl (lv_at hl 1 rfl) ?_
  refine r_alenq S h (v := Int32.ofNat 1) 0 rfl rfl dJ7_copyOf_6403c_30 ?_
  refine lv_topi (fun x3 ex3 => ?_)
  obtain rfl : x3 = 1 := by rw [ex3]; rfl
  refine lv_iload_n hx hb dJ7_copyOf_6403c_31 rfl (lv_at hl 2 rfl) ?_
  refine va_mmin hx hb (S.2.2.1.trans hl.1.symm) S.2.2.2.1 (hts (.methodLink RJ7 304 Lib.Math.min.name) (by decide +kernel)) (hts (.static Lib.Math.min.name) (by decide +kernel)) (hts (.initialized "java/lang/Math") (by decide +kernel)) (hts (.code Lib.Math.min.name Lib.Math.min.code 2 (some .int)) (by decide +kernel)) (Nat.le_of_ble_eq_true rfl) (Nat.le_of_ble_eq_true rfl) (Nat.le_of_ble_eq_true rfl) (Nat.le_of_ble_eq_true rfl) dJ7_copyOf_6403c_32 ?_
  refine lv_topi (fun x4 ex4 => ?_)
  obtain rfl : x4 = 1 := by rw [ex4]; decide
  refine r_copyq S h hl.1 0 1 rfl rfl (N := 1) (by decide) rfl (by decide) (by decide) hf (by decide +kernel) (by decide +kernel) (by decide +kernel) (by decide +kernel) (Nat.le_of_ble_eq_true rfl) (by decide) dJ7_copyOf_6403c_35 (fun H locs h => ?_)
  have h : rH D E cy X [rAr cy d 1 f, rAr cy n2 2 (va_cpy f (fun _ => none) 0 0 1)] A s H _ := h
  refine lv_aload_n hx hb dJ7_copyOf_6403c_38 rfl (lv_at hl 0 rfl) ?_
  exact r_retr S h (Or.inr ⟨_, rfl⟩) n2 rfl trivial hr hlocks rfl ⟨Nat.le_of_ble_eq_true rfl, Nat.le_of_ble_eq_true rfl⟩ dJ7_copyOf_6403c_39
set_option maxHeartbeats 4000000 in
set_option maxRecDepth 100000 in
/-- copyOf, 1 to 2 -/
theorem k_copyB1 (l : Launch) (D : va_G) (E : rEn) (cy : rC) (X : va_W) (A : Nat → Prop) (d : Nat) (f : Nat → Option Nat) (hf : rCa E f) : rMr l yJ7_copyOf_1904c wsJ7_copyOf_1904c { frames := 2, cells := 1, slots := 2, locals := 83 } D E cy X [rAr cy d 1 f] A [.ref d, .int 2] (fun (q : Nat) => q) (fun (q : Nat) => [rAr cy d 1 f, rAr cy q 2 (va_cpy f (fun _ => none) 0 0 1)]) (fun _ => True) 1 2 := by
  refine r_entry (cc := cJ7_copyOf_1904c) (maxL := 2) (ret := (some (.array (.object "java/lang/Object")))) (by decide +kernel) rfl (Nat.le_of_ble_eq_true rfl) ?_
  intro p e s m args below meth c ls B
  obtain ⟨S, hr, hlocks, hmi, h, hl⟩ := B
  have hx := S.1
  have hb := S.2.1
  have hts := S.2.2.2.2
  have hl : lv_has ls 2 [(0, .ref d), (1, .int 2)] := hl
  refine lv_aload_n hx hb dJ7_copyOf_1904c_0 rfl (lv_at hl 0 rfl) ?_
  refine lv_iload_n hx hb dJ7_copyOf_1904c_1 rfl (lv_at hl 1 rfl) ?_
  refine lv_aload_n hx hb dJ7_copyOf_1904c_2 rfl (lv_at hl 0 rfl) ?_
  refine r_gc S h hl.1 (Or.inl ⟨0, _, _, rfl⟩) (by decide +kernel) (by decide +kernel) (by decide +kernel) (by decide +kernel) (Nat.le_of_ble_eq_true rfl) (Nat.le_of_ble_eq_true rfl) dJ7_copyOf_1904c_3 ?_
  refine r_callrS S h (k_copyC1 l D E cy _ A d f hf) (cwS 3 hts gJ7_copyOf_1904c_J7_copyOf_6403c rfl rfl rfl (by decide +kernel) ⟨Nat.le_of_ble_eq_true rfl, Nat.le_of_ble_eq_true rfl⟩) (r_preS h [] [0] (wr := []) (wc := [rAr cy d 1 f]) rfl rfl rfl _) rfl hl.1 rfl (Nat.le_of_ble_eq_true rfl) dJ7_copyOf_1904c_6 ⟨Nat.le_of_ble_eq_true rfl, Nat.le_of_ble_eq_true rfl⟩ (fun u1 H locs k2 h => ?_)
  obtain ⟨n3, rfl⟩ : ∃ z, z = u1 := ⟨_, rfl⟩
  have h : rH D E cy X [rAr cy d 1 f, rAr cy n3 2 (va_cpy f (fun _ => none) 0 0 1)] A s H _ := h
  exact r_retr S h (Or.inr ⟨_, rfl⟩) n3 rfl trivial hr hlocks rfl ⟨Nat.le_of_ble_eq_true rfl, Nat.le_of_ble_eq_true rfl⟩ dJ7_copyOf_1904c_9
set_option maxHeartbeats 4000000 in
set_option maxRecDepth 100000 in
/-- grow of 1 -/
theorem k_grow1G1 (l : Launch) (D : va_G) (E : rEn) (cy : rC) (X : va_W) (A : Nat → Prop) (a d : Nat) (mo : Int32) (f : Nat → Option Nat) (hf : rCa E f) : rMr l yJx4a65c_grow_92f84 wsJx4a65c_grow_92f84 { frames := 3, cells := 1, slots := 2, locals := 104 } D E cy X [(a, .inr (1, [.int mo, .ref d, .int 1])), rAr cy d 1 f] A [.ref a, .int 2] (fun (q : Nat) => q) (fun (q : Nat) => [(a, .inr (1, [.int mo, .ref q, .int 1])), rAr cy q 2 (va_cpy f (fun _ => none) 0 0 1)]) (fun _ => True) 1 2 := by
  refine r_entry (cc := cJx4a65c_grow_92f84) (maxL := 4) (ret := (some (.array (.object "java/lang/Object")))) (by decide +kernel) rfl (Nat.le_of_ble_eq_true rfl) ?_
  intro p e s m args below meth c ls B
  obtain ⟨S, hr, hlocks, hmi, h, hl⟩ := B
  have hx := S.1
  have hb := S.2.1
  have hts := S.2.2.2.2
  have inJx4a65c : ∀ w ∈ wsJx4a65c0, w ∈ wsJx4a65c_grow_92f84 := by decide +kernel
  have hl : lv_has ls 4 [(0, .ref a), (1, .int 2)] := hl
  refine lv_aload_n hx hb dJx4a65c_grow_92f84_0 rfl (lv_at hl 0 rfl) ?_
  refine r_get S h 0 inJx4a65c (ref := "java/util/ArrayList") rfl rfl (k := 1) (by decide) (by decide +kernel) (fun _ h9 => h9) rfl dJx4a65c_grow_92f84_1 ?_
  refine r_alenq S h (v := Int32.ofNat 1) 1 rfl rfl dJx4a65c_grow_92f84_4 ?_
  refine lv_topi (fun x1 ex1 => ?_)
  obtain rfl : x1 = 1 := by rw [ex1]; rfl
  refine lv_istore_n (lv' := [(2, .int 1), (0, .ref a), (1, .int 2)]) hx hb dJx4a65c_grow_92f84_5 rfl hl (by decide) rfl (fun ls hl => ?_)
  refine lv_iload_n hx hb dJx4a65c_grow_92f84_6 rfl (lv_at hl 0 rfl) ?_
  refine lv_if_gt (tgt := 20) hx hb dJx4a65c_grow_92f84_7 (by decide) (fun c2 => ?_) (fun c2 => absurd (by decide) c2)
  refine lv_iload_n hx hb dJx4a65c_grow_92f84_20 rfl (lv_at hl 0 rfl) ?_
  refine lv_iload_n hx hb dJx4a65c_grow_92f84_21 rfl (lv_at hl 2 rfl) ?_
  refine lv_iload_n hx hb dJx4a65c_grow_92f84_22 rfl (lv_at hl 0 rfl) ?_
  refine lv_isub hx hb dJx4a65c_grow_92f84_23 ?_
  refine lv_topi (fun x3 ex3 => ?_)
  obtain rfl : x3 = 1 := by rw [ex3]; decide
  refine lv_iload_n hx hb dJx4a65c_grow_92f84_24 rfl (lv_at hl 0 rfl) ?_
  refine lv_iconst (v := 1) hx hb dJx4a65c_grow_92f84_25 (by decide) ?_
  refine lv_ishr hx hb dJx4a65c_grow_92f84_26 ?_
  refine lv_topi (fun x4 ex4 => ?_)
  obtain rfl : x4 = 0 := by rw [ex4]; decide
  refine r_calliS S h (k_newLen1 l D E cy _ A ) (va_cwS 3 hts gJx4a65c_grow_92f84_J8_newLength_cabcc rfl rfl rfl (by decide +kernel) ⟨Nat.le_of_ble_eq_true rfl, Nat.le_of_ble_eq_true rfl⟩) (r_preS h [0, 1] [] (wr := [(a, .inr (1, [.int mo, .ref d, .int 1])), rAr cy d 1 f]) (wc := []) rfl rfl rfl _) rfl hl.1 rfl (Nat.le_of_ble_eq_true rfl) dJx4a65c_grow_92f84_27 ⟨Nat.le_of_ble_eq_true rfl, Nat.le_of_ble_eq_true rfl⟩ (fun u5 H locs k6 h => ?_)
  have h : rH D E cy X [(a, .inr (1, [.int mo, .ref d, .int 1])), rAr cy d 1 f] A s H _ := h
  refine lv_istore_n (lv' := [(3, .int 2), (2, .int 1), (0, .ref a), (1, .int 2)]) hx hb dJx4a65c_grow_92f84_30 rfl hl (by decide) rfl (fun ls hl => ?_)
  refine lv_aload_n hx hb dJx4a65c_grow_92f84_31 rfl (lv_at hl 2 rfl) ?_
  refine lv_aload_n hx hb dJx4a65c_grow_92f84_32 rfl (lv_at hl 2 rfl) ?_
  refine r_get S h 0 inJx4a65c (ref := "java/util/ArrayList") rfl rfl (k := 1) (by decide) (by decide +kernel) (fun _ h9 => h9) rfl dJx4a65c_grow_92f84_33 ?_
  refine lv_iload_n hx hb dJx4a65c_grow_92f84_36 rfl (lv_at hl 0 rfl) ?_
  refine r_callrS S h (k_copyB1 l D E cy _ A d f hf) (va_cwS 2 hts gJx4a65c_grow_92f84_J7_copyOf_1904c rfl rfl rfl (by decide +kernel) ⟨Nat.le_of_ble_eq_true rfl, Nat.le_of_ble_eq_true rfl⟩) (r_preS h [0] [1] (wr := [(a, .inr (1, [.int mo, .ref d, .int 1]))]) (wc := [rAr cy d 1 f]) rfl rfl rfl _) rfl hl.1 rfl (Nat.le_of_ble_eq_true rfl) dJx4a65c_grow_92f84_37 ⟨Nat.le_of_ble_eq_true rfl, Nat.le_of_ble_eq_true rfl⟩ (fun u7 H locs k8 h => ?_)
  obtain ⟨n9, rfl⟩ : ∃ z, z = u7 := ⟨_, rfl⟩
  have h : rH D E cy X [(a, .inr (1, [.int mo, .ref d, .int 1])), rAr cy d 1 f, rAr cy n9 2 (va_cpy f (fun _ => none) 0 0 1)] A s H _ := h
  refine lv_dup_x1 hx hb dJx4a65c_grow_92f84_40 rfl rfl ?_
  refine r_put S h 0 tyJx4a65c tyJx4a65c_ok nmJx4a65c inJx4a65c (ref := "java/util/ArrayList") rfl rfl (k := 1) (by decide) (by decide +kernel) (fun _ h9 => h9) rfl rfl rfl rfl (Nat.le_of_ble_eq_true rfl) dJx4a65c_grow_92f84_41 (fun H locs h => ?_)
  have h : rH D E cy X [(a, .inr (1, [.int mo, .ref n9, .int 1])), rAr cy d 1 f, rAr cy n9 2 (va_cpy f (fun _ => none) 0 0 1)] A s H _ := h
  have h := h.pick [0, 2] (w := [(a, .inr (1, [.int mo, .ref n9, .int 1])), rAr cy n9 2 (va_cpy f (fun _ => none) 0 0 1)]) rfl rfl
  exact r_retr S h (Or.inr ⟨_, rfl⟩) n9 rfl trivial hr hlocks rfl ⟨Nat.le_of_ble_eq_true rfl, Nat.le_of_ble_eq_true rfl⟩ dJx4a65c_grow_92f84_44
set_option maxHeartbeats 4000000 in
set_option maxRecDepth 100000 in
/-- grow of 1 -/
theorem k_growG1 (l : Launch) (D : va_G) (E : rEn) (cy : rC) (X : va_W) (A : Nat → Prop) (a d : Nat) (mo : Int32) (f : Nat → Option Nat) (hf : rCa E f) : rMr l yJx4a65c_grow_d5877 wsJx4a65c_grow_d5877 { frames := 4, cells := 1, slots := 2, locals := 127 } D E cy X [(a, .inr (1, [.int mo, .ref d, .int 1])), rAr cy d 1 f] A [.ref a] (fun (q : Nat) => q) (fun (q : Nat) => [(a, .inr (1, [.int mo, .ref q, .int 1])), rAr cy q 2 (va_cpy f (fun _ => none) 0 0 1)]) (fun _ => True) 1 2 := by
  refine r_entry (cc := cJx4a65c_grow_d5877) (maxL := 1) (ret := (some (.array (.object "java/lang/Object")))) (by decide +kernel) rfl (Nat.le_of_ble_eq_true rfl) ?_
  intro p e s m args below meth c ls B
  obtain ⟨S, hr, hlocks, hmi, h, hl⟩ := B
  have hx := S.1
  have hb := S.2.1
  have hts := S.2.2.2.2
  have inJx4a65c : ∀ w ∈ wsJx4a65c0, w ∈ wsJx4a65c_grow_d5877 := by decide +kernel
  have hl : lv_has ls 1 [(0, .ref a)] := hl
  refine lv_aload_n hx hb dJx4a65c_grow_d5877_0 rfl (lv_at hl 0 rfl) ?_
  refine lv_aload_n hx hb dJx4a65c_grow_d5877_1 rfl (lv_at hl 0 rfl) ?_
  refine r_get S h 0 inJx4a65c (ref := "java/util/ArrayList") rfl rfl (k := 2) (by decide) (by decide +kernel) (fun _ h9 => h9) rfl dJx4a65c_grow_d5877_2 ?_
  refine lv_iconst (v := 1) hx hb dJx4a65c_grow_d5877_5 (by decide) ?_
  refine lv_iadd hx hb dJx4a65c_grow_d5877_6 ?_
  refine lv_topi (fun x1 ex1 => ?_)
  obtain rfl : x1 = 2 := by rw [ex1]; decide
  refine r_callr S h (k_grow1G1 l D E cy _ A a d mo f hf) (cwV 1 hts gJx4a65c_grow_d5877_Jx4a65c_grow_92f84 rfl rfl rfl (by decide +kernel) ⟨Nat.le_of_ble_eq_true rfl, Nat.le_of_ble_eq_true rfl⟩) (r_preV h [] [0, 1] (wr := []) (wc := [(a, .inr (1, [.int mo, .ref d, .int 1])), rAr cy d 1 f]) rfl rfl rfl 0 rfl rfl _) rfl hl.1 rfl (Nat.le_of_ble_eq_true rfl) dJx4a65c_grow_d5877_7 ⟨Nat.le_of_ble_eq_true rfl, Nat.le_of_ble_eq_true rfl⟩ (fun u2 H locs k3 h => ?_)
  obtain ⟨n4, rfl⟩ : ∃ z, z = u2 := ⟨_, rfl⟩
  have h : rH D E cy X [(a, .inr (1, [.int mo, .ref n4, .int 1])), rAr cy n4 2 (va_cpy f (fun _ => none) 0 0 1)] A s H _ := h
  exact r_retr S h (Or.inr ⟨_, rfl⟩) n4 rfl trivial hr hlocks rfl ⟨Nat.le_of_ble_eq_true rfl, Nat.le_of_ble_eq_true rfl⟩ dJx4a65c_grow_d5877_10
set_option maxHeartbeats 4000000 in
set_option maxRecDepth 100000 in
/-- add at 1 -/
theorem k_add3G1 (l : Launch) (D : va_G) (E : rEn) (cy : rC) (X : va_W) (A : Nat → Prop) (a v d : Nat) (mo : Int32) (f : Nat → Option Nat) (C : String) (hv : rEl E X C v) (hca : ∀ U : State, rS E U → va_Nw (.castable C "java/lang/Object") U) (hf : rCa E f) : rMv l yJx4a65c_add_72be8 wsJx4a65c_add_72be8 { frames := 5, cells := 1, slots := 2, locals := 147 } D E cy X [(a, .inr (1, [.int mo, .ref d, .int 1])), rAr cy d 1 f] A [.ref a, .ref v, .ref d, .int 1] (fun (q : Nat) => [(a, .inr (1, [.int mo, .ref q, .int 2])), rAr cy q 2 (va_up (va_cpy f (fun _ => none) 0 0 1) 1 (some v))]) (fun _ => True) 1 2 := by
  refine r_entry (cc := cJx4a65c_add_72be8) (maxL := 4) (ret := none) (by decide +kernel) rfl (Nat.le_of_ble_eq_true rfl) ?_
  intro p e s m args below meth c ls B
  obtain ⟨S, hr, hlocks, hmi, h, hl⟩ := B
  have hx := S.1
  have hb := S.2.1
  have hts := S.2.2.2.2
  have inJx4a65c : ∀ w ∈ wsJx4a65c0, w ∈ wsJx4a65c_add_72be8 := by decide +kernel
  have hl : lv_has ls 4 [(0, .ref a), (1, .ref v), (2, .ref d), (3, .int 1)] := hl
  refine lv_iload_n hx hb dJx4a65c_add_72be8_0 rfl (lv_at hl 3 rfl) ?_
  refine lv_aload_n hx hb dJx4a65c_add_72be8_1 rfl (lv_at hl 2 rfl) ?_
  refine r_alenq S h (v := Int32.ofNat 1) 1 rfl rfl dJx4a65c_add_72be8_2 ?_
  refine lv_topi (fun x1 ex1 => ?_)
  obtain rfl : x1 = 1 := by rw [ex1]; rfl
  refine lv_icmp_ne (tgt := 11) hx hb dJx4a65c_add_72be8_3 (by decide) (fun c2 => absurd (by decide) c2) (fun c2 => ?_)
  refine lv_aload_n hx hb dJx4a65c_add_72be8_6 rfl (lv_at hl 0 rfl) ?_
  refine r_callr S h (k_growG1 l D E cy _ A a d mo f hf) (cwV 0 hts gJx4a65c_add_72be8_Jx4a65c_grow_d5877 rfl rfl rfl (by decide +kernel) ⟨Nat.le_of_ble_eq_true rfl, Nat.le_of_ble_eq_true rfl⟩) (r_preV h [] [0, 1] (wr := []) (wc := [(a, .inr (1, [.int mo, .ref d, .int 1])), rAr cy d 1 f]) rfl rfl rfl 0 rfl rfl _) rfl hl.1 rfl (Nat.le_of_ble_eq_true rfl) dJx4a65c_add_72be8_7 ⟨Nat.le_of_ble_eq_true rfl, Nat.le_of_ble_eq_true rfl⟩ (fun u3 H locs k4 h => ?_)
  obtain ⟨n5, rfl⟩ : ∃ z, z = u3 := ⟨_, rfl⟩
  have h : rH D E cy X [(a, .inr (1, [.int mo, .ref n5, .int 1])), rAr cy n5 2 (va_cpy f (fun _ => none) 0 0 1)] A s H _ := h
  refine lv_astore_n (lv' := [(2, .ref n5), (0, .ref a), (1, .ref v), (3, .int 1)]) hx hb dJx4a65c_add_72be8_10 rfl hl (by decide) rfl (fun ls hl => ?_)
  refine lv_aload_n hx hb dJx4a65c_add_72be8_11 rfl (lv_at hl 0 rfl) ?_
  refine lv_iload_n hx hb dJx4a65c_add_72be8_12 rfl (lv_at hl 3 rfl) ?_
  refine lv_aload_n hx hb dJx4a65c_add_72be8_13 rfl (lv_at hl 2 rfl) ?_
  refine r_aast S h 1 rfl hv (hca s h.2.2.2.1.2) (by unfold vp_in; decide) dJx4a65c_add_72be8_14 (fun H locs h => ?_)
  have h : rH D E cy X [(a, .inr (1, [.int mo, .ref n5, .int 1])), rAr cy n5 2 (va_up (va_cpy f (fun _ => none) 0 0 1) 1 (some v))] A s H _ := h
  refine lv_aload_n hx hb dJx4a65c_add_72be8_15 rfl (lv_at hl 1 rfl) ?_
  refine lv_iload_n hx hb dJx4a65c_add_72be8_16 rfl (lv_at hl 3 rfl) ?_
  refine lv_iconst (v := 1) hx hb dJx4a65c_add_72be8_17 (by decide) ?_
  refine lv_iadd hx hb dJx4a65c_add_72be8_18 ?_
  refine lv_topi (fun x6 ex6 => ?_)
  obtain rfl : x6 = 2 := by rw [ex6]; decide
  refine r_put S h 0 tyJx4a65c tyJx4a65c_ok nmJx4a65c inJx4a65c (ref := "java/util/ArrayList") rfl rfl (k := 2) (by decide) (by decide +kernel) (fun _ h9 => h9) rfl rfl rfl rfl (Nat.le_of_ble_eq_true rfl) dJx4a65c_add_72be8_19 (fun H locs h => ?_)
  have h : rH D E cy X [(a, .inr (1, [.int mo, .ref n5, .int 2])), rAr cy n5 2 (va_up (va_cpy f (fun _ => none) 0 0 1) 1 (some v))] A s H _ := h
  exact r_retv S h n5 rfl trivial hr hlocks ⟨Nat.le_of_ble_eq_true rfl, Nat.le_of_ble_eq_true rfl⟩ dJx4a65c_add_72be8_22
set_option maxHeartbeats 4000000 in
set_option maxRecDepth 100000 in
/-- add at 1 -/
theorem k_addG1 (l : Launch) (D : va_G) (E : rEn) (cy : rC) (X : va_W) (A : Nat → Prop) (a v d : Nat) (f : Nat → Option Nat) (C : String) (hv : rEl E X C v) (hca : ∀ U : State, rS E U → va_Nw (.castable C "java/lang/Object") U) (hf : rCa E f) : rMi l yJx4a65c_add_9ea2d wsJx4a65c_add_9ea2d { frames := 6, cells := 1, slots := 2, locals := 170 } D E cy X [(a, .inr (1, [.int 1, .ref d, .int 1])), rAr cy d 1 f] A [.ref a, .ref v] 1 (fun (q : Nat) => [(a, .inr (1, [.int 2, .ref q, .int 2])), rAr cy q 2 (va_up (va_cpy f (fun _ => none) 0 0 1) 1 (some v))]) (fun _ => True) 1 2 := by
  refine r_entry (cc := cJx4a65c_add_9ea2d) (maxL := 2) (ret := (some .boolean)) (by decide +kernel) rfl (Nat.le_of_ble_eq_true rfl) ?_
  intro p e s m args below meth c ls B
  obtain ⟨S, hr, hlocks, hmi, h, hl⟩ := B
  have hx := S.1
  have hb := S.2.1
  have hts := S.2.2.2.2
  have inJx4a65c : ∀ w ∈ wsJx4a65c0, w ∈ wsJx4a65c_add_9ea2d := by decide +kernel
  have hl : lv_has ls 2 [(0, .ref a), (1, .ref v)] := hl
  refine lv_aload_n hx hb dJx4a65c_add_9ea2d_0 rfl (lv_at hl 0 rfl) ?_
  refine lv_dup hx hb dJx4a65c_add_9ea2d_1 rfl ?_
  refine r_get S h 0 inJx4a65c (ref := "java/util/ArrayList") rfl rfl (k := 0) (by decide) (by decide +kernel) (fun x9 h9 => u_same (hts (.sameField "java/util/ArrayList" "java/util/AbstractList" "modCount" "I") (by decide +kernel)) x9 h9) rfl dJx4a65c_add_9ea2d_2 ?_
  refine lv_iconst (v := 1) hx hb dJx4a65c_add_9ea2d_5 (by decide) ?_
  refine lv_iadd hx hb dJx4a65c_add_9ea2d_6 ?_
  refine lv_topi (fun x1 ex1 => ?_)
  obtain rfl : x1 = 2 := by rw [ex1]; decide
  refine r_put S h 0 tyJx4a65c tyJx4a65c_ok nmJx4a65c inJx4a65c (ref := "java/util/ArrayList") rfl rfl (k := 0) (by decide) (by decide +kernel) (fun x9 h9 => u_same (hts (.sameField "java/util/ArrayList" "java/util/AbstractList" "modCount" "I") (by decide +kernel)) x9 h9) rfl rfl rfl rfl (Nat.le_of_ble_eq_true rfl) dJx4a65c_add_9ea2d_7 (fun H locs h => ?_)
  have h : rH D E cy X [(a, .inr (1, [.int 2, .ref d, .int 1])), rAr cy d 1 f] A s H _ := h
  refine lv_aload_n hx hb dJx4a65c_add_9ea2d_10 rfl (lv_at hl 0 rfl) ?_
  refine lv_aload_n hx hb dJx4a65c_add_9ea2d_11 rfl (lv_at hl 1 rfl) ?_
  refine lv_aload_n hx hb dJx4a65c_add_9ea2d_12 rfl (lv_at hl 0 rfl) ?_
  refine r_get S h 0 inJx4a65c (ref := "java/util/ArrayList") rfl rfl (k := 1) (by decide) (by decide +kernel) (fun _ h9 => h9) rfl dJx4a65c_add_9ea2d_13 ?_
  refine lv_aload_n hx hb dJx4a65c_add_9ea2d_16 rfl (lv_at hl 0 rfl) ?_
  refine r_get S h 0 inJx4a65c (ref := "java/util/ArrayList") rfl rfl (k := 2) (by decide) (by decide +kernel) (fun _ h9 => h9) rfl dJx4a65c_add_9ea2d_17 ?_
  refine r_callv S h (k_add3G1 l D E cy _ A a v d 2 f C hv.app hca hf) (cwV 3 hts gJx4a65c_add_9ea2d_Jx4a65c_add_72be8 rfl rfl rfl (by decide +kernel) ⟨Nat.le_of_ble_eq_true rfl, Nat.le_of_ble_eq_true rfl⟩) (r_preV h [] [0, 1] (wr := []) (wc := [(a, .inr (1, [.int 2, .ref d, .int 1])), rAr cy d 1 f]) rfl rfl rfl 0 rfl rfl _) rfl hl.1 rfl (Nat.le_of_ble_eq_true rfl) dJx4a65c_add_9ea2d_20 ⟨Nat.le_of_ble_eq_true rfl, Nat.le_of_ble_eq_true rfl⟩ (fun u2 H locs k3 h => ?_)
  obtain ⟨n4, rfl⟩ : ∃ z, z = u2 := ⟨_, rfl⟩
  have h : rH D E cy X [(a, .inr (1, [.int 2, .ref n4, .int 2])), rAr cy n4 2 (va_up (va_cpy f (fun _ => none) 0 0 1) 1 (some v))] A s H _ := h
  refine lv_iconst (v := 1) hx hb dJx4a65c_add_9ea2d_23 (by decide) ?_
  exact r_reti S h n4 rfl trivial hr hlocks rfl (rfl) ⟨Nat.le_of_ble_eq_true rfl, Nat.le_of_ble_eq_true rfl⟩ dJx4a65c_add_9ea2d_24
set_option maxHeartbeats 4000000 in
set_option maxRecDepth 100000 in
/-- copyOf, 2 to 3 -/
theorem k_copyC2 (l : Launch) (D : va_G) (E : rEn) (cy : rC) (X : va_W) (A : Nat → Prop) (d : Nat) (f : Nat → Option Nat) (hf : rCa E f) : rMr l yJ7_copyOf_6403c wsJ7_copyOf_6403c { frames := 1, cells := 1, slots := 3, locals := 60 } D E cy X [rAr cy d 2 f] A [.ref d, .int 3, .ref E.2.2.2.2] (fun (q : Nat) => q) (fun (q : Nat) => [rAr cy d 2 f, rAr cy q 3 (va_cpy f (fun _ => none) 0 0 2)]) (fun _ => True) 1 3 := by
  refine r_entry (cc := cJ7_copyOf_6403c) (maxL := 4) (ret := (some (.array (.object "java/lang/Object")))) (by decide +kernel) rfl (Nat.le_of_ble_eq_true rfl) ?_
  intro p e s m args below meth c ls B
  obtain ⟨S, hr, hlocks, hmi, h, hl⟩ := B
  have hx := S.1
  have hb := S.2.1
  have hts := S.2.2.2.2
  have hl : lv_has ls 4 [(0, .ref d), (1, .int 3), (2, .ref E.2.2.2.2)] := hl
  refine lv_aload_n hx hb dJ7_copyOf_6403c_0 rfl (lv_at hl 2 rfl) ?_
  refine r_ldcM S h (by decide +kernel) dJ7_copyOf_6403c_1 ?_
  refine lv_acmp_ne (rx := some E.2.2.2.2) (ry := some E.2.2.2.2) (tgt := 13) hx hb dJ7_copyOf_6403c_3 (by decide) (fun c1 => absurd rfl c1) (fun c1 => ?_)
  refine lv_iload_n hx hb dJ7_copyOf_6403c_6 rfl (lv_at hl 1 rfl) ?_
  refine r_newq S h (N := 3) (by decide +kernel) (by decide) rfl (by decide) (Nat.le_of_ble_eq_true rfl) (Nat.le_of_ble_eq_true rfl) dJ7_copyOf_6403c_7 (fun n2 H h => ?_)
  have h : rH D E cy X [rAr cy d 2 f, rAr cy n2 3 (fun _ => none)] A s H _ := h
  refine lv_goto (tgt := 24) hx hb dJ7_copyOf_6403c_10 (by decide) ?_
  refine lv_astore_n (lv' := [(3, .ref n2), (0, .ref d), (1, .int 3), (2, .ref E.2.2.2.2)]) hx hb dJ7_copyOf_6403c_24 rfl hl (by decide) rfl (fun ls hl => ?_)
  refine lv_aload_n hx hb dJ7_copyOf_6403c_25 rfl (lv_at hl 1 rfl) ?_
  refine lv_iconst (v := 0) hx hb dJ7_copyOf_6403c_26 (by decide) ?_
  refine lv_aload_n hx hb dJ7_copyOf_6403c_27 rfl (lv_at hl 0 rfl) ?_
  refine lv_iconst (v := 0) hx hb dJ7_copyOf_6403c_28 (by decide) ?_
  refine lv_aload_n hx hb dJ7_copyOf_6403c_29 rfl (lv_at hl 1 rfl) ?_
  refine r_alenq S h (v := Int32.ofNat 2) 0 rfl rfl dJ7_copyOf_6403c_30 ?_
  refine lv_topi (fun x3 ex3 => ?_)
  obtain rfl : x3 = 2 := by rw [ex3]; rfl
  refine lv_iload_n hx hb dJ7_copyOf_6403c_31 rfl (lv_at hl 2 rfl) ?_
  refine va_mmin hx hb (S.2.2.1.trans hl.1.symm) S.2.2.2.1 (hts (.methodLink RJ7 304 Lib.Math.min.name) (by decide +kernel)) (hts (.static Lib.Math.min.name) (by decide +kernel)) (hts (.initialized "java/lang/Math") (by decide +kernel)) (hts (.code Lib.Math.min.name Lib.Math.min.code 2 (some .int)) (by decide +kernel)) (Nat.le_of_ble_eq_true rfl) (Nat.le_of_ble_eq_true rfl) (Nat.le_of_ble_eq_true rfl) (Nat.le_of_ble_eq_true rfl) dJ7_copyOf_6403c_32 ?_
  refine lv_topi (fun x4 ex4 => ?_)
  obtain rfl : x4 = 2 := by rw [ex4]; decide
  refine r_copyq S h hl.1 0 1 rfl rfl (N := 2) (by decide) rfl (by decide) (by decide) hf (by decide +kernel) (by decide +kernel) (by decide +kernel) (by decide +kernel) (Nat.le_of_ble_eq_true rfl) (by decide) dJ7_copyOf_6403c_35 (fun H locs h => ?_)
  have h : rH D E cy X [rAr cy d 2 f, rAr cy n2 3 (va_cpy f (fun _ => none) 0 0 2)] A s H _ := h
  refine lv_aload_n hx hb dJ7_copyOf_6403c_38 rfl (lv_at hl 0 rfl) ?_
  exact r_retr S h (Or.inr ⟨_, rfl⟩) n2 rfl trivial hr hlocks rfl ⟨Nat.le_of_ble_eq_true rfl, Nat.le_of_ble_eq_true rfl⟩ dJ7_copyOf_6403c_39
set_option maxHeartbeats 4000000 in
set_option maxRecDepth 100000 in
/-- copyOf, 2 to 3 -/
theorem k_copyB2 (l : Launch) (D : va_G) (E : rEn) (cy : rC) (X : va_W) (A : Nat → Prop) (d : Nat) (f : Nat → Option Nat) (hf : rCa E f) : rMr l yJ7_copyOf_1904c wsJ7_copyOf_1904c { frames := 2, cells := 1, slots := 3, locals := 83 } D E cy X [rAr cy d 2 f] A [.ref d, .int 3] (fun (q : Nat) => q) (fun (q : Nat) => [rAr cy d 2 f, rAr cy q 3 (va_cpy f (fun _ => none) 0 0 2)]) (fun _ => True) 1 3 := by
  refine r_entry (cc := cJ7_copyOf_1904c) (maxL := 2) (ret := (some (.array (.object "java/lang/Object")))) (by decide +kernel) rfl (Nat.le_of_ble_eq_true rfl) ?_
  intro p e s m args below meth c ls B
  obtain ⟨S, hr, hlocks, hmi, h, hl⟩ := B
  have hx := S.1
  have hb := S.2.1
  have hts := S.2.2.2.2
  have hl : lv_has ls 2 [(0, .ref d), (1, .int 3)] := hl
  refine lv_aload_n hx hb dJ7_copyOf_1904c_0 rfl (lv_at hl 0 rfl) ?_
  refine lv_iload_n hx hb dJ7_copyOf_1904c_1 rfl (lv_at hl 1 rfl) ?_
  refine lv_aload_n hx hb dJ7_copyOf_1904c_2 rfl (lv_at hl 0 rfl) ?_
  refine r_gc S h hl.1 (Or.inl ⟨0, _, _, rfl⟩) (by decide +kernel) (by decide +kernel) (by decide +kernel) (by decide +kernel) (Nat.le_of_ble_eq_true rfl) (Nat.le_of_ble_eq_true rfl) dJ7_copyOf_1904c_3 ?_
  refine r_callrS S h (k_copyC2 l D E cy _ A d f hf) (cwS 3 hts gJ7_copyOf_1904c_J7_copyOf_6403c rfl rfl rfl (by decide +kernel) ⟨Nat.le_of_ble_eq_true rfl, Nat.le_of_ble_eq_true rfl⟩) (r_preS h [] [0] (wr := []) (wc := [rAr cy d 2 f]) rfl rfl rfl _) rfl hl.1 rfl (Nat.le_of_ble_eq_true rfl) dJ7_copyOf_1904c_6 ⟨Nat.le_of_ble_eq_true rfl, Nat.le_of_ble_eq_true rfl⟩ (fun u1 H locs k2 h => ?_)
  obtain ⟨n3, rfl⟩ : ∃ z, z = u1 := ⟨_, rfl⟩
  have h : rH D E cy X [rAr cy d 2 f, rAr cy n3 3 (va_cpy f (fun _ => none) 0 0 2)] A s H _ := h
  exact r_retr S h (Or.inr ⟨_, rfl⟩) n3 rfl trivial hr hlocks rfl ⟨Nat.le_of_ble_eq_true rfl, Nat.le_of_ble_eq_true rfl⟩ dJ7_copyOf_1904c_9
set_option maxHeartbeats 4000000 in
set_option maxRecDepth 100000 in
/-- grow of 2 -/
theorem k_grow1G2 (l : Launch) (D : va_G) (E : rEn) (cy : rC) (X : va_W) (A : Nat → Prop) (a d : Nat) (mo : Int32) (f : Nat → Option Nat) (hf : rCa E f) : rMr l yJx4a65c_grow_92f84 wsJx4a65c_grow_92f84 { frames := 3, cells := 1, slots := 3, locals := 104 } D E cy X [(a, .inr (1, [.int mo, .ref d, .int 2])), rAr cy d 2 f] A [.ref a, .int 3] (fun (q : Nat) => q) (fun (q : Nat) => [(a, .inr (1, [.int mo, .ref q, .int 2])), rAr cy q 3 (va_cpy f (fun _ => none) 0 0 2)]) (fun _ => True) 1 3 := by
  refine r_entry (cc := cJx4a65c_grow_92f84) (maxL := 4) (ret := (some (.array (.object "java/lang/Object")))) (by decide +kernel) rfl (Nat.le_of_ble_eq_true rfl) ?_
  intro p e s m args below meth c ls B
  obtain ⟨S, hr, hlocks, hmi, h, hl⟩ := B
  have hx := S.1
  have hb := S.2.1
  have hts := S.2.2.2.2
  have inJx4a65c : ∀ w ∈ wsJx4a65c0, w ∈ wsJx4a65c_grow_92f84 := by decide +kernel
  have hl : lv_has ls 4 [(0, .ref a), (1, .int 3)] := hl
  refine lv_aload_n hx hb dJx4a65c_grow_92f84_0 rfl (lv_at hl 0 rfl) ?_
  refine r_get S h 0 inJx4a65c (ref := "java/util/ArrayList") rfl rfl (k := 1) (by decide) (by decide +kernel) (fun _ h9 => h9) rfl dJx4a65c_grow_92f84_1 ?_
  refine r_alenq S h (v := Int32.ofNat 2) 1 rfl rfl dJx4a65c_grow_92f84_4 ?_
  refine lv_topi (fun x1 ex1 => ?_)
  obtain rfl : x1 = 2 := by rw [ex1]; rfl
  refine lv_istore_n (lv' := [(2, .int 2), (0, .ref a), (1, .int 3)]) hx hb dJx4a65c_grow_92f84_5 rfl hl (by decide) rfl (fun ls hl => ?_)
  refine lv_iload_n hx hb dJx4a65c_grow_92f84_6 rfl (lv_at hl 0 rfl) ?_
  refine lv_if_gt (tgt := 20) hx hb dJx4a65c_grow_92f84_7 (by decide) (fun c2 => ?_) (fun c2 => absurd (by decide) c2)
  refine lv_iload_n hx hb dJx4a65c_grow_92f84_20 rfl (lv_at hl 0 rfl) ?_
  refine lv_iload_n hx hb dJx4a65c_grow_92f84_21 rfl (lv_at hl 2 rfl) ?_
  refine lv_iload_n hx hb dJx4a65c_grow_92f84_22 rfl (lv_at hl 0 rfl) ?_
  refine lv_isub hx hb dJx4a65c_grow_92f84_23 ?_
  refine lv_topi (fun x3 ex3 => ?_)
  obtain rfl : x3 = 1 := by rw [ex3]; decide
  refine lv_iload_n hx hb dJx4a65c_grow_92f84_24 rfl (lv_at hl 0 rfl) ?_
  refine lv_iconst (v := 1) hx hb dJx4a65c_grow_92f84_25 (by decide) ?_
  refine lv_ishr hx hb dJx4a65c_grow_92f84_26 ?_
  refine lv_topi (fun x4 ex4 => ?_)
  obtain rfl : x4 = 1 := by rw [ex4]; decide
  refine r_calliS S h (k_newLen2 l D E cy _ A ) (va_cwS 3 hts gJx4a65c_grow_92f84_J8_newLength_cabcc rfl rfl rfl (by decide +kernel) ⟨Nat.le_of_ble_eq_true rfl, Nat.le_of_ble_eq_true rfl⟩) (r_preS h [0, 1] [] (wr := [(a, .inr (1, [.int mo, .ref d, .int 2])), rAr cy d 2 f]) (wc := []) rfl rfl rfl _) rfl hl.1 rfl (Nat.le_of_ble_eq_true rfl) dJx4a65c_grow_92f84_27 ⟨Nat.le_of_ble_eq_true rfl, Nat.le_of_ble_eq_true rfl⟩ (fun u5 H locs k6 h => ?_)
  have h : rH D E cy X [(a, .inr (1, [.int mo, .ref d, .int 2])), rAr cy d 2 f] A s H _ := h
  refine lv_istore_n (lv' := [(3, .int 3), (2, .int 2), (0, .ref a), (1, .int 3)]) hx hb dJx4a65c_grow_92f84_30 rfl hl (by decide) rfl (fun ls hl => ?_)
  refine lv_aload_n hx hb dJx4a65c_grow_92f84_31 rfl (lv_at hl 2 rfl) ?_
  refine lv_aload_n hx hb dJx4a65c_grow_92f84_32 rfl (lv_at hl 2 rfl) ?_
  refine r_get S h 0 inJx4a65c (ref := "java/util/ArrayList") rfl rfl (k := 1) (by decide) (by decide +kernel) (fun _ h9 => h9) rfl dJx4a65c_grow_92f84_33 ?_
  refine lv_iload_n hx hb dJx4a65c_grow_92f84_36 rfl (lv_at hl 0 rfl) ?_
  refine r_callrS S h (k_copyB2 l D E cy _ A d f hf) (va_cwS 2 hts gJx4a65c_grow_92f84_J7_copyOf_1904c rfl rfl rfl (by decide +kernel) ⟨Nat.le_of_ble_eq_true rfl, Nat.le_of_ble_eq_true rfl⟩) (r_preS h [0] [1] (wr := [(a, .inr (1, [.int mo, .ref d, .int 2]))]) (wc := [rAr cy d 2 f]) rfl rfl rfl _) rfl hl.1 rfl (Nat.le_of_ble_eq_true rfl) dJx4a65c_grow_92f84_37 ⟨Nat.le_of_ble_eq_true rfl, Nat.le_of_ble_eq_true rfl⟩ (fun u7 H locs k8 h => ?_)
  obtain ⟨n9, rfl⟩ : ∃ z, z = u7 := ⟨_, rfl⟩
  have h : rH D E cy X [(a, .inr (1, [.int mo, .ref d, .int 2])), rAr cy d 2 f, rAr cy n9 3 (va_cpy f (fun _ => none) 0 0 2)] A s H _ := h
  refine lv_dup_x1 hx hb dJx4a65c_grow_92f84_40 rfl rfl ?_
  refine r_put S h 0 tyJx4a65c tyJx4a65c_ok nmJx4a65c inJx4a65c (ref := "java/util/ArrayList") rfl rfl (k := 1) (by decide) (by decide +kernel) (fun _ h9 => h9) rfl rfl rfl rfl (Nat.le_of_ble_eq_true rfl) dJx4a65c_grow_92f84_41 (fun H locs h => ?_)
  have h : rH D E cy X [(a, .inr (1, [.int mo, .ref n9, .int 2])), rAr cy d 2 f, rAr cy n9 3 (va_cpy f (fun _ => none) 0 0 2)] A s H _ := h
  have h := h.pick [0, 2] (w := [(a, .inr (1, [.int mo, .ref n9, .int 2])), rAr cy n9 3 (va_cpy f (fun _ => none) 0 0 2)]) rfl rfl
  exact r_retr S h (Or.inr ⟨_, rfl⟩) n9 rfl trivial hr hlocks rfl ⟨Nat.le_of_ble_eq_true rfl, Nat.le_of_ble_eq_true rfl⟩ dJx4a65c_grow_92f84_44
set_option maxHeartbeats 4000000 in
set_option maxRecDepth 100000 in
/-- grow of 2 -/
theorem k_growG2 (l : Launch) (D : va_G) (E : rEn) (cy : rC) (X : va_W) (A : Nat → Prop) (a d : Nat) (mo : Int32) (f : Nat → Option Nat) (hf : rCa E f) : rMr l yJx4a65c_grow_d5877 wsJx4a65c_grow_d5877 { frames := 4, cells := 1, slots := 3, locals := 127 } D E cy X [(a, .inr (1, [.int mo, .ref d, .int 2])), rAr cy d 2 f] A [.ref a] (fun (q : Nat) => q) (fun (q : Nat) => [(a, .inr (1, [.int mo, .ref q, .int 2])), rAr cy q 3 (va_cpy f (fun _ => none) 0 0 2)]) (fun _ => True) 1 3 := by
  refine r_entry (cc := cJx4a65c_grow_d5877) (maxL := 1) (ret := (some (.array (.object "java/lang/Object")))) (by decide +kernel) rfl (Nat.le_of_ble_eq_true rfl) ?_
  intro p e s m args below meth c ls B
  obtain ⟨S, hr, hlocks, hmi, h, hl⟩ := B
  have hx := S.1
  have hb := S.2.1
  have hts := S.2.2.2.2
  have inJx4a65c : ∀ w ∈ wsJx4a65c0, w ∈ wsJx4a65c_grow_d5877 := by decide +kernel
  have hl : lv_has ls 1 [(0, .ref a)] := hl
  refine lv_aload_n hx hb dJx4a65c_grow_d5877_0 rfl (lv_at hl 0 rfl) ?_
  refine lv_aload_n hx hb dJx4a65c_grow_d5877_1 rfl (lv_at hl 0 rfl) ?_
  refine r_get S h 0 inJx4a65c (ref := "java/util/ArrayList") rfl rfl (k := 2) (by decide) (by decide +kernel) (fun _ h9 => h9) rfl dJx4a65c_grow_d5877_2 ?_
  refine lv_iconst (v := 1) hx hb dJx4a65c_grow_d5877_5 (by decide) ?_
  refine lv_iadd hx hb dJx4a65c_grow_d5877_6 ?_
  refine lv_topi (fun x1 ex1 => ?_)
  obtain rfl : x1 = 3 := by rw [ex1]; decide
  refine r_callr S h (k_grow1G2 l D E cy _ A a d mo f hf) (cwV 1 hts gJx4a65c_grow_d5877_Jx4a65c_grow_92f84 rfl rfl rfl (by decide +kernel) ⟨Nat.le_of_ble_eq_true rfl, Nat.le_of_ble_eq_true rfl⟩) (r_preV h [] [0, 1] (wr := []) (wc := [(a, .inr (1, [.int mo, .ref d, .int 2])), rAr cy d 2 f]) rfl rfl rfl 0 rfl rfl _) rfl hl.1 rfl (Nat.le_of_ble_eq_true rfl) dJx4a65c_grow_d5877_7 ⟨Nat.le_of_ble_eq_true rfl, Nat.le_of_ble_eq_true rfl⟩ (fun u2 H locs k3 h => ?_)
  obtain ⟨n4, rfl⟩ : ∃ z, z = u2 := ⟨_, rfl⟩
  have h : rH D E cy X [(a, .inr (1, [.int mo, .ref n4, .int 2])), rAr cy n4 3 (va_cpy f (fun _ => none) 0 0 2)] A s H _ := h
  exact r_retr S h (Or.inr ⟨_, rfl⟩) n4 rfl trivial hr hlocks rfl ⟨Nat.le_of_ble_eq_true rfl, Nat.le_of_ble_eq_true rfl⟩ dJx4a65c_grow_d5877_10
set_option maxHeartbeats 4000000 in
set_option maxRecDepth 100000 in
/-- add at 2 -/
theorem k_add3G2 (l : Launch) (D : va_G) (E : rEn) (cy : rC) (X : va_W) (A : Nat → Prop) (a v d : Nat) (mo : Int32) (f : Nat → Option Nat) (C : String) (hv : rEl E X C v) (hca : ∀ U : State, rS E U → va_Nw (.castable C "java/lang/Object") U) (hf : rCa E f) : rMv l yJx4a65c_add_72be8 wsJx4a65c_add_72be8 { frames := 5, cells := 1, slots := 3, locals := 147 } D E cy X [(a, .inr (1, [.int mo, .ref d, .int 2])), rAr cy d 2 f] A [.ref a, .ref v, .ref d, .int 2] (fun (q : Nat) => [(a, .inr (1, [.int mo, .ref q, .int 3])), rAr cy q 3 (va_up (va_cpy f (fun _ => none) 0 0 2) 2 (some v))]) (fun _ => True) 1 3 := by
  refine r_entry (cc := cJx4a65c_add_72be8) (maxL := 4) (ret := none) (by decide +kernel) rfl (Nat.le_of_ble_eq_true rfl) ?_
  intro p e s m args below meth c ls B
  obtain ⟨S, hr, hlocks, hmi, h, hl⟩ := B
  have hx := S.1
  have hb := S.2.1
  have hts := S.2.2.2.2
  have inJx4a65c : ∀ w ∈ wsJx4a65c0, w ∈ wsJx4a65c_add_72be8 := by decide +kernel
  have hl : lv_has ls 4 [(0, .ref a), (1, .ref v), (2, .ref d), (3, .int 2)] := hl
  refine lv_iload_n hx hb dJx4a65c_add_72be8_0 rfl (lv_at hl 3 rfl) ?_
  refine lv_aload_n hx hb dJx4a65c_add_72be8_1 rfl (lv_at hl 2 rfl) ?_
  refine r_alenq S h (v := Int32.ofNat 2) 1 rfl rfl dJx4a65c_add_72be8_2 ?_
  refine lv_topi (fun x1 ex1 => ?_)
  obtain rfl : x1 = 2 := by rw [ex1]; rfl
  refine lv_icmp_ne (tgt := 11) hx hb dJx4a65c_add_72be8_3 (by decide) (fun c2 => absurd (by decide) c2) (fun c2 => ?_)
  refine lv_aload_n hx hb dJx4a65c_add_72be8_6 rfl (lv_at hl 0 rfl) ?_
  refine r_callr S h (k_growG2 l D E cy _ A a d mo f hf) (cwV 0 hts gJx4a65c_add_72be8_Jx4a65c_grow_d5877 rfl rfl rfl (by decide +kernel) ⟨Nat.le_of_ble_eq_true rfl, Nat.le_of_ble_eq_true rfl⟩) (r_preV h [] [0, 1] (wr := []) (wc := [(a, .inr (1, [.int mo, .ref d, .int 2])), rAr cy d 2 f]) rfl rfl rfl 0 rfl rfl _) rfl hl.1 rfl (Nat.le_of_ble_eq_true rfl) dJx4a65c_add_72be8_7 ⟨Nat.le_of_ble_eq_true rfl, Nat.le_of_ble_eq_true rfl⟩ (fun u3 H locs k4 h => ?_)
  obtain ⟨n5, rfl⟩ : ∃ z, z = u3 := ⟨_, rfl⟩
  have h : rH D E cy X [(a, .inr (1, [.int mo, .ref n5, .int 2])), rAr cy n5 3 (va_cpy f (fun _ => none) 0 0 2)] A s H _ := h
  refine lv_astore_n (lv' := [(2, .ref n5), (0, .ref a), (1, .ref v), (3, .int 2)]) hx hb dJx4a65c_add_72be8_10 rfl hl (by decide) rfl (fun ls hl => ?_)
  refine lv_aload_n hx hb dJx4a65c_add_72be8_11 rfl (lv_at hl 0 rfl) ?_
  refine lv_iload_n hx hb dJx4a65c_add_72be8_12 rfl (lv_at hl 3 rfl) ?_
  refine lv_aload_n hx hb dJx4a65c_add_72be8_13 rfl (lv_at hl 2 rfl) ?_
  refine r_aast S h 1 rfl hv (hca s h.2.2.2.1.2) (by unfold vp_in; decide) dJx4a65c_add_72be8_14 (fun H locs h => ?_)
  have h : rH D E cy X [(a, .inr (1, [.int mo, .ref n5, .int 2])), rAr cy n5 3 (va_up (va_cpy f (fun _ => none) 0 0 2) 2 (some v))] A s H _ := h
  refine lv_aload_n hx hb dJx4a65c_add_72be8_15 rfl (lv_at hl 1 rfl) ?_
  refine lv_iload_n hx hb dJx4a65c_add_72be8_16 rfl (lv_at hl 3 rfl) ?_
  refine lv_iconst (v := 1) hx hb dJx4a65c_add_72be8_17 (by decide) ?_
  refine lv_iadd hx hb dJx4a65c_add_72be8_18 ?_
  refine lv_topi (fun x6 ex6 => ?_)
  obtain rfl : x6 = 3 := by rw [ex6]; decide
  refine r_put S h 0 tyJx4a65c tyJx4a65c_ok nmJx4a65c inJx4a65c (ref := "java/util/ArrayList") rfl rfl (k := 2) (by decide) (by decide +kernel) (fun _ h9 => h9) rfl rfl rfl rfl (Nat.le_of_ble_eq_true rfl) dJx4a65c_add_72be8_19 (fun H locs h => ?_)
  have h : rH D E cy X [(a, .inr (1, [.int mo, .ref n5, .int 3])), rAr cy n5 3 (va_up (va_cpy f (fun _ => none) 0 0 2) 2 (some v))] A s H _ := h
  exact r_retv S h n5 rfl trivial hr hlocks ⟨Nat.le_of_ble_eq_true rfl, Nat.le_of_ble_eq_true rfl⟩ dJx4a65c_add_72be8_22
set_option maxHeartbeats 4000000 in
set_option maxRecDepth 100000 in
/-- add at 2 -/
theorem k_addG2 (l : Launch) (D : va_G) (E : rEn) (cy : rC) (X : va_W) (A : Nat → Prop) (a v d : Nat) (f : Nat → Option Nat) (C : String) (hv : rEl E X C v) (hca : ∀ U : State, rS E U → va_Nw (.castable C "java/lang/Object") U) (hf : rCa E f) : rMi l yJx4a65c_add_9ea2d wsJx4a65c_add_9ea2d { frames := 6, cells := 1, slots := 3, locals := 170 } D E cy X [(a, .inr (1, [.int 2, .ref d, .int 2])), rAr cy d 2 f] A [.ref a, .ref v] 1 (fun (q : Nat) => [(a, .inr (1, [.int 3, .ref q, .int 3])), rAr cy q 3 (va_up (va_cpy f (fun _ => none) 0 0 2) 2 (some v))]) (fun _ => True) 1 3 := by
  refine r_entry (cc := cJx4a65c_add_9ea2d) (maxL := 2) (ret := (some .boolean)) (by decide +kernel) rfl (Nat.le_of_ble_eq_true rfl) ?_
  intro p e s m args below meth c ls B
  obtain ⟨S, hr, hlocks, hmi, h, hl⟩ := B
  have hx := S.1
  have hb := S.2.1
  have hts := S.2.2.2.2
  have inJx4a65c : ∀ w ∈ wsJx4a65c0, w ∈ wsJx4a65c_add_9ea2d := by decide +kernel
  have hl : lv_has ls 2 [(0, .ref a), (1, .ref v)] := hl
  refine lv_aload_n hx hb dJx4a65c_add_9ea2d_0 rfl (lv_at hl 0 rfl) ?_
  refine lv_dup hx hb dJx4a65c_add_9ea2d_1 rfl ?_
  refine r_get S h 0 inJx4a65c (ref := "java/util/ArrayList") rfl rfl (k := 0) (by decide) (by decide +kernel) (fun x9 h9 => u_same (hts (.sameField "java/util/ArrayList" "java/util/AbstractList" "modCount" "I") (by decide +kernel)) x9 h9) rfl dJx4a65c_add_9ea2d_2 ?_
  refine lv_iconst (v := 1) hx hb dJx4a65c_add_9ea2d_5 (by decide) ?_
  refine lv_iadd hx hb dJx4a65c_add_9ea2d_6 ?_
  refine lv_topi (fun x1 ex1 => ?_)
  obtain rfl : x1 = 3 := by rw [ex1]; decide
  refine r_put S h 0 tyJx4a65c tyJx4a65c_ok nmJx4a65c inJx4a65c (ref := "java/util/ArrayList") rfl rfl (k := 0) (by decide) (by decide +kernel) (fun x9 h9 => u_same (hts (.sameField "java/util/ArrayList" "java/util/AbstractList" "modCount" "I") (by decide +kernel)) x9 h9) rfl rfl rfl rfl (Nat.le_of_ble_eq_true rfl) dJx4a65c_add_9ea2d_7 (fun H locs h => ?_)
  have h : rH D E cy X [(a, .inr (1, [.int 3, .ref d, .int 2])), rAr cy d 2 f] A s H _ := h
  refine lv_aload_n hx hb dJx4a65c_add_9ea2d_10 rfl (lv_at hl 0 rfl) ?_
  refine lv_aload_n hx hb dJx4a65c_add_9ea2d_11 rfl (lv_at hl 1 rfl) ?_
  refine lv_aload_n hx hb dJx4a65c_add_9ea2d_12 rfl (lv_at hl 0 rfl) ?_
  refine r_get S h 0 inJx4a65c (ref := "java/util/ArrayList") rfl rfl (k := 1) (by decide) (by decide +kernel) (fun _ h9 => h9) rfl dJx4a65c_add_9ea2d_13 ?_
  refine lv_aload_n hx hb dJx4a65c_add_9ea2d_16 rfl (lv_at hl 0 rfl) ?_
  refine r_get S h 0 inJx4a65c (ref := "java/util/ArrayList") rfl rfl (k := 2) (by decide) (by decide +kernel) (fun _ h9 => h9) rfl dJx4a65c_add_9ea2d_17 ?_
  refine r_callv S h (k_add3G2 l D E cy _ A a v d 3 f C hv.app hca hf) (cwV 3 hts gJx4a65c_add_9ea2d_Jx4a65c_add_72be8 rfl rfl rfl (by decide +kernel) ⟨Nat.le_of_ble_eq_true rfl, Nat.le_of_ble_eq_true rfl⟩) (r_preV h [] [0, 1] (wr := []) (wc := [(a, .inr (1, [.int 3, .ref d, .int 2])), rAr cy d 2 f]) rfl rfl rfl 0 rfl rfl _) rfl hl.1 rfl (Nat.le_of_ble_eq_true rfl) dJx4a65c_add_9ea2d_20 ⟨Nat.le_of_ble_eq_true rfl, Nat.le_of_ble_eq_true rfl⟩ (fun u2 H locs k3 h => ?_)
  obtain ⟨n4, rfl⟩ : ∃ z, z = u2 := ⟨_, rfl⟩
  have h : rH D E cy X [(a, .inr (1, [.int 3, .ref n4, .int 3])), rAr cy n4 3 (va_up (va_cpy f (fun _ => none) 0 0 2) 2 (some v))] A s H _ := h
  refine lv_iconst (v := 1) hx hb dJx4a65c_add_9ea2d_23 (by decide) ?_
  exact r_reti S h n4 rfl trivial hr hlocks rfl (rfl) ⟨Nat.le_of_ble_eq_true rfl, Nat.le_of_ble_eq_true rfl⟩ dJx4a65c_add_9ea2d_24
set_option maxHeartbeats 4000000 in
set_option maxRecDepth 100000 in
/-- copyOf, 3 to 4 -/
theorem k_copyC3 (l : Launch) (D : va_G) (E : rEn) (cy : rC) (X : va_W) (A : Nat → Prop) (d : Nat) (f : Nat → Option Nat) (hf : rCa E f) : rMr l yJ7_copyOf_6403c wsJ7_copyOf_6403c { frames := 1, cells := 1, slots := 4, locals := 60 } D E cy X [rAr cy d 3 f] A [.ref d, .int 4, .ref E.2.2.2.2] (fun (q : Nat) => q) (fun (q : Nat) => [rAr cy d 3 f, rAr cy q 4 (va_cpy f (fun _ => none) 0 0 3)]) (fun _ => True) 1 4 := by
  refine r_entry (cc := cJ7_copyOf_6403c) (maxL := 4) (ret := (some (.array (.object "java/lang/Object")))) (by decide +kernel) rfl (Nat.le_of_ble_eq_true rfl) ?_
  intro p e s m args below meth c ls B
  obtain ⟨S, hr, hlocks, hmi, h, hl⟩ := B
  have hx := S.1
  have hb := S.2.1
  have hts := S.2.2.2.2
  have hl : lv_has ls 4 [(0, .ref d), (1, .int 4), (2, .ref E.2.2.2.2)] := hl
  refine lv_aload_n hx hb dJ7_copyOf_6403c_0 rfl (lv_at hl 2 rfl) ?_
  refine r_ldcM S h (by decide +kernel) dJ7_copyOf_6403c_1 ?_
  refine lv_acmp_ne (rx := some E.2.2.2.2) (ry := some E.2.2.2.2) (tgt := 13) hx hb dJ7_copyOf_6403c_3 (by decide) (fun c1 => absurd rfl c1) (fun c1 => ?_)
  refine lv_iload_n hx hb dJ7_copyOf_6403c_6 rfl (lv_at hl 1 rfl) ?_
  refine r_newq S h (N := 4) (by decide +kernel) (by decide) rfl (by decide) (Nat.le_of_ble_eq_true rfl) (Nat.le_of_ble_eq_true rfl) dJ7_copyOf_6403c_7 (fun n2 H h => ?_)
  have h : rH D E cy X [rAr cy d 3 f, rAr cy n2 4 (fun _ => none)] A s H _ := h
  refine lv_goto (tgt := 24) hx hb dJ7_copyOf_6403c_10 (by decide) ?_
  refine lv_astore_n (lv' := [(3, .ref n2), (0, .ref d), (1, .int 4), (2, .ref E.2.2.2.2)]) hx hb dJ7_copyOf_6403c_24 rfl hl (by decide) rfl (fun ls hl => ?_)
  refine lv_aload_n hx hb dJ7_copyOf_6403c_25 rfl (lv_at hl 1 rfl) ?_
  refine lv_iconst (v := 0) hx hb dJ7_copyOf_6403c_26 (by decide) ?_
  refine lv_aload_n hx hb dJ7_copyOf_6403c_27 rfl (lv_at hl 0 rfl) ?_
  refine lv_iconst (v := 0) hx hb dJ7_copyOf_6403c_28 (by decide) ?_
  refine lv_aload_n hx hb dJ7_copyOf_6403c_29 rfl (lv_at hl 1 rfl) ?_
  refine r_alenq S h (v := Int32.ofNat 3) 0 rfl rfl dJ7_copyOf_6403c_30 ?_
  refine lv_topi (fun x3 ex3 => ?_)
  obtain rfl : x3 = 3 := by rw [ex3]; rfl
  refine lv_iload_n hx hb dJ7_copyOf_6403c_31 rfl (lv_at hl 2 rfl) ?_
  refine va_mmin hx hb (S.2.2.1.trans hl.1.symm) S.2.2.2.1 (hts (.methodLink RJ7 304 Lib.Math.min.name) (by decide +kernel)) (hts (.static Lib.Math.min.name) (by decide +kernel)) (hts (.initialized "java/lang/Math") (by decide +kernel)) (hts (.code Lib.Math.min.name Lib.Math.min.code 2 (some .int)) (by decide +kernel)) (Nat.le_of_ble_eq_true rfl) (Nat.le_of_ble_eq_true rfl) (Nat.le_of_ble_eq_true rfl) (Nat.le_of_ble_eq_true rfl) dJ7_copyOf_6403c_32 ?_
  refine lv_topi (fun x4 ex4 => ?_)
  obtain rfl : x4 = 3 := by rw [ex4]; decide
  refine r_copyq S h hl.1 0 1 rfl rfl (N := 3) (by decide) rfl (by decide) (by decide) hf (by decide +kernel) (by decide +kernel) (by decide +kernel) (by decide +kernel) (Nat.le_of_ble_eq_true rfl) (by decide) dJ7_copyOf_6403c_35 (fun H locs h => ?_)
  have h : rH D E cy X [rAr cy d 3 f, rAr cy n2 4 (va_cpy f (fun _ => none) 0 0 3)] A s H _ := h
  refine lv_aload_n hx hb dJ7_copyOf_6403c_38 rfl (lv_at hl 0 rfl) ?_
  exact r_retr S h (Or.inr ⟨_, rfl⟩) n2 rfl trivial hr hlocks rfl ⟨Nat.le_of_ble_eq_true rfl, Nat.le_of_ble_eq_true rfl⟩ dJ7_copyOf_6403c_39
set_option maxHeartbeats 4000000 in
set_option maxRecDepth 100000 in
/-- copyOf, 3 to 4 -/
theorem k_copyB3 (l : Launch) (D : va_G) (E : rEn) (cy : rC) (X : va_W) (A : Nat → Prop) (d : Nat) (f : Nat → Option Nat) (hf : rCa E f) : rMr l yJ7_copyOf_1904c wsJ7_copyOf_1904c { frames := 2, cells := 1, slots := 4, locals := 83 } D E cy X [rAr cy d 3 f] A [.ref d, .int 4] (fun (q : Nat) => q) (fun (q : Nat) => [rAr cy d 3 f, rAr cy q 4 (va_cpy f (fun _ => none) 0 0 3)]) (fun _ => True) 1 4 := by
  refine r_entry (cc := cJ7_copyOf_1904c) (maxL := 2) (ret := (some (.array (.object "java/lang/Object")))) (by decide +kernel) rfl (Nat.le_of_ble_eq_true rfl) ?_
  intro p e s m args below meth c ls B
  obtain ⟨S, hr, hlocks, hmi, h, hl⟩ := B
  have hx := S.1
  have hb := S.2.1
  have hts := S.2.2.2.2
  have hl : lv_has ls 2 [(0, .ref d), (1, .int 4)] := hl
  refine lv_aload_n hx hb dJ7_copyOf_1904c_0 rfl (lv_at hl 0 rfl) ?_
  refine lv_iload_n hx hb dJ7_copyOf_1904c_1 rfl (lv_at hl 1 rfl) ?_
  refine lv_aload_n hx hb dJ7_copyOf_1904c_2 rfl (lv_at hl 0 rfl) ?_
  refine r_gc S h hl.1 (Or.inl ⟨0, _, _, rfl⟩) (by decide +kernel) (by decide +kernel) (by decide +kernel) (by decide +kernel) (Nat.le_of_ble_eq_true rfl) (Nat.le_of_ble_eq_true rfl) dJ7_copyOf_1904c_3 ?_
  refine r_callrS S h (k_copyC3 l D E cy _ A d f hf) (cwS 3 hts gJ7_copyOf_1904c_J7_copyOf_6403c rfl rfl rfl (by decide +kernel) ⟨Nat.le_of_ble_eq_true rfl, Nat.le_of_ble_eq_true rfl⟩) (r_preS h [] [0] (wr := []) (wc := [rAr cy d 3 f]) rfl rfl rfl _) rfl hl.1 rfl (Nat.le_of_ble_eq_true rfl) dJ7_copyOf_1904c_6 ⟨Nat.le_of_ble_eq_true rfl, Nat.le_of_ble_eq_true rfl⟩ (fun u1 H locs k2 h => ?_)
  obtain ⟨n3, rfl⟩ : ∃ z, z = u1 := ⟨_, rfl⟩
  have h : rH D E cy X [rAr cy d 3 f, rAr cy n3 4 (va_cpy f (fun _ => none) 0 0 3)] A s H _ := h
  exact r_retr S h (Or.inr ⟨_, rfl⟩) n3 rfl trivial hr hlocks rfl ⟨Nat.le_of_ble_eq_true rfl, Nat.le_of_ble_eq_true rfl⟩ dJ7_copyOf_1904c_9
set_option maxHeartbeats 4000000 in
set_option maxRecDepth 100000 in
/-- grow of 3 -/
theorem k_grow1G3 (l : Launch) (D : va_G) (E : rEn) (cy : rC) (X : va_W) (A : Nat → Prop) (a d : Nat) (mo : Int32) (f : Nat → Option Nat) (hf : rCa E f) : rMr l yJx4a65c_grow_92f84 wsJx4a65c_grow_92f84 { frames := 3, cells := 1, slots := 4, locals := 104 } D E cy X [(a, .inr (1, [.int mo, .ref d, .int 3])), rAr cy d 3 f] A [.ref a, .int 4] (fun (q : Nat) => q) (fun (q : Nat) => [(a, .inr (1, [.int mo, .ref q, .int 3])), rAr cy q 4 (va_cpy f (fun _ => none) 0 0 3)]) (fun _ => True) 1 4 := by
  refine r_entry (cc := cJx4a65c_grow_92f84) (maxL := 4) (ret := (some (.array (.object "java/lang/Object")))) (by decide +kernel) rfl (Nat.le_of_ble_eq_true rfl) ?_
  intro p e s m args below meth c ls B
  obtain ⟨S, hr, hlocks, hmi, h, hl⟩ := B
  have hx := S.1
  have hb := S.2.1
  have hts := S.2.2.2.2
  have inJx4a65c : ∀ w ∈ wsJx4a65c0, w ∈ wsJx4a65c_grow_92f84 := by decide +kernel
  have hl : lv_has ls 4 [(0, .ref a), (1, .int 4)] := hl
  refine lv_aload_n hx hb dJx4a65c_grow_92f84_0 rfl (lv_at hl 0 rfl) ?_
  refine r_get S h 0 inJx4a65c (ref := "java/util/ArrayList") rfl rfl (k := 1) (by decide) (by decide +kernel) (fun _ h9 => h9) rfl dJx4a65c_grow_92f84_1 ?_
  refine r_alenq S h (v := Int32.ofNat 3) 1 rfl rfl dJx4a65c_grow_92f84_4 ?_
  refine lv_topi (fun x1 ex1 => ?_)
  obtain rfl : x1 = 3 := by rw [ex1]; rfl
  refine lv_istore_n (lv' := [(2, .int 3), (0, .ref a), (1, .int 4)]) hx hb dJx4a65c_grow_92f84_5 rfl hl (by decide) rfl (fun ls hl => ?_)
  refine lv_iload_n hx hb dJx4a65c_grow_92f84_6 rfl (lv_at hl 0 rfl) ?_
  refine lv_if_gt (tgt := 20) hx hb dJx4a65c_grow_92f84_7 (by decide) (fun c2 => ?_) (fun c2 => absurd (by decide) c2)
  refine lv_iload_n hx hb dJx4a65c_grow_92f84_20 rfl (lv_at hl 0 rfl) ?_
  refine lv_iload_n hx hb dJx4a65c_grow_92f84_21 rfl (lv_at hl 2 rfl) ?_
  refine lv_iload_n hx hb dJx4a65c_grow_92f84_22 rfl (lv_at hl 0 rfl) ?_
  refine lv_isub hx hb dJx4a65c_grow_92f84_23 ?_
  refine lv_topi (fun x3 ex3 => ?_)
  obtain rfl : x3 = 1 := by rw [ex3]; decide
  refine lv_iload_n hx hb dJx4a65c_grow_92f84_24 rfl (lv_at hl 0 rfl) ?_
  refine lv_iconst (v := 1) hx hb dJx4a65c_grow_92f84_25 (by decide) ?_
  refine lv_ishr hx hb dJx4a65c_grow_92f84_26 ?_
  refine lv_topi (fun x4 ex4 => ?_)
  obtain rfl : x4 = 1 := by rw [ex4]; decide
  refine r_calliS S h (k_newLen3 l D E cy _ A ) (va_cwS 3 hts gJx4a65c_grow_92f84_J8_newLength_cabcc rfl rfl rfl (by decide +kernel) ⟨Nat.le_of_ble_eq_true rfl, Nat.le_of_ble_eq_true rfl⟩) (r_preS h [0, 1] [] (wr := [(a, .inr (1, [.int mo, .ref d, .int 3])), rAr cy d 3 f]) (wc := []) rfl rfl rfl _) rfl hl.1 rfl (Nat.le_of_ble_eq_true rfl) dJx4a65c_grow_92f84_27 ⟨Nat.le_of_ble_eq_true rfl, Nat.le_of_ble_eq_true rfl⟩ (fun u5 H locs k6 h => ?_)
  have h : rH D E cy X [(a, .inr (1, [.int mo, .ref d, .int 3])), rAr cy d 3 f] A s H _ := h
  refine lv_istore_n (lv' := [(3, .int 4), (2, .int 3), (0, .ref a), (1, .int 4)]) hx hb dJx4a65c_grow_92f84_30 rfl hl (by decide) rfl (fun ls hl => ?_)
  refine lv_aload_n hx hb dJx4a65c_grow_92f84_31 rfl (lv_at hl 2 rfl) ?_
  refine lv_aload_n hx hb dJx4a65c_grow_92f84_32 rfl (lv_at hl 2 rfl) ?_
  refine r_get S h 0 inJx4a65c (ref := "java/util/ArrayList") rfl rfl (k := 1) (by decide) (by decide +kernel) (fun _ h9 => h9) rfl dJx4a65c_grow_92f84_33 ?_
  refine lv_iload_n hx hb dJx4a65c_grow_92f84_36 rfl (lv_at hl 0 rfl) ?_
  refine r_callrS S h (k_copyB3 l D E cy _ A d f hf) (va_cwS 2 hts gJx4a65c_grow_92f84_J7_copyOf_1904c rfl rfl rfl (by decide +kernel) ⟨Nat.le_of_ble_eq_true rfl, Nat.le_of_ble_eq_true rfl⟩) (r_preS h [0] [1] (wr := [(a, .inr (1, [.int mo, .ref d, .int 3]))]) (wc := [rAr cy d 3 f]) rfl rfl rfl _) rfl hl.1 rfl (Nat.le_of_ble_eq_true rfl) dJx4a65c_grow_92f84_37 ⟨Nat.le_of_ble_eq_true rfl, Nat.le_of_ble_eq_true rfl⟩ (fun u7 H locs k8 h => ?_)
  obtain ⟨n9, rfl⟩ : ∃ z, z = u7 := ⟨_, rfl⟩
  have h : rH D E cy X [(a, .inr (1, [.int mo, .ref d, .int 3])), rAr cy d 3 f, rAr cy n9 4 (va_cpy f (fun _ => none) 0 0 3)] A s H _ := h
  refine lv_dup_x1 hx hb dJx4a65c_grow_92f84_40 rfl rfl ?_
  refine r_put S h 0 tyJx4a65c tyJx4a65c_ok nmJx4a65c inJx4a65c (ref := "java/util/ArrayList") rfl rfl (k := 1) (by decide) (by decide +kernel) (fun _ h9 => h9) rfl rfl rfl rfl (Nat.le_of_ble_eq_true rfl) dJx4a65c_grow_92f84_41 (fun H locs h => ?_)
  have h : rH D E cy X [(a, .inr (1, [.int mo, .ref n9, .int 3])), rAr cy d 3 f, rAr cy n9 4 (va_cpy f (fun _ => none) 0 0 3)] A s H _ := h
  have h := h.pick [0, 2] (w := [(a, .inr (1, [.int mo, .ref n9, .int 3])), rAr cy n9 4 (va_cpy f (fun _ => none) 0 0 3)]) rfl rfl
  exact r_retr S h (Or.inr ⟨_, rfl⟩) n9 rfl trivial hr hlocks rfl ⟨Nat.le_of_ble_eq_true rfl, Nat.le_of_ble_eq_true rfl⟩ dJx4a65c_grow_92f84_44
set_option maxHeartbeats 4000000 in
set_option maxRecDepth 100000 in
/-- grow of 3 -/
theorem k_growG3 (l : Launch) (D : va_G) (E : rEn) (cy : rC) (X : va_W) (A : Nat → Prop) (a d : Nat) (mo : Int32) (f : Nat → Option Nat) (hf : rCa E f) : rMr l yJx4a65c_grow_d5877 wsJx4a65c_grow_d5877 { frames := 4, cells := 1, slots := 4, locals := 127 } D E cy X [(a, .inr (1, [.int mo, .ref d, .int 3])), rAr cy d 3 f] A [.ref a] (fun (q : Nat) => q) (fun (q : Nat) => [(a, .inr (1, [.int mo, .ref q, .int 3])), rAr cy q 4 (va_cpy f (fun _ => none) 0 0 3)]) (fun _ => True) 1 4 := by
  refine r_entry (cc := cJx4a65c_grow_d5877) (maxL := 1) (ret := (some (.array (.object "java/lang/Object")))) (by decide +kernel) rfl (Nat.le_of_ble_eq_true rfl) ?_
  intro p e s m args below meth c ls B
  obtain ⟨S, hr, hlocks, hmi, h, hl⟩ := B
  have hx := S.1
  have hb := S.2.1
  have hts := S.2.2.2.2
  have inJx4a65c : ∀ w ∈ wsJx4a65c0, w ∈ wsJx4a65c_grow_d5877 := by decide +kernel
  have hl : lv_has ls 1 [(0, .ref a)] := hl
  refine lv_aload_n hx hb dJx4a65c_grow_d5877_0 rfl (lv_at hl 0 rfl) ?_
  refine lv_aload_n hx hb dJx4a65c_grow_d5877_1 rfl (lv_at hl 0 rfl) ?_
  refine r_get S h 0 inJx4a65c (ref := "java/util/ArrayList") rfl rfl (k := 2) (by decide) (by decide +kernel) (fun _ h9 => h9) rfl dJx4a65c_grow_d5877_2 ?_
  refine lv_iconst (v := 1) hx hb dJx4a65c_grow_d5877_5 (by decide) ?_
  refine lv_iadd hx hb dJx4a65c_grow_d5877_6 ?_
  refine lv_topi (fun x1 ex1 => ?_)
  obtain rfl : x1 = 4 := by rw [ex1]; decide
  refine r_callr S h (k_grow1G3 l D E cy _ A a d mo f hf) (cwV 1 hts gJx4a65c_grow_d5877_Jx4a65c_grow_92f84 rfl rfl rfl (by decide +kernel) ⟨Nat.le_of_ble_eq_true rfl, Nat.le_of_ble_eq_true rfl⟩) (r_preV h [] [0, 1] (wr := []) (wc := [(a, .inr (1, [.int mo, .ref d, .int 3])), rAr cy d 3 f]) rfl rfl rfl 0 rfl rfl _) rfl hl.1 rfl (Nat.le_of_ble_eq_true rfl) dJx4a65c_grow_d5877_7 ⟨Nat.le_of_ble_eq_true rfl, Nat.le_of_ble_eq_true rfl⟩ (fun u2 H locs k3 h => ?_)
  obtain ⟨n4, rfl⟩ : ∃ z, z = u2 := ⟨_, rfl⟩
  have h : rH D E cy X [(a, .inr (1, [.int mo, .ref n4, .int 3])), rAr cy n4 4 (va_cpy f (fun _ => none) 0 0 3)] A s H _ := h
  exact r_retr S h (Or.inr ⟨_, rfl⟩) n4 rfl trivial hr hlocks rfl ⟨Nat.le_of_ble_eq_true rfl, Nat.le_of_ble_eq_true rfl⟩ dJx4a65c_grow_d5877_10
set_option maxHeartbeats 4000000 in
set_option maxRecDepth 100000 in
/-- add at 3 -/
theorem k_add3G3 (l : Launch) (D : va_G) (E : rEn) (cy : rC) (X : va_W) (A : Nat → Prop) (a v d : Nat) (mo : Int32) (f : Nat → Option Nat) (C : String) (hv : rEl E X C v) (hca : ∀ U : State, rS E U → va_Nw (.castable C "java/lang/Object") U) (hf : rCa E f) : rMv l yJx4a65c_add_72be8 wsJx4a65c_add_72be8 { frames := 5, cells := 1, slots := 4, locals := 147 } D E cy X [(a, .inr (1, [.int mo, .ref d, .int 3])), rAr cy d 3 f] A [.ref a, .ref v, .ref d, .int 3] (fun (q : Nat) => [(a, .inr (1, [.int mo, .ref q, .int 4])), rAr cy q 4 (va_up (va_cpy f (fun _ => none) 0 0 3) 3 (some v))]) (fun _ => True) 1 4 := by
  refine r_entry (cc := cJx4a65c_add_72be8) (maxL := 4) (ret := none) (by decide +kernel) rfl (Nat.le_of_ble_eq_true rfl) ?_
  intro p e s m args below meth c ls B
  obtain ⟨S, hr, hlocks, hmi, h, hl⟩ := B
  have hx := S.1
  have hb := S.2.1
  have hts := S.2.2.2.2
  have inJx4a65c : ∀ w ∈ wsJx4a65c0, w ∈ wsJx4a65c_add_72be8 := by decide +kernel
  have hl : lv_has ls 4 [(0, .ref a), (1, .ref v), (2, .ref d), (3, .int 3)] := hl
  refine lv_iload_n hx hb dJx4a65c_add_72be8_0 rfl (lv_at hl 3 rfl) ?_
  refine lv_aload_n hx hb dJx4a65c_add_72be8_1 rfl (lv_at hl 2 rfl) ?_
  refine r_alenq S h (v := Int32.ofNat 3) 1 rfl rfl dJx4a65c_add_72be8_2 ?_
  refine lv_topi (fun x1 ex1 => ?_)
  obtain rfl : x1 = 3 := by rw [ex1]; rfl
  refine lv_icmp_ne (tgt := 11) hx hb dJx4a65c_add_72be8_3 (by decide) (fun c2 => absurd (by decide) c2) (fun c2 => ?_)
  refine lv_aload_n hx hb dJx4a65c_add_72be8_6 rfl (lv_at hl 0 rfl) ?_
  refine r_callr S h (k_growG3 l D E cy _ A a d mo f hf) (cwV 0 hts gJx4a65c_add_72be8_Jx4a65c_grow_d5877 rfl rfl rfl (by decide +kernel) ⟨Nat.le_of_ble_eq_true rfl, Nat.le_of_ble_eq_true rfl⟩) (r_preV h [] [0, 1] (wr := []) (wc := [(a, .inr (1, [.int mo, .ref d, .int 3])), rAr cy d 3 f]) rfl rfl rfl 0 rfl rfl _) rfl hl.1 rfl (Nat.le_of_ble_eq_true rfl) dJx4a65c_add_72be8_7 ⟨Nat.le_of_ble_eq_true rfl, Nat.le_of_ble_eq_true rfl⟩ (fun u3 H locs k4 h => ?_)
  obtain ⟨n5, rfl⟩ : ∃ z, z = u3 := ⟨_, rfl⟩
  have h : rH D E cy X [(a, .inr (1, [.int mo, .ref n5, .int 3])), rAr cy n5 4 (va_cpy f (fun _ => none) 0 0 3)] A s H _ := h
  refine lv_astore_n (lv' := [(2, .ref n5), (0, .ref a), (1, .ref v), (3, .int 3)]) hx hb dJx4a65c_add_72be8_10 rfl hl (by decide) rfl (fun ls hl => ?_)
  refine lv_aload_n hx hb dJx4a65c_add_72be8_11 rfl (lv_at hl 0 rfl) ?_
  refine lv_iload_n hx hb dJx4a65c_add_72be8_12 rfl (lv_at hl 3 rfl) ?_
  refine lv_aload_n hx hb dJx4a65c_add_72be8_13 rfl (lv_at hl 2 rfl) ?_
  refine r_aast S h 1 rfl hv (hca s h.2.2.2.1.2) (by unfold vp_in; decide) dJx4a65c_add_72be8_14 (fun H locs h => ?_)
  have h : rH D E cy X [(a, .inr (1, [.int mo, .ref n5, .int 3])), rAr cy n5 4 (va_up (va_cpy f (fun _ => none) 0 0 3) 3 (some v))] A s H _ := h
  refine lv_aload_n hx hb dJx4a65c_add_72be8_15 rfl (lv_at hl 1 rfl) ?_
  refine lv_iload_n hx hb dJx4a65c_add_72be8_16 rfl (lv_at hl 3 rfl) ?_
  refine lv_iconst (v := 1) hx hb dJx4a65c_add_72be8_17 (by decide) ?_
  refine lv_iadd hx hb dJx4a65c_add_72be8_18 ?_
  refine lv_topi (fun x6 ex6 => ?_)
  obtain rfl : x6 = 4 := by rw [ex6]; decide
  refine r_put S h 0 tyJx4a65c tyJx4a65c_ok nmJx4a65c inJx4a65c (ref := "java/util/ArrayList") rfl rfl (k := 2) (by decide) (by decide +kernel) (fun _ h9 => h9) rfl rfl rfl rfl (Nat.le_of_ble_eq_true rfl) dJx4a65c_add_72be8_19 (fun H locs h => ?_)
  have h : rH D E cy X [(a, .inr (1, [.int mo, .ref n5, .int 4])), rAr cy n5 4 (va_up (va_cpy f (fun _ => none) 0 0 3) 3 (some v))] A s H _ := h
  exact r_retv S h n5 rfl trivial hr hlocks ⟨Nat.le_of_ble_eq_true rfl, Nat.le_of_ble_eq_true rfl⟩ dJx4a65c_add_72be8_22
set_option maxHeartbeats 4000000 in
set_option maxRecDepth 100000 in
/-- add at 3 -/
theorem k_addG3 (l : Launch) (D : va_G) (E : rEn) (cy : rC) (X : va_W) (A : Nat → Prop) (a v d : Nat) (f : Nat → Option Nat) (C : String) (hv : rEl E X C v) (hca : ∀ U : State, rS E U → va_Nw (.castable C "java/lang/Object") U) (hf : rCa E f) : rMi l yJx4a65c_add_9ea2d wsJx4a65c_add_9ea2d { frames := 6, cells := 1, slots := 4, locals := 170 } D E cy X [(a, .inr (1, [.int 3, .ref d, .int 3])), rAr cy d 3 f] A [.ref a, .ref v] 1 (fun (q : Nat) => [(a, .inr (1, [.int 4, .ref q, .int 4])), rAr cy q 4 (va_up (va_cpy f (fun _ => none) 0 0 3) 3 (some v))]) (fun _ => True) 1 4 := by
  refine r_entry (cc := cJx4a65c_add_9ea2d) (maxL := 2) (ret := (some .boolean)) (by decide +kernel) rfl (Nat.le_of_ble_eq_true rfl) ?_
  intro p e s m args below meth c ls B
  obtain ⟨S, hr, hlocks, hmi, h, hl⟩ := B
  have hx := S.1
  have hb := S.2.1
  have hts := S.2.2.2.2
  have inJx4a65c : ∀ w ∈ wsJx4a65c0, w ∈ wsJx4a65c_add_9ea2d := by decide +kernel
  have hl : lv_has ls 2 [(0, .ref a), (1, .ref v)] := hl
  refine lv_aload_n hx hb dJx4a65c_add_9ea2d_0 rfl (lv_at hl 0 rfl) ?_
  refine lv_dup hx hb dJx4a65c_add_9ea2d_1 rfl ?_
  refine r_get S h 0 inJx4a65c (ref := "java/util/ArrayList") rfl rfl (k := 0) (by decide) (by decide +kernel) (fun x9 h9 => u_same (hts (.sameField "java/util/ArrayList" "java/util/AbstractList" "modCount" "I") (by decide +kernel)) x9 h9) rfl dJx4a65c_add_9ea2d_2 ?_
  refine lv_iconst (v := 1) hx hb dJx4a65c_add_9ea2d_5 (by decide) ?_
  refine lv_iadd hx hb dJx4a65c_add_9ea2d_6 ?_
  refine lv_topi (fun x1 ex1 => ?_)
  obtain rfl : x1 = 4 := by rw [ex1]; decide
  refine r_put S h 0 tyJx4a65c tyJx4a65c_ok nmJx4a65c inJx4a65c (ref := "java/util/ArrayList") rfl rfl (k := 0) (by decide) (by decide +kernel) (fun x9 h9 => u_same (hts (.sameField "java/util/ArrayList" "java/util/AbstractList" "modCount" "I") (by decide +kernel)) x9 h9) rfl rfl rfl rfl (Nat.le_of_ble_eq_true rfl) dJx4a65c_add_9ea2d_7 (fun H locs h => ?_)
  have h : rH D E cy X [(a, .inr (1, [.int 4, .ref d, .int 3])), rAr cy d 3 f] A s H _ := h
  refine lv_aload_n hx hb dJx4a65c_add_9ea2d_10 rfl (lv_at hl 0 rfl) ?_
  refine lv_aload_n hx hb dJx4a65c_add_9ea2d_11 rfl (lv_at hl 1 rfl) ?_
  refine lv_aload_n hx hb dJx4a65c_add_9ea2d_12 rfl (lv_at hl 0 rfl) ?_
  refine r_get S h 0 inJx4a65c (ref := "java/util/ArrayList") rfl rfl (k := 1) (by decide) (by decide +kernel) (fun _ h9 => h9) rfl dJx4a65c_add_9ea2d_13 ?_
  refine lv_aload_n hx hb dJx4a65c_add_9ea2d_16 rfl (lv_at hl 0 rfl) ?_
  refine r_get S h 0 inJx4a65c (ref := "java/util/ArrayList") rfl rfl (k := 2) (by decide) (by decide +kernel) (fun _ h9 => h9) rfl dJx4a65c_add_9ea2d_17 ?_
  refine r_callv S h (k_add3G3 l D E cy _ A a v d 4 f C hv.app hca hf) (cwV 3 hts gJx4a65c_add_9ea2d_Jx4a65c_add_72be8 rfl rfl rfl (by decide +kernel) ⟨Nat.le_of_ble_eq_true rfl, Nat.le_of_ble_eq_true rfl⟩) (r_preV h [] [0, 1] (wr := []) (wc := [(a, .inr (1, [.int 4, .ref d, .int 3])), rAr cy d 3 f]) rfl rfl rfl 0 rfl rfl _) rfl hl.1 rfl (Nat.le_of_ble_eq_true rfl) dJx4a65c_add_9ea2d_20 ⟨Nat.le_of_ble_eq_true rfl, Nat.le_of_ble_eq_true rfl⟩ (fun u2 H locs k3 h => ?_)
  obtain ⟨n4, rfl⟩ : ∃ z, z = u2 := ⟨_, rfl⟩
  have h : rH D E cy X [(a, .inr (1, [.int 4, .ref n4, .int 4])), rAr cy n4 4 (va_up (va_cpy f (fun _ => none) 0 0 3) 3 (some v))] A s H _ := h
  refine lv_iconst (v := 1) hx hb dJx4a65c_add_9ea2d_23 (by decide) ?_
  exact r_reti S h n4 rfl trivial hr hlocks rfl (rfl) ⟨Nat.le_of_ble_eq_true rfl, Nat.le_of_ble_eq_true rfl⟩ dJx4a65c_add_9ea2d_24
set_option maxHeartbeats 4000000 in
set_option maxRecDepth 100000 in
/-- copyOf, 4 to 6 -/
theorem k_copyC4 (l : Launch) (D : va_G) (E : rEn) (cy : rC) (X : va_W) (A : Nat → Prop) (d : Nat) (f : Nat → Option Nat) (hf : rCa E f) : rMr l yJ7_copyOf_6403c wsJ7_copyOf_6403c { frames := 1, cells := 1, slots := 6, locals := 60 } D E cy X [rAr cy d 4 f] A [.ref d, .int 6, .ref E.2.2.2.2] (fun (q : Nat) => q) (fun (q : Nat) => [rAr cy d 4 f, rAr cy q 6 (va_cpy f (fun _ => none) 0 0 4)]) (fun _ => True) 1 6 := by
  refine r_entry (cc := cJ7_copyOf_6403c) (maxL := 4) (ret := (some (.array (.object "java/lang/Object")))) (by decide +kernel) rfl (Nat.le_of_ble_eq_true rfl) ?_
  intro p e s m args below meth c ls B
  obtain ⟨S, hr, hlocks, hmi, h, hl⟩ := B
  have hx := S.1
  have hb := S.2.1
  have hts := S.2.2.2.2
  have hl : lv_has ls 4 [(0, .ref d), (1, .int 6), (2, .ref E.2.2.2.2)] := hl
  refine lv_aload_n hx hb dJ7_copyOf_6403c_0 rfl (lv_at hl 2 rfl) ?_
  refine r_ldcM S h (by decide +kernel) dJ7_copyOf_6403c_1 ?_
  refine lv_acmp_ne (rx := some E.2.2.2.2) (ry := some E.2.2.2.2) (tgt := 13) hx hb dJ7_copyOf_6403c_3 (by decide) (fun c1 => absurd rfl c1) (fun c1 => ?_)
  refine lv_iload_n hx hb dJ7_copyOf_6403c_6 rfl (lv_at hl 1 rfl) ?_
  refine r_newq S h (N := 6) (by decide +kernel) (by decide) rfl (by decide) (Nat.le_of_ble_eq_true rfl) (Nat.le_of_ble_eq_true rfl) dJ7_copyOf_6403c_7 (fun n2 H h => ?_)
  have h : rH D E cy X [rAr cy d 4 f, rAr cy n2 6 (fun _ => none)] A s H _ := h
  refine lv_goto (tgt := 24) hx hb dJ7_copyOf_6403c_10 (by decide) ?_
  refine lv_astore_n (lv' := [(3, .ref n2), (0, .ref d), (1, .int 6), (2, .ref E.2.2.2.2)]) hx hb dJ7_copyOf_6403c_24 rfl hl (by decide) rfl (fun ls hl => ?_)
  refine lv_aload_n hx hb dJ7_copyOf_6403c_25 rfl (lv_at hl 1 rfl) ?_
  refine lv_iconst (v := 0) hx hb dJ7_copyOf_6403c_26 (by decide) ?_
  refine lv_aload_n hx hb dJ7_copyOf_6403c_27 rfl (lv_at hl 0 rfl) ?_
  refine lv_iconst (v := 0) hx hb dJ7_copyOf_6403c_28 (by decide) ?_
  refine lv_aload_n hx hb dJ7_copyOf_6403c_29 rfl (lv_at hl 1 rfl) ?_
  refine r_alenq S h (v := Int32.ofNat 4) 0 rfl rfl dJ7_copyOf_6403c_30 ?_
  refine lv_topi (fun x3 ex3 => ?_)
  obtain rfl : x3 = 4 := by rw [ex3]; rfl
  refine lv_iload_n hx hb dJ7_copyOf_6403c_31 rfl (lv_at hl 2 rfl) ?_
  refine va_mmin hx hb (S.2.2.1.trans hl.1.symm) S.2.2.2.1 (hts (.methodLink RJ7 304 Lib.Math.min.name) (by decide +kernel)) (hts (.static Lib.Math.min.name) (by decide +kernel)) (hts (.initialized "java/lang/Math") (by decide +kernel)) (hts (.code Lib.Math.min.name Lib.Math.min.code 2 (some .int)) (by decide +kernel)) (Nat.le_of_ble_eq_true rfl) (Nat.le_of_ble_eq_true rfl) (Nat.le_of_ble_eq_true rfl) (Nat.le_of_ble_eq_true rfl) dJ7_copyOf_6403c_32 ?_
  refine lv_topi (fun x4 ex4 => ?_)
  obtain rfl : x4 = 4 := by rw [ex4]; decide
  refine r_copyq S h hl.1 0 1 rfl rfl (N := 4) (by decide) rfl (by decide) (by decide) hf (by decide +kernel) (by decide +kernel) (by decide +kernel) (by decide +kernel) (Nat.le_of_ble_eq_true rfl) (by decide) dJ7_copyOf_6403c_35 (fun H locs h => ?_)
  have h : rH D E cy X [rAr cy d 4 f, rAr cy n2 6 (va_cpy f (fun _ => none) 0 0 4)] A s H _ := h
  refine lv_aload_n hx hb dJ7_copyOf_6403c_38 rfl (lv_at hl 0 rfl) ?_
  exact r_retr S h (Or.inr ⟨_, rfl⟩) n2 rfl trivial hr hlocks rfl ⟨Nat.le_of_ble_eq_true rfl, Nat.le_of_ble_eq_true rfl⟩ dJ7_copyOf_6403c_39
set_option maxHeartbeats 4000000 in
set_option maxRecDepth 100000 in
/-- copyOf, 4 to 6 -/
theorem k_copyB4 (l : Launch) (D : va_G) (E : rEn) (cy : rC) (X : va_W) (A : Nat → Prop) (d : Nat) (f : Nat → Option Nat) (hf : rCa E f) : rMr l yJ7_copyOf_1904c wsJ7_copyOf_1904c { frames := 2, cells := 1, slots := 6, locals := 83 } D E cy X [rAr cy d 4 f] A [.ref d, .int 6] (fun (q : Nat) => q) (fun (q : Nat) => [rAr cy d 4 f, rAr cy q 6 (va_cpy f (fun _ => none) 0 0 4)]) (fun _ => True) 1 6 := by
  refine r_entry (cc := cJ7_copyOf_1904c) (maxL := 2) (ret := (some (.array (.object "java/lang/Object")))) (by decide +kernel) rfl (Nat.le_of_ble_eq_true rfl) ?_
  intro p e s m args below meth c ls B
  obtain ⟨S, hr, hlocks, hmi, h, hl⟩ := B
  have hx := S.1
  have hb := S.2.1
  have hts := S.2.2.2.2
  have hl : lv_has ls 2 [(0, .ref d), (1, .int 6)] := hl
  refine lv_aload_n hx hb dJ7_copyOf_1904c_0 rfl (lv_at hl 0 rfl) ?_
  refine lv_iload_n hx hb dJ7_copyOf_1904c_1 rfl (lv_at hl 1 rfl) ?_
  refine lv_aload_n hx hb dJ7_copyOf_1904c_2 rfl (lv_at hl 0 rfl) ?_
  refine r_gc S h hl.1 (Or.inl ⟨0, _, _, rfl⟩) (by decide +kernel) (by decide +kernel) (by decide +kernel) (by decide +kernel) (Nat.le_of_ble_eq_true rfl) (Nat.le_of_ble_eq_true rfl) dJ7_copyOf_1904c_3 ?_
  refine r_callrS S h (k_copyC4 l D E cy _ A d f hf) (cwS 3 hts gJ7_copyOf_1904c_J7_copyOf_6403c rfl rfl rfl (by decide +kernel) ⟨Nat.le_of_ble_eq_true rfl, Nat.le_of_ble_eq_true rfl⟩) (r_preS h [] [0] (wr := []) (wc := [rAr cy d 4 f]) rfl rfl rfl _) rfl hl.1 rfl (Nat.le_of_ble_eq_true rfl) dJ7_copyOf_1904c_6 ⟨Nat.le_of_ble_eq_true rfl, Nat.le_of_ble_eq_true rfl⟩ (fun u1 H locs k2 h => ?_)
  obtain ⟨n3, rfl⟩ : ∃ z, z = u1 := ⟨_, rfl⟩
  have h : rH D E cy X [rAr cy d 4 f, rAr cy n3 6 (va_cpy f (fun _ => none) 0 0 4)] A s H _ := h
  exact r_retr S h (Or.inr ⟨_, rfl⟩) n3 rfl trivial hr hlocks rfl ⟨Nat.le_of_ble_eq_true rfl, Nat.le_of_ble_eq_true rfl⟩ dJ7_copyOf_1904c_9
set_option maxHeartbeats 4000000 in
set_option maxRecDepth 100000 in
/-- grow of 4 -/
theorem k_grow1G4 (l : Launch) (D : va_G) (E : rEn) (cy : rC) (X : va_W) (A : Nat → Prop) (a d : Nat) (mo : Int32) (f : Nat → Option Nat) (hf : rCa E f) : rMr l yJx4a65c_grow_92f84 wsJx4a65c_grow_92f84 { frames := 3, cells := 1, slots := 6, locals := 104 } D E cy X [(a, .inr (1, [.int mo, .ref d, .int 4])), rAr cy d 4 f] A [.ref a, .int 5] (fun (q : Nat) => q) (fun (q : Nat) => [(a, .inr (1, [.int mo, .ref q, .int 4])), rAr cy q 6 (va_cpy f (fun _ => none) 0 0 4)]) (fun _ => True) 1 6 := by
  refine r_entry (cc := cJx4a65c_grow_92f84) (maxL := 4) (ret := (some (.array (.object "java/lang/Object")))) (by decide +kernel) rfl (Nat.le_of_ble_eq_true rfl) ?_
  intro p e s m args below meth c ls B
  obtain ⟨S, hr, hlocks, hmi, h, hl⟩ := B
  have hx := S.1
  have hb := S.2.1
  have hts := S.2.2.2.2
  have inJx4a65c : ∀ w ∈ wsJx4a65c0, w ∈ wsJx4a65c_grow_92f84 := by decide +kernel
  have hl : lv_has ls 4 [(0, .ref a), (1, .int 5)] := hl
  refine lv_aload_n hx hb dJx4a65c_grow_92f84_0 rfl (lv_at hl 0 rfl) ?_
  refine r_get S h 0 inJx4a65c (ref := "java/util/ArrayList") rfl rfl (k := 1) (by decide) (by decide +kernel) (fun _ h9 => h9) rfl dJx4a65c_grow_92f84_1 ?_
  refine r_alenq S h (v := Int32.ofNat 4) 1 rfl rfl dJx4a65c_grow_92f84_4 ?_
  refine lv_topi (fun x1 ex1 => ?_)
  obtain rfl : x1 = 4 := by rw [ex1]; rfl
  refine lv_istore_n (lv' := [(2, .int 4), (0, .ref a), (1, .int 5)]) hx hb dJx4a65c_grow_92f84_5 rfl hl (by decide) rfl (fun ls hl => ?_)
  refine lv_iload_n hx hb dJx4a65c_grow_92f84_6 rfl (lv_at hl 0 rfl) ?_
  refine lv_if_gt (tgt := 20) hx hb dJx4a65c_grow_92f84_7 (by decide) (fun c2 => ?_) (fun c2 => absurd (by decide) c2)
  refine lv_iload_n hx hb dJx4a65c_grow_92f84_20 rfl (lv_at hl 0 rfl) ?_
  refine lv_iload_n hx hb dJx4a65c_grow_92f84_21 rfl (lv_at hl 2 rfl) ?_
  refine lv_iload_n hx hb dJx4a65c_grow_92f84_22 rfl (lv_at hl 0 rfl) ?_
  refine lv_isub hx hb dJx4a65c_grow_92f84_23 ?_
  refine lv_topi (fun x3 ex3 => ?_)
  obtain rfl : x3 = 1 := by rw [ex3]; decide
  refine lv_iload_n hx hb dJx4a65c_grow_92f84_24 rfl (lv_at hl 0 rfl) ?_
  refine lv_iconst (v := 1) hx hb dJx4a65c_grow_92f84_25 (by decide) ?_
  refine lv_ishr hx hb dJx4a65c_grow_92f84_26 ?_
  refine lv_topi (fun x4 ex4 => ?_)
  obtain rfl : x4 = 2 := by rw [ex4]; decide
  refine r_calliS S h (k_newLen4 l D E cy _ A ) (va_cwS 3 hts gJx4a65c_grow_92f84_J8_newLength_cabcc rfl rfl rfl (by decide +kernel) ⟨Nat.le_of_ble_eq_true rfl, Nat.le_of_ble_eq_true rfl⟩) (r_preS h [0, 1] [] (wr := [(a, .inr (1, [.int mo, .ref d, .int 4])), rAr cy d 4 f]) (wc := []) rfl rfl rfl _) rfl hl.1 rfl (Nat.le_of_ble_eq_true rfl) dJx4a65c_grow_92f84_27 ⟨Nat.le_of_ble_eq_true rfl, Nat.le_of_ble_eq_true rfl⟩ (fun u5 H locs k6 h => ?_)
  have h : rH D E cy X [(a, .inr (1, [.int mo, .ref d, .int 4])), rAr cy d 4 f] A s H _ := h
  refine lv_istore_n (lv' := [(3, .int 6), (2, .int 4), (0, .ref a), (1, .int 5)]) hx hb dJx4a65c_grow_92f84_30 rfl hl (by decide) rfl (fun ls hl => ?_)
  refine lv_aload_n hx hb dJx4a65c_grow_92f84_31 rfl (lv_at hl 2 rfl) ?_
  refine lv_aload_n hx hb dJx4a65c_grow_92f84_32 rfl (lv_at hl 2 rfl) ?_
  refine r_get S h 0 inJx4a65c (ref := "java/util/ArrayList") rfl rfl (k := 1) (by decide) (by decide +kernel) (fun _ h9 => h9) rfl dJx4a65c_grow_92f84_33 ?_
  refine lv_iload_n hx hb dJx4a65c_grow_92f84_36 rfl (lv_at hl 0 rfl) ?_
  refine r_callrS S h (k_copyB4 l D E cy _ A d f hf) (va_cwS 2 hts gJx4a65c_grow_92f84_J7_copyOf_1904c rfl rfl rfl (by decide +kernel) ⟨Nat.le_of_ble_eq_true rfl, Nat.le_of_ble_eq_true rfl⟩) (r_preS h [0] [1] (wr := [(a, .inr (1, [.int mo, .ref d, .int 4]))]) (wc := [rAr cy d 4 f]) rfl rfl rfl _) rfl hl.1 rfl (Nat.le_of_ble_eq_true rfl) dJx4a65c_grow_92f84_37 ⟨Nat.le_of_ble_eq_true rfl, Nat.le_of_ble_eq_true rfl⟩ (fun u7 H locs k8 h => ?_)
  obtain ⟨n9, rfl⟩ : ∃ z, z = u7 := ⟨_, rfl⟩
  have h : rH D E cy X [(a, .inr (1, [.int mo, .ref d, .int 4])), rAr cy d 4 f, rAr cy n9 6 (va_cpy f (fun _ => none) 0 0 4)] A s H _ := h
  refine lv_dup_x1 hx hb dJx4a65c_grow_92f84_40 rfl rfl ?_
  refine r_put S h 0 tyJx4a65c tyJx4a65c_ok nmJx4a65c inJx4a65c (ref := "java/util/ArrayList") rfl rfl (k := 1) (by decide) (by decide +kernel) (fun _ h9 => h9) rfl rfl rfl rfl (Nat.le_of_ble_eq_true rfl) dJx4a65c_grow_92f84_41 (fun H locs h => ?_)
  have h : rH D E cy X [(a, .inr (1, [.int mo, .ref n9, .int 4])), rAr cy d 4 f, rAr cy n9 6 (va_cpy f (fun _ => none) 0 0 4)] A s H _ := h
  have h := h.pick [0, 2] (w := [(a, .inr (1, [.int mo, .ref n9, .int 4])), rAr cy n9 6 (va_cpy f (fun _ => none) 0 0 4)]) rfl rfl
  exact r_retr S h (Or.inr ⟨_, rfl⟩) n9 rfl trivial hr hlocks rfl ⟨Nat.le_of_ble_eq_true rfl, Nat.le_of_ble_eq_true rfl⟩ dJx4a65c_grow_92f84_44
set_option maxHeartbeats 4000000 in
set_option maxRecDepth 100000 in
/-- grow of 4 -/
theorem k_growG4 (l : Launch) (D : va_G) (E : rEn) (cy : rC) (X : va_W) (A : Nat → Prop) (a d : Nat) (mo : Int32) (f : Nat → Option Nat) (hf : rCa E f) : rMr l yJx4a65c_grow_d5877 wsJx4a65c_grow_d5877 { frames := 4, cells := 1, slots := 6, locals := 127 } D E cy X [(a, .inr (1, [.int mo, .ref d, .int 4])), rAr cy d 4 f] A [.ref a] (fun (q : Nat) => q) (fun (q : Nat) => [(a, .inr (1, [.int mo, .ref q, .int 4])), rAr cy q 6 (va_cpy f (fun _ => none) 0 0 4)]) (fun _ => True) 1 6 := by
  refine r_entry (cc := cJx4a65c_grow_d5877) (maxL := 1) (ret := (some (.array (.object "java/lang/Object")))) (by decide +kernel) rfl (Nat.le_of_ble_eq_true rfl) ?_
  intro p e s m args below meth c ls B
  obtain ⟨S, hr, hlocks, hmi, h, hl⟩ := B
  have hx := S.1
  have hb := S.2.1
  have hts := S.2.2.2.2
  have inJx4a65c : ∀ w ∈ wsJx4a65c0, w ∈ wsJx4a65c_grow_d5877 := by decide +kernel
  have hl : lv_has ls 1 [(0, .ref a)] := hl
  refine lv_aload_n hx hb dJx4a65c_grow_d5877_0 rfl (lv_at hl 0 rfl) ?_
  refine lv_aload_n hx hb dJx4a65c_grow_d5877_1 rfl (lv_at hl 0 rfl) ?_
  refine r_get S h 0 inJx4a65c (ref := "java/util/ArrayList") rfl rfl (k := 2) (by decide) (by decide +kernel) (fun _ h9 => h9) rfl dJx4a65c_grow_d5877_2 ?_
  refine lv_iconst (v := 1) hx hb dJx4a65c_grow_d5877_5 (by decide) ?_
  refine lv_iadd hx hb dJx4a65c_grow_d5877_6 ?_
  refine lv_topi (fun x1 ex1 => ?_)
  obtain rfl : x1 = 5 := by rw [ex1]; decide
  refine r_callr S h (k_grow1G4 l D E cy _ A a d mo f hf) (cwV 1 hts gJx4a65c_grow_d5877_Jx4a65c_grow_92f84 rfl rfl rfl (by decide +kernel) ⟨Nat.le_of_ble_eq_true rfl, Nat.le_of_ble_eq_true rfl⟩) (r_preV h [] [0, 1] (wr := []) (wc := [(a, .inr (1, [.int mo, .ref d, .int 4])), rAr cy d 4 f]) rfl rfl rfl 0 rfl rfl _) rfl hl.1 rfl (Nat.le_of_ble_eq_true rfl) dJx4a65c_grow_d5877_7 ⟨Nat.le_of_ble_eq_true rfl, Nat.le_of_ble_eq_true rfl⟩ (fun u2 H locs k3 h => ?_)
  obtain ⟨n4, rfl⟩ : ∃ z, z = u2 := ⟨_, rfl⟩
  have h : rH D E cy X [(a, .inr (1, [.int mo, .ref n4, .int 4])), rAr cy n4 6 (va_cpy f (fun _ => none) 0 0 4)] A s H _ := h
  exact r_retr S h (Or.inr ⟨_, rfl⟩) n4 rfl trivial hr hlocks rfl ⟨Nat.le_of_ble_eq_true rfl, Nat.le_of_ble_eq_true rfl⟩ dJx4a65c_grow_d5877_10
set_option maxHeartbeats 4000000 in
set_option maxRecDepth 100000 in
/-- add at 4 -/
theorem k_add3G4 (l : Launch) (D : va_G) (E : rEn) (cy : rC) (X : va_W) (A : Nat → Prop) (a v d : Nat) (mo : Int32) (f : Nat → Option Nat) (C : String) (hv : rEl E X C v) (hca : ∀ U : State, rS E U → va_Nw (.castable C "java/lang/Object") U) (hf : rCa E f) : rMv l yJx4a65c_add_72be8 wsJx4a65c_add_72be8 { frames := 5, cells := 1, slots := 6, locals := 147 } D E cy X [(a, .inr (1, [.int mo, .ref d, .int 4])), rAr cy d 4 f] A [.ref a, .ref v, .ref d, .int 4] (fun (q : Nat) => [(a, .inr (1, [.int mo, .ref q, .int 5])), rAr cy q 6 (va_up (va_cpy f (fun _ => none) 0 0 4) 4 (some v))]) (fun _ => True) 1 6 := by
  refine r_entry (cc := cJx4a65c_add_72be8) (maxL := 4) (ret := none) (by decide +kernel) rfl (Nat.le_of_ble_eq_true rfl) ?_
  intro p e s m args below meth c ls B
  obtain ⟨S, hr, hlocks, hmi, h, hl⟩ := B
  have hx := S.1
  have hb := S.2.1
  have hts := S.2.2.2.2
  have inJx4a65c : ∀ w ∈ wsJx4a65c0, w ∈ wsJx4a65c_add_72be8 := by decide +kernel
  have hl : lv_has ls 4 [(0, .ref a), (1, .ref v), (2, .ref d), (3, .int 4)] := hl
  refine lv_iload_n hx hb dJx4a65c_add_72be8_0 rfl (lv_at hl 3 rfl) ?_
  refine lv_aload_n hx hb dJx4a65c_add_72be8_1 rfl (lv_at hl 2 rfl) ?_
  refine r_alenq S h (v := Int32.ofNat 4) 1 rfl rfl dJx4a65c_add_72be8_2 ?_
  refine lv_topi (fun x1 ex1 => ?_)
  obtain rfl : x1 = 4 := by rw [ex1]; rfl
  refine lv_icmp_ne (tgt := 11) hx hb dJx4a65c_add_72be8_3 (by decide) (fun c2 => absurd (by decide) c2) (fun c2 => ?_)
  refine lv_aload_n hx hb dJx4a65c_add_72be8_6 rfl (lv_at hl 0 rfl) ?_
  refine r_callr S h (k_growG4 l D E cy _ A a d mo f hf) (cwV 0 hts gJx4a65c_add_72be8_Jx4a65c_grow_d5877 rfl rfl rfl (by decide +kernel) ⟨Nat.le_of_ble_eq_true rfl, Nat.le_of_ble_eq_true rfl⟩) (r_preV h [] [0, 1] (wr := []) (wc := [(a, .inr (1, [.int mo, .ref d, .int 4])), rAr cy d 4 f]) rfl rfl rfl 0 rfl rfl _) rfl hl.1 rfl (Nat.le_of_ble_eq_true rfl) dJx4a65c_add_72be8_7 ⟨Nat.le_of_ble_eq_true rfl, Nat.le_of_ble_eq_true rfl⟩ (fun u3 H locs k4 h => ?_)
  obtain ⟨n5, rfl⟩ : ∃ z, z = u3 := ⟨_, rfl⟩
  have h : rH D E cy X [(a, .inr (1, [.int mo, .ref n5, .int 4])), rAr cy n5 6 (va_cpy f (fun _ => none) 0 0 4)] A s H _ := h
  refine lv_astore_n (lv' := [(2, .ref n5), (0, .ref a), (1, .ref v), (3, .int 4)]) hx hb dJx4a65c_add_72be8_10 rfl hl (by decide) rfl (fun ls hl => ?_)
  refine lv_aload_n hx hb dJx4a65c_add_72be8_11 rfl (lv_at hl 0 rfl) ?_
  refine lv_iload_n hx hb dJx4a65c_add_72be8_12 rfl (lv_at hl 3 rfl) ?_
  refine lv_aload_n hx hb dJx4a65c_add_72be8_13 rfl (lv_at hl 2 rfl) ?_
  refine r_aast S h 1 rfl hv (hca s h.2.2.2.1.2) (by unfold vp_in; decide) dJx4a65c_add_72be8_14 (fun H locs h => ?_)
  have h : rH D E cy X [(a, .inr (1, [.int mo, .ref n5, .int 4])), rAr cy n5 6 (va_up (va_cpy f (fun _ => none) 0 0 4) 4 (some v))] A s H _ := h
  refine lv_aload_n hx hb dJx4a65c_add_72be8_15 rfl (lv_at hl 1 rfl) ?_
  refine lv_iload_n hx hb dJx4a65c_add_72be8_16 rfl (lv_at hl 3 rfl) ?_
  refine lv_iconst (v := 1) hx hb dJx4a65c_add_72be8_17 (by decide) ?_
  refine lv_iadd hx hb dJx4a65c_add_72be8_18 ?_
  refine lv_topi (fun x6 ex6 => ?_)
  obtain rfl : x6 = 5 := by rw [ex6]; decide
  refine r_put S h 0 tyJx4a65c tyJx4a65c_ok nmJx4a65c inJx4a65c (ref := "java/util/ArrayList") rfl rfl (k := 2) (by decide) (by decide +kernel) (fun _ h9 => h9) rfl rfl rfl rfl (Nat.le_of_ble_eq_true rfl) dJx4a65c_add_72be8_19 (fun H locs h => ?_)
  have h : rH D E cy X [(a, .inr (1, [.int mo, .ref n5, .int 5])), rAr cy n5 6 (va_up (va_cpy f (fun _ => none) 0 0 4) 4 (some v))] A s H _ := h
  exact r_retv S h n5 rfl trivial hr hlocks ⟨Nat.le_of_ble_eq_true rfl, Nat.le_of_ble_eq_true rfl⟩ dJx4a65c_add_72be8_22
set_option maxHeartbeats 4000000 in
set_option maxRecDepth 100000 in
/-- add at 4 -/
theorem k_addG4 (l : Launch) (D : va_G) (E : rEn) (cy : rC) (X : va_W) (A : Nat → Prop) (a v d : Nat) (f : Nat → Option Nat) (C : String) (hv : rEl E X C v) (hca : ∀ U : State, rS E U → va_Nw (.castable C "java/lang/Object") U) (hf : rCa E f) : rMi l yJx4a65c_add_9ea2d wsJx4a65c_add_9ea2d { frames := 6, cells := 1, slots := 6, locals := 170 } D E cy X [(a, .inr (1, [.int 4, .ref d, .int 4])), rAr cy d 4 f] A [.ref a, .ref v] 1 (fun (q : Nat) => [(a, .inr (1, [.int 5, .ref q, .int 5])), rAr cy q 6 (va_up (va_cpy f (fun _ => none) 0 0 4) 4 (some v))]) (fun _ => True) 1 6 := by
  refine r_entry (cc := cJx4a65c_add_9ea2d) (maxL := 2) (ret := (some .boolean)) (by decide +kernel) rfl (Nat.le_of_ble_eq_true rfl) ?_
  intro p e s m args below meth c ls B
  obtain ⟨S, hr, hlocks, hmi, h, hl⟩ := B
  have hx := S.1
  have hb := S.2.1
  have hts := S.2.2.2.2
  have inJx4a65c : ∀ w ∈ wsJx4a65c0, w ∈ wsJx4a65c_add_9ea2d := by decide +kernel
  have hl : lv_has ls 2 [(0, .ref a), (1, .ref v)] := hl
  refine lv_aload_n hx hb dJx4a65c_add_9ea2d_0 rfl (lv_at hl 0 rfl) ?_
  refine lv_dup hx hb dJx4a65c_add_9ea2d_1 rfl ?_
  refine r_get S h 0 inJx4a65c (ref := "java/util/ArrayList") rfl rfl (k := 0) (by decide) (by decide +kernel) (fun x9 h9 => u_same (hts (.sameField "java/util/ArrayList" "java/util/AbstractList" "modCount" "I") (by decide +kernel)) x9 h9) rfl dJx4a65c_add_9ea2d_2 ?_
  refine lv_iconst (v := 1) hx hb dJx4a65c_add_9ea2d_5 (by decide) ?_
  refine lv_iadd hx hb dJx4a65c_add_9ea2d_6 ?_
  refine lv_topi (fun x1 ex1 => ?_)
  obtain rfl : x1 = 5 := by rw [ex1]; decide
  refine r_put S h 0 tyJx4a65c tyJx4a65c_ok nmJx4a65c inJx4a65c (ref := "java/util/ArrayList") rfl rfl (k := 0) (by decide) (by decide +kernel) (fun x9 h9 => u_same (hts (.sameField "java/util/ArrayList" "java/util/AbstractList" "modCount" "I") (by decide +kernel)) x9 h9) rfl rfl rfl rfl (Nat.le_of_ble_eq_true rfl) dJx4a65c_add_9ea2d_7 (fun H locs h => ?_)
  have h : rH D E cy X [(a, .inr (1, [.int 5, .ref d, .int 4])), rAr cy d 4 f] A s H _ := h
  refine lv_aload_n hx hb dJx4a65c_add_9ea2d_10 rfl (lv_at hl 0 rfl) ?_
  refine lv_aload_n hx hb dJx4a65c_add_9ea2d_11 rfl (lv_at hl 1 rfl) ?_
  refine lv_aload_n hx hb dJx4a65c_add_9ea2d_12 rfl (lv_at hl 0 rfl) ?_
  refine r_get S h 0 inJx4a65c (ref := "java/util/ArrayList") rfl rfl (k := 1) (by decide) (by decide +kernel) (fun _ h9 => h9) rfl dJx4a65c_add_9ea2d_13 ?_
  refine lv_aload_n hx hb dJx4a65c_add_9ea2d_16 rfl (lv_at hl 0 rfl) ?_
  refine r_get S h 0 inJx4a65c (ref := "java/util/ArrayList") rfl rfl (k := 2) (by decide) (by decide +kernel) (fun _ h9 => h9) rfl dJx4a65c_add_9ea2d_17 ?_
  refine r_callv S h (k_add3G4 l D E cy _ A a v d 5 f C hv.app hca hf) (cwV 3 hts gJx4a65c_add_9ea2d_Jx4a65c_add_72be8 rfl rfl rfl (by decide +kernel) ⟨Nat.le_of_ble_eq_true rfl, Nat.le_of_ble_eq_true rfl⟩) (r_preV h [] [0, 1] (wr := []) (wc := [(a, .inr (1, [.int 5, .ref d, .int 4])), rAr cy d 4 f]) rfl rfl rfl 0 rfl rfl _) rfl hl.1 rfl (Nat.le_of_ble_eq_true rfl) dJx4a65c_add_9ea2d_20 ⟨Nat.le_of_ble_eq_true rfl, Nat.le_of_ble_eq_true rfl⟩ (fun u2 H locs k3 h => ?_)
  obtain ⟨n4, rfl⟩ : ∃ z, z = u2 := ⟨_, rfl⟩
  have h : rH D E cy X [(a, .inr (1, [.int 5, .ref n4, .int 5])), rAr cy n4 6 (va_up (va_cpy f (fun _ => none) 0 0 4) 4 (some v))] A s H _ := h
  refine lv_iconst (v := 1) hx hb dJx4a65c_add_9ea2d_23 (by decide) ?_
  exact r_reti S h n4 rfl trivial hr hlocks rfl (rfl) ⟨Nat.le_of_ble_eq_true rfl, Nat.le_of_ble_eq_true rfl⟩ dJx4a65c_add_9ea2d_24
set_option maxHeartbeats 4000000 in
set_option maxRecDepth 100000 in
/-- copyOf, 6 to 9 -/
theorem k_copyC6 (l : Launch) (D : va_G) (E : rEn) (cy : rC) (X : va_W) (A : Nat → Prop) (d : Nat) (f : Nat → Option Nat) (hf : rCa E f) : rMr l yJ7_copyOf_6403c wsJ7_copyOf_6403c { frames := 1, cells := 1, slots := 9, locals := 60 } D E cy X [rAr cy d 6 f] A [.ref d, .int 9, .ref E.2.2.2.2] (fun (q : Nat) => q) (fun (q : Nat) => [rAr cy d 6 f, rAr cy q 9 (va_cpy f (fun _ => none) 0 0 6)]) (fun _ => True) 1 9 := by
  refine r_entry (cc := cJ7_copyOf_6403c) (maxL := 4) (ret := (some (.array (.object "java/lang/Object")))) (by decide +kernel) rfl (Nat.le_of_ble_eq_true rfl) ?_
  intro p e s m args below meth c ls B
  obtain ⟨S, hr, hlocks, hmi, h, hl⟩ := B
  have hx := S.1
  have hb := S.2.1
  have hts := S.2.2.2.2
  have hl : lv_has ls 4 [(0, .ref d), (1, .int 9), (2, .ref E.2.2.2.2)] := hl
  refine lv_aload_n hx hb dJ7_copyOf_6403c_0 rfl (lv_at hl 2 rfl) ?_
  refine r_ldcM S h (by decide +kernel) dJ7_copyOf_6403c_1 ?_
  refine lv_acmp_ne (rx := some E.2.2.2.2) (ry := some E.2.2.2.2) (tgt := 13) hx hb dJ7_copyOf_6403c_3 (by decide) (fun c1 => absurd rfl c1) (fun c1 => ?_)
  refine lv_iload_n hx hb dJ7_copyOf_6403c_6 rfl (lv_at hl 1 rfl) ?_
  refine r_newq S h (N := 9) (by decide +kernel) (by decide) rfl (by decide) (Nat.le_of_ble_eq_true rfl) (Nat.le_of_ble_eq_true rfl) dJ7_copyOf_6403c_7 (fun n2 H h => ?_)
  have h : rH D E cy X [rAr cy d 6 f, rAr cy n2 9 (fun _ => none)] A s H _ := h
  refine lv_goto (tgt := 24) hx hb dJ7_copyOf_6403c_10 (by decide) ?_
  refine lv_astore_n (lv' := [(3, .ref n2), (0, .ref d), (1, .int 9), (2, .ref E.2.2.2.2)]) hx hb dJ7_copyOf_6403c_24 rfl hl (by decide) rfl (fun ls hl => ?_)
  refine lv_aload_n hx hb dJ7_copyOf_6403c_25 rfl (lv_at hl 1 rfl) ?_
  refine lv_iconst (v := 0) hx hb dJ7_copyOf_6403c_26 (by decide) ?_
  refine lv_aload_n hx hb dJ7_copyOf_6403c_27 rfl (lv_at hl 0 rfl) ?_
  refine lv_iconst (v := 0) hx hb dJ7_copyOf_6403c_28 (by decide) ?_
  refine lv_aload_n hx hb dJ7_copyOf_6403c_29 rfl (lv_at hl 1 rfl) ?_
  refine r_alenq S h (v := Int32.ofNat 6) 0 rfl rfl dJ7_copyOf_6403c_30 ?_
  refine lv_topi (fun x3 ex3 => ?_)
  obtain rfl : x3 = 6 := by rw [ex3]; rfl
  refine lv_iload_n hx hb dJ7_copyOf_6403c_31 rfl (lv_at hl 2 rfl) ?_
  refine va_mmin hx hb (S.2.2.1.trans hl.1.symm) S.2.2.2.1 (hts (.methodLink RJ7 304 Lib.Math.min.name) (by decide +kernel)) (hts (.static Lib.Math.min.name) (by decide +kernel)) (hts (.initialized "java/lang/Math") (by decide +kernel)) (hts (.code Lib.Math.min.name Lib.Math.min.code 2 (some .int)) (by decide +kernel)) (Nat.le_of_ble_eq_true rfl) (Nat.le_of_ble_eq_true rfl) (Nat.le_of_ble_eq_true rfl) (Nat.le_of_ble_eq_true rfl) dJ7_copyOf_6403c_32 ?_
  refine lv_topi (fun x4 ex4 => ?_)
  obtain rfl : x4 = 6 := by rw [ex4]; decide
  refine r_copyq S h hl.1 0 1 rfl rfl (N := 6) (by decide) rfl (by decide) (by decide) hf (by decide +kernel) (by decide +kernel) (by decide +kernel) (by decide +kernel) (Nat.le_of_ble_eq_true rfl) (by decide) dJ7_copyOf_6403c_35 (fun H locs h => ?_)
  have h : rH D E cy X [rAr cy d 6 f, rAr cy n2 9 (va_cpy f (fun _ => none) 0 0 6)] A s H _ := h
  refine lv_aload_n hx hb dJ7_copyOf_6403c_38 rfl (lv_at hl 0 rfl) ?_
  exact r_retr S h (Or.inr ⟨_, rfl⟩) n2 rfl trivial hr hlocks rfl ⟨Nat.le_of_ble_eq_true rfl, Nat.le_of_ble_eq_true rfl⟩ dJ7_copyOf_6403c_39
set_option maxHeartbeats 4000000 in
set_option maxRecDepth 100000 in
/-- copyOf, 6 to 9 -/
theorem k_copyB6 (l : Launch) (D : va_G) (E : rEn) (cy : rC) (X : va_W) (A : Nat → Prop) (d : Nat) (f : Nat → Option Nat) (hf : rCa E f) : rMr l yJ7_copyOf_1904c wsJ7_copyOf_1904c { frames := 2, cells := 1, slots := 9, locals := 83 } D E cy X [rAr cy d 6 f] A [.ref d, .int 9] (fun (q : Nat) => q) (fun (q : Nat) => [rAr cy d 6 f, rAr cy q 9 (va_cpy f (fun _ => none) 0 0 6)]) (fun _ => True) 1 9 := by
  refine r_entry (cc := cJ7_copyOf_1904c) (maxL := 2) (ret := (some (.array (.object "java/lang/Object")))) (by decide +kernel) rfl (Nat.le_of_ble_eq_true rfl) ?_
  intro p e s m args below meth c ls B
  obtain ⟨S, hr, hlocks, hmi, h, hl⟩ := B
  have hx := S.1
  have hb := S.2.1
  have hts := S.2.2.2.2
  have hl : lv_has ls 2 [(0, .ref d), (1, .int 9)] := hl
  refine lv_aload_n hx hb dJ7_copyOf_1904c_0 rfl (lv_at hl 0 rfl) ?_
  refine lv_iload_n hx hb dJ7_copyOf_1904c_1 rfl (lv_at hl 1 rfl) ?_
  refine lv_aload_n hx hb dJ7_copyOf_1904c_2 rfl (lv_at hl 0 rfl) ?_
  refine r_gc S h hl.1 (Or.inl ⟨0, _, _, rfl⟩) (by decide +kernel) (by decide +kernel) (by decide +kernel) (by decide +kernel) (Nat.le_of_ble_eq_true rfl) (Nat.le_of_ble_eq_true rfl) dJ7_copyOf_1904c_3 ?_
  refine r_callrS S h (k_copyC6 l D E cy _ A d f hf) (cwS 3 hts gJ7_copyOf_1904c_J7_copyOf_6403c rfl rfl rfl (by decide +kernel) ⟨Nat.le_of_ble_eq_true rfl, Nat.le_of_ble_eq_true rfl⟩) (r_preS h [] [0] (wr := []) (wc := [rAr cy d 6 f]) rfl rfl rfl _) rfl hl.1 rfl (Nat.le_of_ble_eq_true rfl) dJ7_copyOf_1904c_6 ⟨Nat.le_of_ble_eq_true rfl, Nat.le_of_ble_eq_true rfl⟩ (fun u1 H locs k2 h => ?_)
  obtain ⟨n3, rfl⟩ : ∃ z, z = u1 := ⟨_, rfl⟩
  have h : rH D E cy X [rAr cy d 6 f, rAr cy n3 9 (va_cpy f (fun _ => none) 0 0 6)] A s H _ := h
  exact r_retr S h (Or.inr ⟨_, rfl⟩) n3 rfl trivial hr hlocks rfl ⟨Nat.le_of_ble_eq_true rfl, Nat.le_of_ble_eq_true rfl⟩ dJ7_copyOf_1904c_9
set_option maxHeartbeats 4000000 in
set_option maxRecDepth 100000 in
/-- grow of 6 -/
theorem k_grow1G6 (l : Launch) (D : va_G) (E : rEn) (cy : rC) (X : va_W) (A : Nat → Prop) (a d : Nat) (mo : Int32) (f : Nat → Option Nat) (hf : rCa E f) : rMr l yJx4a65c_grow_92f84 wsJx4a65c_grow_92f84 { frames := 3, cells := 1, slots := 9, locals := 104 } D E cy X [(a, .inr (1, [.int mo, .ref d, .int 6])), rAr cy d 6 f] A [.ref a, .int 7] (fun (q : Nat) => q) (fun (q : Nat) => [(a, .inr (1, [.int mo, .ref q, .int 6])), rAr cy q 9 (va_cpy f (fun _ => none) 0 0 6)]) (fun _ => True) 1 9 := by
  refine r_entry (cc := cJx4a65c_grow_92f84) (maxL := 4) (ret := (some (.array (.object "java/lang/Object")))) (by decide +kernel) rfl (Nat.le_of_ble_eq_true rfl) ?_
  intro p e s m args below meth c ls B
  obtain ⟨S, hr, hlocks, hmi, h, hl⟩ := B
  have hx := S.1
  have hb := S.2.1
  have hts := S.2.2.2.2
  have inJx4a65c : ∀ w ∈ wsJx4a65c0, w ∈ wsJx4a65c_grow_92f84 := by decide +kernel
  have hl : lv_has ls 4 [(0, .ref a), (1, .int 7)] := hl
  refine lv_aload_n hx hb dJx4a65c_grow_92f84_0 rfl (lv_at hl 0 rfl) ?_
  refine r_get S h 0 inJx4a65c (ref := "java/util/ArrayList") rfl rfl (k := 1) (by decide) (by decide +kernel) (fun _ h9 => h9) rfl dJx4a65c_grow_92f84_1 ?_
  refine r_alenq S h (v := Int32.ofNat 6) 1 rfl rfl dJx4a65c_grow_92f84_4 ?_
  refine lv_topi (fun x1 ex1 => ?_)
  obtain rfl : x1 = 6 := by rw [ex1]; rfl
  refine lv_istore_n (lv' := [(2, .int 6), (0, .ref a), (1, .int 7)]) hx hb dJx4a65c_grow_92f84_5 rfl hl (by decide) rfl (fun ls hl => ?_)
  refine lv_iload_n hx hb dJx4a65c_grow_92f84_6 rfl (lv_at hl 0 rfl) ?_
  refine lv_if_gt (tgt := 20) hx hb dJx4a65c_grow_92f84_7 (by decide) (fun c2 => ?_) (fun c2 => absurd (by decide) c2)
  refine lv_iload_n hx hb dJx4a65c_grow_92f84_20 rfl (lv_at hl 0 rfl) ?_
  refine lv_iload_n hx hb dJx4a65c_grow_92f84_21 rfl (lv_at hl 2 rfl) ?_
  refine lv_iload_n hx hb dJx4a65c_grow_92f84_22 rfl (lv_at hl 0 rfl) ?_
  refine lv_isub hx hb dJx4a65c_grow_92f84_23 ?_
  refine lv_topi (fun x3 ex3 => ?_)
  obtain rfl : x3 = 1 := by rw [ex3]; decide
  refine lv_iload_n hx hb dJx4a65c_grow_92f84_24 rfl (lv_at hl 0 rfl) ?_
  refine lv_iconst (v := 1) hx hb dJx4a65c_grow_92f84_25 (by decide) ?_
  refine lv_ishr hx hb dJx4a65c_grow_92f84_26 ?_
  refine lv_topi (fun x4 ex4 => ?_)
  obtain rfl : x4 = 3 := by rw [ex4]; decide
  refine r_calliS S h (k_newLen6 l D E cy _ A ) (va_cwS 3 hts gJx4a65c_grow_92f84_J8_newLength_cabcc rfl rfl rfl (by decide +kernel) ⟨Nat.le_of_ble_eq_true rfl, Nat.le_of_ble_eq_true rfl⟩) (r_preS h [0, 1] [] (wr := [(a, .inr (1, [.int mo, .ref d, .int 6])), rAr cy d 6 f]) (wc := []) rfl rfl rfl _) rfl hl.1 rfl (Nat.le_of_ble_eq_true rfl) dJx4a65c_grow_92f84_27 ⟨Nat.le_of_ble_eq_true rfl, Nat.le_of_ble_eq_true rfl⟩ (fun u5 H locs k6 h => ?_)
  have h : rH D E cy X [(a, .inr (1, [.int mo, .ref d, .int 6])), rAr cy d 6 f] A s H _ := h
  refine lv_istore_n (lv' := [(3, .int 9), (2, .int 6), (0, .ref a), (1, .int 7)]) hx hb dJx4a65c_grow_92f84_30 rfl hl (by decide) rfl (fun ls hl => ?_)
  refine lv_aload_n hx hb dJx4a65c_grow_92f84_31 rfl (lv_at hl 2 rfl) ?_
  refine lv_aload_n hx hb dJx4a65c_grow_92f84_32 rfl (lv_at hl 2 rfl) ?_
  refine r_get S h 0 inJx4a65c (ref := "java/util/ArrayList") rfl rfl (k := 1) (by decide) (by decide +kernel) (fun _ h9 => h9) rfl dJx4a65c_grow_92f84_33 ?_
  refine lv_iload_n hx hb dJx4a65c_grow_92f84_36 rfl (lv_at hl 0 rfl) ?_
  refine r_callrS S h (k_copyB6 l D E cy _ A d f hf) (va_cwS 2 hts gJx4a65c_grow_92f84_J7_copyOf_1904c rfl rfl rfl (by decide +kernel) ⟨Nat.le_of_ble_eq_true rfl, Nat.le_of_ble_eq_true rfl⟩) (r_preS h [0] [1] (wr := [(a, .inr (1, [.int mo, .ref d, .int 6]))]) (wc := [rAr cy d 6 f]) rfl rfl rfl _) rfl hl.1 rfl (Nat.le_of_ble_eq_true rfl) dJx4a65c_grow_92f84_37 ⟨Nat.le_of_ble_eq_true rfl, Nat.le_of_ble_eq_true rfl⟩ (fun u7 H locs k8 h => ?_)
  obtain ⟨n9, rfl⟩ : ∃ z, z = u7 := ⟨_, rfl⟩
  have h : rH D E cy X [(a, .inr (1, [.int mo, .ref d, .int 6])), rAr cy d 6 f, rAr cy n9 9 (va_cpy f (fun _ => none) 0 0 6)] A s H _ := h
  refine lv_dup_x1 hx hb dJx4a65c_grow_92f84_40 rfl rfl ?_
  refine r_put S h 0 tyJx4a65c tyJx4a65c_ok nmJx4a65c inJx4a65c (ref := "java/util/ArrayList") rfl rfl (k := 1) (by decide) (by decide +kernel) (fun _ h9 => h9) rfl rfl rfl rfl (Nat.le_of_ble_eq_true rfl) dJx4a65c_grow_92f84_41 (fun H locs h => ?_)
  have h : rH D E cy X [(a, .inr (1, [.int mo, .ref n9, .int 6])), rAr cy d 6 f, rAr cy n9 9 (va_cpy f (fun _ => none) 0 0 6)] A s H _ := h
  have h := h.pick [0, 2] (w := [(a, .inr (1, [.int mo, .ref n9, .int 6])), rAr cy n9 9 (va_cpy f (fun _ => none) 0 0 6)]) rfl rfl
  exact r_retr S h (Or.inr ⟨_, rfl⟩) n9 rfl trivial hr hlocks rfl ⟨Nat.le_of_ble_eq_true rfl, Nat.le_of_ble_eq_true rfl⟩ dJx4a65c_grow_92f84_44
set_option maxHeartbeats 4000000 in
set_option maxRecDepth 100000 in
/-- grow of 6 -/
theorem k_growG6 (l : Launch) (D : va_G) (E : rEn) (cy : rC) (X : va_W) (A : Nat → Prop) (a d : Nat) (mo : Int32) (f : Nat → Option Nat) (hf : rCa E f) : rMr l yJx4a65c_grow_d5877 wsJx4a65c_grow_d5877 { frames := 4, cells := 1, slots := 9, locals := 127 } D E cy X [(a, .inr (1, [.int mo, .ref d, .int 6])), rAr cy d 6 f] A [.ref a] (fun (q : Nat) => q) (fun (q : Nat) => [(a, .inr (1, [.int mo, .ref q, .int 6])), rAr cy q 9 (va_cpy f (fun _ => none) 0 0 6)]) (fun _ => True) 1 9 := by
  refine r_entry (cc := cJx4a65c_grow_d5877) (maxL := 1) (ret := (some (.array (.object "java/lang/Object")))) (by decide +kernel) rfl (Nat.le_of_ble_eq_true rfl) ?_
  intro p e s m args below meth c ls B
  obtain ⟨S, hr, hlocks, hmi, h, hl⟩ := B
  have hx := S.1
  have hb := S.2.1
  have hts := S.2.2.2.2
  have inJx4a65c : ∀ w ∈ wsJx4a65c0, w ∈ wsJx4a65c_grow_d5877 := by decide +kernel
  have hl : lv_has ls 1 [(0, .ref a)] := hl
  refine lv_aload_n hx hb dJx4a65c_grow_d5877_0 rfl (lv_at hl 0 rfl) ?_
  refine lv_aload_n hx hb dJx4a65c_grow_d5877_1 rfl (lv_at hl 0 rfl) ?_
  refine r_get S h 0 inJx4a65c (ref := "java/util/ArrayList") rfl rfl (k := 2) (by decide) (by decide +kernel) (fun _ h9 => h9) rfl dJx4a65c_grow_d5877_2 ?_
  refine lv_iconst (v := 1) hx hb dJx4a65c_grow_d5877_5 (by decide) ?_
  refine lv_iadd hx hb dJx4a65c_grow_d5877_6 ?_
  refine lv_topi (fun x1 ex1 => ?_)
  obtain rfl : x1 = 7 := by rw [ex1]; decide
  refine r_callr S h (k_grow1G6 l D E cy _ A a d mo f hf) (cwV 1 hts gJx4a65c_grow_d5877_Jx4a65c_grow_92f84 rfl rfl rfl (by decide +kernel) ⟨Nat.le_of_ble_eq_true rfl, Nat.le_of_ble_eq_true rfl⟩) (r_preV h [] [0, 1] (wr := []) (wc := [(a, .inr (1, [.int mo, .ref d, .int 6])), rAr cy d 6 f]) rfl rfl rfl 0 rfl rfl _) rfl hl.1 rfl (Nat.le_of_ble_eq_true rfl) dJx4a65c_grow_d5877_7 ⟨Nat.le_of_ble_eq_true rfl, Nat.le_of_ble_eq_true rfl⟩ (fun u2 H locs k3 h => ?_)
  obtain ⟨n4, rfl⟩ : ∃ z, z = u2 := ⟨_, rfl⟩
  have h : rH D E cy X [(a, .inr (1, [.int mo, .ref n4, .int 6])), rAr cy n4 9 (va_cpy f (fun _ => none) 0 0 6)] A s H _ := h
  exact r_retr S h (Or.inr ⟨_, rfl⟩) n4 rfl trivial hr hlocks rfl ⟨Nat.le_of_ble_eq_true rfl, Nat.le_of_ble_eq_true rfl⟩ dJx4a65c_grow_d5877_10
set_option maxHeartbeats 4000000 in
set_option maxRecDepth 100000 in
/-- add at 6 -/
theorem k_add3G6 (l : Launch) (D : va_G) (E : rEn) (cy : rC) (X : va_W) (A : Nat → Prop) (a v d : Nat) (mo : Int32) (f : Nat → Option Nat) (C : String) (hv : rEl E X C v) (hca : ∀ U : State, rS E U → va_Nw (.castable C "java/lang/Object") U) (hf : rCa E f) : rMv l yJx4a65c_add_72be8 wsJx4a65c_add_72be8 { frames := 5, cells := 1, slots := 9, locals := 147 } D E cy X [(a, .inr (1, [.int mo, .ref d, .int 6])), rAr cy d 6 f] A [.ref a, .ref v, .ref d, .int 6] (fun (q : Nat) => [(a, .inr (1, [.int mo, .ref q, .int 7])), rAr cy q 9 (va_up (va_cpy f (fun _ => none) 0 0 6) 6 (some v))]) (fun _ => True) 1 9 := by
  refine r_entry (cc := cJx4a65c_add_72be8) (maxL := 4) (ret := none) (by decide +kernel) rfl (Nat.le_of_ble_eq_true rfl) ?_
  intro p e s m args below meth c ls B
  obtain ⟨S, hr, hlocks, hmi, h, hl⟩ := B
  have hx := S.1
  have hb := S.2.1
  have hts := S.2.2.2.2
  have inJx4a65c : ∀ w ∈ wsJx4a65c0, w ∈ wsJx4a65c_add_72be8 := by decide +kernel
  have hl : lv_has ls 4 [(0, .ref a), (1, .ref v), (2, .ref d), (3, .int 6)] := hl
  refine lv_iload_n hx hb dJx4a65c_add_72be8_0 rfl (lv_at hl 3 rfl) ?_
  refine lv_aload_n hx hb dJx4a65c_add_72be8_1 rfl (lv_at hl 2 rfl) ?_
  refine r_alenq S h (v := Int32.ofNat 6) 1 rfl rfl dJx4a65c_add_72be8_2 ?_
  refine lv_topi (fun x1 ex1 => ?_)
  obtain rfl : x1 = 6 := by rw [ex1]; rfl
  refine lv_icmp_ne (tgt := 11) hx hb dJx4a65c_add_72be8_3 (by decide) (fun c2 => absurd (by decide) c2) (fun c2 => ?_)
  refine lv_aload_n hx hb dJx4a65c_add_72be8_6 rfl (lv_at hl 0 rfl) ?_
  refine r_callr S h (k_growG6 l D E cy _ A a d mo f hf) (cwV 0 hts gJx4a65c_add_72be8_Jx4a65c_grow_d5877 rfl rfl rfl (by decide +kernel) ⟨Nat.le_of_ble_eq_true rfl, Nat.le_of_ble_eq_true rfl⟩) (r_preV h [] [0, 1] (wr := []) (wc := [(a, .inr (1, [.int mo, .ref d, .int 6])), rAr cy d 6 f]) rfl rfl rfl 0 rfl rfl _) rfl hl.1 rfl (Nat.le_of_ble_eq_true rfl) dJx4a65c_add_72be8_7 ⟨Nat.le_of_ble_eq_true rfl, Nat.le_of_ble_eq_true rfl⟩ (fun u3 H locs k4 h => ?_)
  obtain ⟨n5, rfl⟩ : ∃ z, z = u3 := ⟨_, rfl⟩
  have h : rH D E cy X [(a, .inr (1, [.int mo, .ref n5, .int 6])), rAr cy n5 9 (va_cpy f (fun _ => none) 0 0 6)] A s H _ := h
  refine lv_astore_n (lv' := [(2, .ref n5), (0, .ref a), (1, .ref v), (3, .int 6)]) hx hb dJx4a65c_add_72be8_10 rfl hl (by decide) rfl (fun ls hl => ?_)
  refine lv_aload_n hx hb dJx4a65c_add_72be8_11 rfl (lv_at hl 0 rfl) ?_
  refine lv_iload_n hx hb dJx4a65c_add_72be8_12 rfl (lv_at hl 3 rfl) ?_
  refine lv_aload_n hx hb dJx4a65c_add_72be8_13 rfl (lv_at hl 2 rfl) ?_
  refine r_aast S h 1 rfl hv (hca s h.2.2.2.1.2) (by unfold vp_in; decide) dJx4a65c_add_72be8_14 (fun H locs h => ?_)
  have h : rH D E cy X [(a, .inr (1, [.int mo, .ref n5, .int 6])), rAr cy n5 9 (va_up (va_cpy f (fun _ => none) 0 0 6) 6 (some v))] A s H _ := h
  refine lv_aload_n hx hb dJx4a65c_add_72be8_15 rfl (lv_at hl 1 rfl) ?_
  refine lv_iload_n hx hb dJx4a65c_add_72be8_16 rfl (lv_at hl 3 rfl) ?_
  refine lv_iconst (v := 1) hx hb dJx4a65c_add_72be8_17 (by decide) ?_
  refine lv_iadd hx hb dJx4a65c_add_72be8_18 ?_
  refine lv_topi (fun x6 ex6 => ?_)
  obtain rfl : x6 = 7 := by rw [ex6]; decide
  refine r_put S h 0 tyJx4a65c tyJx4a65c_ok nmJx4a65c inJx4a65c (ref := "java/util/ArrayList") rfl rfl (k := 2) (by decide) (by decide +kernel) (fun _ h9 => h9) rfl rfl rfl rfl (Nat.le_of_ble_eq_true rfl) dJx4a65c_add_72be8_19 (fun H locs h => ?_)
  have h : rH D E cy X [(a, .inr (1, [.int mo, .ref n5, .int 7])), rAr cy n5 9 (va_up (va_cpy f (fun _ => none) 0 0 6) 6 (some v))] A s H _ := h
  exact r_retv S h n5 rfl trivial hr hlocks ⟨Nat.le_of_ble_eq_true rfl, Nat.le_of_ble_eq_true rfl⟩ dJx4a65c_add_72be8_22
set_option maxHeartbeats 4000000 in
set_option maxRecDepth 100000 in
/-- add at 6 -/
theorem k_addG6 (l : Launch) (D : va_G) (E : rEn) (cy : rC) (X : va_W) (A : Nat → Prop) (a v d : Nat) (f : Nat → Option Nat) (C : String) (hv : rEl E X C v) (hca : ∀ U : State, rS E U → va_Nw (.castable C "java/lang/Object") U) (hf : rCa E f) : rMi l yJx4a65c_add_9ea2d wsJx4a65c_add_9ea2d { frames := 6, cells := 1, slots := 9, locals := 170 } D E cy X [(a, .inr (1, [.int 6, .ref d, .int 6])), rAr cy d 6 f] A [.ref a, .ref v] 1 (fun (q : Nat) => [(a, .inr (1, [.int 7, .ref q, .int 7])), rAr cy q 9 (va_up (va_cpy f (fun _ => none) 0 0 6) 6 (some v))]) (fun _ => True) 1 9 := by
  refine r_entry (cc := cJx4a65c_add_9ea2d) (maxL := 2) (ret := (some .boolean)) (by decide +kernel) rfl (Nat.le_of_ble_eq_true rfl) ?_
  intro p e s m args below meth c ls B
  obtain ⟨S, hr, hlocks, hmi, h, hl⟩ := B
  have hx := S.1
  have hb := S.2.1
  have hts := S.2.2.2.2
  have inJx4a65c : ∀ w ∈ wsJx4a65c0, w ∈ wsJx4a65c_add_9ea2d := by decide +kernel
  have hl : lv_has ls 2 [(0, .ref a), (1, .ref v)] := hl
  refine lv_aload_n hx hb dJx4a65c_add_9ea2d_0 rfl (lv_at hl 0 rfl) ?_
  refine lv_dup hx hb dJx4a65c_add_9ea2d_1 rfl ?_
  refine r_get S h 0 inJx4a65c (ref := "java/util/ArrayList") rfl rfl (k := 0) (by decide) (by decide +kernel) (fun x9 h9 => u_same (hts (.sameField "java/util/ArrayList" "java/util/AbstractList" "modCount" "I") (by decide +kernel)) x9 h9) rfl dJx4a65c_add_9ea2d_2 ?_
  refine lv_iconst (v := 1) hx hb dJx4a65c_add_9ea2d_5 (by decide) ?_
  refine lv_iadd hx hb dJx4a65c_add_9ea2d_6 ?_
  refine lv_topi (fun x1 ex1 => ?_)
  obtain rfl : x1 = 7 := by rw [ex1]; decide
  refine r_put S h 0 tyJx4a65c tyJx4a65c_ok nmJx4a65c inJx4a65c (ref := "java/util/ArrayList") rfl rfl (k := 0) (by decide) (by decide +kernel) (fun x9 h9 => u_same (hts (.sameField "java/util/ArrayList" "java/util/AbstractList" "modCount" "I") (by decide +kernel)) x9 h9) rfl rfl rfl rfl (Nat.le_of_ble_eq_true rfl) dJx4a65c_add_9ea2d_7 (fun H locs h => ?_)
  have h : rH D E cy X [(a, .inr (1, [.int 7, .ref d, .int 6])), rAr cy d 6 f] A s H _ := h
  refine lv_aload_n hx hb dJx4a65c_add_9ea2d_10 rfl (lv_at hl 0 rfl) ?_
  refine lv_aload_n hx hb dJx4a65c_add_9ea2d_11 rfl (lv_at hl 1 rfl) ?_
  refine lv_aload_n hx hb dJx4a65c_add_9ea2d_12 rfl (lv_at hl 0 rfl) ?_
  refine r_get S h 0 inJx4a65c (ref := "java/util/ArrayList") rfl rfl (k := 1) (by decide) (by decide +kernel) (fun _ h9 => h9) rfl dJx4a65c_add_9ea2d_13 ?_
  refine lv_aload_n hx hb dJx4a65c_add_9ea2d_16 rfl (lv_at hl 0 rfl) ?_
  refine r_get S h 0 inJx4a65c (ref := "java/util/ArrayList") rfl rfl (k := 2) (by decide) (by decide +kernel) (fun _ h9 => h9) rfl dJx4a65c_add_9ea2d_17 ?_
  refine r_callv S h (k_add3G6 l D E cy _ A a v d 7 f C hv.app hca hf) (cwV 3 hts gJx4a65c_add_9ea2d_Jx4a65c_add_72be8 rfl rfl rfl (by decide +kernel) ⟨Nat.le_of_ble_eq_true rfl, Nat.le_of_ble_eq_true rfl⟩) (r_preV h [] [0, 1] (wr := []) (wc := [(a, .inr (1, [.int 7, .ref d, .int 6])), rAr cy d 6 f]) rfl rfl rfl 0 rfl rfl _) rfl hl.1 rfl (Nat.le_of_ble_eq_true rfl) dJx4a65c_add_9ea2d_20 ⟨Nat.le_of_ble_eq_true rfl, Nat.le_of_ble_eq_true rfl⟩ (fun u2 H locs k3 h => ?_)
  obtain ⟨n4, rfl⟩ : ∃ z, z = u2 := ⟨_, rfl⟩
  have h : rH D E cy X [(a, .inr (1, [.int 7, .ref n4, .int 7])), rAr cy n4 9 (va_up (va_cpy f (fun _ => none) 0 0 6) 6 (some v))] A s H _ := h
  refine lv_iconst (v := 1) hx hb dJx4a65c_add_9ea2d_23 (by decide) ?_
  exact r_reti S h n4 rfl trivial hr hlocks rfl (rfl) ⟨Nat.le_of_ble_eq_true rfl, Nat.le_of_ble_eq_true rfl⟩ dJx4a65c_add_9ea2d_24
set_option maxHeartbeats 4000000 in
set_option maxRecDepth 100000 in
/-- copyOf, 9 to 13 -/
theorem k_copyC9 (l : Launch) (D : va_G) (E : rEn) (cy : rC) (X : va_W) (A : Nat → Prop) (d : Nat) (f : Nat → Option Nat) (hf : rCa E f) : rMr l yJ7_copyOf_6403c wsJ7_copyOf_6403c { frames := 1, cells := 1, slots := 13, locals := 60 } D E cy X [rAr cy d 9 f] A [.ref d, .int 13, .ref E.2.2.2.2] (fun (q : Nat) => q) (fun (q : Nat) => [rAr cy d 9 f, rAr cy q 13 (va_cpy f (fun _ => none) 0 0 9)]) (fun _ => True) 1 13 := by
  refine r_entry (cc := cJ7_copyOf_6403c) (maxL := 4) (ret := (some (.array (.object "java/lang/Object")))) (by decide +kernel) rfl (Nat.le_of_ble_eq_true rfl) ?_
  intro p e s m args below meth c ls B
  obtain ⟨S, hr, hlocks, hmi, h, hl⟩ := B
  have hx := S.1
  have hb := S.2.1
  have hts := S.2.2.2.2
  have hl : lv_has ls 4 [(0, .ref d), (1, .int 13), (2, .ref E.2.2.2.2)] := hl
  refine lv_aload_n hx hb dJ7_copyOf_6403c_0 rfl (lv_at hl 2 rfl) ?_
  refine r_ldcM S h (by decide +kernel) dJ7_copyOf_6403c_1 ?_
  refine lv_acmp_ne (rx := some E.2.2.2.2) (ry := some E.2.2.2.2) (tgt := 13) hx hb dJ7_copyOf_6403c_3 (by decide) (fun c1 => absurd rfl c1) (fun c1 => ?_)
  refine lv_iload_n hx hb dJ7_copyOf_6403c_6 rfl (lv_at hl 1 rfl) ?_
  refine r_newq S h (N := 13) (by decide +kernel) (by decide) rfl (by decide) (Nat.le_of_ble_eq_true rfl) (Nat.le_of_ble_eq_true rfl) dJ7_copyOf_6403c_7 (fun n2 H h => ?_)
  have h : rH D E cy X [rAr cy d 9 f, rAr cy n2 13 (fun _ => none)] A s H _ := h
  refine lv_goto (tgt := 24) hx hb dJ7_copyOf_6403c_10 (by decide) ?_
  refine lv_astore_n (lv' := [(3, .ref n2), (0, .ref d), (1, .int 13), (2, .ref E.2.2.2.2)]) hx hb dJ7_copyOf_6403c_24 rfl hl (by decide) rfl (fun ls hl => ?_)
  refine lv_aload_n hx hb dJ7_copyOf_6403c_25 rfl (lv_at hl 1 rfl) ?_
  refine lv_iconst (v := 0) hx hb dJ7_copyOf_6403c_26 (by decide) ?_
  refine lv_aload_n hx hb dJ7_copyOf_6403c_27 rfl (lv_at hl 0 rfl) ?_
  refine lv_iconst (v := 0) hx hb dJ7_copyOf_6403c_28 (by decide) ?_
  refine lv_aload_n hx hb dJ7_copyOf_6403c_29 rfl (lv_at hl 1 rfl) ?_
  refine r_alenq S h (v := Int32.ofNat 9) 0 rfl rfl dJ7_copyOf_6403c_30 ?_
  refine lv_topi (fun x3 ex3 => ?_)
  obtain rfl : x3 = 9 := by rw [ex3]; rfl
  refine lv_iload_n hx hb dJ7_copyOf_6403c_31 rfl (lv_at hl 2 rfl) ?_
  refine va_mmin hx hb (S.2.2.1.trans hl.1.symm) S.2.2.2.1 (hts (.methodLink RJ7 304 Lib.Math.min.name) (by decide +kernel)) (hts (.static Lib.Math.min.name) (by decide +kernel)) (hts (.initialized "java/lang/Math") (by decide +kernel)) (hts (.code Lib.Math.min.name Lib.Math.min.code 2 (some .int)) (by decide +kernel)) (Nat.le_of_ble_eq_true rfl) (Nat.le_of_ble_eq_true rfl) (Nat.le_of_ble_eq_true rfl) (Nat.le_of_ble_eq_true rfl) dJ7_copyOf_6403c_32 ?_
  refine lv_topi (fun x4 ex4 => ?_)
  obtain rfl : x4 = 9 := by rw [ex4]; decide
  refine r_copyq S h hl.1 0 1 rfl rfl (N := 9) (by decide) rfl (by decide) (by decide) hf (by decide +kernel) (by decide +kernel) (by decide +kernel) (by decide +kernel) (Nat.le_of_ble_eq_true rfl) (by decide) dJ7_copyOf_6403c_35 (fun H locs h => ?_)
  have h : rH D E cy X [rAr cy d 9 f, rAr cy n2 13 (va_cpy f (fun _ => none) 0 0 9)] A s H _ := h
  refine lv_aload_n hx hb dJ7_copyOf_6403c_38 rfl (lv_at hl 0 rfl) ?_
  exact r_retr S h (Or.inr ⟨_, rfl⟩) n2 rfl trivial hr hlocks rfl ⟨Nat.le_of_ble_eq_true rfl, Nat.le_of_ble_eq_true rfl⟩ dJ7_copyOf_6403c_39
set_option maxHeartbeats 4000000 in
set_option maxRecDepth 100000 in
/-- copyOf, 9 to 13 -/
theorem k_copyB9 (l : Launch) (D : va_G) (E : rEn) (cy : rC) (X : va_W) (A : Nat → Prop) (d : Nat) (f : Nat → Option Nat) (hf : rCa E f) : rMr l yJ7_copyOf_1904c wsJ7_copyOf_1904c { frames := 2, cells := 1, slots := 13, locals := 83 } D E cy X [rAr cy d 9 f] A [.ref d, .int 13] (fun (q : Nat) => q) (fun (q : Nat) => [rAr cy d 9 f, rAr cy q 13 (va_cpy f (fun _ => none) 0 0 9)]) (fun _ => True) 1 13 := by
  refine r_entry (cc := cJ7_copyOf_1904c) (maxL := 2) (ret := (some (.array (.object "java/lang/Object")))) (by decide +kernel) rfl (Nat.le_of_ble_eq_true rfl) ?_
  intro p e s m args below meth c ls B
  obtain ⟨S, hr, hlocks, hmi, h, hl⟩ := B
  have hx := S.1
  have hb := S.2.1
  have hts := S.2.2.2.2
  have hl : lv_has ls 2 [(0, .ref d), (1, .int 13)] := hl
  refine lv_aload_n hx hb dJ7_copyOf_1904c_0 rfl (lv_at hl 0 rfl) ?_
  refine lv_iload_n hx hb dJ7_copyOf_1904c_1 rfl (lv_at hl 1 rfl) ?_
  refine lv_aload_n hx hb dJ7_copyOf_1904c_2 rfl (lv_at hl 0 rfl) ?_
  refine r_gc S h hl.1 (Or.inl ⟨0, _, _, rfl⟩) (by decide +kernel) (by decide +kernel) (by decide +kernel) (by decide +kernel) (Nat.le_of_ble_eq_true rfl) (Nat.le_of_ble_eq_true rfl) dJ7_copyOf_1904c_3 ?_
  refine r_callrS S h (k_copyC9 l D E cy _ A d f hf) (cwS 3 hts gJ7_copyOf_1904c_J7_copyOf_6403c rfl rfl rfl (by decide +kernel) ⟨Nat.le_of_ble_eq_true rfl, Nat.le_of_ble_eq_true rfl⟩) (r_preS h [] [0] (wr := []) (wc := [rAr cy d 9 f]) rfl rfl rfl _) rfl hl.1 rfl (Nat.le_of_ble_eq_true rfl) dJ7_copyOf_1904c_6 ⟨Nat.le_of_ble_eq_true rfl, Nat.le_of_ble_eq_true rfl⟩ (fun u1 H locs k2 h => ?_)
  obtain ⟨n3, rfl⟩ : ∃ z, z = u1 := ⟨_, rfl⟩
  have h : rH D E cy X [rAr cy d 9 f, rAr cy n3 13 (va_cpy f (fun _ => none) 0 0 9)] A s H _ := h
  exact r_retr S h (Or.inr ⟨_, rfl⟩) n3 rfl trivial hr hlocks rfl ⟨Nat.le_of_ble_eq_true rfl, Nat.le_of_ble_eq_true rfl⟩ dJ7_copyOf_1904c_9
set_option maxHeartbeats 4000000 in
set_option maxRecDepth 100000 in
/-- grow of 9 -/
theorem k_grow1G9 (l : Launch) (D : va_G) (E : rEn) (cy : rC) (X : va_W) (A : Nat → Prop) (a d : Nat) (mo : Int32) (f : Nat → Option Nat) (hf : rCa E f) : rMr l yJx4a65c_grow_92f84 wsJx4a65c_grow_92f84 { frames := 3, cells := 1, slots := 13, locals := 104 } D E cy X [(a, .inr (1, [.int mo, .ref d, .int 9])), rAr cy d 9 f] A [.ref a, .int 10] (fun (q : Nat) => q) (fun (q : Nat) => [(a, .inr (1, [.int mo, .ref q, .int 9])), rAr cy q 13 (va_cpy f (fun _ => none) 0 0 9)]) (fun _ => True) 1 13 := by
  refine r_entry (cc := cJx4a65c_grow_92f84) (maxL := 4) (ret := (some (.array (.object "java/lang/Object")))) (by decide +kernel) rfl (Nat.le_of_ble_eq_true rfl) ?_
  intro p e s m args below meth c ls B
  obtain ⟨S, hr, hlocks, hmi, h, hl⟩ := B
  have hx := S.1
  have hb := S.2.1
  have hts := S.2.2.2.2
  have inJx4a65c : ∀ w ∈ wsJx4a65c0, w ∈ wsJx4a65c_grow_92f84 := by decide +kernel
  have hl : lv_has ls 4 [(0, .ref a), (1, .int 10)] := hl
  refine lv_aload_n hx hb dJx4a65c_grow_92f84_0 rfl (lv_at hl 0 rfl) ?_
  refine r_get S h 0 inJx4a65c (ref := "java/util/ArrayList") rfl rfl (k := 1) (by decide) (by decide +kernel) (fun _ h9 => h9) rfl dJx4a65c_grow_92f84_1 ?_
  refine r_alenq S h (v := Int32.ofNat 9) 1 rfl rfl dJx4a65c_grow_92f84_4 ?_
  refine lv_topi (fun x1 ex1 => ?_)
  obtain rfl : x1 = 9 := by rw [ex1]; rfl
  refine lv_istore_n (lv' := [(2, .int 9), (0, .ref a), (1, .int 10)]) hx hb dJx4a65c_grow_92f84_5 rfl hl (by decide) rfl (fun ls hl => ?_)
  refine lv_iload_n hx hb dJx4a65c_grow_92f84_6 rfl (lv_at hl 0 rfl) ?_
  refine lv_if_gt (tgt := 20) hx hb dJx4a65c_grow_92f84_7 (by decide) (fun c2 => ?_) (fun c2 => absurd (by decide) c2)
  refine lv_iload_n hx hb dJx4a65c_grow_92f84_20 rfl (lv_at hl 0 rfl) ?_
  refine lv_iload_n hx hb dJx4a65c_grow_92f84_21 rfl (lv_at hl 2 rfl) ?_
  refine lv_iload_n hx hb dJx4a65c_grow_92f84_22 rfl (lv_at hl 0 rfl) ?_
  refine lv_isub hx hb dJx4a65c_grow_92f84_23 ?_
  refine lv_topi (fun x3 ex3 => ?_)
  obtain rfl : x3 = 1 := by rw [ex3]; decide
  refine lv_iload_n hx hb dJx4a65c_grow_92f84_24 rfl (lv_at hl 0 rfl) ?_
  refine lv_iconst (v := 1) hx hb dJx4a65c_grow_92f84_25 (by decide) ?_
  refine lv_ishr hx hb dJx4a65c_grow_92f84_26 ?_
  refine lv_topi (fun x4 ex4 => ?_)
  obtain rfl : x4 = 4 := by rw [ex4]; decide
  refine r_calliS S h (k_newLen9 l D E cy _ A ) (va_cwS 3 hts gJx4a65c_grow_92f84_J8_newLength_cabcc rfl rfl rfl (by decide +kernel) ⟨Nat.le_of_ble_eq_true rfl, Nat.le_of_ble_eq_true rfl⟩) (r_preS h [0, 1] [] (wr := [(a, .inr (1, [.int mo, .ref d, .int 9])), rAr cy d 9 f]) (wc := []) rfl rfl rfl _) rfl hl.1 rfl (Nat.le_of_ble_eq_true rfl) dJx4a65c_grow_92f84_27 ⟨Nat.le_of_ble_eq_true rfl, Nat.le_of_ble_eq_true rfl⟩ (fun u5 H locs k6 h => ?_)
  have h : rH D E cy X [(a, .inr (1, [.int mo, .ref d, .int 9])), rAr cy d 9 f] A s H _ := h
  refine lv_istore_n (lv' := [(3, .int 13), (2, .int 9), (0, .ref a), (1, .int 10)]) hx hb dJx4a65c_grow_92f84_30 rfl hl (by decide) rfl (fun ls hl => ?_)
  refine lv_aload_n hx hb dJx4a65c_grow_92f84_31 rfl (lv_at hl 2 rfl) ?_
  refine lv_aload_n hx hb dJx4a65c_grow_92f84_32 rfl (lv_at hl 2 rfl) ?_
  refine r_get S h 0 inJx4a65c (ref := "java/util/ArrayList") rfl rfl (k := 1) (by decide) (by decide +kernel) (fun _ h9 => h9) rfl dJx4a65c_grow_92f84_33 ?_
  refine lv_iload_n hx hb dJx4a65c_grow_92f84_36 rfl (lv_at hl 0 rfl) ?_
  refine r_callrS S h (k_copyB9 l D E cy _ A d f hf) (va_cwS 2 hts gJx4a65c_grow_92f84_J7_copyOf_1904c rfl rfl rfl (by decide +kernel) ⟨Nat.le_of_ble_eq_true rfl, Nat.le_of_ble_eq_true rfl⟩) (r_preS h [0] [1] (wr := [(a, .inr (1, [.int mo, .ref d, .int 9]))]) (wc := [rAr cy d 9 f]) rfl rfl rfl _) rfl hl.1 rfl (Nat.le_of_ble_eq_true rfl) dJx4a65c_grow_92f84_37 ⟨Nat.le_of_ble_eq_true rfl, Nat.le_of_ble_eq_true rfl⟩ (fun u7 H locs k8 h => ?_)
  obtain ⟨n9, rfl⟩ : ∃ z, z = u7 := ⟨_, rfl⟩
  have h : rH D E cy X [(a, .inr (1, [.int mo, .ref d, .int 9])), rAr cy d 9 f, rAr cy n9 13 (va_cpy f (fun _ => none) 0 0 9)] A s H _ := h
  refine lv_dup_x1 hx hb dJx4a65c_grow_92f84_40 rfl rfl ?_
  refine r_put S h 0 tyJx4a65c tyJx4a65c_ok nmJx4a65c inJx4a65c (ref := "java/util/ArrayList") rfl rfl (k := 1) (by decide) (by decide +kernel) (fun _ h9 => h9) rfl rfl rfl rfl (Nat.le_of_ble_eq_true rfl) dJx4a65c_grow_92f84_41 (fun H locs h => ?_)
  have h : rH D E cy X [(a, .inr (1, [.int mo, .ref n9, .int 9])), rAr cy d 9 f, rAr cy n9 13 (va_cpy f (fun _ => none) 0 0 9)] A s H _ := h
  have h := h.pick [0, 2] (w := [(a, .inr (1, [.int mo, .ref n9, .int 9])), rAr cy n9 13 (va_cpy f (fun _ => none) 0 0 9)]) rfl rfl
  exact r_retr S h (Or.inr ⟨_, rfl⟩) n9 rfl trivial hr hlocks rfl ⟨Nat.le_of_ble_eq_true rfl, Nat.le_of_ble_eq_true rfl⟩ dJx4a65c_grow_92f84_44
set_option maxHeartbeats 4000000 in
set_option maxRecDepth 100000 in
/-- grow of 9 -/
theorem k_growG9 (l : Launch) (D : va_G) (E : rEn) (cy : rC) (X : va_W) (A : Nat → Prop) (a d : Nat) (mo : Int32) (f : Nat → Option Nat) (hf : rCa E f) : rMr l yJx4a65c_grow_d5877 wsJx4a65c_grow_d5877 { frames := 4, cells := 1, slots := 13, locals := 127 } D E cy X [(a, .inr (1, [.int mo, .ref d, .int 9])), rAr cy d 9 f] A [.ref a] (fun (q : Nat) => q) (fun (q : Nat) => [(a, .inr (1, [.int mo, .ref q, .int 9])), rAr cy q 13 (va_cpy f (fun _ => none) 0 0 9)]) (fun _ => True) 1 13 := by
  refine r_entry (cc := cJx4a65c_grow_d5877) (maxL := 1) (ret := (some (.array (.object "java/lang/Object")))) (by decide +kernel) rfl (Nat.le_of_ble_eq_true rfl) ?_
  intro p e s m args below meth c ls B
  obtain ⟨S, hr, hlocks, hmi, h, hl⟩ := B
  have hx := S.1
  have hb := S.2.1
  have hts := S.2.2.2.2
  have inJx4a65c : ∀ w ∈ wsJx4a65c0, w ∈ wsJx4a65c_grow_d5877 := by decide +kernel
  have hl : lv_has ls 1 [(0, .ref a)] := hl
  refine lv_aload_n hx hb dJx4a65c_grow_d5877_0 rfl (lv_at hl 0 rfl) ?_
  refine lv_aload_n hx hb dJx4a65c_grow_d5877_1 rfl (lv_at hl 0 rfl) ?_
  refine r_get S h 0 inJx4a65c (ref := "java/util/ArrayList") rfl rfl (k := 2) (by decide) (by decide +kernel) (fun _ h9 => h9) rfl dJx4a65c_grow_d5877_2 ?_
  refine lv_iconst (v := 1) hx hb dJx4a65c_grow_d5877_5 (by decide) ?_
  refine lv_iadd hx hb dJx4a65c_grow_d5877_6 ?_
  refine lv_topi (fun x1 ex1 => ?_)
  obtain rfl : x1 = 10 := by rw [ex1]; decide
  refine r_callr S h (k_grow1G9 l D E cy _ A a d mo f hf) (cwV 1 hts gJx4a65c_grow_d5877_Jx4a65c_grow_92f84 rfl rfl rfl (by decide +kernel) ⟨Nat.le_of_ble_eq_true rfl, Nat.le_of_ble_eq_true rfl⟩) (r_preV h [] [0, 1] (wr := []) (wc := [(a, .inr (1, [.int mo, .ref d, .int 9])), rAr cy d 9 f]) rfl rfl rfl 0 rfl rfl _) rfl hl.1 rfl (Nat.le_of_ble_eq_true rfl) dJx4a65c_grow_d5877_7 ⟨Nat.le_of_ble_eq_true rfl, Nat.le_of_ble_eq_true rfl⟩ (fun u2 H locs k3 h => ?_)
  obtain ⟨n4, rfl⟩ : ∃ z, z = u2 := ⟨_, rfl⟩
  have h : rH D E cy X [(a, .inr (1, [.int mo, .ref n4, .int 9])), rAr cy n4 13 (va_cpy f (fun _ => none) 0 0 9)] A s H _ := h
  exact r_retr S h (Or.inr ⟨_, rfl⟩) n4 rfl trivial hr hlocks rfl ⟨Nat.le_of_ble_eq_true rfl, Nat.le_of_ble_eq_true rfl⟩ dJx4a65c_grow_d5877_10
set_option maxHeartbeats 4000000 in
set_option maxRecDepth 100000 in
/-- add at 9 -/
theorem k_add3G9 (l : Launch) (D : va_G) (E : rEn) (cy : rC) (X : va_W) (A : Nat → Prop) (a v d : Nat) (mo : Int32) (f : Nat → Option Nat) (C : String) (hv : rEl E X C v) (hca : ∀ U : State, rS E U → va_Nw (.castable C "java/lang/Object") U) (hf : rCa E f) : rMv l yJx4a65c_add_72be8 wsJx4a65c_add_72be8 { frames := 5, cells := 1, slots := 13, locals := 147 } D E cy X [(a, .inr (1, [.int mo, .ref d, .int 9])), rAr cy d 9 f] A [.ref a, .ref v, .ref d, .int 9] (fun (q : Nat) => [(a, .inr (1, [.int mo, .ref q, .int 10])), rAr cy q 13 (va_up (va_cpy f (fun _ => none) 0 0 9) 9 (some v))]) (fun _ => True) 1 13 := by
  refine r_entry (cc := cJx4a65c_add_72be8) (maxL := 4) (ret := none) (by decide +kernel) rfl (Nat.le_of_ble_eq_true rfl) ?_
  intro p e s m args below meth c ls B
  obtain ⟨S, hr, hlocks, hmi, h, hl⟩ := B
  have hx := S.1
  have hb := S.2.1
  have hts := S.2.2.2.2
  have inJx4a65c : ∀ w ∈ wsJx4a65c0, w ∈ wsJx4a65c_add_72be8 := by decide +kernel
  have hl : lv_has ls 4 [(0, .ref a), (1, .ref v), (2, .ref d), (3, .int 9)] := hl
  refine lv_iload_n hx hb dJx4a65c_add_72be8_0 rfl (lv_at hl 3 rfl) ?_
  refine lv_aload_n hx hb dJx4a65c_add_72be8_1 rfl (lv_at hl 2 rfl) ?_
  refine r_alenq S h (v := Int32.ofNat 9) 1 rfl rfl dJx4a65c_add_72be8_2 ?_
  refine lv_topi (fun x1 ex1 => ?_)
  obtain rfl : x1 = 9 := by rw [ex1]; rfl
  refine lv_icmp_ne (tgt := 11) hx hb dJx4a65c_add_72be8_3 (by decide) (fun c2 => absurd (by decide) c2) (fun c2 => ?_)
  refine lv_aload_n hx hb dJx4a65c_add_72be8_6 rfl (lv_at hl 0 rfl) ?_
  refine r_callr S h (k_growG9 l D E cy _ A a d mo f hf) (cwV 0 hts gJx4a65c_add_72be8_Jx4a65c_grow_d5877 rfl rfl rfl (by decide +kernel) ⟨Nat.le_of_ble_eq_true rfl, Nat.le_of_ble_eq_true rfl⟩) (r_preV h [] [0, 1] (wr := []) (wc := [(a, .inr (1, [.int mo, .ref d, .int 9])), rAr cy d 9 f]) rfl rfl rfl 0 rfl rfl _) rfl hl.1 rfl (Nat.le_of_ble_eq_true rfl) dJx4a65c_add_72be8_7 ⟨Nat.le_of_ble_eq_true rfl, Nat.le_of_ble_eq_true rfl⟩ (fun u3 H locs k4 h => ?_)
  obtain ⟨n5, rfl⟩ : ∃ z, z = u3 := ⟨_, rfl⟩
  have h : rH D E cy X [(a, .inr (1, [.int mo, .ref n5, .int 9])), rAr cy n5 13 (va_cpy f (fun _ => none) 0 0 9)] A s H _ := h
  refine lv_astore_n (lv' := [(2, .ref n5), (0, .ref a), (1, .ref v), (3, .int 9)]) hx hb dJx4a65c_add_72be8_10 rfl hl (by decide) rfl (fun ls hl => ?_)
  refine lv_aload_n hx hb dJx4a65c_add_72be8_11 rfl (lv_at hl 0 rfl) ?_
  refine lv_iload_n hx hb dJx4a65c_add_72be8_12 rfl (lv_at hl 3 rfl) ?_
  refine lv_aload_n hx hb dJx4a65c_add_72be8_13 rfl (lv_at hl 2 rfl) ?_
  refine r_aast S h 1 rfl hv (hca s h.2.2.2.1.2) (by unfold vp_in; decide) dJx4a65c_add_72be8_14 (fun H locs h => ?_)
  have h : rH D E cy X [(a, .inr (1, [.int mo, .ref n5, .int 9])), rAr cy n5 13 (va_up (va_cpy f (fun _ => none) 0 0 9) 9 (some v))] A s H _ := h
  refine lv_aload_n hx hb dJx4a65c_add_72be8_15 rfl (lv_at hl 1 rfl) ?_
  refine lv_iload_n hx hb dJx4a65c_add_72be8_16 rfl (lv_at hl 3 rfl) ?_
  refine lv_iconst (v := 1) hx hb dJx4a65c_add_72be8_17 (by decide) ?_
  refine lv_iadd hx hb dJx4a65c_add_72be8_18 ?_
  refine lv_topi (fun x6 ex6 => ?_)
  obtain rfl : x6 = 10 := by rw [ex6]; decide
  refine r_put S h 0 tyJx4a65c tyJx4a65c_ok nmJx4a65c inJx4a65c (ref := "java/util/ArrayList") rfl rfl (k := 2) (by decide) (by decide +kernel) (fun _ h9 => h9) rfl rfl rfl rfl (Nat.le_of_ble_eq_true rfl) dJx4a65c_add_72be8_19 (fun H locs h => ?_)
  have h : rH D E cy X [(a, .inr (1, [.int mo, .ref n5, .int 10])), rAr cy n5 13 (va_up (va_cpy f (fun _ => none) 0 0 9) 9 (some v))] A s H _ := h
  exact r_retv S h n5 rfl trivial hr hlocks ⟨Nat.le_of_ble_eq_true rfl, Nat.le_of_ble_eq_true rfl⟩ dJx4a65c_add_72be8_22
set_option maxHeartbeats 4000000 in
set_option maxRecDepth 100000 in
/-- add at 9 -/
theorem k_addG9 (l : Launch) (D : va_G) (E : rEn) (cy : rC) (X : va_W) (A : Nat → Prop) (a v d : Nat) (f : Nat → Option Nat) (C : String) (hv : rEl E X C v) (hca : ∀ U : State, rS E U → va_Nw (.castable C "java/lang/Object") U) (hf : rCa E f) : rMi l yJx4a65c_add_9ea2d wsJx4a65c_add_9ea2d { frames := 6, cells := 1, slots := 13, locals := 170 } D E cy X [(a, .inr (1, [.int 9, .ref d, .int 9])), rAr cy d 9 f] A [.ref a, .ref v] 1 (fun (q : Nat) => [(a, .inr (1, [.int 10, .ref q, .int 10])), rAr cy q 13 (va_up (va_cpy f (fun _ => none) 0 0 9) 9 (some v))]) (fun _ => True) 1 13 := by
  refine r_entry (cc := cJx4a65c_add_9ea2d) (maxL := 2) (ret := (some .boolean)) (by decide +kernel) rfl (Nat.le_of_ble_eq_true rfl) ?_
  intro p e s m args below meth c ls B
  obtain ⟨S, hr, hlocks, hmi, h, hl⟩ := B
  have hx := S.1
  have hb := S.2.1
  have hts := S.2.2.2.2
  have inJx4a65c : ∀ w ∈ wsJx4a65c0, w ∈ wsJx4a65c_add_9ea2d := by decide +kernel
  have hl : lv_has ls 2 [(0, .ref a), (1, .ref v)] := hl
  refine lv_aload_n hx hb dJx4a65c_add_9ea2d_0 rfl (lv_at hl 0 rfl) ?_
  refine lv_dup hx hb dJx4a65c_add_9ea2d_1 rfl ?_
  refine r_get S h 0 inJx4a65c (ref := "java/util/ArrayList") rfl rfl (k := 0) (by decide) (by decide +kernel) (fun x9 h9 => u_same (hts (.sameField "java/util/ArrayList" "java/util/AbstractList" "modCount" "I") (by decide +kernel)) x9 h9) rfl dJx4a65c_add_9ea2d_2 ?_
  refine lv_iconst (v := 1) hx hb dJx4a65c_add_9ea2d_5 (by decide) ?_
  refine lv_iadd hx hb dJx4a65c_add_9ea2d_6 ?_
  refine lv_topi (fun x1 ex1 => ?_)
  obtain rfl : x1 = 10 := by rw [ex1]; decide
  refine r_put S h 0 tyJx4a65c tyJx4a65c_ok nmJx4a65c inJx4a65c (ref := "java/util/ArrayList") rfl rfl (k := 0) (by decide) (by decide +kernel) (fun x9 h9 => u_same (hts (.sameField "java/util/ArrayList" "java/util/AbstractList" "modCount" "I") (by decide +kernel)) x9 h9) rfl rfl rfl rfl (Nat.le_of_ble_eq_true rfl) dJx4a65c_add_9ea2d_7 (fun H locs h => ?_)
  have h : rH D E cy X [(a, .inr (1, [.int 10, .ref d, .int 9])), rAr cy d 9 f] A s H _ := h
  refine lv_aload_n hx hb dJx4a65c_add_9ea2d_10 rfl (lv_at hl 0 rfl) ?_
  refine lv_aload_n hx hb dJx4a65c_add_9ea2d_11 rfl (lv_at hl 1 rfl) ?_
  refine lv_aload_n hx hb dJx4a65c_add_9ea2d_12 rfl (lv_at hl 0 rfl) ?_
  refine r_get S h 0 inJx4a65c (ref := "java/util/ArrayList") rfl rfl (k := 1) (by decide) (by decide +kernel) (fun _ h9 => h9) rfl dJx4a65c_add_9ea2d_13 ?_
  refine lv_aload_n hx hb dJx4a65c_add_9ea2d_16 rfl (lv_at hl 0 rfl) ?_
  refine r_get S h 0 inJx4a65c (ref := "java/util/ArrayList") rfl rfl (k := 2) (by decide) (by decide +kernel) (fun _ h9 => h9) rfl dJx4a65c_add_9ea2d_17 ?_
  refine r_callv S h (k_add3G9 l D E cy _ A a v d 10 f C hv.app hca hf) (cwV 3 hts gJx4a65c_add_9ea2d_Jx4a65c_add_72be8 rfl rfl rfl (by decide +kernel) ⟨Nat.le_of_ble_eq_true rfl, Nat.le_of_ble_eq_true rfl⟩) (r_preV h [] [0, 1] (wr := []) (wc := [(a, .inr (1, [.int 10, .ref d, .int 9])), rAr cy d 9 f]) rfl rfl rfl 0 rfl rfl _) rfl hl.1 rfl (Nat.le_of_ble_eq_true rfl) dJx4a65c_add_9ea2d_20 ⟨Nat.le_of_ble_eq_true rfl, Nat.le_of_ble_eq_true rfl⟩ (fun u2 H locs k3 h => ?_)
  obtain ⟨n4, rfl⟩ : ∃ z, z = u2 := ⟨_, rfl⟩
  have h : rH D E cy X [(a, .inr (1, [.int 10, .ref n4, .int 10])), rAr cy n4 13 (va_up (va_cpy f (fun _ => none) 0 0 9) 9 (some v))] A s H _ := h
  refine lv_iconst (v := 1) hx hb dJx4a65c_add_9ea2d_23 (by decide) ?_
  exact r_reti S h n4 rfl trivial hr hlocks rfl (rfl) ⟨Nat.le_of_ble_eq_true rfl, Nat.le_of_ble_eq_true rfl⟩ dJx4a65c_add_9ea2d_24
set_option maxHeartbeats 4000000 in
set_option maxRecDepth 100000 in
/-- copyOf, 10 to 15 -/
theorem k_copyC10 (l : Launch) (D : va_G) (E : rEn) (cy : rC) (X : va_W) (A : Nat → Prop) (d : Nat) (f : Nat → Option Nat) (hf : rCa E f) : rMr l yJ7_copyOf_6403c wsJ7_copyOf_6403c { frames := 1, cells := 1, slots := 15, locals := 60 } D E cy X [rAr cy d 10 f] A [.ref d, .int 15, .ref E.2.2.2.2] (fun (q : Nat) => q) (fun (q : Nat) => [rAr cy d 10 f, rAr cy q 15 (va_cpy f (fun _ => none) 0 0 10)]) (fun _ => True) 1 15 := by
  refine r_entry (cc := cJ7_copyOf_6403c) (maxL := 4) (ret := (some (.array (.object "java/lang/Object")))) (by decide +kernel) rfl (Nat.le_of_ble_eq_true rfl) ?_
  intro p e s m args below meth c ls B
  obtain ⟨S, hr, hlocks, hmi, h, hl⟩ := B
  have hx := S.1
  have hb := S.2.1
  have hts := S.2.2.2.2
  have hl : lv_has ls 4 [(0, .ref d), (1, .int 15), (2, .ref E.2.2.2.2)] := hl
  refine lv_aload_n hx hb dJ7_copyOf_6403c_0 rfl (lv_at hl 2 rfl) ?_
  refine r_ldcM S h (by decide +kernel) dJ7_copyOf_6403c_1 ?_
  refine lv_acmp_ne (rx := some E.2.2.2.2) (ry := some E.2.2.2.2) (tgt := 13) hx hb dJ7_copyOf_6403c_3 (by decide) (fun c1 => absurd rfl c1) (fun c1 => ?_)
  refine lv_iload_n hx hb dJ7_copyOf_6403c_6 rfl (lv_at hl 1 rfl) ?_
  refine r_newq S h (N := 15) (by decide +kernel) (by decide) rfl (by decide) (Nat.le_of_ble_eq_true rfl) (Nat.le_of_ble_eq_true rfl) dJ7_copyOf_6403c_7 (fun n2 H h => ?_)
  have h : rH D E cy X [rAr cy d 10 f, rAr cy n2 15 (fun _ => none)] A s H _ := h
  refine lv_goto (tgt := 24) hx hb dJ7_copyOf_6403c_10 (by decide) ?_
  refine lv_astore_n (lv' := [(3, .ref n2), (0, .ref d), (1, .int 15), (2, .ref E.2.2.2.2)]) hx hb dJ7_copyOf_6403c_24 rfl hl (by decide) rfl (fun ls hl => ?_)
  refine lv_aload_n hx hb dJ7_copyOf_6403c_25 rfl (lv_at hl 1 rfl) ?_
  refine lv_iconst (v := 0) hx hb dJ7_copyOf_6403c_26 (by decide) ?_
  refine lv_aload_n hx hb dJ7_copyOf_6403c_27 rfl (lv_at hl 0 rfl) ?_
  refine lv_iconst (v := 0) hx hb dJ7_copyOf_6403c_28 (by decide) ?_
  refine lv_aload_n hx hb dJ7_copyOf_6403c_29 rfl (lv_at hl 1 rfl) ?_
  refine r_alenq S h (v := Int32.ofNat 10) 0 rfl rfl dJ7_copyOf_6403c_30 ?_
  refine lv_topi (fun x3 ex3 => ?_)
  obtain rfl : x3 = 10 := by rw [ex3]; rfl
  refine lv_iload_n hx hb dJ7_copyOf_6403c_31 rfl (lv_at hl 2 rfl) ?_
  refine va_mmin hx hb (S.2.2.1.trans hl.1.symm) S.2.2.2.1 (hts (.methodLink RJ7 304 Lib.Math.min.name) (by decide +kernel)) (hts (.static Lib.Math.min.name) (by decide +kernel)) (hts (.initialized "java/lang/Math") (by decide +kernel)) (hts (.code Lib.Math.min.name Lib.Math.min.code 2 (some .int)) (by decide +kernel)) (Nat.le_of_ble_eq_true rfl) (Nat.le_of_ble_eq_true rfl) (Nat.le_of_ble_eq_true rfl) (Nat.le_of_ble_eq_true rfl) dJ7_copyOf_6403c_32 ?_
  refine lv_topi (fun x4 ex4 => ?_)
  obtain rfl : x4 = 10 := by rw [ex4]; decide
  refine r_copyq S h hl.1 0 1 rfl rfl (N := 10) (by decide) rfl (by decide) (by decide) hf (by decide +kernel) (by decide +kernel) (by decide +kernel) (by decide +kernel) (Nat.le_of_ble_eq_true rfl) (by decide) dJ7_copyOf_6403c_35 (fun H locs h => ?_)
  have h : rH D E cy X [rAr cy d 10 f, rAr cy n2 15 (va_cpy f (fun _ => none) 0 0 10)] A s H _ := h
  refine lv_aload_n hx hb dJ7_copyOf_6403c_38 rfl (lv_at hl 0 rfl) ?_
  exact r_retr S h (Or.inr ⟨_, rfl⟩) n2 rfl trivial hr hlocks rfl ⟨Nat.le_of_ble_eq_true rfl, Nat.le_of_ble_eq_true rfl⟩ dJ7_copyOf_6403c_39
set_option maxHeartbeats 4000000 in
set_option maxRecDepth 100000 in
/-- copyOf, 10 to 15 -/
theorem k_copyB10 (l : Launch) (D : va_G) (E : rEn) (cy : rC) (X : va_W) (A : Nat → Prop) (d : Nat) (f : Nat → Option Nat) (hf : rCa E f) : rMr l yJ7_copyOf_1904c wsJ7_copyOf_1904c { frames := 2, cells := 1, slots := 15, locals := 83 } D E cy X [rAr cy d 10 f] A [.ref d, .int 15] (fun (q : Nat) => q) (fun (q : Nat) => [rAr cy d 10 f, rAr cy q 15 (va_cpy f (fun _ => none) 0 0 10)]) (fun _ => True) 1 15 := by
  refine r_entry (cc := cJ7_copyOf_1904c) (maxL := 2) (ret := (some (.array (.object "java/lang/Object")))) (by decide +kernel) rfl (Nat.le_of_ble_eq_true rfl) ?_
  intro p e s m args below meth c ls B
  obtain ⟨S, hr, hlocks, hmi, h, hl⟩ := B
  have hx := S.1
  have hb := S.2.1
  have hts := S.2.2.2.2
  have hl : lv_has ls 2 [(0, .ref d), (1, .int 15)] := hl
  refine lv_aload_n hx hb dJ7_copyOf_1904c_0 rfl (lv_at hl 0 rfl) ?_
  refine lv_iload_n hx hb dJ7_copyOf_1904c_1 rfl (lv_at hl 1 rfl) ?_
  refine lv_aload_n hx hb dJ7_copyOf_1904c_2 rfl (lv_at hl 0 rfl) ?_
  refine r_gc S h hl.1 (Or.inl ⟨0, _, _, rfl⟩) (by decide +kernel) (by decide +kernel) (by decide +kernel) (by decide +kernel) (Nat.le_of_ble_eq_true rfl) (Nat.le_of_ble_eq_true rfl) dJ7_copyOf_1904c_3 ?_
  refine r_callrS S h (k_copyC10 l D E cy _ A d f hf) (cwS 3 hts gJ7_copyOf_1904c_J7_copyOf_6403c rfl rfl rfl (by decide +kernel) ⟨Nat.le_of_ble_eq_true rfl, Nat.le_of_ble_eq_true rfl⟩) (r_preS h [] [0] (wr := []) (wc := [rAr cy d 10 f]) rfl rfl rfl _) rfl hl.1 rfl (Nat.le_of_ble_eq_true rfl) dJ7_copyOf_1904c_6 ⟨Nat.le_of_ble_eq_true rfl, Nat.le_of_ble_eq_true rfl⟩ (fun u1 H locs k2 h => ?_)
  obtain ⟨n3, rfl⟩ : ∃ z, z = u1 := ⟨_, rfl⟩
  have h : rH D E cy X [rAr cy d 10 f, rAr cy n3 15 (va_cpy f (fun _ => none) 0 0 10)] A s H _ := h
  exact r_retr S h (Or.inr ⟨_, rfl⟩) n3 rfl trivial hr hlocks rfl ⟨Nat.le_of_ble_eq_true rfl, Nat.le_of_ble_eq_true rfl⟩ dJ7_copyOf_1904c_9
set_option maxHeartbeats 4000000 in
set_option maxRecDepth 100000 in
/-- grow of 10 -/
theorem k_grow1G10 (l : Launch) (D : va_G) (E : rEn) (cy : rC) (X : va_W) (A : Nat → Prop) (a d : Nat) (mo : Int32) (f : Nat → Option Nat) (hf : rCa E f) : rMr l yJx4a65c_grow_92f84 wsJx4a65c_grow_92f84 { frames := 3, cells := 1, slots := 15, locals := 104 } D E cy X [(a, .inr (1, [.int mo, .ref d, .int 10])), rAr cy d 10 f] A [.ref a, .int 11] (fun (q : Nat) => q) (fun (q : Nat) => [(a, .inr (1, [.int mo, .ref q, .int 10])), rAr cy q 15 (va_cpy f (fun _ => none) 0 0 10)]) (fun _ => True) 1 15 := by
  refine r_entry (cc := cJx4a65c_grow_92f84) (maxL := 4) (ret := (some (.array (.object "java/lang/Object")))) (by decide +kernel) rfl (Nat.le_of_ble_eq_true rfl) ?_
  intro p e s m args below meth c ls B
  obtain ⟨S, hr, hlocks, hmi, h, hl⟩ := B
  have hx := S.1
  have hb := S.2.1
  have hts := S.2.2.2.2
  have inJx4a65c : ∀ w ∈ wsJx4a65c0, w ∈ wsJx4a65c_grow_92f84 := by decide +kernel
  have hl : lv_has ls 4 [(0, .ref a), (1, .int 11)] := hl
  refine lv_aload_n hx hb dJx4a65c_grow_92f84_0 rfl (lv_at hl 0 rfl) ?_
  refine r_get S h 0 inJx4a65c (ref := "java/util/ArrayList") rfl rfl (k := 1) (by decide) (by decide +kernel) (fun _ h9 => h9) rfl dJx4a65c_grow_92f84_1 ?_
  refine r_alenq S h (v := Int32.ofNat 10) 1 rfl rfl dJx4a65c_grow_92f84_4 ?_
  refine lv_topi (fun x1 ex1 => ?_)
  obtain rfl : x1 = 10 := by rw [ex1]; rfl
  refine lv_istore_n (lv' := [(2, .int 10), (0, .ref a), (1, .int 11)]) hx hb dJx4a65c_grow_92f84_5 rfl hl (by decide) rfl (fun ls hl => ?_)
  refine lv_iload_n hx hb dJx4a65c_grow_92f84_6 rfl (lv_at hl 0 rfl) ?_
  refine lv_if_gt (tgt := 20) hx hb dJx4a65c_grow_92f84_7 (by decide) (fun c2 => ?_) (fun c2 => absurd (by decide) c2)
  refine lv_iload_n hx hb dJx4a65c_grow_92f84_20 rfl (lv_at hl 0 rfl) ?_
  refine lv_iload_n hx hb dJx4a65c_grow_92f84_21 rfl (lv_at hl 2 rfl) ?_
  refine lv_iload_n hx hb dJx4a65c_grow_92f84_22 rfl (lv_at hl 0 rfl) ?_
  refine lv_isub hx hb dJx4a65c_grow_92f84_23 ?_
  refine lv_topi (fun x3 ex3 => ?_)
  obtain rfl : x3 = 1 := by rw [ex3]; decide
  refine lv_iload_n hx hb dJx4a65c_grow_92f84_24 rfl (lv_at hl 0 rfl) ?_
  refine lv_iconst (v := 1) hx hb dJx4a65c_grow_92f84_25 (by decide) ?_
  refine lv_ishr hx hb dJx4a65c_grow_92f84_26 ?_
  refine lv_topi (fun x4 ex4 => ?_)
  obtain rfl : x4 = 5 := by rw [ex4]; decide
  refine r_calliS S h (k_newLen10 l D E cy _ A ) (va_cwS 3 hts gJx4a65c_grow_92f84_J8_newLength_cabcc rfl rfl rfl (by decide +kernel) ⟨Nat.le_of_ble_eq_true rfl, Nat.le_of_ble_eq_true rfl⟩) (r_preS h [0, 1] [] (wr := [(a, .inr (1, [.int mo, .ref d, .int 10])), rAr cy d 10 f]) (wc := []) rfl rfl rfl _) rfl hl.1 rfl (Nat.le_of_ble_eq_true rfl) dJx4a65c_grow_92f84_27 ⟨Nat.le_of_ble_eq_true rfl, Nat.le_of_ble_eq_true rfl⟩ (fun u5 H locs k6 h => ?_)
  have h : rH D E cy X [(a, .inr (1, [.int mo, .ref d, .int 10])), rAr cy d 10 f] A s H _ := h
  refine lv_istore_n (lv' := [(3, .int 15), (2, .int 10), (0, .ref a), (1, .int 11)]) hx hb dJx4a65c_grow_92f84_30 rfl hl (by decide) rfl (fun ls hl => ?_)
  refine lv_aload_n hx hb dJx4a65c_grow_92f84_31 rfl (lv_at hl 2 rfl) ?_
  refine lv_aload_n hx hb dJx4a65c_grow_92f84_32 rfl (lv_at hl 2 rfl) ?_
  refine r_get S h 0 inJx4a65c (ref := "java/util/ArrayList") rfl rfl (k := 1) (by decide) (by decide +kernel) (fun _ h9 => h9) rfl dJx4a65c_grow_92f84_33 ?_
  refine lv_iload_n hx hb dJx4a65c_grow_92f84_36 rfl (lv_at hl 0 rfl) ?_
  refine r_callrS S h (k_copyB10 l D E cy _ A d f hf) (va_cwS 2 hts gJx4a65c_grow_92f84_J7_copyOf_1904c rfl rfl rfl (by decide +kernel) ⟨Nat.le_of_ble_eq_true rfl, Nat.le_of_ble_eq_true rfl⟩) (r_preS h [0] [1] (wr := [(a, .inr (1, [.int mo, .ref d, .int 10]))]) (wc := [rAr cy d 10 f]) rfl rfl rfl _) rfl hl.1 rfl (Nat.le_of_ble_eq_true rfl) dJx4a65c_grow_92f84_37 ⟨Nat.le_of_ble_eq_true rfl, Nat.le_of_ble_eq_true rfl⟩ (fun u7 H locs k8 h => ?_)
  obtain ⟨n9, rfl⟩ : ∃ z, z = u7 := ⟨_, rfl⟩
  have h : rH D E cy X [(a, .inr (1, [.int mo, .ref d, .int 10])), rAr cy d 10 f, rAr cy n9 15 (va_cpy f (fun _ => none) 0 0 10)] A s H _ := h
  refine lv_dup_x1 hx hb dJx4a65c_grow_92f84_40 rfl rfl ?_
  refine r_put S h 0 tyJx4a65c tyJx4a65c_ok nmJx4a65c inJx4a65c (ref := "java/util/ArrayList") rfl rfl (k := 1) (by decide) (by decide +kernel) (fun _ h9 => h9) rfl rfl rfl rfl (Nat.le_of_ble_eq_true rfl) dJx4a65c_grow_92f84_41 (fun H locs h => ?_)
  have h : rH D E cy X [(a, .inr (1, [.int mo, .ref n9, .int 10])), rAr cy d 10 f, rAr cy n9 15 (va_cpy f (fun _ => none) 0 0 10)] A s H _ := h
  have h := h.pick [0, 2] (w := [(a, .inr (1, [.int mo, .ref n9, .int 10])), rAr cy n9 15 (va_cpy f (fun _ => none) 0 0 10)]) rfl rfl
  exact r_retr S h (Or.inr ⟨_, rfl⟩) n9 rfl trivial hr hlocks rfl ⟨Nat.le_of_ble_eq_true rfl, Nat.le_of_ble_eq_true rfl⟩ dJx4a65c_grow_92f84_44
set_option maxHeartbeats 4000000 in
set_option maxRecDepth 100000 in
/-- grow of 10 -/
theorem k_growG10 (l : Launch) (D : va_G) (E : rEn) (cy : rC) (X : va_W) (A : Nat → Prop) (a d : Nat) (mo : Int32) (f : Nat → Option Nat) (hf : rCa E f) : rMr l yJx4a65c_grow_d5877 wsJx4a65c_grow_d5877 { frames := 4, cells := 1, slots := 15, locals := 127 } D E cy X [(a, .inr (1, [.int mo, .ref d, .int 10])), rAr cy d 10 f] A [.ref a] (fun (q : Nat) => q) (fun (q : Nat) => [(a, .inr (1, [.int mo, .ref q, .int 10])), rAr cy q 15 (va_cpy f (fun _ => none) 0 0 10)]) (fun _ => True) 1 15 := by
  refine r_entry (cc := cJx4a65c_grow_d5877) (maxL := 1) (ret := (some (.array (.object "java/lang/Object")))) (by decide +kernel) rfl (Nat.le_of_ble_eq_true rfl) ?_
  intro p e s m args below meth c ls B
  obtain ⟨S, hr, hlocks, hmi, h, hl⟩ := B
  have hx := S.1
  have hb := S.2.1
  have hts := S.2.2.2.2
  have inJx4a65c : ∀ w ∈ wsJx4a65c0, w ∈ wsJx4a65c_grow_d5877 := by decide +kernel
  have hl : lv_has ls 1 [(0, .ref a)] := hl
  refine lv_aload_n hx hb dJx4a65c_grow_d5877_0 rfl (lv_at hl 0 rfl) ?_
  refine lv_aload_n hx hb dJx4a65c_grow_d5877_1 rfl (lv_at hl 0 rfl) ?_
  refine r_get S h 0 inJx4a65c (ref := "java/util/ArrayList") rfl rfl (k := 2) (by decide) (by decide +kernel) (fun _ h9 => h9) rfl dJx4a65c_grow_d5877_2 ?_
  refine lv_iconst (v := 1) hx hb dJx4a65c_grow_d5877_5 (by decide) ?_
  refine lv_iadd hx hb dJx4a65c_grow_d5877_6 ?_
  refine lv_topi (fun x1 ex1 => ?_)
  obtain rfl : x1 = 11 := by rw [ex1]; decide
  refine r_callr S h (k_grow1G10 l D E cy _ A a d mo f hf) (cwV 1 hts gJx4a65c_grow_d5877_Jx4a65c_grow_92f84 rfl rfl rfl (by decide +kernel) ⟨Nat.le_of_ble_eq_true rfl, Nat.le_of_ble_eq_true rfl⟩) (r_preV h [] [0, 1] (wr := []) (wc := [(a, .inr (1, [.int mo, .ref d, .int 10])), rAr cy d 10 f]) rfl rfl rfl 0 rfl rfl _) rfl hl.1 rfl (Nat.le_of_ble_eq_true rfl) dJx4a65c_grow_d5877_7 ⟨Nat.le_of_ble_eq_true rfl, Nat.le_of_ble_eq_true rfl⟩ (fun u2 H locs k3 h => ?_)
  obtain ⟨n4, rfl⟩ : ∃ z, z = u2 := ⟨_, rfl⟩
  have h : rH D E cy X [(a, .inr (1, [.int mo, .ref n4, .int 10])), rAr cy n4 15 (va_cpy f (fun _ => none) 0 0 10)] A s H _ := h
  exact r_retr S h (Or.inr ⟨_, rfl⟩) n4 rfl trivial hr hlocks rfl ⟨Nat.le_of_ble_eq_true rfl, Nat.le_of_ble_eq_true rfl⟩ dJx4a65c_grow_d5877_10
set_option maxHeartbeats 4000000 in
set_option maxRecDepth 100000 in
/-- add at 10 -/
theorem k_add3G10 (l : Launch) (D : va_G) (E : rEn) (cy : rC) (X : va_W) (A : Nat → Prop) (a v d : Nat) (mo : Int32) (f : Nat → Option Nat) (C : String) (hv : rEl E X C v) (hca : ∀ U : State, rS E U → va_Nw (.castable C "java/lang/Object") U) (hf : rCa E f) : rMv l yJx4a65c_add_72be8 wsJx4a65c_add_72be8 { frames := 5, cells := 1, slots := 15, locals := 147 } D E cy X [(a, .inr (1, [.int mo, .ref d, .int 10])), rAr cy d 10 f] A [.ref a, .ref v, .ref d, .int 10] (fun (q : Nat) => [(a, .inr (1, [.int mo, .ref q, .int 11])), rAr cy q 15 (va_up (va_cpy f (fun _ => none) 0 0 10) 10 (some v))]) (fun _ => True) 1 15 := by
  refine r_entry (cc := cJx4a65c_add_72be8) (maxL := 4) (ret := none) (by decide +kernel) rfl (Nat.le_of_ble_eq_true rfl) ?_
  intro p e s m args below meth c ls B
  obtain ⟨S, hr, hlocks, hmi, h, hl⟩ := B
  have hx := S.1
  have hb := S.2.1
  have hts := S.2.2.2.2
  have inJx4a65c : ∀ w ∈ wsJx4a65c0, w ∈ wsJx4a65c_add_72be8 := by decide +kernel
  have hl : lv_has ls 4 [(0, .ref a), (1, .ref v), (2, .ref d), (3, .int 10)] := hl
  refine lv_iload_n hx hb dJx4a65c_add_72be8_0 rfl (lv_at hl 3 rfl) ?_
  refine lv_aload_n hx hb dJx4a65c_add_72be8_1 rfl (lv_at hl 2 rfl) ?_
  refine r_alenq S h (v := Int32.ofNat 10) 1 rfl rfl dJx4a65c_add_72be8_2 ?_
  refine lv_topi (fun x1 ex1 => ?_)
  obtain rfl : x1 = 10 := by rw [ex1]; rfl
  refine lv_icmp_ne (tgt := 11) hx hb dJx4a65c_add_72be8_3 (by decide) (fun c2 => absurd (by decide) c2) (fun c2 => ?_)
  refine lv_aload_n hx hb dJx4a65c_add_72be8_6 rfl (lv_at hl 0 rfl) ?_
  refine r_callr S h (k_growG10 l D E cy _ A a d mo f hf) (cwV 0 hts gJx4a65c_add_72be8_Jx4a65c_grow_d5877 rfl rfl rfl (by decide +kernel) ⟨Nat.le_of_ble_eq_true rfl, Nat.le_of_ble_eq_true rfl⟩) (r_preV h [] [0, 1] (wr := []) (wc := [(a, .inr (1, [.int mo, .ref d, .int 10])), rAr cy d 10 f]) rfl rfl rfl 0 rfl rfl _) rfl hl.1 rfl (Nat.le_of_ble_eq_true rfl) dJx4a65c_add_72be8_7 ⟨Nat.le_of_ble_eq_true rfl, Nat.le_of_ble_eq_true rfl⟩ (fun u3 H locs k4 h => ?_)
  obtain ⟨n5, rfl⟩ : ∃ z, z = u3 := ⟨_, rfl⟩
  have h : rH D E cy X [(a, .inr (1, [.int mo, .ref n5, .int 10])), rAr cy n5 15 (va_cpy f (fun _ => none) 0 0 10)] A s H _ := h
  refine lv_astore_n (lv' := [(2, .ref n5), (0, .ref a), (1, .ref v), (3, .int 10)]) hx hb dJx4a65c_add_72be8_10 rfl hl (by decide) rfl (fun ls hl => ?_)
  refine lv_aload_n hx hb dJx4a65c_add_72be8_11 rfl (lv_at hl 0 rfl) ?_
  refine lv_iload_n hx hb dJx4a65c_add_72be8_12 rfl (lv_at hl 3 rfl) ?_
  refine lv_aload_n hx hb dJx4a65c_add_72be8_13 rfl (lv_at hl 2 rfl) ?_
  refine r_aast S h 1 rfl hv (hca s h.2.2.2.1.2) (by unfold vp_in; decide) dJx4a65c_add_72be8_14 (fun H locs h => ?_)
  have h : rH D E cy X [(a, .inr (1, [.int mo, .ref n5, .int 10])), rAr cy n5 15 (va_up (va_cpy f (fun _ => none) 0 0 10) 10 (some v))] A s H _ := h
  refine lv_aload_n hx hb dJx4a65c_add_72be8_15 rfl (lv_at hl 1 rfl) ?_
  refine lv_iload_n hx hb dJx4a65c_add_72be8_16 rfl (lv_at hl 3 rfl) ?_
  refine lv_iconst (v := 1) hx hb dJx4a65c_add_72be8_17 (by decide) ?_
  refine lv_iadd hx hb dJx4a65c_add_72be8_18 ?_
  refine lv_topi (fun x6 ex6 => ?_)
  obtain rfl : x6 = 11 := by rw [ex6]; decide
  refine r_put S h 0 tyJx4a65c tyJx4a65c_ok nmJx4a65c inJx4a65c (ref := "java/util/ArrayList") rfl rfl (k := 2) (by decide) (by decide +kernel) (fun _ h9 => h9) rfl rfl rfl rfl (Nat.le_of_ble_eq_true rfl) dJx4a65c_add_72be8_19 (fun H locs h => ?_)
  have h : rH D E cy X [(a, .inr (1, [.int mo, .ref n5, .int 11])), rAr cy n5 15 (va_up (va_cpy f (fun _ => none) 0 0 10) 10 (some v))] A s H _ := h
  exact r_retv S h n5 rfl trivial hr hlocks ⟨Nat.le_of_ble_eq_true rfl, Nat.le_of_ble_eq_true rfl⟩ dJx4a65c_add_72be8_22
set_option maxHeartbeats 4000000 in
set_option maxRecDepth 100000 in
/-- add at 10 -/
theorem k_addG10 (l : Launch) (D : va_G) (E : rEn) (cy : rC) (X : va_W) (A : Nat → Prop) (a v d : Nat) (f : Nat → Option Nat) (C : String) (hv : rEl E X C v) (hca : ∀ U : State, rS E U → va_Nw (.castable C "java/lang/Object") U) (hf : rCa E f) : rMi l yJx4a65c_add_9ea2d wsJx4a65c_add_9ea2d { frames := 6, cells := 1, slots := 15, locals := 170 } D E cy X [(a, .inr (1, [.int 10, .ref d, .int 10])), rAr cy d 10 f] A [.ref a, .ref v] 1 (fun (q : Nat) => [(a, .inr (1, [.int 11, .ref q, .int 11])), rAr cy q 15 (va_up (va_cpy f (fun _ => none) 0 0 10) 10 (some v))]) (fun _ => True) 1 15 := by
  refine r_entry (cc := cJx4a65c_add_9ea2d) (maxL := 2) (ret := (some .boolean)) (by decide +kernel) rfl (Nat.le_of_ble_eq_true rfl) ?_
  intro p e s m args below meth c ls B
  obtain ⟨S, hr, hlocks, hmi, h, hl⟩ := B
  have hx := S.1
  have hb := S.2.1
  have hts := S.2.2.2.2
  have inJx4a65c : ∀ w ∈ wsJx4a65c0, w ∈ wsJx4a65c_add_9ea2d := by decide +kernel
  have hl : lv_has ls 2 [(0, .ref a), (1, .ref v)] := hl
  refine lv_aload_n hx hb dJx4a65c_add_9ea2d_0 rfl (lv_at hl 0 rfl) ?_
  refine lv_dup hx hb dJx4a65c_add_9ea2d_1 rfl ?_
  refine r_get S h 0 inJx4a65c (ref := "java/util/ArrayList") rfl rfl (k := 0) (by decide) (by decide +kernel) (fun x9 h9 => u_same (hts (.sameField "java/util/ArrayList" "java/util/AbstractList" "modCount" "I") (by decide +kernel)) x9 h9) rfl dJx4a65c_add_9ea2d_2 ?_
  refine lv_iconst (v := 1) hx hb dJx4a65c_add_9ea2d_5 (by decide) ?_
  refine lv_iadd hx hb dJx4a65c_add_9ea2d_6 ?_
  refine lv_topi (fun x1 ex1 => ?_)
  obtain rfl : x1 = 11 := by rw [ex1]; decide
  refine r_put S h 0 tyJx4a65c tyJx4a65c_ok nmJx4a65c inJx4a65c (ref := "java/util/ArrayList") rfl rfl (k := 0) (by decide) (by decide +kernel) (fun x9 h9 => u_same (hts (.sameField "java/util/ArrayList" "java/util/AbstractList" "modCount" "I") (by decide +kernel)) x9 h9) rfl rfl rfl rfl (Nat.le_of_ble_eq_true rfl) dJx4a65c_add_9ea2d_7 (fun H locs h => ?_)
  have h : rH D E cy X [(a, .inr (1, [.int 11, .ref d, .int 10])), rAr cy d 10 f] A s H _ := h
  refine lv_aload_n hx hb dJx4a65c_add_9ea2d_10 rfl (lv_at hl 0 rfl) ?_
  refine lv_aload_n hx hb dJx4a65c_add_9ea2d_11 rfl (lv_at hl 1 rfl) ?_
  refine lv_aload_n hx hb dJx4a65c_add_9ea2d_12 rfl (lv_at hl 0 rfl) ?_
  refine r_get S h 0 inJx4a65c (ref := "java/util/ArrayList") rfl rfl (k := 1) (by decide) (by decide +kernel) (fun _ h9 => h9) rfl dJx4a65c_add_9ea2d_13 ?_
  refine lv_aload_n hx hb dJx4a65c_add_9ea2d_16 rfl (lv_at hl 0 rfl) ?_
  refine r_get S h 0 inJx4a65c (ref := "java/util/ArrayList") rfl rfl (k := 2) (by decide) (by decide +kernel) (fun _ h9 => h9) rfl dJx4a65c_add_9ea2d_17 ?_
  refine r_callv S h (k_add3G10 l D E cy _ A a v d 11 f C hv.app hca hf) (cwV 3 hts gJx4a65c_add_9ea2d_Jx4a65c_add_72be8 rfl rfl rfl (by decide +kernel) ⟨Nat.le_of_ble_eq_true rfl, Nat.le_of_ble_eq_true rfl⟩) (r_preV h [] [0, 1] (wr := []) (wc := [(a, .inr (1, [.int 11, .ref d, .int 10])), rAr cy d 10 f]) rfl rfl rfl 0 rfl rfl _) rfl hl.1 rfl (Nat.le_of_ble_eq_true rfl) dJx4a65c_add_9ea2d_20 ⟨Nat.le_of_ble_eq_true rfl, Nat.le_of_ble_eq_true rfl⟩ (fun u2 H locs k3 h => ?_)
  obtain ⟨n4, rfl⟩ : ∃ z, z = u2 := ⟨_, rfl⟩
  have h : rH D E cy X [(a, .inr (1, [.int 11, .ref n4, .int 11])), rAr cy n4 15 (va_up (va_cpy f (fun _ => none) 0 0 10) 10 (some v))] A s H _ := h
  refine lv_iconst (v := 1) hx hb dJx4a65c_add_9ea2d_23 (by decide) ?_
  exact r_reti S h n4 rfl trivial hr hlocks rfl (rfl) ⟨Nat.le_of_ble_eq_true rfl, Nat.le_of_ble_eq_true rfl⟩ dJx4a65c_add_9ea2d_24
set_option maxHeartbeats 4000000 in
set_option maxRecDepth 100000 in
/-- copyOf, 13 to 19 -/
theorem k_copyC13 (l : Launch) (D : va_G) (E : rEn) (cy : rC) (X : va_W) (A : Nat → Prop) (d : Nat) (f : Nat → Option Nat) (hf : rCa E f) : rMr l yJ7_copyOf_6403c wsJ7_copyOf_6403c { frames := 1, cells := 1, slots := 19, locals := 60 } D E cy X [rAr cy d 13 f] A [.ref d, .int 19, .ref E.2.2.2.2] (fun (q : Nat) => q) (fun (q : Nat) => [rAr cy d 13 f, rAr cy q 19 (va_cpy f (fun _ => none) 0 0 13)]) (fun _ => True) 1 19 := by
  refine r_entry (cc := cJ7_copyOf_6403c) (maxL := 4) (ret := (some (.array (.object "java/lang/Object")))) (by decide +kernel) rfl (Nat.le_of_ble_eq_true rfl) ?_
  intro p e s m args below meth c ls B
  obtain ⟨S, hr, hlocks, hmi, h, hl⟩ := B
  have hx := S.1
  have hb := S.2.1
  have hts := S.2.2.2.2
  have hl : lv_has ls 4 [(0, .ref d), (1, .int 19), (2, .ref E.2.2.2.2)] := hl
  refine lv_aload_n hx hb dJ7_copyOf_6403c_0 rfl (lv_at hl 2 rfl) ?_
  refine r_ldcM S h (by decide +kernel) dJ7_copyOf_6403c_1 ?_
  refine lv_acmp_ne (rx := some E.2.2.2.2) (ry := some E.2.2.2.2) (tgt := 13) hx hb dJ7_copyOf_6403c_3 (by decide) (fun c1 => absurd rfl c1) (fun c1 => ?_)
  refine lv_iload_n hx hb dJ7_copyOf_6403c_6 rfl (lv_at hl 1 rfl) ?_
  refine r_newq S h (N := 19) (by decide +kernel) (by decide) rfl (by decide) (Nat.le_of_ble_eq_true rfl) (Nat.le_of_ble_eq_true rfl) dJ7_copyOf_6403c_7 (fun n2 H h => ?_)
  have h : rH D E cy X [rAr cy d 13 f, rAr cy n2 19 (fun _ => none)] A s H _ := h
  refine lv_goto (tgt := 24) hx hb dJ7_copyOf_6403c_10 (by decide) ?_
  refine lv_astore_n (lv' := [(3, .ref n2), (0, .ref d), (1, .int 19), (2, .ref E.2.2.2.2)]) hx hb dJ7_copyOf_6403c_24 rfl hl (by decide) rfl (fun ls hl => ?_)
  refine lv_aload_n hx hb dJ7_copyOf_6403c_25 rfl (lv_at hl 1 rfl) ?_
  refine lv_iconst (v := 0) hx hb dJ7_copyOf_6403c_26 (by decide) ?_
  refine lv_aload_n hx hb dJ7_copyOf_6403c_27 rfl (lv_at hl 0 rfl) ?_
  refine lv_iconst (v := 0) hx hb dJ7_copyOf_6403c_28 (by decide) ?_
  refine lv_aload_n hx hb dJ7_copyOf_6403c_29 rfl (lv_at hl 1 rfl) ?_
  refine r_alenq S h (v := Int32.ofNat 13) 0 rfl rfl dJ7_copyOf_6403c_30 ?_
  refine lv_topi (fun x3 ex3 => ?_)
  obtain rfl : x3 = 13 := by rw [ex3]; rfl
  refine lv_iload_n hx hb dJ7_copyOf_6403c_31 rfl (lv_at hl 2 rfl) ?_
  refine va_mmin hx hb (S.2.2.1.trans hl.1.symm) S.2.2.2.1 (hts (.methodLink RJ7 304 Lib.Math.min.name) (by decide +kernel)) (hts (.static Lib.Math.min.name) (by decide +kernel)) (hts (.initialized "java/lang/Math") (by decide +kernel)) (hts (.code Lib.Math.min.name Lib.Math.min.code 2 (some .int)) (by decide +kernel)) (Nat.le_of_ble_eq_true rfl) (Nat.le_of_ble_eq_true rfl) (Nat.le_of_ble_eq_true rfl) (Nat.le_of_ble_eq_true rfl) dJ7_copyOf_6403c_32 ?_
  refine lv_topi (fun x4 ex4 => ?_)
  obtain rfl : x4 = 13 := by rw [ex4]; decide
  refine r_copyq S h hl.1 0 1 rfl rfl (N := 13) (by decide) rfl (by decide) (by decide) hf (by decide +kernel) (by decide +kernel) (by decide +kernel) (by decide +kernel) (Nat.le_of_ble_eq_true rfl) (by decide) dJ7_copyOf_6403c_35 (fun H locs h => ?_)
  have h : rH D E cy X [rAr cy d 13 f, rAr cy n2 19 (va_cpy f (fun _ => none) 0 0 13)] A s H _ := h
  refine lv_aload_n hx hb dJ7_copyOf_6403c_38 rfl (lv_at hl 0 rfl) ?_
  exact r_retr S h (Or.inr ⟨_, rfl⟩) n2 rfl trivial hr hlocks rfl ⟨Nat.le_of_ble_eq_true rfl, Nat.le_of_ble_eq_true rfl⟩ dJ7_copyOf_6403c_39
set_option maxHeartbeats 4000000 in
set_option maxRecDepth 100000 in
/-- copyOf, 13 to 19 -/
theorem k_copyB13 (l : Launch) (D : va_G) (E : rEn) (cy : rC) (X : va_W) (A : Nat → Prop) (d : Nat) (f : Nat → Option Nat) (hf : rCa E f) : rMr l yJ7_copyOf_1904c wsJ7_copyOf_1904c { frames := 2, cells := 1, slots := 19, locals := 83 } D E cy X [rAr cy d 13 f] A [.ref d, .int 19] (fun (q : Nat) => q) (fun (q : Nat) => [rAr cy d 13 f, rAr cy q 19 (va_cpy f (fun _ => none) 0 0 13)]) (fun _ => True) 1 19 := by
  refine r_entry (cc := cJ7_copyOf_1904c) (maxL := 2) (ret := (some (.array (.object "java/lang/Object")))) (by decide +kernel) rfl (Nat.le_of_ble_eq_true rfl) ?_
  intro p e s m args below meth c ls B
  obtain ⟨S, hr, hlocks, hmi, h, hl⟩ := B
  have hx := S.1
  have hb := S.2.1
  have hts := S.2.2.2.2
  have hl : lv_has ls 2 [(0, .ref d), (1, .int 19)] := hl
  refine lv_aload_n hx hb dJ7_copyOf_1904c_0 rfl (lv_at hl 0 rfl) ?_
  refine lv_iload_n hx hb dJ7_copyOf_1904c_1 rfl (lv_at hl 1 rfl) ?_
  refine lv_aload_n hx hb dJ7_copyOf_1904c_2 rfl (lv_at hl 0 rfl) ?_
  refine r_gc S h hl.1 (Or.inl ⟨0, _, _, rfl⟩) (by decide +kernel) (by decide +kernel) (by decide +kernel) (by decide +kernel) (Nat.le_of_ble_eq_true rfl) (Nat.le_of_ble_eq_true rfl) dJ7_copyOf_1904c_3 ?_
  refine r_callrS S h (k_copyC13 l D E cy _ A d f hf) (cwS 3 hts gJ7_copyOf_1904c_J7_copyOf_6403c rfl rfl rfl (by decide +kernel) ⟨Nat.le_of_ble_eq_true rfl, Nat.le_of_ble_eq_true rfl⟩) (r_preS h [] [0] (wr := []) (wc := [rAr cy d 13 f]) rfl rfl rfl _) rfl hl.1 rfl (Nat.le_of_ble_eq_true rfl) dJ7_copyOf_1904c_6 ⟨Nat.le_of_ble_eq_true rfl, Nat.le_of_ble_eq_true rfl⟩ (fun u1 H locs k2 h => ?_)
  obtain ⟨n3, rfl⟩ : ∃ z, z = u1 := ⟨_, rfl⟩
  have h : rH D E cy X [rAr cy d 13 f, rAr cy n3 19 (va_cpy f (fun _ => none) 0 0 13)] A s H _ := h
  exact r_retr S h (Or.inr ⟨_, rfl⟩) n3 rfl trivial hr hlocks rfl ⟨Nat.le_of_ble_eq_true rfl, Nat.le_of_ble_eq_true rfl⟩ dJ7_copyOf_1904c_9
set_option maxHeartbeats 4000000 in
set_option maxRecDepth 100000 in
/-- grow of 13 -/
theorem k_grow1G13 (l : Launch) (D : va_G) (E : rEn) (cy : rC) (X : va_W) (A : Nat → Prop) (a d : Nat) (mo : Int32) (f : Nat → Option Nat) (hf : rCa E f) : rMr l yJx4a65c_grow_92f84 wsJx4a65c_grow_92f84 { frames := 3, cells := 1, slots := 19, locals := 104 } D E cy X [(a, .inr (1, [.int mo, .ref d, .int 13])), rAr cy d 13 f] A [.ref a, .int 14] (fun (q : Nat) => q) (fun (q : Nat) => [(a, .inr (1, [.int mo, .ref q, .int 13])), rAr cy q 19 (va_cpy f (fun _ => none) 0 0 13)]) (fun _ => True) 1 19 := by
  refine r_entry (cc := cJx4a65c_grow_92f84) (maxL := 4) (ret := (some (.array (.object "java/lang/Object")))) (by decide +kernel) rfl (Nat.le_of_ble_eq_true rfl) ?_
  intro p e s m args below meth c ls B
  obtain ⟨S, hr, hlocks, hmi, h, hl⟩ := B
  have hx := S.1
  have hb := S.2.1
  have hts := S.2.2.2.2
  have inJx4a65c : ∀ w ∈ wsJx4a65c0, w ∈ wsJx4a65c_grow_92f84 := by decide +kernel
  have hl : lv_has ls 4 [(0, .ref a), (1, .int 14)] := hl
  refine lv_aload_n hx hb dJx4a65c_grow_92f84_0 rfl (lv_at hl 0 rfl) ?_
  refine r_get S h 0 inJx4a65c (ref := "java/util/ArrayList") rfl rfl (k := 1) (by decide) (by decide +kernel) (fun _ h9 => h9) rfl dJx4a65c_grow_92f84_1 ?_
  refine r_alenq S h (v := Int32.ofNat 13) 1 rfl rfl dJx4a65c_grow_92f84_4 ?_
  refine lv_topi (fun x1 ex1 => ?_)
  obtain rfl : x1 = 13 := by rw [ex1]; rfl
  refine lv_istore_n (lv' := [(2, .int 13), (0, .ref a), (1, .int 14)]) hx hb dJx4a65c_grow_92f84_5 rfl hl (by decide) rfl (fun ls hl => ?_)
  refine lv_iload_n hx hb dJx4a65c_grow_92f84_6 rfl (lv_at hl 0 rfl) ?_
  refine lv_if_gt (tgt := 20) hx hb dJx4a65c_grow_92f84_7 (by decide) (fun c2 => ?_) (fun c2 => absurd (by decide) c2)
  refine lv_iload_n hx hb dJx4a65c_grow_92f84_20 rfl (lv_at hl 0 rfl) ?_
  refine lv_iload_n hx hb dJx4a65c_grow_92f84_21 rfl (lv_at hl 2 rfl) ?_
  refine lv_iload_n hx hb dJx4a65c_grow_92f84_22 rfl (lv_at hl 0 rfl) ?_
  refine lv_isub hx hb dJx4a65c_grow_92f84_23 ?_
  refine lv_topi (fun x3 ex3 => ?_)
  obtain rfl : x3 = 1 := by rw [ex3]; decide
  refine lv_iload_n hx hb dJx4a65c_grow_92f84_24 rfl (lv_at hl 0 rfl) ?_
  refine lv_iconst (v := 1) hx hb dJx4a65c_grow_92f84_25 (by decide) ?_
  refine lv_ishr hx hb dJx4a65c_grow_92f84_26 ?_
  refine lv_topi (fun x4 ex4 => ?_)
  obtain rfl : x4 = 6 := by rw [ex4]; decide
  refine r_calliS S h (k_newLen13 l D E cy _ A ) (va_cwS 3 hts gJx4a65c_grow_92f84_J8_newLength_cabcc rfl rfl rfl (by decide +kernel) ⟨Nat.le_of_ble_eq_true rfl, Nat.le_of_ble_eq_true rfl⟩) (r_preS h [0, 1] [] (wr := [(a, .inr (1, [.int mo, .ref d, .int 13])), rAr cy d 13 f]) (wc := []) rfl rfl rfl _) rfl hl.1 rfl (Nat.le_of_ble_eq_true rfl) dJx4a65c_grow_92f84_27 ⟨Nat.le_of_ble_eq_true rfl, Nat.le_of_ble_eq_true rfl⟩ (fun u5 H locs k6 h => ?_)
  have h : rH D E cy X [(a, .inr (1, [.int mo, .ref d, .int 13])), rAr cy d 13 f] A s H _ := h
  refine lv_istore_n (lv' := [(3, .int 19), (2, .int 13), (0, .ref a), (1, .int 14)]) hx hb dJx4a65c_grow_92f84_30 rfl hl (by decide) rfl (fun ls hl => ?_)
  refine lv_aload_n hx hb dJx4a65c_grow_92f84_31 rfl (lv_at hl 2 rfl) ?_
  refine lv_aload_n hx hb dJx4a65c_grow_92f84_32 rfl (lv_at hl 2 rfl) ?_
  refine r_get S h 0 inJx4a65c (ref := "java/util/ArrayList") rfl rfl (k := 1) (by decide) (by decide +kernel) (fun _ h9 => h9) rfl dJx4a65c_grow_92f84_33 ?_
  refine lv_iload_n hx hb dJx4a65c_grow_92f84_36 rfl (lv_at hl 0 rfl) ?_
  refine r_callrS S h (k_copyB13 l D E cy _ A d f hf) (va_cwS 2 hts gJx4a65c_grow_92f84_J7_copyOf_1904c rfl rfl rfl (by decide +kernel) ⟨Nat.le_of_ble_eq_true rfl, Nat.le_of_ble_eq_true rfl⟩) (r_preS h [0] [1] (wr := [(a, .inr (1, [.int mo, .ref d, .int 13]))]) (wc := [rAr cy d 13 f]) rfl rfl rfl _) rfl hl.1 rfl (Nat.le_of_ble_eq_true rfl) dJx4a65c_grow_92f84_37 ⟨Nat.le_of_ble_eq_true rfl, Nat.le_of_ble_eq_true rfl⟩ (fun u7 H locs k8 h => ?_)
  obtain ⟨n9, rfl⟩ : ∃ z, z = u7 := ⟨_, rfl⟩
  have h : rH D E cy X [(a, .inr (1, [.int mo, .ref d, .int 13])), rAr cy d 13 f, rAr cy n9 19 (va_cpy f (fun _ => none) 0 0 13)] A s H _ := h
  refine lv_dup_x1 hx hb dJx4a65c_grow_92f84_40 rfl rfl ?_
  refine r_put S h 0 tyJx4a65c tyJx4a65c_ok nmJx4a65c inJx4a65c (ref := "java/util/ArrayList") rfl rfl (k := 1) (by decide) (by decide +kernel) (fun _ h9 => h9) rfl rfl rfl rfl (Nat.le_of_ble_eq_true rfl) dJx4a65c_grow_92f84_41 (fun H locs h => ?_)
  have h : rH D E cy X [(a, .inr (1, [.int mo, .ref n9, .int 13])), rAr cy d 13 f, rAr cy n9 19 (va_cpy f (fun _ => none) 0 0 13)] A s H _ := h
  have h := h.pick [0, 2] (w := [(a, .inr (1, [.int mo, .ref n9, .int 13])), rAr cy n9 19 (va_cpy f (fun _ => none) 0 0 13)]) rfl rfl
  exact r_retr S h (Or.inr ⟨_, rfl⟩) n9 rfl trivial hr hlocks rfl ⟨Nat.le_of_ble_eq_true rfl, Nat.le_of_ble_eq_true rfl⟩ dJx4a65c_grow_92f84_44
set_option maxHeartbeats 4000000 in
set_option maxRecDepth 100000 in
/-- grow of 13 -/
theorem k_growG13 (l : Launch) (D : va_G) (E : rEn) (cy : rC) (X : va_W) (A : Nat → Prop) (a d : Nat) (mo : Int32) (f : Nat → Option Nat) (hf : rCa E f) : rMr l yJx4a65c_grow_d5877 wsJx4a65c_grow_d5877 { frames := 4, cells := 1, slots := 19, locals := 127 } D E cy X [(a, .inr (1, [.int mo, .ref d, .int 13])), rAr cy d 13 f] A [.ref a] (fun (q : Nat) => q) (fun (q : Nat) => [(a, .inr (1, [.int mo, .ref q, .int 13])), rAr cy q 19 (va_cpy f (fun _ => none) 0 0 13)]) (fun _ => True) 1 19 := by
  refine r_entry (cc := cJx4a65c_grow_d5877) (maxL := 1) (ret := (some (.array (.object "java/lang/Object")))) (by decide +kernel) rfl (Nat.le_of_ble_eq_true rfl) ?_
  intro p e s m args below meth c ls B
  obtain ⟨S, hr, hlocks, hmi, h, hl⟩ := B
  have hx := S.1
  have hb := S.2.1
  have hts := S.2.2.2.2
  have inJx4a65c : ∀ w ∈ wsJx4a65c0, w ∈ wsJx4a65c_grow_d5877 := by decide +kernel
  have hl : lv_has ls 1 [(0, .ref a)] := hl
  refine lv_aload_n hx hb dJx4a65c_grow_d5877_0 rfl (lv_at hl 0 rfl) ?_
  refine lv_aload_n hx hb dJx4a65c_grow_d5877_1 rfl (lv_at hl 0 rfl) ?_
  refine r_get S h 0 inJx4a65c (ref := "java/util/ArrayList") rfl rfl (k := 2) (by decide) (by decide +kernel) (fun _ h9 => h9) rfl dJx4a65c_grow_d5877_2 ?_
  refine lv_iconst (v := 1) hx hb dJx4a65c_grow_d5877_5 (by decide) ?_
  refine lv_iadd hx hb dJx4a65c_grow_d5877_6 ?_
  refine lv_topi (fun x1 ex1 => ?_)
  obtain rfl : x1 = 14 := by rw [ex1]; decide
  refine r_callr S h (k_grow1G13 l D E cy _ A a d mo f hf) (cwV 1 hts gJx4a65c_grow_d5877_Jx4a65c_grow_92f84 rfl rfl rfl (by decide +kernel) ⟨Nat.le_of_ble_eq_true rfl, Nat.le_of_ble_eq_true rfl⟩) (r_preV h [] [0, 1] (wr := []) (wc := [(a, .inr (1, [.int mo, .ref d, .int 13])), rAr cy d 13 f]) rfl rfl rfl 0 rfl rfl _) rfl hl.1 rfl (Nat.le_of_ble_eq_true rfl) dJx4a65c_grow_d5877_7 ⟨Nat.le_of_ble_eq_true rfl, Nat.le_of_ble_eq_true rfl⟩ (fun u2 H locs k3 h => ?_)
  obtain ⟨n4, rfl⟩ : ∃ z, z = u2 := ⟨_, rfl⟩
  have h : rH D E cy X [(a, .inr (1, [.int mo, .ref n4, .int 13])), rAr cy n4 19 (va_cpy f (fun _ => none) 0 0 13)] A s H _ := h
  exact r_retr S h (Or.inr ⟨_, rfl⟩) n4 rfl trivial hr hlocks rfl ⟨Nat.le_of_ble_eq_true rfl, Nat.le_of_ble_eq_true rfl⟩ dJx4a65c_grow_d5877_10
set_option maxHeartbeats 4000000 in
set_option maxRecDepth 100000 in
/-- add at 13 -/
theorem k_add3G13 (l : Launch) (D : va_G) (E : rEn) (cy : rC) (X : va_W) (A : Nat → Prop) (a v d : Nat) (mo : Int32) (f : Nat → Option Nat) (C : String) (hv : rEl E X C v) (hca : ∀ U : State, rS E U → va_Nw (.castable C "java/lang/Object") U) (hf : rCa E f) : rMv l yJx4a65c_add_72be8 wsJx4a65c_add_72be8 { frames := 5, cells := 1, slots := 19, locals := 147 } D E cy X [(a, .inr (1, [.int mo, .ref d, .int 13])), rAr cy d 13 f] A [.ref a, .ref v, .ref d, .int 13] (fun (q : Nat) => [(a, .inr (1, [.int mo, .ref q, .int 14])), rAr cy q 19 (va_up (va_cpy f (fun _ => none) 0 0 13) 13 (some v))]) (fun _ => True) 1 19 := by
  refine r_entry (cc := cJx4a65c_add_72be8) (maxL := 4) (ret := none) (by decide +kernel) rfl (Nat.le_of_ble_eq_true rfl) ?_
  intro p e s m args below meth c ls B
  obtain ⟨S, hr, hlocks, hmi, h, hl⟩ := B
  have hx := S.1
  have hb := S.2.1
  have hts := S.2.2.2.2
  have inJx4a65c : ∀ w ∈ wsJx4a65c0, w ∈ wsJx4a65c_add_72be8 := by decide +kernel
  have hl : lv_has ls 4 [(0, .ref a), (1, .ref v), (2, .ref d), (3, .int 13)] := hl
  refine lv_iload_n hx hb dJx4a65c_add_72be8_0 rfl (lv_at hl 3 rfl) ?_
  refine lv_aload_n hx hb dJx4a65c_add_72be8_1 rfl (lv_at hl 2 rfl) ?_
  refine r_alenq S h (v := Int32.ofNat 13) 1 rfl rfl dJx4a65c_add_72be8_2 ?_
  refine lv_topi (fun x1 ex1 => ?_)
  obtain rfl : x1 = 13 := by rw [ex1]; rfl
  refine lv_icmp_ne (tgt := 11) hx hb dJx4a65c_add_72be8_3 (by decide) (fun c2 => absurd (by decide) c2) (fun c2 => ?_)
  refine lv_aload_n hx hb dJx4a65c_add_72be8_6 rfl (lv_at hl 0 rfl) ?_
  refine r_callr S h (k_growG13 l D E cy _ A a d mo f hf) (cwV 0 hts gJx4a65c_add_72be8_Jx4a65c_grow_d5877 rfl rfl rfl (by decide +kernel) ⟨Nat.le_of_ble_eq_true rfl, Nat.le_of_ble_eq_true rfl⟩) (r_preV h [] [0, 1] (wr := []) (wc := [(a, .inr (1, [.int mo, .ref d, .int 13])), rAr cy d 13 f]) rfl rfl rfl 0 rfl rfl _) rfl hl.1 rfl (Nat.le_of_ble_eq_true rfl) dJx4a65c_add_72be8_7 ⟨Nat.le_of_ble_eq_true rfl, Nat.le_of_ble_eq_true rfl⟩ (fun u3 H locs k4 h => ?_)
  obtain ⟨n5, rfl⟩ : ∃ z, z = u3 := ⟨_, rfl⟩
  have h : rH D E cy X [(a, .inr (1, [.int mo, .ref n5, .int 13])), rAr cy n5 19 (va_cpy f (fun _ => none) 0 0 13)] A s H _ := h
  refine lv_astore_n (lv' := [(2, .ref n5), (0, .ref a), (1, .ref v), (3, .int 13)]) hx hb dJx4a65c_add_72be8_10 rfl hl (by decide) rfl (fun ls hl => ?_)
  refine lv_aload_n hx hb dJx4a65c_add_72be8_11 rfl (lv_at hl 0 rfl) ?_
  refine lv_iload_n hx hb dJx4a65c_add_72be8_12 rfl (lv_at hl 3 rfl) ?_
  refine lv_aload_n hx hb dJx4a65c_add_72be8_13 rfl (lv_at hl 2 rfl) ?_
  refine r_aast S h 1 rfl hv (hca s h.2.2.2.1.2) (by unfold vp_in; decide) dJx4a65c_add_72be8_14 (fun H locs h => ?_)
  have h : rH D E cy X [(a, .inr (1, [.int mo, .ref n5, .int 13])), rAr cy n5 19 (va_up (va_cpy f (fun _ => none) 0 0 13) 13 (some v))] A s H _ := h
  refine lv_aload_n hx hb dJx4a65c_add_72be8_15 rfl (lv_at hl 1 rfl) ?_
  refine lv_iload_n hx hb dJx4a65c_add_72be8_16 rfl (lv_at hl 3 rfl) ?_
  refine lv_iconst (v := 1) hx hb dJx4a65c_add_72be8_17 (by decide) ?_
  refine lv_iadd hx hb dJx4a65c_add_72be8_18 ?_
  refine lv_topi (fun x6 ex6 => ?_)
  obtain rfl : x6 = 14 := by rw [ex6]; decide
  refine r_put S h 0 tyJx4a65c tyJx4a65c_ok nmJx4a65c inJx4a65c (ref := "java/util/ArrayList") rfl rfl (k := 2) (by decide) (by decide +kernel) (fun _ h9 => h9) rfl rfl rfl rfl (Nat.le_of_ble_eq_true rfl) dJx4a65c_add_72be8_19 (fun H locs h => ?_)
  have h : rH D E cy X [(a, .inr (1, [.int mo, .ref n5, .int 14])), rAr cy n5 19 (va_up (va_cpy f (fun _ => none) 0 0 13) 13 (some v))] A s H _ := h
  exact r_retv S h n5 rfl trivial hr hlocks ⟨Nat.le_of_ble_eq_true rfl, Nat.le_of_ble_eq_true rfl⟩ dJx4a65c_add_72be8_22
set_option maxHeartbeats 4000000 in
set_option maxRecDepth 100000 in
/-- add at 13 -/
theorem k_addG13 (l : Launch) (D : va_G) (E : rEn) (cy : rC) (X : va_W) (A : Nat → Prop) (a v d : Nat) (f : Nat → Option Nat) (C : String) (hv : rEl E X C v) (hca : ∀ U : State, rS E U → va_Nw (.castable C "java/lang/Object") U) (hf : rCa E f) : rMi l yJx4a65c_add_9ea2d wsJx4a65c_add_9ea2d { frames := 6, cells := 1, slots := 19, locals := 170 } D E cy X [(a, .inr (1, [.int 13, .ref d, .int 13])), rAr cy d 13 f] A [.ref a, .ref v] 1 (fun (q : Nat) => [(a, .inr (1, [.int 14, .ref q, .int 14])), rAr cy q 19 (va_up (va_cpy f (fun _ => none) 0 0 13) 13 (some v))]) (fun _ => True) 1 19 := by
  refine r_entry (cc := cJx4a65c_add_9ea2d) (maxL := 2) (ret := (some .boolean)) (by decide +kernel) rfl (Nat.le_of_ble_eq_true rfl) ?_
  intro p e s m args below meth c ls B
  obtain ⟨S, hr, hlocks, hmi, h, hl⟩ := B
  have hx := S.1
  have hb := S.2.1
  have hts := S.2.2.2.2
  have inJx4a65c : ∀ w ∈ wsJx4a65c0, w ∈ wsJx4a65c_add_9ea2d := by decide +kernel
  have hl : lv_has ls 2 [(0, .ref a), (1, .ref v)] := hl
  refine lv_aload_n hx hb dJx4a65c_add_9ea2d_0 rfl (lv_at hl 0 rfl) ?_
  refine lv_dup hx hb dJx4a65c_add_9ea2d_1 rfl ?_
  refine r_get S h 0 inJx4a65c (ref := "java/util/ArrayList") rfl rfl (k := 0) (by decide) (by decide +kernel) (fun x9 h9 => u_same (hts (.sameField "java/util/ArrayList" "java/util/AbstractList" "modCount" "I") (by decide +kernel)) x9 h9) rfl dJx4a65c_add_9ea2d_2 ?_
  refine lv_iconst (v := 1) hx hb dJx4a65c_add_9ea2d_5 (by decide) ?_
  refine lv_iadd hx hb dJx4a65c_add_9ea2d_6 ?_
  refine lv_topi (fun x1 ex1 => ?_)
  obtain rfl : x1 = 14 := by rw [ex1]; decide
  refine r_put S h 0 tyJx4a65c tyJx4a65c_ok nmJx4a65c inJx4a65c (ref := "java/util/ArrayList") rfl rfl (k := 0) (by decide) (by decide +kernel) (fun x9 h9 => u_same (hts (.sameField "java/util/ArrayList" "java/util/AbstractList" "modCount" "I") (by decide +kernel)) x9 h9) rfl rfl rfl rfl (Nat.le_of_ble_eq_true rfl) dJx4a65c_add_9ea2d_7 (fun H locs h => ?_)
  have h : rH D E cy X [(a, .inr (1, [.int 14, .ref d, .int 13])), rAr cy d 13 f] A s H _ := h
  refine lv_aload_n hx hb dJx4a65c_add_9ea2d_10 rfl (lv_at hl 0 rfl) ?_
  refine lv_aload_n hx hb dJx4a65c_add_9ea2d_11 rfl (lv_at hl 1 rfl) ?_
  refine lv_aload_n hx hb dJx4a65c_add_9ea2d_12 rfl (lv_at hl 0 rfl) ?_
  refine r_get S h 0 inJx4a65c (ref := "java/util/ArrayList") rfl rfl (k := 1) (by decide) (by decide +kernel) (fun _ h9 => h9) rfl dJx4a65c_add_9ea2d_13 ?_
  refine lv_aload_n hx hb dJx4a65c_add_9ea2d_16 rfl (lv_at hl 0 rfl) ?_
  refine r_get S h 0 inJx4a65c (ref := "java/util/ArrayList") rfl rfl (k := 2) (by decide) (by decide +kernel) (fun _ h9 => h9) rfl dJx4a65c_add_9ea2d_17 ?_
  refine r_callv S h (k_add3G13 l D E cy _ A a v d 14 f C hv.app hca hf) (cwV 3 hts gJx4a65c_add_9ea2d_Jx4a65c_add_72be8 rfl rfl rfl (by decide +kernel) ⟨Nat.le_of_ble_eq_true rfl, Nat.le_of_ble_eq_true rfl⟩) (r_preV h [] [0, 1] (wr := []) (wc := [(a, .inr (1, [.int 14, .ref d, .int 13])), rAr cy d 13 f]) rfl rfl rfl 0 rfl rfl _) rfl hl.1 rfl (Nat.le_of_ble_eq_true rfl) dJx4a65c_add_9ea2d_20 ⟨Nat.le_of_ble_eq_true rfl, Nat.le_of_ble_eq_true rfl⟩ (fun u2 H locs k3 h => ?_)
  obtain ⟨n4, rfl⟩ : ∃ z, z = u2 := ⟨_, rfl⟩
  have h : rH D E cy X [(a, .inr (1, [.int 14, .ref n4, .int 14])), rAr cy n4 19 (va_up (va_cpy f (fun _ => none) 0 0 13) 13 (some v))] A s H _ := h
  refine lv_iconst (v := 1) hx hb dJx4a65c_add_9ea2d_23 (by decide) ?_
  exact r_reti S h n4 rfl trivial hr hlocks rfl (rfl) ⟨Nat.le_of_ble_eq_true rfl, Nat.le_of_ble_eq_true rfl⟩ dJx4a65c_add_9ea2d_24
set_option maxHeartbeats 4000000 in
set_option maxRecDepth 100000 in
/-- copyOf, 15 to 22 -/
theorem k_copyC15 (l : Launch) (D : va_G) (E : rEn) (cy : rC) (X : va_W) (A : Nat → Prop) (d : Nat) (f : Nat → Option Nat) (hf : rCa E f) : rMr l yJ7_copyOf_6403c wsJ7_copyOf_6403c { frames := 1, cells := 1, slots := 22, locals := 60 } D E cy X [rAr cy d 15 f] A [.ref d, .int 22, .ref E.2.2.2.2] (fun (q : Nat) => q) (fun (q : Nat) => [rAr cy d 15 f, rAr cy q 22 (va_cpy f (fun _ => none) 0 0 15)]) (fun _ => True) 1 22 := by
  refine r_entry (cc := cJ7_copyOf_6403c) (maxL := 4) (ret := (some (.array (.object "java/lang/Object")))) (by decide +kernel) rfl (Nat.le_of_ble_eq_true rfl) ?_
  intro p e s m args below meth c ls B
  obtain ⟨S, hr, hlocks, hmi, h, hl⟩ := B
  have hx := S.1
  have hb := S.2.1
  have hts := S.2.2.2.2
  have hl : lv_has ls 4 [(0, .ref d), (1, .int 22), (2, .ref E.2.2.2.2)] := hl
  refine lv_aload_n hx hb dJ7_copyOf_6403c_0 rfl (lv_at hl 2 rfl) ?_
  refine r_ldcM S h (by decide +kernel) dJ7_copyOf_6403c_1 ?_
  refine lv_acmp_ne (rx := some E.2.2.2.2) (ry := some E.2.2.2.2) (tgt := 13) hx hb dJ7_copyOf_6403c_3 (by decide) (fun c1 => absurd rfl c1) (fun c1 => ?_)
  refine lv_iload_n hx hb dJ7_copyOf_6403c_6 rfl (lv_at hl 1 rfl) ?_
  refine r_newq S h (N := 22) (by decide +kernel) (by decide) rfl (by decide) (Nat.le_of_ble_eq_true rfl) (Nat.le_of_ble_eq_true rfl) dJ7_copyOf_6403c_7 (fun n2 H h => ?_)
  have h : rH D E cy X [rAr cy d 15 f, rAr cy n2 22 (fun _ => none)] A s H _ := h
  refine lv_goto (tgt := 24) hx hb dJ7_copyOf_6403c_10 (by decide) ?_
  refine lv_astore_n (lv' := [(3, .ref n2), (0, .ref d), (1, .int 22), (2, .ref E.2.2.2.2)]) hx hb dJ7_copyOf_6403c_24 rfl hl (by decide) rfl (fun ls hl => ?_)
  refine lv_aload_n hx hb dJ7_copyOf_6403c_25 rfl (lv_at hl 1 rfl) ?_
  refine lv_iconst (v := 0) hx hb dJ7_copyOf_6403c_26 (by decide) ?_
  refine lv_aload_n hx hb dJ7_copyOf_6403c_27 rfl (lv_at hl 0 rfl) ?_
  refine lv_iconst (v := 0) hx hb dJ7_copyOf_6403c_28 (by decide) ?_
  refine lv_aload_n hx hb dJ7_copyOf_6403c_29 rfl (lv_at hl 1 rfl) ?_
  refine r_alenq S h (v := Int32.ofNat 15) 0 rfl rfl dJ7_copyOf_6403c_30 ?_
  refine lv_topi (fun x3 ex3 => ?_)
  obtain rfl : x3 = 15 := by rw [ex3]; rfl
  refine lv_iload_n hx hb dJ7_copyOf_6403c_31 rfl (lv_at hl 2 rfl) ?_
  refine va_mmin hx hb (S.2.2.1.trans hl.1.symm) S.2.2.2.1 (hts (.methodLink RJ7 304 Lib.Math.min.name) (by decide +kernel)) (hts (.static Lib.Math.min.name) (by decide +kernel)) (hts (.initialized "java/lang/Math") (by decide +kernel)) (hts (.code Lib.Math.min.name Lib.Math.min.code 2 (some .int)) (by decide +kernel)) (Nat.le_of_ble_eq_true rfl) (Nat.le_of_ble_eq_true rfl) (Nat.le_of_ble_eq_true rfl) (Nat.le_of_ble_eq_true rfl) dJ7_copyOf_6403c_32 ?_
  refine lv_topi (fun x4 ex4 => ?_)
  obtain rfl : x4 = 15 := by rw [ex4]; decide
  refine r_copyq S h hl.1 0 1 rfl rfl (N := 15) (by decide) rfl (by decide) (by decide) hf (by decide +kernel) (by decide +kernel) (by decide +kernel) (by decide +kernel) (Nat.le_of_ble_eq_true rfl) (by decide) dJ7_copyOf_6403c_35 (fun H locs h => ?_)
  have h : rH D E cy X [rAr cy d 15 f, rAr cy n2 22 (va_cpy f (fun _ => none) 0 0 15)] A s H _ := h
  refine lv_aload_n hx hb dJ7_copyOf_6403c_38 rfl (lv_at hl 0 rfl) ?_
  exact r_retr S h (Or.inr ⟨_, rfl⟩) n2 rfl trivial hr hlocks rfl ⟨Nat.le_of_ble_eq_true rfl, Nat.le_of_ble_eq_true rfl⟩ dJ7_copyOf_6403c_39
set_option maxHeartbeats 4000000 in
set_option maxRecDepth 100000 in
/-- copyOf, 15 to 22 -/
theorem k_copyB15 (l : Launch) (D : va_G) (E : rEn) (cy : rC) (X : va_W) (A : Nat → Prop) (d : Nat) (f : Nat → Option Nat) (hf : rCa E f) : rMr l yJ7_copyOf_1904c wsJ7_copyOf_1904c { frames := 2, cells := 1, slots := 22, locals := 83 } D E cy X [rAr cy d 15 f] A [.ref d, .int 22] (fun (q : Nat) => q) (fun (q : Nat) => [rAr cy d 15 f, rAr cy q 22 (va_cpy f (fun _ => none) 0 0 15)]) (fun _ => True) 1 22 := by
  refine r_entry (cc := cJ7_copyOf_1904c) (maxL := 2) (ret := (some (.array (.object "java/lang/Object")))) (by decide +kernel) rfl (Nat.le_of_ble_eq_true rfl) ?_
  intro p e s m args below meth c ls B
  obtain ⟨S, hr, hlocks, hmi, h, hl⟩ := B
  have hx := S.1
  have hb := S.2.1
  have hts := S.2.2.2.2
  have hl : lv_has ls 2 [(0, .ref d), (1, .int 22)] := hl
  refine lv_aload_n hx hb dJ7_copyOf_1904c_0 rfl (lv_at hl 0 rfl) ?_
  refine lv_iload_n hx hb dJ7_copyOf_1904c_1 rfl (lv_at hl 1 rfl) ?_
  refine lv_aload_n hx hb dJ7_copyOf_1904c_2 rfl (lv_at hl 0 rfl) ?_
  refine r_gc S h hl.1 (Or.inl ⟨0, _, _, rfl⟩) (by decide +kernel) (by decide +kernel) (by decide +kernel) (by decide +kernel) (Nat.le_of_ble_eq_true rfl) (Nat.le_of_ble_eq_true rfl) dJ7_copyOf_1904c_3 ?_
  refine r_callrS S h (k_copyC15 l D E cy _ A d f hf) (cwS 3 hts gJ7_copyOf_1904c_J7_copyOf_6403c rfl rfl rfl (by decide +kernel) ⟨Nat.le_of_ble_eq_true rfl, Nat.le_of_ble_eq_true rfl⟩) (r_preS h [] [0] (wr := []) (wc := [rAr cy d 15 f]) rfl rfl rfl _) rfl hl.1 rfl (Nat.le_of_ble_eq_true rfl) dJ7_copyOf_1904c_6 ⟨Nat.le_of_ble_eq_true rfl, Nat.le_of_ble_eq_true rfl⟩ (fun u1 H locs k2 h => ?_)
  obtain ⟨n3, rfl⟩ : ∃ z, z = u1 := ⟨_, rfl⟩
  have h : rH D E cy X [rAr cy d 15 f, rAr cy n3 22 (va_cpy f (fun _ => none) 0 0 15)] A s H _ := h
  exact r_retr S h (Or.inr ⟨_, rfl⟩) n3 rfl trivial hr hlocks rfl ⟨Nat.le_of_ble_eq_true rfl, Nat.le_of_ble_eq_true rfl⟩ dJ7_copyOf_1904c_9
set_option maxHeartbeats 4000000 in
set_option maxRecDepth 100000 in
/-- grow of 15 -/
theorem k_grow1G15 (l : Launch) (D : va_G) (E : rEn) (cy : rC) (X : va_W) (A : Nat → Prop) (a d : Nat) (mo : Int32) (f : Nat → Option Nat) (hf : rCa E f) : rMr l yJx4a65c_grow_92f84 wsJx4a65c_grow_92f84 { frames := 3, cells := 1, slots := 22, locals := 104 } D E cy X [(a, .inr (1, [.int mo, .ref d, .int 15])), rAr cy d 15 f] A [.ref a, .int 16] (fun (q : Nat) => q) (fun (q : Nat) => [(a, .inr (1, [.int mo, .ref q, .int 15])), rAr cy q 22 (va_cpy f (fun _ => none) 0 0 15)]) (fun _ => True) 1 22 := by
  refine r_entry (cc := cJx4a65c_grow_92f84) (maxL := 4) (ret := (some (.array (.object "java/lang/Object")))) (by decide +kernel) rfl (Nat.le_of_ble_eq_true rfl) ?_
  intro p e s m args below meth c ls B
  obtain ⟨S, hr, hlocks, hmi, h, hl⟩ := B
  have hx := S.1
  have hb := S.2.1
  have hts := S.2.2.2.2
  have inJx4a65c : ∀ w ∈ wsJx4a65c0, w ∈ wsJx4a65c_grow_92f84 := by decide +kernel
  have hl : lv_has ls 4 [(0, .ref a), (1, .int 16)] := hl
  refine lv_aload_n hx hb dJx4a65c_grow_92f84_0 rfl (lv_at hl 0 rfl) ?_
  refine r_get S h 0 inJx4a65c (ref := "java/util/ArrayList") rfl rfl (k := 1) (by decide) (by decide +kernel) (fun _ h9 => h9) rfl dJx4a65c_grow_92f84_1 ?_
  refine r_alenq S h (v := Int32.ofNat 15) 1 rfl rfl dJx4a65c_grow_92f84_4 ?_
  refine lv_topi (fun x1 ex1 => ?_)
  obtain rfl : x1 = 15 := by rw [ex1]; rfl
  refine lv_istore_n (lv' := [(2, .int 15), (0, .ref a), (1, .int 16)]) hx hb dJx4a65c_grow_92f84_5 rfl hl (by decide) rfl (fun ls hl => ?_)
  refine lv_iload_n hx hb dJx4a65c_grow_92f84_6 rfl (lv_at hl 0 rfl) ?_
  refine lv_if_gt (tgt := 20) hx hb dJx4a65c_grow_92f84_7 (by decide) (fun c2 => ?_) (fun c2 => absurd (by decide) c2)
  refine lv_iload_n hx hb dJx4a65c_grow_92f84_20 rfl (lv_at hl 0 rfl) ?_
  refine lv_iload_n hx hb dJx4a65c_grow_92f84_21 rfl (lv_at hl 2 rfl) ?_
  refine lv_iload_n hx hb dJx4a65c_grow_92f84_22 rfl (lv_at hl 0 rfl) ?_
  refine lv_isub hx hb dJx4a65c_grow_92f84_23 ?_
  refine lv_topi (fun x3 ex3 => ?_)
  obtain rfl : x3 = 1 := by rw [ex3]; decide
  refine lv_iload_n hx hb dJx4a65c_grow_92f84_24 rfl (lv_at hl 0 rfl) ?_
  refine lv_iconst (v := 1) hx hb dJx4a65c_grow_92f84_25 (by decide) ?_
  refine lv_ishr hx hb dJx4a65c_grow_92f84_26 ?_
  refine lv_topi (fun x4 ex4 => ?_)
  obtain rfl : x4 = 7 := by rw [ex4]; decide
  refine r_calliS S h (k_newLen15 l D E cy _ A ) (va_cwS 3 hts gJx4a65c_grow_92f84_J8_newLength_cabcc rfl rfl rfl (by decide +kernel) ⟨Nat.le_of_ble_eq_true rfl, Nat.le_of_ble_eq_true rfl⟩) (r_preS h [0, 1] [] (wr := [(a, .inr (1, [.int mo, .ref d, .int 15])), rAr cy d 15 f]) (wc := []) rfl rfl rfl _) rfl hl.1 rfl (Nat.le_of_ble_eq_true rfl) dJx4a65c_grow_92f84_27 ⟨Nat.le_of_ble_eq_true rfl, Nat.le_of_ble_eq_true rfl⟩ (fun u5 H locs k6 h => ?_)
  have h : rH D E cy X [(a, .inr (1, [.int mo, .ref d, .int 15])), rAr cy d 15 f] A s H _ := h
  refine lv_istore_n (lv' := [(3, .int 22), (2, .int 15), (0, .ref a), (1, .int 16)]) hx hb dJx4a65c_grow_92f84_30 rfl hl (by decide) rfl (fun ls hl => ?_)
  refine lv_aload_n hx hb dJx4a65c_grow_92f84_31 rfl (lv_at hl 2 rfl) ?_
  refine lv_aload_n hx hb dJx4a65c_grow_92f84_32 rfl (lv_at hl 2 rfl) ?_
  refine r_get S h 0 inJx4a65c (ref := "java/util/ArrayList") rfl rfl (k := 1) (by decide) (by decide +kernel) (fun _ h9 => h9) rfl dJx4a65c_grow_92f84_33 ?_
  refine lv_iload_n hx hb dJx4a65c_grow_92f84_36 rfl (lv_at hl 0 rfl) ?_
  refine r_callrS S h (k_copyB15 l D E cy _ A d f hf) (va_cwS 2 hts gJx4a65c_grow_92f84_J7_copyOf_1904c rfl rfl rfl (by decide +kernel) ⟨Nat.le_of_ble_eq_true rfl, Nat.le_of_ble_eq_true rfl⟩) (r_preS h [0] [1] (wr := [(a, .inr (1, [.int mo, .ref d, .int 15]))]) (wc := [rAr cy d 15 f]) rfl rfl rfl _) rfl hl.1 rfl (Nat.le_of_ble_eq_true rfl) dJx4a65c_grow_92f84_37 ⟨Nat.le_of_ble_eq_true rfl, Nat.le_of_ble_eq_true rfl⟩ (fun u7 H locs k8 h => ?_)
  obtain ⟨n9, rfl⟩ : ∃ z, z = u7 := ⟨_, rfl⟩
  have h : rH D E cy X [(a, .inr (1, [.int mo, .ref d, .int 15])), rAr cy d 15 f, rAr cy n9 22 (va_cpy f (fun _ => none) 0 0 15)] A s H _ := h
  refine lv_dup_x1 hx hb dJx4a65c_grow_92f84_40 rfl rfl ?_
  refine r_put S h 0 tyJx4a65c tyJx4a65c_ok nmJx4a65c inJx4a65c (ref := "java/util/ArrayList") rfl rfl (k := 1) (by decide) (by decide +kernel) (fun _ h9 => h9) rfl rfl rfl rfl (Nat.le_of_ble_eq_true rfl) dJx4a65c_grow_92f84_41 (fun H locs h => ?_)
  have h : rH D E cy X [(a, .inr (1, [.int mo, .ref n9, .int 15])), rAr cy d 15 f, rAr cy n9 22 (va_cpy f (fun _ => none) 0 0 15)] A s H _ := h
  have h := h.pick [0, 2] (w := [(a, .inr (1, [.int mo, .ref n9, .int 15])), rAr cy n9 22 (va_cpy f (fun _ => none) 0 0 15)]) rfl rfl
  exact r_retr S h (Or.inr ⟨_, rfl⟩) n9 rfl trivial hr hlocks rfl ⟨Nat.le_of_ble_eq_true rfl, Nat.le_of_ble_eq_true rfl⟩ dJx4a65c_grow_92f84_44
set_option maxHeartbeats 4000000 in
set_option maxRecDepth 100000 in
/-- grow of 15 -/
theorem k_growG15 (l : Launch) (D : va_G) (E : rEn) (cy : rC) (X : va_W) (A : Nat → Prop) (a d : Nat) (mo : Int32) (f : Nat → Option Nat) (hf : rCa E f) : rMr l yJx4a65c_grow_d5877 wsJx4a65c_grow_d5877 { frames := 4, cells := 1, slots := 22, locals := 127 } D E cy X [(a, .inr (1, [.int mo, .ref d, .int 15])), rAr cy d 15 f] A [.ref a] (fun (q : Nat) => q) (fun (q : Nat) => [(a, .inr (1, [.int mo, .ref q, .int 15])), rAr cy q 22 (va_cpy f (fun _ => none) 0 0 15)]) (fun _ => True) 1 22 := by
  refine r_entry (cc := cJx4a65c_grow_d5877) (maxL := 1) (ret := (some (.array (.object "java/lang/Object")))) (by decide +kernel) rfl (Nat.le_of_ble_eq_true rfl) ?_
  intro p e s m args below meth c ls B
  obtain ⟨S, hr, hlocks, hmi, h, hl⟩ := B
  have hx := S.1
  have hb := S.2.1
  have hts := S.2.2.2.2
  have inJx4a65c : ∀ w ∈ wsJx4a65c0, w ∈ wsJx4a65c_grow_d5877 := by decide +kernel
  have hl : lv_has ls 1 [(0, .ref a)] := hl
  refine lv_aload_n hx hb dJx4a65c_grow_d5877_0 rfl (lv_at hl 0 rfl) ?_
  refine lv_aload_n hx hb dJx4a65c_grow_d5877_1 rfl (lv_at hl 0 rfl) ?_
  refine r_get S h 0 inJx4a65c (ref := "java/util/ArrayList") rfl rfl (k := 2) (by decide) (by decide +kernel) (fun _ h9 => h9) rfl dJx4a65c_grow_d5877_2 ?_
  refine lv_iconst (v := 1) hx hb dJx4a65c_grow_d5877_5 (by decide) ?_
  refine lv_iadd hx hb dJx4a65c_grow_d5877_6 ?_
  refine lv_topi (fun x1 ex1 => ?_)
  obtain rfl : x1 = 16 := by rw [ex1]; decide
  refine r_callr S h (k_grow1G15 l D E cy _ A a d mo f hf) (cwV 1 hts gJx4a65c_grow_d5877_Jx4a65c_grow_92f84 rfl rfl rfl (by decide +kernel) ⟨Nat.le_of_ble_eq_true rfl, Nat.le_of_ble_eq_true rfl⟩) (r_preV h [] [0, 1] (wr := []) (wc := [(a, .inr (1, [.int mo, .ref d, .int 15])), rAr cy d 15 f]) rfl rfl rfl 0 rfl rfl _) rfl hl.1 rfl (Nat.le_of_ble_eq_true rfl) dJx4a65c_grow_d5877_7 ⟨Nat.le_of_ble_eq_true rfl, Nat.le_of_ble_eq_true rfl⟩ (fun u2 H locs k3 h => ?_)
  obtain ⟨n4, rfl⟩ : ∃ z, z = u2 := ⟨_, rfl⟩
  have h : rH D E cy X [(a, .inr (1, [.int mo, .ref n4, .int 15])), rAr cy n4 22 (va_cpy f (fun _ => none) 0 0 15)] A s H _ := h
  exact r_retr S h (Or.inr ⟨_, rfl⟩) n4 rfl trivial hr hlocks rfl ⟨Nat.le_of_ble_eq_true rfl, Nat.le_of_ble_eq_true rfl⟩ dJx4a65c_grow_d5877_10
set_option maxHeartbeats 4000000 in
set_option maxRecDepth 100000 in
/-- add at 15 -/
theorem k_add3G15 (l : Launch) (D : va_G) (E : rEn) (cy : rC) (X : va_W) (A : Nat → Prop) (a v d : Nat) (mo : Int32) (f : Nat → Option Nat) (C : String) (hv : rEl E X C v) (hca : ∀ U : State, rS E U → va_Nw (.castable C "java/lang/Object") U) (hf : rCa E f) : rMv l yJx4a65c_add_72be8 wsJx4a65c_add_72be8 { frames := 5, cells := 1, slots := 22, locals := 147 } D E cy X [(a, .inr (1, [.int mo, .ref d, .int 15])), rAr cy d 15 f] A [.ref a, .ref v, .ref d, .int 15] (fun (q : Nat) => [(a, .inr (1, [.int mo, .ref q, .int 16])), rAr cy q 22 (va_up (va_cpy f (fun _ => none) 0 0 15) 15 (some v))]) (fun _ => True) 1 22 := by
  refine r_entry (cc := cJx4a65c_add_72be8) (maxL := 4) (ret := none) (by decide +kernel) rfl (Nat.le_of_ble_eq_true rfl) ?_
  intro p e s m args below meth c ls B
  obtain ⟨S, hr, hlocks, hmi, h, hl⟩ := B
  have hx := S.1
  have hb := S.2.1
  have hts := S.2.2.2.2
  have inJx4a65c : ∀ w ∈ wsJx4a65c0, w ∈ wsJx4a65c_add_72be8 := by decide +kernel
  have hl : lv_has ls 4 [(0, .ref a), (1, .ref v), (2, .ref d), (3, .int 15)] := hl
  refine lv_iload_n hx hb dJx4a65c_add_72be8_0 rfl (lv_at hl 3 rfl) ?_
  refine lv_aload_n hx hb dJx4a65c_add_72be8_1 rfl (lv_at hl 2 rfl) ?_
  refine r_alenq S h (v := Int32.ofNat 15) 1 rfl rfl dJx4a65c_add_72be8_2 ?_
  refine lv_topi (fun x1 ex1 => ?_)
  obtain rfl : x1 = 15 := by rw [ex1]; rfl
  refine lv_icmp_ne (tgt := 11) hx hb dJx4a65c_add_72be8_3 (by decide) (fun c2 => absurd (by decide) c2) (fun c2 => ?_)
  refine lv_aload_n hx hb dJx4a65c_add_72be8_6 rfl (lv_at hl 0 rfl) ?_
  refine r_callr S h (k_growG15 l D E cy _ A a d mo f hf) (cwV 0 hts gJx4a65c_add_72be8_Jx4a65c_grow_d5877 rfl rfl rfl (by decide +kernel) ⟨Nat.le_of_ble_eq_true rfl, Nat.le_of_ble_eq_true rfl⟩) (r_preV h [] [0, 1] (wr := []) (wc := [(a, .inr (1, [.int mo, .ref d, .int 15])), rAr cy d 15 f]) rfl rfl rfl 0 rfl rfl _) rfl hl.1 rfl (Nat.le_of_ble_eq_true rfl) dJx4a65c_add_72be8_7 ⟨Nat.le_of_ble_eq_true rfl, Nat.le_of_ble_eq_true rfl⟩ (fun u3 H locs k4 h => ?_)
  obtain ⟨n5, rfl⟩ : ∃ z, z = u3 := ⟨_, rfl⟩
  have h : rH D E cy X [(a, .inr (1, [.int mo, .ref n5, .int 15])), rAr cy n5 22 (va_cpy f (fun _ => none) 0 0 15)] A s H _ := h
  refine lv_astore_n (lv' := [(2, .ref n5), (0, .ref a), (1, .ref v), (3, .int 15)]) hx hb dJx4a65c_add_72be8_10 rfl hl (by decide) rfl (fun ls hl => ?_)
  refine lv_aload_n hx hb dJx4a65c_add_72be8_11 rfl (lv_at hl 0 rfl) ?_
  refine lv_iload_n hx hb dJx4a65c_add_72be8_12 rfl (lv_at hl 3 rfl) ?_
  refine lv_aload_n hx hb dJx4a65c_add_72be8_13 rfl (lv_at hl 2 rfl) ?_
  refine r_aast S h 1 rfl hv (hca s h.2.2.2.1.2) (by unfold vp_in; decide) dJx4a65c_add_72be8_14 (fun H locs h => ?_)
  have h : rH D E cy X [(a, .inr (1, [.int mo, .ref n5, .int 15])), rAr cy n5 22 (va_up (va_cpy f (fun _ => none) 0 0 15) 15 (some v))] A s H _ := h
  refine lv_aload_n hx hb dJx4a65c_add_72be8_15 rfl (lv_at hl 1 rfl) ?_
  refine lv_iload_n hx hb dJx4a65c_add_72be8_16 rfl (lv_at hl 3 rfl) ?_
  refine lv_iconst (v := 1) hx hb dJx4a65c_add_72be8_17 (by decide) ?_
  refine lv_iadd hx hb dJx4a65c_add_72be8_18 ?_
  refine lv_topi (fun x6 ex6 => ?_)
  obtain rfl : x6 = 16 := by rw [ex6]; decide
  refine r_put S h 0 tyJx4a65c tyJx4a65c_ok nmJx4a65c inJx4a65c (ref := "java/util/ArrayList") rfl rfl (k := 2) (by decide) (by decide +kernel) (fun _ h9 => h9) rfl rfl rfl rfl (Nat.le_of_ble_eq_true rfl) dJx4a65c_add_72be8_19 (fun H locs h => ?_)
  have h : rH D E cy X [(a, .inr (1, [.int mo, .ref n5, .int 16])), rAr cy n5 22 (va_up (va_cpy f (fun _ => none) 0 0 15) 15 (some v))] A s H _ := h
  exact r_retv S h n5 rfl trivial hr hlocks ⟨Nat.le_of_ble_eq_true rfl, Nat.le_of_ble_eq_true rfl⟩ dJx4a65c_add_72be8_22
set_option maxHeartbeats 4000000 in
set_option maxRecDepth 100000 in
/-- add at 15 -/
theorem k_addG15 (l : Launch) (D : va_G) (E : rEn) (cy : rC) (X : va_W) (A : Nat → Prop) (a v d : Nat) (f : Nat → Option Nat) (C : String) (hv : rEl E X C v) (hca : ∀ U : State, rS E U → va_Nw (.castable C "java/lang/Object") U) (hf : rCa E f) : rMi l yJx4a65c_add_9ea2d wsJx4a65c_add_9ea2d { frames := 6, cells := 1, slots := 22, locals := 170 } D E cy X [(a, .inr (1, [.int 15, .ref d, .int 15])), rAr cy d 15 f] A [.ref a, .ref v] 1 (fun (q : Nat) => [(a, .inr (1, [.int 16, .ref q, .int 16])), rAr cy q 22 (va_up (va_cpy f (fun _ => none) 0 0 15) 15 (some v))]) (fun _ => True) 1 22 := by
  refine r_entry (cc := cJx4a65c_add_9ea2d) (maxL := 2) (ret := (some .boolean)) (by decide +kernel) rfl (Nat.le_of_ble_eq_true rfl) ?_
  intro p e s m args below meth c ls B
  obtain ⟨S, hr, hlocks, hmi, h, hl⟩ := B
  have hx := S.1
  have hb := S.2.1
  have hts := S.2.2.2.2
  have inJx4a65c : ∀ w ∈ wsJx4a65c0, w ∈ wsJx4a65c_add_9ea2d := by decide +kernel
  have hl : lv_has ls 2 [(0, .ref a), (1, .ref v)] := hl
  refine lv_aload_n hx hb dJx4a65c_add_9ea2d_0 rfl (lv_at hl 0 rfl) ?_
  refine lv_dup hx hb dJx4a65c_add_9ea2d_1 rfl ?_
  refine r_get S h 0 inJx4a65c (ref := "java/util/ArrayList") rfl rfl (k := 0) (by decide) (by decide +kernel) (fun x9 h9 => u_same (hts (.sameField "java/util/ArrayList" "java/util/AbstractList" "modCount" "I") (by decide +kernel)) x9 h9) rfl dJx4a65c_add_9ea2d_2 ?_
  refine lv_iconst (v := 1) hx hb dJx4a65c_add_9ea2d_5 (by decide) ?_
  refine lv_iadd hx hb dJx4a65c_add_9ea2d_6 ?_
  refine lv_topi (fun x1 ex1 => ?_)
  obtain rfl : x1 = 16 := by rw [ex1]; decide
  refine r_put S h 0 tyJx4a65c tyJx4a65c_ok nmJx4a65c inJx4a65c (ref := "java/util/ArrayList") rfl rfl (k := 0) (by decide) (by decide +kernel) (fun x9 h9 => u_same (hts (.sameField "java/util/ArrayList" "java/util/AbstractList" "modCount" "I") (by decide +kernel)) x9 h9) rfl rfl rfl rfl (Nat.le_of_ble_eq_true rfl) dJx4a65c_add_9ea2d_7 (fun H locs h => ?_)
  have h : rH D E cy X [(a, .inr (1, [.int 16, .ref d, .int 15])), rAr cy d 15 f] A s H _ := h
  refine lv_aload_n hx hb dJx4a65c_add_9ea2d_10 rfl (lv_at hl 0 rfl) ?_
  refine lv_aload_n hx hb dJx4a65c_add_9ea2d_11 rfl (lv_at hl 1 rfl) ?_
  refine lv_aload_n hx hb dJx4a65c_add_9ea2d_12 rfl (lv_at hl 0 rfl) ?_
  refine r_get S h 0 inJx4a65c (ref := "java/util/ArrayList") rfl rfl (k := 1) (by decide) (by decide +kernel) (fun _ h9 => h9) rfl dJx4a65c_add_9ea2d_13 ?_
  refine lv_aload_n hx hb dJx4a65c_add_9ea2d_16 rfl (lv_at hl 0 rfl) ?_
  refine r_get S h 0 inJx4a65c (ref := "java/util/ArrayList") rfl rfl (k := 2) (by decide) (by decide +kernel) (fun _ h9 => h9) rfl dJx4a65c_add_9ea2d_17 ?_
  refine r_callv S h (k_add3G15 l D E cy _ A a v d 16 f C hv.app hca hf) (cwV 3 hts gJx4a65c_add_9ea2d_Jx4a65c_add_72be8 rfl rfl rfl (by decide +kernel) ⟨Nat.le_of_ble_eq_true rfl, Nat.le_of_ble_eq_true rfl⟩) (r_preV h [] [0, 1] (wr := []) (wc := [(a, .inr (1, [.int 16, .ref d, .int 15])), rAr cy d 15 f]) rfl rfl rfl 0 rfl rfl _) rfl hl.1 rfl (Nat.le_of_ble_eq_true rfl) dJx4a65c_add_9ea2d_20 ⟨Nat.le_of_ble_eq_true rfl, Nat.le_of_ble_eq_true rfl⟩ (fun u2 H locs k3 h => ?_)
  obtain ⟨n4, rfl⟩ : ∃ z, z = u2 := ⟨_, rfl⟩
  have h : rH D E cy X [(a, .inr (1, [.int 16, .ref n4, .int 16])), rAr cy n4 22 (va_up (va_cpy f (fun _ => none) 0 0 15) 15 (some v))] A s H _ := h
  refine lv_iconst (v := 1) hx hb dJx4a65c_add_9ea2d_23 (by decide) ?_
  exact r_reti S h n4 rfl trivial hr hlocks rfl (rfl) ⟨Nat.le_of_ble_eq_true rfl, Nat.le_of_ble_eq_true rfl⟩ dJx4a65c_add_9ea2d_24
set_option maxHeartbeats 4000000 in
set_option maxRecDepth 100000 in
/-- copyOf, 19 to 28 -/
theorem k_copyC19 (l : Launch) (D : va_G) (E : rEn) (cy : rC) (X : va_W) (A : Nat → Prop) (d : Nat) (f : Nat → Option Nat) (hf : rCa E f) : rMr l yJ7_copyOf_6403c wsJ7_copyOf_6403c { frames := 1, cells := 1, slots := 28, locals := 60 } D E cy X [rAr cy d 19 f] A [.ref d, .int 28, .ref E.2.2.2.2] (fun (q : Nat) => q) (fun (q : Nat) => [rAr cy d 19 f, rAr cy q 28 (va_cpy f (fun _ => none) 0 0 19)]) (fun _ => True) 1 28 := by
  refine r_entry (cc := cJ7_copyOf_6403c) (maxL := 4) (ret := (some (.array (.object "java/lang/Object")))) (by decide +kernel) rfl (Nat.le_of_ble_eq_true rfl) ?_
  intro p e s m args below meth c ls B
  obtain ⟨S, hr, hlocks, hmi, h, hl⟩ := B
  have hx := S.1
  have hb := S.2.1
  have hts := S.2.2.2.2
  have hl : lv_has ls 4 [(0, .ref d), (1, .int 28), (2, .ref E.2.2.2.2)] := hl
  refine lv_aload_n hx hb dJ7_copyOf_6403c_0 rfl (lv_at hl 2 rfl) ?_
  refine r_ldcM S h (by decide +kernel) dJ7_copyOf_6403c_1 ?_
  refine lv_acmp_ne (rx := some E.2.2.2.2) (ry := some E.2.2.2.2) (tgt := 13) hx hb dJ7_copyOf_6403c_3 (by decide) (fun c1 => absurd rfl c1) (fun c1 => ?_)
  refine lv_iload_n hx hb dJ7_copyOf_6403c_6 rfl (lv_at hl 1 rfl) ?_
  refine r_newq S h (N := 28) (by decide +kernel) (by decide) rfl (by decide) (Nat.le_of_ble_eq_true rfl) (Nat.le_of_ble_eq_true rfl) dJ7_copyOf_6403c_7 (fun n2 H h => ?_)
  have h : rH D E cy X [rAr cy d 19 f, rAr cy n2 28 (fun _ => none)] A s H _ := h
  refine lv_goto (tgt := 24) hx hb dJ7_copyOf_6403c_10 (by decide) ?_
  refine lv_astore_n (lv' := [(3, .ref n2), (0, .ref d), (1, .int 28), (2, .ref E.2.2.2.2)]) hx hb dJ7_copyOf_6403c_24 rfl hl (by decide) rfl (fun ls hl => ?_)
  refine lv_aload_n hx hb dJ7_copyOf_6403c_25 rfl (lv_at hl 1 rfl) ?_
  refine lv_iconst (v := 0) hx hb dJ7_copyOf_6403c_26 (by decide) ?_
  refine lv_aload_n hx hb dJ7_copyOf_6403c_27 rfl (lv_at hl 0 rfl) ?_
  refine lv_iconst (v := 0) hx hb dJ7_copyOf_6403c_28 (by decide) ?_
  refine lv_aload_n hx hb dJ7_copyOf_6403c_29 rfl (lv_at hl 1 rfl) ?_
  refine r_alenq S h (v := Int32.ofNat 19) 0 rfl rfl dJ7_copyOf_6403c_30 ?_
  refine lv_topi (fun x3 ex3 => ?_)
  obtain rfl : x3 = 19 := by rw [ex3]; rfl
  refine lv_iload_n hx hb dJ7_copyOf_6403c_31 rfl (lv_at hl 2 rfl) ?_
  refine va_mmin hx hb (S.2.2.1.trans hl.1.symm) S.2.2.2.1 (hts (.methodLink RJ7 304 Lib.Math.min.name) (by decide +kernel)) (hts (.static Lib.Math.min.name) (by decide +kernel)) (hts (.initialized "java/lang/Math") (by decide +kernel)) (hts (.code Lib.Math.min.name Lib.Math.min.code 2 (some .int)) (by decide +kernel)) (Nat.le_of_ble_eq_true rfl) (Nat.le_of_ble_eq_true rfl) (Nat.le_of_ble_eq_true rfl) (Nat.le_of_ble_eq_true rfl) dJ7_copyOf_6403c_32 ?_
  refine lv_topi (fun x4 ex4 => ?_)
  obtain rfl : x4 = 19 := by rw [ex4]; decide
  refine r_copyq S h hl.1 0 1 rfl rfl (N := 19) (by decide) rfl (by decide) (by decide) hf (by decide +kernel) (by decide +kernel) (by decide +kernel) (by decide +kernel) (Nat.le_of_ble_eq_true rfl) (by decide) dJ7_copyOf_6403c_35 (fun H locs h => ?_)
  have h : rH D E cy X [rAr cy d 19 f, rAr cy n2 28 (va_cpy f (fun _ => none) 0 0 19)] A s H _ := h
  refine lv_aload_n hx hb dJ7_copyOf_6403c_38 rfl (lv_at hl 0 rfl) ?_
  exact r_retr S h (Or.inr ⟨_, rfl⟩) n2 rfl trivial hr hlocks rfl ⟨Nat.le_of_ble_eq_true rfl, Nat.le_of_ble_eq_true rfl⟩ dJ7_copyOf_6403c_39
set_option maxHeartbeats 4000000 in
set_option maxRecDepth 100000 in
/-- copyOf, 19 to 28 -/
theorem k_copyB19 (l : Launch) (D : va_G) (E : rEn) (cy : rC) (X : va_W) (A : Nat → Prop) (d : Nat) (f : Nat → Option Nat) (hf : rCa E f) : rMr l yJ7_copyOf_1904c wsJ7_copyOf_1904c { frames := 2, cells := 1, slots := 28, locals := 83 } D E cy X [rAr cy d 19 f] A [.ref d, .int 28] (fun (q : Nat) => q) (fun (q : Nat) => [rAr cy d 19 f, rAr cy q 28 (va_cpy f (fun _ => none) 0 0 19)]) (fun _ => True) 1 28 := by
  refine r_entry (cc := cJ7_copyOf_1904c) (maxL := 2) (ret := (some (.array (.object "java/lang/Object")))) (by decide +kernel) rfl (Nat.le_of_ble_eq_true rfl) ?_
  intro p e s m args below meth c ls B
  obtain ⟨S, hr, hlocks, hmi, h, hl⟩ := B
  have hx := S.1
  have hb := S.2.1
  have hts := S.2.2.2.2
  have hl : lv_has ls 2 [(0, .ref d), (1, .int 28)] := hl
  refine lv_aload_n hx hb dJ7_copyOf_1904c_0 rfl (lv_at hl 0 rfl) ?_
  refine lv_iload_n hx hb dJ7_copyOf_1904c_1 rfl (lv_at hl 1 rfl) ?_
  refine lv_aload_n hx hb dJ7_copyOf_1904c_2 rfl (lv_at hl 0 rfl) ?_
  refine r_gc S h hl.1 (Or.inl ⟨0, _, _, rfl⟩) (by decide +kernel) (by decide +kernel) (by decide +kernel) (by decide +kernel) (Nat.le_of_ble_eq_true rfl) (Nat.le_of_ble_eq_true rfl) dJ7_copyOf_1904c_3 ?_
  refine r_callrS S h (k_copyC19 l D E cy _ A d f hf) (cwS 3 hts gJ7_copyOf_1904c_J7_copyOf_6403c rfl rfl rfl (by decide +kernel) ⟨Nat.le_of_ble_eq_true rfl, Nat.le_of_ble_eq_true rfl⟩) (r_preS h [] [0] (wr := []) (wc := [rAr cy d 19 f]) rfl rfl rfl _) rfl hl.1 rfl (Nat.le_of_ble_eq_true rfl) dJ7_copyOf_1904c_6 ⟨Nat.le_of_ble_eq_true rfl, Nat.le_of_ble_eq_true rfl⟩ (fun u1 H locs k2 h => ?_)
  obtain ⟨n3, rfl⟩ : ∃ z, z = u1 := ⟨_, rfl⟩
  have h : rH D E cy X [rAr cy d 19 f, rAr cy n3 28 (va_cpy f (fun _ => none) 0 0 19)] A s H _ := h
  exact r_retr S h (Or.inr ⟨_, rfl⟩) n3 rfl trivial hr hlocks rfl ⟨Nat.le_of_ble_eq_true rfl, Nat.le_of_ble_eq_true rfl⟩ dJ7_copyOf_1904c_9
set_option maxHeartbeats 4000000 in
set_option maxRecDepth 100000 in
/-- grow of 19 -/
theorem k_grow1G19 (l : Launch) (D : va_G) (E : rEn) (cy : rC) (X : va_W) (A : Nat → Prop) (a d : Nat) (mo : Int32) (f : Nat → Option Nat) (hf : rCa E f) : rMr l yJx4a65c_grow_92f84 wsJx4a65c_grow_92f84 { frames := 3, cells := 1, slots := 28, locals := 104 } D E cy X [(a, .inr (1, [.int mo, .ref d, .int 19])), rAr cy d 19 f] A [.ref a, .int 20] (fun (q : Nat) => q) (fun (q : Nat) => [(a, .inr (1, [.int mo, .ref q, .int 19])), rAr cy q 28 (va_cpy f (fun _ => none) 0 0 19)]) (fun _ => True) 1 28 := by
  refine r_entry (cc := cJx4a65c_grow_92f84) (maxL := 4) (ret := (some (.array (.object "java/lang/Object")))) (by decide +kernel) rfl (Nat.le_of_ble_eq_true rfl) ?_
  intro p e s m args below meth c ls B
  obtain ⟨S, hr, hlocks, hmi, h, hl⟩ := B
  have hx := S.1
  have hb := S.2.1
  have hts := S.2.2.2.2
  have inJx4a65c : ∀ w ∈ wsJx4a65c0, w ∈ wsJx4a65c_grow_92f84 := by decide +kernel
  have hl : lv_has ls 4 [(0, .ref a), (1, .int 20)] := hl
  refine lv_aload_n hx hb dJx4a65c_grow_92f84_0 rfl (lv_at hl 0 rfl) ?_
  refine r_get S h 0 inJx4a65c (ref := "java/util/ArrayList") rfl rfl (k := 1) (by decide) (by decide +kernel) (fun _ h9 => h9) rfl dJx4a65c_grow_92f84_1 ?_
  refine r_alenq S h (v := Int32.ofNat 19) 1 rfl rfl dJx4a65c_grow_92f84_4 ?_
  refine lv_topi (fun x1 ex1 => ?_)
  obtain rfl : x1 = 19 := by rw [ex1]; rfl
  refine lv_istore_n (lv' := [(2, .int 19), (0, .ref a), (1, .int 20)]) hx hb dJx4a65c_grow_92f84_5 rfl hl (by decide) rfl (fun ls hl => ?_)
  refine lv_iload_n hx hb dJx4a65c_grow_92f84_6 rfl (lv_at hl 0 rfl) ?_
  refine lv_if_gt (tgt := 20) hx hb dJx4a65c_grow_92f84_7 (by decide) (fun c2 => ?_) (fun c2 => absurd (by decide) c2)
  refine lv_iload_n hx hb dJx4a65c_grow_92f84_20 rfl (lv_at hl 0 rfl) ?_
  refine lv_iload_n hx hb dJx4a65c_grow_92f84_21 rfl (lv_at hl 2 rfl) ?_
  refine lv_iload_n hx hb dJx4a65c_grow_92f84_22 rfl (lv_at hl 0 rfl) ?_
  refine lv_isub hx hb dJx4a65c_grow_92f84_23 ?_
  refine lv_topi (fun x3 ex3 => ?_)
  obtain rfl : x3 = 1 := by rw [ex3]; decide
  refine lv_iload_n hx hb dJx4a65c_grow_92f84_24 rfl (lv_at hl 0 rfl) ?_
  refine lv_iconst (v := 1) hx hb dJx4a65c_grow_92f84_25 (by decide) ?_
  refine lv_ishr hx hb dJx4a65c_grow_92f84_26 ?_
  refine lv_topi (fun x4 ex4 => ?_)
  obtain rfl : x4 = 9 := by rw [ex4]; decide
  refine r_calliS S h (k_newLen19 l D E cy _ A ) (va_cwS 3 hts gJx4a65c_grow_92f84_J8_newLength_cabcc rfl rfl rfl (by decide +kernel) ⟨Nat.le_of_ble_eq_true rfl, Nat.le_of_ble_eq_true rfl⟩) (r_preS h [0, 1] [] (wr := [(a, .inr (1, [.int mo, .ref d, .int 19])), rAr cy d 19 f]) (wc := []) rfl rfl rfl _) rfl hl.1 rfl (Nat.le_of_ble_eq_true rfl) dJx4a65c_grow_92f84_27 ⟨Nat.le_of_ble_eq_true rfl, Nat.le_of_ble_eq_true rfl⟩ (fun u5 H locs k6 h => ?_)
  have h : rH D E cy X [(a, .inr (1, [.int mo, .ref d, .int 19])), rAr cy d 19 f] A s H _ := h
  refine lv_istore_n (lv' := [(3, .int 28), (2, .int 19), (0, .ref a), (1, .int 20)]) hx hb dJx4a65c_grow_92f84_30 rfl hl (by decide) rfl (fun ls hl => ?_)
  refine lv_aload_n hx hb dJx4a65c_grow_92f84_31 rfl (lv_at hl 2 rfl) ?_
  refine lv_aload_n hx hb dJx4a65c_grow_92f84_32 rfl (lv_at hl 2 rfl) ?_
  refine r_get S h 0 inJx4a65c (ref := "java/util/ArrayList") rfl rfl (k := 1) (by decide) (by decide +kernel) (fun _ h9 => h9) rfl dJx4a65c_grow_92f84_33 ?_
  refine lv_iload_n hx hb dJx4a65c_grow_92f84_36 rfl (lv_at hl 0 rfl) ?_
  refine r_callrS S h (k_copyB19 l D E cy _ A d f hf) (va_cwS 2 hts gJx4a65c_grow_92f84_J7_copyOf_1904c rfl rfl rfl (by decide +kernel) ⟨Nat.le_of_ble_eq_true rfl, Nat.le_of_ble_eq_true rfl⟩) (r_preS h [0] [1] (wr := [(a, .inr (1, [.int mo, .ref d, .int 19]))]) (wc := [rAr cy d 19 f]) rfl rfl rfl _) rfl hl.1 rfl (Nat.le_of_ble_eq_true rfl) dJx4a65c_grow_92f84_37 ⟨Nat.le_of_ble_eq_true rfl, Nat.le_of_ble_eq_true rfl⟩ (fun u7 H locs k8 h => ?_)
  obtain ⟨n9, rfl⟩ : ∃ z, z = u7 := ⟨_, rfl⟩
  have h : rH D E cy X [(a, .inr (1, [.int mo, .ref d, .int 19])), rAr cy d 19 f, rAr cy n9 28 (va_cpy f (fun _ => none) 0 0 19)] A s H _ := h
  refine lv_dup_x1 hx hb dJx4a65c_grow_92f84_40 rfl rfl ?_
  refine r_put S h 0 tyJx4a65c tyJx4a65c_ok nmJx4a65c inJx4a65c (ref := "java/util/ArrayList") rfl rfl (k := 1) (by decide) (by decide +kernel) (fun _ h9 => h9) rfl rfl rfl rfl (Nat.le_of_ble_eq_true rfl) dJx4a65c_grow_92f84_41 (fun H locs h => ?_)
  have h : rH D E cy X [(a, .inr (1, [.int mo, .ref n9, .int 19])), rAr cy d 19 f, rAr cy n9 28 (va_cpy f (fun _ => none) 0 0 19)] A s H _ := h
  have h := h.pick [0, 2] (w := [(a, .inr (1, [.int mo, .ref n9, .int 19])), rAr cy n9 28 (va_cpy f (fun _ => none) 0 0 19)]) rfl rfl
  exact r_retr S h (Or.inr ⟨_, rfl⟩) n9 rfl trivial hr hlocks rfl ⟨Nat.le_of_ble_eq_true rfl, Nat.le_of_ble_eq_true rfl⟩ dJx4a65c_grow_92f84_44
set_option maxHeartbeats 4000000 in
set_option maxRecDepth 100000 in
/-- grow of 19 -/
theorem k_growG19 (l : Launch) (D : va_G) (E : rEn) (cy : rC) (X : va_W) (A : Nat → Prop) (a d : Nat) (mo : Int32) (f : Nat → Option Nat) (hf : rCa E f) : rMr l yJx4a65c_grow_d5877 wsJx4a65c_grow_d5877 { frames := 4, cells := 1, slots := 28, locals := 127 } D E cy X [(a, .inr (1, [.int mo, .ref d, .int 19])), rAr cy d 19 f] A [.ref a] (fun (q : Nat) => q) (fun (q : Nat) => [(a, .inr (1, [.int mo, .ref q, .int 19])), rAr cy q 28 (va_cpy f (fun _ => none) 0 0 19)]) (fun _ => True) 1 28 := by
  refine r_entry (cc := cJx4a65c_grow_d5877) (maxL := 1) (ret := (some (.array (.object "java/lang/Object")))) (by decide +kernel) rfl (Nat.le_of_ble_eq_true rfl) ?_
  intro p e s m args below meth c ls B
  obtain ⟨S, hr, hlocks, hmi, h, hl⟩ := B
  have hx := S.1
  have hb := S.2.1
  have hts := S.2.2.2.2
  have inJx4a65c : ∀ w ∈ wsJx4a65c0, w ∈ wsJx4a65c_grow_d5877 := by decide +kernel
  have hl : lv_has ls 1 [(0, .ref a)] := hl
  refine lv_aload_n hx hb dJx4a65c_grow_d5877_0 rfl (lv_at hl 0 rfl) ?_
  refine lv_aload_n hx hb dJx4a65c_grow_d5877_1 rfl (lv_at hl 0 rfl) ?_
  refine r_get S h 0 inJx4a65c (ref := "java/util/ArrayList") rfl rfl (k := 2) (by decide) (by decide +kernel) (fun _ h9 => h9) rfl dJx4a65c_grow_d5877_2 ?_
  refine lv_iconst (v := 1) hx hb dJx4a65c_grow_d5877_5 (by decide) ?_
  refine lv_iadd hx hb dJx4a65c_grow_d5877_6 ?_
  refine lv_topi (fun x1 ex1 => ?_)
  obtain rfl : x1 = 20 := by rw [ex1]; decide
  refine r_callr S h (k_grow1G19 l D E cy _ A a d mo f hf) (cwV 1 hts gJx4a65c_grow_d5877_Jx4a65c_grow_92f84 rfl rfl rfl (by decide +kernel) ⟨Nat.le_of_ble_eq_true rfl, Nat.le_of_ble_eq_true rfl⟩) (r_preV h [] [0, 1] (wr := []) (wc := [(a, .inr (1, [.int mo, .ref d, .int 19])), rAr cy d 19 f]) rfl rfl rfl 0 rfl rfl _) rfl hl.1 rfl (Nat.le_of_ble_eq_true rfl) dJx4a65c_grow_d5877_7 ⟨Nat.le_of_ble_eq_true rfl, Nat.le_of_ble_eq_true rfl⟩ (fun u2 H locs k3 h => ?_)
  obtain ⟨n4, rfl⟩ : ∃ z, z = u2 := ⟨_, rfl⟩
  have h : rH D E cy X [(a, .inr (1, [.int mo, .ref n4, .int 19])), rAr cy n4 28 (va_cpy f (fun _ => none) 0 0 19)] A s H _ := h
  exact r_retr S h (Or.inr ⟨_, rfl⟩) n4 rfl trivial hr hlocks rfl ⟨Nat.le_of_ble_eq_true rfl, Nat.le_of_ble_eq_true rfl⟩ dJx4a65c_grow_d5877_10
set_option maxHeartbeats 4000000 in
set_option maxRecDepth 100000 in
/-- add at 19 -/
theorem k_add3G19 (l : Launch) (D : va_G) (E : rEn) (cy : rC) (X : va_W) (A : Nat → Prop) (a v d : Nat) (mo : Int32) (f : Nat → Option Nat) (C : String) (hv : rEl E X C v) (hca : ∀ U : State, rS E U → va_Nw (.castable C "java/lang/Object") U) (hf : rCa E f) : rMv l yJx4a65c_add_72be8 wsJx4a65c_add_72be8 { frames := 5, cells := 1, slots := 28, locals := 147 } D E cy X [(a, .inr (1, [.int mo, .ref d, .int 19])), rAr cy d 19 f] A [.ref a, .ref v, .ref d, .int 19] (fun (q : Nat) => [(a, .inr (1, [.int mo, .ref q, .int 20])), rAr cy q 28 (va_up (va_cpy f (fun _ => none) 0 0 19) 19 (some v))]) (fun _ => True) 1 28 := by
  refine r_entry (cc := cJx4a65c_add_72be8) (maxL := 4) (ret := none) (by decide +kernel) rfl (Nat.le_of_ble_eq_true rfl) ?_
  intro p e s m args below meth c ls B
  obtain ⟨S, hr, hlocks, hmi, h, hl⟩ := B
  have hx := S.1
  have hb := S.2.1
  have hts := S.2.2.2.2
  have inJx4a65c : ∀ w ∈ wsJx4a65c0, w ∈ wsJx4a65c_add_72be8 := by decide +kernel
  have hl : lv_has ls 4 [(0, .ref a), (1, .ref v), (2, .ref d), (3, .int 19)] := hl
  refine lv_iload_n hx hb dJx4a65c_add_72be8_0 rfl (lv_at hl 3 rfl) ?_
  refine lv_aload_n hx hb dJx4a65c_add_72be8_1 rfl (lv_at hl 2 rfl) ?_
  refine r_alenq S h (v := Int32.ofNat 19) 1 rfl rfl dJx4a65c_add_72be8_2 ?_
  refine lv_topi (fun x1 ex1 => ?_)
  obtain rfl : x1 = 19 := by rw [ex1]; rfl
  refine lv_icmp_ne (tgt := 11) hx hb dJx4a65c_add_72be8_3 (by decide) (fun c2 => absurd (by decide) c2) (fun c2 => ?_)
  refine lv_aload_n hx hb dJx4a65c_add_72be8_6 rfl (lv_at hl 0 rfl) ?_
  refine r_callr S h (k_growG19 l D E cy _ A a d mo f hf) (cwV 0 hts gJx4a65c_add_72be8_Jx4a65c_grow_d5877 rfl rfl rfl (by decide +kernel) ⟨Nat.le_of_ble_eq_true rfl, Nat.le_of_ble_eq_true rfl⟩) (r_preV h [] [0, 1] (wr := []) (wc := [(a, .inr (1, [.int mo, .ref d, .int 19])), rAr cy d 19 f]) rfl rfl rfl 0 rfl rfl _) rfl hl.1 rfl (Nat.le_of_ble_eq_true rfl) dJx4a65c_add_72be8_7 ⟨Nat.le_of_ble_eq_true rfl, Nat.le_of_ble_eq_true rfl⟩ (fun u3 H locs k4 h => ?_)
  obtain ⟨n5, rfl⟩ : ∃ z, z = u3 := ⟨_, rfl⟩
  have h : rH D E cy X [(a, .inr (1, [.int mo, .ref n5, .int 19])), rAr cy n5 28 (va_cpy f (fun _ => none) 0 0 19)] A s H _ := h
  refine lv_astore_n (lv' := [(2, .ref n5), (0, .ref a), (1, .ref v), (3, .int 19)]) hx hb dJx4a65c_add_72be8_10 rfl hl (by decide) rfl (fun ls hl => ?_)
  refine lv_aload_n hx hb dJx4a65c_add_72be8_11 rfl (lv_at hl 0 rfl) ?_
  refine lv_iload_n hx hb dJx4a65c_add_72be8_12 rfl (lv_at hl 3 rfl) ?_
  refine lv_aload_n hx hb dJx4a65c_add_72be8_13 rfl (lv_at hl 2 rfl) ?_
  refine r_aast S h 1 rfl hv (hca s h.2.2.2.1.2) (by unfold vp_in; decide) dJx4a65c_add_72be8_14 (fun H locs h => ?_)
  have h : rH D E cy X [(a, .inr (1, [.int mo, .ref n5, .int 19])), rAr cy n5 28 (va_up (va_cpy f (fun _ => none) 0 0 19) 19 (some v))] A s H _ := h
  refine lv_aload_n hx hb dJx4a65c_add_72be8_15 rfl (lv_at hl 1 rfl) ?_
  refine lv_iload_n hx hb dJx4a65c_add_72be8_16 rfl (lv_at hl 3 rfl) ?_
  refine lv_iconst (v := 1) hx hb dJx4a65c_add_72be8_17 (by decide) ?_
  refine lv_iadd hx hb dJx4a65c_add_72be8_18 ?_
  refine lv_topi (fun x6 ex6 => ?_)
  obtain rfl : x6 = 20 := by rw [ex6]; decide
  refine r_put S h 0 tyJx4a65c tyJx4a65c_ok nmJx4a65c inJx4a65c (ref := "java/util/ArrayList") rfl rfl (k := 2) (by decide) (by decide +kernel) (fun _ h9 => h9) rfl rfl rfl rfl (Nat.le_of_ble_eq_true rfl) dJx4a65c_add_72be8_19 (fun H locs h => ?_)
  have h : rH D E cy X [(a, .inr (1, [.int mo, .ref n5, .int 20])), rAr cy n5 28 (va_up (va_cpy f (fun _ => none) 0 0 19) 19 (some v))] A s H _ := h
  exact r_retv S h n5 rfl trivial hr hlocks ⟨Nat.le_of_ble_eq_true rfl, Nat.le_of_ble_eq_true rfl⟩ dJx4a65c_add_72be8_22
set_option maxHeartbeats 4000000 in
set_option maxRecDepth 100000 in
/-- add at 19 -/
theorem k_addG19 (l : Launch) (D : va_G) (E : rEn) (cy : rC) (X : va_W) (A : Nat → Prop) (a v d : Nat) (f : Nat → Option Nat) (C : String) (hv : rEl E X C v) (hca : ∀ U : State, rS E U → va_Nw (.castable C "java/lang/Object") U) (hf : rCa E f) : rMi l yJx4a65c_add_9ea2d wsJx4a65c_add_9ea2d { frames := 6, cells := 1, slots := 28, locals := 170 } D E cy X [(a, .inr (1, [.int 19, .ref d, .int 19])), rAr cy d 19 f] A [.ref a, .ref v] 1 (fun (q : Nat) => [(a, .inr (1, [.int 20, .ref q, .int 20])), rAr cy q 28 (va_up (va_cpy f (fun _ => none) 0 0 19) 19 (some v))]) (fun _ => True) 1 28 := by
  refine r_entry (cc := cJx4a65c_add_9ea2d) (maxL := 2) (ret := (some .boolean)) (by decide +kernel) rfl (Nat.le_of_ble_eq_true rfl) ?_
  intro p e s m args below meth c ls B
  obtain ⟨S, hr, hlocks, hmi, h, hl⟩ := B
  have hx := S.1
  have hb := S.2.1
  have hts := S.2.2.2.2
  have inJx4a65c : ∀ w ∈ wsJx4a65c0, w ∈ wsJx4a65c_add_9ea2d := by decide +kernel
  have hl : lv_has ls 2 [(0, .ref a), (1, .ref v)] := hl
  refine lv_aload_n hx hb dJx4a65c_add_9ea2d_0 rfl (lv_at hl 0 rfl) ?_
  refine lv_dup hx hb dJx4a65c_add_9ea2d_1 rfl ?_
  refine r_get S h 0 inJx4a65c (ref := "java/util/ArrayList") rfl rfl (k := 0) (by decide) (by decide +kernel) (fun x9 h9 => u_same (hts (.sameField "java/util/ArrayList" "java/util/AbstractList" "modCount" "I") (by decide +kernel)) x9 h9) rfl dJx4a65c_add_9ea2d_2 ?_
  refine lv_iconst (v := 1) hx hb dJx4a65c_add_9ea2d_5 (by decide) ?_
  refine lv_iadd hx hb dJx4a65c_add_9ea2d_6 ?_
  refine lv_topi (fun x1 ex1 => ?_)
  obtain rfl : x1 = 20 := by rw [ex1]; decide
  refine r_put S h 0 tyJx4a65c tyJx4a65c_ok nmJx4a65c inJx4a65c (ref := "java/util/ArrayList") rfl rfl (k := 0) (by decide) (by decide +kernel) (fun x9 h9 => u_same (hts (.sameField "java/util/ArrayList" "java/util/AbstractList" "modCount" "I") (by decide +kernel)) x9 h9) rfl rfl rfl rfl (Nat.le_of_ble_eq_true rfl) dJx4a65c_add_9ea2d_7 (fun H locs h => ?_)
  have h : rH D E cy X [(a, .inr (1, [.int 20, .ref d, .int 19])), rAr cy d 19 f] A s H _ := h
  refine lv_aload_n hx hb dJx4a65c_add_9ea2d_10 rfl (lv_at hl 0 rfl) ?_
  refine lv_aload_n hx hb dJx4a65c_add_9ea2d_11 rfl (lv_at hl 1 rfl) ?_
  refine lv_aload_n hx hb dJx4a65c_add_9ea2d_12 rfl (lv_at hl 0 rfl) ?_
  refine r_get S h 0 inJx4a65c (ref := "java/util/ArrayList") rfl rfl (k := 1) (by decide) (by decide +kernel) (fun _ h9 => h9) rfl dJx4a65c_add_9ea2d_13 ?_
  refine lv_aload_n hx hb dJx4a65c_add_9ea2d_16 rfl (lv_at hl 0 rfl) ?_
  refine r_get S h 0 inJx4a65c (ref := "java/util/ArrayList") rfl rfl (k := 2) (by decide) (by decide +kernel) (fun _ h9 => h9) rfl dJx4a65c_add_9ea2d_17 ?_
  refine r_callv S h (k_add3G19 l D E cy _ A a v d 20 f C hv.app hca hf) (cwV 3 hts gJx4a65c_add_9ea2d_Jx4a65c_add_72be8 rfl rfl rfl (by decide +kernel) ⟨Nat.le_of_ble_eq_true rfl, Nat.le_of_ble_eq_true rfl⟩) (r_preV h [] [0, 1] (wr := []) (wc := [(a, .inr (1, [.int 20, .ref d, .int 19])), rAr cy d 19 f]) rfl rfl rfl 0 rfl rfl _) rfl hl.1 rfl (Nat.le_of_ble_eq_true rfl) dJx4a65c_add_9ea2d_20 ⟨Nat.le_of_ble_eq_true rfl, Nat.le_of_ble_eq_true rfl⟩ (fun u2 H locs k3 h => ?_)
  obtain ⟨n4, rfl⟩ : ∃ z, z = u2 := ⟨_, rfl⟩
  have h : rH D E cy X [(a, .inr (1, [.int 20, .ref n4, .int 20])), rAr cy n4 28 (va_up (va_cpy f (fun _ => none) 0 0 19) 19 (some v))] A s H _ := h
  refine lv_iconst (v := 1) hx hb dJx4a65c_add_9ea2d_23 (by decide) ?_
  exact r_reti S h n4 rfl trivial hr hlocks rfl (rfl) ⟨Nat.le_of_ble_eq_true rfl, Nat.le_of_ble_eq_true rfl⟩ dJx4a65c_add_9ea2d_24
set_option maxHeartbeats 4000000 in
set_option maxRecDepth 100000 in
/-- copyOf, 22 to 33 -/
theorem k_copyC22 (l : Launch) (D : va_G) (E : rEn) (cy : rC) (X : va_W) (A : Nat → Prop) (d : Nat) (f : Nat → Option Nat) (hf : rCa E f) : rMr l yJ7_copyOf_6403c wsJ7_copyOf_6403c { frames := 1, cells := 1, slots := 33, locals := 60 } D E cy X [rAr cy d 22 f] A [.ref d, .int 33, .ref E.2.2.2.2] (fun (q : Nat) => q) (fun (q : Nat) => [rAr cy d 22 f, rAr cy q 33 (va_cpy f (fun _ => none) 0 0 22)]) (fun _ => True) 1 33 := by
  refine r_entry (cc := cJ7_copyOf_6403c) (maxL := 4) (ret := (some (.array (.object "java/lang/Object")))) (by decide +kernel) rfl (Nat.le_of_ble_eq_true rfl) ?_
  intro p e s m args below meth c ls B
  obtain ⟨S, hr, hlocks, hmi, h, hl⟩ := B
  have hx := S.1
  have hb := S.2.1
  have hts := S.2.2.2.2
  have hl : lv_has ls 4 [(0, .ref d), (1, .int 33), (2, .ref E.2.2.2.2)] := hl
  refine lv_aload_n hx hb dJ7_copyOf_6403c_0 rfl (lv_at hl 2 rfl) ?_
  refine r_ldcM S h (by decide +kernel) dJ7_copyOf_6403c_1 ?_
  refine lv_acmp_ne (rx := some E.2.2.2.2) (ry := some E.2.2.2.2) (tgt := 13) hx hb dJ7_copyOf_6403c_3 (by decide) (fun c1 => absurd rfl c1) (fun c1 => ?_)
  refine lv_iload_n hx hb dJ7_copyOf_6403c_6 rfl (lv_at hl 1 rfl) ?_
  refine r_newq S h (N := 33) (by decide +kernel) (by decide) rfl (by decide) (Nat.le_of_ble_eq_true rfl) (Nat.le_of_ble_eq_true rfl) dJ7_copyOf_6403c_7 (fun n2 H h => ?_)
  have h : rH D E cy X [rAr cy d 22 f, rAr cy n2 33 (fun _ => none)] A s H _ := h
  refine lv_goto (tgt := 24) hx hb dJ7_copyOf_6403c_10 (by decide) ?_
  refine lv_astore_n (lv' := [(3, .ref n2), (0, .ref d), (1, .int 33), (2, .ref E.2.2.2.2)]) hx hb dJ7_copyOf_6403c_24 rfl hl (by decide) rfl (fun ls hl => ?_)
  refine lv_aload_n hx hb dJ7_copyOf_6403c_25 rfl (lv_at hl 1 rfl) ?_
  refine lv_iconst (v := 0) hx hb dJ7_copyOf_6403c_26 (by decide) ?_
  refine lv_aload_n hx hb dJ7_copyOf_6403c_27 rfl (lv_at hl 0 rfl) ?_
  refine lv_iconst (v := 0) hx hb dJ7_copyOf_6403c_28 (by decide) ?_
  refine lv_aload_n hx hb dJ7_copyOf_6403c_29 rfl (lv_at hl 1 rfl) ?_
  refine r_alenq S h (v := Int32.ofNat 22) 0 rfl rfl dJ7_copyOf_6403c_30 ?_
  refine lv_topi (fun x3 ex3 => ?_)
  obtain rfl : x3 = 22 := by rw [ex3]; rfl
  refine lv_iload_n hx hb dJ7_copyOf_6403c_31 rfl (lv_at hl 2 rfl) ?_
  refine va_mmin hx hb (S.2.2.1.trans hl.1.symm) S.2.2.2.1 (hts (.methodLink RJ7 304 Lib.Math.min.name) (by decide +kernel)) (hts (.static Lib.Math.min.name) (by decide +kernel)) (hts (.initialized "java/lang/Math") (by decide +kernel)) (hts (.code Lib.Math.min.name Lib.Math.min.code 2 (some .int)) (by decide +kernel)) (Nat.le_of_ble_eq_true rfl) (Nat.le_of_ble_eq_true rfl) (Nat.le_of_ble_eq_true rfl) (Nat.le_of_ble_eq_true rfl) dJ7_copyOf_6403c_32 ?_
  refine lv_topi (fun x4 ex4 => ?_)
  obtain rfl : x4 = 22 := by rw [ex4]; decide
  refine r_copyq S h hl.1 0 1 rfl rfl (N := 22) (by decide) rfl (by decide) (by decide) hf (by decide +kernel) (by decide +kernel) (by decide +kernel) (by decide +kernel) (Nat.le_of_ble_eq_true rfl) (by decide) dJ7_copyOf_6403c_35 (fun H locs h => ?_)
  have h : rH D E cy X [rAr cy d 22 f, rAr cy n2 33 (va_cpy f (fun _ => none) 0 0 22)] A s H _ := h
  refine lv_aload_n hx hb dJ7_copyOf_6403c_38 rfl (lv_at hl 0 rfl) ?_
  exact r_retr S h (Or.inr ⟨_, rfl⟩) n2 rfl trivial hr hlocks rfl ⟨Nat.le_of_ble_eq_true rfl, Nat.le_of_ble_eq_true rfl⟩ dJ7_copyOf_6403c_39
set_option maxHeartbeats 4000000 in
set_option maxRecDepth 100000 in
/-- copyOf, 22 to 33 -/
theorem k_copyB22 (l : Launch) (D : va_G) (E : rEn) (cy : rC) (X : va_W) (A : Nat → Prop) (d : Nat) (f : Nat → Option Nat) (hf : rCa E f) : rMr l yJ7_copyOf_1904c wsJ7_copyOf_1904c { frames := 2, cells := 1, slots := 33, locals := 83 } D E cy X [rAr cy d 22 f] A [.ref d, .int 33] (fun (q : Nat) => q) (fun (q : Nat) => [rAr cy d 22 f, rAr cy q 33 (va_cpy f (fun _ => none) 0 0 22)]) (fun _ => True) 1 33 := by
  refine r_entry (cc := cJ7_copyOf_1904c) (maxL := 2) (ret := (some (.array (.object "java/lang/Object")))) (by decide +kernel) rfl (Nat.le_of_ble_eq_true rfl) ?_
  intro p e s m args below meth c ls B
  obtain ⟨S, hr, hlocks, hmi, h, hl⟩ := B
  have hx := S.1
  have hb := S.2.1
  have hts := S.2.2.2.2
  have hl : lv_has ls 2 [(0, .ref d), (1, .int 33)] := hl
  refine lv_aload_n hx hb dJ7_copyOf_1904c_0 rfl (lv_at hl 0 rfl) ?_
  refine lv_iload_n hx hb dJ7_copyOf_1904c_1 rfl (lv_at hl 1 rfl) ?_
  refine lv_aload_n hx hb dJ7_copyOf_1904c_2 rfl (lv_at hl 0 rfl) ?_
  refine r_gc S h hl.1 (Or.inl ⟨0, _, _, rfl⟩) (by decide +kernel) (by decide +kernel) (by decide +kernel) (by decide +kernel) (Nat.le_of_ble_eq_true rfl) (Nat.le_of_ble_eq_true rfl) dJ7_copyOf_1904c_3 ?_
  refine r_callrS S h (k_copyC22 l D E cy _ A d f hf) (cwS 3 hts gJ7_copyOf_1904c_J7_copyOf_6403c rfl rfl rfl (by decide +kernel) ⟨Nat.le_of_ble_eq_true rfl, Nat.le_of_ble_eq_true rfl⟩) (r_preS h [] [0] (wr := []) (wc := [rAr cy d 22 f]) rfl rfl rfl _) rfl hl.1 rfl (Nat.le_of_ble_eq_true rfl) dJ7_copyOf_1904c_6 ⟨Nat.le_of_ble_eq_true rfl, Nat.le_of_ble_eq_true rfl⟩ (fun u1 H locs k2 h => ?_)
  obtain ⟨n3, rfl⟩ : ∃ z, z = u1 := ⟨_, rfl⟩
  have h : rH D E cy X [rAr cy d 22 f, rAr cy n3 33 (va_cpy f (fun _ => none) 0 0 22)] A s H _ := h
  exact r_retr S h (Or.inr ⟨_, rfl⟩) n3 rfl trivial hr hlocks rfl ⟨Nat.le_of_ble_eq_true rfl, Nat.le_of_ble_eq_true rfl⟩ dJ7_copyOf_1904c_9
set_option maxHeartbeats 4000000 in
set_option maxRecDepth 100000 in
/-- grow of 22 -/
theorem k_grow1G22 (l : Launch) (D : va_G) (E : rEn) (cy : rC) (X : va_W) (A : Nat → Prop) (a d : Nat) (mo : Int32) (f : Nat → Option Nat) (hf : rCa E f) : rMr l yJx4a65c_grow_92f84 wsJx4a65c_grow_92f84 { frames := 3, cells := 1, slots := 33, locals := 104 } D E cy X [(a, .inr (1, [.int mo, .ref d, .int 22])), rAr cy d 22 f] A [.ref a, .int 23] (fun (q : Nat) => q) (fun (q : Nat) => [(a, .inr (1, [.int mo, .ref q, .int 22])), rAr cy q 33 (va_cpy f (fun _ => none) 0 0 22)]) (fun _ => True) 1 33 := by
  refine r_entry (cc := cJx4a65c_grow_92f84) (maxL := 4) (ret := (some (.array (.object "java/lang/Object")))) (by decide +kernel) rfl (Nat.le_of_ble_eq_true rfl) ?_
  intro p e s m args below meth c ls B
  obtain ⟨S, hr, hlocks, hmi, h, hl⟩ := B
  have hx := S.1
  have hb := S.2.1
  have hts := S.2.2.2.2
  have inJx4a65c : ∀ w ∈ wsJx4a65c0, w ∈ wsJx4a65c_grow_92f84 := by decide +kernel
  have hl : lv_has ls 4 [(0, .ref a), (1, .int 23)] := hl
  refine lv_aload_n hx hb dJx4a65c_grow_92f84_0 rfl (lv_at hl 0 rfl) ?_
  refine r_get S h 0 inJx4a65c (ref := "java/util/ArrayList") rfl rfl (k := 1) (by decide) (by decide +kernel) (fun _ h9 => h9) rfl dJx4a65c_grow_92f84_1 ?_
  refine r_alenq S h (v := Int32.ofNat 22) 1 rfl rfl dJx4a65c_grow_92f84_4 ?_
  refine lv_topi (fun x1 ex1 => ?_)
  obtain rfl : x1 = 22 := by rw [ex1]; rfl
  refine lv_istore_n (lv' := [(2, .int 22), (0, .ref a), (1, .int 23)]) hx hb dJx4a65c_grow_92f84_5 rfl hl (by decide) rfl (fun ls hl => ?_)
  refine lv_iload_n hx hb dJx4a65c_grow_92f84_6 rfl (lv_at hl 0 rfl) ?_
  refine lv_if_gt (tgt := 20) hx hb dJx4a65c_grow_92f84_7 (by decide) (fun c2 => ?_) (fun c2 => absurd (by decide) c2)
  refine lv_iload_n hx hb dJx4a65c_grow_92f84_20 rfl (lv_at hl 0 rfl) ?_
  refine lv_iload_n hx hb dJx4a65c_grow_92f84_21 rfl (lv_at hl 2 rfl) ?_
  refine lv_iload_n hx hb dJx4a65c_grow_92f84_22 rfl (lv_at hl 0 rfl) ?_
  refine lv_isub hx hb dJx4a65c_grow_92f84_23 ?_
  refine lv_topi (fun x3 ex3 => ?_)
  obtain rfl : x3 = 1 := by rw [ex3]; decide
  refine lv_iload_n hx hb dJx4a65c_grow_92f84_24 rfl (lv_at hl 0 rfl) ?_
  refine lv_iconst (v := 1) hx hb dJx4a65c_grow_92f84_25 (by decide) ?_
  refine lv_ishr hx hb dJx4a65c_grow_92f84_26 ?_
  refine lv_topi (fun x4 ex4 => ?_)
  obtain rfl : x4 = 11 := by rw [ex4]; decide
  refine r_calliS S h (k_newLen22 l D E cy _ A ) (va_cwS 3 hts gJx4a65c_grow_92f84_J8_newLength_cabcc rfl rfl rfl (by decide +kernel) ⟨Nat.le_of_ble_eq_true rfl, Nat.le_of_ble_eq_true rfl⟩) (r_preS h [0, 1] [] (wr := [(a, .inr (1, [.int mo, .ref d, .int 22])), rAr cy d 22 f]) (wc := []) rfl rfl rfl _) rfl hl.1 rfl (Nat.le_of_ble_eq_true rfl) dJx4a65c_grow_92f84_27 ⟨Nat.le_of_ble_eq_true rfl, Nat.le_of_ble_eq_true rfl⟩ (fun u5 H locs k6 h => ?_)
  have h : rH D E cy X [(a, .inr (1, [.int mo, .ref d, .int 22])), rAr cy d 22 f] A s H _ := h
  refine lv_istore_n (lv' := [(3, .int 33), (2, .int 22), (0, .ref a), (1, .int 23)]) hx hb dJx4a65c_grow_92f84_30 rfl hl (by decide) rfl (fun ls hl => ?_)
  refine lv_aload_n hx hb dJx4a65c_grow_92f84_31 rfl (lv_at hl 2 rfl) ?_
  refine lv_aload_n hx hb dJx4a65c_grow_92f84_32 rfl (lv_at hl 2 rfl) ?_
  refine r_get S h 0 inJx4a65c (ref := "java/util/ArrayList") rfl rfl (k := 1) (by decide) (by decide +kernel) (fun _ h9 => h9) rfl dJx4a65c_grow_92f84_33 ?_
  refine lv_iload_n hx hb dJx4a65c_grow_92f84_36 rfl (lv_at hl 0 rfl) ?_
  refine r_callrS S h (k_copyB22 l D E cy _ A d f hf) (va_cwS 2 hts gJx4a65c_grow_92f84_J7_copyOf_1904c rfl rfl rfl (by decide +kernel) ⟨Nat.le_of_ble_eq_true rfl, Nat.le_of_ble_eq_true rfl⟩) (r_preS h [0] [1] (wr := [(a, .inr (1, [.int mo, .ref d, .int 22]))]) (wc := [rAr cy d 22 f]) rfl rfl rfl _) rfl hl.1 rfl (Nat.le_of_ble_eq_true rfl) dJx4a65c_grow_92f84_37 ⟨Nat.le_of_ble_eq_true rfl, Nat.le_of_ble_eq_true rfl⟩ (fun u7 H locs k8 h => ?_)
  obtain ⟨n9, rfl⟩ : ∃ z, z = u7 := ⟨_, rfl⟩
  have h : rH D E cy X [(a, .inr (1, [.int mo, .ref d, .int 22])), rAr cy d 22 f, rAr cy n9 33 (va_cpy f (fun _ => none) 0 0 22)] A s H _ := h
  refine lv_dup_x1 hx hb dJx4a65c_grow_92f84_40 rfl rfl ?_
  refine r_put S h 0 tyJx4a65c tyJx4a65c_ok nmJx4a65c inJx4a65c (ref := "java/util/ArrayList") rfl rfl (k := 1) (by decide) (by decide +kernel) (fun _ h9 => h9) rfl rfl rfl rfl (Nat.le_of_ble_eq_true rfl) dJx4a65c_grow_92f84_41 (fun H locs h => ?_)
  have h : rH D E cy X [(a, .inr (1, [.int mo, .ref n9, .int 22])), rAr cy d 22 f, rAr cy n9 33 (va_cpy f (fun _ => none) 0 0 22)] A s H _ := h
  have h := h.pick [0, 2] (w := [(a, .inr (1, [.int mo, .ref n9, .int 22])), rAr cy n9 33 (va_cpy f (fun _ => none) 0 0 22)]) rfl rfl
  exact r_retr S h (Or.inr ⟨_, rfl⟩) n9 rfl trivial hr hlocks rfl ⟨Nat.le_of_ble_eq_true rfl, Nat.le_of_ble_eq_true rfl⟩ dJx4a65c_grow_92f84_44
set_option maxHeartbeats 4000000 in
set_option maxRecDepth 100000 in
/-- grow of 22 -/
theorem k_growG22 (l : Launch) (D : va_G) (E : rEn) (cy : rC) (X : va_W) (A : Nat → Prop) (a d : Nat) (mo : Int32) (f : Nat → Option Nat) (hf : rCa E f) : rMr l yJx4a65c_grow_d5877 wsJx4a65c_grow_d5877 { frames := 4, cells := 1, slots := 33, locals := 127 } D E cy X [(a, .inr (1, [.int mo, .ref d, .int 22])), rAr cy d 22 f] A [.ref a] (fun (q : Nat) => q) (fun (q : Nat) => [(a, .inr (1, [.int mo, .ref q, .int 22])), rAr cy q 33 (va_cpy f (fun _ => none) 0 0 22)]) (fun _ => True) 1 33 := by
  refine r_entry (cc := cJx4a65c_grow_d5877) (maxL := 1) (ret := (some (.array (.object "java/lang/Object")))) (by decide +kernel) rfl (Nat.le_of_ble_eq_true rfl) ?_
  intro p e s m args below meth c ls B
  obtain ⟨S, hr, hlocks, hmi, h, hl⟩ := B
  have hx := S.1
  have hb := S.2.1
  have hts := S.2.2.2.2
  have inJx4a65c : ∀ w ∈ wsJx4a65c0, w ∈ wsJx4a65c_grow_d5877 := by decide +kernel
  have hl : lv_has ls 1 [(0, .ref a)] := hl
  refine lv_aload_n hx hb dJx4a65c_grow_d5877_0 rfl (lv_at hl 0 rfl) ?_
  refine lv_aload_n hx hb dJx4a65c_grow_d5877_1 rfl (lv_at hl 0 rfl) ?_
  refine r_get S h 0 inJx4a65c (ref := "java/util/ArrayList") rfl rfl (k := 2) (by decide) (by decide +kernel) (fun _ h9 => h9) rfl dJx4a65c_grow_d5877_2 ?_
  refine lv_iconst (v := 1) hx hb dJx4a65c_grow_d5877_5 (by decide) ?_
  refine lv_iadd hx hb dJx4a65c_grow_d5877_6 ?_
  refine lv_topi (fun x1 ex1 => ?_)
  obtain rfl : x1 = 23 := by rw [ex1]; decide
  refine r_callr S h (k_grow1G22 l D E cy _ A a d mo f hf) (cwV 1 hts gJx4a65c_grow_d5877_Jx4a65c_grow_92f84 rfl rfl rfl (by decide +kernel) ⟨Nat.le_of_ble_eq_true rfl, Nat.le_of_ble_eq_true rfl⟩) (r_preV h [] [0, 1] (wr := []) (wc := [(a, .inr (1, [.int mo, .ref d, .int 22])), rAr cy d 22 f]) rfl rfl rfl 0 rfl rfl _) rfl hl.1 rfl (Nat.le_of_ble_eq_true rfl) dJx4a65c_grow_d5877_7 ⟨Nat.le_of_ble_eq_true rfl, Nat.le_of_ble_eq_true rfl⟩ (fun u2 H locs k3 h => ?_)
  obtain ⟨n4, rfl⟩ : ∃ z, z = u2 := ⟨_, rfl⟩
  have h : rH D E cy X [(a, .inr (1, [.int mo, .ref n4, .int 22])), rAr cy n4 33 (va_cpy f (fun _ => none) 0 0 22)] A s H _ := h
  exact r_retr S h (Or.inr ⟨_, rfl⟩) n4 rfl trivial hr hlocks rfl ⟨Nat.le_of_ble_eq_true rfl, Nat.le_of_ble_eq_true rfl⟩ dJx4a65c_grow_d5877_10
set_option maxHeartbeats 4000000 in
set_option maxRecDepth 100000 in
/-- add at 22 -/
theorem k_add3G22 (l : Launch) (D : va_G) (E : rEn) (cy : rC) (X : va_W) (A : Nat → Prop) (a v d : Nat) (mo : Int32) (f : Nat → Option Nat) (C : String) (hv : rEl E X C v) (hca : ∀ U : State, rS E U → va_Nw (.castable C "java/lang/Object") U) (hf : rCa E f) : rMv l yJx4a65c_add_72be8 wsJx4a65c_add_72be8 { frames := 5, cells := 1, slots := 33, locals := 147 } D E cy X [(a, .inr (1, [.int mo, .ref d, .int 22])), rAr cy d 22 f] A [.ref a, .ref v, .ref d, .int 22] (fun (q : Nat) => [(a, .inr (1, [.int mo, .ref q, .int 23])), rAr cy q 33 (va_up (va_cpy f (fun _ => none) 0 0 22) 22 (some v))]) (fun _ => True) 1 33 := by
  refine r_entry (cc := cJx4a65c_add_72be8) (maxL := 4) (ret := none) (by decide +kernel) rfl (Nat.le_of_ble_eq_true rfl) ?_
  intro p e s m args below meth c ls B
  obtain ⟨S, hr, hlocks, hmi, h, hl⟩ := B
  have hx := S.1
  have hb := S.2.1
  have hts := S.2.2.2.2
  have inJx4a65c : ∀ w ∈ wsJx4a65c0, w ∈ wsJx4a65c_add_72be8 := by decide +kernel
  have hl : lv_has ls 4 [(0, .ref a), (1, .ref v), (2, .ref d), (3, .int 22)] := hl
  refine lv_iload_n hx hb dJx4a65c_add_72be8_0 rfl (lv_at hl 3 rfl) ?_
  refine lv_aload_n hx hb dJx4a65c_add_72be8_1 rfl (lv_at hl 2 rfl) ?_
  refine r_alenq S h (v := Int32.ofNat 22) 1 rfl rfl dJx4a65c_add_72be8_2 ?_
  refine lv_topi (fun x1 ex1 => ?_)
  obtain rfl : x1 = 22 := by rw [ex1]; rfl
  refine lv_icmp_ne (tgt := 11) hx hb dJx4a65c_add_72be8_3 (by decide) (fun c2 => absurd (by decide) c2) (fun c2 => ?_)
  refine lv_aload_n hx hb dJx4a65c_add_72be8_6 rfl (lv_at hl 0 rfl) ?_
  refine r_callr S h (k_growG22 l D E cy _ A a d mo f hf) (cwV 0 hts gJx4a65c_add_72be8_Jx4a65c_grow_d5877 rfl rfl rfl (by decide +kernel) ⟨Nat.le_of_ble_eq_true rfl, Nat.le_of_ble_eq_true rfl⟩) (r_preV h [] [0, 1] (wr := []) (wc := [(a, .inr (1, [.int mo, .ref d, .int 22])), rAr cy d 22 f]) rfl rfl rfl 0 rfl rfl _) rfl hl.1 rfl (Nat.le_of_ble_eq_true rfl) dJx4a65c_add_72be8_7 ⟨Nat.le_of_ble_eq_true rfl, Nat.le_of_ble_eq_true rfl⟩ (fun u3 H locs k4 h => ?_)
  obtain ⟨n5, rfl⟩ : ∃ z, z = u3 := ⟨_, rfl⟩
  have h : rH D E cy X [(a, .inr (1, [.int mo, .ref n5, .int 22])), rAr cy n5 33 (va_cpy f (fun _ => none) 0 0 22)] A s H _ := h
  refine lv_astore_n (lv' := [(2, .ref n5), (0, .ref a), (1, .ref v), (3, .int 22)]) hx hb dJx4a65c_add_72be8_10 rfl hl (by decide) rfl (fun ls hl => ?_)
  refine lv_aload_n hx hb dJx4a65c_add_72be8_11 rfl (lv_at hl 0 rfl) ?_
  refine lv_iload_n hx hb dJx4a65c_add_72be8_12 rfl (lv_at hl 3 rfl) ?_
  refine lv_aload_n hx hb dJx4a65c_add_72be8_13 rfl (lv_at hl 2 rfl) ?_
  refine r_aast S h 1 rfl hv (hca s h.2.2.2.1.2) (by unfold vp_in; decide) dJx4a65c_add_72be8_14 (fun H locs h => ?_)
  have h : rH D E cy X [(a, .inr (1, [.int mo, .ref n5, .int 22])), rAr cy n5 33 (va_up (va_cpy f (fun _ => none) 0 0 22) 22 (some v))] A s H _ := h
  refine lv_aload_n hx hb dJx4a65c_add_72be8_15 rfl (lv_at hl 1 rfl) ?_
  refine lv_iload_n hx hb dJx4a65c_add_72be8_16 rfl (lv_at hl 3 rfl) ?_
  refine lv_iconst (v := 1) hx hb dJx4a65c_add_72be8_17 (by decide) ?_
  refine lv_iadd hx hb dJx4a65c_add_72be8_18 ?_
  refine lv_topi (fun x6 ex6 => ?_)
  obtain rfl : x6 = 23 := by rw [ex6]; decide
  refine r_put S h 0 tyJx4a65c tyJx4a65c_ok nmJx4a65c inJx4a65c (ref := "java/util/ArrayList") rfl rfl (k := 2) (by decide) (by decide +kernel) (fun _ h9 => h9) rfl rfl rfl rfl (Nat.le_of_ble_eq_true rfl) dJx4a65c_add_72be8_19 (fun H locs h => ?_)
  have h : rH D E cy X [(a, .inr (1, [.int mo, .ref n5, .int 23])), rAr cy n5 33 (va_up (va_cpy f (fun _ => none) 0 0 22) 22 (some v))] A s H _ := h
  exact r_retv S h n5 rfl trivial hr hlocks ⟨Nat.le_of_ble_eq_true rfl, Nat.le_of_ble_eq_true rfl⟩ dJx4a65c_add_72be8_22
set_option maxHeartbeats 4000000 in
set_option maxRecDepth 100000 in
/-- add at 22 -/
theorem k_addG22 (l : Launch) (D : va_G) (E : rEn) (cy : rC) (X : va_W) (A : Nat → Prop) (a v d : Nat) (f : Nat → Option Nat) (C : String) (hv : rEl E X C v) (hca : ∀ U : State, rS E U → va_Nw (.castable C "java/lang/Object") U) (hf : rCa E f) : rMi l yJx4a65c_add_9ea2d wsJx4a65c_add_9ea2d { frames := 6, cells := 1, slots := 33, locals := 170 } D E cy X [(a, .inr (1, [.int 22, .ref d, .int 22])), rAr cy d 22 f] A [.ref a, .ref v] 1 (fun (q : Nat) => [(a, .inr (1, [.int 23, .ref q, .int 23])), rAr cy q 33 (va_up (va_cpy f (fun _ => none) 0 0 22) 22 (some v))]) (fun _ => True) 1 33 := by
  refine r_entry (cc := cJx4a65c_add_9ea2d) (maxL := 2) (ret := (some .boolean)) (by decide +kernel) rfl (Nat.le_of_ble_eq_true rfl) ?_
  intro p e s m args below meth c ls B
  obtain ⟨S, hr, hlocks, hmi, h, hl⟩ := B
  have hx := S.1
  have hb := S.2.1
  have hts := S.2.2.2.2
  have inJx4a65c : ∀ w ∈ wsJx4a65c0, w ∈ wsJx4a65c_add_9ea2d := by decide +kernel
  have hl : lv_has ls 2 [(0, .ref a), (1, .ref v)] := hl
  refine lv_aload_n hx hb dJx4a65c_add_9ea2d_0 rfl (lv_at hl 0 rfl) ?_
  refine lv_dup hx hb dJx4a65c_add_9ea2d_1 rfl ?_
  refine r_get S h 0 inJx4a65c (ref := "java/util/ArrayList") rfl rfl (k := 0) (by decide) (by decide +kernel) (fun x9 h9 => u_same (hts (.sameField "java/util/ArrayList" "java/util/AbstractList" "modCount" "I") (by decide +kernel)) x9 h9) rfl dJx4a65c_add_9ea2d_2 ?_
  refine lv_iconst (v := 1) hx hb dJx4a65c_add_9ea2d_5 (by decide) ?_
  refine lv_iadd hx hb dJx4a65c_add_9ea2d_6 ?_
  refine lv_topi (fun x1 ex1 => ?_)
  obtain rfl : x1 = 23 := by rw [ex1]; decide
  refine r_put S h 0 tyJx4a65c tyJx4a65c_ok nmJx4a65c inJx4a65c (ref := "java/util/ArrayList") rfl rfl (k := 0) (by decide) (by decide +kernel) (fun x9 h9 => u_same (hts (.sameField "java/util/ArrayList" "java/util/AbstractList" "modCount" "I") (by decide +kernel)) x9 h9) rfl rfl rfl rfl (Nat.le_of_ble_eq_true rfl) dJx4a65c_add_9ea2d_7 (fun H locs h => ?_)
  have h : rH D E cy X [(a, .inr (1, [.int 23, .ref d, .int 22])), rAr cy d 22 f] A s H _ := h
  refine lv_aload_n hx hb dJx4a65c_add_9ea2d_10 rfl (lv_at hl 0 rfl) ?_
  refine lv_aload_n hx hb dJx4a65c_add_9ea2d_11 rfl (lv_at hl 1 rfl) ?_
  refine lv_aload_n hx hb dJx4a65c_add_9ea2d_12 rfl (lv_at hl 0 rfl) ?_
  refine r_get S h 0 inJx4a65c (ref := "java/util/ArrayList") rfl rfl (k := 1) (by decide) (by decide +kernel) (fun _ h9 => h9) rfl dJx4a65c_add_9ea2d_13 ?_
  refine lv_aload_n hx hb dJx4a65c_add_9ea2d_16 rfl (lv_at hl 0 rfl) ?_
  refine r_get S h 0 inJx4a65c (ref := "java/util/ArrayList") rfl rfl (k := 2) (by decide) (by decide +kernel) (fun _ h9 => h9) rfl dJx4a65c_add_9ea2d_17 ?_
  refine r_callv S h (k_add3G22 l D E cy _ A a v d 23 f C hv.app hca hf) (cwV 3 hts gJx4a65c_add_9ea2d_Jx4a65c_add_72be8 rfl rfl rfl (by decide +kernel) ⟨Nat.le_of_ble_eq_true rfl, Nat.le_of_ble_eq_true rfl⟩) (r_preV h [] [0, 1] (wr := []) (wc := [(a, .inr (1, [.int 23, .ref d, .int 22])), rAr cy d 22 f]) rfl rfl rfl 0 rfl rfl _) rfl hl.1 rfl (Nat.le_of_ble_eq_true rfl) dJx4a65c_add_9ea2d_20 ⟨Nat.le_of_ble_eq_true rfl, Nat.le_of_ble_eq_true rfl⟩ (fun u2 H locs k3 h => ?_)
  obtain ⟨n4, rfl⟩ : ∃ z, z = u2 := ⟨_, rfl⟩
  have h : rH D E cy X [(a, .inr (1, [.int 23, .ref n4, .int 23])), rAr cy n4 33 (va_up (va_cpy f (fun _ => none) 0 0 22) 22 (some v))] A s H _ := h
  refine lv_iconst (v := 1) hx hb dJx4a65c_add_9ea2d_23 (by decide) ?_
  exact r_reti S h n4 rfl trivial hr hlocks rfl (rfl) ⟨Nat.le_of_ble_eq_true rfl, Nat.le_of_ble_eq_true rfl⟩ dJx4a65c_add_9ea2d_24
set_option maxHeartbeats 4000000 in
set_option maxRecDepth 100000 in
/-- copyOf, 28 to 42 -/
theorem k_copyC28 (l : Launch) (D : va_G) (E : rEn) (cy : rC) (X : va_W) (A : Nat → Prop) (d : Nat) (f : Nat → Option Nat) (hf : rCa E f) : rMr l yJ7_copyOf_6403c wsJ7_copyOf_6403c { frames := 1, cells := 1, slots := 42, locals := 60 } D E cy X [rAr cy d 28 f] A [.ref d, .int 42, .ref E.2.2.2.2] (fun (q : Nat) => q) (fun (q : Nat) => [rAr cy d 28 f, rAr cy q 42 (va_cpy f (fun _ => none) 0 0 28)]) (fun _ => True) 1 42 := by
  refine r_entry (cc := cJ7_copyOf_6403c) (maxL := 4) (ret := (some (.array (.object "java/lang/Object")))) (by decide +kernel) rfl (Nat.le_of_ble_eq_true rfl) ?_
  intro p e s m args below meth c ls B
  obtain ⟨S, hr, hlocks, hmi, h, hl⟩ := B
  have hx := S.1
  have hb := S.2.1
  have hts := S.2.2.2.2
  have hl : lv_has ls 4 [(0, .ref d), (1, .int 42), (2, .ref E.2.2.2.2)] := hl
  refine lv_aload_n hx hb dJ7_copyOf_6403c_0 rfl (lv_at hl 2 rfl) ?_
  refine r_ldcM S h (by decide +kernel) dJ7_copyOf_6403c_1 ?_
  refine lv_acmp_ne (rx := some E.2.2.2.2) (ry := some E.2.2.2.2) (tgt := 13) hx hb dJ7_copyOf_6403c_3 (by decide) (fun c1 => absurd rfl c1) (fun c1 => ?_)
  refine lv_iload_n hx hb dJ7_copyOf_6403c_6 rfl (lv_at hl 1 rfl) ?_
  refine r_newq S h (N := 42) (by decide +kernel) (by decide) rfl (by decide) (Nat.le_of_ble_eq_true rfl) (Nat.le_of_ble_eq_true rfl) dJ7_copyOf_6403c_7 (fun n2 H h => ?_)
  have h : rH D E cy X [rAr cy d 28 f, rAr cy n2 42 (fun _ => none)] A s H _ := h
  refine lv_goto (tgt := 24) hx hb dJ7_copyOf_6403c_10 (by decide) ?_
  refine lv_astore_n (lv' := [(3, .ref n2), (0, .ref d), (1, .int 42), (2, .ref E.2.2.2.2)]) hx hb dJ7_copyOf_6403c_24 rfl hl (by decide) rfl (fun ls hl => ?_)
  refine lv_aload_n hx hb dJ7_copyOf_6403c_25 rfl (lv_at hl 1 rfl) ?_
  refine lv_iconst (v := 0) hx hb dJ7_copyOf_6403c_26 (by decide) ?_
  refine lv_aload_n hx hb dJ7_copyOf_6403c_27 rfl (lv_at hl 0 rfl) ?_
  refine lv_iconst (v := 0) hx hb dJ7_copyOf_6403c_28 (by decide) ?_
  refine lv_aload_n hx hb dJ7_copyOf_6403c_29 rfl (lv_at hl 1 rfl) ?_
  refine r_alenq S h (v := Int32.ofNat 28) 0 rfl rfl dJ7_copyOf_6403c_30 ?_
  refine lv_topi (fun x3 ex3 => ?_)
  obtain rfl : x3 = 28 := by rw [ex3]; rfl
  refine lv_iload_n hx hb dJ7_copyOf_6403c_31 rfl (lv_at hl 2 rfl) ?_
  refine va_mmin hx hb (S.2.2.1.trans hl.1.symm) S.2.2.2.1 (hts (.methodLink RJ7 304 Lib.Math.min.name) (by decide +kernel)) (hts (.static Lib.Math.min.name) (by decide +kernel)) (hts (.initialized "java/lang/Math") (by decide +kernel)) (hts (.code Lib.Math.min.name Lib.Math.min.code 2 (some .int)) (by decide +kernel)) (Nat.le_of_ble_eq_true rfl) (Nat.le_of_ble_eq_true rfl) (Nat.le_of_ble_eq_true rfl) (Nat.le_of_ble_eq_true rfl) dJ7_copyOf_6403c_32 ?_
  refine lv_topi (fun x4 ex4 => ?_)
  obtain rfl : x4 = 28 := by rw [ex4]; decide
  refine r_copyq S h hl.1 0 1 rfl rfl (N := 28) (by decide) rfl (by decide) (by decide) hf (by decide +kernel) (by decide +kernel) (by decide +kernel) (by decide +kernel) (Nat.le_of_ble_eq_true rfl) (by decide) dJ7_copyOf_6403c_35 (fun H locs h => ?_)
  have h : rH D E cy X [rAr cy d 28 f, rAr cy n2 42 (va_cpy f (fun _ => none) 0 0 28)] A s H _ := h
  refine lv_aload_n hx hb dJ7_copyOf_6403c_38 rfl (lv_at hl 0 rfl) ?_
  exact r_retr S h (Or.inr ⟨_, rfl⟩) n2 rfl trivial hr hlocks rfl ⟨Nat.le_of_ble_eq_true rfl, Nat.le_of_ble_eq_true rfl⟩ dJ7_copyOf_6403c_39
set_option maxHeartbeats 4000000 in
set_option maxRecDepth 100000 in
/-- copyOf, 28 to 42 -/
theorem k_copyB28 (l : Launch) (D : va_G) (E : rEn) (cy : rC) (X : va_W) (A : Nat → Prop) (d : Nat) (f : Nat → Option Nat) (hf : rCa E f) : rMr l yJ7_copyOf_1904c wsJ7_copyOf_1904c { frames := 2, cells := 1, slots := 42, locals := 83 } D E cy X [rAr cy d 28 f] A [.ref d, .int 42] (fun (q : Nat) => q) (fun (q : Nat) => [rAr cy d 28 f, rAr cy q 42 (va_cpy f (fun _ => none) 0 0 28)]) (fun _ => True) 1 42 := by
  refine r_entry (cc := cJ7_copyOf_1904c) (maxL := 2) (ret := (some (.array (.object "java/lang/Object")))) (by decide +kernel) rfl (Nat.le_of_ble_eq_true rfl) ?_
  intro p e s m args below meth c ls B
  obtain ⟨S, hr, hlocks, hmi, h, hl⟩ := B
  have hx := S.1
  have hb := S.2.1
  have hts := S.2.2.2.2
  have hl : lv_has ls 2 [(0, .ref d), (1, .int 42)] := hl
  refine lv_aload_n hx hb dJ7_copyOf_1904c_0 rfl (lv_at hl 0 rfl) ?_
  refine lv_iload_n hx hb dJ7_copyOf_1904c_1 rfl (lv_at hl 1 rfl) ?_
  refine lv_aload_n hx hb dJ7_copyOf_1904c_2 rfl (lv_at hl 0 rfl) ?_
  refine r_gc S h hl.1 (Or.inl ⟨0, _, _, rfl⟩) (by decide +kernel) (by decide +kernel) (by decide +kernel) (by decide +kernel) (Nat.le_of_ble_eq_true rfl) (Nat.le_of_ble_eq_true rfl) dJ7_copyOf_1904c_3 ?_
  refine r_callrS S h (k_copyC28 l D E cy _ A d f hf) (cwS 3 hts gJ7_copyOf_1904c_J7_copyOf_6403c rfl rfl rfl (by decide +kernel) ⟨Nat.le_of_ble_eq_true rfl, Nat.le_of_ble_eq_true rfl⟩) (r_preS h [] [0] (wr := []) (wc := [rAr cy d 28 f]) rfl rfl rfl _) rfl hl.1 rfl (Nat.le_of_ble_eq_true rfl) dJ7_copyOf_1904c_6 ⟨Nat.le_of_ble_eq_true rfl, Nat.le_of_ble_eq_true rfl⟩ (fun u1 H locs k2 h => ?_)
  obtain ⟨n3, rfl⟩ : ∃ z, z = u1 := ⟨_, rfl⟩
  have h : rH D E cy X [rAr cy d 28 f, rAr cy n3 42 (va_cpy f (fun _ => none) 0 0 28)] A s H _ := h
  exact r_retr S h (Or.inr ⟨_, rfl⟩) n3 rfl trivial hr hlocks rfl ⟨Nat.le_of_ble_eq_true rfl, Nat.le_of_ble_eq_true rfl⟩ dJ7_copyOf_1904c_9
set_option maxHeartbeats 4000000 in
set_option maxRecDepth 100000 in
/-- grow of 28 -/
theorem k_grow1G28 (l : Launch) (D : va_G) (E : rEn) (cy : rC) (X : va_W) (A : Nat → Prop) (a d : Nat) (mo : Int32) (f : Nat → Option Nat) (hf : rCa E f) : rMr l yJx4a65c_grow_92f84 wsJx4a65c_grow_92f84 { frames := 3, cells := 1, slots := 42, locals := 104 } D E cy X [(a, .inr (1, [.int mo, .ref d, .int 28])), rAr cy d 28 f] A [.ref a, .int 29] (fun (q : Nat) => q) (fun (q : Nat) => [(a, .inr (1, [.int mo, .ref q, .int 28])), rAr cy q 42 (va_cpy f (fun _ => none) 0 0 28)]) (fun _ => True) 1 42 := by
  refine r_entry (cc := cJx4a65c_grow_92f84) (maxL := 4) (ret := (some (.array (.object "java/lang/Object")))) (by decide +kernel) rfl (Nat.le_of_ble_eq_true rfl) ?_
  intro p e s m args below meth c ls B
  obtain ⟨S, hr, hlocks, hmi, h, hl⟩ := B
  have hx := S.1
  have hb := S.2.1
  have hts := S.2.2.2.2
  have inJx4a65c : ∀ w ∈ wsJx4a65c0, w ∈ wsJx4a65c_grow_92f84 := by decide +kernel
  have hl : lv_has ls 4 [(0, .ref a), (1, .int 29)] := hl
  refine lv_aload_n hx hb dJx4a65c_grow_92f84_0 rfl (lv_at hl 0 rfl) ?_
  refine r_get S h 0 inJx4a65c (ref := "java/util/ArrayList") rfl rfl (k := 1) (by decide) (by decide +kernel) (fun _ h9 => h9) rfl dJx4a65c_grow_92f84_1 ?_
  refine r_alenq S h (v := Int32.ofNat 28) 1 rfl rfl dJx4a65c_grow_92f84_4 ?_
  refine lv_topi (fun x1 ex1 => ?_)
  obtain rfl : x1 = 28 := by rw [ex1]; rfl
  refine lv_istore_n (lv' := [(2, .int 28), (0, .ref a), (1, .int 29)]) hx hb dJx4a65c_grow_92f84_5 rfl hl (by decide) rfl (fun ls hl => ?_)
  refine lv_iload_n hx hb dJx4a65c_grow_92f84_6 rfl (lv_at hl 0 rfl) ?_
  refine lv_if_gt (tgt := 20) hx hb dJx4a65c_grow_92f84_7 (by decide) (fun c2 => ?_) (fun c2 => absurd (by decide) c2)
  refine lv_iload_n hx hb dJx4a65c_grow_92f84_20 rfl (lv_at hl 0 rfl) ?_
  refine lv_iload_n hx hb dJx4a65c_grow_92f84_21 rfl (lv_at hl 2 rfl) ?_
  refine lv_iload_n hx hb dJx4a65c_grow_92f84_22 rfl (lv_at hl 0 rfl) ?_
  refine lv_isub hx hb dJx4a65c_grow_92f84_23 ?_
  refine lv_topi (fun x3 ex3 => ?_)
  obtain rfl : x3 = 1 := by rw [ex3]; decide
  refine lv_iload_n hx hb dJx4a65c_grow_92f84_24 rfl (lv_at hl 0 rfl) ?_
  refine lv_iconst (v := 1) hx hb dJx4a65c_grow_92f84_25 (by decide) ?_
  refine lv_ishr hx hb dJx4a65c_grow_92f84_26 ?_
  refine lv_topi (fun x4 ex4 => ?_)
  obtain rfl : x4 = 14 := by rw [ex4]; decide
  refine r_calliS S h (k_newLen28 l D E cy _ A ) (va_cwS 3 hts gJx4a65c_grow_92f84_J8_newLength_cabcc rfl rfl rfl (by decide +kernel) ⟨Nat.le_of_ble_eq_true rfl, Nat.le_of_ble_eq_true rfl⟩) (r_preS h [0, 1] [] (wr := [(a, .inr (1, [.int mo, .ref d, .int 28])), rAr cy d 28 f]) (wc := []) rfl rfl rfl _) rfl hl.1 rfl (Nat.le_of_ble_eq_true rfl) dJx4a65c_grow_92f84_27 ⟨Nat.le_of_ble_eq_true rfl, Nat.le_of_ble_eq_true rfl⟩ (fun u5 H locs k6 h => ?_)
  have h : rH D E cy X [(a, .inr (1, [.int mo, .ref d, .int 28])), rAr cy d 28 f] A s H _ := h
  refine lv_istore_n (lv' := [(3, .int 42), (2, .int 28), (0, .ref a), (1, .int 29)]) hx hb dJx4a65c_grow_92f84_30 rfl hl (by decide) rfl (fun ls hl => ?_)
  refine lv_aload_n hx hb dJx4a65c_grow_92f84_31 rfl (lv_at hl 2 rfl) ?_
  refine lv_aload_n hx hb dJx4a65c_grow_92f84_32 rfl (lv_at hl 2 rfl) ?_
  refine r_get S h 0 inJx4a65c (ref := "java/util/ArrayList") rfl rfl (k := 1) (by decide) (by decide +kernel) (fun _ h9 => h9) rfl dJx4a65c_grow_92f84_33 ?_
  refine lv_iload_n hx hb dJx4a65c_grow_92f84_36 rfl (lv_at hl 0 rfl) ?_
  refine r_callrS S h (k_copyB28 l D E cy _ A d f hf) (va_cwS 2 hts gJx4a65c_grow_92f84_J7_copyOf_1904c rfl rfl rfl (by decide +kernel) ⟨Nat.le_of_ble_eq_true rfl, Nat.le_of_ble_eq_true rfl⟩) (r_preS h [0] [1] (wr := [(a, .inr (1, [.int mo, .ref d, .int 28]))]) (wc := [rAr cy d 28 f]) rfl rfl rfl _) rfl hl.1 rfl (Nat.le_of_ble_eq_true rfl) dJx4a65c_grow_92f84_37 ⟨Nat.le_of_ble_eq_true rfl, Nat.le_of_ble_eq_true rfl⟩ (fun u7 H locs k8 h => ?_)
  obtain ⟨n9, rfl⟩ : ∃ z, z = u7 := ⟨_, rfl⟩
  have h : rH D E cy X [(a, .inr (1, [.int mo, .ref d, .int 28])), rAr cy d 28 f, rAr cy n9 42 (va_cpy f (fun _ => none) 0 0 28)] A s H _ := h
  refine lv_dup_x1 hx hb dJx4a65c_grow_92f84_40 rfl rfl ?_
  refine r_put S h 0 tyJx4a65c tyJx4a65c_ok nmJx4a65c inJx4a65c (ref := "java/util/ArrayList") rfl rfl (k := 1) (by decide) (by decide +kernel) (fun _ h9 => h9) rfl rfl rfl rfl (Nat.le_of_ble_eq_true rfl) dJx4a65c_grow_92f84_41 (fun H locs h => ?_)
  have h : rH D E cy X [(a, .inr (1, [.int mo, .ref n9, .int 28])), rAr cy d 28 f, rAr cy n9 42 (va_cpy f (fun _ => none) 0 0 28)] A s H _ := h
  have h := h.pick [0, 2] (w := [(a, .inr (1, [.int mo, .ref n9, .int 28])), rAr cy n9 42 (va_cpy f (fun _ => none) 0 0 28)]) rfl rfl
  exact r_retr S h (Or.inr ⟨_, rfl⟩) n9 rfl trivial hr hlocks rfl ⟨Nat.le_of_ble_eq_true rfl, Nat.le_of_ble_eq_true rfl⟩ dJx4a65c_grow_92f84_44
set_option maxHeartbeats 4000000 in
set_option maxRecDepth 100000 in
/-- grow of 28 -/
theorem k_growG28 (l : Launch) (D : va_G) (E : rEn) (cy : rC) (X : va_W) (A : Nat → Prop) (a d : Nat) (mo : Int32) (f : Nat → Option Nat) (hf : rCa E f) : rMr l yJx4a65c_grow_d5877 wsJx4a65c_grow_d5877 { frames := 4, cells := 1, slots := 42, locals := 127 } D E cy X [(a, .inr (1, [.int mo, .ref d, .int 28])), rAr cy d 28 f] A [.ref a] (fun (q : Nat) => q) (fun (q : Nat) => [(a, .inr (1, [.int mo, .ref q, .int 28])), rAr cy q 42 (va_cpy f (fun _ => none) 0 0 28)]) (fun _ => True) 1 42 := by
  refine r_entry (cc := cJx4a65c_grow_d5877) (maxL := 1) (ret := (some (.array (.object "java/lang/Object")))) (by decide +kernel) rfl (Nat.le_of_ble_eq_true rfl) ?_
  intro p e s m args below meth c ls B
  obtain ⟨S, hr, hlocks, hmi, h, hl⟩ := B
  have hx := S.1
  have hb := S.2.1
  have hts := S.2.2.2.2
  have inJx4a65c : ∀ w ∈ wsJx4a65c0, w ∈ wsJx4a65c_grow_d5877 := by decide +kernel
  have hl : lv_has ls 1 [(0, .ref a)] := hl
  refine lv_aload_n hx hb dJx4a65c_grow_d5877_0 rfl (lv_at hl 0 rfl) ?_
  refine lv_aload_n hx hb dJx4a65c_grow_d5877_1 rfl (lv_at hl 0 rfl) ?_
  refine r_get S h 0 inJx4a65c (ref := "java/util/ArrayList") rfl rfl (k := 2) (by decide) (by decide +kernel) (fun _ h9 => h9) rfl dJx4a65c_grow_d5877_2 ?_
  refine lv_iconst (v := 1) hx hb dJx4a65c_grow_d5877_5 (by decide) ?_
  refine lv_iadd hx hb dJx4a65c_grow_d5877_6 ?_
  refine lv_topi (fun x1 ex1 => ?_)
  obtain rfl : x1 = 29 := by rw [ex1]; decide
  refine r_callr S h (k_grow1G28 l D E cy _ A a d mo f hf) (cwV 1 hts gJx4a65c_grow_d5877_Jx4a65c_grow_92f84 rfl rfl rfl (by decide +kernel) ⟨Nat.le_of_ble_eq_true rfl, Nat.le_of_ble_eq_true rfl⟩) (r_preV h [] [0, 1] (wr := []) (wc := [(a, .inr (1, [.int mo, .ref d, .int 28])), rAr cy d 28 f]) rfl rfl rfl 0 rfl rfl _) rfl hl.1 rfl (Nat.le_of_ble_eq_true rfl) dJx4a65c_grow_d5877_7 ⟨Nat.le_of_ble_eq_true rfl, Nat.le_of_ble_eq_true rfl⟩ (fun u2 H locs k3 h => ?_)
  obtain ⟨n4, rfl⟩ : ∃ z, z = u2 := ⟨_, rfl⟩
  have h : rH D E cy X [(a, .inr (1, [.int mo, .ref n4, .int 28])), rAr cy n4 42 (va_cpy f (fun _ => none) 0 0 28)] A s H _ := h
  exact r_retr S h (Or.inr ⟨_, rfl⟩) n4 rfl trivial hr hlocks rfl ⟨Nat.le_of_ble_eq_true rfl, Nat.le_of_ble_eq_true rfl⟩ dJx4a65c_grow_d5877_10
set_option maxHeartbeats 4000000 in
set_option maxRecDepth 100000 in
/-- add at 28 -/
theorem k_add3G28 (l : Launch) (D : va_G) (E : rEn) (cy : rC) (X : va_W) (A : Nat → Prop) (a v d : Nat) (mo : Int32) (f : Nat → Option Nat) (C : String) (hv : rEl E X C v) (hca : ∀ U : State, rS E U → va_Nw (.castable C "java/lang/Object") U) (hf : rCa E f) : rMv l yJx4a65c_add_72be8 wsJx4a65c_add_72be8 { frames := 5, cells := 1, slots := 42, locals := 147 } D E cy X [(a, .inr (1, [.int mo, .ref d, .int 28])), rAr cy d 28 f] A [.ref a, .ref v, .ref d, .int 28] (fun (q : Nat) => [(a, .inr (1, [.int mo, .ref q, .int 29])), rAr cy q 42 (va_up (va_cpy f (fun _ => none) 0 0 28) 28 (some v))]) (fun _ => True) 1 42 := by
  refine r_entry (cc := cJx4a65c_add_72be8) (maxL := 4) (ret := none) (by decide +kernel) rfl (Nat.le_of_ble_eq_true rfl) ?_
  intro p e s m args below meth c ls B
  obtain ⟨S, hr, hlocks, hmi, h, hl⟩ := B
  have hx := S.1
  have hb := S.2.1
  have hts := S.2.2.2.2
  have inJx4a65c : ∀ w ∈ wsJx4a65c0, w ∈ wsJx4a65c_add_72be8 := by decide +kernel
  have hl : lv_has ls 4 [(0, .ref a), (1, .ref v), (2, .ref d), (3, .int 28)] := hl
  refine lv_iload_n hx hb dJx4a65c_add_72be8_0 rfl (lv_at hl 3 rfl) ?_
  refine lv_aload_n hx hb dJx4a65c_add_72be8_1 rfl (lv_at hl 2 rfl) ?_
  refine r_alenq S h (v := Int32.ofNat 28) 1 rfl rfl dJx4a65c_add_72be8_2 ?_
  refine lv_topi (fun x1 ex1 => ?_)
  obtain rfl : x1 = 28 := by rw [ex1]; rfl
  refine lv_icmp_ne (tgt := 11) hx hb dJx4a65c_add_72be8_3 (by decide) (fun c2 => absurd (by decide) c2) (fun c2 => ?_)
  refine lv_aload_n hx hb dJx4a65c_add_72be8_6 rfl (lv_at hl 0 rfl) ?_
  refine r_callr S h (k_growG28 l D E cy _ A a d mo f hf) (cwV 0 hts gJx4a65c_add_72be8_Jx4a65c_grow_d5877 rfl rfl rfl (by decide +kernel) ⟨Nat.le_of_ble_eq_true rfl, Nat.le_of_ble_eq_true rfl⟩) (r_preV h [] [0, 1] (wr := []) (wc := [(a, .inr (1, [.int mo, .ref d, .int 28])), rAr cy d 28 f]) rfl rfl rfl 0 rfl rfl _) rfl hl.1 rfl (Nat.le_of_ble_eq_true rfl) dJx4a65c_add_72be8_7 ⟨Nat.le_of_ble_eq_true rfl, Nat.le_of_ble_eq_true rfl⟩ (fun u3 H locs k4 h => ?_)
  obtain ⟨n5, rfl⟩ : ∃ z, z = u3 := ⟨_, rfl⟩
  have h : rH D E cy X [(a, .inr (1, [.int mo, .ref n5, .int 28])), rAr cy n5 42 (va_cpy f (fun _ => none) 0 0 28)] A s H _ := h
  refine lv_astore_n (lv' := [(2, .ref n5), (0, .ref a), (1, .ref v), (3, .int 28)]) hx hb dJx4a65c_add_72be8_10 rfl hl (by decide) rfl (fun ls hl => ?_)
  refine lv_aload_n hx hb dJx4a65c_add_72be8_11 rfl (lv_at hl 0 rfl) ?_
  refine lv_iload_n hx hb dJx4a65c_add_72be8_12 rfl (lv_at hl 3 rfl) ?_
  refine lv_aload_n hx hb dJx4a65c_add_72be8_13 rfl (lv_at hl 2 rfl) ?_
  refine r_aast S h 1 rfl hv (hca s h.2.2.2.1.2) (by unfold vp_in; decide) dJx4a65c_add_72be8_14 (fun H locs h => ?_)
  have h : rH D E cy X [(a, .inr (1, [.int mo, .ref n5, .int 28])), rAr cy n5 42 (va_up (va_cpy f (fun _ => none) 0 0 28) 28 (some v))] A s H _ := h
  refine lv_aload_n hx hb dJx4a65c_add_72be8_15 rfl (lv_at hl 1 rfl) ?_
  refine lv_iload_n hx hb dJx4a65c_add_72be8_16 rfl (lv_at hl 3 rfl) ?_
  refine lv_iconst (v := 1) hx hb dJx4a65c_add_72be8_17 (by decide) ?_
  refine lv_iadd hx hb dJx4a65c_add_72be8_18 ?_
  refine lv_topi (fun x6 ex6 => ?_)
  obtain rfl : x6 = 29 := by rw [ex6]; decide
  refine r_put S h 0 tyJx4a65c tyJx4a65c_ok nmJx4a65c inJx4a65c (ref := "java/util/ArrayList") rfl rfl (k := 2) (by decide) (by decide +kernel) (fun _ h9 => h9) rfl rfl rfl rfl (Nat.le_of_ble_eq_true rfl) dJx4a65c_add_72be8_19 (fun H locs h => ?_)
  have h : rH D E cy X [(a, .inr (1, [.int mo, .ref n5, .int 29])), rAr cy n5 42 (va_up (va_cpy f (fun _ => none) 0 0 28) 28 (some v))] A s H _ := h
  exact r_retv S h n5 rfl trivial hr hlocks ⟨Nat.le_of_ble_eq_true rfl, Nat.le_of_ble_eq_true rfl⟩ dJx4a65c_add_72be8_22
set_option maxHeartbeats 4000000 in
set_option maxRecDepth 100000 in
/-- add at 28 -/
theorem k_addG28 (l : Launch) (D : va_G) (E : rEn) (cy : rC) (X : va_W) (A : Nat → Prop) (a v d : Nat) (f : Nat → Option Nat) (C : String) (hv : rEl E X C v) (hca : ∀ U : State, rS E U → va_Nw (.castable C "java/lang/Object") U) (hf : rCa E f) : rMi l yJx4a65c_add_9ea2d wsJx4a65c_add_9ea2d { frames := 6, cells := 1, slots := 42, locals := 170 } D E cy X [(a, .inr (1, [.int 28, .ref d, .int 28])), rAr cy d 28 f] A [.ref a, .ref v] 1 (fun (q : Nat) => [(a, .inr (1, [.int 29, .ref q, .int 29])), rAr cy q 42 (va_up (va_cpy f (fun _ => none) 0 0 28) 28 (some v))]) (fun _ => True) 1 42 := by
  refine r_entry (cc := cJx4a65c_add_9ea2d) (maxL := 2) (ret := (some .boolean)) (by decide +kernel) rfl (Nat.le_of_ble_eq_true rfl) ?_
  intro p e s m args below meth c ls B
  obtain ⟨S, hr, hlocks, hmi, h, hl⟩ := B
  have hx := S.1
  have hb := S.2.1
  have hts := S.2.2.2.2
  have inJx4a65c : ∀ w ∈ wsJx4a65c0, w ∈ wsJx4a65c_add_9ea2d := by decide +kernel
  have hl : lv_has ls 2 [(0, .ref a), (1, .ref v)] := hl
  refine lv_aload_n hx hb dJx4a65c_add_9ea2d_0 rfl (lv_at hl 0 rfl) ?_
  refine lv_dup hx hb dJx4a65c_add_9ea2d_1 rfl ?_
  refine r_get S h 0 inJx4a65c (ref := "java/util/ArrayList") rfl rfl (k := 0) (by decide) (by decide +kernel) (fun x9 h9 => u_same (hts (.sameField "java/util/ArrayList" "java/util/AbstractList" "modCount" "I") (by decide +kernel)) x9 h9) rfl dJx4a65c_add_9ea2d_2 ?_
  refine lv_iconst (v := 1) hx hb dJx4a65c_add_9ea2d_5 (by decide) ?_
  refine lv_iadd hx hb dJx4a65c_add_9ea2d_6 ?_
  refine lv_topi (fun x1 ex1 => ?_)
  obtain rfl : x1 = 29 := by rw [ex1]; decide
  refine r_put S h 0 tyJx4a65c tyJx4a65c_ok nmJx4a65c inJx4a65c (ref := "java/util/ArrayList") rfl rfl (k := 0) (by decide) (by decide +kernel) (fun x9 h9 => u_same (hts (.sameField "java/util/ArrayList" "java/util/AbstractList" "modCount" "I") (by decide +kernel)) x9 h9) rfl rfl rfl rfl (Nat.le_of_ble_eq_true rfl) dJx4a65c_add_9ea2d_7 (fun H locs h => ?_)
  have h : rH D E cy X [(a, .inr (1, [.int 29, .ref d, .int 28])), rAr cy d 28 f] A s H _ := h
  refine lv_aload_n hx hb dJx4a65c_add_9ea2d_10 rfl (lv_at hl 0 rfl) ?_
  refine lv_aload_n hx hb dJx4a65c_add_9ea2d_11 rfl (lv_at hl 1 rfl) ?_
  refine lv_aload_n hx hb dJx4a65c_add_9ea2d_12 rfl (lv_at hl 0 rfl) ?_
  refine r_get S h 0 inJx4a65c (ref := "java/util/ArrayList") rfl rfl (k := 1) (by decide) (by decide +kernel) (fun _ h9 => h9) rfl dJx4a65c_add_9ea2d_13 ?_
  refine lv_aload_n hx hb dJx4a65c_add_9ea2d_16 rfl (lv_at hl 0 rfl) ?_
  refine r_get S h 0 inJx4a65c (ref := "java/util/ArrayList") rfl rfl (k := 2) (by decide) (by decide +kernel) (fun _ h9 => h9) rfl dJx4a65c_add_9ea2d_17 ?_
  refine r_callv S h (k_add3G28 l D E cy _ A a v d 29 f C hv.app hca hf) (cwV 3 hts gJx4a65c_add_9ea2d_Jx4a65c_add_72be8 rfl rfl rfl (by decide +kernel) ⟨Nat.le_of_ble_eq_true rfl, Nat.le_of_ble_eq_true rfl⟩) (r_preV h [] [0, 1] (wr := []) (wc := [(a, .inr (1, [.int 29, .ref d, .int 28])), rAr cy d 28 f]) rfl rfl rfl 0 rfl rfl _) rfl hl.1 rfl (Nat.le_of_ble_eq_true rfl) dJx4a65c_add_9ea2d_20 ⟨Nat.le_of_ble_eq_true rfl, Nat.le_of_ble_eq_true rfl⟩ (fun u2 H locs k3 h => ?_)
  obtain ⟨n4, rfl⟩ : ∃ z, z = u2 := ⟨_, rfl⟩
  have h : rH D E cy X [(a, .inr (1, [.int 29, .ref n4, .int 29])), rAr cy n4 42 (va_up (va_cpy f (fun _ => none) 0 0 28) 28 (some v))] A s H _ := h
  refine lv_iconst (v := 1) hx hb dJx4a65c_add_9ea2d_23 (by decide) ?_
  exact r_reti S h n4 rfl trivial hr hlocks rfl (rfl) ⟨Nat.le_of_ble_eq_true rfl, Nat.le_of_ble_eq_true rfl⟩ dJx4a65c_add_9ea2d_24
set_option maxHeartbeats 4000000 in
set_option maxRecDepth 100000 in
/-- copyOf, 33 to 49 -/
theorem k_copyC33 (l : Launch) (D : va_G) (E : rEn) (cy : rC) (X : va_W) (A : Nat → Prop) (d : Nat) (f : Nat → Option Nat) (hf : rCa E f) : rMr l yJ7_copyOf_6403c wsJ7_copyOf_6403c { frames := 1, cells := 1, slots := 49, locals := 60 } D E cy X [rAr cy d 33 f] A [.ref d, .int 49, .ref E.2.2.2.2] (fun (q : Nat) => q) (fun (q : Nat) => [rAr cy d 33 f, rAr cy q 49 (va_cpy f (fun _ => none) 0 0 33)]) (fun _ => True) 1 49 := by
  refine r_entry (cc := cJ7_copyOf_6403c) (maxL := 4) (ret := (some (.array (.object "java/lang/Object")))) (by decide +kernel) rfl (Nat.le_of_ble_eq_true rfl) ?_
  intro p e s m args below meth c ls B
  obtain ⟨S, hr, hlocks, hmi, h, hl⟩ := B
  have hx := S.1
  have hb := S.2.1
  have hts := S.2.2.2.2
  have hl : lv_has ls 4 [(0, .ref d), (1, .int 49), (2, .ref E.2.2.2.2)] := hl
  refine lv_aload_n hx hb dJ7_copyOf_6403c_0 rfl (lv_at hl 2 rfl) ?_
  refine r_ldcM S h (by decide +kernel) dJ7_copyOf_6403c_1 ?_
  refine lv_acmp_ne (rx := some E.2.2.2.2) (ry := some E.2.2.2.2) (tgt := 13) hx hb dJ7_copyOf_6403c_3 (by decide) (fun c1 => absurd rfl c1) (fun c1 => ?_)
  refine lv_iload_n hx hb dJ7_copyOf_6403c_6 rfl (lv_at hl 1 rfl) ?_
  refine r_newq S h (N := 49) (by decide +kernel) (by decide) rfl (by decide) (Nat.le_of_ble_eq_true rfl) (Nat.le_of_ble_eq_true rfl) dJ7_copyOf_6403c_7 (fun n2 H h => ?_)
  have h : rH D E cy X [rAr cy d 33 f, rAr cy n2 49 (fun _ => none)] A s H _ := h
  refine lv_goto (tgt := 24) hx hb dJ7_copyOf_6403c_10 (by decide) ?_
  refine lv_astore_n (lv' := [(3, .ref n2), (0, .ref d), (1, .int 49), (2, .ref E.2.2.2.2)]) hx hb dJ7_copyOf_6403c_24 rfl hl (by decide) rfl (fun ls hl => ?_)
  refine lv_aload_n hx hb dJ7_copyOf_6403c_25 rfl (lv_at hl 1 rfl) ?_
  refine lv_iconst (v := 0) hx hb dJ7_copyOf_6403c_26 (by decide) ?_
  refine lv_aload_n hx hb dJ7_copyOf_6403c_27 rfl (lv_at hl 0 rfl) ?_
  refine lv_iconst (v := 0) hx hb dJ7_copyOf_6403c_28 (by decide) ?_
  refine lv_aload_n hx hb dJ7_copyOf_6403c_29 rfl (lv_at hl 1 rfl) ?_
  refine r_alenq S h (v := Int32.ofNat 33) 0 rfl rfl dJ7_copyOf_6403c_30 ?_
  refine lv_topi (fun x3 ex3 => ?_)
  obtain rfl : x3 = 33 := by rw [ex3]; rfl
  refine lv_iload_n hx hb dJ7_copyOf_6403c_31 rfl (lv_at hl 2 rfl) ?_
  refine va_mmin hx hb (S.2.2.1.trans hl.1.symm) S.2.2.2.1 (hts (.methodLink RJ7 304 Lib.Math.min.name) (by decide +kernel)) (hts (.static Lib.Math.min.name) (by decide +kernel)) (hts (.initialized "java/lang/Math") (by decide +kernel)) (hts (.code Lib.Math.min.name Lib.Math.min.code 2 (some .int)) (by decide +kernel)) (Nat.le_of_ble_eq_true rfl) (Nat.le_of_ble_eq_true rfl) (Nat.le_of_ble_eq_true rfl) (Nat.le_of_ble_eq_true rfl) dJ7_copyOf_6403c_32 ?_
  refine lv_topi (fun x4 ex4 => ?_)
  obtain rfl : x4 = 33 := by rw [ex4]; decide
  refine r_copyq S h hl.1 0 1 rfl rfl (N := 33) (by decide) rfl (by decide) (by decide) hf (by decide +kernel) (by decide +kernel) (by decide +kernel) (by decide +kernel) (Nat.le_of_ble_eq_true rfl) (by decide) dJ7_copyOf_6403c_35 (fun H locs h => ?_)
  have h : rH D E cy X [rAr cy d 33 f, rAr cy n2 49 (va_cpy f (fun _ => none) 0 0 33)] A s H _ := h
  refine lv_aload_n hx hb dJ7_copyOf_6403c_38 rfl (lv_at hl 0 rfl) ?_
  exact r_retr S h (Or.inr ⟨_, rfl⟩) n2 rfl trivial hr hlocks rfl ⟨Nat.le_of_ble_eq_true rfl, Nat.le_of_ble_eq_true rfl⟩ dJ7_copyOf_6403c_39
set_option maxHeartbeats 4000000 in
set_option maxRecDepth 100000 in
/-- copyOf, 33 to 49 -/
theorem k_copyB33 (l : Launch) (D : va_G) (E : rEn) (cy : rC) (X : va_W) (A : Nat → Prop) (d : Nat) (f : Nat → Option Nat) (hf : rCa E f) : rMr l yJ7_copyOf_1904c wsJ7_copyOf_1904c { frames := 2, cells := 1, slots := 49, locals := 83 } D E cy X [rAr cy d 33 f] A [.ref d, .int 49] (fun (q : Nat) => q) (fun (q : Nat) => [rAr cy d 33 f, rAr cy q 49 (va_cpy f (fun _ => none) 0 0 33)]) (fun _ => True) 1 49 := by
  refine r_entry (cc := cJ7_copyOf_1904c) (maxL := 2) (ret := (some (.array (.object "java/lang/Object")))) (by decide +kernel) rfl (Nat.le_of_ble_eq_true rfl) ?_
  intro p e s m args below meth c ls B
  obtain ⟨S, hr, hlocks, hmi, h, hl⟩ := B
  have hx := S.1
  have hb := S.2.1
  have hts := S.2.2.2.2
  have hl : lv_has ls 2 [(0, .ref d), (1, .int 49)] := hl
  refine lv_aload_n hx hb dJ7_copyOf_1904c_0 rfl (lv_at hl 0 rfl) ?_
  refine lv_iload_n hx hb dJ7_copyOf_1904c_1 rfl (lv_at hl 1 rfl) ?_
  refine lv_aload_n hx hb dJ7_copyOf_1904c_2 rfl (lv_at hl 0 rfl) ?_
  refine r_gc S h hl.1 (Or.inl ⟨0, _, _, rfl⟩) (by decide +kernel) (by decide +kernel) (by decide +kernel) (by decide +kernel) (Nat.le_of_ble_eq_true rfl) (Nat.le_of_ble_eq_true rfl) dJ7_copyOf_1904c_3 ?_
  refine r_callrS S h (k_copyC33 l D E cy _ A d f hf) (cwS 3 hts gJ7_copyOf_1904c_J7_copyOf_6403c rfl rfl rfl (by decide +kernel) ⟨Nat.le_of_ble_eq_true rfl, Nat.le_of_ble_eq_true rfl⟩) (r_preS h [] [0] (wr := []) (wc := [rAr cy d 33 f]) rfl rfl rfl _) rfl hl.1 rfl (Nat.le_of_ble_eq_true rfl) dJ7_copyOf_1904c_6 ⟨Nat.le_of_ble_eq_true rfl, Nat.le_of_ble_eq_true rfl⟩ (fun u1 H locs k2 h => ?_)
  obtain ⟨n3, rfl⟩ : ∃ z, z = u1 := ⟨_, rfl⟩
  have h : rH D E cy X [rAr cy d 33 f, rAr cy n3 49 (va_cpy f (fun _ => none) 0 0 33)] A s H _ := h
  exact r_retr S h (Or.inr ⟨_, rfl⟩) n3 rfl trivial hr hlocks rfl ⟨Nat.le_of_ble_eq_true rfl, Nat.le_of_ble_eq_true rfl⟩ dJ7_copyOf_1904c_9
set_option maxHeartbeats 4000000 in
set_option maxRecDepth 100000 in
/-- grow of 33 -/
theorem k_grow1G33 (l : Launch) (D : va_G) (E : rEn) (cy : rC) (X : va_W) (A : Nat → Prop) (a d : Nat) (mo : Int32) (f : Nat → Option Nat) (hf : rCa E f) : rMr l yJx4a65c_grow_92f84 wsJx4a65c_grow_92f84 { frames := 3, cells := 1, slots := 49, locals := 104 } D E cy X [(a, .inr (1, [.int mo, .ref d, .int 33])), rAr cy d 33 f] A [.ref a, .int 34] (fun (q : Nat) => q) (fun (q : Nat) => [(a, .inr (1, [.int mo, .ref q, .int 33])), rAr cy q 49 (va_cpy f (fun _ => none) 0 0 33)]) (fun _ => True) 1 49 := by
  refine r_entry (cc := cJx4a65c_grow_92f84) (maxL := 4) (ret := (some (.array (.object "java/lang/Object")))) (by decide +kernel) rfl (Nat.le_of_ble_eq_true rfl) ?_
  intro p e s m args below meth c ls B
  obtain ⟨S, hr, hlocks, hmi, h, hl⟩ := B
  have hx := S.1
  have hb := S.2.1
  have hts := S.2.2.2.2
  have inJx4a65c : ∀ w ∈ wsJx4a65c0, w ∈ wsJx4a65c_grow_92f84 := by decide +kernel
  have hl : lv_has ls 4 [(0, .ref a), (1, .int 34)] := hl
  refine lv_aload_n hx hb dJx4a65c_grow_92f84_0 rfl (lv_at hl 0 rfl) ?_
  refine r_get S h 0 inJx4a65c (ref := "java/util/ArrayList") rfl rfl (k := 1) (by decide) (by decide +kernel) (fun _ h9 => h9) rfl dJx4a65c_grow_92f84_1 ?_
  refine r_alenq S h (v := Int32.ofNat 33) 1 rfl rfl dJx4a65c_grow_92f84_4 ?_
  refine lv_topi (fun x1 ex1 => ?_)
  obtain rfl : x1 = 33 := by rw [ex1]; rfl
  refine lv_istore_n (lv' := [(2, .int 33), (0, .ref a), (1, .int 34)]) hx hb dJx4a65c_grow_92f84_5 rfl hl (by decide) rfl (fun ls hl => ?_)
  refine lv_iload_n hx hb dJx4a65c_grow_92f84_6 rfl (lv_at hl 0 rfl) ?_
  refine lv_if_gt (tgt := 20) hx hb dJx4a65c_grow_92f84_7 (by decide) (fun c2 => ?_) (fun c2 => absurd (by decide) c2)
  refine lv_iload_n hx hb dJx4a65c_grow_92f84_20 rfl (lv_at hl 0 rfl) ?_
  refine lv_iload_n hx hb dJx4a65c_grow_92f84_21 rfl (lv_at hl 2 rfl) ?_
  refine lv_iload_n hx hb dJx4a65c_grow_92f84_22 rfl (lv_at hl 0 rfl) ?_
  refine lv_isub hx hb dJx4a65c_grow_92f84_23 ?_
  refine lv_topi (fun x3 ex3 => ?_)
  obtain rfl : x3 = 1 := by rw [ex3]; decide
  refine lv_iload_n hx hb dJx4a65c_grow_92f84_24 rfl (lv_at hl 0 rfl) ?_
  refine lv_iconst (v := 1) hx hb dJx4a65c_grow_92f84_25 (by decide) ?_
  refine lv_ishr hx hb dJx4a65c_grow_92f84_26 ?_
  refine lv_topi (fun x4 ex4 => ?_)
  obtain rfl : x4 = 16 := by rw [ex4]; decide
  refine r_calliS S h (k_newLen33 l D E cy _ A ) (va_cwS 3 hts gJx4a65c_grow_92f84_J8_newLength_cabcc rfl rfl rfl (by decide +kernel) ⟨Nat.le_of_ble_eq_true rfl, Nat.le_of_ble_eq_true rfl⟩) (r_preS h [0, 1] [] (wr := [(a, .inr (1, [.int mo, .ref d, .int 33])), rAr cy d 33 f]) (wc := []) rfl rfl rfl _) rfl hl.1 rfl (Nat.le_of_ble_eq_true rfl) dJx4a65c_grow_92f84_27 ⟨Nat.le_of_ble_eq_true rfl, Nat.le_of_ble_eq_true rfl⟩ (fun u5 H locs k6 h => ?_)
  have h : rH D E cy X [(a, .inr (1, [.int mo, .ref d, .int 33])), rAr cy d 33 f] A s H _ := h
  refine lv_istore_n (lv' := [(3, .int 49), (2, .int 33), (0, .ref a), (1, .int 34)]) hx hb dJx4a65c_grow_92f84_30 rfl hl (by decide) rfl (fun ls hl => ?_)
  refine lv_aload_n hx hb dJx4a65c_grow_92f84_31 rfl (lv_at hl 2 rfl) ?_
  refine lv_aload_n hx hb dJx4a65c_grow_92f84_32 rfl (lv_at hl 2 rfl) ?_
  refine r_get S h 0 inJx4a65c (ref := "java/util/ArrayList") rfl rfl (k := 1) (by decide) (by decide +kernel) (fun _ h9 => h9) rfl dJx4a65c_grow_92f84_33 ?_
  refine lv_iload_n hx hb dJx4a65c_grow_92f84_36 rfl (lv_at hl 0 rfl) ?_
  refine r_callrS S h (k_copyB33 l D E cy _ A d f hf) (va_cwS 2 hts gJx4a65c_grow_92f84_J7_copyOf_1904c rfl rfl rfl (by decide +kernel) ⟨Nat.le_of_ble_eq_true rfl, Nat.le_of_ble_eq_true rfl⟩) (r_preS h [0] [1] (wr := [(a, .inr (1, [.int mo, .ref d, .int 33]))]) (wc := [rAr cy d 33 f]) rfl rfl rfl _) rfl hl.1 rfl (Nat.le_of_ble_eq_true rfl) dJx4a65c_grow_92f84_37 ⟨Nat.le_of_ble_eq_true rfl, Nat.le_of_ble_eq_true rfl⟩ (fun u7 H locs k8 h => ?_)
  obtain ⟨n9, rfl⟩ : ∃ z, z = u7 := ⟨_, rfl⟩
  have h : rH D E cy X [(a, .inr (1, [.int mo, .ref d, .int 33])), rAr cy d 33 f, rAr cy n9 49 (va_cpy f (fun _ => none) 0 0 33)] A s H _ := h
  refine lv_dup_x1 hx hb dJx4a65c_grow_92f84_40 rfl rfl ?_
  refine r_put S h 0 tyJx4a65c tyJx4a65c_ok nmJx4a65c inJx4a65c (ref := "java/util/ArrayList") rfl rfl (k := 1) (by decide) (by decide +kernel) (fun _ h9 => h9) rfl rfl rfl rfl (Nat.le_of_ble_eq_true rfl) dJx4a65c_grow_92f84_41 (fun H locs h => ?_)
  have h : rH D E cy X [(a, .inr (1, [.int mo, .ref n9, .int 33])), rAr cy d 33 f, rAr cy n9 49 (va_cpy f (fun _ => none) 0 0 33)] A s H _ := h
  have h := h.pick [0, 2] (w := [(a, .inr (1, [.int mo, .ref n9, .int 33])), rAr cy n9 49 (va_cpy f (fun _ => none) 0 0 33)]) rfl rfl
  exact r_retr S h (Or.inr ⟨_, rfl⟩) n9 rfl trivial hr hlocks rfl ⟨Nat.le_of_ble_eq_true rfl, Nat.le_of_ble_eq_true rfl⟩ dJx4a65c_grow_92f84_44
set_option maxHeartbeats 4000000 in
set_option maxRecDepth 100000 in
/-- grow of 33 -/
theorem k_growG33 (l : Launch) (D : va_G) (E : rEn) (cy : rC) (X : va_W) (A : Nat → Prop) (a d : Nat) (mo : Int32) (f : Nat → Option Nat) (hf : rCa E f) : rMr l yJx4a65c_grow_d5877 wsJx4a65c_grow_d5877 { frames := 4, cells := 1, slots := 49, locals := 127 } D E cy X [(a, .inr (1, [.int mo, .ref d, .int 33])), rAr cy d 33 f] A [.ref a] (fun (q : Nat) => q) (fun (q : Nat) => [(a, .inr (1, [.int mo, .ref q, .int 33])), rAr cy q 49 (va_cpy f (fun _ => none) 0 0 33)]) (fun _ => True) 1 49 := by
  refine r_entry (cc := cJx4a65c_grow_d5877) (maxL := 1) (ret := (some (.array (.object "java/lang/Object")))) (by decide +kernel) rfl (Nat.le_of_ble_eq_true rfl) ?_
  intro p e s m args below meth c ls B
  obtain ⟨S, hr, hlocks, hmi, h, hl⟩ := B
  have hx := S.1
  have hb := S.2.1
  have hts := S.2.2.2.2
  have inJx4a65c : ∀ w ∈ wsJx4a65c0, w ∈ wsJx4a65c_grow_d5877 := by decide +kernel
  have hl : lv_has ls 1 [(0, .ref a)] := hl
  refine lv_aload_n hx hb dJx4a65c_grow_d5877_0 rfl (lv_at hl 0 rfl) ?_
  refine lv_aload_n hx hb dJx4a65c_grow_d5877_1 rfl (lv_at hl 0 rfl) ?_
  refine r_get S h 0 inJx4a65c (ref := "java/util/ArrayList") rfl rfl (k := 2) (by decide) (by decide +kernel) (fun _ h9 => h9) rfl dJx4a65c_grow_d5877_2 ?_
  refine lv_iconst (v := 1) hx hb dJx4a65c_grow_d5877_5 (by decide) ?_
  refine lv_iadd hx hb dJx4a65c_grow_d5877_6 ?_
  refine lv_topi (fun x1 ex1 => ?_)
  obtain rfl : x1 = 34 := by rw [ex1]; decide
  refine r_callr S h (k_grow1G33 l D E cy _ A a d mo f hf) (cwV 1 hts gJx4a65c_grow_d5877_Jx4a65c_grow_92f84 rfl rfl rfl (by decide +kernel) ⟨Nat.le_of_ble_eq_true rfl, Nat.le_of_ble_eq_true rfl⟩) (r_preV h [] [0, 1] (wr := []) (wc := [(a, .inr (1, [.int mo, .ref d, .int 33])), rAr cy d 33 f]) rfl rfl rfl 0 rfl rfl _) rfl hl.1 rfl (Nat.le_of_ble_eq_true rfl) dJx4a65c_grow_d5877_7 ⟨Nat.le_of_ble_eq_true rfl, Nat.le_of_ble_eq_true rfl⟩ (fun u2 H locs k3 h => ?_)
  obtain ⟨n4, rfl⟩ : ∃ z, z = u2 := ⟨_, rfl⟩
  have h : rH D E cy X [(a, .inr (1, [.int mo, .ref n4, .int 33])), rAr cy n4 49 (va_cpy f (fun _ => none) 0 0 33)] A s H _ := h
  exact r_retr S h (Or.inr ⟨_, rfl⟩) n4 rfl trivial hr hlocks rfl ⟨Nat.le_of_ble_eq_true rfl, Nat.le_of_ble_eq_true rfl⟩ dJx4a65c_grow_d5877_10
set_option maxHeartbeats 4000000 in
set_option maxRecDepth 100000 in
/-- add at 33 -/
theorem k_add3G33 (l : Launch) (D : va_G) (E : rEn) (cy : rC) (X : va_W) (A : Nat → Prop) (a v d : Nat) (mo : Int32) (f : Nat → Option Nat) (C : String) (hv : rEl E X C v) (hca : ∀ U : State, rS E U → va_Nw (.castable C "java/lang/Object") U) (hf : rCa E f) : rMv l yJx4a65c_add_72be8 wsJx4a65c_add_72be8 { frames := 5, cells := 1, slots := 49, locals := 147 } D E cy X [(a, .inr (1, [.int mo, .ref d, .int 33])), rAr cy d 33 f] A [.ref a, .ref v, .ref d, .int 33] (fun (q : Nat) => [(a, .inr (1, [.int mo, .ref q, .int 34])), rAr cy q 49 (va_up (va_cpy f (fun _ => none) 0 0 33) 33 (some v))]) (fun _ => True) 1 49 := by
  refine r_entry (cc := cJx4a65c_add_72be8) (maxL := 4) (ret := none) (by decide +kernel) rfl (Nat.le_of_ble_eq_true rfl) ?_
  intro p e s m args below meth c ls B
  obtain ⟨S, hr, hlocks, hmi, h, hl⟩ := B
  have hx := S.1
  have hb := S.2.1
  have hts := S.2.2.2.2
  have inJx4a65c : ∀ w ∈ wsJx4a65c0, w ∈ wsJx4a65c_add_72be8 := by decide +kernel
  have hl : lv_has ls 4 [(0, .ref a), (1, .ref v), (2, .ref d), (3, .int 33)] := hl
  refine lv_iload_n hx hb dJx4a65c_add_72be8_0 rfl (lv_at hl 3 rfl) ?_
  refine lv_aload_n hx hb dJx4a65c_add_72be8_1 rfl (lv_at hl 2 rfl) ?_
  refine r_alenq S h (v := Int32.ofNat 33) 1 rfl rfl dJx4a65c_add_72be8_2 ?_
  refine lv_topi (fun x1 ex1 => ?_)
  obtain rfl : x1 = 33 := by rw [ex1]; rfl
  refine lv_icmp_ne (tgt := 11) hx hb dJx4a65c_add_72be8_3 (by decide) (fun c2 => absurd (by decide) c2) (fun c2 => ?_)
  refine lv_aload_n hx hb dJx4a65c_add_72be8_6 rfl (lv_at hl 0 rfl) ?_
  refine r_callr S h (k_growG33 l D E cy _ A a d mo f hf) (cwV 0 hts gJx4a65c_add_72be8_Jx4a65c_grow_d5877 rfl rfl rfl (by decide +kernel) ⟨Nat.le_of_ble_eq_true rfl, Nat.le_of_ble_eq_true rfl⟩) (r_preV h [] [0, 1] (wr := []) (wc := [(a, .inr (1, [.int mo, .ref d, .int 33])), rAr cy d 33 f]) rfl rfl rfl 0 rfl rfl _) rfl hl.1 rfl (Nat.le_of_ble_eq_true rfl) dJx4a65c_add_72be8_7 ⟨Nat.le_of_ble_eq_true rfl, Nat.le_of_ble_eq_true rfl⟩ (fun u3 H locs k4 h => ?_)
  obtain ⟨n5, rfl⟩ : ∃ z, z = u3 := ⟨_, rfl⟩
  have h : rH D E cy X [(a, .inr (1, [.int mo, .ref n5, .int 33])), rAr cy n5 49 (va_cpy f (fun _ => none) 0 0 33)] A s H _ := h
  refine lv_astore_n (lv' := [(2, .ref n5), (0, .ref a), (1, .ref v), (3, .int 33)]) hx hb dJx4a65c_add_72be8_10 rfl hl (by decide) rfl (fun ls hl => ?_)
  refine lv_aload_n hx hb dJx4a65c_add_72be8_11 rfl (lv_at hl 0 rfl) ?_
  refine lv_iload_n hx hb dJx4a65c_add_72be8_12 rfl (lv_at hl 3 rfl) ?_
  refine lv_aload_n hx hb dJx4a65c_add_72be8_13 rfl (lv_at hl 2 rfl) ?_
  refine r_aast S h 1 rfl hv (hca s h.2.2.2.1.2) (by unfold vp_in; decide) dJx4a65c_add_72be8_14 (fun H locs h => ?_)
  have h : rH D E cy X [(a, .inr (1, [.int mo, .ref n5, .int 33])), rAr cy n5 49 (va_up (va_cpy f (fun _ => none) 0 0 33) 33 (some v))] A s H _ := h
  refine lv_aload_n hx hb dJx4a65c_add_72be8_15 rfl (lv_at hl 1 rfl) ?_
  refine lv_iload_n hx hb dJx4a65c_add_72be8_16 rfl (lv_at hl 3 rfl) ?_
  refine lv_iconst (v := 1) hx hb dJx4a65c_add_72be8_17 (by decide) ?_
  refine lv_iadd hx hb dJx4a65c_add_72be8_18 ?_
  refine lv_topi (fun x6 ex6 => ?_)
  obtain rfl : x6 = 34 := by rw [ex6]; decide
  refine r_put S h 0 tyJx4a65c tyJx4a65c_ok nmJx4a65c inJx4a65c (ref := "java/util/ArrayList") rfl rfl (k := 2) (by decide) (by decide +kernel) (fun _ h9 => h9) rfl rfl rfl rfl (Nat.le_of_ble_eq_true rfl) dJx4a65c_add_72be8_19 (fun H locs h => ?_)
  have h : rH D E cy X [(a, .inr (1, [.int mo, .ref n5, .int 34])), rAr cy n5 49 (va_up (va_cpy f (fun _ => none) 0 0 33) 33 (some v))] A s H _ := h
  exact r_retv S h n5 rfl trivial hr hlocks ⟨Nat.le_of_ble_eq_true rfl, Nat.le_of_ble_eq_true rfl⟩ dJx4a65c_add_72be8_22
set_option maxHeartbeats 4000000 in
set_option maxRecDepth 100000 in
/-- add at 33 -/
theorem k_addG33 (l : Launch) (D : va_G) (E : rEn) (cy : rC) (X : va_W) (A : Nat → Prop) (a v d : Nat) (f : Nat → Option Nat) (C : String) (hv : rEl E X C v) (hca : ∀ U : State, rS E U → va_Nw (.castable C "java/lang/Object") U) (hf : rCa E f) : rMi l yJx4a65c_add_9ea2d wsJx4a65c_add_9ea2d { frames := 6, cells := 1, slots := 49, locals := 170 } D E cy X [(a, .inr (1, [.int 33, .ref d, .int 33])), rAr cy d 33 f] A [.ref a, .ref v] 1 (fun (q : Nat) => [(a, .inr (1, [.int 34, .ref q, .int 34])), rAr cy q 49 (va_up (va_cpy f (fun _ => none) 0 0 33) 33 (some v))]) (fun _ => True) 1 49 := by
  refine r_entry (cc := cJx4a65c_add_9ea2d) (maxL := 2) (ret := (some .boolean)) (by decide +kernel) rfl (Nat.le_of_ble_eq_true rfl) ?_
  intro p e s m args below meth c ls B
  obtain ⟨S, hr, hlocks, hmi, h, hl⟩ := B
  have hx := S.1
  have hb := S.2.1
  have hts := S.2.2.2.2
  have inJx4a65c : ∀ w ∈ wsJx4a65c0, w ∈ wsJx4a65c_add_9ea2d := by decide +kernel
  have hl : lv_has ls 2 [(0, .ref a), (1, .ref v)] := hl
  refine lv_aload_n hx hb dJx4a65c_add_9ea2d_0 rfl (lv_at hl 0 rfl) ?_
  refine lv_dup hx hb dJx4a65c_add_9ea2d_1 rfl ?_
  refine r_get S h 0 inJx4a65c (ref := "java/util/ArrayList") rfl rfl (k := 0) (by decide) (by decide +kernel) (fun x9 h9 => u_same (hts (.sameField "java/util/ArrayList" "java/util/AbstractList" "modCount" "I") (by decide +kernel)) x9 h9) rfl dJx4a65c_add_9ea2d_2 ?_
  refine lv_iconst (v := 1) hx hb dJx4a65c_add_9ea2d_5 (by decide) ?_
  refine lv_iadd hx hb dJx4a65c_add_9ea2d_6 ?_
  refine lv_topi (fun x1 ex1 => ?_)
  obtain rfl : x1 = 34 := by rw [ex1]; decide
  refine r_put S h 0 tyJx4a65c tyJx4a65c_ok nmJx4a65c inJx4a65c (ref := "java/util/ArrayList") rfl rfl (k := 0) (by decide) (by decide +kernel) (fun x9 h9 => u_same (hts (.sameField "java/util/ArrayList" "java/util/AbstractList" "modCount" "I") (by decide +kernel)) x9 h9) rfl rfl rfl rfl (Nat.le_of_ble_eq_true rfl) dJx4a65c_add_9ea2d_7 (fun H locs h => ?_)
  have h : rH D E cy X [(a, .inr (1, [.int 34, .ref d, .int 33])), rAr cy d 33 f] A s H _ := h
  refine lv_aload_n hx hb dJx4a65c_add_9ea2d_10 rfl (lv_at hl 0 rfl) ?_
  refine lv_aload_n hx hb dJx4a65c_add_9ea2d_11 rfl (lv_at hl 1 rfl) ?_
  refine lv_aload_n hx hb dJx4a65c_add_9ea2d_12 rfl (lv_at hl 0 rfl) ?_
  refine r_get S h 0 inJx4a65c (ref := "java/util/ArrayList") rfl rfl (k := 1) (by decide) (by decide +kernel) (fun _ h9 => h9) rfl dJx4a65c_add_9ea2d_13 ?_
  refine lv_aload_n hx hb dJx4a65c_add_9ea2d_16 rfl (lv_at hl 0 rfl) ?_
  refine r_get S h 0 inJx4a65c (ref := "java/util/ArrayList") rfl rfl (k := 2) (by decide) (by decide +kernel) (fun _ h9 => h9) rfl dJx4a65c_add_9ea2d_17 ?_
  refine r_callv S h (k_add3G33 l D E cy _ A a v d 34 f C hv.app hca hf) (cwV 3 hts gJx4a65c_add_9ea2d_Jx4a65c_add_72be8 rfl rfl rfl (by decide +kernel) ⟨Nat.le_of_ble_eq_true rfl, Nat.le_of_ble_eq_true rfl⟩) (r_preV h [] [0, 1] (wr := []) (wc := [(a, .inr (1, [.int 34, .ref d, .int 33])), rAr cy d 33 f]) rfl rfl rfl 0 rfl rfl _) rfl hl.1 rfl (Nat.le_of_ble_eq_true rfl) dJx4a65c_add_9ea2d_20 ⟨Nat.le_of_ble_eq_true rfl, Nat.le_of_ble_eq_true rfl⟩ (fun u2 H locs k3 h => ?_)
  obtain ⟨n4, rfl⟩ : ∃ z, z = u2 := ⟨_, rfl⟩
  have h : rH D E cy X [(a, .inr (1, [.int 34, .ref n4, .int 34])), rAr cy n4 49 (va_up (va_cpy f (fun _ => none) 0 0 33) 33 (some v))] A s H _ := h
  refine lv_iconst (v := 1) hx hb dJx4a65c_add_9ea2d_23 (by decide) ?_
  exact r_reti S h n4 rfl trivial hr hlocks rfl (rfl) ⟨Nat.le_of_ble_eq_true rfl, Nat.le_of_ble_eq_true rfl⟩ dJx4a65c_add_9ea2d_24
set_option maxHeartbeats 4000000 in
set_option maxRecDepth 100000 in
/-- copyOf, 42 to 63 -/
theorem k_copyC42 (l : Launch) (D : va_G) (E : rEn) (cy : rC) (X : va_W) (A : Nat → Prop) (d : Nat) (f : Nat → Option Nat) (hf : rCa E f) : rMr l yJ7_copyOf_6403c wsJ7_copyOf_6403c { frames := 1, cells := 1, slots := 63, locals := 60 } D E cy X [rAr cy d 42 f] A [.ref d, .int 63, .ref E.2.2.2.2] (fun (q : Nat) => q) (fun (q : Nat) => [rAr cy d 42 f, rAr cy q 63 (va_cpy f (fun _ => none) 0 0 42)]) (fun _ => True) 1 63 := by
  refine r_entry (cc := cJ7_copyOf_6403c) (maxL := 4) (ret := (some (.array (.object "java/lang/Object")))) (by decide +kernel) rfl (Nat.le_of_ble_eq_true rfl) ?_
  intro p e s m args below meth c ls B
  obtain ⟨S, hr, hlocks, hmi, h, hl⟩ := B
  have hx := S.1
  have hb := S.2.1
  have hts := S.2.2.2.2
  have hl : lv_has ls 4 [(0, .ref d), (1, .int 63), (2, .ref E.2.2.2.2)] := hl
  refine lv_aload_n hx hb dJ7_copyOf_6403c_0 rfl (lv_at hl 2 rfl) ?_
  refine r_ldcM S h (by decide +kernel) dJ7_copyOf_6403c_1 ?_
  refine lv_acmp_ne (rx := some E.2.2.2.2) (ry := some E.2.2.2.2) (tgt := 13) hx hb dJ7_copyOf_6403c_3 (by decide) (fun c1 => absurd rfl c1) (fun c1 => ?_)
  refine lv_iload_n hx hb dJ7_copyOf_6403c_6 rfl (lv_at hl 1 rfl) ?_
  refine r_newq S h (N := 63) (by decide +kernel) (by decide) rfl (by decide) (Nat.le_of_ble_eq_true rfl) (Nat.le_of_ble_eq_true rfl) dJ7_copyOf_6403c_7 (fun n2 H h => ?_)
  have h : rH D E cy X [rAr cy d 42 f, rAr cy n2 63 (fun _ => none)] A s H _ := h
  refine lv_goto (tgt := 24) hx hb dJ7_copyOf_6403c_10 (by decide) ?_
  refine lv_astore_n (lv' := [(3, .ref n2), (0, .ref d), (1, .int 63), (2, .ref E.2.2.2.2)]) hx hb dJ7_copyOf_6403c_24 rfl hl (by decide) rfl (fun ls hl => ?_)
  refine lv_aload_n hx hb dJ7_copyOf_6403c_25 rfl (lv_at hl 1 rfl) ?_
  refine lv_iconst (v := 0) hx hb dJ7_copyOf_6403c_26 (by decide) ?_
  refine lv_aload_n hx hb dJ7_copyOf_6403c_27 rfl (lv_at hl 0 rfl) ?_
  refine lv_iconst (v := 0) hx hb dJ7_copyOf_6403c_28 (by decide) ?_
  refine lv_aload_n hx hb dJ7_copyOf_6403c_29 rfl (lv_at hl 1 rfl) ?_
  refine r_alenq S h (v := Int32.ofNat 42) 0 rfl rfl dJ7_copyOf_6403c_30 ?_
  refine lv_topi (fun x3 ex3 => ?_)
  obtain rfl : x3 = 42 := by rw [ex3]; rfl
  refine lv_iload_n hx hb dJ7_copyOf_6403c_31 rfl (lv_at hl 2 rfl) ?_
  refine va_mmin hx hb (S.2.2.1.trans hl.1.symm) S.2.2.2.1 (hts (.methodLink RJ7 304 Lib.Math.min.name) (by decide +kernel)) (hts (.static Lib.Math.min.name) (by decide +kernel)) (hts (.initialized "java/lang/Math") (by decide +kernel)) (hts (.code Lib.Math.min.name Lib.Math.min.code 2 (some .int)) (by decide +kernel)) (Nat.le_of_ble_eq_true rfl) (Nat.le_of_ble_eq_true rfl) (Nat.le_of_ble_eq_true rfl) (Nat.le_of_ble_eq_true rfl) dJ7_copyOf_6403c_32 ?_
  refine lv_topi (fun x4 ex4 => ?_)
  obtain rfl : x4 = 42 := by rw [ex4]; decide
  refine r_copyq S h hl.1 0 1 rfl rfl (N := 42) (by decide) rfl (by decide) (by decide) hf (by decide +kernel) (by decide +kernel) (by decide +kernel) (by decide +kernel) (Nat.le_of_ble_eq_true rfl) (by decide) dJ7_copyOf_6403c_35 (fun H locs h => ?_)
  have h : rH D E cy X [rAr cy d 42 f, rAr cy n2 63 (va_cpy f (fun _ => none) 0 0 42)] A s H _ := h
  refine lv_aload_n hx hb dJ7_copyOf_6403c_38 rfl (lv_at hl 0 rfl) ?_
  exact r_retr S h (Or.inr ⟨_, rfl⟩) n2 rfl trivial hr hlocks rfl ⟨Nat.le_of_ble_eq_true rfl, Nat.le_of_ble_eq_true rfl⟩ dJ7_copyOf_6403c_39
set_option maxHeartbeats 4000000 in
set_option maxRecDepth 100000 in
/-- copyOf, 42 to 63 -/
theorem k_copyB42 (l : Launch) (D : va_G) (E : rEn) (cy : rC) (X : va_W) (A : Nat → Prop) (d : Nat) (f : Nat → Option Nat) (hf : rCa E f) : rMr l yJ7_copyOf_1904c wsJ7_copyOf_1904c { frames := 2, cells := 1, slots := 63, locals := 83 } D E cy X [rAr cy d 42 f] A [.ref d, .int 63] (fun (q : Nat) => q) (fun (q : Nat) => [rAr cy d 42 f, rAr cy q 63 (va_cpy f (fun _ => none) 0 0 42)]) (fun _ => True) 1 63 := by
  refine r_entry (cc := cJ7_copyOf_1904c) (maxL := 2) (ret := (some (.array (.object "java/lang/Object")))) (by decide +kernel) rfl (Nat.le_of_ble_eq_true rfl) ?_
  intro p e s m args below meth c ls B
  obtain ⟨S, hr, hlocks, hmi, h, hl⟩ := B
  have hx := S.1
  have hb := S.2.1
  have hts := S.2.2.2.2
  have hl : lv_has ls 2 [(0, .ref d), (1, .int 63)] := hl
  refine lv_aload_n hx hb dJ7_copyOf_1904c_0 rfl (lv_at hl 0 rfl) ?_
  refine lv_iload_n hx hb dJ7_copyOf_1904c_1 rfl (lv_at hl 1 rfl) ?_
  refine lv_aload_n hx hb dJ7_copyOf_1904c_2 rfl (lv_at hl 0 rfl) ?_
  refine r_gc S h hl.1 (Or.inl ⟨0, _, _, rfl⟩) (by decide +kernel) (by decide +kernel) (by decide +kernel) (by decide +kernel) (Nat.le_of_ble_eq_true rfl) (Nat.le_of_ble_eq_true rfl) dJ7_copyOf_1904c_3 ?_
  refine r_callrS S h (k_copyC42 l D E cy _ A d f hf) (cwS 3 hts gJ7_copyOf_1904c_J7_copyOf_6403c rfl rfl rfl (by decide +kernel) ⟨Nat.le_of_ble_eq_true rfl, Nat.le_of_ble_eq_true rfl⟩) (r_preS h [] [0] (wr := []) (wc := [rAr cy d 42 f]) rfl rfl rfl _) rfl hl.1 rfl (Nat.le_of_ble_eq_true rfl) dJ7_copyOf_1904c_6 ⟨Nat.le_of_ble_eq_true rfl, Nat.le_of_ble_eq_true rfl⟩ (fun u1 H locs k2 h => ?_)
  obtain ⟨n3, rfl⟩ : ∃ z, z = u1 := ⟨_, rfl⟩
  have h : rH D E cy X [rAr cy d 42 f, rAr cy n3 63 (va_cpy f (fun _ => none) 0 0 42)] A s H _ := h
  exact r_retr S h (Or.inr ⟨_, rfl⟩) n3 rfl trivial hr hlocks rfl ⟨Nat.le_of_ble_eq_true rfl, Nat.le_of_ble_eq_true rfl⟩ dJ7_copyOf_1904c_9
set_option maxHeartbeats 4000000 in
set_option maxRecDepth 100000 in
/-- grow of 42 -/
theorem k_grow1G42 (l : Launch) (D : va_G) (E : rEn) (cy : rC) (X : va_W) (A : Nat → Prop) (a d : Nat) (mo : Int32) (f : Nat → Option Nat) (hf : rCa E f) : rMr l yJx4a65c_grow_92f84 wsJx4a65c_grow_92f84 { frames := 3, cells := 1, slots := 63, locals := 104 } D E cy X [(a, .inr (1, [.int mo, .ref d, .int 42])), rAr cy d 42 f] A [.ref a, .int 43] (fun (q : Nat) => q) (fun (q : Nat) => [(a, .inr (1, [.int mo, .ref q, .int 42])), rAr cy q 63 (va_cpy f (fun _ => none) 0 0 42)]) (fun _ => True) 1 63 := by
  refine r_entry (cc := cJx4a65c_grow_92f84) (maxL := 4) (ret := (some (.array (.object "java/lang/Object")))) (by decide +kernel) rfl (Nat.le_of_ble_eq_true rfl) ?_
  intro p e s m args below meth c ls B
  obtain ⟨S, hr, hlocks, hmi, h, hl⟩ := B
  have hx := S.1
  have hb := S.2.1
  have hts := S.2.2.2.2
  have inJx4a65c : ∀ w ∈ wsJx4a65c0, w ∈ wsJx4a65c_grow_92f84 := by decide +kernel
  have hl : lv_has ls 4 [(0, .ref a), (1, .int 43)] := hl
  refine lv_aload_n hx hb dJx4a65c_grow_92f84_0 rfl (lv_at hl 0 rfl) ?_
  refine r_get S h 0 inJx4a65c (ref := "java/util/ArrayList") rfl rfl (k := 1) (by decide) (by decide +kernel) (fun _ h9 => h9) rfl dJx4a65c_grow_92f84_1 ?_
  refine r_alenq S h (v := Int32.ofNat 42) 1 rfl rfl dJx4a65c_grow_92f84_4 ?_
  refine lv_topi (fun x1 ex1 => ?_)
  obtain rfl : x1 = 42 := by rw [ex1]; rfl
  refine lv_istore_n (lv' := [(2, .int 42), (0, .ref a), (1, .int 43)]) hx hb dJx4a65c_grow_92f84_5 rfl hl (by decide) rfl (fun ls hl => ?_)
  refine lv_iload_n hx hb dJx4a65c_grow_92f84_6 rfl (lv_at hl 0 rfl) ?_
  refine lv_if_gt (tgt := 20) hx hb dJx4a65c_grow_92f84_7 (by decide) (fun c2 => ?_) (fun c2 => absurd (by decide) c2)
  refine lv_iload_n hx hb dJx4a65c_grow_92f84_20 rfl (lv_at hl 0 rfl) ?_
  refine lv_iload_n hx hb dJx4a65c_grow_92f84_21 rfl (lv_at hl 2 rfl) ?_
  refine lv_iload_n hx hb dJx4a65c_grow_92f84_22 rfl (lv_at hl 0 rfl) ?_
  refine lv_isub hx hb dJx4a65c_grow_92f84_23 ?_
  refine lv_topi (fun x3 ex3 => ?_)
  obtain rfl : x3 = 1 := by rw [ex3]; decide
  refine lv_iload_n hx hb dJx4a65c_grow_92f84_24 rfl (lv_at hl 0 rfl) ?_
  refine lv_iconst (v := 1) hx hb dJx4a65c_grow_92f84_25 (by decide) ?_
  refine lv_ishr hx hb dJx4a65c_grow_92f84_26 ?_
  refine lv_topi (fun x4 ex4 => ?_)
  obtain rfl : x4 = 21 := by rw [ex4]; decide
  refine r_calliS S h (k_newLen42 l D E cy _ A ) (va_cwS 3 hts gJx4a65c_grow_92f84_J8_newLength_cabcc rfl rfl rfl (by decide +kernel) ⟨Nat.le_of_ble_eq_true rfl, Nat.le_of_ble_eq_true rfl⟩) (r_preS h [0, 1] [] (wr := [(a, .inr (1, [.int mo, .ref d, .int 42])), rAr cy d 42 f]) (wc := []) rfl rfl rfl _) rfl hl.1 rfl (Nat.le_of_ble_eq_true rfl) dJx4a65c_grow_92f84_27 ⟨Nat.le_of_ble_eq_true rfl, Nat.le_of_ble_eq_true rfl⟩ (fun u5 H locs k6 h => ?_)
  have h : rH D E cy X [(a, .inr (1, [.int mo, .ref d, .int 42])), rAr cy d 42 f] A s H _ := h
  refine lv_istore_n (lv' := [(3, .int 63), (2, .int 42), (0, .ref a), (1, .int 43)]) hx hb dJx4a65c_grow_92f84_30 rfl hl (by decide) rfl (fun ls hl => ?_)
  refine lv_aload_n hx hb dJx4a65c_grow_92f84_31 rfl (lv_at hl 2 rfl) ?_
  refine lv_aload_n hx hb dJx4a65c_grow_92f84_32 rfl (lv_at hl 2 rfl) ?_
  refine r_get S h 0 inJx4a65c (ref := "java/util/ArrayList") rfl rfl (k := 1) (by decide) (by decide +kernel) (fun _ h9 => h9) rfl dJx4a65c_grow_92f84_33 ?_
  refine lv_iload_n hx hb dJx4a65c_grow_92f84_36 rfl (lv_at hl 0 rfl) ?_
  refine r_callrS S h (k_copyB42 l D E cy _ A d f hf) (va_cwS 2 hts gJx4a65c_grow_92f84_J7_copyOf_1904c rfl rfl rfl (by decide +kernel) ⟨Nat.le_of_ble_eq_true rfl, Nat.le_of_ble_eq_true rfl⟩) (r_preS h [0] [1] (wr := [(a, .inr (1, [.int mo, .ref d, .int 42]))]) (wc := [rAr cy d 42 f]) rfl rfl rfl _) rfl hl.1 rfl (Nat.le_of_ble_eq_true rfl) dJx4a65c_grow_92f84_37 ⟨Nat.le_of_ble_eq_true rfl, Nat.le_of_ble_eq_true rfl⟩ (fun u7 H locs k8 h => ?_)
  obtain ⟨n9, rfl⟩ : ∃ z, z = u7 := ⟨_, rfl⟩
  have h : rH D E cy X [(a, .inr (1, [.int mo, .ref d, .int 42])), rAr cy d 42 f, rAr cy n9 63 (va_cpy f (fun _ => none) 0 0 42)] A s H _ := h
  refine lv_dup_x1 hx hb dJx4a65c_grow_92f84_40 rfl rfl ?_
  refine r_put S h 0 tyJx4a65c tyJx4a65c_ok nmJx4a65c inJx4a65c (ref := "java/util/ArrayList") rfl rfl (k := 1) (by decide) (by decide +kernel) (fun _ h9 => h9) rfl rfl rfl rfl (Nat.le_of_ble_eq_true rfl) dJx4a65c_grow_92f84_41 (fun H locs h => ?_)
  have h : rH D E cy X [(a, .inr (1, [.int mo, .ref n9, .int 42])), rAr cy d 42 f, rAr cy n9 63 (va_cpy f (fun _ => none) 0 0 42)] A s H _ := h
  have h := h.pick [0, 2] (w := [(a, .inr (1, [.int mo, .ref n9, .int 42])), rAr cy n9 63 (va_cpy f (fun _ => none) 0 0 42)]) rfl rfl
  exact r_retr S h (Or.inr ⟨_, rfl⟩) n9 rfl trivial hr hlocks rfl ⟨Nat.le_of_ble_eq_true rfl, Nat.le_of_ble_eq_true rfl⟩ dJx4a65c_grow_92f84_44
set_option maxHeartbeats 4000000 in
set_option maxRecDepth 100000 in
/-- grow of 42 -/
theorem k_growG42 (l : Launch) (D : va_G) (E : rEn) (cy : rC) (X : va_W) (A : Nat → Prop) (a d : Nat) (mo : Int32) (f : Nat → Option Nat) (hf : rCa E f) : rMr l yJx4a65c_grow_d5877 wsJx4a65c_grow_d5877 { frames := 4, cells := 1, slots := 63, locals := 127 } D E cy X [(a, .inr (1, [.int mo, .ref d, .int 42])), rAr cy d 42 f] A [.ref a] (fun (q : Nat) => q) (fun (q : Nat) => [(a, .inr (1, [.int mo, .ref q, .int 42])), rAr cy q 63 (va_cpy f (fun _ => none) 0 0 42)]) (fun _ => True) 1 63 := by
  refine r_entry (cc := cJx4a65c_grow_d5877) (maxL := 1) (ret := (some (.array (.object "java/lang/Object")))) (by decide +kernel) rfl (Nat.le_of_ble_eq_true rfl) ?_
  intro p e s m args below meth c ls B
  obtain ⟨S, hr, hlocks, hmi, h, hl⟩ := B
  have hx := S.1
  have hb := S.2.1
  have hts := S.2.2.2.2
  have inJx4a65c : ∀ w ∈ wsJx4a65c0, w ∈ wsJx4a65c_grow_d5877 := by decide +kernel
  have hl : lv_has ls 1 [(0, .ref a)] := hl
  refine lv_aload_n hx hb dJx4a65c_grow_d5877_0 rfl (lv_at hl 0 rfl) ?_
  refine lv_aload_n hx hb dJx4a65c_grow_d5877_1 rfl (lv_at hl 0 rfl) ?_
  refine r_get S h 0 inJx4a65c (ref := "java/util/ArrayList") rfl rfl (k := 2) (by decide) (by decide +kernel) (fun _ h9 => h9) rfl dJx4a65c_grow_d5877_2 ?_
  refine lv_iconst (v := 1) hx hb dJx4a65c_grow_d5877_5 (by decide) ?_
  refine lv_iadd hx hb dJx4a65c_grow_d5877_6 ?_
  refine lv_topi (fun x1 ex1 => ?_)
  obtain rfl : x1 = 43 := by rw [ex1]; decide
  refine r_callr S h (k_grow1G42 l D E cy _ A a d mo f hf) (cwV 1 hts gJx4a65c_grow_d5877_Jx4a65c_grow_92f84 rfl rfl rfl (by decide +kernel) ⟨Nat.le_of_ble_eq_true rfl, Nat.le_of_ble_eq_true rfl⟩) (r_preV h [] [0, 1] (wr := []) (wc := [(a, .inr (1, [.int mo, .ref d, .int 42])), rAr cy d 42 f]) rfl rfl rfl 0 rfl rfl _) rfl hl.1 rfl (Nat.le_of_ble_eq_true rfl) dJx4a65c_grow_d5877_7 ⟨Nat.le_of_ble_eq_true rfl, Nat.le_of_ble_eq_true rfl⟩ (fun u2 H locs k3 h => ?_)
  obtain ⟨n4, rfl⟩ : ∃ z, z = u2 := ⟨_, rfl⟩
  have h : rH D E cy X [(a, .inr (1, [.int mo, .ref n4, .int 42])), rAr cy n4 63 (va_cpy f (fun _ => none) 0 0 42)] A s H _ := h
  exact r_retr S h (Or.inr ⟨_, rfl⟩) n4 rfl trivial hr hlocks rfl ⟨Nat.le_of_ble_eq_true rfl, Nat.le_of_ble_eq_true rfl⟩ dJx4a65c_grow_d5877_10
set_option maxHeartbeats 4000000 in
set_option maxRecDepth 100000 in
/-- add at 42 -/
theorem k_add3G42 (l : Launch) (D : va_G) (E : rEn) (cy : rC) (X : va_W) (A : Nat → Prop) (a v d : Nat) (mo : Int32) (f : Nat → Option Nat) (C : String) (hv : rEl E X C v) (hca : ∀ U : State, rS E U → va_Nw (.castable C "java/lang/Object") U) (hf : rCa E f) : rMv l yJx4a65c_add_72be8 wsJx4a65c_add_72be8 { frames := 5, cells := 1, slots := 63, locals := 147 } D E cy X [(a, .inr (1, [.int mo, .ref d, .int 42])), rAr cy d 42 f] A [.ref a, .ref v, .ref d, .int 42] (fun (q : Nat) => [(a, .inr (1, [.int mo, .ref q, .int 43])), rAr cy q 63 (va_up (va_cpy f (fun _ => none) 0 0 42) 42 (some v))]) (fun _ => True) 1 63 := by
  refine r_entry (cc := cJx4a65c_add_72be8) (maxL := 4) (ret := none) (by decide +kernel) rfl (Nat.le_of_ble_eq_true rfl) ?_
  intro p e s m args below meth c ls B
  obtain ⟨S, hr, hlocks, hmi, h, hl⟩ := B
  have hx := S.1
  have hb := S.2.1
  have hts := S.2.2.2.2
  have inJx4a65c : ∀ w ∈ wsJx4a65c0, w ∈ wsJx4a65c_add_72be8 := by decide +kernel
  have hl : lv_has ls 4 [(0, .ref a), (1, .ref v), (2, .ref d), (3, .int 42)] := hl
  refine lv_iload_n hx hb dJx4a65c_add_72be8_0 rfl (lv_at hl 3 rfl) ?_
  refine lv_aload_n hx hb dJx4a65c_add_72be8_1 rfl (lv_at hl 2 rfl) ?_
  refine r_alenq S h (v := Int32.ofNat 42) 1 rfl rfl dJx4a65c_add_72be8_2 ?_
  refine lv_topi (fun x1 ex1 => ?_)
  obtain rfl : x1 = 42 := by rw [ex1]; rfl
  refine lv_icmp_ne (tgt := 11) hx hb dJx4a65c_add_72be8_3 (by decide) (fun c2 => absurd (by decide) c2) (fun c2 => ?_)
  refine lv_aload_n hx hb dJx4a65c_add_72be8_6 rfl (lv_at hl 0 rfl) ?_
  refine r_callr S h (k_growG42 l D E cy _ A a d mo f hf) (cwV 0 hts gJx4a65c_add_72be8_Jx4a65c_grow_d5877 rfl rfl rfl (by decide +kernel) ⟨Nat.le_of_ble_eq_true rfl, Nat.le_of_ble_eq_true rfl⟩) (r_preV h [] [0, 1] (wr := []) (wc := [(a, .inr (1, [.int mo, .ref d, .int 42])), rAr cy d 42 f]) rfl rfl rfl 0 rfl rfl _) rfl hl.1 rfl (Nat.le_of_ble_eq_true rfl) dJx4a65c_add_72be8_7 ⟨Nat.le_of_ble_eq_true rfl, Nat.le_of_ble_eq_true rfl⟩ (fun u3 H locs k4 h => ?_)
  obtain ⟨n5, rfl⟩ : ∃ z, z = u3 := ⟨_, rfl⟩
  have h : rH D E cy X [(a, .inr (1, [.int mo, .ref n5, .int 42])), rAr cy n5 63 (va_cpy f (fun _ => none) 0 0 42)] A s H _ := h
  refine lv_astore_n (lv' := [(2, .ref n5), (0, .ref a), (1, .ref v), (3, .int 42)]) hx hb dJx4a65c_add_72be8_10 rfl hl (by decide) rfl (fun ls hl => ?_)
  refine lv_aload_n hx hb dJx4a65c_add_72be8_11 rfl (lv_at hl 0 rfl) ?_
  refine lv_iload_n hx hb dJx4a65c_add_72be8_12 rfl (lv_at hl 3 rfl) ?_
  refine lv_aload_n hx hb dJx4a65c_add_72be8_13 rfl (lv_at hl 2 rfl) ?_
  refine r_aast S h 1 rfl hv (hca s h.2.2.2.1.2) (by unfold vp_in; decide) dJx4a65c_add_72be8_14 (fun H locs h => ?_)
  have h : rH D E cy X [(a, .inr (1, [.int mo, .ref n5, .int 42])), rAr cy n5 63 (va_up (va_cpy f (fun _ => none) 0 0 42) 42 (some v))] A s H _ := h
  refine lv_aload_n hx hb dJx4a65c_add_72be8_15 rfl (lv_at hl 1 rfl) ?_
  refine lv_iload_n hx hb dJx4a65c_add_72be8_16 rfl (lv_at hl 3 rfl) ?_
  refine lv_iconst (v := 1) hx hb dJx4a65c_add_72be8_17 (by decide) ?_
  refine lv_iadd hx hb dJx4a65c_add_72be8_18 ?_
  refine lv_topi (fun x6 ex6 => ?_)
  obtain rfl : x6 = 43 := by rw [ex6]; decide
  refine r_put S h 0 tyJx4a65c tyJx4a65c_ok nmJx4a65c inJx4a65c (ref := "java/util/ArrayList") rfl rfl (k := 2) (by decide) (by decide +kernel) (fun _ h9 => h9) rfl rfl rfl rfl (Nat.le_of_ble_eq_true rfl) dJx4a65c_add_72be8_19 (fun H locs h => ?_)
  have h : rH D E cy X [(a, .inr (1, [.int mo, .ref n5, .int 43])), rAr cy n5 63 (va_up (va_cpy f (fun _ => none) 0 0 42) 42 (some v))] A s H _ := h
  exact r_retv S h n5 rfl trivial hr hlocks ⟨Nat.le_of_ble_eq_true rfl, Nat.le_of_ble_eq_true rfl⟩ dJx4a65c_add_72be8_22
set_option maxHeartbeats 4000000 in
set_option maxRecDepth 100000 in
/-- add at 42 -/
theorem k_addG42 (l : Launch) (D : va_G) (E : rEn) (cy : rC) (X : va_W) (A : Nat → Prop) (a v d : Nat) (f : Nat → Option Nat) (C : String) (hv : rEl E X C v) (hca : ∀ U : State, rS E U → va_Nw (.castable C "java/lang/Object") U) (hf : rCa E f) : rMi l yJx4a65c_add_9ea2d wsJx4a65c_add_9ea2d { frames := 6, cells := 1, slots := 63, locals := 170 } D E cy X [(a, .inr (1, [.int 42, .ref d, .int 42])), rAr cy d 42 f] A [.ref a, .ref v] 1 (fun (q : Nat) => [(a, .inr (1, [.int 43, .ref q, .int 43])), rAr cy q 63 (va_up (va_cpy f (fun _ => none) 0 0 42) 42 (some v))]) (fun _ => True) 1 63 := by
  refine r_entry (cc := cJx4a65c_add_9ea2d) (maxL := 2) (ret := (some .boolean)) (by decide +kernel) rfl (Nat.le_of_ble_eq_true rfl) ?_
  intro p e s m args below meth c ls B
  obtain ⟨S, hr, hlocks, hmi, h, hl⟩ := B
  have hx := S.1
  have hb := S.2.1
  have hts := S.2.2.2.2
  have inJx4a65c : ∀ w ∈ wsJx4a65c0, w ∈ wsJx4a65c_add_9ea2d := by decide +kernel
  have hl : lv_has ls 2 [(0, .ref a), (1, .ref v)] := hl
  refine lv_aload_n hx hb dJx4a65c_add_9ea2d_0 rfl (lv_at hl 0 rfl) ?_
  refine lv_dup hx hb dJx4a65c_add_9ea2d_1 rfl ?_
  refine r_get S h 0 inJx4a65c (ref := "java/util/ArrayList") rfl rfl (k := 0) (by decide) (by decide +kernel) (fun x9 h9 => u_same (hts (.sameField "java/util/ArrayList" "java/util/AbstractList" "modCount" "I") (by decide +kernel)) x9 h9) rfl dJx4a65c_add_9ea2d_2 ?_
  refine lv_iconst (v := 1) hx hb dJx4a65c_add_9ea2d_5 (by decide) ?_
  refine lv_iadd hx hb dJx4a65c_add_9ea2d_6 ?_
  refine lv_topi (fun x1 ex1 => ?_)
  obtain rfl : x1 = 43 := by rw [ex1]; decide
  refine r_put S h 0 tyJx4a65c tyJx4a65c_ok nmJx4a65c inJx4a65c (ref := "java/util/ArrayList") rfl rfl (k := 0) (by decide) (by decide +kernel) (fun x9 h9 => u_same (hts (.sameField "java/util/ArrayList" "java/util/AbstractList" "modCount" "I") (by decide +kernel)) x9 h9) rfl rfl rfl rfl (Nat.le_of_ble_eq_true rfl) dJx4a65c_add_9ea2d_7 (fun H locs h => ?_)
  have h : rH D E cy X [(a, .inr (1, [.int 43, .ref d, .int 42])), rAr cy d 42 f] A s H _ := h
  refine lv_aload_n hx hb dJx4a65c_add_9ea2d_10 rfl (lv_at hl 0 rfl) ?_
  refine lv_aload_n hx hb dJx4a65c_add_9ea2d_11 rfl (lv_at hl 1 rfl) ?_
  refine lv_aload_n hx hb dJx4a65c_add_9ea2d_12 rfl (lv_at hl 0 rfl) ?_
  refine r_get S h 0 inJx4a65c (ref := "java/util/ArrayList") rfl rfl (k := 1) (by decide) (by decide +kernel) (fun _ h9 => h9) rfl dJx4a65c_add_9ea2d_13 ?_
  refine lv_aload_n hx hb dJx4a65c_add_9ea2d_16 rfl (lv_at hl 0 rfl) ?_
  refine r_get S h 0 inJx4a65c (ref := "java/util/ArrayList") rfl rfl (k := 2) (by decide) (by decide +kernel) (fun _ h9 => h9) rfl dJx4a65c_add_9ea2d_17 ?_
  refine r_callv S h (k_add3G42 l D E cy _ A a v d 43 f C hv.app hca hf) (cwV 3 hts gJx4a65c_add_9ea2d_Jx4a65c_add_72be8 rfl rfl rfl (by decide +kernel) ⟨Nat.le_of_ble_eq_true rfl, Nat.le_of_ble_eq_true rfl⟩) (r_preV h [] [0, 1] (wr := []) (wc := [(a, .inr (1, [.int 43, .ref d, .int 42])), rAr cy d 42 f]) rfl rfl rfl 0 rfl rfl _) rfl hl.1 rfl (Nat.le_of_ble_eq_true rfl) dJx4a65c_add_9ea2d_20 ⟨Nat.le_of_ble_eq_true rfl, Nat.le_of_ble_eq_true rfl⟩ (fun u2 H locs k3 h => ?_)
  obtain ⟨n4, rfl⟩ : ∃ z, z = u2 := ⟨_, rfl⟩
  have h : rH D E cy X [(a, .inr (1, [.int 43, .ref n4, .int 43])), rAr cy n4 63 (va_up (va_cpy f (fun _ => none) 0 0 42) 42 (some v))] A s H _ := h
  refine lv_iconst (v := 1) hx hb dJx4a65c_add_9ea2d_23 (by decide) ?_
  exact r_reti S h n4 rfl trivial hr hlocks rfl (rfl) ⟨Nat.le_of_ble_eq_true rfl, Nat.le_of_ble_eq_true rfl⟩ dJx4a65c_add_9ea2d_24
