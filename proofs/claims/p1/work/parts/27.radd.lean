set_option maxHeartbeats 4000000 in
set_option maxRecDepth 100000 in
/-- copyOf of an empty array -/
theorem k_copyCD0 (l : Launch) (D : va_G) (E : rEn) (cy : rC) (X : va_W) (A : Nat → Prop) : rMr l yJ7_copyOf_6403c wsJ7_copyOf_6403c { frames := 1, cells := 1, slots := 0, locals := 60 } D E cy X [] A [.ref E.1, .int 0, .ref E.2.2.2.2] (fun (q : Nat) => q) (fun (q : Nat) => [rAr cy q 0 (fun _ => none)]) (fun _ => True) 1 0 := by
  refine r_entry (cc := cJ7_copyOf_6403c) (maxL := 4) (ret := (some (.array (.object "java/lang/Object")))) (by decide +kernel) rfl (Nat.le_of_ble_eq_true rfl) ?_
  intro p e s m args below meth c ls B
  obtain ⟨S, hr, hlocks, hmi, h, hl⟩ := B
  have hx := S.1
  have hb := S.2.1
  have hts := S.2.2.2.2
  have hl : lv_has ls 4 [(0, .ref E.1), (1, .int 0), (2, .ref E.2.2.2.2)] := hl
  refine lv_aload_n hx hb dJ7_copyOf_6403c_0 rfl (lv_at hl 2 rfl) ?_
  refine r_ldcM S h (by decide +kernel) dJ7_copyOf_6403c_1 ?_
  refine lv_acmp_ne (rx := some E.2.2.2.2) (ry := some E.2.2.2.2) (tgt := 13) hx hb dJ7_copyOf_6403c_3 (by decide) (fun c1 => absurd rfl c1) (fun c1 => ?_)
  refine lv_iload_n hx hb dJ7_copyOf_6403c_6 rfl (lv_at hl 1 rfl) ?_
  refine r_newq S h (N := 0) (by decide +kernel) (by decide) rfl (by decide) (Nat.le_of_ble_eq_true rfl) (Nat.le_of_ble_eq_true rfl) dJ7_copyOf_6403c_7 (fun n2 H h => ?_)
  have h : rH D E cy X [rAr cy n2 0 (fun _ => none)] A s H _ := h
  refine lv_goto (tgt := 24) hx hb dJ7_copyOf_6403c_10 (by decide) ?_
  refine lv_astore_n (lv' := [(3, .ref n2), (0, .ref E.1), (1, .int 0), (2, .ref E.2.2.2.2)]) hx hb dJ7_copyOf_6403c_24 rfl hl (by decide) rfl (fun ls hl => ?_)
  refine lv_aload_n hx hb dJ7_copyOf_6403c_25 rfl (lv_at hl 1 rfl) ?_
  refine lv_iconst (v := 0) hx hb dJ7_copyOf_6403c_26 (by decide) ?_
  refine lv_aload_n hx hb dJ7_copyOf_6403c_27 rfl (lv_at hl 0 rfl) ?_
  refine lv_iconst (v := 0) hx hb dJ7_copyOf_6403c_28 (by decide) ?_
  refine lv_aload_n hx hb dJ7_copyOf_6403c_29 rfl (lv_at hl 1 rfl) ?_
  refine r_alen0 S h dJ7_copyOf_6403c_30 ?_
  refine lv_iload_n hx hb dJ7_copyOf_6403c_31 rfl (lv_at hl 2 rfl) ?_
  refine va_mmin hx hb (S.2.2.1.trans hl.1.symm) S.2.2.2.1 (hts (.methodLink RJ7 304 Lib.Math.min.name) (by decide +kernel)) (hts (.static Lib.Math.min.name) (by decide +kernel)) (hts (.initialized "java/lang/Math") (by decide +kernel)) (hts (.code Lib.Math.min.name Lib.Math.min.code 2 (some .int)) (by decide +kernel)) (Nat.le_of_ble_eq_true rfl) (Nat.le_of_ble_eq_true rfl) (Nat.le_of_ble_eq_true rfl) (Nat.le_of_ble_eq_true rfl) dJ7_copyOf_6403c_32 ?_
  refine lv_topi (fun x3 ex3 => ?_)
  obtain rfl : x3 = 0 := by rw [ex3]; decide
  refine r_copy0 S h hl.1 0 (Or.inl rfl) rfl (by decide +kernel) (by decide +kernel) (by decide +kernel) (by decide +kernel) (Nat.le_of_ble_eq_true rfl) (by decide) dJ7_copyOf_6403c_35 (fun H locs h => ?_)
  have h : rH D E cy X [rAr cy n2 0 (fun _ => none)] A s H _ := h
  refine lv_aload_n hx hb dJ7_copyOf_6403c_38 rfl (lv_at hl 0 rfl) ?_
  exact r_retr S h (Or.inr ⟨_, rfl⟩) n2 rfl trivial hr hlocks rfl ⟨Nat.le_of_ble_eq_true rfl, Nat.le_of_ble_eq_true rfl⟩ dJ7_copyOf_6403c_39
set_option maxHeartbeats 4000000 in
set_option maxRecDepth 100000 in
/-- copyOf of an empty array -/
theorem k_copyBD0 (l : Launch) (D : va_G) (E : rEn) (cy : rC) (X : va_W) (A : Nat → Prop) : rMr l yJ7_copyOf_1904c wsJ7_copyOf_1904c { frames := 2, cells := 1, slots := 0, locals := 83 } D E cy X [] A [.ref E.1, .int 0] (fun (q : Nat) => q) (fun (q : Nat) => [rAr cy q 0 (fun _ => none)]) (fun _ => True) 1 0 := by
  refine r_entry (cc := cJ7_copyOf_1904c) (maxL := 2) (ret := (some (.array (.object "java/lang/Object")))) (by decide +kernel) rfl (Nat.le_of_ble_eq_true rfl) ?_
  intro p e s m args below meth c ls B
  obtain ⟨S, hr, hlocks, hmi, h, hl⟩ := B
  have hx := S.1
  have hb := S.2.1
  have hts := S.2.2.2.2
  have hl : lv_has ls 2 [(0, .ref E.1), (1, .int 0)] := hl
  refine lv_aload_n hx hb dJ7_copyOf_1904c_0 rfl (lv_at hl 0 rfl) ?_
  refine lv_iload_n hx hb dJ7_copyOf_1904c_1 rfl (lv_at hl 1 rfl) ?_
  refine lv_aload_n hx hb dJ7_copyOf_1904c_2 rfl (lv_at hl 0 rfl) ?_
  refine r_gc S h hl.1 (Or.inr (Or.inl rfl)) (by decide +kernel) (by decide +kernel) (by decide +kernel) (by decide +kernel) (Nat.le_of_ble_eq_true rfl) (Nat.le_of_ble_eq_true rfl) dJ7_copyOf_1904c_3 ?_
  refine r_callrS S h (k_copyCD0 l D E cy _ A ) (cwS 3 hts gJ7_copyOf_1904c_J7_copyOf_6403c rfl rfl rfl (by decide +kernel) ⟨Nat.le_of_ble_eq_true rfl, Nat.le_of_ble_eq_true rfl⟩) (r_preS h [] [] (wr := []) (wc := []) rfl rfl rfl _) rfl hl.1 rfl (Nat.le_of_ble_eq_true rfl) dJ7_copyOf_1904c_6 ⟨Nat.le_of_ble_eq_true rfl, Nat.le_of_ble_eq_true rfl⟩ (fun u1 H locs k2 h => ?_)
  obtain ⟨n3, rfl⟩ : ∃ z, z = u1 := ⟨_, rfl⟩
  have h : rH D E cy X [rAr cy n3 0 (fun _ => none)] A s H _ := h
  exact r_retr S h (Or.inr ⟨_, rfl⟩) n3 rfl trivial hr hlocks rfl ⟨Nat.le_of_ble_eq_true rfl, Nat.le_of_ble_eq_true rfl⟩ dJ7_copyOf_1904c_9
set_option maxHeartbeats 4000000 in
set_option maxRecDepth 100000 in
/-- copyOf of an empty array -/
theorem k_copyCZ0 (l : Launch) (D : va_G) (E : rEn) (cy : rC) (X : va_W) (A : Nat → Prop) : rMr l yJ7_copyOf_6403c wsJ7_copyOf_6403c { frames := 1, cells := 1, slots := 0, locals := 60 } D E cy X [] A [.ref E.2.1, .int 0, .ref E.2.2.2.2] (fun (q : Nat) => q) (fun (q : Nat) => [rAr cy q 0 (fun _ => none)]) (fun _ => True) 1 0 := by
  refine r_entry (cc := cJ7_copyOf_6403c) (maxL := 4) (ret := (some (.array (.object "java/lang/Object")))) (by decide +kernel) rfl (Nat.le_of_ble_eq_true rfl) ?_
  intro p e s m args below meth c ls B
  obtain ⟨S, hr, hlocks, hmi, h, hl⟩ := B
  have hx := S.1
  have hb := S.2.1
  have hts := S.2.2.2.2
  have hl : lv_has ls 4 [(0, .ref E.2.1), (1, .int 0), (2, .ref E.2.2.2.2)] := hl
  refine lv_aload_n hx hb dJ7_copyOf_6403c_0 rfl (lv_at hl 2 rfl) ?_
  refine r_ldcM S h (by decide +kernel) dJ7_copyOf_6403c_1 ?_
  refine lv_acmp_ne (rx := some E.2.2.2.2) (ry := some E.2.2.2.2) (tgt := 13) hx hb dJ7_copyOf_6403c_3 (by decide) (fun c1 => absurd rfl c1) (fun c1 => ?_)
  refine lv_iload_n hx hb dJ7_copyOf_6403c_6 rfl (lv_at hl 1 rfl) ?_
  refine r_newq S h (N := 0) (by decide +kernel) (by decide) rfl (by decide) (Nat.le_of_ble_eq_true rfl) (Nat.le_of_ble_eq_true rfl) dJ7_copyOf_6403c_7 (fun n2 H h => ?_)
  have h : rH D E cy X [rAr cy n2 0 (fun _ => none)] A s H _ := h
  refine lv_goto (tgt := 24) hx hb dJ7_copyOf_6403c_10 (by decide) ?_
  refine lv_astore_n (lv' := [(3, .ref n2), (0, .ref E.2.1), (1, .int 0), (2, .ref E.2.2.2.2)]) hx hb dJ7_copyOf_6403c_24 rfl hl (by decide) rfl (fun ls hl => ?_)
  refine lv_aload_n hx hb dJ7_copyOf_6403c_25 rfl (lv_at hl 1 rfl) ?_
  refine lv_iconst (v := 0) hx hb dJ7_copyOf_6403c_26 (by decide) ?_
  refine lv_aload_n hx hb dJ7_copyOf_6403c_27 rfl (lv_at hl 0 rfl) ?_
  refine lv_iconst (v := 0) hx hb dJ7_copyOf_6403c_28 (by decide) ?_
  refine lv_aload_n hx hb dJ7_copyOf_6403c_29 rfl (lv_at hl 1 rfl) ?_
  refine r_alen1 S h dJ7_copyOf_6403c_30 ?_
  refine lv_iload_n hx hb dJ7_copyOf_6403c_31 rfl (lv_at hl 2 rfl) ?_
  refine va_mmin hx hb (S.2.2.1.trans hl.1.symm) S.2.2.2.1 (hts (.methodLink RJ7 304 Lib.Math.min.name) (by decide +kernel)) (hts (.static Lib.Math.min.name) (by decide +kernel)) (hts (.initialized "java/lang/Math") (by decide +kernel)) (hts (.code Lib.Math.min.name Lib.Math.min.code 2 (some .int)) (by decide +kernel)) (Nat.le_of_ble_eq_true rfl) (Nat.le_of_ble_eq_true rfl) (Nat.le_of_ble_eq_true rfl) (Nat.le_of_ble_eq_true rfl) dJ7_copyOf_6403c_32 ?_
  refine lv_topi (fun x3 ex3 => ?_)
  obtain rfl : x3 = 0 := by rw [ex3]; decide
  refine r_copy0 S h hl.1 0 (Or.inr rfl) rfl (by decide +kernel) (by decide +kernel) (by decide +kernel) (by decide +kernel) (Nat.le_of_ble_eq_true rfl) (by decide) dJ7_copyOf_6403c_35 (fun H locs h => ?_)
  have h : rH D E cy X [rAr cy n2 0 (fun _ => none)] A s H _ := h
  refine lv_aload_n hx hb dJ7_copyOf_6403c_38 rfl (lv_at hl 0 rfl) ?_
  exact r_retr S h (Or.inr ⟨_, rfl⟩) n2 rfl trivial hr hlocks rfl ⟨Nat.le_of_ble_eq_true rfl, Nat.le_of_ble_eq_true rfl⟩ dJ7_copyOf_6403c_39
set_option maxHeartbeats 4000000 in
set_option maxRecDepth 100000 in
/-- copyOf of an empty array -/
theorem k_copyBZ0 (l : Launch) (D : va_G) (E : rEn) (cy : rC) (X : va_W) (A : Nat → Prop) : rMr l yJ7_copyOf_1904c wsJ7_copyOf_1904c { frames := 2, cells := 1, slots := 0, locals := 83 } D E cy X [] A [.ref E.2.1, .int 0] (fun (q : Nat) => q) (fun (q : Nat) => [rAr cy q 0 (fun _ => none)]) (fun _ => True) 1 0 := by
  refine r_entry (cc := cJ7_copyOf_1904c) (maxL := 2) (ret := (some (.array (.object "java/lang/Object")))) (by decide +kernel) rfl (Nat.le_of_ble_eq_true rfl) ?_
  intro p e s m args below meth c ls B
  obtain ⟨S, hr, hlocks, hmi, h, hl⟩ := B
  have hx := S.1
  have hb := S.2.1
  have hts := S.2.2.2.2
  have hl : lv_has ls 2 [(0, .ref E.2.1), (1, .int 0)] := hl
  refine lv_aload_n hx hb dJ7_copyOf_1904c_0 rfl (lv_at hl 0 rfl) ?_
  refine lv_iload_n hx hb dJ7_copyOf_1904c_1 rfl (lv_at hl 1 rfl) ?_
  refine lv_aload_n hx hb dJ7_copyOf_1904c_2 rfl (lv_at hl 0 rfl) ?_
  refine r_gc S h hl.1 (Or.inr (Or.inr rfl)) (by decide +kernel) (by decide +kernel) (by decide +kernel) (by decide +kernel) (Nat.le_of_ble_eq_true rfl) (Nat.le_of_ble_eq_true rfl) dJ7_copyOf_1904c_3 ?_
  refine r_callrS S h (k_copyCZ0 l D E cy _ A ) (cwS 3 hts gJ7_copyOf_1904c_J7_copyOf_6403c rfl rfl rfl (by decide +kernel) ⟨Nat.le_of_ble_eq_true rfl, Nat.le_of_ble_eq_true rfl⟩) (r_preS h [] [] (wr := []) (wc := []) rfl rfl rfl _) rfl hl.1 rfl (Nat.le_of_ble_eq_true rfl) dJ7_copyOf_1904c_6 ⟨Nat.le_of_ble_eq_true rfl, Nat.le_of_ble_eq_true rfl⟩ (fun u1 H locs k2 h => ?_)
  obtain ⟨n3, rfl⟩ : ∃ z, z = u1 := ⟨_, rfl⟩
  have h : rH D E cy X [rAr cy n3 0 (fun _ => none)] A s H _ := h
  exact r_retr S h (Or.inr ⟨_, rfl⟩) n3 rfl trivial hr hlocks rfl ⟨Nat.le_of_ble_eq_true rfl, Nat.le_of_ble_eq_true rfl⟩ dJ7_copyOf_1904c_9
set_option maxHeartbeats 4000000 in
set_option maxRecDepth 100000 in
/-- copyOf of an empty array -/
theorem k_copyCZ1 (l : Launch) (D : va_G) (E : rEn) (cy : rC) (X : va_W) (A : Nat → Prop) : rMr l yJ7_copyOf_6403c wsJ7_copyOf_6403c { frames := 1, cells := 1, slots := 1, locals := 60 } D E cy X [] A [.ref E.2.1, .int 1, .ref E.2.2.2.2] (fun (q : Nat) => q) (fun (q : Nat) => [rAr cy q 1 (fun _ => none)]) (fun _ => True) 1 1 := by
  refine r_entry (cc := cJ7_copyOf_6403c) (maxL := 4) (ret := (some (.array (.object "java/lang/Object")))) (by decide +kernel) rfl (Nat.le_of_ble_eq_true rfl) ?_
  intro p e s m args below meth c ls B
  obtain ⟨S, hr, hlocks, hmi, h, hl⟩ := B
  have hx := S.1
  have hb := S.2.1
  have hts := S.2.2.2.2
  have hl : lv_has ls 4 [(0, .ref E.2.1), (1, .int 1), (2, .ref E.2.2.2.2)] := hl
  refine lv_aload_n hx hb dJ7_copyOf_6403c_0 rfl (lv_at hl 2 rfl) ?_
  refine r_ldcM S h (by decide +kernel) dJ7_copyOf_6403c_1 ?_
  refine lv_acmp_ne (rx := some E.2.2.2.2) (ry := some E.2.2.2.2) (tgt := 13) hx hb dJ7_copyOf_6403c_3 (by decide) (fun c1 => absurd rfl c1) (fun c1 => ?_)
  refine lv_iload_n hx hb dJ7_copyOf_6403c_6 rfl (lv_at hl 1 rfl) ?_
  refine r_newq S h (N := 1) (by decide +kernel) (by decide) rfl (by decide) (Nat.le_of_ble_eq_true rfl) (Nat.le_of_ble_eq_true rfl) dJ7_copyOf_6403c_7 (fun n2 H h => ?_)
  have h : rH D E cy X [rAr cy n2 1 (fun _ => none)] A s H _ := h
  refine lv_goto (tgt := 24) hx hb dJ7_copyOf_6403c_10 (by decide) ?_
  refine lv_astore_n (lv' := [(3, .ref n2), (0, .ref E.2.1), (1, .int 1), (2, .ref E.2.2.2.2)]) hx hb dJ7_copyOf_6403c_24 rfl hl (by decide) rfl (fun ls hl => ?_)
  refine lv_aload_n hx hb dJ7_copyOf_6403c_25 rfl (lv_at hl 1 rfl) ?_
  refine lv_iconst (v := 0) hx hb dJ7_copyOf_6403c_26 (by decide) ?_
  refine lv_aload_n hx hb dJ7_copyOf_6403c_27 rfl (lv_at hl 0 rfl) ?_
  refine lv_iconst (v := 0) hx hb dJ7_copyOf_6403c_28 (by decide) ?_
  refine lv_aload_n hx hb dJ7_copyOf_6403c_29 rfl (lv_at hl 1 rfl) ?_
  refine r_alen1 S h dJ7_copyOf_6403c_30 ?_
  refine lv_iload_n hx hb dJ7_copyOf_6403c_31 rfl (lv_at hl 2 rfl) ?_
  refine va_mmin hx hb (S.2.2.1.trans hl.1.symm) S.2.2.2.1 (hts (.methodLink RJ7 304 Lib.Math.min.name) (by decide +kernel)) (hts (.static Lib.Math.min.name) (by decide +kernel)) (hts (.initialized "java/lang/Math") (by decide +kernel)) (hts (.code Lib.Math.min.name Lib.Math.min.code 2 (some .int)) (by decide +kernel)) (Nat.le_of_ble_eq_true rfl) (Nat.le_of_ble_eq_true rfl) (Nat.le_of_ble_eq_true rfl) (Nat.le_of_ble_eq_true rfl) dJ7_copyOf_6403c_32 ?_
  refine lv_topi (fun x3 ex3 => ?_)
  obtain rfl : x3 = 0 := by rw [ex3]; decide
  refine r_copy0 S h hl.1 0 (Or.inr rfl) rfl (by decide +kernel) (by decide +kernel) (by decide +kernel) (by decide +kernel) (Nat.le_of_ble_eq_true rfl) (by decide) dJ7_copyOf_6403c_35 (fun H locs h => ?_)
  have h : rH D E cy X [rAr cy n2 1 (fun _ => none)] A s H _ := h
  refine lv_aload_n hx hb dJ7_copyOf_6403c_38 rfl (lv_at hl 0 rfl) ?_
  exact r_retr S h (Or.inr ⟨_, rfl⟩) n2 rfl trivial hr hlocks rfl ⟨Nat.le_of_ble_eq_true rfl, Nat.le_of_ble_eq_true rfl⟩ dJ7_copyOf_6403c_39
set_option maxHeartbeats 4000000 in
set_option maxRecDepth 100000 in
/-- copyOf of an empty array -/
theorem k_copyBZ1 (l : Launch) (D : va_G) (E : rEn) (cy : rC) (X : va_W) (A : Nat → Prop) : rMr l yJ7_copyOf_1904c wsJ7_copyOf_1904c { frames := 2, cells := 1, slots := 1, locals := 83 } D E cy X [] A [.ref E.2.1, .int 1] (fun (q : Nat) => q) (fun (q : Nat) => [rAr cy q 1 (fun _ => none)]) (fun _ => True) 1 1 := by
  refine r_entry (cc := cJ7_copyOf_1904c) (maxL := 2) (ret := (some (.array (.object "java/lang/Object")))) (by decide +kernel) rfl (Nat.le_of_ble_eq_true rfl) ?_
  intro p e s m args below meth c ls B
  obtain ⟨S, hr, hlocks, hmi, h, hl⟩ := B
  have hx := S.1
  have hb := S.2.1
  have hts := S.2.2.2.2
  have hl : lv_has ls 2 [(0, .ref E.2.1), (1, .int 1)] := hl
  refine lv_aload_n hx hb dJ7_copyOf_1904c_0 rfl (lv_at hl 0 rfl) ?_
  refine lv_iload_n hx hb dJ7_copyOf_1904c_1 rfl (lv_at hl 1 rfl) ?_
  refine lv_aload_n hx hb dJ7_copyOf_1904c_2 rfl (lv_at hl 0 rfl) ?_
  refine r_gc S h hl.1 (Or.inr (Or.inr rfl)) (by decide +kernel) (by decide +kernel) (by decide +kernel) (by decide +kernel) (Nat.le_of_ble_eq_true rfl) (Nat.le_of_ble_eq_true rfl) dJ7_copyOf_1904c_3 ?_
  refine r_callrS S h (k_copyCZ1 l D E cy _ A ) (cwS 3 hts gJ7_copyOf_1904c_J7_copyOf_6403c rfl rfl rfl (by decide +kernel) ⟨Nat.le_of_ble_eq_true rfl, Nat.le_of_ble_eq_true rfl⟩) (r_preS h [] [] (wr := []) (wc := []) rfl rfl rfl _) rfl hl.1 rfl (Nat.le_of_ble_eq_true rfl) dJ7_copyOf_1904c_6 ⟨Nat.le_of_ble_eq_true rfl, Nat.le_of_ble_eq_true rfl⟩ (fun u1 H locs k2 h => ?_)
  obtain ⟨n3, rfl⟩ : ∃ z, z = u1 := ⟨_, rfl⟩
  have h : rH D E cy X [rAr cy n3 1 (fun _ => none)] A s H _ := h
  exact r_retr S h (Or.inr ⟨_, rfl⟩) n3 rfl trivial hr hlocks rfl ⟨Nat.le_of_ble_eq_true rfl, Nat.le_of_ble_eq_true rfl⟩ dJ7_copyOf_1904c_9
set_option maxHeartbeats 4000000 in
set_option maxRecDepth 100000 in
/-- grow of an empty copy -/
theorem k_grow1Z (l : Launch) (D : va_G) (E : rEn) (cy : rC) (X : va_W) (A : Nat → Prop) (a : Nat) (mo : Int32) : rMr l yJx4a65c_grow_92f84 wsJx4a65c_grow_92f84 { frames := 3, cells := 1, slots := 1, locals := 104 } D E cy X [(a, .inr (1, [.int mo, .ref E.2.1, .int 0]))] A [.ref a, .int 1] (fun (q : Nat) => q) (fun (q : Nat) => [(a, .inr (1, [.int mo, .ref q, .int 0])), rAr cy q 1 (fun _ => none)]) (fun _ => True) 1 1 := by
  refine r_entry (cc := cJx4a65c_grow_92f84) (maxL := 4) (ret := (some (.array (.object "java/lang/Object")))) (by decide +kernel) rfl (Nat.le_of_ble_eq_true rfl) ?_
  intro p e s m args below meth c ls B
  obtain ⟨S, hr, hlocks, hmi, h, hl⟩ := B
  have hx := S.1
  have hb := S.2.1
  have hts := S.2.2.2.2
  have inJx4a65c : ∀ w ∈ wsJx4a65c0, w ∈ wsJx4a65c_grow_92f84 := by decide +kernel
  have hl : lv_has ls 4 [(0, .ref a), (1, .int 1)] := hl
  refine lv_aload_n hx hb dJx4a65c_grow_92f84_0 rfl (lv_at hl 0 rfl) ?_
  refine r_get S h 0 inJx4a65c (ref := "java/util/ArrayList") rfl rfl (k := 1) (by decide) (by decide +kernel) (fun _ h9 => h9) rfl dJx4a65c_grow_92f84_1 ?_
  refine r_alen1 S h dJx4a65c_grow_92f84_4 ?_
  refine lv_istore_n (lv' := [(2, .int 0), (0, .ref a), (1, .int 1)]) hx hb dJx4a65c_grow_92f84_5 rfl hl (by decide) rfl (fun ls hl => ?_)
  refine lv_iload_n hx hb dJx4a65c_grow_92f84_6 rfl (lv_at hl 0 rfl) ?_
  refine lv_if_gt (tgt := 20) hx hb dJx4a65c_grow_92f84_7 (by decide) (fun c1 => absurd c1 (by decide)) (fun c1 => ?_)
  refine lv_aload_n hx hb dJx4a65c_grow_92f84_10 rfl (lv_at hl 1 rfl) ?_
  refine r_get S h 0 inJx4a65c (ref := "java/util/ArrayList") rfl rfl (k := 1) (by decide) (by decide +kernel) (fun _ h9 => h9) rfl dJx4a65c_grow_92f84_11 ?_
  refine r_gets0 S h (by decide +kernel) dJx4a65c_grow_92f84_14 ?_
  refine lv_acmp_eq (rx := some E.2.1) (ry := some E.1) (tgt := 45) hx hb dJx4a65c_grow_92f84_17 (by decide) (fun c2 => absurd (Option.some.inj c2) (fun q => h.2.2.2.1.1.2.2.2.2 q.symm)) (fun c2 => ?_)
  refine lv_iload_n hx hb dJx4a65c_grow_92f84_20 rfl (lv_at hl 0 rfl) ?_
  refine lv_iload_n hx hb dJx4a65c_grow_92f84_21 rfl (lv_at hl 2 rfl) ?_
  refine lv_iload_n hx hb dJx4a65c_grow_92f84_22 rfl (lv_at hl 0 rfl) ?_
  refine lv_isub hx hb dJx4a65c_grow_92f84_23 ?_
  refine lv_topi (fun x3 ex3 => ?_)
  obtain rfl : x3 = 1 := by rw [ex3]; decide
  refine lv_iload_n hx hb dJx4a65c_grow_92f84_24 rfl (lv_at hl 0 rfl) ?_
  refine lv_iconst (v := 1) hx hb dJx4a65c_grow_92f84_25 (by decide) ?_
  refine lv_ishr hx hb dJx4a65c_grow_92f84_26 ?_
  refine lv_topi (fun x4 ex4 => ?_)
  obtain rfl : x4 = 0 := by rw [ex4]; decide
  refine r_calliS S h (k_newLen0 l D E cy _ A ) (va_cwS 3 hts gJx4a65c_grow_92f84_J8_newLength_cabcc rfl rfl rfl (by decide +kernel) ⟨Nat.le_of_ble_eq_true rfl, Nat.le_of_ble_eq_true rfl⟩) (r_preS h [0] [] (wr := [(a, .inr (1, [.int mo, .ref E.2.1, .int 0]))]) (wc := []) rfl rfl rfl _) rfl hl.1 rfl (Nat.le_of_ble_eq_true rfl) dJx4a65c_grow_92f84_27 ⟨Nat.le_of_ble_eq_true rfl, Nat.le_of_ble_eq_true rfl⟩ (fun u5 H locs k6 h => ?_)
  have h : rH D E cy X [(a, .inr (1, [.int mo, .ref E.2.1, .int 0]))] A s H _ := h
  refine lv_istore_n (lv' := [(3, .int 1), (2, .int 0), (0, .ref a), (1, .int 1)]) hx hb dJx4a65c_grow_92f84_30 rfl hl (by decide) rfl (fun ls hl => ?_)
  refine lv_aload_n hx hb dJx4a65c_grow_92f84_31 rfl (lv_at hl 2 rfl) ?_
  refine lv_aload_n hx hb dJx4a65c_grow_92f84_32 rfl (lv_at hl 2 rfl) ?_
  refine r_get S h 0 inJx4a65c (ref := "java/util/ArrayList") rfl rfl (k := 1) (by decide) (by decide +kernel) (fun _ h9 => h9) rfl dJx4a65c_grow_92f84_33 ?_
  refine lv_iload_n hx hb dJx4a65c_grow_92f84_36 rfl (lv_at hl 0 rfl) ?_
  refine r_callrS S h (k_copyBZ1 l D E cy _ A ) (va_cwS 2 hts gJx4a65c_grow_92f84_J7_copyOf_1904c rfl rfl rfl (by decide +kernel) ⟨Nat.le_of_ble_eq_true rfl, Nat.le_of_ble_eq_true rfl⟩) (r_preS h [0] [] (wr := [(a, .inr (1, [.int mo, .ref E.2.1, .int 0]))]) (wc := []) rfl rfl rfl _) rfl hl.1 rfl (Nat.le_of_ble_eq_true rfl) dJx4a65c_grow_92f84_37 ⟨Nat.le_of_ble_eq_true rfl, Nat.le_of_ble_eq_true rfl⟩ (fun u7 H locs k8 h => ?_)
  obtain ⟨n9, rfl⟩ : ∃ z, z = u7 := ⟨_, rfl⟩
  have h : rH D E cy X [(a, .inr (1, [.int mo, .ref E.2.1, .int 0])), rAr cy n9 1 (fun _ => none)] A s H _ := h
  refine lv_dup_x1 hx hb dJx4a65c_grow_92f84_40 rfl rfl ?_
  refine r_put S h 0 tyJx4a65c tyJx4a65c_ok nmJx4a65c inJx4a65c (ref := "java/util/ArrayList") rfl rfl (k := 1) (by decide) (by decide +kernel) (fun _ h9 => h9) rfl rfl rfl rfl (Nat.le_of_ble_eq_true rfl) dJx4a65c_grow_92f84_41 (fun H locs h => ?_)
  have h : rH D E cy X [(a, .inr (1, [.int mo, .ref n9, .int 0])), rAr cy n9 1 (fun _ => none)] A s H _ := h
  exact r_retr S h (Or.inr ⟨_, rfl⟩) n9 rfl trivial hr hlocks rfl ⟨Nat.le_of_ble_eq_true rfl, Nat.le_of_ble_eq_true rfl⟩ dJx4a65c_grow_92f84_44
set_option maxHeartbeats 4000000 in
set_option maxRecDepth 100000 in
/-- grow of an empty copy -/
theorem k_growZ (l : Launch) (D : va_G) (E : rEn) (cy : rC) (X : va_W) (A : Nat → Prop) (a : Nat) (mo : Int32) : rMr l yJx4a65c_grow_d5877 wsJx4a65c_grow_d5877 { frames := 4, cells := 1, slots := 1, locals := 127 } D E cy X [(a, .inr (1, [.int mo, .ref E.2.1, .int 0]))] A [.ref a] (fun (q : Nat) => q) (fun (q : Nat) => [(a, .inr (1, [.int mo, .ref q, .int 0])), rAr cy q 1 (fun _ => none)]) (fun _ => True) 1 1 := by
  refine r_entry (cc := cJx4a65c_grow_d5877) (maxL := 1) (ret := (some (.array (.object "java/lang/Object")))) (by decide +kernel) rfl (Nat.le_of_ble_eq_true rfl) ?_
  intro p e s m args below meth c ls B
  obtain ⟨S, hr, hlocks, hmi, h, hl⟩ := B
  have hx := S.1
  have hb := S.2.1
  have hts := S.2.2.2.2
  have inJx4a65c : ∀ w ∈ wsJx4a65c0, w ∈ wsJx4a65c_grow_d5877 := by decide +kernel
  have hl : lv_has ls 1 [(0, .ref a)] := hl
  refine lv_aload_n hx hb dJx4a65c_grow_d5877_0 rfl (lv_at hl 0 rfl) ?_
  refine lv_aload_n hx hb dJx4a65c_grow_d5877_1 rfl (lv_at hl 0 rfl) ?_
  refine r_get S h 0 inJx4a65c (ref := "java/util/ArrayList") rfl rfl (k := 2) (by decide) (by decide +kernel) (fun _ h9 => h9) rfl dJx4a65c_grow_d5877_2 ?_
  refine lv_iconst (v := 1) hx hb dJx4a65c_grow_d5877_5 (by decide) ?_
  refine lv_iadd hx hb dJx4a65c_grow_d5877_6 ?_
  refine lv_topi (fun x1 ex1 => ?_)
  obtain rfl : x1 = 1 := by rw [ex1]; decide
  refine r_callr S h (k_grow1Z l D E cy _ A a mo) (cwV 1 hts gJx4a65c_grow_d5877_Jx4a65c_grow_92f84 rfl rfl rfl (by decide +kernel) ⟨Nat.le_of_ble_eq_true rfl, Nat.le_of_ble_eq_true rfl⟩) (r_preV h [] [0] (wr := []) (wc := [(a, .inr (1, [.int mo, .ref E.2.1, .int 0]))]) rfl rfl rfl 0 rfl rfl _) rfl hl.1 rfl (Nat.le_of_ble_eq_true rfl) dJx4a65c_grow_d5877_7 ⟨Nat.le_of_ble_eq_true rfl, Nat.le_of_ble_eq_true rfl⟩ (fun u2 H locs k3 h => ?_)
  obtain ⟨n4, rfl⟩ : ∃ z, z = u2 := ⟨_, rfl⟩
  have h : rH D E cy X [(a, .inr (1, [.int mo, .ref n4, .int 0])), rAr cy n4 1 (fun _ => none)] A s H _ := h
  exact r_retr S h (Or.inr ⟨_, rfl⟩) n4 rfl trivial hr hlocks rfl ⟨Nat.le_of_ble_eq_true rfl, Nat.le_of_ble_eq_true rfl⟩ dJx4a65c_grow_d5877_10
set_option maxHeartbeats 4000000 in
set_option maxRecDepth 100000 in
/-- add to an empty copy -/
theorem k_add3Z (l : Launch) (D : va_G) (E : rEn) (cy : rC) (X : va_W) (A : Nat → Prop) (a v : Nat) (mo : Int32) (C : String) (hv : rEl E X C v) (hca : ∀ U : State, rS E U → va_Nw (.castable C "java/lang/Object") U) : rMv l yJx4a65c_add_72be8 wsJx4a65c_add_72be8 { frames := 5, cells := 1, slots := 1, locals := 147 } D E cy X [(a, .inr (1, [.int mo, .ref E.2.1, .int 0]))] A [.ref a, .ref v, .ref E.2.1, .int 0] (fun (q : Nat) => [(a, .inr (1, [.int mo, .ref q, .int 1])), rAr cy q 1 (va_up (fun _ => none) 0 (some v))]) (fun _ => True) 1 1 := by
  refine r_entry (cc := cJx4a65c_add_72be8) (maxL := 4) (ret := none) (by decide +kernel) rfl (Nat.le_of_ble_eq_true rfl) ?_
  intro p e s m args below meth c ls B
  obtain ⟨S, hr, hlocks, hmi, h, hl⟩ := B
  have hx := S.1
  have hb := S.2.1
  have hts := S.2.2.2.2
  have inJx4a65c : ∀ w ∈ wsJx4a65c0, w ∈ wsJx4a65c_add_72be8 := by decide +kernel
  have hl : lv_has ls 4 [(0, .ref a), (1, .ref v), (2, .ref E.2.1), (3, .int 0)] := hl
  refine lv_iload_n hx hb dJx4a65c_add_72be8_0 rfl (lv_at hl 3 rfl) ?_
  refine lv_aload_n hx hb dJx4a65c_add_72be8_1 rfl (lv_at hl 2 rfl) ?_
  refine r_alen1 S h dJx4a65c_add_72be8_2 ?_
  refine lv_icmp_ne (tgt := 11) hx hb dJx4a65c_add_72be8_3 (by decide) (fun c1 => absurd (by decide) c1) (fun c1 => ?_)
  refine lv_aload_n hx hb dJx4a65c_add_72be8_6 rfl (lv_at hl 0 rfl) ?_
  refine r_callr S h (k_growZ l D E cy _ A a mo) (cwV 0 hts gJx4a65c_add_72be8_Jx4a65c_grow_d5877 rfl rfl rfl (by decide +kernel) ⟨Nat.le_of_ble_eq_true rfl, Nat.le_of_ble_eq_true rfl⟩) (r_preV h [] [0] (wr := []) (wc := [(a, .inr (1, [.int mo, .ref E.2.1, .int 0]))]) rfl rfl rfl 0 rfl rfl _) rfl hl.1 rfl (Nat.le_of_ble_eq_true rfl) dJx4a65c_add_72be8_7 ⟨Nat.le_of_ble_eq_true rfl, Nat.le_of_ble_eq_true rfl⟩ (fun u2 H locs k3 h => ?_)
  obtain ⟨n4, rfl⟩ : ∃ z, z = u2 := ⟨_, rfl⟩
  have h : rH D E cy X [(a, .inr (1, [.int mo, .ref n4, .int 0])), rAr cy n4 1 (fun _ => none)] A s H _ := h
  refine lv_astore_n (lv' := [(2, .ref n4), (0, .ref a), (1, .ref v), (3, .int 0)]) hx hb dJx4a65c_add_72be8_10 rfl hl (by decide) rfl (fun ls hl => ?_)
  refine lv_aload_n hx hb dJx4a65c_add_72be8_11 rfl (lv_at hl 0 rfl) ?_
  refine lv_iload_n hx hb dJx4a65c_add_72be8_12 rfl (lv_at hl 3 rfl) ?_
  refine lv_aload_n hx hb dJx4a65c_add_72be8_13 rfl (lv_at hl 2 rfl) ?_
  refine r_aast S h 1 rfl hv (hca s h.2.2.2.1.2) (by unfold vp_in; decide) dJx4a65c_add_72be8_14 (fun H locs h => ?_)
  have h : rH D E cy X [(a, .inr (1, [.int mo, .ref n4, .int 0])), rAr cy n4 1 (va_up (fun _ => none) 0 (some v))] A s H _ := h
  refine lv_aload_n hx hb dJx4a65c_add_72be8_15 rfl (lv_at hl 1 rfl) ?_
  refine lv_iload_n hx hb dJx4a65c_add_72be8_16 rfl (lv_at hl 3 rfl) ?_
  refine lv_iconst (v := 1) hx hb dJx4a65c_add_72be8_17 (by decide) ?_
  refine lv_iadd hx hb dJx4a65c_add_72be8_18 ?_
  refine lv_topi (fun x5 ex5 => ?_)
  obtain rfl : x5 = 1 := by rw [ex5]; decide
  refine r_put S h 0 tyJx4a65c tyJx4a65c_ok nmJx4a65c inJx4a65c (ref := "java/util/ArrayList") rfl rfl (k := 2) (by decide) (by decide +kernel) (fun _ h9 => h9) rfl rfl rfl rfl (Nat.le_of_ble_eq_true rfl) dJx4a65c_add_72be8_19 (fun H locs h => ?_)
  have h : rH D E cy X [(a, .inr (1, [.int mo, .ref n4, .int 1])), rAr cy n4 1 (va_up (fun _ => none) 0 (some v))] A s H _ := h
  exact r_retv S h n4 rfl trivial hr hlocks ⟨Nat.le_of_ble_eq_true rfl, Nat.le_of_ble_eq_true rfl⟩ dJx4a65c_add_72be8_22
set_option maxHeartbeats 4000000 in
set_option maxRecDepth 100000 in
/-- add to an empty copy -/
theorem k_addZ (l : Launch) (D : va_G) (E : rEn) (cy : rC) (X : va_W) (A : Nat → Prop) (a v : Nat) (C : String) (hv : rEl E X C v) (hca : ∀ U : State, rS E U → va_Nw (.castable C "java/lang/Object") U) : rMi l yJx4a65c_add_9ea2d wsJx4a65c_add_9ea2d { frames := 6, cells := 1, slots := 1, locals := 170 } D E cy X [(a, .inr (1, [.int 0, .ref E.2.1, .int 0]))] A [.ref a, .ref v] 1 (fun (q : Nat) => [(a, .inr (1, [.int 1, .ref q, .int 1])), rAr cy q 1 (va_up (fun _ => none) 0 (some v))]) (fun _ => True) 1 1 := by
  refine r_entry (cc := cJx4a65c_add_9ea2d) (maxL := 2) (ret := (some .boolean)) (by decide +kernel) rfl (Nat.le_of_ble_eq_true rfl) ?_
  intro p e s m args below meth c ls B
  obtain ⟨S, hr, hlocks, hmi, h, hl⟩ := B
  have hx := S.1
  have hb := S.2.1
  have hts := S.2.2.2.2
  have inJx4a65c : ∀ w ∈ wsJx4a65c0, w ∈ wsJx4a65c_add_9ea2d := by decide +kernel
  have hl : lv_has ls 2 [(0, .ref a), (1, .ref v)] := hl
  refine lv_aload_n hx hb dJx4a65c_add_9ea2d_0 rfl (lv_at hl 0 rfl) ?_
  refine lv_dup hx hb dJx4a65c_add_9ea2d_1 rfl ?_
  refine r_get S h 0 inJx4a65c (ref := "java/util/ArrayList") rfl rfl (k := 0) (by decide) (by decide +kernel) (fun x9 h9 => u_same (hts (.sameField "java/util/ArrayList" "java/util/AbstractList" "modCount" "I") (by decide +kernel)) x9 h9) rfl dJx4a65c_add_9ea2d_2 ?_
  refine lv_iconst (v := 1) hx hb dJx4a65c_add_9ea2d_5 (by decide) ?_
  refine lv_iadd hx hb dJx4a65c_add_9ea2d_6 ?_
  refine lv_topi (fun x1 ex1 => ?_)
  obtain rfl : x1 = 1 := by rw [ex1]; decide
  refine r_put S h 0 tyJx4a65c tyJx4a65c_ok nmJx4a65c inJx4a65c (ref := "java/util/ArrayList") rfl rfl (k := 0) (by decide) (by decide +kernel) (fun x9 h9 => u_same (hts (.sameField "java/util/ArrayList" "java/util/AbstractList" "modCount" "I") (by decide +kernel)) x9 h9) rfl rfl rfl rfl (Nat.le_of_ble_eq_true rfl) dJx4a65c_add_9ea2d_7 (fun H locs h => ?_)
  have h : rH D E cy X [(a, .inr (1, [.int 1, .ref E.2.1, .int 0]))] A s H _ := h
  refine lv_aload_n hx hb dJx4a65c_add_9ea2d_10 rfl (lv_at hl 0 rfl) ?_
  refine lv_aload_n hx hb dJx4a65c_add_9ea2d_11 rfl (lv_at hl 1 rfl) ?_
  refine lv_aload_n hx hb dJx4a65c_add_9ea2d_12 rfl (lv_at hl 0 rfl) ?_
  refine r_get S h 0 inJx4a65c (ref := "java/util/ArrayList") rfl rfl (k := 1) (by decide) (by decide +kernel) (fun _ h9 => h9) rfl dJx4a65c_add_9ea2d_13 ?_
  refine lv_aload_n hx hb dJx4a65c_add_9ea2d_16 rfl (lv_at hl 0 rfl) ?_
  refine r_get S h 0 inJx4a65c (ref := "java/util/ArrayList") rfl rfl (k := 2) (by decide) (by decide +kernel) (fun _ h9 => h9) rfl dJx4a65c_add_9ea2d_17 ?_
  refine r_callv S h (k_add3Z l D E cy _ A a v 1 C hv.app hca) (cwV 3 hts gJx4a65c_add_9ea2d_Jx4a65c_add_72be8 rfl rfl rfl (by decide +kernel) ⟨Nat.le_of_ble_eq_true rfl, Nat.le_of_ble_eq_true rfl⟩) (r_preV h [] [0] (wr := []) (wc := [(a, .inr (1, [.int 1, .ref E.2.1, .int 0]))]) rfl rfl rfl 0 rfl rfl _) rfl hl.1 rfl (Nat.le_of_ble_eq_true rfl) dJx4a65c_add_9ea2d_20 ⟨Nat.le_of_ble_eq_true rfl, Nat.le_of_ble_eq_true rfl⟩ (fun u2 H locs k3 h => ?_)
  obtain ⟨n4, rfl⟩ : ∃ z, z = u2 := ⟨_, rfl⟩
  have h : rH D E cy X [(a, .inr (1, [.int 1, .ref n4, .int 1])), rAr cy n4 1 (va_up (fun _ => none) 0 (some v))] A s H _ := h
  refine lv_iconst (v := 1) hx hb dJx4a65c_add_9ea2d_23 (by decide) ?_
  exact r_reti S h n4 rfl trivial hr hlocks rfl (rfl) ⟨Nat.le_of_ble_eq_true rfl, Nat.le_of_ble_eq_true rfl⟩ dJx4a65c_add_9ea2d_24
set_option maxHeartbeats 4000000 in
set_option maxRecDepth 100000 in
/-- add(v, e, n): there is room -/
theorem k_AL_add3M (l : Launch) (D : va_G) (E : rEn) (cy : rC) (X : va_W) (A : Nat → Prop) (a v d N : Nat) (mo n n1 : Int32) (f : Nat → Option Nat) (C : String) (hv : rEl E X C v) (hca : ∀ U : State, rS E U → va_Nw (.castable C "java/lang/Object") U) (hne : ¬ n = Int32.ofNat N) (hin : vp_in n N) (hn1 : n + 1 = n1) : rMv l yJx4a65c_add_72be8 wsJx4a65c_add_72be8 { frames := 0, cells := 0, slots := 0, locals := 0 } D E cy X [(a, .inr (1, [.int mo, .ref d, .int n])), rAr cy d N f] A [.ref a, .ref v, .ref d, .int n] (fun (_ : Unit) => [(a, .inr (1, [.int mo, .ref d, .int n1])), rAr cy d N (va_up f (Int32.toNatClampNeg n) (some v))]) (fun _ => True) 0 0 := by
  refine r_entry (cc := cJx4a65c_add_72be8) (maxL := 4) (ret := none) (by decide +kernel) rfl (Nat.le_of_ble_eq_true rfl) ?_
  intro p e s m args below meth c ls B
  obtain ⟨S, hr, hlocks, hmi, h, hl⟩ := B
  have hx := S.1
  have hb := S.2.1
  have hts := S.2.2.2.2
  have inJx4a65c : ∀ w ∈ wsJx4a65c0, w ∈ wsJx4a65c_add_72be8 := by decide +kernel
  have hl : lv_has ls 4 [(0, .ref a), (1, .ref v), (2, .ref d), (3, .int n)] := hl
  refine lv_iload_n hx hb dJx4a65c_add_72be8_0 rfl (lv_at hl 3 rfl) ?_
  refine lv_aload_n hx hb dJx4a65c_add_72be8_1 rfl (lv_at hl 2 rfl) ?_
  refine r_alenq S h (v := Int32.ofNat N) 1 rfl rfl dJx4a65c_add_72be8_2 ?_
  refine lv_icmp_ne (tgt := 11) hx hb dJx4a65c_add_72be8_3 (by decide) (fun c1 => ?_) (fun c1 => absurd c1 hne)
  refine lv_aload_n hx hb dJx4a65c_add_72be8_11 rfl (lv_at hl 2 rfl) ?_
  refine lv_iload_n hx hb dJx4a65c_add_72be8_12 rfl (lv_at hl 3 rfl) ?_
  refine lv_aload_n hx hb dJx4a65c_add_72be8_13 rfl (lv_at hl 1 rfl) ?_
  refine r_aast S h 1 rfl hv (hca s h.2.2.2.1.2) hin dJx4a65c_add_72be8_14 (fun H locs h => ?_)
  have h : rH D E cy X [(a, .inr (1, [.int mo, .ref d, .int n])), rAr cy d N (va_up (f) n.toNatClampNeg (some v))] A s H _ := h
  refine lv_aload_n hx hb dJx4a65c_add_72be8_15 rfl (lv_at hl 0 rfl) ?_
  refine lv_iload_n hx hb dJx4a65c_add_72be8_16 rfl (lv_at hl 3 rfl) ?_
  refine lv_iconst (v := 1) hx hb dJx4a65c_add_72be8_17 (by decide) ?_
  refine lv_iadd hx hb dJx4a65c_add_72be8_18 ?_
  refine lv_topi (fun x2 ex2 => ?_)
  obtain rfl : n1 = x2 := by rw [ex2]; exact hn1.symm
  refine r_put S h 0 tyJx4a65c tyJx4a65c_ok nmJx4a65c inJx4a65c (ref := "java/util/ArrayList") rfl rfl (k := 2) (by decide) (by decide +kernel) (fun _ h9 => h9) rfl rfl rfl rfl (Nat.le_of_ble_eq_true rfl) dJx4a65c_add_72be8_19 (fun H locs h => ?_)
  have h : rH D E cy X [(a, .inr (1, [.int mo, .ref d, .int n1])), rAr cy d N (va_up (f) n.toNatClampNeg (some v))] A s H _ := h
  exact r_retv S h () rfl trivial hr hlocks ⟨Nat.le_of_ble_eq_true rfl, Nat.le_of_ble_eq_true rfl⟩ dJx4a65c_add_72be8_22
set_option maxHeartbeats 4000000 in
set_option maxRecDepth 100000 in
/-- add(v): there is room -/
theorem k_AL_addM (l : Launch) (D : va_G) (E : rEn) (cy : rC) (X : va_W) (A : Nat → Prop) (a v d N : Nat) (mo mo1 n n1 : Int32) (f : Nat → Option Nat) (C : String) (hv : rEl E X C v) (hca : ∀ U : State, rS E U → va_Nw (.castable C "java/lang/Object") U) (hne : ¬ n = Int32.ofNat N) (hin : vp_in n N) (hmo : mo + 1 = mo1) (hn1 : n + 1 = n1) : rMi l yJx4a65c_add_9ea2d wsJx4a65c_add_9ea2d { frames := 1, cells := 0, slots := 0, locals := 23 } D E cy X [(a, .inr (1, [.int mo, .ref d, .int n])), rAr cy d N f] A [.ref a, .ref v] 1 (fun (_ : Unit) => [(a, .inr (1, [.int mo1, .ref d, .int n1])), rAr cy d N (va_up f (Int32.toNatClampNeg n) (some v))]) (fun _ => True) 0 0 := by
  refine r_entry (cc := cJx4a65c_add_9ea2d) (maxL := 2) (ret := (some .boolean)) (by decide +kernel) rfl (Nat.le_of_ble_eq_true rfl) ?_
  intro p e s m args below meth c ls B
  obtain ⟨S, hr, hlocks, hmi, h, hl⟩ := B
  have hx := S.1
  have hb := S.2.1
  have hts := S.2.2.2.2
  have inJx4a65c : ∀ w ∈ wsJx4a65c0, w ∈ wsJx4a65c_add_9ea2d := by decide +kernel
  have hl : lv_has ls 2 [(0, .ref a), (1, .ref v)] := hl
  refine lv_aload_n hx hb dJx4a65c_add_9ea2d_0 rfl (lv_at hl 0 rfl) ?_
  refine lv_dup hx hb dJx4a65c_add_9ea2d_1 rfl ?_
  refine r_get S h 0 inJx4a65c (ref := "java/util/ArrayList") rfl rfl (k := 0) (by decide) (by decide +kernel) (fun x9 h9 => u_same (hts (.sameField "java/util/ArrayList" "java/util/AbstractList" "modCount" "I") (by decide +kernel)) x9 h9) rfl dJx4a65c_add_9ea2d_2 ?_
  refine lv_iconst (v := 1) hx hb dJx4a65c_add_9ea2d_5 (by decide) ?_
  refine lv_iadd hx hb dJx4a65c_add_9ea2d_6 ?_
  refine lv_topi (fun x1 ex1 => ?_)
  obtain rfl : mo1 = x1 := by rw [ex1]; exact hmo.symm
  refine r_put S h 0 tyJx4a65c tyJx4a65c_ok nmJx4a65c inJx4a65c (ref := "java/util/ArrayList") rfl rfl (k := 0) (by decide) (by decide +kernel) (fun x9 h9 => u_same (hts (.sameField "java/util/ArrayList" "java/util/AbstractList" "modCount" "I") (by decide +kernel)) x9 h9) rfl rfl rfl rfl (Nat.le_of_ble_eq_true rfl) dJx4a65c_add_9ea2d_7 (fun H locs h => ?_)
  have h : rH D E cy X [(a, .inr (1, [.int mo1, .ref d, .int n])), rAr cy d N f] A s H _ := h
  refine lv_aload_n hx hb dJx4a65c_add_9ea2d_10 rfl (lv_at hl 0 rfl) ?_
  refine lv_aload_n hx hb dJx4a65c_add_9ea2d_11 rfl (lv_at hl 1 rfl) ?_
  refine lv_aload_n hx hb dJx4a65c_add_9ea2d_12 rfl (lv_at hl 0 rfl) ?_
  refine r_get S h 0 inJx4a65c (ref := "java/util/ArrayList") rfl rfl (k := 1) (by decide) (by decide +kernel) (fun _ h9 => h9) rfl dJx4a65c_add_9ea2d_13 ?_
  refine lv_aload_n hx hb dJx4a65c_add_9ea2d_16 rfl (lv_at hl 0 rfl) ?_
  refine r_get S h 0 inJx4a65c (ref := "java/util/ArrayList") rfl rfl (k := 2) (by decide) (by decide +kernel) (fun _ h9 => h9) rfl dJx4a65c_add_9ea2d_17 ?_
  refine r_callv S h (k_AL_add3M l D E cy _ A a v d N mo1 n n1 f C hv.app hca hne hin hn1) (cwV 3 hts gJx4a65c_add_9ea2d_Jx4a65c_add_72be8 rfl rfl rfl (by decide +kernel) ⟨Nat.le_of_ble_eq_true rfl, Nat.le_of_ble_eq_true rfl⟩) (r_preV h [] [0, 1] (wr := []) (wc := [(a, .inr (1, [.int mo1, .ref d, .int n])), rAr cy d N f]) rfl rfl rfl 0 rfl rfl _) rfl hl.1 rfl (Nat.le_of_ble_eq_true rfl) dJx4a65c_add_9ea2d_20 ⟨Nat.le_of_ble_eq_true rfl, Nat.le_of_ble_eq_true rfl⟩ (fun u2 H locs k3 h => ?_)
  have h : rH D E cy X [(a, .inr (1, [.int mo1, .ref d, .int n1])), rAr cy d N (va_up f (Int32.toNatClampNeg n) (some v))] A s H _ := h
  refine lv_iconst (v := 1) hx hb dJx4a65c_add_9ea2d_23 (by decide) ?_
  exact r_reti S h () rfl trivial hr hlocks rfl (rfl) ⟨Nat.le_of_ble_eq_true rfl, Nat.le_of_ble_eq_true rfl⟩ dJx4a65c_add_9ea2d_24
