set_option maxHeartbeats 4000000 in
set_option maxRecDepth 100000 in
/-- grow(1) of a new list -/
theorem k_AL_grow1D (l : Launch) (D : va_G) (E : rEn) (cy : rC) (X : va_W) (A : Nat → Prop) (a : Nat) (mo : Int32) : rMr l yJx4a65c_grow_92f84 wsJx4a65c_grow_92f84 { frames := 1, cells := 1, slots := 10, locals := 24 } D E cy X [(a, .inr (1, [.int mo, .ref E.1, .int 0]))] A [.ref a, .int 1] (fun (q : Nat) => q) (fun (q : Nat) => [(a, .inr (1, [.int mo, .ref q, .int 0])), rAr cy q 10 (fun _ => none)]) (fun _ => True) 1 10 := by
  refine r_entry (cc := cJx4a65c_grow_92f84) (maxL := 4) (ret := (some (.array (.object "java/lang/Object")))) (by decide +kernel) rfl (Nat.le_of_ble_eq_true rfl) ?_
  intro p e s m args below meth c ls B
  obtain ⟨S, hr, hlocks, hmi, h, hl⟩ := B
  have hx := S.1
  have hb := S.2.1
  have hts := S.2.2.2.2
  have inJx4a65c : ∀ w ∈ wsJx4a65c0, w ∈ wsJx4a65c_grow_92f84 := by decide +kernel
  have hl : lv_has ls 4 [(0, .ref a), (1, .int 1)] := hl
  refine lv_aload_n hx hb dJx4a65c_grow_92f84_0 rfl (lv_at hl 0 rfl) ?_
  refine r_get S h 0 inJx4a65c (ref := "java/util/ArrayList") rfl rfl (k := 1) (by decide) (by decide +kernel) (fun _ h9 => h9) rfl dJx4a65c_grow_92f84_1 ?_
  refine r_alen0 S h dJx4a65c_grow_92f84_4 ?_
  refine lv_istore_n (lv' := [(2, .int 0), (0, .ref a), (1, .int 1)]) hx hb dJx4a65c_grow_92f84_5 rfl hl (by decide) rfl (fun ls hl => ?_)
  refine lv_iload_n hx hb dJx4a65c_grow_92f84_6 rfl (lv_at hl 0 rfl) ?_
  refine lv_if_gt (tgt := 20) hx hb dJx4a65c_grow_92f84_7 (by decide) (fun c1 => absurd c1 (by decide)) (fun c1 => ?_)
  refine lv_aload_n hx hb dJx4a65c_grow_92f84_10 rfl (lv_at hl 1 rfl) ?_
  refine r_get S h 0 inJx4a65c (ref := "java/util/ArrayList") rfl rfl (k := 1) (by decide) (by decide +kernel) (fun _ h9 => h9) rfl dJx4a65c_grow_92f84_11 ?_
  refine r_gets0 S h (by decide +kernel) dJx4a65c_grow_92f84_14 ?_
  refine lv_acmp_eq (rx := some E.1) (ry := some E.1) (tgt := 45) hx hb dJx4a65c_grow_92f84_17 (by decide) (fun c2 => ?_) (fun c2 => absurd rfl c2)
  refine lv_aload_n hx hb dJx4a65c_grow_92f84_45 rfl (lv_at hl 1 rfl) ?_
  refine lv_bipush (v := 10) hx hb dJx4a65c_grow_92f84_46 (by decide) ?_
  refine lv_iload_n hx hb dJx4a65c_grow_92f84_48 rfl (lv_at hl 2 rfl) ?_
  refine va_mmax hx hb (S.2.2.1.trans hl.1.symm) S.2.2.2.1 (hts (.methodLink RJx4a65c 79 Lib.Math.max.name) (by decide +kernel)) (hts (.static Lib.Math.max.name) (by decide +kernel)) (hts (.initialized "java/lang/Math") (by decide +kernel)) (hts (.code Lib.Math.max.name Lib.Math.max.code 2 (some .int)) (by decide +kernel)) (Nat.le_of_ble_eq_true rfl) (Nat.le_of_ble_eq_true rfl) (Nat.zero_le _) (Nat.zero_le _) dJx4a65c_grow_92f84_49 ?_
  refine lv_topi (fun x3 ex3 => ?_)
  obtain rfl : x3 = 10 := by rw [ex3]; decide
  refine r_newq S h (N := 10) (by decide +kernel) (by decide) rfl (by decide) (Nat.le_of_ble_eq_true rfl) (Nat.le_of_ble_eq_true rfl) dJx4a65c_grow_92f84_52 (fun n4 H h => ?_)
  have h : rH D E cy X [(a, .inr (1, [.int mo, .ref E.1, .int 0])), rAr cy n4 10 (fun _ => none)] A s H _ := h
  refine lv_dup_x1 hx hb dJx4a65c_grow_92f84_55 rfl rfl ?_
  refine r_put S h 0 tyJx4a65c tyJx4a65c_ok nmJx4a65c inJx4a65c (ref := "java/util/ArrayList") rfl rfl (k := 1) (by decide) (by decide +kernel) (fun _ h9 => h9) rfl rfl rfl rfl (Nat.le_of_ble_eq_true rfl) dJx4a65c_grow_92f84_56 (fun H locs h => ?_)
  have h : rH D E cy X [(a, .inr (1, [.int mo, .ref n4, .int 0])), rAr cy n4 10 (fun _ => none)] A s H _ := h
  exact r_retr S h (Or.inr ⟨_, rfl⟩) n4 rfl trivial hr hlocks rfl ⟨Nat.le_of_ble_eq_true rfl, Nat.le_of_ble_eq_true rfl⟩ dJx4a65c_grow_92f84_59
set_option maxHeartbeats 4000000 in
set_option maxRecDepth 100000 in
/-- grow() of a new list -/
theorem k_AL_growD (l : Launch) (D : va_G) (E : rEn) (cy : rC) (X : va_W) (A : Nat → Prop) (a : Nat) (mo : Int32) : rMr l yJx4a65c_grow_d5877 wsJx4a65c_grow_d5877 { frames := 2, cells := 1, slots := 10, locals := 47 } D E cy X [(a, .inr (1, [.int mo, .ref E.1, .int 0]))] A [.ref a] (fun (q : Nat) => q) (fun (q : Nat) => [(a, .inr (1, [.int mo, .ref q, .int 0])), rAr cy q 10 (fun _ => none)]) (fun _ => True) 1 10 := by
  refine r_entry (cc := cJx4a65c_grow_d5877) (maxL := 1) (ret := (some (.array (.object "java/lang/Object")))) (by decide +kernel) rfl (Nat.le_of_ble_eq_true rfl) ?_
  intro p e s m args below meth c ls B
  obtain ⟨S, hr, hlocks, hmi, h, hl⟩ := B
  have hx := S.1
  have hb := S.2.1
  have hts := S.2.2.2.2
  have inJx4a65c : ∀ w ∈ wsJx4a65c0, w ∈ wsJx4a65c_grow_d5877 := by decide +kernel
  have hl : lv_has ls 1 [(0, .ref a)] := hl
  refine lv_aload_n hx hb dJx4a65c_grow_d5877_0 rfl (lv_at hl 0 rfl) ?_
  refine lv_aload_n hx hb dJx4a65c_grow_d5877_1 rfl (lv_at hl 0 rfl) ?_
  refine r_get S h 0 inJx4a65c (ref := "java/util/ArrayList") rfl rfl (k := 2) (by decide) (by decide +kernel) (fun _ h9 => h9) rfl dJx4a65c_grow_d5877_2 ?_
  refine lv_iconst (v := 1) hx hb dJx4a65c_grow_d5877_5 (by decide) ?_
  refine lv_iadd hx hb dJx4a65c_grow_d5877_6 ?_
  refine lv_topi (fun x1 ex1 => ?_)
  obtain rfl : x1 = 1 := by rw [ex1]; decide
  refine r_callr S h (k_AL_grow1D l D E cy _ A a mo) (cwV 1 hts gJx4a65c_grow_d5877_Jx4a65c_grow_92f84 rfl rfl rfl (by decide +kernel) ⟨Nat.le_of_ble_eq_true rfl, Nat.le_of_ble_eq_true rfl⟩) (r_preV h [] [0] (wr := []) (wc := [(a, .inr (1, [.int mo, .ref E.1, .int 0]))]) rfl rfl rfl 0 rfl rfl _) rfl hl.1 rfl (Nat.le_of_ble_eq_true rfl) dJx4a65c_grow_d5877_7 ⟨Nat.le_of_ble_eq_true rfl, Nat.le_of_ble_eq_true rfl⟩ (fun u2 H locs k3 h => ?_)
  obtain ⟨n4, rfl⟩ : ∃ z, z = u2 := ⟨_, rfl⟩
  have h : rH D E cy X [(a, .inr (1, [.int mo, .ref n4, .int 0])), rAr cy n4 10 (fun _ => none)] A s H _ := h
  exact r_retr S h (Or.inr ⟨_, rfl⟩) n4 rfl trivial hr hlocks rfl ⟨Nat.le_of_ble_eq_true rfl, Nat.le_of_ble_eq_true rfl⟩ dJx4a65c_grow_d5877_10
set_option maxHeartbeats 4000000 in
set_option maxRecDepth 100000 in
/-- add(v, e, 0) of a new list -/
theorem k_AL_add3D (l : Launch) (D : va_G) (E : rEn) (cy : rC) (X : va_W) (A : Nat → Prop) (a v : Nat) (mo : Int32) (C : String) (hv : rEl E X C v) (hca : ∀ U : State, rS E U → va_Nw (.castable C "java/lang/Object") U) : rMv l yJx4a65c_add_72be8 wsJx4a65c_add_72be8 { frames := 3, cells := 1, slots := 10, locals := 67 } D E cy X [(a, .inr (1, [.int mo, .ref E.1, .int 0]))] A [.ref a, .ref v, .ref E.1, .int 0] (fun (q : Nat) => [(a, .inr (1, [.int mo, .ref q, .int 1])), rAr cy q 10 (va_up (fun _ => none) 0 (some v))]) (fun _ => True) 1 10 := by
  refine r_entry (cc := cJx4a65c_add_72be8) (maxL := 4) (ret := none) (by decide +kernel) rfl (Nat.le_of_ble_eq_true rfl) ?_
  intro p e s m args below meth c ls B
  obtain ⟨S, hr, hlocks, hmi, h, hl⟩ := B
  have hx := S.1
  have hb := S.2.1
  have hts := S.2.2.2.2
  have inJx4a65c : ∀ w ∈ wsJx4a65c0, w ∈ wsJx4a65c_add_72be8 := by decide +kernel
  have hl : lv_has ls 4 [(0, .ref a), (1, .ref v), (2, .ref E.1), (3, .int 0)] := hl
  refine lv_iload_n hx hb dJx4a65c_add_72be8_0 rfl (lv_at hl 3 rfl) ?_
  refine lv_aload_n hx hb dJx4a65c_add_72be8_1 rfl (lv_at hl 2 rfl) ?_
  refine r_alen0 S h dJx4a65c_add_72be8_2 ?_
  refine lv_icmp_ne (tgt := 11) hx hb dJx4a65c_add_72be8_3 (by decide) (fun c1 => absurd (by decide) c1) (fun c1 => ?_)
  refine lv_aload_n hx hb dJx4a65c_add_72be8_6 rfl (lv_at hl 0 rfl) ?_
  refine r_callr S h (k_AL_growD l D E cy _ A a mo) (cwV 0 hts gJx4a65c_add_72be8_Jx4a65c_grow_d5877 rfl rfl rfl (by decide +kernel) ⟨Nat.le_of_ble_eq_true rfl, Nat.le_of_ble_eq_true rfl⟩) (r_preV h [] [0] (wr := []) (wc := [(a, .inr (1, [.int mo, .ref E.1, .int 0]))]) rfl rfl rfl 0 rfl rfl _) rfl hl.1 rfl (Nat.le_of_ble_eq_true rfl) dJx4a65c_add_72be8_7 ⟨Nat.le_of_ble_eq_true rfl, Nat.le_of_ble_eq_true rfl⟩ (fun u2 H locs k3 h => ?_)
  obtain ⟨n4, rfl⟩ : ∃ z, z = u2 := ⟨_, rfl⟩
  have h : rH D E cy X [(a, .inr (1, [.int mo, .ref n4, .int 0])), rAr cy n4 10 (fun _ => none)] A s H _ := h
  refine lv_astore_n (lv' := [(2, .ref n4), (0, .ref a), (1, .ref v), (3, .int 0)]) hx hb dJx4a65c_add_72be8_10 rfl hl (by decide) rfl (fun ls hl => ?_)
  refine lv_aload_n hx hb dJx4a65c_add_72be8_11 rfl (lv_at hl 0 rfl) ?_
  refine lv_iload_n hx hb dJx4a65c_add_72be8_12 rfl (lv_at hl 3 rfl) ?_
  refine lv_aload_n hx hb dJx4a65c_add_72be8_13 rfl (lv_at hl 2 rfl) ?_
  refine r_aast S h 1 rfl hv (hca s h.2.2.2.1.2) (by unfold vp_in; decide) dJx4a65c_add_72be8_14 (fun H locs h => ?_)
  have h : rH D E cy X [(a, .inr (1, [.int mo, .ref n4, .int 0])), rAr cy n4 10 (va_up (fun _ => none) 0 (some v))] A s H _ := h
  refine lv_aload_n hx hb dJx4a65c_add_72be8_15 rfl (lv_at hl 1 rfl) ?_
  refine lv_iload_n hx hb dJx4a65c_add_72be8_16 rfl (lv_at hl 3 rfl) ?_
  refine lv_iconst (v := 1) hx hb dJx4a65c_add_72be8_17 (by decide) ?_
  refine lv_iadd hx hb dJx4a65c_add_72be8_18 ?_
  refine lv_topi (fun x5 ex5 => ?_)
  obtain rfl : x5 = 1 := by rw [ex5]; decide
  refine r_put S h 0 tyJx4a65c tyJx4a65c_ok nmJx4a65c inJx4a65c (ref := "java/util/ArrayList") rfl rfl (k := 2) (by decide) (by decide +kernel) (fun _ h9 => h9) rfl rfl rfl rfl (Nat.le_of_ble_eq_true rfl) dJx4a65c_add_72be8_19 (fun H locs h => ?_)
  have h : rH D E cy X [(a, .inr (1, [.int mo, .ref n4, .int 1])), rAr cy n4 10 (va_up (fun _ => none) 0 (some v))] A s H _ := h
  exact r_retv S h n4 rfl trivial hr hlocks ⟨Nat.le_of_ble_eq_true rfl, Nat.le_of_ble_eq_true rfl⟩ dJx4a65c_add_72be8_22
set_option maxHeartbeats 4000000 in
set_option maxRecDepth 100000 in
/-- add(v) of a new list -/
theorem k_AL_addD (l : Launch) (D : va_G) (E : rEn) (cy : rC) (X : va_W) (A : Nat → Prop) (a v : Nat) (C : String) (hv : rEl E X C v) (hca : ∀ U : State, rS E U → va_Nw (.castable C "java/lang/Object") U) : rMi l yJx4a65c_add_9ea2d wsJx4a65c_add_9ea2d { frames := 4, cells := 1, slots := 10, locals := 90 } D E cy X [(a, .inr (1, [.int 0, .ref E.1, .int 0]))] A [.ref a, .ref v] 1 (fun (q : Nat) => [(a, .inr (1, [.int 1, .ref q, .int 1])), rAr cy q 10 (va_up (fun _ => none) 0 (some v))]) (fun _ => True) 1 10 := by
  refine r_entry (cc := cJx4a65c_add_9ea2d) (maxL := 2) (ret := (some .boolean)) (by decide +kernel) rfl (Nat.le_of_ble_eq_true rfl) ?_
  intro p e s m args below meth c ls B
  obtain ⟨S, hr, hlocks, hmi, h, hl⟩ := B
  have hx := S.1
  have hb := S.2.1
  have hts := S.2.2.2.2
  have inJx4a65c : ∀ w ∈ wsJx4a65c0, w ∈ wsJx4a65c_add_9ea2d := by decide +kernel
  have hl : lv_has ls 2 [(0, .ref a), (1, .ref v)] := hl
  refine lv_aload_n hx hb dJx4a65c_add_9ea2d_0 rfl (lv_at hl 0 rfl) ?_
  refine lv_dup hx hb dJx4a65c_add_9ea2d_1 rfl ?_
  refine r_get S h 0 inJx4a65c (ref := "java/util/ArrayList") rfl rfl (k := 0) (by decide) (by decide +kernel) (fun x9 h9 => u_same (hts (.sameField "java/util/ArrayList" "java/util/AbstractList" "modCount" "I") (by decide +kernel)) x9 h9) rfl dJx4a65c_add_9ea2d_2 ?_
  refine lv_iconst (v := 1) hx hb dJx4a65c_add_9ea2d_5 (by decide) ?_
  refine lv_iadd hx hb dJx4a65c_add_9ea2d_6 ?_
  refine lv_topi (fun x1 ex1 => ?_)
  obtain rfl : x1 = 1 := by rw [ex1]; decide
  refine r_put S h 0 tyJx4a65c tyJx4a65c_ok nmJx4a65c inJx4a65c (ref := "java/util/ArrayList") rfl rfl (k := 0) (by decide) (by decide +kernel) (fun x9 h9 => u_same (hts (.sameField "java/util/ArrayList" "java/util/AbstractList" "modCount" "I") (by decide +kernel)) x9 h9) rfl rfl rfl rfl (Nat.le_of_ble_eq_true rfl) dJx4a65c_add_9ea2d_7 (fun H locs h => ?_)
  have h : rH D E cy X [(a, .inr (1, [.int 1, .ref E.1, .int 0]))] A s H _ := h
  refine lv_aload_n hx hb dJx4a65c_add_9ea2d_10 rfl (lv_at hl 0 rfl) ?_
  refine lv_aload_n hx hb dJx4a65c_add_9ea2d_11 rfl (lv_at hl 1 rfl) ?_
  refine lv_aload_n hx hb dJx4a65c_add_9ea2d_12 rfl (lv_at hl 0 rfl) ?_
  refine r_get S h 0 inJx4a65c (ref := "java/util/ArrayList") rfl rfl (k := 1) (by decide) (by decide +kernel) (fun _ h9 => h9) rfl dJx4a65c_add_9ea2d_13 ?_
  refine lv_aload_n hx hb dJx4a65c_add_9ea2d_16 rfl (lv_at hl 0 rfl) ?_
  refine r_get S h 0 inJx4a65c (ref := "java/util/ArrayList") rfl rfl (k := 2) (by decide) (by decide +kernel) (fun _ h9 => h9) rfl dJx4a65c_add_9ea2d_17 ?_
  refine r_callv S h (k_AL_add3D l D E cy _ A a v 1 C hv.app hca) (cwV 3 hts gJx4a65c_add_9ea2d_Jx4a65c_add_72be8 rfl rfl rfl (by decide +kernel) ⟨Nat.le_of_ble_eq_true rfl, Nat.le_of_ble_eq_true rfl⟩) (r_preV h [] [0] (wr := []) (wc := [(a, .inr (1, [.int 1, .ref E.1, .int 0]))]) rfl rfl rfl 0 rfl rfl _) rfl hl.1 rfl (Nat.le_of_ble_eq_true rfl) dJx4a65c_add_9ea2d_20 ⟨Nat.le_of_ble_eq_true rfl, Nat.le_of_ble_eq_true rfl⟩ (fun u2 H locs k3 h => ?_)
  obtain ⟨n4, rfl⟩ : ∃ z, z = u2 := ⟨_, rfl⟩
  have h : rH D E cy X [(a, .inr (1, [.int 1, .ref n4, .int 1])), rAr cy n4 10 (va_up (fun _ => none) 0 (some v))] A s H _ := h
  refine lv_iconst (v := 1) hx hb dJx4a65c_add_9ea2d_23 (by decide) ?_
  exact r_reti S h n4 rfl trivial hr hlocks rfl (rfl) ⟨Nat.le_of_ble_eq_true rfl, Nat.le_of_ble_eq_true rfl⟩ dJx4a65c_add_9ea2d_24
set_option maxHeartbeats 4000000 in
set_option maxRecDepth 100000 in
/-- Worker() -/
theorem k_X9_init (l : Launch) (D : va_G) (E : rEn) (cy : rC) (X : va_W) (A : Nat → Prop) (a : Nat) : rMv l yX9_init wsX9_init { frames := 4, cells := 4, slots := 12, locals := 72 } D E cy X [(a, .inr (11, [.null, .null, .null, .null]))] A [.ref a] (fun (z : Nat × Nat × Nat × Nat) => [(a, .inr (11, [.ref z.1, .ref z.2.1, .ref z.2.2.1, .ref z.2.2.2])), (z.1, .inr (1, [.int 0, .ref E.1, .int 0])), (z.2.1, .inr (1, [.int 0, .ref E.1, .int 0])), rAi cy z.2.2.1 3 (fun _ => 0), (z.2.2.2, .inr (1, [.int 0, .ref E.1, .int 0]))]) (fun _ => True) 4 12 := by
  refine r_entry (cc := cX9_init) (maxL := 1) (ret := none) (by decide +kernel) rfl (Nat.le_of_ble_eq_true rfl) ?_
  intro p e s m args below meth c ls B
  obtain ⟨S, hr, hlocks, hmi, h, hl⟩ := B
  have hx := S.1
  have hb := S.2.1
  have hts := S.2.2.2.2
  have inJx4a65c : ∀ w ∈ wsJx4a65c0, w ∈ wsX9_init := by decide +kernel
  have inX9 : ∀ w ∈ wsX90, w ∈ wsX9_init := by decide +kernel
  have hl : lv_has ls 1 [(0, .ref a)] := hl
  refine lv_aload_n hx hb dX9_init_0 rfl (lv_at hl 0 rfl) ?_
  refine W.objInit hx hb S.2.2.2.1 (hts (.methodLink RX9 3 objectInit) (by decide +kernel)) (hts (.instanceMethod objectInit) (by decide +kernel)) (hts (.code objectInit ⟨#[0xb1]⟩ 1 none) (by decide +kernel)) rfl (by rw [S.2.2.1]; exact hl.1) rfl dX9_init_1 (Nat.le_of_ble_eq_true rfl) (Nat.le_of_ble_eq_true rfl) ?_
  refine W.eq (g2 := F0 m 4 ls []) rfl ?_
  refine lv_aload_n hx hb dX9_init_4 rfl (lv_at hl 0 rfl) ?_
  refine r_new S h (ci := 1) (C := RJx4a65c) (T := TJx4a65c) (N := 3) (fs := [.int 0, .null, .int 0]) tyJx4a65c tyJx4a65c_ok inJx4a65c (by decide +kernel) (by decide +kernel) (by decide +kernel) rfl (fun j hj => by rcases (show j = 0 ∨ j = 1 ∨ j = 2 by omega) with rfl | rfl | rfl <;> rfl) (Nat.le_of_ble_eq_true rfl) (Nat.le_of_ble_eq_true rfl) dX9_init_5 (fun n1 H h => ?_)
  have h : rH D E cy X [(a, .inr (11, [.null, .null, .null, .null])), (n1, .inr (1, [.int 0, .null, .int 0]))] A s H _ := h
  refine lv_dup hx hb dX9_init_8 rfl ?_
  refine r_callI S h (k_AL_init l D E cy _ A n1) (cwI 0 hts gX9_init_Jx4a65c_init_da8c8 rfl rfl rfl (hts (.initialized RJx4a65c) (by decide +kernel)) (hts (.methodLink RX9 11 yJx4a65c_init_da8c8) (by decide +kernel)) (hts (.instanceMethod yJx4a65c_init_da8c8) (by decide +kernel)) rfl (by decide +kernel) ⟨Nat.le_of_ble_eq_true rfl, Nat.le_of_ble_eq_true rfl⟩) (r_preS h [0] [1] (wr := [(a, .inr (11, [.null, .null, .null, .null]))]) (wc := [(n1, .inr (1, [.int 0, .null, .int 0]))]) rfl rfl rfl _) rfl hl.1 rfl (Nat.le_of_ble_eq_true rfl) dX9_init_9 ⟨Nat.le_of_ble_eq_true rfl, Nat.le_of_ble_eq_true rfl⟩ (fun u2 H locs k3 h => ?_)
  have h : rH D E cy X [(a, .inr (11, [.null, .null, .null, .null])), (n1, .inr (1, [.int 0, .ref E.1, .int 0]))] A s H _ := h
  refine r_put S h 0 tyX9 tyX9_ok nmX9 inX9 (ref := "BobbinPoolModel$Worker") rfl rfl (k := 0) (by decide) (by decide +kernel) (fun _ h9 => h9) rfl rfl rfl rfl (Nat.le_of_ble_eq_true rfl) dX9_init_12 (fun H locs h => ?_)
  have h : rH D E cy X [(a, .inr (11, [.ref n1, .null, .null, .null])), (n1, .inr (1, [.int 0, .ref E.1, .int 0]))] A s H _ := h
  refine lv_aload_n hx hb dX9_init_15 rfl (lv_at hl 0 rfl) ?_
  refine r_new S h (ci := 1) (C := RJx4a65c) (T := TJx4a65c) (N := 3) (fs := [.int 0, .null, .int 0]) tyJx4a65c tyJx4a65c_ok inJx4a65c (by decide +kernel) (by decide +kernel) (by decide +kernel) rfl (fun j hj => by rcases (show j = 0 ∨ j = 1 ∨ j = 2 by omega) with rfl | rfl | rfl <;> rfl) (Nat.le_of_ble_eq_true rfl) (Nat.le_of_ble_eq_true rfl) dX9_init_16 (fun n4 H h => ?_)
  have h : rH D E cy X [(a, .inr (11, [.ref n1, .null, .null, .null])), (n1, .inr (1, [.int 0, .ref E.1, .int 0])), (n4, .inr (1, [.int 0, .null, .int 0]))] A s H _ := h
  refine lv_dup hx hb dX9_init_19 rfl ?_
  refine r_callI S h (k_AL_init l D E cy _ A n4) (cwI 0 hts gX9_init_Jx4a65c_init_da8c8 rfl rfl rfl (hts (.initialized RJx4a65c) (by decide +kernel)) (hts (.methodLink RX9 11 yJx4a65c_init_da8c8) (by decide +kernel)) (hts (.instanceMethod yJx4a65c_init_da8c8) (by decide +kernel)) rfl (by decide +kernel) ⟨Nat.le_of_ble_eq_true rfl, Nat.le_of_ble_eq_true rfl⟩) (r_preS h [0, 1] [2] (wr := [(a, .inr (11, [.ref n1, .null, .null, .null])), (n1, .inr (1, [.int 0, .ref E.1, .int 0]))]) (wc := [(n4, .inr (1, [.int 0, .null, .int 0]))]) rfl rfl rfl _) rfl hl.1 rfl (Nat.le_of_ble_eq_true rfl) dX9_init_20 ⟨Nat.le_of_ble_eq_true rfl, Nat.le_of_ble_eq_true rfl⟩ (fun u5 H locs k6 h => ?_)
  have h : rH D E cy X [(a, .inr (11, [.ref n1, .null, .null, .null])), (n1, .inr (1, [.int 0, .ref E.1, .int 0])), (n4, .inr (1, [.int 0, .ref E.1, .int 0]))] A s H _ := h
  refine r_put S h 0 tyX9 tyX9_ok nmX9 inX9 (ref := "BobbinPoolModel$Worker") rfl rfl (k := 1) (by decide) (by decide +kernel) (fun _ h9 => h9) rfl rfl rfl rfl (Nat.le_of_ble_eq_true rfl) dX9_init_23 (fun H locs h => ?_)
  have h : rH D E cy X [(a, .inr (11, [.ref n1, .ref n4, .null, .null])), (n1, .inr (1, [.int 0, .ref E.1, .int 0])), (n4, .inr (1, [.int 0, .ref E.1, .int 0]))] A s H _ := h
  refine lv_aload_n hx hb dX9_init_26 rfl (lv_at hl 0 rfl) ?_
  refine lv_iconst (v := 3) hx hb dX9_init_27 (by decide) ?_
  refine r_newa S h (N := 3) (by decide +kernel) (by decide) rfl (by decide) (Nat.le_of_ble_eq_true rfl) (Nat.le_of_ble_eq_true rfl) dX9_init_28 (fun n7 H h => ?_)
  have h : rH D E cy X [(a, .inr (11, [.ref n1, .ref n4, .null, .null])), (n1, .inr (1, [.int 0, .ref E.1, .int 0])), (n4, .inr (1, [.int 0, .ref E.1, .int 0])), rAi cy n7 3 (fun _ => 0)] A s H _ := h
  refine r_put S h 0 tyX9 tyX9_ok nmX9 inX9 (ref := "BobbinPoolModel$Worker") rfl rfl (k := 2) (by decide) (by decide +kernel) (fun _ h9 => h9) rfl rfl rfl rfl (Nat.le_of_ble_eq_true rfl) dX9_init_30 (fun H locs h => ?_)
  have h : rH D E cy X [(a, .inr (11, [.ref n1, .ref n4, .ref n7, .null])), (n1, .inr (1, [.int 0, .ref E.1, .int 0])), (n4, .inr (1, [.int 0, .ref E.1, .int 0])), rAi cy n7 3 (fun _ => 0)] A s H _ := h
  refine lv_aload_n hx hb dX9_init_33 rfl (lv_at hl 0 rfl) ?_
  refine r_new S h (ci := 1) (C := RJx4a65c) (T := TJx4a65c) (N := 3) (fs := [.int 0, .null, .int 0]) tyJx4a65c tyJx4a65c_ok inJx4a65c (by decide +kernel) (by decide +kernel) (by decide +kernel) rfl (fun j hj => by rcases (show j = 0 ∨ j = 1 ∨ j = 2 by omega) with rfl | rfl | rfl <;> rfl) (Nat.le_of_ble_eq_true rfl) (Nat.le_of_ble_eq_true rfl) dX9_init_34 (fun n8 H h => ?_)
  have h : rH D E cy X [(a, .inr (11, [.ref n1, .ref n4, .ref n7, .null])), (n1, .inr (1, [.int 0, .ref E.1, .int 0])), (n4, .inr (1, [.int 0, .ref E.1, .int 0])), rAi cy n7 3 (fun _ => 0), (n8, .inr (1, [.int 0, .null, .int 0]))] A s H _ := h
  refine lv_dup hx hb dX9_init_37 rfl ?_
  refine r_callI S h (k_AL_init l D E cy _ A n8) (cwI 0 hts gX9_init_Jx4a65c_init_da8c8 rfl rfl rfl (hts (.initialized RJx4a65c) (by decide +kernel)) (hts (.methodLink RX9 11 yJx4a65c_init_da8c8) (by decide +kernel)) (hts (.instanceMethod yJx4a65c_init_da8c8) (by decide +kernel)) rfl (by decide +kernel) ⟨Nat.le_of_ble_eq_true rfl, Nat.le_of_ble_eq_true rfl⟩) (r_preS h [0, 1, 2, 3] [4] (wr := [(a, .inr (11, [.ref n1, .ref n4, .ref n7, .null])), (n1, .inr (1, [.int 0, .ref E.1, .int 0])), (n4, .inr (1, [.int 0, .ref E.1, .int 0])), rAi cy n7 3 (fun _ => 0)]) (wc := [(n8, .inr (1, [.int 0, .null, .int 0]))]) rfl rfl rfl _) rfl hl.1 rfl (Nat.le_of_ble_eq_true rfl) dX9_init_38 ⟨Nat.le_of_ble_eq_true rfl, Nat.le_of_ble_eq_true rfl⟩ (fun u9 H locs k10 h => ?_)
  have h : rH D E cy X [(a, .inr (11, [.ref n1, .ref n4, .ref n7, .null])), (n1, .inr (1, [.int 0, .ref E.1, .int 0])), (n4, .inr (1, [.int 0, .ref E.1, .int 0])), rAi cy n7 3 (fun _ => 0), (n8, .inr (1, [.int 0, .ref E.1, .int 0]))] A s H _ := h
  refine r_put S h 0 tyX9 tyX9_ok nmX9 inX9 (ref := "BobbinPoolModel$Worker") rfl rfl (k := 3) (by decide) (by decide +kernel) (fun _ h9 => h9) rfl rfl rfl rfl (Nat.le_of_ble_eq_true rfl) dX9_init_41 (fun H locs h => ?_)
  have h : rH D E cy X [(a, .inr (11, [.ref n1, .ref n4, .ref n7, .ref n8])), (n1, .inr (1, [.int 0, .ref E.1, .int 0])), (n4, .inr (1, [.int 0, .ref E.1, .int 0])), rAi cy n7 3 (fun _ => 0), (n8, .inr (1, [.int 0, .ref E.1, .int 0]))] A s H _ := h
  exact r_retv S h (n1, n4, n7, n8) rfl trivial hr hlocks ⟨Nat.le_of_ble_eq_true rfl, Nat.le_of_ble_eq_true rfl⟩ dX9_init_44
/-- the promises of a new pool -/
def rPr : Nat → Int32 := upd (upd (upd (upd (upd (upd (fun _ => 0) 0 (-1000000)) 1 (-1000000)) 2 (-1000000)) 3 (-1000000)) 4 (-1000000)) 5 (-1000000)
set_option maxHeartbeats 4000000 in
set_option maxRecDepth 100000 in
/-- Pool(scripts, 1) -/
theorem k_X7_init1 (l : Launch) (D : va_G) (E : rEn) (cy : rC) (X : va_W) (A : Nat → Prop) (a sc : Nat) : rMv l yX7_init wsX7_init { frames := 5, cells := 10, slots := 46, locals := 111 } D E cy X [(a, .inr (9, [.null, .null, .null, .null, .null, .int 0, .int 0, .int 0]))] A [.ref a, .ref sc, .int 1] (fun (z : Nat × Nat × Nat × Nat × Nat × Nat × Nat × Nat × Nat × Nat) => [(a, .inr (9, [.ref sc, .ref z.1, .ref z.2.2.2.2.2.2.2.2.1, .ref z.2.1, .ref z.2.2.1, .int 0, .int 0, .int 0])), (z.1, .inr (1, [.int 0, .ref E.1, .int 0])), (z.2.1, .inr (1, [.int 0, .ref E.1, .int 0])), rAi cy z.2.2.1 6 rPr, (z.2.2.2.1, .inr (11, [.ref z.2.2.2.2.1, .ref z.2.2.2.2.2.1, .ref z.2.2.2.2.2.2.1, .ref z.2.2.2.2.2.2.2.1])), (z.2.2.2.2.1, .inr (1, [.int 0, .ref E.1, .int 0])), (z.2.2.2.2.2.1, .inr (1, [.int 0, .ref E.1, .int 0])), rAi cy z.2.2.2.2.2.2.1 3 (fun _ => 0), (z.2.2.2.2.2.2.2.1, .inr (1, [.int 0, .ref E.1, .int 0])), (z.2.2.2.2.2.2.2.2.1, .inr (1, [.int 1, .ref z.2.2.2.2.2.2.2.2.2, .int 1])), rAr cy z.2.2.2.2.2.2.2.2.2 10 (va_up (fun _ => none) 0 (some z.2.2.2.1))]) (fun _ => True) 10 46 := by
  refine r_entry (cc := cX7_init) (maxL := 4) (ret := none) (by decide +kernel) rfl (Nat.le_of_ble_eq_true rfl) ?_
  intro p e s m args below meth c ls B
  obtain ⟨S, hr, hlocks, hmi, h, hl⟩ := B
  have hx := S.1
  have hb := S.2.1
  have hts := S.2.2.2.2
  have inJx4a65c : ∀ w ∈ wsJx4a65c0, w ∈ wsX7_init := by decide +kernel
  have inX7 : ∀ w ∈ wsX70, w ∈ wsX7_init := by decide +kernel
  have inX9 : ∀ w ∈ wsX90, w ∈ wsX7_init := by decide +kernel
  have hl : lv_has ls 4 [(0, .ref a), (1, .ref sc), (2, .int 1)] := hl
  refine lv_aload_n hx hb dX7_init_0 rfl (lv_at hl 0 rfl) ?_
  refine W.objInit hx hb S.2.2.2.1 (hts (.methodLink RX7 3 objectInit) (by decide +kernel)) (hts (.instanceMethod objectInit) (by decide +kernel)) (hts (.code objectInit ⟨#[0xb1]⟩ 1 none) (by decide +kernel)) rfl (by rw [S.2.2.1]; exact hl.1) rfl dX7_init_1 (Nat.le_of_ble_eq_true rfl) (Nat.le_of_ble_eq_true rfl) ?_
  refine W.eq (g2 := F0 m 4 ls []) rfl ?_
  refine lv_aload_n hx hb dX7_init_4 rfl (lv_at hl 0 rfl) ?_
  refine r_new S h (ci := 1) (C := RJx4a65c) (T := TJx4a65c) (N := 3) (fs := [.int 0, .null, .int 0]) tyJx4a65c tyJx4a65c_ok inJx4a65c (by decide +kernel) (by decide +kernel) (by decide +kernel) rfl (fun j hj => by rcases (show j = 0 ∨ j = 1 ∨ j = 2 by omega) with rfl | rfl | rfl <;> rfl) (Nat.le_of_ble_eq_true rfl) (Nat.le_of_ble_eq_true rfl) dX7_init_5 (fun n1 H h => ?_)
  have h : rH D E cy X [(a, .inr (9, [.null, .null, .null, .null, .null, .int 0, .int 0, .int 0])), (n1, .inr (1, [.int 0, .null, .int 0]))] A s H _ := h
  refine lv_dup hx hb dX7_init_8 rfl ?_
  refine r_callI S h (k_AL_init l D E cy _ A n1) (cwI 0 hts gX7_init_Jx4a65c_init_da8c8 rfl rfl rfl (hts (.initialized RJx4a65c) (by decide +kernel)) (hts (.methodLink RX7 11 yJx4a65c_init_da8c8) (by decide +kernel)) (hts (.instanceMethod yJx4a65c_init_da8c8) (by decide +kernel)) rfl (by decide +kernel) ⟨Nat.le_of_ble_eq_true rfl, Nat.le_of_ble_eq_true rfl⟩) (r_preS h [0] [1] (wr := [(a, .inr (9, [.null, .null, .null, .null, .null, .int 0, .int 0, .int 0]))]) (wc := [(n1, .inr (1, [.int 0, .null, .int 0]))]) rfl rfl rfl _) rfl hl.1 rfl (Nat.le_of_ble_eq_true rfl) dX7_init_9 ⟨Nat.le_of_ble_eq_true rfl, Nat.le_of_ble_eq_true rfl⟩ (fun u2 H locs k3 h => ?_)
  have h : rH D E cy X [(a, .inr (9, [.null, .null, .null, .null, .null, .int 0, .int 0, .int 0])), (n1, .inr (1, [.int 0, .ref E.1, .int 0]))] A s H _ := h
  refine r_putF S h 0 tyX7 tyX7_ok nmX7 inX7 rfl rfl (k := 1) (by decide) (by decide +kernel) rfl hmi rfl rfl rfl rfl (Nat.le_of_ble_eq_true rfl) dX7_init_12 (fun H locs h => ?_)
  have h : rH D E cy X [(a, .inr (9, [.null, .ref n1, .null, .null, .null, .int 0, .int 0, .int 0])), (n1, .inr (1, [.int 0, .ref E.1, .int 0]))] A s H _ := h
  refine lv_aload_n hx hb dX7_init_15 rfl (lv_at hl 0 rfl) ?_
  refine r_new S h (ci := 1) (C := RJx4a65c) (T := TJx4a65c) (N := 3) (fs := [.int 0, .null, .int 0]) tyJx4a65c tyJx4a65c_ok inJx4a65c (by decide +kernel) (by decide +kernel) (by decide +kernel) rfl (fun j hj => by rcases (show j = 0 ∨ j = 1 ∨ j = 2 by omega) with rfl | rfl | rfl <;> rfl) (Nat.le_of_ble_eq_true rfl) (Nat.le_of_ble_eq_true rfl) dX7_init_16 (fun n4 H h => ?_)
  have h : rH D E cy X [(a, .inr (9, [.null, .ref n1, .null, .null, .null, .int 0, .int 0, .int 0])), (n1, .inr (1, [.int 0, .ref E.1, .int 0])), (n4, .inr (1, [.int 0, .null, .int 0]))] A s H _ := h
  refine lv_dup hx hb dX7_init_19 rfl ?_
  refine r_callI S h (k_AL_init l D E cy _ A n4) (cwI 0 hts gX7_init_Jx4a65c_init_da8c8 rfl rfl rfl (hts (.initialized RJx4a65c) (by decide +kernel)) (hts (.methodLink RX7 11 yJx4a65c_init_da8c8) (by decide +kernel)) (hts (.instanceMethod yJx4a65c_init_da8c8) (by decide +kernel)) rfl (by decide +kernel) ⟨Nat.le_of_ble_eq_true rfl, Nat.le_of_ble_eq_true rfl⟩) (r_preS h [0, 1] [2] (wr := [(a, .inr (9, [.null, .ref n1, .null, .null, .null, .int 0, .int 0, .int 0])), (n1, .inr (1, [.int 0, .ref E.1, .int 0]))]) (wc := [(n4, .inr (1, [.int 0, .null, .int 0]))]) rfl rfl rfl _) rfl hl.1 rfl (Nat.le_of_ble_eq_true rfl) dX7_init_20 ⟨Nat.le_of_ble_eq_true rfl, Nat.le_of_ble_eq_true rfl⟩ (fun u5 H locs k6 h => ?_)
  have h : rH D E cy X [(a, .inr (9, [.null, .ref n1, .null, .null, .null, .int 0, .int 0, .int 0])), (n1, .inr (1, [.int 0, .ref E.1, .int 0])), (n4, .inr (1, [.int 0, .ref E.1, .int 0]))] A s H _ := h
  refine r_putF S h 0 tyX7 tyX7_ok nmX7 inX7 rfl rfl (k := 2) (by decide) (by decide +kernel) rfl hmi rfl rfl rfl rfl (Nat.le_of_ble_eq_true rfl) dX7_init_23 (fun H locs h => ?_)
  have h : rH D E cy X [(a, .inr (9, [.null, .ref n1, .ref n4, .null, .null, .int 0, .int 0, .int 0])), (n1, .inr (1, [.int 0, .ref E.1, .int 0])), (n4, .inr (1, [.int 0, .ref E.1, .int 0]))] A s H _ := h
  refine lv_aload_n hx hb dX7_init_26 rfl (lv_at hl 0 rfl) ?_
  refine r_new S h (ci := 1) (C := RJx4a65c) (T := TJx4a65c) (N := 3) (fs := [.int 0, .null, .int 0]) tyJx4a65c tyJx4a65c_ok inJx4a65c (by decide +kernel) (by decide +kernel) (by decide +kernel) rfl (fun j hj => by rcases (show j = 0 ∨ j = 1 ∨ j = 2 by omega) with rfl | rfl | rfl <;> rfl) (Nat.le_of_ble_eq_true rfl) (Nat.le_of_ble_eq_true rfl) dX7_init_27 (fun n7 H h => ?_)
  have h : rH D E cy X [(a, .inr (9, [.null, .ref n1, .ref n4, .null, .null, .int 0, .int 0, .int 0])), (n1, .inr (1, [.int 0, .ref E.1, .int 0])), (n4, .inr (1, [.int 0, .ref E.1, .int 0])), (n7, .inr (1, [.int 0, .null, .int 0]))] A s H _ := h
  refine lv_dup hx hb dX7_init_30 rfl ?_
  refine r_callI S h (k_AL_init l D E cy _ A n7) (cwI 0 hts gX7_init_Jx4a65c_init_da8c8 rfl rfl rfl (hts (.initialized RJx4a65c) (by decide +kernel)) (hts (.methodLink RX7 11 yJx4a65c_init_da8c8) (by decide +kernel)) (hts (.instanceMethod yJx4a65c_init_da8c8) (by decide +kernel)) rfl (by decide +kernel) ⟨Nat.le_of_ble_eq_true rfl, Nat.le_of_ble_eq_true rfl⟩) (r_preS h [0, 1, 2] [3] (wr := [(a, .inr (9, [.null, .ref n1, .ref n4, .null, .null, .int 0, .int 0, .int 0])), (n1, .inr (1, [.int 0, .ref E.1, .int 0])), (n4, .inr (1, [.int 0, .ref E.1, .int 0]))]) (wc := [(n7, .inr (1, [.int 0, .null, .int 0]))]) rfl rfl rfl _) rfl hl.1 rfl (Nat.le_of_ble_eq_true rfl) dX7_init_31 ⟨Nat.le_of_ble_eq_true rfl, Nat.le_of_ble_eq_true rfl⟩ (fun u8 H locs k9 h => ?_)
  have h : rH D E cy X [(a, .inr (9, [.null, .ref n1, .ref n4, .null, .null, .int 0, .int 0, .int 0])), (n1, .inr (1, [.int 0, .ref E.1, .int 0])), (n4, .inr (1, [.int 0, .ref E.1, .int 0])), (n7, .inr (1, [.int 0, .ref E.1, .int 0]))] A s H _ := h
  refine r_put S h 0 tyX7 tyX7_ok nmX7 inX7 (ref := "BobbinPoolModel$Pool") rfl rfl (k := 3) (by decide) (by decide +kernel) (fun _ h9 => h9) rfl rfl rfl rfl (Nat.le_of_ble_eq_true rfl) dX7_init_34 (fun H locs h => ?_)
  have h : rH D E cy X [(a, .inr (9, [.null, .ref n1, .ref n4, .ref n7, .null, .int 0, .int 0, .int 0])), (n1, .inr (1, [.int 0, .ref E.1, .int 0])), (n4, .inr (1, [.int 0, .ref E.1, .int 0])), (n7, .inr (1, [.int 0, .ref E.1, .int 0]))] A s H _ := h
  refine lv_aload_n hx hb dX7_init_37 rfl (lv_at hl 0 rfl) ?_
  refine lv_bipush (v := 6) hx hb dX7_init_38 (by decide) ?_
  refine r_newa S h (N := 6) (by decide +kernel) (by decide) rfl (by decide) (Nat.le_of_ble_eq_true rfl) (Nat.le_of_ble_eq_true rfl) dX7_init_40 (fun n10 H h => ?_)
  have h : rH D E cy X [(a, .inr (9, [.null, .ref n1, .ref n4, .ref n7, .null, .int 0, .int 0, .int 0])), (n1, .inr (1, [.int 0, .ref E.1, .int 0])), (n4, .inr (1, [.int 0, .ref E.1, .int 0])), (n7, .inr (1, [.int 0, .ref E.1, .int 0])), rAi cy n10 6 (fun _ => 0)] A s H _ := h
  refine r_put S h 0 tyX7 tyX7_ok nmX7 inX7 (ref := "BobbinPoolModel$Pool") rfl rfl (k := 4) (by decide) (by decide +kernel) (fun _ h9 => h9) rfl rfl rfl rfl (Nat.le_of_ble_eq_true rfl) dX7_init_42 (fun H locs h => ?_)
  have h : rH D E cy X [(a, .inr (9, [.null, .ref n1, .ref n4, .ref n7, .ref n10, .int 0, .int 0, .int 0])), (n1, .inr (1, [.int 0, .ref E.1, .int 0])), (n4, .inr (1, [.int 0, .ref E.1, .int 0])), (n7, .inr (1, [.int 0, .ref E.1, .int 0])), rAi cy n10 6 (fun _ => 0)] A s H _ := h
  refine lv_aload_n hx hb dX7_init_45 rfl (lv_at hl 0 rfl) ?_
  refine lv_aload_n hx hb dX7_init_46 rfl (lv_at hl 1 rfl) ?_
  refine r_putF S h 0 tyX7 tyX7_ok nmX7 inX7 rfl rfl (k := 0) (by decide) (by decide +kernel) rfl hmi rfl rfl rfl rfl (Nat.le_of_ble_eq_true rfl) dX7_init_47 (fun H locs h => ?_)
  have h : rH D E cy X [(a, .inr (9, [.ref sc, .ref n1, .ref n4, .ref n7, .ref n10, .int 0, .int 0, .int 0])), (n1, .inr (1, [.int 0, .ref E.1, .int 0])), (n4, .inr (1, [.int 0, .ref E.1, .int 0])), (n7, .inr (1, [.int 0, .ref E.1, .int 0])), rAi cy n10 6 (fun _ => 0)] A s H _ := h
  refine lv_iconst (v := 0) hx hb dX7_init_50 (by decide) ?_
  refine lv_istore_n (lv' := [(3, .int 0), (0, .ref a), (1, .ref sc), (2, .int 1)]) hx hb dX7_init_51 rfl hl (by decide) rfl (fun ls hl => ?_)
  refine lv_iload_n hx hb dX7_init_52 rfl (lv_at hl 0 rfl) ?_
  refine lv_bipush (v := 6) hx hb dX7_init_53 (by decide) ?_
  refine lv_icmp_ge (tgt := 72) hx hb dX7_init_55 (by decide) (fun c11 => absurd c11 (by decide)) (fun c11 => ?_)
  refine lv_aload_n hx hb dX7_init_58 rfl (lv_at hl 1 rfl) ?_
  refine r_get S h 0 inX7 (ref := "BobbinPoolModel$Pool") rfl rfl (k := 4) (by decide) (by decide +kernel) (fun _ h9 => h9) rfl dX7_init_59 ?_
  refine lv_iload_n hx hb dX7_init_62 rfl (lv_at hl 0 rfl) ?_
  refine lv_ldc (v := (-1000000)) hx hb S.2.2.2.1 (hts (.constant RX7 31 (-1000000)) (by decide +kernel)) dX7_init_63 ?_
  refine r_iast S h 4 rfl (by unfold vp_in; decide) dX7_init_65 (fun H locs h => ?_)
  have h : rH D E cy X [(a, .inr (9, [.ref sc, .ref n1, .ref n4, .ref n7, .ref n10, .int 0, .int 0, .int 0])), (n1, .inr (1, [.int 0, .ref E.1, .int 0])), (n4, .inr (1, [.int 0, .ref E.1, .int 0])), (n7, .inr (1, [.int 0, .ref E.1, .int 0])), rAi cy n10 6 (upd (fun _ => 0) 0 (-1000000))] A s H _ := h
  refine lv_iinc (v := 1) (lv' := [(3, .int 1), (0, .ref a), (1, .ref sc), (2, .int 1)]) hx hb dX7_init_66 hl (k := 0) rfl (by decide) (by decide) rfl (fun ls hl => ?_)
  refine lv_goto (tgt := 52) hx hb dX7_init_69 (by decide) ?_
  refine lv_iload_n hx hb dX7_init_52 rfl (lv_at hl 0 rfl) ?_
  refine lv_bipush (v := 6) hx hb dX7_init_53 (by decide) ?_
  refine lv_icmp_ge (tgt := 72) hx hb dX7_init_55 (by decide) (fun c12 => absurd c12 (by decide)) (fun c12 => ?_)
  refine lv_aload_n hx hb dX7_init_58 rfl (lv_at hl 1 rfl) ?_
  refine r_get S h 0 inX7 (ref := "BobbinPoolModel$Pool") rfl rfl (k := 4) (by decide) (by decide +kernel) (fun _ h9 => h9) rfl dX7_init_59 ?_
  refine lv_iload_n hx hb dX7_init_62 rfl (lv_at hl 0 rfl) ?_
  refine lv_ldc (v := (-1000000)) hx hb S.2.2.2.1 (hts (.constant RX7 31 (-1000000)) (by decide +kernel)) dX7_init_63 ?_
  refine r_iast S h 4 rfl (by unfold vp_in; decide) dX7_init_65 (fun H locs h => ?_)
  have h : rH D E cy X [(a, .inr (9, [.ref sc, .ref n1, .ref n4, .ref n7, .ref n10, .int 0, .int 0, .int 0])), (n1, .inr (1, [.int 0, .ref E.1, .int 0])), (n4, .inr (1, [.int 0, .ref E.1, .int 0])), (n7, .inr (1, [.int 0, .ref E.1, .int 0])), rAi cy n10 6 (upd (upd (fun _ => 0) 0 (-1000000)) 1 (-1000000))] A s H _ := h
  refine lv_iinc (v := 2) (lv' := [(3, .int 2), (0, .ref a), (1, .ref sc), (2, .int 1)]) hx hb dX7_init_66 hl (k := 0) rfl (by decide) (by decide) rfl (fun ls hl => ?_)
  refine lv_goto (tgt := 52) hx hb dX7_init_69 (by decide) ?_
  refine lv_iload_n hx hb dX7_init_52 rfl (lv_at hl 0 rfl) ?_
  refine lv_bipush (v := 6) hx hb dX7_init_53 (by decide) ?_
  refine lv_icmp_ge (tgt := 72) hx hb dX7_init_55 (by decide) (fun c13 => absurd c13 (by decide)) (fun c13 => ?_)
  refine lv_aload_n hx hb dX7_init_58 rfl (lv_at hl 1 rfl) ?_
  refine r_get S h 0 inX7 (ref := "BobbinPoolModel$Pool") rfl rfl (k := 4) (by decide) (by decide +kernel) (fun _ h9 => h9) rfl dX7_init_59 ?_
  refine lv_iload_n hx hb dX7_init_62 rfl (lv_at hl 0 rfl) ?_
  refine lv_ldc (v := (-1000000)) hx hb S.2.2.2.1 (hts (.constant RX7 31 (-1000000)) (by decide +kernel)) dX7_init_63 ?_
  refine r_iast S h 4 rfl (by unfold vp_in; decide) dX7_init_65 (fun H locs h => ?_)
  have h : rH D E cy X [(a, .inr (9, [.ref sc, .ref n1, .ref n4, .ref n7, .ref n10, .int 0, .int 0, .int 0])), (n1, .inr (1, [.int 0, .ref E.1, .int 0])), (n4, .inr (1, [.int 0, .ref E.1, .int 0])), (n7, .inr (1, [.int 0, .ref E.1, .int 0])), rAi cy n10 6 (upd (upd (upd (fun _ => 0) 0 (-1000000)) 1 (-1000000)) 2 (-1000000))] A s H _ := h
  refine lv_iinc (v := 3) (lv' := [(3, .int 3), (0, .ref a), (1, .ref sc), (2, .int 1)]) hx hb dX7_init_66 hl (k := 0) rfl (by decide) (by decide) rfl (fun ls hl => ?_)
  refine lv_goto (tgt := 52) hx hb dX7_init_69 (by decide) ?_
  refine lv_iload_n hx hb dX7_init_52 rfl (lv_at hl 0 rfl) ?_
  refine lv_bipush (v := 6) hx hb dX7_init_53 (by decide) ?_
  refine lv_icmp_ge (tgt := 72) hx hb dX7_init_55 (by decide) (fun c14 => absurd c14 (by decide)) (fun c14 => ?_)
  refine lv_aload_n hx hb dX7_init_58 rfl (lv_at hl 1 rfl) ?_
  refine r_get S h 0 inX7 (ref := "BobbinPoolModel$Pool") rfl rfl (k := 4) (by decide) (by decide +kernel) (fun _ h9 => h9) rfl dX7_init_59 ?_
  refine lv_iload_n hx hb dX7_init_62 rfl (lv_at hl 0 rfl) ?_
  refine lv_ldc (v := (-1000000)) hx hb S.2.2.2.1 (hts (.constant RX7 31 (-1000000)) (by decide +kernel)) dX7_init_63 ?_
  refine r_iast S h 4 rfl (by unfold vp_in; decide) dX7_init_65 (fun H locs h => ?_)
  have h : rH D E cy X [(a, .inr (9, [.ref sc, .ref n1, .ref n4, .ref n7, .ref n10, .int 0, .int 0, .int 0])), (n1, .inr (1, [.int 0, .ref E.1, .int 0])), (n4, .inr (1, [.int 0, .ref E.1, .int 0])), (n7, .inr (1, [.int 0, .ref E.1, .int 0])), rAi cy n10 6 (upd (upd (upd (upd (fun _ => 0) 0 (-1000000)) 1 (-1000000)) 2 (-1000000)) 3 (-1000000))] A s H _ := h
  refine lv_iinc (v := 4) (lv' := [(3, .int 4), (0, .ref a), (1, .ref sc), (2, .int 1)]) hx hb dX7_init_66 hl (k := 0) rfl (by decide) (by decide) rfl (fun ls hl => ?_)
  refine lv_goto (tgt := 52) hx hb dX7_init_69 (by decide) ?_
  refine lv_iload_n hx hb dX7_init_52 rfl (lv_at hl 0 rfl) ?_
  refine lv_bipush (v := 6) hx hb dX7_init_53 (by decide) ?_
  refine lv_icmp_ge (tgt := 72) hx hb dX7_init_55 (by decide) (fun c15 => absurd c15 (by decide)) (fun c15 => ?_)
  refine lv_aload_n hx hb dX7_init_58 rfl (lv_at hl 1 rfl) ?_
  refine r_get S h 0 inX7 (ref := "BobbinPoolModel$Pool") rfl rfl (k := 4) (by decide) (by decide +kernel) (fun _ h9 => h9) rfl dX7_init_59 ?_
  refine lv_iload_n hx hb dX7_init_62 rfl (lv_at hl 0 rfl) ?_
  refine lv_ldc (v := (-1000000)) hx hb S.2.2.2.1 (hts (.constant RX7 31 (-1000000)) (by decide +kernel)) dX7_init_63 ?_
  refine r_iast S h 4 rfl (by unfold vp_in; decide) dX7_init_65 (fun H locs h => ?_)
  have h : rH D E cy X [(a, .inr (9, [.ref sc, .ref n1, .ref n4, .ref n7, .ref n10, .int 0, .int 0, .int 0])), (n1, .inr (1, [.int 0, .ref E.1, .int 0])), (n4, .inr (1, [.int 0, .ref E.1, .int 0])), (n7, .inr (1, [.int 0, .ref E.1, .int 0])), rAi cy n10 6 (upd (upd (upd (upd (upd (fun _ => 0) 0 (-1000000)) 1 (-1000000)) 2 (-1000000)) 3 (-1000000)) 4 (-1000000))] A s H _ := h
  refine lv_iinc (v := 5) (lv' := [(3, .int 5), (0, .ref a), (1, .ref sc), (2, .int 1)]) hx hb dX7_init_66 hl (k := 0) rfl (by decide) (by decide) rfl (fun ls hl => ?_)
  refine lv_goto (tgt := 52) hx hb dX7_init_69 (by decide) ?_
  refine lv_iload_n hx hb dX7_init_52 rfl (lv_at hl 0 rfl) ?_
  refine lv_bipush (v := 6) hx hb dX7_init_53 (by decide) ?_
  refine lv_icmp_ge (tgt := 72) hx hb dX7_init_55 (by decide) (fun c16 => absurd c16 (by decide)) (fun c16 => ?_)
  refine lv_aload_n hx hb dX7_init_58 rfl (lv_at hl 1 rfl) ?_
  refine r_get S h 0 inX7 (ref := "BobbinPoolModel$Pool") rfl rfl (k := 4) (by decide) (by decide +kernel) (fun _ h9 => h9) rfl dX7_init_59 ?_
  refine lv_iload_n hx hb dX7_init_62 rfl (lv_at hl 0 rfl) ?_
  refine lv_ldc (v := (-1000000)) hx hb S.2.2.2.1 (hts (.constant RX7 31 (-1000000)) (by decide +kernel)) dX7_init_63 ?_
  refine r_iast S h 4 rfl (by unfold vp_in; decide) dX7_init_65 (fun H locs h => ?_)
  have h : rH D E cy X [(a, .inr (9, [.ref sc, .ref n1, .ref n4, .ref n7, .ref n10, .int 0, .int 0, .int 0])), (n1, .inr (1, [.int 0, .ref E.1, .int 0])), (n4, .inr (1, [.int 0, .ref E.1, .int 0])), (n7, .inr (1, [.int 0, .ref E.1, .int 0])), rAi cy n10 6 (upd (upd (upd (upd (upd (upd (fun _ => 0) 0 (-1000000)) 1 (-1000000)) 2 (-1000000)) 3 (-1000000)) 4 (-1000000)) 5 (-1000000))] A s H _ := h
  refine lv_iinc (v := 6) (lv' := [(3, .int 6), (0, .ref a), (1, .ref sc), (2, .int 1)]) hx hb dX7_init_66 hl (k := 0) rfl (by decide) (by decide) rfl (fun ls hl => ?_)
  refine lv_goto (tgt := 52) hx hb dX7_init_69 (by decide) ?_
  refine lv_iload_n hx hb dX7_init_52 rfl (lv_at hl 0 rfl) ?_
  refine lv_bipush (v := 6) hx hb dX7_init_53 (by decide) ?_
  refine lv_icmp_ge (tgt := 72) hx hb dX7_init_55 (by decide) (fun c17 => ?_) (fun c17 => absurd (by decide) c17)
  refine lv_iconst (v := 0) hx hb dX7_init_72 (by decide) ?_
  refine lv_istore_n (lv' := [(3, .int 0), (0, .ref a), (1, .ref sc), (2, .int 1)]) hx hb dX7_init_73 rfl hl (by decide) rfl (fun ls hl => ?_)
  refine lv_iload_n hx hb dX7_init_74 rfl (lv_at hl 0 rfl) ?_
  refine lv_iload_n hx hb dX7_init_75 rfl (lv_at hl 3 rfl) ?_
  refine lv_icmp_ge (tgt := 100) hx hb dX7_init_76 (by decide) (fun c18 => absurd c18 (by decide)) (fun c18 => ?_)
  refine lv_aload_n hx hb dX7_init_79 rfl (lv_at hl 1 rfl) ?_
  refine r_get S h 0 inX7 (ref := "BobbinPoolModel$Pool") rfl rfl (k := 2) (by decide) (by decide +kernel) (fun _ h9 => h9) rfl dX7_init_80 ?_
  refine r_new S h (ci := 11) (C := RX9) (T := TX9) (N := 4) (fs := [.null, .null, .null, .null]) tyX9 tyX9_ok inX9 (by decide +kernel) (by decide +kernel) (by decide +kernel) rfl (fun j hj => by rcases (show j = 0 ∨ j = 1 ∨ j = 2 ∨ j = 3 by omega) with rfl | rfl | rfl | rfl <;> rfl) (Nat.le_of_ble_eq_true rfl) (Nat.le_of_ble_eq_true rfl) dX7_init_83 (fun n19 H h => ?_)
  have h : rH D E cy X [(a, .inr (9, [.ref sc, .ref n1, .ref n4, .ref n7, .ref n10, .int 0, .int 0, .int 0])), (n1, .inr (1, [.int 0, .ref E.1, .int 0])), (n4, .inr (1, [.int 0, .ref E.1, .int 0])), (n7, .inr (1, [.int 0, .ref E.1, .int 0])), rAi cy n10 6 (upd (upd (upd (upd (upd (upd (fun _ => 0) 0 (-1000000)) 1 (-1000000)) 2 (-1000000)) 3 (-1000000)) 4 (-1000000)) 5 (-1000000)), (n19, .inr (11, [.null, .null, .null, .null]))] A s H _ := h
  refine lv_dup hx hb dX7_init_86 rfl ?_
  refine r_callIN S h (k_X9_init l D E cy _ A n19) ⟨va_cnB 0 hts gX7_init_X9_init_n34 rfl rfl rfl h.2.2.2.1.2.2.2.1.2 (hts (.initialized RX9) (by decide +kernel)) (by decide +kernel) ⟨Nat.le_of_ble_eq_true rfl, Nat.le_of_ble_eq_true rfl⟩, rfl, hts (.instanceMethod yX9_init) (by decide +kernel)⟩ (r_preS h [0, 1, 2, 3, 4] [5] (wr := [(a, .inr (9, [.ref sc, .ref n1, .ref n4, .ref n7, .ref n10, .int 0, .int 0, .int 0])), (n1, .inr (1, [.int 0, .ref E.1, .int 0])), (n4, .inr (1, [.int 0, .ref E.1, .int 0])), (n7, .inr (1, [.int 0, .ref E.1, .int 0])), rAi cy n10 6 (upd (upd (upd (upd (upd (upd (fun _ => 0) 0 (-1000000)) 1 (-1000000)) 2 (-1000000)) 3 (-1000000)) 4 (-1000000)) 5 (-1000000))]) (wc := [(n19, .inr (11, [.null, .null, .null, .null]))]) rfl rfl rfl _) rfl hl.1 rfl (Nat.le_of_ble_eq_true rfl) dX7_init_87 ⟨Nat.le_of_ble_eq_true rfl, Nat.le_of_ble_eq_true rfl⟩ (fun u20 H locs k21 h => ?_)
  obtain ⟨n22, n23, n24, n25⟩ := u20
  have h : rH D E cy X [(a, .inr (9, [.ref sc, .ref n1, .ref n4, .ref n7, .ref n10, .int 0, .int 0, .int 0])), (n1, .inr (1, [.int 0, .ref E.1, .int 0])), (n4, .inr (1, [.int 0, .ref E.1, .int 0])), (n7, .inr (1, [.int 0, .ref E.1, .int 0])), rAi cy n10 6 (upd (upd (upd (upd (upd (upd (fun _ => 0) 0 (-1000000)) 1 (-1000000)) 2 (-1000000)) 3 (-1000000)) 4 (-1000000)) 5 (-1000000)), (n19, .inr (11, [.ref n22, .ref n23, .ref n24, .ref n25])), (n22, .inr (1, [.int 0, .ref E.1, .int 0])), (n23, .inr (1, [.int 0, .ref E.1, .int 0])), rAi cy n24 3 (fun _ => 0), (n25, .inr (1, [.int 0, .ref E.1, .int 0]))] A s H _ := h
  refine r_calli S h (k_AL_addD l D E cy _ A n4 n19 RX9 (rEl.here (k := 4) (ci := 11) (T := TX9) (N := 4) rfl rfl) (fun U hU => hU.2.1.2.1)) (cwV 1 hts gX7_init_Jx4a65c_add_9ea2d rfl rfl rfl (by decide +kernel) ⟨Nat.le_of_ble_eq_true rfl, Nat.le_of_ble_eq_true rfl⟩) (r_preV h [0, 1, 3, 4, 5, 6, 7, 8, 9] [2] (wr := [(a, .inr (9, [.ref sc, .ref n1, .ref n4, .ref n7, .ref n10, .int 0, .int 0, .int 0])), (n1, .inr (1, [.int 0, .ref E.1, .int 0])), (n7, .inr (1, [.int 0, .ref E.1, .int 0])), rAi cy n10 6 (upd (upd (upd (upd (upd (upd (fun _ => 0) 0 (-1000000)) 1 (-1000000)) 2 (-1000000)) 3 (-1000000)) 4 (-1000000)) 5 (-1000000)), (n19, .inr (11, [.ref n22, .ref n23, .ref n24, .ref n25])), (n22, .inr (1, [.int 0, .ref E.1, .int 0])), (n23, .inr (1, [.int 0, .ref E.1, .int 0])), rAi cy n24 3 (fun _ => 0), (n25, .inr (1, [.int 0, .ref E.1, .int 0]))]) (wc := [(n4, .inr (1, [.int 0, .ref E.1, .int 0]))]) rfl rfl rfl 2 rfl rfl _) rfl hl.1 rfl (Nat.le_of_ble_eq_true rfl) dX7_init_90 ⟨Nat.le_of_ble_eq_true rfl, Nat.le_of_ble_eq_true rfl⟩ (fun u26 H locs k27 h => ?_)
  obtain ⟨n28, rfl⟩ : ∃ z, z = u26 := ⟨_, rfl⟩
  have h : rH D E cy X [(a, .inr (9, [.ref sc, .ref n1, .ref n4, .ref n7, .ref n10, .int 0, .int 0, .int 0])), (n1, .inr (1, [.int 0, .ref E.1, .int 0])), (n7, .inr (1, [.int 0, .ref E.1, .int 0])), rAi cy n10 6 (upd (upd (upd (upd (upd (upd (fun _ => 0) 0 (-1000000)) 1 (-1000000)) 2 (-1000000)) 3 (-1000000)) 4 (-1000000)) 5 (-1000000)), (n19, .inr (11, [.ref n22, .ref n23, .ref n24, .ref n25])), (n22, .inr (1, [.int 0, .ref E.1, .int 0])), (n23, .inr (1, [.int 0, .ref E.1, .int 0])), rAi cy n24 3 (fun _ => 0), (n25, .inr (1, [.int 0, .ref E.1, .int 0])), (n4, .inr (1, [.int 1, .ref n28, .int 1])), rAr cy n28 10 (va_up (fun _ => none) 0 (some n19))] A s H _ := h
  refine lv_pop hx hb dX7_init_93 rfl ?_
  refine lv_iinc (v := 1) (lv' := [(3, .int 1), (0, .ref a), (1, .ref sc), (2, .int 1)]) hx hb dX7_init_94 hl (k := 0) rfl (by decide) (by decide) rfl (fun ls hl => ?_)
  refine lv_goto (tgt := 74) hx hb dX7_init_97 (by decide) ?_
  refine lv_iload_n hx hb dX7_init_74 rfl (lv_at hl 0 rfl) ?_
  refine lv_iload_n hx hb dX7_init_75 rfl (lv_at hl 3 rfl) ?_
  refine lv_icmp_ge (tgt := 100) hx hb dX7_init_76 (by decide) (fun c29 => ?_) (fun c29 => absurd (by decide) c29)
  exact r_retv S h (n1, n7, n10, n19, n22, n23, n24, n25, n4, n28) rfl trivial hr hlocks ⟨Nat.le_of_ble_eq_true rfl, Nat.le_of_ble_eq_true rfl⟩ dX7_init_100
set_option maxHeartbeats 4000000 in
set_option maxRecDepth 100000 in
/-- BobbinPoolModel() -/
theorem k_X10_init (l : Launch) (D : va_G) (E : rEn) (cy : rC) (X : va_W) (A : Nat → Prop) (a : Nat) : rMv l yX10_init wsX10_init { frames := 6, cells := 12, slots := 57, locals := 134 } D E cy X [(a, .inr (12, [.int 0, .null, .null]))] A [.ref a] (fun (z : Nat × Nat × Nat × Nat × Nat × Nat × Nat × Nat × Nat × Nat × Nat × Nat) => [(a, .inr (12, [.int 0, .ref z.1, .ref z.2.1])), (z.1, .inr (1, [.int 0, .ref E.1, .int 0])), (z.2.1, .inr (9, [.ref z.1, .ref z.2.2.1, .ref z.2.2.2.2.2.2.2.2.2.2.1, .ref z.2.2.2.1, .ref z.2.2.2.2.1, .int 0, .int 0, .int 0])), (z.2.2.1, .inr (1, [.int 0, .ref E.1, .int 0])), (z.2.2.2.1, .inr (1, [.int 0, .ref E.1, .int 0])), rAi cy z.2.2.2.2.1 6 rPr, (z.2.2.2.2.2.1, .inr (11, [.ref z.2.2.2.2.2.2.1, .ref z.2.2.2.2.2.2.2.1, .ref z.2.2.2.2.2.2.2.2.1, .ref z.2.2.2.2.2.2.2.2.2.1])), (z.2.2.2.2.2.2.1, .inr (1, [.int 0, .ref E.1, .int 0])), (z.2.2.2.2.2.2.2.1, .inr (1, [.int 0, .ref E.1, .int 0])), rAi cy z.2.2.2.2.2.2.2.2.1 3 (fun _ => 0), (z.2.2.2.2.2.2.2.2.2.1, .inr (1, [.int 0, .ref E.1, .int 0])), (z.2.2.2.2.2.2.2.2.2.2.1, .inr (1, [.int 1, .ref z.2.2.2.2.2.2.2.2.2.2.2, .int 1])), rAr cy z.2.2.2.2.2.2.2.2.2.2.2 10 (va_up (fun _ => none) 0 (some z.2.2.2.2.2.1))]) (fun _ => True) 12 57 := by
  refine r_entry (cc := cX10_init) (maxL := 1) (ret := none) (by decide +kernel) rfl (Nat.le_of_ble_eq_true rfl) ?_
  intro p e s m args below meth c ls B
  obtain ⟨S, hr, hlocks, hmi, h, hl⟩ := B
  have hx := S.1
  have hb := S.2.1
  have hts := S.2.2.2.2
  have inJx4a65c : ∀ w ∈ wsJx4a65c0, w ∈ wsX10_init := by decide +kernel
  have inX10 : ∀ w ∈ wsX100, w ∈ wsX10_init := by decide +kernel
  have inX7 : ∀ w ∈ wsX70, w ∈ wsX10_init := by decide +kernel
  have hl : lv_has ls 1 [(0, .ref a)] := hl
  refine lv_aload_n hx hb dX10_init_0 rfl (lv_at hl 0 rfl) ?_
  refine W.objInit hx hb S.2.2.2.1 (hts (.methodLink RX10 19 objectInit) (by decide +kernel)) (hts (.instanceMethod objectInit) (by decide +kernel)) (hts (.code objectInit ⟨#[0xb1]⟩ 1 none) (by decide +kernel)) rfl (by rw [S.2.2.1]; exact hl.1) rfl dX10_init_1 (Nat.le_of_ble_eq_true rfl) (Nat.le_of_ble_eq_true rfl) ?_
  refine W.eq (g2 := F0 m 4 ls []) rfl ?_
  refine lv_aload_n hx hb dX10_init_4 rfl (lv_at hl 0 rfl) ?_
  refine r_new S h (ci := 1) (C := RJx4a65c) (T := TJx4a65c) (N := 3) (fs := [.int 0, .null, .int 0]) tyJx4a65c tyJx4a65c_ok inJx4a65c (by decide +kernel) (by decide +kernel) (by decide +kernel) rfl (fun j hj => by rcases (show j = 0 ∨ j = 1 ∨ j = 2 by omega) with rfl | rfl | rfl <;> rfl) (Nat.le_of_ble_eq_true rfl) (Nat.le_of_ble_eq_true rfl) dX10_init_5 (fun n1 H h => ?_)
  have h : rH D E cy X [(a, .inr (12, [.int 0, .null, .null])), (n1, .inr (1, [.int 0, .null, .int 0]))] A s H _ := h
  refine lv_dup hx hb dX10_init_8 rfl ?_
  refine r_callI S h (k_AL_init l D E cy _ A n1) (cwI 0 hts gX10_init_Jx4a65c_init_da8c8 rfl rfl rfl (hts (.initialized RJx4a65c) (by decide +kernel)) (hts (.methodLink RX10 25 yJx4a65c_init_da8c8) (by decide +kernel)) (hts (.instanceMethod yJx4a65c_init_da8c8) (by decide +kernel)) rfl (by decide +kernel) ⟨Nat.le_of_ble_eq_true rfl, Nat.le_of_ble_eq_true rfl⟩) (r_preS h [0] [1] (wr := [(a, .inr (12, [.int 0, .null, .null]))]) (wc := [(n1, .inr (1, [.int 0, .null, .int 0]))]) rfl rfl rfl _) rfl hl.1 rfl (Nat.le_of_ble_eq_true rfl) dX10_init_9 ⟨Nat.le_of_ble_eq_true rfl, Nat.le_of_ble_eq_true rfl⟩ (fun u2 H locs k3 h => ?_)
  have h : rH D E cy X [(a, .inr (12, [.int 0, .null, .null])), (n1, .inr (1, [.int 0, .ref E.1, .int 0]))] A s H _ := h
  refine r_putF S h 0 tyX10 tyX10_ok nmX10 inX10 rfl rfl (k := 1) (by decide) (by decide +kernel) rfl hmi rfl rfl rfl rfl (Nat.le_of_ble_eq_true rfl) dX10_init_12 (fun H locs h => ?_)
  have h : rH D E cy X [(a, .inr (12, [.int 0, .ref n1, .null])), (n1, .inr (1, [.int 0, .ref E.1, .int 0]))] A s H _ := h
  refine lv_aload_n hx hb dX10_init_15 rfl (lv_at hl 0 rfl) ?_
  refine r_new S h (ci := 9) (C := RX7) (T := TX7) (N := 8) (fs := [.null, .null, .null, .null, .null, .int 0, .int 0, .int 0]) tyX7 tyX7_ok inX7 (by decide +kernel) (by decide +kernel) (by decide +kernel) rfl (fun j hj => by rcases (show j = 0 ∨ j = 1 ∨ j = 2 ∨ j = 3 ∨ j = 4 ∨ j = 5 ∨ j = 6 ∨ j = 7 by omega) with rfl | rfl | rfl | rfl | rfl | rfl | rfl | rfl <;> rfl) (Nat.le_of_ble_eq_true rfl) (Nat.le_of_ble_eq_true rfl) dX10_init_16 (fun n4 H h => ?_)
  have h : rH D E cy X [(a, .inr (12, [.int 0, .ref n1, .null])), (n1, .inr (1, [.int 0, .ref E.1, .int 0])), (n4, .inr (9, [.null, .null, .null, .null, .null, .int 0, .int 0, .int 0]))] A s H _ := h
  refine lv_dup hx hb dX10_init_19 rfl ?_
  refine lv_aload_n hx hb dX10_init_20 rfl (lv_at hl 0 rfl) ?_
  refine r_get S h 0 inX10 (ref := "BobbinPoolModel") rfl rfl (k := 1) (by decide) (by decide +kernel) (fun _ h9 => h9) rfl dX10_init_21 ?_
  refine lv_iconst (v := 1) hx hb dX10_init_24 (by decide) ?_
  refine r_callI S h (k_X7_init1 l D E cy _ A n4 n1) (cwI 2 hts gX10_init_X7_init rfl rfl rfl (hts (.initialized RX7) (by decide +kernel)) (hts (.methodLink RX10 34 yX7_init) (by decide +kernel)) (hts (.instanceMethod yX7_init) (by decide +kernel)) rfl (by decide +kernel) ⟨Nat.le_of_ble_eq_true rfl, Nat.le_of_ble_eq_true rfl⟩) (r_preS h [0, 1] [2] (wr := [(a, .inr (12, [.int 0, .ref n1, .null])), (n1, .inr (1, [.int 0, .ref E.1, .int 0]))]) (wc := [(n4, .inr (9, [.null, .null, .null, .null, .null, .int 0, .int 0, .int 0]))]) rfl rfl rfl _) rfl hl.1 rfl (Nat.le_of_ble_eq_true rfl) dX10_init_25 ⟨Nat.le_of_ble_eq_true rfl, Nat.le_of_ble_eq_true rfl⟩ (fun u5 H locs k6 h => ?_)
  obtain ⟨n7, n8, n9, n10, n11, n12, n13, n14, n15, n16⟩ := u5
  have h : rH D E cy X [(a, .inr (12, [.int 0, .ref n1, .null])), (n1, .inr (1, [.int 0, .ref E.1, .int 0])), (n4, .inr (9, [.ref n1, .ref n7, .ref n15, .ref n8, .ref n9, .int 0, .int 0, .int 0])), (n7, .inr (1, [.int 0, .ref E.1, .int 0])), (n8, .inr (1, [.int 0, .ref E.1, .int 0])), rAi cy n9 6 rPr, (n10, .inr (11, [.ref n11, .ref n12, .ref n13, .ref n14])), (n11, .inr (1, [.int 0, .ref E.1, .int 0])), (n12, .inr (1, [.int 0, .ref E.1, .int 0])), rAi cy n13 3 (fun _ => 0), (n14, .inr (1, [.int 0, .ref E.1, .int 0])), (n15, .inr (1, [.int 1, .ref n16, .int 1])), rAr cy n16 10 (va_up (fun _ => none) 0 (some n10))] A s H _ := h
  refine r_putF S h 0 tyX10 tyX10_ok nmX10 inX10 rfl rfl (k := 2) (by decide) (by decide +kernel) rfl hmi rfl rfl rfl rfl (Nat.le_of_ble_eq_true rfl) dX10_init_28 (fun H locs h => ?_)
  have h : rH D E cy X [(a, .inr (12, [.int 0, .ref n1, .ref n4])), (n1, .inr (1, [.int 0, .ref E.1, .int 0])), (n4, .inr (9, [.ref n1, .ref n7, .ref n15, .ref n8, .ref n9, .int 0, .int 0, .int 0])), (n7, .inr (1, [.int 0, .ref E.1, .int 0])), (n8, .inr (1, [.int 0, .ref E.1, .int 0])), rAi cy n9 6 rPr, (n10, .inr (11, [.ref n11, .ref n12, .ref n13, .ref n14])), (n11, .inr (1, [.int 0, .ref E.1, .int 0])), (n12, .inr (1, [.int 0, .ref E.1, .int 0])), rAi cy n13 3 (fun _ => 0), (n14, .inr (1, [.int 0, .ref E.1, .int 0])), (n15, .inr (1, [.int 1, .ref n16, .int 1])), rAr cy n16 10 (va_up (fun _ => none) 0 (some n10))] A s H _ := h
  exact r_retv S h (n1, n4, n7, n8, n9, n10, n11, n12, n13, n14, n15, n16) rfl trivial hr hlocks ⟨Nat.le_of_ble_eq_true rfl, Nat.le_of_ble_eq_true rfl⟩ dX10_init_31
