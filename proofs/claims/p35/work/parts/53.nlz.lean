set_option maxHeartbeats 8000000 in
set_option maxRecDepth 100000 in
/-- Integer.numberOfLeadingZeros(x) -/
theorem c_J6_numberOfLeadingZeros_0f7a4 (l : Launch) (D : va_G) (L : Nat → Nat) (cy : Nat → ClassId) (X : va_W) (A : Nat → Prop) (st : gSt) (hD : va_D A (X ++ gW L cy st)) (x : Int32)  : gMi l yJ6_numberOfLeadingZeros_0f7a4 wsJ6_numberOfLeadingZeros_0f7a4 { frames := 0, cells := 0, slots := 0, locals := 0 } D L cy X A [.int x] st (f_J6_numberOfLeadingZeros_0f7a4 st x) st := by
  refine g_entry hD (cc := cJ6_numberOfLeadingZeros_0f7a4) (maxL := 2) (ret := (some .int)) (by decide +kernel) rfl (Nat.le_of_ble_eq_true rfl) ?_
  intro p e s m args below meth c ls B
  obtain ⟨S, hr, hlocks, h, hl⟩ := B
  have hx := S.1
  have hb := S.2.1
  have hts := S.2.2.2.2
  have hl : lv_has ls 2 [(0, .int x)] := hl
  have join73 : ∀ (st1 : gSt) (x1 : Int32) (n1 : Int32) (H : Heap) (locs : List Loc) (ls : Array Slot), gH D L cy X A st1 s H locs → lv_has ls 2 [(0, .int x1), (1, .int n1)] → W p l e { frames := 0, cells := 0, slots := 0, locals := 0 } s m args below meth c H locs 0 0 (MQ below (va_Qi (fun (zq : Int32) (_ : Unit) => zq = (f_J6_numberOfLeadingZeros_0f7a4_J73 x st1 x1 n1)) (fun _ zt => va_P D vwCl (X ++ gW L cy st1) zt.heap) A) args s 0 0 A) (F0 m 73 ls []) := by
    intro st1 x1 n1 H locs ls h hl
    refine lv_iload_n hx hb dJ6_numberOfLeadingZeros_0f7a4_73 rfl (lv_at hl 1 rfl) ?_
    refine lv_iload_n hx hb dJ6_numberOfLeadingZeros_0f7a4_74 rfl (lv_at hl 0 rfl) ?_
    refine lv_iconst (v := 1) hx hb dJ6_numberOfLeadingZeros_0f7a4_75 (by decide) ?_
    refine lv_iushr hx hb dJ6_numberOfLeadingZeros_0f7a4_76 rfl ?_
    refine lv_isub hx hb dJ6_numberOfLeadingZeros_0f7a4_77 ?_
    exact g_reti S h hr hlocks rfl (by first | (simp only [f_J6_numberOfLeadingZeros_0f7a4_J73]; done) | (simp only [f_J6_numberOfLeadingZeros_0f7a4_J73]; rfl) | rfl) rfl dJ6_numberOfLeadingZeros_0f7a4_78
  have join61 : ∀ (st1 : gSt) (x1 : Int32) (n1 : Int32) (H : Heap) (locs : List Loc) (ls : Array Slot), gH D L cy X A st1 s H locs → lv_has ls 2 [(0, .int x1), (1, .int n1)] → W p l e { frames := 0, cells := 0, slots := 0, locals := 0 } s m args below meth c H locs 0 0 (MQ below (va_Qi (fun (zq : Int32) (_ : Unit) => zq = (f_J6_numberOfLeadingZeros_0f7a4_J61 x st1 x1 n1)) (fun _ zt => va_P D vwCl (X ++ gW L cy st1) zt.heap) A) args s 0 0 A) (F0 m 61 ls []) := by
    intro st1 x1 n1 H locs ls h hl
    refine lv_iload_n hx hb dJ6_numberOfLeadingZeros_0f7a4_61 rfl (lv_at hl 0 rfl) ?_
    refine lv_iconst (v := 4) hx hb dJ6_numberOfLeadingZeros_0f7a4_62 (by decide) ?_
    refine lv_icmp_lt (tgt := 73) hx hb dJ6_numberOfLeadingZeros_0f7a4_63 (by decide) (fun c1 => ?_) (fun c1 => ?_)
    · exact g_cvi (by first | (simp only [f_J6_numberOfLeadingZeros_0f7a4_J61, if_pos c1]; done) | (simp only [f_J6_numberOfLeadingZeros_0f7a4_J61, if_pos c1]; rfl) | rfl) rfl (join73 _ _ _  _ _ ls h (lv_sub hl [0, 1] rfl))
    · obtain ⟨x2, ex2⟩ : ∃ zz : Int32, zz = n1 + (-2) := ⟨_, rfl⟩
      refine lv_iinc (v := x2) (lv' := [(1, .int x2), (0, .int x1)]) hx hb dJ6_numberOfLeadingZeros_0f7a4_66 hl (k := 1) rfl (by rw [ex2]; rfl) (by decide) rfl (fun ls hl => ?_)
      refine lv_iload_n hx hb dJ6_numberOfLeadingZeros_0f7a4_69 rfl (lv_at hl 1 rfl) ?_
      refine lv_iconst (v := 2) hx hb dJ6_numberOfLeadingZeros_0f7a4_70 (by decide) ?_
      refine lv_iushr hx hb dJ6_numberOfLeadingZeros_0f7a4_71 rfl ?_
      refine lv_topi (fun x3 ex3 => ?_)
      refine lv_istore_n (lv' := [(0, .int x3), (1, .int x2)]) hx hb dJ6_numberOfLeadingZeros_0f7a4_72 rfl hl (by decide) rfl (fun ls hl => ?_)
      exact g_cvi (by subst ex3 ex2; first | (simp only [f_J6_numberOfLeadingZeros_0f7a4_J61, if_neg c1]; done) | (simp only [f_J6_numberOfLeadingZeros_0f7a4_J61, if_neg c1]; rfl) | rfl) rfl (join73 _ _ _  _ _ ls h (lv_sub hl [0, 1] rfl))
  have join48 : ∀ (st1 : gSt) (x1 : Int32) (n1 : Int32) (H : Heap) (locs : List Loc) (ls : Array Slot), gH D L cy X A st1 s H locs → lv_has ls 2 [(0, .int x1), (1, .int n1)] → W p l e { frames := 0, cells := 0, slots := 0, locals := 0 } s m args below meth c H locs 0 0 (MQ below (va_Qi (fun (zq : Int32) (_ : Unit) => zq = (f_J6_numberOfLeadingZeros_0f7a4_J48 x st1 x1 n1)) (fun _ zt => va_P D vwCl (X ++ gW L cy st1) zt.heap) A) args s 0 0 A) (F0 m 48 ls []) := by
    intro st1 x1 n1 H locs ls h hl
    refine lv_iload_n hx hb dJ6_numberOfLeadingZeros_0f7a4_48 rfl (lv_at hl 0 rfl) ?_
    refine lv_bipush (v := 16) hx hb dJ6_numberOfLeadingZeros_0f7a4_49 (by decide) ?_
    refine lv_icmp_lt (tgt := 61) hx hb dJ6_numberOfLeadingZeros_0f7a4_51 (by decide) (fun c4 => ?_) (fun c4 => ?_)
    · exact g_cvi (by first | (simp only [f_J6_numberOfLeadingZeros_0f7a4_J48, if_pos c4]; done) | (simp only [f_J6_numberOfLeadingZeros_0f7a4_J48, if_pos c4]; rfl) | rfl) rfl (join61 _ _ _  _ _ ls h (lv_sub hl [0, 1] rfl))
    · obtain ⟨x5, ex5⟩ : ∃ zz : Int32, zz = n1 + (-4) := ⟨_, rfl⟩
      refine lv_iinc (v := x5) (lv' := [(1, .int x5), (0, .int x1)]) hx hb dJ6_numberOfLeadingZeros_0f7a4_54 hl (k := 1) rfl (by rw [ex5]; rfl) (by decide) rfl (fun ls hl => ?_)
      refine lv_iload_n hx hb dJ6_numberOfLeadingZeros_0f7a4_57 rfl (lv_at hl 1 rfl) ?_
      refine lv_iconst (v := 4) hx hb dJ6_numberOfLeadingZeros_0f7a4_58 (by decide) ?_
      refine lv_iushr hx hb dJ6_numberOfLeadingZeros_0f7a4_59 rfl ?_
      refine lv_topi (fun x6 ex6 => ?_)
      refine lv_istore_n (lv' := [(0, .int x6), (1, .int x5)]) hx hb dJ6_numberOfLeadingZeros_0f7a4_60 rfl hl (by decide) rfl (fun ls hl => ?_)
      exact g_cvi (by subst ex6 ex5; first | (simp only [f_J6_numberOfLeadingZeros_0f7a4_J48, if_neg c4]; done) | (simp only [f_J6_numberOfLeadingZeros_0f7a4_J48, if_neg c4]; rfl) | rfl) rfl (join61 _ _ _  _ _ ls h (lv_sub hl [0, 1] rfl))
  have join33 : ∀ (st1 : gSt) (x1 : Int32) (n1 : Int32) (H : Heap) (locs : List Loc) (ls : Array Slot), gH D L cy X A st1 s H locs → lv_has ls 2 [(0, .int x1), (1, .int n1)] → W p l e { frames := 0, cells := 0, slots := 0, locals := 0 } s m args below meth c H locs 0 0 (MQ below (va_Qi (fun (zq : Int32) (_ : Unit) => zq = (f_J6_numberOfLeadingZeros_0f7a4_J33 x st1 x1 n1)) (fun _ zt => va_P D vwCl (X ++ gW L cy st1) zt.heap) A) args s 0 0 A) (F0 m 33 ls []) := by
    intro st1 x1 n1 H locs ls h hl
    refine lv_iload_n hx hb dJ6_numberOfLeadingZeros_0f7a4_33 rfl (lv_at hl 0 rfl) ?_
    refine lv_sipush (v := 256) hx hb dJ6_numberOfLeadingZeros_0f7a4_34 (by decide) ?_
    refine lv_icmp_lt (tgt := 48) hx hb dJ6_numberOfLeadingZeros_0f7a4_37 (by decide) (fun c7 => ?_) (fun c7 => ?_)
    · exact g_cvi (by first | (simp only [f_J6_numberOfLeadingZeros_0f7a4_J33, if_pos c7]; done) | (simp only [f_J6_numberOfLeadingZeros_0f7a4_J33, if_pos c7]; rfl) | rfl) rfl (join48 _ _ _  _ _ ls h (lv_sub hl [0, 1] rfl))
    · obtain ⟨x8, ex8⟩ : ∃ zz : Int32, zz = n1 + (-8) := ⟨_, rfl⟩
      refine lv_iinc (v := x8) (lv' := [(1, .int x8), (0, .int x1)]) hx hb dJ6_numberOfLeadingZeros_0f7a4_40 hl (k := 1) rfl (by rw [ex8]; rfl) (by decide) rfl (fun ls hl => ?_)
      refine lv_iload_n hx hb dJ6_numberOfLeadingZeros_0f7a4_43 rfl (lv_at hl 1 rfl) ?_
      refine lv_bipush (v := 8) hx hb dJ6_numberOfLeadingZeros_0f7a4_44 (by decide) ?_
      refine lv_iushr hx hb dJ6_numberOfLeadingZeros_0f7a4_46 rfl ?_
      refine lv_topi (fun x9 ex9 => ?_)
      refine lv_istore_n (lv' := [(0, .int x9), (1, .int x8)]) hx hb dJ6_numberOfLeadingZeros_0f7a4_47 rfl hl (by decide) rfl (fun ls hl => ?_)
      exact g_cvi (by subst ex9 ex8; first | (simp only [f_J6_numberOfLeadingZeros_0f7a4_J33, if_neg c7]; done) | (simp only [f_J6_numberOfLeadingZeros_0f7a4_J33, if_neg c7]; rfl) | rfl) rfl (join48 _ _ _  _ _ ls h (lv_sub hl [0, 1] rfl))
  refine lv_iload_n hx hb dJ6_numberOfLeadingZeros_0f7a4_0 rfl (lv_at hl 0 rfl) ?_
  refine lv_if_gt (tgt := 15) hx hb dJ6_numberOfLeadingZeros_0f7a4_1 (by decide) (fun c10 => ?_) (fun c10 => ?_)
  · refine lv_bipush (v := 31) hx hb dJ6_numberOfLeadingZeros_0f7a4_15 (by decide) ?_
    refine lv_istore_n (lv' := [(1, .int 31), (0, .int x)]) hx hb dJ6_numberOfLeadingZeros_0f7a4_17 rfl hl (by decide) rfl (fun ls hl => ?_)
    refine lv_iload_n hx hb dJ6_numberOfLeadingZeros_0f7a4_18 rfl (lv_at hl 1 rfl) ?_
    refine lv_ldcw (v := 65536) hx hb S.2.2.2.1 (hts (.constant RJ6 264 65536) (by decide +kernel)) dJ6_numberOfLeadingZeros_0f7a4_19 ?_
    refine lv_icmp_lt (tgt := 33) hx hb dJ6_numberOfLeadingZeros_0f7a4_22 (by decide) (fun c11 => ?_) (fun c11 => ?_)
    · exact g_cvi (by first | (simp only [f_J6_numberOfLeadingZeros_0f7a4, if_pos c10, if_pos c11]; done) | (simp only [f_J6_numberOfLeadingZeros_0f7a4, if_pos c10, if_pos c11]; rfl) | rfl) rfl (join33 _ _ _  _ _ ls h (lv_sub hl [1, 0] rfl))
    · obtain ⟨x12, ex12⟩ : ∃ zz : Int32, zz = 31 + (-16) := ⟨_, rfl⟩
      refine lv_iinc (v := x12) (lv' := [(1, .int x12), (0, .int x)]) hx hb dJ6_numberOfLeadingZeros_0f7a4_25 hl (k := 0) rfl (by rw [ex12]; rfl) (by decide) rfl (fun ls hl => ?_)
      refine lv_iload_n hx hb dJ6_numberOfLeadingZeros_0f7a4_28 rfl (lv_at hl 1 rfl) ?_
      refine lv_bipush (v := 16) hx hb dJ6_numberOfLeadingZeros_0f7a4_29 (by decide) ?_
      refine lv_iushr hx hb dJ6_numberOfLeadingZeros_0f7a4_31 rfl ?_
      refine lv_topi (fun x13 ex13 => ?_)
      refine lv_istore_n (lv' := [(0, .int x13), (1, .int x12)]) hx hb dJ6_numberOfLeadingZeros_0f7a4_32 rfl hl (by decide) rfl (fun ls hl => ?_)
      exact g_cvi (by subst ex13 ex12; first | (simp only [f_J6_numberOfLeadingZeros_0f7a4, if_pos c10, if_neg c11]; done) | (simp only [f_J6_numberOfLeadingZeros_0f7a4, if_pos c10, if_neg c11]; rfl) | rfl) rfl (join33 _ _ _  _ _ ls h (lv_sub hl [0, 1] rfl))
  · refine lv_iload_n hx hb dJ6_numberOfLeadingZeros_0f7a4_4 rfl (lv_at hl 0 rfl) ?_
    refine lv_if_ne (tgt := 13) hx hb dJ6_numberOfLeadingZeros_0f7a4_5 (by decide) (fun c14 => ?_) (fun c14 => ?_)
    · refine lv_iconst (v := 0) hx hb dJ6_numberOfLeadingZeros_0f7a4_13 (by decide) ?_
      exact g_reti S h hr hlocks rfl (by first | (simp only [f_J6_numberOfLeadingZeros_0f7a4, if_neg c10, if_neg c14]; done) | (simp only [f_J6_numberOfLeadingZeros_0f7a4, if_neg c10, if_neg c14]; rfl) | rfl) rfl dJ6_numberOfLeadingZeros_0f7a4_14
    · refine lv_bipush (v := 32) hx hb dJ6_numberOfLeadingZeros_0f7a4_8 (by decide) ?_
      refine lv_goto (tgt := 14) hx hb dJ6_numberOfLeadingZeros_0f7a4_10 (by decide) ?_
      exact g_reti S h hr hlocks rfl (by first | (simp only [f_J6_numberOfLeadingZeros_0f7a4, if_neg c10, if_pos c14]; done) | (simp only [f_J6_numberOfLeadingZeros_0f7a4, if_neg c10, if_pos c14]; rfl) | rfl) rfl dJ6_numberOfLeadingZeros_0f7a4_14
