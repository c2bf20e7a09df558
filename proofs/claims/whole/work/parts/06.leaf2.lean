def f_nz (k : Nat) (M : Int32) (q : Int32 × Int32) : Int32 × Int32 := if q.2 < M then q else (q.1 + Int32.ofInt (-(k : Int)), (q.2.toUInt32 >>> ((Int32.ofNat k).toUInt32 &&& Int32.toUInt32 31)).toInt32)
def f_nz4 (q : Int32 × Int32) : Int32 × Int32 := f_nz 2 4 (f_nz 4 16 (f_nz 8 256 (f_nz 16 65536 q)))
def f_nlz (x : Int32) : Int32 := if 0 < x then (f_nz4 (31, x)).1 - ((f_nz4 (31, x)).2.toUInt32 >>> ((1 : Int32).toUInt32 &&& Int32.toUInt32 31)).toInt32 else if x = 0 then 32 else 0
def f_fm (x y : Int32) : Int32 := if 0 ≤ x ^^^ y then x - x / y * y else if x - x / y * y = 0 then x - x / y * y else x - x / y * y + y
set_option maxHeartbeats 4000000 in
set_option maxRecDepth 100000 in
/-- Integer.numberOfLeadingZeros(x) -/
theorem c_J6_numberOfLeadingZeros_0f7a4 (l : Launch) (D : va_G) (L : Nat → Nat) (cy : Nat → ClassId) (X : va_W) (A : Nat → Prop) (st : gSt) (hD : va_D A (X ++ gW L cy st)) (x : Int32) : gMi l yJ6_numberOfLeadingZeros_0f7a4 wsJ6_numberOfLeadingZeros_0f7a4 { frames := 0, cells := 0, slots := 0, locals := 0 } D L cy X A [.int x] st (f_nlz x) st := by
  refine g_entry hD (cc := cJ6_numberOfLeadingZeros_0f7a4) (maxL := 2) (ret := (some .int)) (by decide) rfl (Nat.le_of_ble_eq_true rfl) ?_
  intro p e s m args below meth c ls B
  obtain ⟨S, hr, hlocks, h, hl⟩ := B
  have hx := S.1
  have hb := S.2.1
  have hts := S.2.2.2.2
  have hl : lv_has ls 2 [(0, .int x)] := hl
  refine lv_iload_n hx hb dJ6_numberOfLeadingZeros_0f7a4_0 rfl (lv_at hl 0 rfl) ?_
  refine lv_if_gt (tgt := 15) hx hb dJ6_numberOfLeadingZeros_0f7a4_1 (by decide) (fun c1 => ?_) (fun c1 => ?_)
  · refine lv_bipush (v := 31) hx hb dJ6_numberOfLeadingZeros_0f7a4_15 (by decide) ?_
    refine lv_istore_n (lv' := [(1, .int 31), (0, .int x)]) hx hb dJ6_numberOfLeadingZeros_0f7a4_17 rfl hl (by decide) rfl (fun ls hl => ?_)
    refine lv_iload_n hx hb dJ6_numberOfLeadingZeros_0f7a4_18 rfl (lv_at hl 1 rfl) ?_
    refine lv_ldcw (v := 65536) hx hb S.2.2.2.1 (hts (.constant RJ6 264 65536) (by decide +kernel)) dJ6_numberOfLeadingZeros_0f7a4_19 ?_
    refine lv_icmp_lt (tgt := 33) hx hb dJ6_numberOfLeadingZeros_0f7a4_22 (by decide) (fun c2 => ?_) (fun c2 => ?_)
    · refine lv_iload_n hx hb dJ6_numberOfLeadingZeros_0f7a4_33 rfl (lv_at hl 1 rfl) ?_
      refine lv_sipush (v := 256) hx hb dJ6_numberOfLeadingZeros_0f7a4_34 (by decide) ?_
      refine lv_icmp_lt (tgt := 48) hx hb dJ6_numberOfLeadingZeros_0f7a4_37 (by decide) (fun c3 => ?_) (fun c3 => ?_)
      · refine lv_iload_n hx hb dJ6_numberOfLeadingZeros_0f7a4_48 rfl (lv_at hl 1 rfl) ?_
        refine lv_bipush (v := 16) hx hb dJ6_numberOfLeadingZeros_0f7a4_49 (by decide) ?_
        refine lv_icmp_lt (tgt := 61) hx hb dJ6_numberOfLeadingZeros_0f7a4_51 (by decide) (fun c4 => ?_) (fun c4 => ?_)
        · refine lv_iload_n hx hb dJ6_numberOfLeadingZeros_0f7a4_61 rfl (lv_at hl 1 rfl) ?_
          refine lv_iconst (v := 4) hx hb dJ6_numberOfLeadingZeros_0f7a4_62 (by decide) ?_
          refine lv_icmp_lt (tgt := 73) hx hb dJ6_numberOfLeadingZeros_0f7a4_63 (by decide) (fun c5 => ?_) (fun c5 => ?_)
          · refine lv_iload_n hx hb dJ6_numberOfLeadingZeros_0f7a4_73 rfl (lv_at hl 0 rfl) ?_
            refine lv_iload_n hx hb dJ6_numberOfLeadingZeros_0f7a4_74 rfl (lv_at hl 1 rfl) ?_
            refine lv_iconst (v := 1) hx hb dJ6_numberOfLeadingZeros_0f7a4_75 (by decide) ?_
            refine lv_iushr hx hb dJ6_numberOfLeadingZeros_0f7a4_76 rfl ?_
            refine lv_isub hx hb dJ6_numberOfLeadingZeros_0f7a4_77 ?_
            exact g_reti S h hr hlocks rfl (by unfold f_nlz; rw [if_pos c1]; simp only [f_nz4, f_nz, if_pos c2, if_pos c3, if_pos c4, if_pos c5]; rfl) rfl dJ6_numberOfLeadingZeros_0f7a4_78
          · obtain ⟨x6, ex6⟩ : ∃ zz : Int32, zz = 31 + (-2) := ⟨_, rfl⟩
            refine lv_iinc (v := x6) (lv' := [(1, .int x6), (0, .int x)]) hx hb dJ6_numberOfLeadingZeros_0f7a4_66 hl (k := 0) rfl (by rw [ex6]; rfl) (by decide) rfl (fun ls hl => ?_)
            refine lv_iload_n hx hb dJ6_numberOfLeadingZeros_0f7a4_69 rfl (lv_at hl 1 rfl) ?_
            refine lv_iconst (v := 2) hx hb dJ6_numberOfLeadingZeros_0f7a4_70 (by decide) ?_
            refine lv_iushr hx hb dJ6_numberOfLeadingZeros_0f7a4_71 rfl ?_
            refine lv_topi (fun x7 ex7 => ?_)
            refine lv_istore_n (lv' := [(0, .int x7), (1, .int x6)]) hx hb dJ6_numberOfLeadingZeros_0f7a4_72 rfl hl (by decide) rfl (fun ls hl => ?_)
            refine lv_iload_n hx hb dJ6_numberOfLeadingZeros_0f7a4_73 rfl (lv_at hl 1 rfl) ?_
            refine lv_iload_n hx hb dJ6_numberOfLeadingZeros_0f7a4_74 rfl (lv_at hl 0 rfl) ?_
            refine lv_iconst (v := 1) hx hb dJ6_numberOfLeadingZeros_0f7a4_75 (by decide) ?_
            refine lv_iushr hx hb dJ6_numberOfLeadingZeros_0f7a4_76 rfl ?_
            refine lv_isub hx hb dJ6_numberOfLeadingZeros_0f7a4_77 ?_
            exact g_reti S h hr hlocks rfl (by subst ex6 ex7; unfold f_nlz; rw [if_pos c1]; simp only [f_nz4, f_nz, if_pos c2, if_pos c3, if_pos c4, if_neg c5]; rfl) rfl dJ6_numberOfLeadingZeros_0f7a4_78
        · obtain ⟨x8, ex8⟩ : ∃ zz : Int32, zz = 31 + (-4) := ⟨_, rfl⟩
          refine lv_iinc (v := x8) (lv' := [(1, .int x8), (0, .int x)]) hx hb dJ6_numberOfLeadingZeros_0f7a4_54 hl (k := 0) rfl (by rw [ex8]; rfl) (by decide) rfl (fun ls hl => ?_)
          refine lv_iload_n hx hb dJ6_numberOfLeadingZeros_0f7a4_57 rfl (lv_at hl 1 rfl) ?_
          refine lv_iconst (v := 4) hx hb dJ6_numberOfLeadingZeros_0f7a4_58 (by decide) ?_
          refine lv_iushr hx hb dJ6_numberOfLeadingZeros_0f7a4_59 rfl ?_
          refine lv_topi (fun x9 ex9 => ?_)
          refine lv_istore_n (lv' := [(0, .int x9), (1, .int x8)]) hx hb dJ6_numberOfLeadingZeros_0f7a4_60 rfl hl (by decide) rfl (fun ls hl => ?_)
          refine lv_iload_n hx hb dJ6_numberOfLeadingZeros_0f7a4_61 rfl (lv_at hl 0 rfl) ?_
          refine lv_iconst (v := 4) hx hb dJ6_numberOfLeadingZeros_0f7a4_62 (by decide) ?_
          refine lv_icmp_lt (tgt := 73) hx hb dJ6_numberOfLeadingZeros_0f7a4_63 (by decide) (fun c10 => ?_) (fun c10 => ?_)
          · refine lv_iload_n hx hb dJ6_numberOfLeadingZeros_0f7a4_73 rfl (lv_at hl 1 rfl) ?_
            refine lv_iload_n hx hb dJ6_numberOfLeadingZeros_0f7a4_74 rfl (lv_at hl 0 rfl) ?_
            refine lv_iconst (v := 1) hx hb dJ6_numberOfLeadingZeros_0f7a4_75 (by decide) ?_
            refine lv_iushr hx hb dJ6_numberOfLeadingZeros_0f7a4_76 rfl ?_
            refine lv_isub hx hb dJ6_numberOfLeadingZeros_0f7a4_77 ?_
            exact g_reti S h hr hlocks rfl (by subst ex8 ex9; unfold f_nlz; rw [if_pos c1]; simp only [f_nz4, f_nz, if_pos c2, if_pos c3, if_neg c4, if_pos c10]; rfl) rfl dJ6_numberOfLeadingZeros_0f7a4_78
          · obtain ⟨x11, ex11⟩ : ∃ zz : Int32, zz = x8 + (-2) := ⟨_, rfl⟩
            refine lv_iinc (v := x11) (lv' := [(1, .int x11), (0, .int x9)]) hx hb dJ6_numberOfLeadingZeros_0f7a4_66 hl (k := 1) rfl (by rw [ex11]; rfl) (by decide) rfl (fun ls hl => ?_)
            refine lv_iload_n hx hb dJ6_numberOfLeadingZeros_0f7a4_69 rfl (lv_at hl 1 rfl) ?_
            refine lv_iconst (v := 2) hx hb dJ6_numberOfLeadingZeros_0f7a4_70 (by decide) ?_
            refine lv_iushr hx hb dJ6_numberOfLeadingZeros_0f7a4_71 rfl ?_
            refine lv_topi (fun x12 ex12 => ?_)
            refine lv_istore_n (lv' := [(0, .int x12), (1, .int x11)]) hx hb dJ6_numberOfLeadingZeros_0f7a4_72 rfl hl (by decide) rfl (fun ls hl => ?_)
            refine lv_iload_n hx hb dJ6_numberOfLeadingZeros_0f7a4_73 rfl (lv_at hl 1 rfl) ?_
            refine lv_iload_n hx hb dJ6_numberOfLeadingZeros_0f7a4_74 rfl (lv_at hl 0 rfl) ?_
            refine lv_iconst (v := 1) hx hb dJ6_numberOfLeadingZeros_0f7a4_75 (by decide) ?_
            refine lv_iushr hx hb dJ6_numberOfLeadingZeros_0f7a4_76 rfl ?_
            refine lv_isub hx hb dJ6_numberOfLeadingZeros_0f7a4_77 ?_
            exact g_reti S h hr hlocks rfl (by subst ex8 ex9 ex11 ex12; unfold f_nlz; rw [if_pos c1]; simp only [f_nz4, f_nz, if_pos c2, if_pos c3, if_neg c4, if_neg c10]; rfl) rfl dJ6_numberOfLeadingZeros_0f7a4_78
      · obtain ⟨x13, ex13⟩ : ∃ zz : Int32, zz = 31 + (-8) := ⟨_, rfl⟩
        refine lv_iinc (v := x13) (lv' := [(1, .int x13), (0, .int x)]) hx hb dJ6_numberOfLeadingZeros_0f7a4_40 hl (k := 0) rfl (by rw [ex13]; rfl) (by decide) rfl (fun ls hl => ?_)
        refine lv_iload_n hx hb dJ6_numberOfLeadingZeros_0f7a4_43 rfl (lv_at hl 1 rfl) ?_
        refine lv_bipush (v := 8) hx hb dJ6_numberOfLeadingZeros_0f7a4_44 (by decide) ?_
        refine lv_iushr hx hb dJ6_numberOfLeadingZeros_0f7a4_46 rfl ?_
        refine lv_topi (fun x14 ex14 => ?_)
        refine lv_istore_n (lv' := [(0, .int x14), (1, .int x13)]) hx hb dJ6_numberOfLeadingZeros_0f7a4_47 rfl hl (by decide) rfl (fun ls hl => ?_)
        refine lv_iload_n hx hb dJ6_numberOfLeadingZeros_0f7a4_48 rfl (lv_at hl 0 rfl) ?_
        refine lv_bipush (v := 16) hx hb dJ6_numberOfLeadingZeros_0f7a4_49 (by decide) ?_
        refine lv_icmp_lt (tgt := 61) hx hb dJ6_numberOfLeadingZeros_0f7a4_51 (by decide) (fun c15 => ?_) (fun c15 => ?_)
        · refine lv_iload_n hx hb dJ6_numberOfLeadingZeros_0f7a4_61 rfl (lv_at hl 0 rfl) ?_
          refine lv_iconst (v := 4) hx hb dJ6_numberOfLeadingZeros_0f7a4_62 (by decide) ?_
          refine lv_icmp_lt (tgt := 73) hx hb dJ6_numberOfLeadingZeros_0f7a4_63 (by decide) (fun c16 => ?_) (fun c16 => ?_)
          · refine lv_iload_n hx hb dJ6_numberOfLeadingZeros_0f7a4_73 rfl (lv_at hl 1 rfl) ?_
            refine lv_iload_n hx hb dJ6_numberOfLeadingZeros_0f7a4_74 rfl (lv_at hl 0 rfl) ?_
            refine lv_iconst (v := 1) hx hb dJ6_numberOfLeadingZeros_0f7a4_75 (by decide) ?_
            refine lv_iushr hx hb dJ6_numberOfLeadingZeros_0f7a4_76 rfl ?_
            refine lv_isub hx hb dJ6_numberOfLeadingZeros_0f7a4_77 ?_
            exact g_reti S h hr hlocks rfl (by subst ex13 ex14; unfold f_nlz; rw [if_pos c1]; simp only [f_nz4, f_nz, if_pos c2, if_neg c3, if_pos c15, if_pos c16]; rfl) rfl dJ6_numberOfLeadingZeros_0f7a4_78
          · obtain ⟨x17, ex17⟩ : ∃ zz : Int32, zz = x13 + (-2) := ⟨_, rfl⟩
            refine lv_iinc (v := x17) (lv' := [(1, .int x17), (0, .int x14)]) hx hb dJ6_numberOfLeadingZeros_0f7a4_66 hl (k := 1) rfl (by rw [ex17]; rfl) (by decide) rfl (fun ls hl => ?_)
            refine lv_iload_n hx hb dJ6_numberOfLeadingZeros_0f7a4_69 rfl (lv_at hl 1 rfl) ?_
            refine lv_iconst (v := 2) hx hb dJ6_numberOfLeadingZeros_0f7a4_70 (by decide) ?_
            refine lv_iushr hx hb dJ6_numberOfLeadingZeros_0f7a4_71 rfl ?_
            refine lv_topi (fun x18 ex18 => ?_)
            refine lv_istore_n (lv' := [(0, .int x18), (1, .int x17)]) hx hb dJ6_numberOfLeadingZeros_0f7a4_72 rfl hl (by decide) rfl (fun ls hl => ?_)
            refine lv_iload_n hx hb dJ6_numberOfLeadingZeros_0f7a4_73 rfl (lv_at hl 1 rfl) ?_
            refine lv_iload_n hx hb dJ6_numberOfLeadingZeros_0f7a4_74 rfl (lv_at hl 0 rfl) ?_
            refine lv_iconst (v := 1) hx hb dJ6_numberOfLeadingZeros_0f7a4_75 (by decide) ?_
            refine lv_iushr hx hb dJ6_numberOfLeadingZeros_0f7a4_76 rfl ?_
            refine lv_isub hx hb dJ6_numberOfLeadingZeros_0f7a4_77 ?_
            exact g_reti S h hr hlocks rfl (by subst ex13 ex14 ex17 ex18; unfold f_nlz; rw [if_pos c1]; simp only [f_nz4, f_nz, if_pos c2, if_neg c3, if_pos c15, if_neg c16]; rfl) rfl dJ6_numberOfLeadingZeros_0f7a4_78
        · obtain ⟨x19, ex19⟩ : ∃ zz : Int32, zz = x13 + (-4) := ⟨_, rfl⟩
          refine lv_iinc (v := x19) (lv' := [(1, .int x19), (0, .int x14)]) hx hb dJ6_numberOfLeadingZeros_0f7a4_54 hl (k := 1) rfl (by rw [ex19]; rfl) (by decide) rfl (fun ls hl => ?_)
          refine lv_iload_n hx hb dJ6_numberOfLeadingZeros_0f7a4_57 rfl (lv_at hl 1 rfl) ?_
          refine lv_iconst (v := 4) hx hb dJ6_numberOfLeadingZeros_0f7a4_58 (by decide) ?_
          refine lv_iushr hx hb dJ6_numberOfLeadingZeros_0f7a4_59 rfl ?_
          refine lv_topi (fun x20 ex20 => ?_)
          refine lv_istore_n (lv' := [(0, .int x20), (1, .int x19)]) hx hb dJ6_numberOfLeadingZeros_0f7a4_60 rfl hl (by decide) rfl (fun ls hl => ?_)
          refine lv_iload_n hx hb dJ6_numberOfLeadingZeros_0f7a4_61 rfl (lv_at hl 0 rfl) ?_
          refine lv_iconst (v := 4) hx hb dJ6_numberOfLeadingZeros_0f7a4_62 (by decide) ?_
          refine lv_icmp_lt (tgt := 73) hx hb dJ6_numberOfLeadingZeros_0f7a4_63 (by decide) (fun c21 => ?_) (fun c21 => ?_)
          · refine lv_iload_n hx hb dJ6_numberOfLeadingZeros_0f7a4_73 rfl (lv_at hl 1 rfl) ?_
            refine lv_iload_n hx hb dJ6_numberOfLeadingZeros_0f7a4_74 rfl (lv_at hl 0 rfl) ?_
            refine lv_iconst (v := 1) hx hb dJ6_numberOfLeadingZeros_0f7a4_75 (by decide) ?_
            refine lv_iushr hx hb dJ6_numberOfLeadingZeros_0f7a4_76 rfl ?_
            refine lv_isub hx hb dJ6_numberOfLeadingZeros_0f7a4_77 ?_
            exact g_reti S h hr hlocks rfl (by subst ex13 ex14 ex19 ex20; unfold f_nlz; rw [if_pos c1]; simp only [f_nz4, f_nz, if_pos c2, if_neg c3, if_neg c15, if_pos c21]; rfl) rfl dJ6_numberOfLeadingZeros_0f7a4_78
          · obtain ⟨x22, ex22⟩ : ∃ zz : Int32, zz = x19 + (-2) := ⟨_, rfl⟩
            refine lv_iinc (v := x22) (lv' := [(1, .int x22), (0, .int x20)]) hx hb dJ6_numberOfLeadingZeros_0f7a4_66 hl (k := 1) rfl (by rw [ex22]; rfl) (by decide) rfl (fun ls hl => ?_)
            refine lv_iload_n hx hb dJ6_numberOfLeadingZeros_0f7a4_69 rfl (lv_at hl 1 rfl) ?_
            refine lv_iconst (v := 2) hx hb dJ6_numberOfLeadingZeros_0f7a4_70 (by decide) ?_
            refine lv_iushr hx hb dJ6_numberOfLeadingZeros_0f7a4_71 rfl ?_
            refine lv_topi (fun x23 ex23 => ?_)
            refine lv_istore_n (lv' := [(0, .int x23), (1, .int x22)]) hx hb dJ6_numberOfLeadingZeros_0f7a4_72 rfl hl (by decide) rfl (fun ls hl => ?_)
            refine lv_iload_n hx hb dJ6_numberOfLeadingZeros_0f7a4_73 rfl (lv_at hl 1 rfl) ?_
            refine lv_iload_n hx hb dJ6_numberOfLeadingZeros_0f7a4_74 rfl (lv_at hl 0 rfl) ?_
            refine lv_iconst (v := 1) hx hb dJ6_numberOfLeadingZeros_0f7a4_75 (by decide) ?_
            refine lv_iushr hx hb dJ6_numberOfLeadingZeros_0f7a4_76 rfl ?_
            refine lv_isub hx hb dJ6_numberOfLeadingZeros_0f7a4_77 ?_
            exact g_reti S h hr hlocks rfl (by subst ex13 ex14 ex19 ex20 ex22 ex23; unfold f_nlz; rw [if_pos c1]; simp only [f_nz4, f_nz, if_pos c2, if_neg c3, if_neg c15, if_neg c21]; rfl) rfl dJ6_numberOfLeadingZeros_0f7a4_78
    · obtain ⟨x24, ex24⟩ : ∃ zz : Int32, zz = 31 + (-16) := ⟨_, rfl⟩
      refine lv_iinc (v := x24) (lv' := [(1, .int x24), (0, .int x)]) hx hb dJ6_numberOfLeadingZeros_0f7a4_25 hl (k := 0) rfl (by rw [ex24]; rfl) (by decide) rfl (fun ls hl => ?_)
      refine lv_iload_n hx hb dJ6_numberOfLeadingZeros_0f7a4_28 rfl (lv_at hl 1 rfl) ?_
      refine lv_bipush (v := 16) hx hb dJ6_numberOfLeadingZeros_0f7a4_29 (by decide) ?_
      refine lv_iushr hx hb dJ6_numberOfLeadingZeros_0f7a4_31 rfl ?_
      refine lv_topi (fun x25 ex25 => ?_)
      refine lv_istore_n (lv' := [(0, .int x25), (1, .int x24)]) hx hb dJ6_numberOfLeadingZeros_0f7a4_32 rfl hl (by decide) rfl (fun ls hl => ?_)
      refine lv_iload_n hx hb dJ6_numberOfLeadingZeros_0f7a4_33 rfl (lv_at hl 0 rfl) ?_
      refine lv_sipush (v := 256) hx hb dJ6_numberOfLeadingZeros_0f7a4_34 (by decide) ?_
      refine lv_icmp_lt (tgt := 48) hx hb dJ6_numberOfLeadingZeros_0f7a4_37 (by decide) (fun c26 => ?_) (fun c26 => ?_)
      · refine lv_iload_n hx hb dJ6_numberOfLeadingZeros_0f7a4_48 rfl (lv_at hl 0 rfl) ?_
        refine lv_bipush (v := 16) hx hb dJ6_numberOfLeadingZeros_0f7a4_49 (by decide) ?_
        refine lv_icmp_lt (tgt := 61) hx hb dJ6_numberOfLeadingZeros_0f7a4_51 (by decide) (fun c27 => ?_) (fun c27 => ?_)
        · refine lv_iload_n hx hb dJ6_numberOfLeadingZeros_0f7a4_61 rfl (lv_at hl 0 rfl) ?_
          refine lv_iconst (v := 4) hx hb dJ6_numberOfLeadingZeros_0f7a4_62 (by decide) ?_
          refine lv_icmp_lt (tgt := 73) hx hb dJ6_numberOfLeadingZeros_0f7a4_63 (by decide) (fun c28 => ?_) (fun c28 => ?_)
          · refine lv_iload_n hx hb dJ6_numberOfLeadingZeros_0f7a4_73 rfl (lv_at hl 1 rfl) ?_
            refine lv_iload_n hx hb dJ6_numberOfLeadingZeros_0f7a4_74 rfl (lv_at hl 0 rfl) ?_
            refine lv_iconst (v := 1) hx hb dJ6_numberOfLeadingZeros_0f7a4_75 (by decide) ?_
            refine lv_iushr hx hb dJ6_numberOfLeadingZeros_0f7a4_76 rfl ?_
            refine lv_isub hx hb dJ6_numberOfLeadingZeros_0f7a4_77 ?_
            exact g_reti S h hr hlocks rfl (by subst ex24 ex25; unfold f_nlz; rw [if_pos c1]; simp only [f_nz4, f_nz, if_neg c2, if_pos c26, if_pos c27, if_pos c28]; rfl) rfl dJ6_numberOfLeadingZeros_0f7a4_78
          · obtain ⟨x29, ex29⟩ : ∃ zz : Int32, zz = x24 + (-2) := ⟨_, rfl⟩
            refine lv_iinc (v := x29) (lv' := [(1, .int x29), (0, .int x25)]) hx hb dJ6_numberOfLeadingZeros_0f7a4_66 hl (k := 1) rfl (by rw [ex29]; rfl) (by decide) rfl (fun ls hl => ?_)
            refine lv_iload_n hx hb dJ6_numberOfLeadingZeros_0f7a4_69 rfl (lv_at hl 1 rfl) ?_
            refine lv_iconst (v := 2) hx hb dJ6_numberOfLeadingZeros_0f7a4_70 (by decide) ?_
            refine lv_iushr hx hb dJ6_numberOfLeadingZeros_0f7a4_71 rfl ?_
            refine lv_topi (fun x30 ex30 => ?_)
            refine lv_istore_n (lv' := [(0, .int x30), (1, .int x29)]) hx hb dJ6_numberOfLeadingZeros_0f7a4_72 rfl hl (by decide) rfl (fun ls hl => ?_)
            refine lv_iload_n hx hb dJ6_numberOfLeadingZeros_0f7a4_73 rfl (lv_at hl 1 rfl) ?_
            refine lv_iload_n hx hb dJ6_numberOfLeadingZeros_0f7a4_74 rfl (lv_at hl 0 rfl) ?_
            refine lv_iconst (v := 1) hx hb dJ6_numberOfLeadingZeros_0f7a4_75 (by decide) ?_
            refine lv_iushr hx hb dJ6_numberOfLeadingZeros_0f7a4_76 rfl ?_
            refine lv_isub hx hb dJ6_numberOfLeadingZeros_0f7a4_77 ?_
            exact g_reti S h hr hlocks rfl (by subst ex24 ex25 ex29 ex30; unfold f_nlz; rw [if_pos c1]; simp only [f_nz4, f_nz, if_neg c2, if_pos c26, if_pos c27, if_neg c28]; rfl) rfl dJ6_numberOfLeadingZeros_0f7a4_78
        · obtain ⟨x31, ex31⟩ : ∃ zz : Int32, zz = x24 + (-4) := ⟨_, rfl⟩
          refine lv_iinc (v := x31) (lv' := [(1, .int x31), (0, .int x25)]) hx hb dJ6_numberOfLeadingZeros_0f7a4_54 hl (k := 1) rfl (by rw [ex31]; rfl) (by decide) rfl (fun ls hl => ?_)
          refine lv_iload_n hx hb dJ6_numberOfLeadingZeros_0f7a4_57 rfl (lv_at hl 1 rfl) ?_
          refine lv_iconst (v := 4) hx hb dJ6_numberOfLeadingZeros_0f7a4_58 (by decide) ?_
          refine lv_iushr hx hb dJ6_numberOfLeadingZeros_0f7a4_59 rfl ?_
          refine lv_topi (fun x32 ex32 => ?_)
          refine lv_istore_n (lv' := [(0, .int x32), (1, .int x31)]) hx hb dJ6_numberOfLeadingZeros_0f7a4_60 rfl hl (by decide) rfl (fun ls hl => ?_)
          refine lv_iload_n hx hb dJ6_numberOfLeadingZeros_0f7a4_61 rfl (lv_at hl 0 rfl) ?_
          refine lv_iconst (v := 4) hx hb dJ6_numberOfLeadingZeros_0f7a4_62 (by decide) ?_
          refine lv_icmp_lt (tgt := 73) hx hb dJ6_numberOfLeadingZeros_0f7a4_63 (by decide) (fun c33 => ?_) (fun c33 => ?_)
          · refine lv_iload_n hx hb dJ6_numberOfLeadingZeros_0f7a4_73 rfl (lv_at hl 1 rfl) ?_
            refine lv_iload_n hx hb dJ6_numberOfLeadingZeros_0f7a4_74 rfl (lv_at hl 0 rfl) ?_
            refine lv_iconst (v := 1) hx hb dJ6_numberOfLeadingZeros_0f7a4_75 (by decide) ?_
            refine lv_iushr hx hb dJ6_numberOfLeadingZeros_0f7a4_76 rfl ?_
            refine lv_isub hx hb dJ6_numberOfLeadingZeros_0f7a4_77 ?_
            exact g_reti S h hr hlocks rfl (by subst ex24 ex25 ex31 ex32; unfold f_nlz; rw [if_pos c1]; simp only [f_nz4, f_nz, if_neg c2, if_pos c26, if_neg c27, if_pos c33]; rfl) rfl dJ6_numberOfLeadingZeros_0f7a4_78
          · obtain ⟨x34, ex34⟩ : ∃ zz : Int32, zz = x31 + (-2) := ⟨_, rfl⟩
            refine lv_iinc (v := x34) (lv' := [(1, .int x34), (0, .int x32)]) hx hb dJ6_numberOfLeadingZeros_0f7a4_66 hl (k := 1) rfl (by rw [ex34]; rfl) (by decide) rfl (fun ls hl => ?_)
            refine lv_iload_n hx hb dJ6_numberOfLeadingZeros_0f7a4_69 rfl (lv_at hl 1 rfl) ?_
            refine lv_iconst (v := 2) hx hb dJ6_numberOfLeadingZeros_0f7a4_70 (by decide) ?_
            refine lv_iushr hx hb dJ6_numberOfLeadingZeros_0f7a4_71 rfl ?_
            refine lv_topi (fun x35 ex35 => ?_)
            refine lv_istore_n (lv' := [(0, .int x35), (1, .int x34)]) hx hb dJ6_numberOfLeadingZeros_0f7a4_72 rfl hl (by decide) rfl (fun ls hl => ?_)
            refine lv_iload_n hx hb dJ6_numberOfLeadingZeros_0f7a4_73 rfl (lv_at hl 1 rfl) ?_
            refine lv_iload_n hx hb dJ6_numberOfLeadingZeros_0f7a4_74 rfl (lv_at hl 0 rfl) ?_
            refine lv_iconst (v := 1) hx hb dJ6_numberOfLeadingZeros_0f7a4_75 (by decide) ?_
            refine lv_iushr hx hb dJ6_numberOfLeadingZeros_0f7a4_76 rfl ?_
            refine lv_isub hx hb dJ6_numberOfLeadingZeros_0f7a4_77 ?_
            exact g_reti S h hr hlocks rfl (by subst ex24 ex25 ex31 ex32 ex34 ex35; unfold f_nlz; rw [if_pos c1]; simp only [f_nz4, f_nz, if_neg c2, if_pos c26, if_neg c27, if_neg c33]; rfl) rfl dJ6_numberOfLeadingZeros_0f7a4_78
      · obtain ⟨x36, ex36⟩ : ∃ zz : Int32, zz = x24 + (-8) := ⟨_, rfl⟩
        refine lv_iinc (v := x36) (lv' := [(1, .int x36), (0, .int x25)]) hx hb dJ6_numberOfLeadingZeros_0f7a4_40 hl (k := 1) rfl (by rw [ex36]; rfl) (by decide) rfl (fun ls hl => ?_)
        refine lv_iload_n hx hb dJ6_numberOfLeadingZeros_0f7a4_43 rfl (lv_at hl 1 rfl) ?_
        refine lv_bipush (v := 8) hx hb dJ6_numberOfLeadingZeros_0f7a4_44 (by decide) ?_
        refine lv_iushr hx hb dJ6_numberOfLeadingZeros_0f7a4_46 rfl ?_
        refine lv_topi (fun x37 ex37 => ?_)
        refine lv_istore_n (lv' := [(0, .int x37), (1, .int x36)]) hx hb dJ6_numberOfLeadingZeros_0f7a4_47 rfl hl (by decide) rfl (fun ls hl => ?_)
        refine lv_iload_n hx hb dJ6_numberOfLeadingZeros_0f7a4_48 rfl (lv_at hl 0 rfl) ?_
        refine lv_bipush (v := 16) hx hb dJ6_numberOfLeadingZeros_0f7a4_49 (by decide) ?_
        refine lv_icmp_lt (tgt := 61) hx hb dJ6_numberOfLeadingZeros_0f7a4_51 (by decide) (fun c38 => ?_) (fun c38 => ?_)
        · refine lv_iload_n hx hb dJ6_numberOfLeadingZeros_0f7a4_61 rfl (lv_at hl 0 rfl) ?_
          refine lv_iconst (v := 4) hx hb dJ6_numberOfLeadingZeros_0f7a4_62 (by decide) ?_
          refine lv_icmp_lt (tgt := 73) hx hb dJ6_numberOfLeadingZeros_0f7a4_63 (by decide) (fun c39 => ?_) (fun c39 => ?_)
          · refine lv_iload_n hx hb dJ6_numberOfLeadingZeros_0f7a4_73 rfl (lv_at hl 1 rfl) ?_
            refine lv_iload_n hx hb dJ6_numberOfLeadingZeros_0f7a4_74 rfl (lv_at hl 0 rfl) ?_
            refine lv_iconst (v := 1) hx hb dJ6_numberOfLeadingZeros_0f7a4_75 (by decide) ?_
            refine lv_iushr hx hb dJ6_numberOfLeadingZeros_0f7a4_76 rfl ?_
            refine lv_isub hx hb dJ6_numberOfLeadingZeros_0f7a4_77 ?_
            exact g_reti S h hr hlocks rfl (by subst ex24 ex25 ex36 ex37; unfold f_nlz; rw [if_pos c1]; simp only [f_nz4, f_nz, if_neg c2, if_neg c26, if_pos c38, if_pos c39]; rfl) rfl dJ6_numberOfLeadingZeros_0f7a4_78
          · obtain ⟨x40, ex40⟩ : ∃ zz : Int32, zz = x36 + (-2) := ⟨_, rfl⟩
            refine lv_iinc (v := x40) (lv' := [(1, .int x40), (0, .int x37)]) hx hb dJ6_numberOfLeadingZeros_0f7a4_66 hl (k := 1) rfl (by rw [ex40]; rfl) (by decide) rfl (fun ls hl => ?_)
            refine lv_iload_n hx hb dJ6_numberOfLeadingZeros_0f7a4_69 rfl (lv_at hl 1 rfl) ?_
            refine lv_iconst (v := 2) hx hb dJ6_numberOfLeadingZeros_0f7a4_70 (by decide) ?_
            refine lv_iushr hx hb dJ6_numberOfLeadingZeros_0f7a4_71 rfl ?_
            refine lv_topi (fun x41 ex41 => ?_)
            refine lv_istore_n (lv' := [(0, .int x41), (1, .int x40)]) hx hb dJ6_numberOfLeadingZeros_0f7a4_72 rfl hl (by decide) rfl (fun ls hl => ?_)
            refine lv_iload_n hx hb dJ6_numberOfLeadingZeros_0f7a4_73 rfl (lv_at hl 1 rfl) ?_
            refine lv_iload_n hx hb dJ6_numberOfLeadingZeros_0f7a4_74 rfl (lv_at hl 0 rfl) ?_
            refine lv_iconst (v := 1) hx hb dJ6_numberOfLeadingZeros_0f7a4_75 (by decide) ?_
            refine lv_iushr hx hb dJ6_numberOfLeadingZeros_0f7a4_76 rfl ?_
            refine lv_isub hx hb dJ6_numberOfLeadingZeros_0f7a4_77 ?_
            exact g_reti S h hr hlocks rfl (by subst ex24 ex25 ex36 ex37 ex40 ex41; unfold f_nlz; rw [if_pos c1]; simp only [f_nz4, f_nz, if_neg c2, if_neg c26, if_pos c38, if_neg c39]; rfl) rfl dJ6_numberOfLeadingZeros_0f7a4_78
        · obtain ⟨x42, ex42⟩ : ∃ zz : Int32, zz = x36 + (-4) := ⟨_, rfl⟩
          refine lv_iinc (v := x42) (lv' := [(1, .int x42), (0, .int x37)]) hx hb dJ6_numberOfLeadingZeros_0f7a4_54 hl (k := 1) rfl (by rw [ex42]; rfl) (by decide) rfl (fun ls hl => ?_)
          refine lv_iload_n hx hb dJ6_numberOfLeadingZeros_0f7a4_57 rfl (lv_at hl 1 rfl) ?_
          refine lv_iconst (v := 4) hx hb dJ6_numberOfLeadingZeros_0f7a4_58 (by decide) ?_
          refine lv_iushr hx hb dJ6_numberOfLeadingZeros_0f7a4_59 rfl ?_
          refine lv_topi (fun x43 ex43 => ?_)
          refine lv_istore_n (lv' := [(0, .int x43), (1, .int x42)]) hx hb dJ6_numberOfLeadingZeros_0f7a4_60 rfl hl (by decide) rfl (fun ls hl => ?_)
          refine lv_iload_n hx hb dJ6_numberOfLeadingZeros_0f7a4_61 rfl (lv_at hl 0 rfl) ?_
          refine lv_iconst (v := 4) hx hb dJ6_numberOfLeadingZeros_0f7a4_62 (by decide) ?_
          refine lv_icmp_lt (tgt := 73) hx hb dJ6_numberOfLeadingZeros_0f7a4_63 (by decide) (fun c44 => ?_) (fun c44 => ?_)
          · refine lv_iload_n hx hb dJ6_numberOfLeadingZeros_0f7a4_73 rfl (lv_at hl 1 rfl) ?_
            refine lv_iload_n hx hb dJ6_numberOfLeadingZeros_0f7a4_74 rfl (lv_at hl 0 rfl) ?_
            refine lv_iconst (v := 1) hx hb dJ6_numberOfLeadingZeros_0f7a4_75 (by decide) ?_
            refine lv_iushr hx hb dJ6_numberOfLeadingZeros_0f7a4_76 rfl ?_
            refine lv_isub hx hb dJ6_numberOfLeadingZeros_0f7a4_77 ?_
            exact g_reti S h hr hlocks rfl (by subst ex24 ex25 ex36 ex37 ex42 ex43; unfold f_nlz; rw [if_pos c1]; simp only [f_nz4, f_nz, if_neg c2, if_neg c26, if_neg c38, if_pos c44]; rfl) rfl dJ6_numberOfLeadingZeros_0f7a4_78
          · obtain ⟨x45, ex45⟩ : ∃ zz : Int32, zz = x42 + (-2) := ⟨_, rfl⟩
            refine lv_iinc (v := x45) (lv' := [(1, .int x45), (0, .int x43)]) hx hb dJ6_numberOfLeadingZeros_0f7a4_66 hl (k := 1) rfl (by rw [ex45]; rfl) (by decide) rfl (fun ls hl => ?_)
            refine lv_iload_n hx hb dJ6_numberOfLeadingZeros_0f7a4_69 rfl (lv_at hl 1 rfl) ?_
            refine lv_iconst (v := 2) hx hb dJ6_numberOfLeadingZeros_0f7a4_70 (by decide) ?_
            refine lv_iushr hx hb dJ6_numberOfLeadingZeros_0f7a4_71 rfl ?_
            refine lv_topi (fun x46 ex46 => ?_)
            refine lv_istore_n (lv' := [(0, .int x46), (1, .int x45)]) hx hb dJ6_numberOfLeadingZeros_0f7a4_72 rfl hl (by decide) rfl (fun ls hl => ?_)
            refine lv_iload_n hx hb dJ6_numberOfLeadingZeros_0f7a4_73 rfl (lv_at hl 1 rfl) ?_
            refine lv_iload_n hx hb dJ6_numberOfLeadingZeros_0f7a4_74 rfl (lv_at hl 0 rfl) ?_
            refine lv_iconst (v := 1) hx hb dJ6_numberOfLeadingZeros_0f7a4_75 (by decide) ?_
            refine lv_iushr hx hb dJ6_numberOfLeadingZeros_0f7a4_76 rfl ?_
            refine lv_isub hx hb dJ6_numberOfLeadingZeros_0f7a4_77 ?_
            exact g_reti S h hr hlocks rfl (by subst ex24 ex25 ex36 ex37 ex42 ex43 ex45 ex46; unfold f_nlz; rw [if_pos c1]; simp only [f_nz4, f_nz, if_neg c2, if_neg c26, if_neg c38, if_neg c44]; rfl) rfl dJ6_numberOfLeadingZeros_0f7a4_78
  · refine lv_iload_n hx hb dJ6_numberOfLeadingZeros_0f7a4_4 rfl (lv_at hl 0 rfl) ?_
    refine lv_if_ne (tgt := 13) hx hb dJ6_numberOfLeadingZeros_0f7a4_5 (by decide) (fun c47 => ?_) (fun c47 => ?_)
    · refine lv_iconst (v := 0) hx hb dJ6_numberOfLeadingZeros_0f7a4_13 (by decide) ?_
      exact g_reti S h hr hlocks rfl (by unfold f_nlz; rw [if_neg c1, if_neg c47]) rfl dJ6_numberOfLeadingZeros_0f7a4_14
    · refine lv_bipush (v := 32) hx hb dJ6_numberOfLeadingZeros_0f7a4_8 (by decide) ?_
      refine lv_goto (tgt := 14) hx hb dJ6_numberOfLeadingZeros_0f7a4_10 (by decide) ?_
      exact g_reti S h hr hlocks rfl (by unfold f_nlz; rw [if_neg c1, if_pos c47]) rfl dJ6_numberOfLeadingZeros_0f7a4_14
set_option maxHeartbeats 4000000 in
set_option maxRecDepth 100000 in
/-- Math.floorMod(x, y), y not 0 -/
theorem c_J9_floorMod_7cf53 (l : Launch) (D : va_G) (L : Nat → Nat) (cy : Nat → ClassId) (X : va_W) (A : Nat → Prop) (st : gSt) (hD : va_D A (X ++ gW L cy st)) (x y : Int32) (hy : ¬ y = 0) : gMi l yJ9_floorMod_7cf53 wsJ9_floorMod_7cf53 { frames := 0, cells := 0, slots := 0, locals := 0 } D L cy X A [.int x, .int y] st (f_fm x y) st := by
  refine g_entry hD (cc := cJ9_floorMod_7cf53) (maxL := 3) (ret := (some .int)) (by decide) rfl (Nat.le_of_ble_eq_true rfl) ?_
  intro p e s m args below meth c ls B
  obtain ⟨S, hr, hlocks, h, hl⟩ := B
  have hx := S.1
  have hb := S.2.1
  have hts := S.2.2.2.2
  have hl : lv_has ls 3 [(0, .int x), (1, .int y)] := hl
  refine lv_iload_n hx hb dJ9_floorMod_7cf53_0 rfl (lv_at hl 0 rfl) ?_
  refine lv_iload_n hx hb dJ9_floorMod_7cf53_1 rfl (lv_at hl 1 rfl) ?_
  refine lv_irem hx hb dJ9_floorMod_7cf53_2 hy ?_
  refine lv_topi (fun x1 ex1 => ?_)
  refine lv_istore_n (lv' := [(2, .int x1), (0, .int x), (1, .int y)]) hx hb dJ9_floorMod_7cf53_3 rfl hl (by decide) rfl (fun ls hl => ?_)
  refine lv_iload_n hx hb dJ9_floorMod_7cf53_4 rfl (lv_at hl 1 rfl) ?_
  refine lv_iload_n hx hb dJ9_floorMod_7cf53_5 rfl (lv_at hl 2 rfl) ?_
  refine lv_ixor hx hb dJ9_floorMod_7cf53_6 ?_
  refine lv_if_ge (tgt := 18) hx hb dJ9_floorMod_7cf53_7 (by decide) (fun c2 => ?_) (fun c2 => ?_)
  · refine lv_iload_n hx hb dJ9_floorMod_7cf53_18 rfl (lv_at hl 0 rfl) ?_
    exact g_reti S h hr hlocks rfl (by subst ex1; simp only [f_fm, if_pos c2]) rfl dJ9_floorMod_7cf53_19
  · refine lv_iload_n hx hb dJ9_floorMod_7cf53_10 rfl (lv_at hl 0 rfl) ?_
    refine lv_if_eq (tgt := 18) hx hb dJ9_floorMod_7cf53_11 (by decide) (fun c3 => ?_) (fun c3 => ?_)
    · refine lv_iload_n hx hb dJ9_floorMod_7cf53_18 rfl (lv_at hl 0 rfl) ?_
      exact g_reti S h hr hlocks rfl (by subst ex1; simp only [f_fm, if_neg c2, if_pos c3]) rfl dJ9_floorMod_7cf53_19
    · refine lv_iload_n hx hb dJ9_floorMod_7cf53_14 rfl (lv_at hl 0 rfl) ?_
      refine lv_iload_n hx hb dJ9_floorMod_7cf53_15 rfl (lv_at hl 2 rfl) ?_
      refine lv_iadd hx hb dJ9_floorMod_7cf53_16 ?_
      exact g_reti S h hr hlocks rfl (by subst ex1; simp only [f_fm, if_neg c2, if_neg c3]) rfl dJ9_floorMod_7cf53_17
theorem f_fm_in (x : Int32) : vp_in (f_fm x 20) 20 := by
  sorry
def f_fill (st : gSt) (a : Nat) (v : Int32) : Nat → gSt
  | 0 => st
  | k + 1 => gsu (f_fill st a v k) a k v
set_option maxHeartbeats 4000000 in
set_option maxRecDepth 100000 in
/-- Arrays.fill(int[20], v) -/
theorem c_J7_fill_53178_12 (l : Launch) (D : va_G) (L : Nat → Nat) (cy : Nat → ClassId) (X : va_W) (A : Nat → Prop) (st : gSt) (hD : va_D A (X ++ gW L cy st)) {i : Nat} (hi : gkd i = 12) (v : Int32) : gMv l yJ7_fill_53178 wsJ7_fill_53178 { frames := 0, cells := 0, slots := 0, locals := 0 } D L cy X A [.ref (L i), .int v] st (f_fill st i v 20) := by
  refine g_entry hD (cc := cJ7_fill_53178) (maxL := 4) (ret := none) (by decide) rfl (Nat.le_of_ble_eq_true rfl) ?_
  intro p e s m args below meth c ls B
  obtain ⟨S, hr, hlocks, h, hl⟩ := B
  have hx := S.1
  have hb := S.2.1
  have hts := S.2.2.2.2
  have hl : lv_has ls 4 [(0, .ref (L i)), (1, .int v)] := hl
  refine lv_iconst (v := 0) hx hb dJ7_fill_53178_0 (by decide) ?_
  refine lv_istore_n (lv' := [(2, .int 0), (0, .ref (L i)), (1, .int v)]) hx hb dJ7_fill_53178_1 rfl hl (by decide) rfl (fun ls hl => ?_)
  refine lv_aload_n hx hb dJ7_fill_53178_2 rfl (lv_at hl 1 rfl) ?_
  refine g_alen S h (t0 := 0) hi (by decide) rfl rfl rfl dJ7_fill_53178_3 ?_
  refine lv_istore_n (lv' := [(3, .int 20), (2, .int 0), (0, .ref (L i)), (1, .int v)]) hx hb dJ7_fill_53178_4 rfl hl (by decide) rfl (fun ls hl => ?_)
  have loop : ∀ (n : Nat) (k : Nat) (x : Int32), k ≤ 20 → 21 ≤ k + n → x = nI k → ∀ (H : Heap) (locs : List Loc) (ls : Array Slot), gH D L cy X A (f_fill st i v k) s H locs → lv_has ls 4 [(0, .ref (L i)), (1, .int v), (2, .int x), (3, .int 20)] → W p l e { frames := 0, cells := 0, slots := 0, locals := 0 } s m args below meth c H locs 0 0 (MQ below (va_Qv (fun (_ : Unit) => True) (fun _ t => va_P D vwCl (X ++ gW L cy (f_fill st i v 20)) t.heap) A) args s 0 0 A) (F0 m 5 ls []) := by
    intro n
    induction n with
    | zero => intros; omega
    | succ n ih =>
      intro k x hk hn ex H locs ls h hl
      refine lv_iload_n hx hb dJ7_fill_53178_5 rfl (lv_at hl 2 rfl) ?_
      refine lv_iload_n hx hb dJ7_fill_53178_6 rfl (lv_at hl 3 rfl) ?_
      refine lv_icmp_ge (tgt := 20) hx hb dJ7_fill_53178_7 (by decide) (fun c1 => ?_) (fun c1 => ?_)
      · exact g_retv S h hr hlocks (by have q := g_ge ex (M := 20) (n := 20) rfl (by omega) (by omega) c1; obtain rfl : k = 20 := by omega; rfl) dJ7_fill_53178_20
      · refine lv_aload_n hx hb dJ7_fill_53178_10 rfl (lv_at hl 0 rfl) ?_
        refine lv_iload_n hx hb dJ7_fill_53178_11 rfl (lv_at hl 2 rfl) ?_
        refine lv_iload_n hx hb dJ7_fill_53178_12 rfl (lv_at hl 1 rfl) ?_
        refine g_ias S h hi (by decide) (fun _ => rfl) (g_in ex (g_lt ex (M := 20) (n := 20) rfl (by omega) (by omega) c1) (by omega)) dJ7_fill_53178_13 (fun H locs h => ?_)
        obtain ⟨x2, ex2⟩ : ∃ zz : Int32, zz = x + 1 := ⟨_, rfl⟩
        refine lv_iinc (v := x2) (lv' := [(2, .int x2), (0, .ref (L i)), (1, .int v), (3, .int 20)]) hx hb dJ7_fill_53178_14 hl (k := 2) rfl (by rw [ex2]; rfl) (by decide) rfl (fun ls hl => ?_)
        refine lv_goto (tgt := 5) hx hb dJ7_fill_53178_17 (by decide) ?_
        rw [g_cl ex (by omega)] at h
        exact ih (k + 1) x2 (by omega) (by omega) (g_s1 ex2 ex) _ _ ls h (lv_sub hl [1, 2, 0, 3] rfl)
  exact loop 21 0 0 (by omega) (by omega) rfl _ _ ls h (lv_sub hl [2, 3, 1, 0] rfl)
set_option maxHeartbeats 4000000 in
set_option maxRecDepth 100000 in
/-- Arrays.fill(int[6], v) -/
theorem c_J7_fill_53178_13 (l : Launch) (D : va_G) (L : Nat → Nat) (cy : Nat → ClassId) (X : va_W) (A : Nat → Prop) (st : gSt) (hD : va_D A (X ++ gW L cy st)) {i : Nat} (hi : gkd i = 13) (v : Int32) : gMv l yJ7_fill_53178 wsJ7_fill_53178 { frames := 0, cells := 0, slots := 0, locals := 0 } D L cy X A [.ref (L i), .int v] st (f_fill st i v 6) := by
  refine g_entry hD (cc := cJ7_fill_53178) (maxL := 4) (ret := none) (by decide) rfl (Nat.le_of_ble_eq_true rfl) ?_
  intro p e s m args below meth c ls B
  obtain ⟨S, hr, hlocks, h, hl⟩ := B
  have hx := S.1
  have hb := S.2.1
  have hts := S.2.2.2.2
  have hl : lv_has ls 4 [(0, .ref (L i)), (1, .int v)] := hl
  refine lv_iconst (v := 0) hx hb dJ7_fill_53178_0 (by decide) ?_
  refine lv_istore_n (lv' := [(2, .int 0), (0, .ref (L i)), (1, .int v)]) hx hb dJ7_fill_53178_1 rfl hl (by decide) rfl (fun ls hl => ?_)
  refine lv_aload_n hx hb dJ7_fill_53178_2 rfl (lv_at hl 1 rfl) ?_
  refine g_alen S h (t0 := 0) hi (by decide) rfl rfl rfl dJ7_fill_53178_3 ?_
  refine lv_istore_n (lv' := [(3, .int 6), (2, .int 0), (0, .ref (L i)), (1, .int v)]) hx hb dJ7_fill_53178_4 rfl hl (by decide) rfl (fun ls hl => ?_)
  have loop : ∀ (n : Nat) (k : Nat) (x : Int32), k ≤ 6 → 7 ≤ k + n → x = nI k → ∀ (H : Heap) (locs : List Loc) (ls : Array Slot), gH D L cy X A (f_fill st i v k) s H locs → lv_has ls 4 [(0, .ref (L i)), (1, .int v), (2, .int x), (3, .int 6)] → W p l e { frames := 0, cells := 0, slots := 0, locals := 0 } s m args below meth c H locs 0 0 (MQ below (va_Qv (fun (_ : Unit) => True) (fun _ t => va_P D vwCl (X ++ gW L cy (f_fill st i v 6)) t.heap) A) args s 0 0 A) (F0 m 5 ls []) := by
    intro n
    induction n with
    | zero => intros; omega
    | succ n ih =>
      intro k x hk hn ex H locs ls h hl
      refine lv_iload_n hx hb dJ7_fill_53178_5 rfl (lv_at hl 2 rfl) ?_
      refine lv_iload_n hx hb dJ7_fill_53178_6 rfl (lv_at hl 3 rfl) ?_
      refine lv_icmp_ge (tgt := 20) hx hb dJ7_fill_53178_7 (by decide) (fun c1 => ?_) (fun c1 => ?_)
      · exact g_retv S h hr hlocks (by have q := g_ge ex (M := 6) (n := 6) rfl (by omega) (by omega) c1; obtain rfl : k = 6 := by omega; rfl) dJ7_fill_53178_20
      · refine lv_aload_n hx hb dJ7_fill_53178_10 rfl (lv_at hl 0 rfl) ?_
        refine lv_iload_n hx hb dJ7_fill_53178_11 rfl (lv_at hl 2 rfl) ?_
        refine lv_iload_n hx hb dJ7_fill_53178_12 rfl (lv_at hl 1 rfl) ?_
        refine g_ias S h hi (by decide) (fun _ => rfl) (g_in ex (g_lt ex (M := 6) (n := 6) rfl (by omega) (by omega) c1) (by omega)) dJ7_fill_53178_13 (fun H locs h => ?_)
        obtain ⟨x2, ex2⟩ : ∃ zz : Int32, zz = x + 1 := ⟨_, rfl⟩
        refine lv_iinc (v := x2) (lv' := [(2, .int x2), (0, .ref (L i)), (1, .int v), (3, .int 6)]) hx hb dJ7_fill_53178_14 hl (k := 2) rfl (by rw [ex2]; rfl) (by decide) rfl (fun ls hl => ?_)
        refine lv_goto (tgt := 5) hx hb dJ7_fill_53178_17 (by decide) ?_
        rw [g_cl ex (by omega)] at h
        exact ih (k + 1) x2 (by omega) (by omega) (g_s1 ex2 ex) _ _ ls h (lv_sub hl [1, 2, 0, 3] rfl)
  exact loop 7 0 0 (by omega) (by omega) rfl _ _ ls h (lv_sub hl [2, 3, 1, 0] rfl)
def f_cl (v : Int32) : Int32 := if -999999 < (if v < 999999 then v else 999999) then (if v < 999999 then v else 999999) else -999999
def f_add (st : gSt) (i : Nat) (n : Int32) : gSt := gsu st i 4 (f_cl (st i 4 + n))
def f_lc (st : gSt) (i : Nat) : Int32 := 31 - f_nlz (st i 6)
set_option maxHeartbeats 4000000 in
set_option maxRecDepth 100000 in
/-- Task.lastChild() -/
theorem c_X4_lastChild (l : Launch) (D : va_G) (L : Nat → Nat) (cy : Nat → ClassId) (X : va_W) (A : Nat → Prop) (st : gSt) (hD : va_D A (X ++ gW L cy st)) {i : Nat} (hi : gkd i = 7) : gMi l yX4_lastChild wsX4_lastChild { frames := 1, cells := 0, slots := 0, locals := 21 } D L cy X A [.ref (L i)] st (f_lc st i) st := by
  refine g_entry hD (cc := cX4_lastChild) (maxL := 1) (ret := (some .int)) (by decide) rfl (Nat.le_of_ble_eq_true rfl) ?_
  intro p e s m args below meth c ls B
  obtain ⟨S, hr, hlocks, h, hl⟩ := B
  have hx := S.1
  have hb := S.2.1
  have hts := S.2.2.2.2
  have in4 : ∀ w ∈ wsX40, w ∈ wsX4_lastChild := by decide +kernel
  have hl : lv_has ls 1 [(0, .ref (L i))] := hl
  refine lv_bipush (v := 31) hx hb dX4_lastChild_0 (by decide) ?_
  refine lv_aload_n hx hb dX4_lastChild_2 rfl (lv_at hl 0 rfl) ?_
  refine g_get S h hi (by decide) rfl rfl in4 (k := 6) (by decide) (by decide +kernel) rfl dX4_lastChild_3 ?_
  refine g_calliS S h (c_J6_numberOfLeadingZeros_0f7a4 l D L cy X A _ (h.2.2.2.2 _) _) (va_cwS 1 hts gX4_lastChild_J6_numberOfLeadingZeros_0f7a4 rfl rfl rfl (by decide +kernel) ⟨Nat.le_of_ble_eq_true rfl, Nat.le_of_ble_eq_true rfl⟩) rfl hl.1 rfl (Nat.le_of_ble_eq_true rfl) dX4_lastChild_6 ⟨Nat.zero_le _, Nat.zero_le _⟩ (fun H locs h => ?_)
  refine lv_isub hx hb dX4_lastChild_9 ?_
  exact g_reti S h hr hlocks rfl rfl rfl dX4_lastChild_10
set_option maxHeartbeats 4000000 in
set_option maxRecDepth 100000 in
/-- Task.addValue(n) -/
theorem c_X4_addValue (l : Launch) (D : va_G) (L : Nat → Nat) (cy : Nat → ClassId) (X : va_W) (A : Nat → Prop) (st : gSt) (hD : va_D A (X ++ gW L cy st)) {i : Nat} (hi : gkd i = 7) (n : Int32) : gMv l yX4_addValue wsX4_addValue { frames := 1, cells := 0, slots := 0, locals := 24 } D L cy X A [.ref (L i), .int n] st (f_add st i n) := by
  refine g_entry hD (cc := cX4_addValue) (maxL := 2) (ret := none) (by decide) rfl (Nat.le_of_ble_eq_true rfl) ?_
  intro p e s m args below meth c ls B
  obtain ⟨S, hr, hlocks, h, hl⟩ := B
  have hx := S.1
  have hb := S.2.1
  have hts := S.2.2.2.2
  have in4 : ∀ w ∈ wsX40, w ∈ wsX4_addValue := by decide +kernel
  have hl : lv_has ls 2 [(0, .ref (L i)), (1, .int n)] := hl
  refine lv_aload_n hx hb dX4_addValue_0 rfl (lv_at hl 0 rfl) ?_
  refine lv_ldc (v := (-999999)) hx hb S.2.2.2.1 (S.2.2.2.2 (.constant RX4 49 (-999999)) (by decide +kernel)) dX4_addValue_1 ?_
  refine lv_ldc (v := 999999) hx hb S.2.2.2.1 (S.2.2.2.2 (.constant RX4 50 999999) (by decide +kernel)) dX4_addValue_3 ?_
  refine lv_aload_n hx hb dX4_addValue_5 rfl (lv_at hl 0 rfl) ?_
  refine g_get S h hi (by decide) rfl rfl in4 (k := 4) (by decide) (by decide +kernel) rfl dX4_addValue_6 ?_
  refine lv_iload_n hx hb dX4_addValue_9 rfl (lv_at hl 1 rfl) ?_
  refine lv_iadd hx hb dX4_addValue_10 ?_
  refine va_mmin hx hb (S.2.2.1.trans hl.1.symm) S.2.2.2.1 (hts (.methodLink RX4 51 Lib.Math.min.name) (by decide +kernel)) (hts (.static Lib.Math.min.name) (by decide +kernel)) (hts (.initialized "java/lang/Math") (by decide +kernel)) (hts (.code Lib.Math.min.name Lib.Math.min.code 2 (some .int)) (by decide +kernel)) (Nat.le_of_ble_eq_true rfl) (Nat.le_of_ble_eq_true rfl) (Nat.zero_le _) (Nat.zero_le _) dX4_addValue_11 ?_
  refine va_mmax hx hb (S.2.2.1.trans hl.1.symm) S.2.2.2.1 (hts (.methodLink RX4 57 Lib.Math.max.name) (by decide +kernel)) (hts (.static Lib.Math.max.name) (by decide +kernel)) (hts (.initialized "java/lang/Math") (by decide +kernel)) (hts (.code Lib.Math.max.name Lib.Math.max.code 2 (some .int)) (by decide +kernel)) (Nat.le_of_ble_eq_true rfl) (Nat.le_of_ble_eq_true rfl) (Nat.zero_le _) (Nat.zero_le _) dX4_addValue_14 ?_
  refine g_put S h tyX4 tyX4_ok nmX4 hi (by decide) rfl rfl in4 (k := 4) (by decide) (by decide +kernel) rfl rfl (by decide) rfl dX4_addValue_17 (fun H locs h => ?_)
  exact g_retv S h hr hlocks rfl dX4_addValue_20
def f_wbegin (st : gSt) (i : Nat) : gSt := f_fill (gsu (gsu (gsu (gsu (gsu st (i + 1) 1 0) (i + 3) 1 0) i 2 0) i 3 0) i 4 0) (i + 5) (-1) 20
def f_wcopy0 (st : gSt) (i j : Nat) : gSt := gsu (gsu (gsu (f_rcopy (f_rcopy st (i + 1) (j + 1)) (i + 3) (j + 3)) i 2 (f_rcopy (f_rcopy st (i + 1) (j + 1)) (i + 3) (j + 3) j 2)) i 3 (f_rcopy (f_rcopy st (i + 1) (j + 1)) (i + 3) (j + 3) j 3)) i 4 (f_rcopy (f_rcopy st (i + 1) (j + 1)) (i + 3) (j + 3) j 4)
def f_wcopy (st : gSt) (i j : Nat) : gSt := f_cp (f_wcopy0 st i j) (i + 5) (j + 5) 20
def f_ranIn (st : gSt) (i : Nat) (x : Int32) : Int32 := st (i + 5) (f_fm x 20).toNatClampNeg
def f_note (st : gSt) (i : Nat) (x t : Int32) : gSt := gsu st (i + 5) (f_fm x 20).toNatClampNeg t
set_option maxHeartbeats 4000000 in
set_option maxRecDepth 100000 in
/-- Worker.begin() -/
theorem c_X5_begin (l : Launch) (D : va_G) (L : Nat → Nat) (cy : Nat → ClassId) (X : va_W) (A : Nat → Prop) (st : gSt) (hD : va_D A (X ++ gW L cy st)) {i : Nat} (hi : gkd i = 9) : gMv l yX5_begin wsX5_begin { frames := 1, cells := 0, slots := 0, locals := 23 } D L cy X A [.ref (L i)] st (f_wbegin st i) := by
  refine g_entry hD (cc := cX5_begin) (maxL := 1) (ret := none) (by decide) rfl (Nat.le_of_ble_eq_true rfl) ?_
  intro p e s m args below meth c ls B
  obtain ⟨S, hr, hlocks, h, hl⟩ := B
  have hx := S.1
  have hb := S.2.1
  have hts := S.2.2.2.2
  have in5 : ∀ w ∈ wsX50, w ∈ wsX5_begin := by decide +kernel
  have hl : lv_has ls 1 [(0, .ref (L i))] := hl
  refine lv_aload_n hx hb dX5_begin_0 rfl (lv_at hl 0 rfl) ?_
  refine g_get S h hi (by decide) rfl rfl in5 (k := 0) (by decide) (by decide +kernel) rfl dX5_begin_1 ?_
  refine g_callv S h (c_X2_clear l D L cy X A _ (h.2.2.2.2 _) (gk9_1 hi)) (cwV 0 hts gX5_begin_X2_clear rfl rfl rfl (by decide +kernel) ⟨Nat.le_of_ble_eq_true rfl, Nat.le_of_ble_eq_true rfl⟩) (g_pre h (gk9_1 hi) (by decide) rfl rfl _) rfl hl.1 rfl (Nat.le_of_ble_eq_true rfl) dX5_begin_4 ⟨Nat.zero_le _, Nat.zero_le _⟩ (fun H locs h => ?_)
  refine lv_aload_n hx hb dX5_begin_7 rfl (lv_at hl 0 rfl) ?_
  refine g_get S h hi (by decide) rfl rfl in5 (k := 1) (by decide) (by decide +kernel) rfl dX5_begin_8 ?_
  refine g_callv S h (c_X2_clear l D L cy X A _ (h.2.2.2.2 _) (gk9_3 hi)) (cwV 0 hts gX5_begin_X2_clear rfl rfl rfl (by decide +kernel) ⟨Nat.le_of_ble_eq_true rfl, Nat.le_of_ble_eq_true rfl⟩) (g_pre h (gk9_3 hi) (by decide) rfl rfl _) rfl hl.1 rfl (Nat.le_of_ble_eq_true rfl) dX5_begin_11 ⟨Nat.zero_le _, Nat.zero_le _⟩ (fun H locs h => ?_)
  refine lv_aload_n hx hb dX5_begin_14 rfl (lv_at hl 0 rfl) ?_
  refine lv_iconst (v := 0) hx hb dX5_begin_15 (by decide) ?_
  refine g_put S h tyX5 tyX5_ok nmX5 hi (by decide) rfl rfl in5 (k := 2) (by decide) (by decide +kernel) rfl rfl (by decide) rfl dX5_begin_16 (fun H locs h => ?_)
  refine lv_aload_n hx hb dX5_begin_19 rfl (lv_at hl 0 rfl) ?_
  refine lv_iconst (v := 0) hx hb dX5_begin_20 (by decide) ?_
  refine g_put S h tyX5 tyX5_ok nmX5 hi (by decide) rfl rfl in5 (k := 3) (by decide) (by decide +kernel) rfl rfl (by decide) rfl dX5_begin_21 (fun H locs h => ?_)
  refine lv_aload_n hx hb dX5_begin_24 rfl (lv_at hl 0 rfl) ?_
  refine lv_iconst (v := 0) hx hb dX5_begin_25 (by decide) ?_
  refine g_put S h tyX5 tyX5_ok nmX5 hi (by decide) rfl rfl in5 (k := 4) (by decide) (by decide +kernel) rfl rfl (by decide) rfl dX5_begin_26 (fun H locs h => ?_)
  refine lv_aload_n hx hb dX5_begin_29 rfl (lv_at hl 0 rfl) ?_
  refine g_get S h hi (by decide) rfl rfl in5 (k := 5) (by decide) (by decide +kernel) rfl dX5_begin_30 ?_
  refine lv_iconst (v := (-1)) hx hb dX5_begin_33 (by decide) ?_
  refine g_callvS S h (c_J7_fill_53178_12 l D L cy X A _ (h.2.2.2.2 _) (gk9_5 hi) _) (va_cwS 2 hts gX5_begin_J7_fill_53178 rfl rfl rfl (by decide +kernel) ⟨Nat.le_of_ble_eq_true rfl, Nat.le_of_ble_eq_true rfl⟩) rfl hl.1 rfl (Nat.le_of_ble_eq_true rfl) dX5_begin_34 ⟨Nat.zero_le _, Nat.zero_le _⟩ (fun H locs h => ?_)
  exact g_retv S h hr hlocks rfl dX5_begin_37
set_option maxHeartbeats 4000000 in
set_option maxRecDepth 100000 in
/-- Worker.copyFrom(other) -/
theorem c_X5_copyFrom (l : Launch) (D : va_G) (L : Nat → Nat) (cy : Nat → ClassId) (X : va_W) (A : Nat → Prop) (st : gSt) (hD : va_D A (X ++ gW L cy st)) {i j : Nat} (hi : gkd i = 9) (hj : gkd j = 9) : gMv l yX5_copyFrom wsX5_copyFrom { frames := 1, cells := 0, slots := 0, locals := 22 } D L cy X A [.ref (L i), .ref (L j)] st (f_wcopy st i j) := by
  refine g_entry hD (cc := cX5_copyFrom) (maxL := 3) (ret := none) (by decide) rfl (Nat.le_of_ble_eq_true rfl) ?_
  intro p e s m args below meth c ls B
  obtain ⟨S, hr, hlocks, h, hl⟩ := B
  have hx := S.1
  have hb := S.2.1
  have hts := S.2.2.2.2
  have in5 : ∀ w ∈ wsX50, w ∈ wsX5_copyFrom := by decide +kernel
  have hl : lv_has ls 3 [(0, .ref (L i)), (1, .ref (L j))] := hl
  refine lv_aload_n hx hb dX5_copyFrom_0 rfl (lv_at hl 0 rfl) ?_
  refine g_get S h hi (by decide) rfl rfl in5 (k := 0) (by decide) (by decide +kernel) rfl dX5_copyFrom_1 ?_
  refine lv_aload_n hx hb dX5_copyFrom_4 rfl (lv_at hl 1 rfl) ?_
  refine g_get S h hj (by decide) rfl rfl in5 (k := 0) (by decide) (by decide +kernel) rfl dX5_copyFrom_5 ?_
  refine g_callv S h (c_X2_copyFrom l D L cy X A _ (h.2.2.2.2 _) (gk9_1 hi) (gk9_1 hj)) (cwV 1 hts gX5_copyFrom_X2_copyFrom rfl rfl rfl (by decide +kernel) ⟨Nat.le_of_ble_eq_true rfl, Nat.le_of_ble_eq_true rfl⟩) (g_pre h (gk9_1 hi) (by decide) rfl rfl _) rfl hl.1 rfl (Nat.le_of_ble_eq_true rfl) dX5_copyFrom_8 ⟨Nat.zero_le _, Nat.zero_le _⟩ (fun H locs h => ?_)
  refine lv_aload_n hx hb dX5_copyFrom_11 rfl (lv_at hl 0 rfl) ?_
  refine g_get S h hi (by decide) rfl rfl in5 (k := 1) (by decide) (by decide +kernel) rfl dX5_copyFrom_12 ?_
  refine lv_aload_n hx hb dX5_copyFrom_15 rfl (lv_at hl 1 rfl) ?_
  refine g_get S h hj (by decide) rfl rfl in5 (k := 1) (by decide) (by decide +kernel) rfl dX5_copyFrom_16 ?_
  refine g_callv S h (c_X2_copyFrom l D L cy X A _ (h.2.2.2.2 _) (gk9_3 hi) (gk9_3 hj)) (cwV 1 hts gX5_copyFrom_X2_copyFrom rfl rfl rfl (by decide +kernel) ⟨Nat.le_of_ble_eq_true rfl, Nat.le_of_ble_eq_true rfl⟩) (g_pre h (gk9_3 hi) (by decide) rfl rfl _) rfl hl.1 rfl (Nat.le_of_ble_eq_true rfl) dX5_copyFrom_19 ⟨Nat.zero_le _, Nat.zero_le _⟩ (fun H locs h => ?_)
  refine lv_aload_n hx hb dX5_copyFrom_22 rfl (lv_at hl 0 rfl) ?_
  refine lv_aload_n hx hb dX5_copyFrom_23 rfl (lv_at hl 1 rfl) ?_
  refine g_get S h hj (by decide) rfl rfl in5 (k := 2) (by decide) (by decide +kernel) rfl dX5_copyFrom_24 ?_
  refine g_put S h tyX5 tyX5_ok nmX5 hi (by decide) rfl rfl in5 (k := 2) (by decide) (by decide +kernel) rfl rfl (by decide) rfl dX5_copyFrom_27 (fun H locs h => ?_)
  refine lv_aload_n hx hb dX5_copyFrom_30 rfl (lv_at hl 0 rfl) ?_
  refine lv_aload_n hx hb dX5_copyFrom_31 rfl (lv_at hl 1 rfl) ?_
  refine g_get S h hj (by decide) rfl rfl in5 (k := 3) (by decide) (by decide +kernel) rfl dX5_copyFrom_32 ?_
  refine g_put S h tyX5 tyX5_ok nmX5 hi (by decide) rfl rfl in5 (k := 3) (by decide) (by decide +kernel) rfl rfl (by decide) rfl dX5_copyFrom_35 (fun H locs h => ?_)
  refine lv_aload_n hx hb dX5_copyFrom_38 rfl (lv_at hl 0 rfl) ?_
  refine lv_aload_n hx hb dX5_copyFrom_39 rfl (lv_at hl 1 rfl) ?_
  refine g_get S h hj (by decide) rfl rfl in5 (k := 4) (by decide) (by decide +kernel) rfl dX5_copyFrom_40 ?_
  refine g_put S h tyX5 tyX5_ok nmX5 hi (by decide) rfl rfl in5 (k := 4) (by decide) (by decide +kernel) rfl rfl (by decide) rfl dX5_copyFrom_43 (fun H locs h => ?_)
  refine lv_iconst (v := 0) hx hb dX5_copyFrom_46 (by decide) ?_
  refine lv_istore_n (lv' := [(2, .int 0), (0, .ref (L i)), (1, .ref (L j))]) hx hb dX5_copyFrom_47 rfl hl (by decide) rfl (fun ls hl => ?_)
  have loop : ∀ (n : Nat) (k : Nat) (x : Int32), k ≤ 20 → 21 ≤ k + n → x = nI k → ∀ (H : Heap) (locs : List Loc) (ls : Array Slot), gH D L cy X A (f_cp (f_wcopy0 st i j) (i + 5) (j + 5) k) s H locs → lv_has ls 3 [(0, .ref (L i)), (1, .ref (L j)), (2, .int x)] → W p l e { frames := 1, cells := 0, slots := 0, locals := 22 } s m args below meth c H locs 0 0 (MQ below (va_Qv (fun (_ : Unit) => True) (fun _ t => va_P D vwCl (X ++ gW L cy (f_wcopy st i j)) t.heap) A) args s 0 0 A) (F0 m 48 ls []) := by
    intro n
    induction n with
    | zero => intros; omega
    | succ n ih =>
      intro k x hk hn ex H locs ls h hl
      refine lv_iload_n hx hb dX5_copyFrom_48 rfl (lv_at hl 2 rfl) ?_
      refine lv_bipush (v := 20) hx hb dX5_copyFrom_49 (by decide) ?_
      refine lv_icmp_ge (tgt := 72) hx hb dX5_copyFrom_51 (by decide) (fun c1 => ?_) (fun c1 => ?_)
      · exact g_retv S h hr hlocks (by have q := g_ge ex (M := 20) (n := 20) rfl (by omega) (by omega) c1; obtain rfl : k = 20 := by omega; rfl) dX5_copyFrom_72
      · refine lv_aload_n hx hb dX5_copyFrom_54 rfl (lv_at hl 0 rfl) ?_
        refine g_get S h hi (by decide) rfl rfl in5 (k := 5) (by decide) (by decide +kernel) rfl dX5_copyFrom_55 ?_
        refine lv_iload_n hx hb dX5_copyFrom_58 rfl (lv_at hl 2 rfl) ?_
        refine lv_aload_n hx hb dX5_copyFrom_59 rfl (lv_at hl 1 rfl) ?_
        refine g_get S h hj (by decide) rfl rfl in5 (k := 5) (by decide) (by decide +kernel) rfl dX5_copyFrom_60 ?_
        refine lv_iload_n hx hb dX5_copyFrom_63 rfl (lv_at hl 2 rfl) ?_
        refine g_ial S h (gk9_5 hj) (by decide) rfl (g_in ex (g_lt ex (M := 20) (n := 20) rfl (by omega) (by omega) c1) (by omega)) dX5_copyFrom_64 ?_
        refine g_ias S h (gk9_5 hi) (by decide) (fun _ => rfl) (g_in ex (g_lt ex (M := 20) (n := 20) rfl (by omega) (by omega) c1) (by omega)) dX5_copyFrom_65 (fun H locs h => ?_)
        obtain ⟨x2, ex2⟩ : ∃ zz : Int32, zz = x + 1 := ⟨_, rfl⟩
        refine lv_iinc (v := x2) (lv' := [(2, .int x2), (0, .ref (L i)), (1, .ref (L j))]) hx hb dX5_copyFrom_66 hl (k := 2) rfl (by rw [ex2]; rfl) (by decide) rfl (fun ls hl => ?_)
        refine lv_goto (tgt := 48) hx hb dX5_copyFrom_69 (by decide) ?_
        rw [g_cl ex (by omega)] at h
        exact ih (k + 1) x2 (by omega) (by omega) (g_s1 ex2 ex) _ _ ls h (lv_sub hl [1, 2, 0] rfl)
  exact loop 21 0 0 (by omega) (by omega) rfl _ _ ls h (lv_sub hl [1, 2, 0] rfl)
set_option maxHeartbeats 4000000 in
set_option maxRecDepth 100000 in
/-- Worker.ranIn(clock) -/
theorem c_X5_ranIn (l : Launch) (D : va_G) (L : Nat → Nat) (cy : Nat → ClassId) (X : va_W) (A : Nat → Prop) (st : gSt) (hD : va_D A (X ++ gW L cy st)) {i : Nat} (hi : gkd i = 9) (x : Int32) : gMi l yX5_ranIn wsX5_ranIn { frames := 1, cells := 0, slots := 0, locals := 22 } D L cy X A [.ref (L i), .int x] st (f_ranIn st i x) st := by
  refine g_entry hD (cc := cX5_ranIn) (maxL := 2) (ret := (some .int)) (by decide) rfl (Nat.le_of_ble_eq_true rfl) ?_
  intro p e s m args below meth c ls B
  obtain ⟨S, hr, hlocks, h, hl⟩ := B
  have hx := S.1
  have hb := S.2.1
  have hts := S.2.2.2.2
  have in5 : ∀ w ∈ wsX50, w ∈ wsX5_ranIn := by decide +kernel
  have hl : lv_has ls 2 [(0, .ref (L i)), (1, .int x)] := hl
  refine lv_aload_n hx hb dX5_ranIn_0 rfl (lv_at hl 0 rfl) ?_
  refine g_get S h hi (by decide) rfl rfl in5 (k := 5) (by decide) (by decide +kernel) rfl dX5_ranIn_1 ?_
  refine lv_iload_n hx hb dX5_ranIn_4 rfl (lv_at hl 1 rfl) ?_
  refine lv_bipush (v := 20) hx hb dX5_ranIn_5 (by decide) ?_
  refine g_calliS S h (c_J9_floorMod_7cf53 l D L cy X A _ (h.2.2.2.2 _) _ 20 (by decide)) (va_cwS 2 hts gX5_ranIn_J9_floorMod_7cf53 rfl rfl rfl (by decide +kernel) ⟨Nat.le_of_ble_eq_true rfl, Nat.le_of_ble_eq_true rfl⟩) rfl hl.1 rfl (Nat.le_of_ble_eq_true rfl) dX5_ranIn_7 ⟨Nat.zero_le _, Nat.zero_le _⟩ (fun H locs h => ?_)
  refine g_ial S h (gk9_5 hi) (by decide) rfl (f_fm_in _) dX5_ranIn_10 ?_
  exact g_reti S h hr hlocks rfl rfl rfl dX5_ranIn_11
set_option maxHeartbeats 4000000 in
set_option maxRecDepth 100000 in
/-- Worker.noteRan(clock, task) -/
theorem c_X5_noteRan (l : Launch) (D : va_G) (L : Nat → Nat) (cy : Nat → ClassId) (X : va_W) (A : Nat → Prop) (st : gSt) (hD : va_D A (X ++ gW L cy st)) {i : Nat} (hi : gkd i = 9) (x t : Int32) : gMv l yX5_noteRan wsX5_noteRan { frames := 1, cells := 0, slots := 0, locals := 22 } D L cy X A [.ref (L i), .int x, .int t] st (f_note st i x t) := by
  refine g_entry hD (cc := cX5_noteRan) (maxL := 3) (ret := none) (by decide) rfl (Nat.le_of_ble_eq_true rfl) ?_
  intro p e s m args below meth c ls B
  obtain ⟨S, hr, hlocks, h, hl⟩ := B
  have hx := S.1
  have hb := S.2.1
  have hts := S.2.2.2.2
  have in5 : ∀ w ∈ wsX50, w ∈ wsX5_noteRan := by decide +kernel
  have hl : lv_has ls 3 [(0, .ref (L i)), (1, .int x), (2, .int t)] := hl
  refine lv_aload_n hx hb dX5_noteRan_0 rfl (lv_at hl 0 rfl) ?_
  refine g_get S h hi (by decide) rfl rfl in5 (k := 5) (by decide) (by decide +kernel) rfl dX5_noteRan_1 ?_
  refine lv_iload_n hx hb dX5_noteRan_4 rfl (lv_at hl 1 rfl) ?_
  refine lv_bipush (v := 20) hx hb dX5_noteRan_5 (by decide) ?_
  refine g_calliS S h (c_J9_floorMod_7cf53 l D L cy X A _ (h.2.2.2.2 _) _ 20 (by decide)) (va_cwS 2 hts gX5_noteRan_J9_floorMod_7cf53 rfl rfl rfl (by decide +kernel) ⟨Nat.le_of_ble_eq_true rfl, Nat.le_of_ble_eq_true rfl⟩) rfl hl.1 rfl (Nat.le_of_ble_eq_true rfl) dX5_noteRan_7 ⟨Nat.zero_le _, Nat.zero_le _⟩ (fun H locs h => ?_)
  refine lv_iload_n hx hb dX5_noteRan_10 rfl (lv_at hl 2 rfl) ?_
  refine g_ias S h (gk9_5 hi) (by decide) (fun _ => rfl) (f_fm_in _) dX5_noteRan_11 (fun H locs h => ?_)
  exact g_retv S h hr hlocks rfl dX5_noteRan_12
