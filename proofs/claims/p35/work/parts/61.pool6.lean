set_option maxHeartbeats 8000000 in
set_option maxRecDepth 100000 in
/-- Pool.clear() -/
theorem c_X1_clear (l : Launch) (D : va_G) (L : Nat → Nat) (cy : Nat → ClassId) (X : va_W) (A : Nat → Prop) (st : gSt) (hD : va_D A (X ++ gW L cy st)) {P : Nat} (hP : gkd P = 5)  : gMv l yX1_clear wsX1_clear { frames := 3, cells := 0, slots := 0, locals := 65 } D L cy X A [.ref (L P)] st (f_X1_clear st P) := by
  refine g_entry hD (cc := cX1_clear) (maxL := 1) (ret := none) (by decide +kernel) rfl (Nat.le_of_ble_eq_true rfl) ?_
  intro p e s m args below meth c ls B
  obtain ⟨S, hr, hlocks, h, hl⟩ := B
  have hx := S.1
  have hb := S.2.1
  have hts := S.2.2.2.2
  have in1 : ∀ w ∈ wsX10, w ∈ wsX1_clear := by decide +kernel
  have hl : lv_has ls 1 [(0, .ref (L P))] := hl
  refine lv_aload_n hx hb dX1_clear_0 rfl (lv_at hl 0 rfl) ?_
  refine lv_iconst (v := 0) hx hb dX1_clear_1 (by decide) ?_
  refine g_put S h tyX1 tyX1_ok nmX1 hP (by decide) rfl rfl in1 (k := 3) (by decide) (by decide +kernel) rfl rfl (Nat.le_of_ble_eq_true rfl) rfl dX1_clear_2 (fun H locs h => ?_)
  refine lv_aload_n hx hb dX1_clear_5 rfl (lv_at hl 0 rfl) ?_
  refine lv_iconst (v := 0) hx hb dX1_clear_6 (by decide) ?_
  refine g_put S h tyX1 tyX1_ok nmX1 hP (by decide) rfl rfl in1 (k := 6) (by decide) (by decide +kernel) rfl rfl (Nat.le_of_ble_eq_true rfl) rfl dX1_clear_7 (fun H locs h => ?_)
  refine lv_aload_n hx hb dX1_clear_10 rfl (lv_at hl 0 rfl) ?_
  refine lv_iconst (v := 1) hx hb dX1_clear_11 (by decide) ?_
  refine g_callv S h (c_X1_changeWorkerCount l D L cy X A _ (h.2.2.2.2 _) hP _) (cwV 1 hts gX1_clear_X1_changeWorkerCount rfl rfl rfl (by decide +kernel) ⟨Nat.le_of_ble_eq_true rfl, Nat.le_of_ble_eq_true rfl⟩) (g_pre h hP (by decide) rfl rfl _) rfl hl.1 rfl (Nat.le_of_ble_eq_true rfl) dX1_clear_12 ⟨Nat.zero_le _, Nat.zero_le _⟩ (fun H locs h => ?_)
  refine lv_aload_n hx hb dX1_clear_15 rfl (lv_at hl 0 rfl) ?_
  refine g_get S h hP (by decide) rfl rfl in1 (k := 7) (by decide) (by decide +kernel) rfl dX1_clear_16 ?_
  refine g_callv S h (c_X2_clear l D L cy X A _ (h.2.2.2.2 _) (gk5_10 hP)) (cwV 0 hts gX1_clear_X2_clear rfl rfl rfl (by decide +kernel) ⟨Nat.le_of_ble_eq_true rfl, Nat.le_of_ble_eq_true rfl⟩) (g_pre h (gk5_10 hP) (by decide) rfl rfl _) rfl hl.1 rfl (Nat.le_of_ble_eq_true rfl) dX1_clear_19 ⟨Nat.zero_le _, Nat.zero_le _⟩ (fun H locs h => ?_)
  refine lv_aload_n hx hb dX1_clear_22 rfl (lv_at hl 0 rfl) ?_
  refine g_get S h hP (by decide) rfl rfl in1 (k := 8) (by decide) (by decide +kernel) rfl dX1_clear_23 ?_
  refine lv_ldc (v := (-1000000)) hx hb S.2.2.2.1 (hts (.constant RX1 64 (-1000000)) (by decide +kernel)) dX1_clear_26 ?_
  refine g_callvS S h (c_J7_fill_53178_13 l D L cy X A _ (h.2.2.2.2 _) (gk5_12 hP) _) (va_cwS 2 hts gX1_clear_J7_fill_53178 rfl rfl rfl (by decide +kernel) ⟨Nat.le_of_ble_eq_true rfl, Nat.le_of_ble_eq_true rfl⟩) rfl hl.1 rfl (Nat.le_of_ble_eq_true rfl) dX1_clear_28 ⟨Nat.zero_le _, Nat.zero_le _⟩ (fun H locs h => ?_)
  refine lv_aload_n hx hb dX1_clear_31 rfl (lv_at hl 0 rfl) ?_
  refine lv_iconst (v := 0) hx hb dX1_clear_32 (by decide) ?_
  refine g_put S h tyX1 tyX1_ok nmX1 hP (by decide) rfl rfl in1 (k := 9) (by decide) (by decide +kernel) rfl rfl (Nat.le_of_ble_eq_true rfl) rfl dX1_clear_33 (fun H locs h => ?_)
  refine lv_aload_n hx hb dX1_clear_36 rfl (lv_at hl 0 rfl) ?_
  refine lv_iconst (v := 0) hx hb dX1_clear_37 (by decide) ?_
  refine g_put S h tyX1 tyX1_ok nmX1 hP (by decide) rfl rfl in1 (k := 10) (by decide) (by decide +kernel) rfl rfl (Nat.le_of_ble_eq_true rfl) rfl dX1_clear_38 (fun H locs h => ?_)
  refine lv_aload_n hx hb dX1_clear_41 rfl (lv_at hl 0 rfl) ?_
  refine lv_iconst (v := 0) hx hb dX1_clear_42 (by decide) ?_
  refine g_put S h tyX1 tyX1_ok nmX1 hP (by decide) rfl rfl in1 (k := 11) (by decide) (by decide +kernel) rfl rfl (Nat.le_of_ble_eq_true rfl) rfl dX1_clear_43 (fun H locs h => ?_)
  exact g_retv S h hr hlocks (by first | (simp only [f_X1_clear]; done) | (simp only [f_X1_clear]; rfl) | rfl) dX1_clear_46
set_option maxHeartbeats 8000000 in
set_option maxRecDepth 100000 in
/-- Pool.copyFrom(other) -/
theorem c_X1_copyFrom (l : Launch) (D : va_G) (L : Nat → Nat) (cy : Nat → ClassId) (X : va_W) (A : Nat → Prop) (st : gSt) (hD : va_D A (X ++ gW L cy st)) {P : Nat} (hP : gkd P = 5) {O : Nat} (hO : gkd O = 5)  : gMv l yX1_copyFrom wsX1_copyFrom { frames := 2, cells := 0, slots := 0, locals := 44 } D L cy X A [.ref (L P), .ref (L O)] st (f_X1_copyFrom st P O) := by
  refine g_entry hD (cc := cX1_copyFrom) (maxL := 3) (ret := none) (by decide +kernel) rfl (Nat.le_of_ble_eq_true rfl) ?_
  intro p e s m args below meth c ls B
  obtain ⟨S, hr, hlocks, h, hl⟩ := B
  have hx := S.1
  have hb := S.2.1
  have hts := S.2.2.2.2
  have in1 : ∀ w ∈ wsX10, w ∈ wsX1_copyFrom := by decide +kernel
  have hl : lv_has ls 3 [(0, .ref (L P)), (1, .ref (L O))] := hl
  refine lv_aload_n hx hb dX1_copyFrom_0 rfl (lv_at hl 0 rfl) ?_
  refine lv_aload_n hx hb dX1_copyFrom_1 rfl (lv_at hl 1 rfl) ?_
  refine g_get S h hO (by decide) rfl rfl in1 (k := 3) (by decide) (by decide +kernel) rfl dX1_copyFrom_2 ?_
  refine g_put S h tyX1 tyX1_ok nmX1 hP (by decide) rfl rfl in1 (k := 3) (by decide) (by decide +kernel) rfl rfl (Nat.le_of_ble_eq_true rfl) rfl dX1_copyFrom_5 (fun H locs h => ?_)
  refine lv_iconst (v := 0) hx hb dX1_copyFrom_8 (by decide) ?_
  refine lv_istore_n (lv' := [(2, .int 0), (0, .ref (L P)), (1, .ref (L O))]) hx hb dX1_copyFrom_9 rfl hl (by decide) rfl (fun ls hl => ?_)
  have loopL1 : ∀ (nL1 : Nat) (st1 : gSt) (x : Int32) (k : Nat), (k ≤ 24) → (24 < k + nL1) → (x = nI k) → ∀ (H : Heap) (locs : List Loc) (ls : Array Slot), gH D L cy X A st1 s H locs → lv_has ls 3 [(2, .int x), (0, .ref (L P)), (1, .ref (L O))] → W p l e { frames := 2, cells := 0, slots := 0, locals := 44 } s m args below meth c H locs 0 0 (MQ below (va_Qv (fun (_ : Unit) => True) (fun _ zt => va_P D vwCl (X ++ gW L cy (f_X1_copyFrom_L1 P O nL1 st1 x)) zt.heap) A) args s 0 0 A) (F0 m 10 ls []) := by
    intro nL1
    induction nL1 with
    | zero => intros; omega
    | succ nL1 ihL1 =>
      intro st1 x k hka hna exa H locs ls h hl
      refine lv_iload_n hx hb dX1_copyFrom_10 rfl (lv_at hl 0 rfl) ?_
      refine lv_bipush (v := 24) hx hb dX1_copyFrom_11 (by decide) ?_
      refine lv_icmp_ge (tgt := 37) hx hb dX1_copyFrom_13 (by decide) (fun c2 => ?_) (fun c2 => ?_)
      · refine lv_aload_n hx hb dX1_copyFrom_37 rfl (lv_at hl 1 rfl) ?_
        refine lv_aload_n hx hb dX1_copyFrom_38 rfl (lv_at hl 2 rfl) ?_
        refine g_get S h hO (by decide) rfl rfl in1 (k := 6) (by decide) (by decide +kernel) rfl dX1_copyFrom_39 ?_
        refine g_put S h tyX1 tyX1_ok nmX1 hP (by decide) rfl rfl in1 (k := 6) (by decide) (by decide +kernel) rfl rfl (Nat.le_of_ble_eq_true rfl) rfl dX1_copyFrom_42 (fun H locs h => ?_)
        refine lv_iconst (v := 0) hx hb dX1_copyFrom_45 (by decide) ?_
        refine lv_istore_n (lv' := [(2, .int 0), (0, .ref (L P)), (1, .ref (L O))]) hx hb dX1_copyFrom_46 rfl hl (by decide) rfl (fun ls hl => ?_)
        have loopL2 : ∀ (nL2 : Nat) (st1 : gSt) (y : Int32) (k : Nat), (k ≤ 5) → (5 < k + nL2) → (y = nI k) → ∀ (H : Heap) (locs : List Loc) (ls : Array Slot), gH D L cy X A st1 s H locs → lv_has ls 3 [(2, .int y), (0, .ref (L P)), (1, .ref (L O))] → W p l e { frames := 2, cells := 0, slots := 0, locals := 44 } s m args below meth c H locs 0 0 (MQ below (va_Qv (fun (_ : Unit) => True) (fun _ zt => va_P D vwCl (X ++ gW L cy (f_X1_copyFrom_L2 P O nL2 st1 y)) zt.heap) A) args s 0 0 A) (F0 m 47 ls []) := by
          intro nL2
          induction nL2 with
          | zero => intros; omega
          | succ nL2 ihL2 =>
            intro st1 y k hkb hnb exb H locs ls h hl
            refine lv_iload_n hx hb dX1_copyFrom_47 rfl (lv_at hl 0 rfl) ?_
            refine lv_iconst (v := 5) hx hb dX1_copyFrom_48 (by decide) ?_
            refine lv_icmp_ge (tgt := 73) hx hb dX1_copyFrom_49 (by decide) (fun c4 => ?_) (fun c4 => ?_)
            · refine lv_aload_n hx hb dX1_copyFrom_73 rfl (lv_at hl 1 rfl) ?_
              refine g_get S h hP (by decide) rfl rfl in1 (k := 7) (by decide) (by decide +kernel) rfl dX1_copyFrom_74 ?_
              refine lv_aload_n hx hb dX1_copyFrom_77 rfl (lv_at hl 2 rfl) ?_
              refine g_get S h hO (by decide) rfl rfl in1 (k := 7) (by decide) (by decide +kernel) rfl dX1_copyFrom_78 ?_
              refine g_callv S h (c_X2_copyFrom l D L cy X A _ (h.2.2.2.2 _) (gk5_10 hP) (gk5_10 hO)) (cwV 1 hts gX1_copyFrom_X2_copyFrom rfl rfl rfl (by decide +kernel) ⟨Nat.le_of_ble_eq_true rfl, Nat.le_of_ble_eq_true rfl⟩) (g_pre h (gk5_10 hP) (by decide) rfl rfl _) rfl hl.1 rfl (Nat.le_of_ble_eq_true rfl) dX1_copyFrom_81 ⟨Nat.zero_le _, Nat.zero_le _⟩ (fun H locs h => ?_)
              refine lv_iconst (v := 0) hx hb dX1_copyFrom_84 (by decide) ?_
              refine lv_istore_n (lv' := [(2, .int 0), (0, .ref (L P)), (1, .ref (L O))]) hx hb dX1_copyFrom_85 rfl hl (by decide) rfl (fun ls hl => ?_)
              have loopL3 : ∀ (nL3 : Nat) (st1 : gSt) (z : Int32) (k : Nat), (k ≤ 6) → (6 < k + nL3) → (z = nI k) → ∀ (H : Heap) (locs : List Loc) (ls : Array Slot), gH D L cy X A st1 s H locs → lv_has ls 3 [(2, .int z), (0, .ref (L P)), (1, .ref (L O))] → W p l e { frames := 2, cells := 0, slots := 0, locals := 44 } s m args below meth c H locs 0 0 (MQ below (va_Qv (fun (_ : Unit) => True) (fun _ zt => va_P D vwCl (X ++ gW L cy (f_X1_copyFrom_L3 P O nL3 st1 z)) zt.heap) A) args s 0 0 A) (F0 m 86 ls []) := by
                intro nL3
                induction nL3 with
                | zero => intros; omega
                | succ nL3 ihL3 =>
                  intro st1 z k hkc hnc exc H locs ls h hl
                  refine lv_iload_n hx hb dX1_copyFrom_86 rfl (lv_at hl 0 rfl) ?_
                  refine lv_bipush (v := 6) hx hb dX1_copyFrom_87 (by decide) ?_
                  refine lv_icmp_ge (tgt := 110) hx hb dX1_copyFrom_89 (by decide) (fun c6 => ?_) (fun c6 => ?_)
                  · refine lv_aload_n hx hb dX1_copyFrom_110 rfl (lv_at hl 1 rfl) ?_
                    refine lv_aload_n hx hb dX1_copyFrom_111 rfl (lv_at hl 2 rfl) ?_
                    refine g_get S h hO (by decide) rfl rfl in1 (k := 9) (by decide) (by decide +kernel) rfl dX1_copyFrom_112 ?_
                    refine g_put S h tyX1 tyX1_ok nmX1 hP (by decide) rfl rfl in1 (k := 9) (by decide) (by decide +kernel) rfl rfl (Nat.le_of_ble_eq_true rfl) rfl dX1_copyFrom_115 (fun H locs h => ?_)
                    refine lv_aload_n hx hb dX1_copyFrom_118 rfl (lv_at hl 1 rfl) ?_
                    refine lv_aload_n hx hb dX1_copyFrom_119 rfl (lv_at hl 2 rfl) ?_
                    refine g_get S h hO (by decide) rfl rfl in1 (k := 10) (by decide) (by decide +kernel) rfl dX1_copyFrom_120 ?_
                    refine g_put S h tyX1 tyX1_ok nmX1 hP (by decide) rfl rfl in1 (k := 10) (by decide) (by decide +kernel) rfl rfl (Nat.le_of_ble_eq_true rfl) rfl dX1_copyFrom_123 (fun H locs h => ?_)
                    refine lv_aload_n hx hb dX1_copyFrom_126 rfl (lv_at hl 1 rfl) ?_
                    refine lv_aload_n hx hb dX1_copyFrom_127 rfl (lv_at hl 2 rfl) ?_
                    refine g_get S h hO (by decide) rfl rfl in1 (k := 11) (by decide) (by decide +kernel) rfl dX1_copyFrom_128 ?_
                    refine g_put S h tyX1 tyX1_ok nmX1 hP (by decide) rfl rfl in1 (k := 11) (by decide) (by decide +kernel) rfl rfl (Nat.le_of_ble_eq_true rfl) rfl dX1_copyFrom_131 (fun H locs h => ?_)
                    exact g_retv S h hr hlocks (by first | (simp only [f_X1_copyFrom_L3, if_pos c6]; done) | (simp only [f_X1_copyFrom_L3, if_pos c6]; rfl) | rfl) dX1_copyFrom_134
                  · refine lv_aload_n hx hb dX1_copyFrom_92 rfl (lv_at hl 1 rfl) ?_
                    refine g_get S h hP (by decide) rfl rfl in1 (k := 8) (by decide) (by decide +kernel) rfl dX1_copyFrom_93 ?_
                    refine lv_iload_n hx hb dX1_copyFrom_96 rfl (lv_at hl 0 rfl) ?_
                    refine lv_aload_n hx hb dX1_copyFrom_97 rfl (lv_at hl 2 rfl) ?_
                    refine g_get S h hO (by decide) rfl rfl in1 (k := 8) (by decide) (by decide +kernel) rfl dX1_copyFrom_98 ?_
                    refine lv_iload_n hx hb dX1_copyFrom_101 rfl (lv_at hl 0 rfl) ?_
                    refine g_ial S h (gk5_12 hO) (by decide) rfl (g_in exc (g_lt exc (M := 6) (n := 6) rfl (by omega) (by omega) c6) (by omega)) dX1_copyFrom_102 ?_
                    refine g_ias S h (gk5_12 hP) (by decide) (fun _ => rfl) (g_in exc (g_lt exc (M := 6) (n := 6) rfl (by omega) (by omega) c6) (by omega)) dX1_copyFrom_103 (fun H locs h => ?_)
                    obtain ⟨x11, ex11⟩ : ∃ zz : Int32, zz = z + 1 := ⟨_, rfl⟩
                    refine lv_iinc (v := x11) (lv' := [(2, .int x11), (0, .ref (L P)), (1, .ref (L O))]) hx hb dX1_copyFrom_104 hl (k := 0) rfl (by rw [ex11]; rfl) (by decide) rfl (fun ls hl => ?_)
                    refine lv_goto (tgt := 86) hx hb dX1_copyFrom_107 (by decide) ?_
                    have hlt := g_lt exc (M := 6) (n := 6) rfl (by omega) (by omega) c6
                    exact g_cvv (by subst ex11; first | (simp only [f_X1_copyFrom_L3, if_neg c6]; done) | (simp only [f_X1_copyFrom_L3, if_neg c6]; rfl) | rfl) (ihL3 _ x11 (k + 1) (by omega) (by omega) (g_s1 ex11 exc) _ _ ls h (lv_sub hl [0, 1, 2] rfl))
              exact g_cvv (by first | (simp only [f_X1_copyFrom_L2, if_pos c4]; done) | (simp only [f_X1_copyFrom_L2, if_pos c4]; rfl) | rfl) (loopL3 7 _ 0 0 (by omega) (by omega) rfl _ _ ls h (lv_sub hl [0, 1, 2] rfl))
            · refine lv_aload_n hx hb dX1_copyFrom_52 rfl (lv_at hl 1 rfl) ?_
              refine g_get S h hP (by decide) rfl rfl in1 (k := 4) (by decide) (by decide +kernel) rfl dX1_copyFrom_53 ?_
              refine lv_iload_n hx hb dX1_copyFrom_56 rfl (lv_at hl 0 rfl) ?_
              refine g_aal S h (t0 := 3) (gk5_3 hP) (by decide) rfl rfl (g_in exb (g_lt exb (M := 5) (n := 5) rfl (by omega) (by omega) c4) (by omega)) dX1_copyFrom_57 ?_
              refine lv_aload_n hx hb dX1_copyFrom_58 rfl (lv_at hl 2 rfl) ?_
              refine g_get S h hO (by decide) rfl rfl in1 (k := 4) (by decide) (by decide +kernel) rfl dX1_copyFrom_59 ?_
              refine lv_iload_n hx hb dX1_copyFrom_62 rfl (lv_at hl 0 rfl) ?_
              refine g_aal S h (t0 := 3) (gk5_3 hO) (by decide) rfl rfl (g_in exb (g_lt exb (M := 5) (n := 5) rfl (by omega) (by omega) c4) (by omega)) dX1_copyFrom_63 ?_
              refine g_callv S h (c_X5_copyFrom l D L cy X A _ (h.2.2.2.2 _) (gk8_j (gk5_3 hP) (Nat.lt_of_lt_of_le (gin_lt (g_in exb (g_lt exb (M := 5) (n := 5) rfl (by omega) (by omega) c4) (by omega))) (by decide))) (gk8_j (gk5_3 hO) (Nat.lt_of_lt_of_le (gin_lt (g_in exb (g_lt exb (M := 5) (n := 5) rfl (by omega) (by omega) c4) (by omega))) (by decide)))) (cwV 1 hts gX1_copyFrom_X5_copyFrom rfl rfl rfl (by decide +kernel) ⟨Nat.le_of_ble_eq_true rfl, Nat.le_of_ble_eq_true rfl⟩) (g_pre h (gk8_j (gk5_3 hP) (Nat.lt_of_lt_of_le (gin_lt (g_in exb (g_lt exb (M := 5) (n := 5) rfl (by omega) (by omega) c4) (by omega))) (by decide))) (by decide) rfl rfl _) rfl hl.1 rfl (Nat.le_of_ble_eq_true rfl) dX1_copyFrom_64 ⟨Nat.zero_le _, Nat.zero_le _⟩ (fun H locs h => ?_)
              obtain ⟨x13, ex13⟩ : ∃ zz : Int32, zz = y + 1 := ⟨_, rfl⟩
              refine lv_iinc (v := x13) (lv' := [(2, .int x13), (0, .ref (L P)), (1, .ref (L O))]) hx hb dX1_copyFrom_67 hl (k := 0) rfl (by rw [ex13]; rfl) (by decide) rfl (fun ls hl => ?_)
              refine lv_goto (tgt := 47) hx hb dX1_copyFrom_70 (by decide) ?_
              have hlt := g_lt exb (M := 5) (n := 5) rfl (by omega) (by omega) c4
              exact g_cvv (by subst ex13; first | (simp only [f_X1_copyFrom_L2, if_neg c4]; done) | (simp only [f_X1_copyFrom_L2, if_neg c4]; rfl) | rfl) (ihL2 _ x13 (k + 1) (by omega) (by omega) (g_s1 ex13 exb) _ _ ls h (lv_sub hl [0, 1, 2] rfl))
        exact g_cvv (by first | (simp only [f_X1_copyFrom_L1, if_pos c2]; done) | (simp only [f_X1_copyFrom_L1, if_pos c2]; rfl) | rfl) (loopL2 6 _ 0 0 (by omega) (by omega) rfl _ _ ls h (lv_sub hl [0, 1, 2] rfl))
      · refine lv_aload_n hx hb dX1_copyFrom_16 rfl (lv_at hl 1 rfl) ?_
        refine g_get S h hP (by decide) rfl rfl in1 (k := 1) (by decide) (by decide +kernel) rfl dX1_copyFrom_17 ?_
        refine lv_iload_n hx hb dX1_copyFrom_20 rfl (lv_at hl 0 rfl) ?_
        refine g_aal S h (t0 := 2) (gk5_1 hP) (by decide) rfl rfl (g_in exa (g_lt exa (M := 24) (n := 24) rfl (by omega) (by omega) c2) (by omega)) dX1_copyFrom_21 ?_
        refine lv_aload_n hx hb dX1_copyFrom_22 rfl (lv_at hl 2 rfl) ?_
        refine g_get S h hO (by decide) rfl rfl in1 (k := 1) (by decide) (by decide +kernel) rfl dX1_copyFrom_23 ?_
        refine lv_iload_n hx hb dX1_copyFrom_26 rfl (lv_at hl 0 rfl) ?_
        refine g_aal S h (t0 := 2) (gk5_1 hO) (by decide) rfl rfl (g_in exa (g_lt exa (M := 24) (n := 24) rfl (by omega) (by omega) c2) (by omega)) dX1_copyFrom_27 ?_
        refine g_callv S h (c_X4_copyFrom l D L cy X A _ (h.2.2.2.2 _) (gk6_j (gk5_1 hP) (Nat.lt_of_lt_of_le (gin_lt (g_in exa (g_lt exa (M := 24) (n := 24) rfl (by omega) (by omega) c2) (by omega))) (by decide))) (gk6_j (gk5_1 hO) (Nat.lt_of_lt_of_le (gin_lt (g_in exa (g_lt exa (M := 24) (n := 24) rfl (by omega) (by omega) c2) (by omega))) (by decide)))) (cwV 1 hts gX1_copyFrom_X4_copyFrom rfl rfl rfl (by decide +kernel) ⟨Nat.le_of_ble_eq_true rfl, Nat.le_of_ble_eq_true rfl⟩) (g_pre h (gk6_j (gk5_1 hP) (Nat.lt_of_lt_of_le (gin_lt (g_in exa (g_lt exa (M := 24) (n := 24) rfl (by omega) (by omega) c2) (by omega))) (by decide))) (by decide) rfl rfl _) rfl hl.1 rfl (Nat.le_of_ble_eq_true rfl) dX1_copyFrom_28 ⟨Nat.zero_le _, Nat.zero_le _⟩ (fun H locs h => ?_)
        obtain ⟨x15, ex15⟩ : ∃ zz : Int32, zz = x + 1 := ⟨_, rfl⟩
        refine lv_iinc (v := x15) (lv' := [(2, .int x15), (0, .ref (L P)), (1, .ref (L O))]) hx hb dX1_copyFrom_31 hl (k := 0) rfl (by rw [ex15]; rfl) (by decide) rfl (fun ls hl => ?_)
        refine lv_goto (tgt := 10) hx hb dX1_copyFrom_34 (by decide) ?_
        have hlt := g_lt exa (M := 24) (n := 24) rfl (by omega) (by omega) c2
        exact g_cvv (by subst ex15; first | (simp only [f_X1_copyFrom_L1, if_neg c2]; done) | (simp only [f_X1_copyFrom_L1, if_neg c2]; rfl) | rfl) (ihL1 _ x15 (k + 1) (by omega) (by omega) (g_s1 ex15 exa) _ _ ls h (lv_sub hl [0, 1, 2] rfl))
  exact g_cvv (by first | (simp only [f_X1_copyFrom]; done) | (simp only [f_X1_copyFrom]; rfl) | rfl) (loopL1 25 _ 0 0 (by omega) (by omega) rfl _ _ ls h (lv_sub hl [0, 1, 2] rfl))
