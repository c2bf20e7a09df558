theorem pl_g1 {cy : Nat → ClassId} {a bk ta bt wa w0 w1 w2 w3 w4 w5 co cn pr k j : Nat} {at_ : Nat → Nat} {wd : Nat → Nat → Nat} {w : va_W} : (pl_w cy a bk ta bt wa w0 w1 w2 w3 w4 w5 co cn pr k j at_ wd ++ w)[1]? = some (ta, .inl (cy 2, 24, .inr (.inr (.inr (.inr (pl_f k at_)))))) := rfl
theorem pl_g3 {cy : Nat → ClassId} {a bk ta bt wa w0 w1 w2 w3 w4 w5 co cn pr k j : Nat} {at_ : Nat → Nat} {wd : Nat → Nat → Nat} {w : va_W} : (pl_w cy a bk ta bt wa w0 w1 w2 w3 w4 w5 co cn pr k j at_ wd ++ w)[3]? = some (wa, .inl (cy 3, 5, .inr (.inr (.inr (.inr (pl_f j (fun w => wd w 0))))))) := rfl
set_option maxHeartbeats 8000000 in
set_option maxRecDepth 100000 in
/-- Pool(book) -/
theorem n_X1_init (l : Launch) (D : va_G) (cy : Nat → ClassId) (X : va_W) (A : Nat → Prop) (sz a : Nat) (bk : Nat) (hA : ∀ q, sz ≤ q → A q) (hD : va_D A (X ++ [(a, .inr (1, [.null, .null, .null, .int 0, .null, .null, .int 0, .null, .null, .int 0, .int 0, .int 0]))])) : nM l yX1_init wsX1_init { frames := 5, cells := 66, slots := 804, locals := 120 } D cy X [(a, .inr (1, [.null, .null, .null, .int 0, .null, .null, .int 0, .null, .null, .int 0, .int 0, .int 0]))] A sz [.ref a, .ref bk] (fun u : (Nat → Nat) => kW (cl_v u bk a) cy (f_X1_clear pl_s 30)) 66 804 := by
  refine n_entry hA hD (cc := cX1_init) (maxL := 3) (by decide +kernel) rfl rfl (Nat.le_of_ble_eq_true rfl) ?_
  intro p e s m args below meth c ls B
  obtain ⟨S, hr, hlocks, hmi, h, hl⟩ := B
  have hx := S.1
  have hb := S.2.1
  have hts := S.2.2.2.2
  have hl : lv_has ls 3 [(0, .ref a), (1, .ref bk)] := hl
  have in1 : ∀ w ∈ wsX10, w ∈ wsX1_init := by decide +kernel
  have in2 : ∀ w ∈ wsX20, w ∈ wsX1_init := by decide +kernel
  have in4 : ∀ w ∈ wsX40, w ∈ wsX1_init := by decide +kernel
  have in5 : ∀ w ∈ wsX50, w ∈ wsX1_init := by decide +kernel
  refine lv_aload_n hx hb dX1_init_0 rfl (lv_at hl 0 rfl) ?_
  refine W.objInit hx hb S.2.2.2.1 (hts (.methodLink RX1 3 objectInit) (by decide +kernel)) (hts (.instanceMethod objectInit) (by decide +kernel)) (hts (.code objectInit ⟨#[0xb1]⟩ 1 none) (by decide +kernel)) rfl (by rw [S.2.2.1]; exact hl.1) rfl dX1_init_1 (Nat.le_of_ble_eq_true rfl) (Nat.le_of_ble_eq_true rfl) ?_
  refine W.eq (g2 := F0 m 4 ls []) rfl ?_
  refine lv_aload_n hx hb dX1_init_4 rfl (lv_at hl 0 rfl) ?_
  refine lv_bipush (v := 24) hx hb dX1_init_5 (by decide) ?_
  refine n_newq S h (t0 := 2) h.2.2.2.1.2.2.2.1 rfl (by decide +kernel) (by decide) rfl (by decide) (Nat.le_of_ble_eq_true rfl) (Nat.le_of_ble_eq_true rfl) dX1_init_7 (fun ta H h => ?_)
  refine n_putF S h 0 tyX1 tyX1_ok nmX1 in1 rfl rfl (k := 1) (by decide) (by decide +kernel) rfl hmi rfl (ty := .array (.object RX4)) rfl rfl rfl (Nat.le_of_ble_eq_true rfl) dX1_init_10 (fun H locs h => ?_)
  refine lv_aload_n hx hb dX1_init_13 rfl (lv_at hl 0 rfl) ?_
  refine n_new S h (ci := 4) (fs := [.int 0, .int 0, .int 0, .int 0, .int 0, .int 0, .int 0, .int 0, .int 0, .int 0, .int 0]) tyX4 tyX4_ok in4 (by decide +kernel) (by decide +kernel) (by decide +kernel) rfl (fun j hj => by rcases (show j = 0 ∨ j = 1 ∨ j = 2 ∨ j = 3 ∨ j = 4 ∨ j = 5 ∨ j = 6 ∨ j = 7 ∨ j = 8 ∨ j = 9 ∨ j = 10 by omega) with rfl | rfl | rfl | rfl | rfl | rfl | rfl | rfl | rfl | rfl | rfl <;> rfl) (Nat.le_of_ble_eq_true rfl) (Nat.le_of_ble_eq_true rfl) dX1_init_14 (fun bt H h => ?_)
  refine lv_dup hx hb dX1_init_17 rfl ?_
  refine lv_iconst (v := (-1)) hx hb dX1_init_18 (by decide) ?_
  refine n_callI S h (fun hA hD => n_X4_init l D cy _ A _ _ _ hA hD) ⟨callB_of 1 hts gX1_init_X4_init rfl rfl rfl (hts _ (show Cond.initialized RX4 ∈ wsX1_init by decide +kernel)) (hts _ (show Cond.methodLink RX1 17 yX4_init ∈ wsX1_init by decide +kernel)) (by decide +kernel) ⟨(Nat.le_of_ble_eq_true rfl), (Nat.le_of_ble_eq_true rfl)⟩, rfl, hts _ (show Cond.instanceMethod yX4_init ∈ wsX1_init by decide +kernel)⟩ rfl hl.1 rfl (Nat.le_of_ble_eq_true rfl) dX1_init_19 ⟨(Nat.le_of_ble_eq_true rfl), (Nat.le_of_ble_eq_true rfl)⟩ (fun _ H locs h => ?_)
  refine n_putF S h 0 tyX1 tyX1_ok nmX1 in1 rfl rfl (k := 2) (by decide) (by decide +kernel) rfl hmi rfl (ty := .object RX4) rfl rfl rfl (Nat.le_of_ble_eq_true rfl) dX1_init_22 (fun H locs h => ?_)
  have h : nH D cy X [(a, .inr (1, [.null, .ref ta, .ref bt, .int 0, .null, .null, .int 0, .null, .null, .int 0, .int 0, .int 0])), (ta, .inl (cy 2, 24, .inr (.inr (.inr (.inr (fun _ => none)))))), (bt, .inr (4, [.int (-1), .int 0, .int 0, .int 0, .int 0, .int 0, .int 0, .int 0, .int 0, .int 0, .int 0]))] A s H locs := h
  refine lv_aload_n hx hb dX1_init_25 rfl (lv_at hl 0 rfl) ?_
  refine lv_iconst (v := 5) hx hb dX1_init_26 (by decide) ?_
  refine n_newq S h (t0 := 3) h.2.2.2.1.2.2.2.2 rfl (by decide +kernel) (by decide) rfl (by decide) (Nat.le_of_ble_eq_true rfl) (Nat.le_of_ble_eq_true rfl) dX1_init_27 (fun wa H h => ?_)
  refine n_putF S h 0 tyX1 tyX1_ok nmX1 in1 rfl rfl (k := 4) (by decide) (by decide +kernel) rfl hmi rfl (ty := .array (.object RX5)) rfl rfl rfl (Nat.le_of_ble_eq_true rfl) dX1_init_30 (fun H locs h => ?_)
  refine lv_aload_n hx hb dX1_init_33 rfl (lv_at hl 0 rfl) ?_
  refine n_new S h (ci := 5) (fs := [.null, .null, .int 0, .int 0, .int 0, .null]) tyX5 tyX5_ok in5 (by decide +kernel) (by decide +kernel) (by decide +kernel) rfl (fun j hj => by rcases (show j = 0 ∨ j = 1 ∨ j = 2 ∨ j = 3 ∨ j = 4 ∨ j = 5 by omega) with rfl | rfl | rfl | rfl | rfl | rfl <;> rfl) (Nat.le_of_ble_eq_true rfl) (Nat.le_of_ble_eq_true rfl) dX1_init_34 (fun w0 H h => ?_)
  refine lv_dup hx hb dX1_init_37 rfl ?_
  refine n_callN S h (fun hA hD => n_X5_init l D cy _ A _ _ hA hD) ⟨va_cnB 0 hts gX1_init_X5_init_n30 rfl rfl rfl h.2.2.2.1.2.1.2.1 (hts _ (show Cond.initialized RX5 ∈ wsX1_init by decide +kernel)) (by decide +kernel) ⟨(Nat.le_of_ble_eq_true rfl), (Nat.le_of_ble_eq_true rfl)⟩, rfl, hts _ (show Cond.instanceMethod yX5_init ∈ wsX1_init by decide +kernel)⟩ rfl hl.1 rfl (Nat.le_of_ble_eq_true rfl) dX1_init_38 ⟨(Nat.le_of_ble_eq_true rfl), (Nat.le_of_ble_eq_true rfl)⟩ (fun u H locs h => ?_)
  obtain ⟨w1, w2, w3, w4, w5⟩ := u
  refine n_putF S h 0 tyX1 tyX1_ok nmX1 in1 rfl rfl (k := 5) (by decide) (by decide +kernel) rfl hmi rfl (ty := .object RX5) rfl rfl rfl (Nat.le_of_ble_eq_true rfl) dX1_init_41 (fun H locs h => ?_)
  have h : nH D cy X [(a, .inr (1, [.null, .ref ta, .ref bt, .int 0, .ref wa, .ref w0, .int 0, .null, .null, .int 0, .int 0, .int 0])), (ta, .inl (cy 2, 24, .inr (.inr (.inr (.inr (fun _ => none)))))), (bt, .inr (4, [.int (-1), .int 0, .int 0, .int 0, .int 0, .int 0, .int 0, .int 0, .int 0, .int 0, .int 0])), (wa, .inl (cy 3, 5, .inr (.inr (.inr (.inr (fun _ => none)))))), (w0, .inr (5, [.ref w1, .ref w3, .int 0, .int 0, .int 0, .ref w5])), (w1, .inr (2, [.ref w2, .int 0])), (w2, .inl (cy 0, 24, .inl (fun _ => 0))), (w3, .inr (2, [.ref w4, .int 0])), (w4, .inl (cy 0, 24, .inl (fun _ => 0))), (w5, .inl (cy 0, 20, .inl (fun _ => 0)))] A s H locs := h
  refine lv_aload_n hx hb dX1_init_44 rfl (lv_at hl 0 rfl) ?_
  refine n_new S h (ci := 2) (fs := [.null, .int 0]) tyX2 tyX2_ok in2 (by decide +kernel) (by decide +kernel) (by decide +kernel) rfl (fun j hj => by rcases (show j = 0 ∨ j = 1 by omega) with rfl | rfl <;> rfl) (Nat.le_of_ble_eq_true rfl) (Nat.le_of_ble_eq_true rfl) dX1_init_45 (fun co H h => ?_)
  refine lv_dup hx hb dX1_init_48 rfl ?_
  refine n_callN S h (fun hA hD => n_X2_init l D cy _ A _ _ hA hD) ⟨va_cnB 0 hts gX1_init_X2_init_n37 rfl rfl rfl h.2.2.2.1.2.1.2.2.1 (hts _ (show Cond.initialized RX2 ∈ wsX1_init by decide +kernel)) (by decide +kernel) ⟨(Nat.le_of_ble_eq_true rfl), (Nat.le_of_ble_eq_true rfl)⟩, rfl, hts _ (show Cond.instanceMethod yX2_init ∈ wsX1_init by decide +kernel)⟩ rfl hl.1 rfl (Nat.le_of_ble_eq_true rfl) dX1_init_49 ⟨(Nat.le_of_ble_eq_true rfl), (Nat.le_of_ble_eq_true rfl)⟩ (fun cn H locs h => ?_)
  refine n_putF S h 0 tyX1 tyX1_ok nmX1 in1 rfl rfl (k := 7) (by decide) (by decide +kernel) rfl hmi rfl (ty := .object RX2) rfl rfl rfl (Nat.le_of_ble_eq_true rfl) dX1_init_52 (fun H locs h => ?_)
  have h : nH D cy X [(a, .inr (1, [.null, .ref ta, .ref bt, .int 0, .ref wa, .ref w0, .int 0, .ref co, .null, .int 0, .int 0, .int 0])), (ta, .inl (cy 2, 24, .inr (.inr (.inr (.inr (fun _ => none)))))), (bt, .inr (4, [.int (-1), .int 0, .int 0, .int 0, .int 0, .int 0, .int 0, .int 0, .int 0, .int 0, .int 0])), (wa, .inl (cy 3, 5, .inr (.inr (.inr (.inr (fun _ => none)))))), (w0, .inr (5, [.ref w1, .ref w3, .int 0, .int 0, .int 0, .ref w5])), (w1, .inr (2, [.ref w2, .int 0])), (w2, .inl (cy 0, 24, .inl (fun _ => 0))), (w3, .inr (2, [.ref w4, .int 0])), (w4, .inl (cy 0, 24, .inl (fun _ => 0))), (w5, .inl (cy 0, 20, .inl (fun _ => 0))), (co, .inr (2, [.ref cn, .int 0])), (cn, .inl (cy 0, 24, .inl (fun _ => 0)))] A s H locs := h
  refine lv_aload_n hx hb dX1_init_55 rfl (lv_at hl 0 rfl) ?_
  refine lv_bipush (v := 6) hx hb dX1_init_56 (by decide) ?_
  refine n_newa S h (by decide +kernel) (by decide) rfl (by decide) (Nat.le_of_ble_eq_true rfl) (Nat.le_of_ble_eq_true rfl) dX1_init_58 (fun pr H h => ?_)
  refine n_putF S h 0 tyX1 tyX1_ok nmX1 in1 rfl rfl (k := 8) (by decide) (by decide +kernel) rfl hmi rfl (ty := .array .int) rfl rfl rfl (Nat.le_of_ble_eq_true rfl) dX1_init_60 (fun H locs h => ?_)
  refine lv_aload_n hx hb dX1_init_63 rfl (lv_at hl 0 rfl) ?_
  refine lv_aload_n hx hb dX1_init_64 rfl (lv_at hl 1 rfl) ?_
  refine n_putF S h 0 tyX1 tyX1_ok nmX1 in1 rfl rfl (k := 0) (by decide) (by decide +kernel) rfl hmi rfl (ty := .object RX0) rfl rfl rfl (Nat.le_of_ble_eq_true rfl) dX1_init_65 (fun H locs h => ?_)
  have h : nH D cy X (pl_w cy a bk ta bt wa w0 w1 w2 w3 w4 w5 co cn pr 0 0 (fun _ => 0) (fun _ _ => 0)) A s H locs := h
  refine lv_iconst (v := 0) hx hb dX1_init_68 (by decide) ?_
  refine lv_istore_n (lv' := [(2, .int 0), (0, .ref a), (1, .ref bk)]) hx hb dX1_init_69 rfl hl (by decide) rfl (fun ls hl => ?_)
  have loop2 : ∀ (n j : Nat) (x : Int32) (at_ : Nat → Nat) (wd : Nat → Nat → Nat), j ≤ 5 → 5 < j + n → x = nI j → ∀ (H : Heap) (locs : List Loc) (ls : Array Slot), nH D cy X (pl_w cy a bk ta bt wa w0 w1 w2 w3 w4 w5 co cn pr 24 j at_ wd) A s H locs → lv_has ls 3 [(2, .int x), (0, .ref a), (1, .ref bk)] → W p l e { frames := 5, cells := 66, slots := 804, locals := 120 } s m args below meth c H locs (36 + 6 * j) (414 + 78 * j) (MQ below (va_Qv (fun (_ : Nat → Nat) => True) (fun u t => va_P D vwCl (X ++ kW (cl_v u bk a) cy (f_X1_clear pl_s 30)) t.heap ∧ va_D A (X ++ kW (cl_v u bk a) cy (f_X1_clear pl_s 30))) A) args s 66 804 A) (F0 m 98 ls []) := by
    intro n
    induction n with
    | zero => intros; omega
    | succ n ih =>
      intro j x at_ wd hk hn ex H locs ls h hl
      refine lv_iload_n hx hb dX1_init_98 rfl (lv_at hl 0 rfl) ?_
      refine lv_iconst (v := 5) hx hb dX1_init_99 (by decide) ?_
      refine lv_icmp_ge (tgt := 122) hx hb dX1_init_100 (by decide) (fun c1 => ?_) (fun c1 => ?_)
      · have q := g_ge ex (M := 5) (n := 5) rfl (by omega) (by omega) c1
        obtain rfl : j = 5 := (by omega)
        refine lv_aload_n hx hb dX1_init_122 rfl (lv_at hl 1 rfl) ?_
        exact pl_end S h hr hlocks hl.1 (Nat.le_of_ble_eq_true rfl) (Nat.le_of_ble_eq_true rfl) dX1_init_123 dX1_init_126
      · have hlt := g_lt ex (M := 5) (n := 5) rfl (by omega) (by omega) c1
        refine lv_aload_n hx hb dX1_init_103 rfl (lv_at hl 1 rfl) ?_
        refine n_get S h 0 in1 (show _ = some (a, _) from rfl) rfl (k := 4) (by decide) (by decide +kernel) rfl dX1_init_104 ?_
        refine lv_iload_n hx hb dX1_init_107 rfl (lv_at hl 0 rfl) ?_
        refine n_new S h (ci := 5) (fs := [.null, .null, .int 0, .int 0, .int 0, .null]) tyX5 tyX5_ok in5 (by decide +kernel) (by decide +kernel) (by decide +kernel) rfl (fun j hj => by rcases (show j = 0 ∨ j = 1 ∨ j = 2 ∨ j = 3 ∨ j = 4 ∨ j = 5 by omega) with rfl | rfl | rfl | rfl | rfl | rfl <;> rfl) (by show 36 + 6 * j + 1 ≤ 66; omega) (by show 414 + 78 * j + 6 ≤ 804; omega) dX1_init_108 (fun q H h => ?_)
        refine lv_dup hx hb dX1_init_111 rfl ?_
        refine n_callN S h (fun hA hD => n_X5_init l D cy _ A _ _ hA hD) ⟨va_cnB 0 hts gX1_init_X5_init_n30 rfl rfl rfl h.2.2.2.1.2.1.2.1 (hts _ (show Cond.initialized RX5 ∈ wsX1_init by decide +kernel)) (by decide +kernel) ⟨(Nat.le_of_ble_eq_true rfl), (Nat.le_of_ble_eq_true rfl)⟩, rfl, hts _ (show Cond.instanceMethod yX5_init ∈ wsX1_init by decide +kernel)⟩ rfl hl.1 rfl (Nat.le_of_ble_eq_true rfl) dX1_init_112 ⟨by show 36 + 6 * j + 1 + 5 ≤ 66; omega, by show 414 + 78 * j + 6 + 72 ≤ 804; omega⟩ (fun u H locs h => ?_)
        obtain ⟨q1, q2, q3, q4, q5⟩ := u
        refine n_astq S h 3 (pl_w cy a bk ta bt wa w0 w1 w2 w3 w4 w5 co cn pr 24 j at_ wd).length pl_g3 (n_last rfl) rfl rfl (g_in ex hlt (by omega)) dX1_init_115 (fun H locs h => ?_)
        rw [g_cl ex (by omega), pl_wk] at h
        obtain ⟨x2, ex2⟩ : ∃ zz : Int32, zz = x + 1 := ⟨_, rfl⟩
        refine lv_iinc (v := x2) (lv' := [(2, .int x2), (0, .ref a), (1, .ref bk)]) hx hb dX1_init_116 hl (k := 0) rfl (by rw [ex2]; rfl) (by decide) rfl (fun ls hl => ?_)
        refine lv_goto (tgt := 98) hx hb dX1_init_119 (by decide) ?_
        refine W.widen (k := 36 + 6 * (j + 1)) (n := 414 + 78 * (j + 1)) (by omega) (by omega) ?_
        exact ih (j + 1) x2 _ _ (by omega) (by omega) (g_s1 ex2 ex) _ _ ls h hl
  have loop1 : ∀ (n k : Nat) (x : Int32) (at_ : Nat → Nat) (wd : Nat → Nat → Nat), k ≤ 24 → 24 < k + n → x = nI k → ∀ (H : Heap) (locs : List Loc) (ls : Array Slot), nH D cy X (pl_w cy a bk ta bt wa w0 w1 w2 w3 w4 w5 co cn pr k 0 at_ wd) A s H locs → lv_has ls 3 [(2, .int x), (0, .ref a), (1, .ref bk)] → W p l e { frames := 5, cells := 66, slots := 804, locals := 120 } s m args below meth c H locs (12 + k) (150 + 11 * k) (MQ below (va_Qv (fun (_ : Nat → Nat) => True) (fun u t => va_P D vwCl (X ++ kW (cl_v u bk a) cy (f_X1_clear pl_s 30)) t.heap ∧ va_D A (X ++ kW (cl_v u bk a) cy (f_X1_clear pl_s 30))) A) args s 66 804 A) (F0 m 70 ls []) := by
    intro n
    induction n with
    | zero => intros; omega
    | succ n ih =>
      intro k x at_ wd hk hn ex H locs ls h hl
      refine lv_iload_n hx hb dX1_init_70 rfl (lv_at hl 0 rfl) ?_
      refine lv_bipush (v := 24) hx hb dX1_init_71 (by decide) ?_
      refine lv_icmp_ge (tgt := 96) hx hb dX1_init_73 (by decide) (fun c1 => ?_) (fun c1 => ?_)
      · have q := g_ge ex (M := 24) (n := 24) rfl (by omega) (by omega) c1
        obtain rfl : k = 24 := (by omega)
        refine lv_iconst (v := 0) hx hb dX1_init_96 (by decide) ?_
        refine lv_istore_n (lv' := [(2, .int 0), (0, .ref a), (1, .ref bk)]) hx hb dX1_init_97 rfl hl (by decide) rfl (fun ls hl => ?_)
        exact loop2 6 0 0 at_ wd (by omega) (by omega) rfl _ _ ls h hl
      · have hlt := g_lt ex (M := 24) (n := 24) rfl (by omega) (by omega) c1
        refine lv_aload_n hx hb dX1_init_76 rfl (lv_at hl 1 rfl) ?_
        refine n_get S h 0 in1 (show _ = some (a, _) from rfl) rfl (k := 1) (by decide) (by decide +kernel) rfl dX1_init_77 ?_
        refine lv_iload_n hx hb dX1_init_80 rfl (lv_at hl 0 rfl) ?_
        refine n_new S h (ci := 4) (fs := [.int 0, .int 0, .int 0, .int 0, .int 0, .int 0, .int 0, .int 0, .int 0, .int 0, .int 0]) tyX4 tyX4_ok in4 (by decide +kernel) (by decide +kernel) (by decide +kernel) rfl (fun j hj => by rcases (show j = 0 ∨ j = 1 ∨ j = 2 ∨ j = 3 ∨ j = 4 ∨ j = 5 ∨ j = 6 ∨ j = 7 ∨ j = 8 ∨ j = 9 ∨ j = 10 by omega) with rfl | rfl | rfl | rfl | rfl | rfl | rfl | rfl | rfl | rfl | rfl <;> rfl) (by show 12 + k + 1 ≤ 66; omega) (by show 150 + 11 * k + 11 ≤ 804; omega) dX1_init_81 (fun q H h => ?_)
        refine lv_dup hx hb dX1_init_84 rfl ?_
        refine lv_iload_n hx hb dX1_init_85 rfl (lv_at hl 0 rfl) ?_
        refine n_callI S h (fun hA hD => n_X4_init l D cy _ A _ _ _ hA hD) ⟨callB_of 1 hts gX1_init_X4_init rfl rfl rfl (hts _ (show Cond.initialized RX4 ∈ wsX1_init by decide +kernel)) (hts _ (show Cond.methodLink RX1 17 yX4_init ∈ wsX1_init by decide +kernel)) (by decide +kernel) ⟨(Nat.le_of_ble_eq_true rfl), (Nat.le_of_ble_eq_true rfl)⟩, rfl, hts _ (show Cond.instanceMethod yX4_init ∈ wsX1_init by decide +kernel)⟩ rfl hl.1 rfl (Nat.le_of_ble_eq_true rfl) dX1_init_86 ⟨by show 12 + k + 1 + 0 ≤ 66; omega, by show 150 + 11 * k + 11 + 0 ≤ 804; omega⟩ (fun _ H locs h => ?_)
        rw [ex] at h
        refine n_astq S h 1 (pl_w cy a bk ta bt wa w0 w1 w2 w3 w4 w5 co cn pr k 0 at_ wd).length pl_g1 (n_last rfl) rfl rfl (g_in ex hlt (by omega)) dX1_init_89 (fun H locs h => ?_)
        rw [g_cl ex (by omega), pl_t] at h
        obtain ⟨x2, ex2⟩ : ∃ zz : Int32, zz = x + 1 := ⟨_, rfl⟩
        refine lv_iinc (v := x2) (lv' := [(2, .int x2), (0, .ref a), (1, .ref bk)]) hx hb dX1_init_90 hl (k := 0) rfl (by rw [ex2]; rfl) (by decide) rfl (fun ls hl => ?_)
        refine lv_goto (tgt := 70) hx hb dX1_init_93 (by decide) ?_
        refine W.widen (k := 12 + (k + 1)) (n := 150 + 11 * (k + 1)) (by omega) (by omega) ?_
        exact ih (k + 1) x2 _ _ (by omega) (by omega) (g_s1 ex2 ex) _ _ ls h hl
  exact loop1 25 0 0 _ _ (by omega) (by omega) rfl _ _ ls h hl
