set_option maxHeartbeats 8000000 in
set_option maxRecDepth 100000 in
/-- Math.floorMod(x, y), y not 0 -/
theorem c_J9_floorMod_7cf53 (l : Launch) (D : va_G) (L : Nat → Nat) (cy : Nat → ClassId) (X : va_W) (A : Nat → Prop) (st : gSt) (hD : va_D A (X ++ gW L cy st)) (x : Int32) (y : Int32) (hy : ¬ y = 0) : gMi l yJ9_floorMod_7cf53 wsJ9_floorMod_7cf53 { frames := 0, cells := 0, slots := 0, locals := 0 } D L cy X A [.int x, .int y] st (f_J9_floorMod_7cf53 st x y) st := by
  refine g_entryF hD (cc := cJ9_floorMod_7cf53) (maxL := 3) (ret := (some .int)) (by decide +kernel) rfl (Nat.le_of_ble_eq_true rfl) ?_
  intro p e s m args below meth c ls B
  obtain ⟨S, hr, hlocks, h, hl⟩ := B
  have hx := S.1
  have hb := S.2.1
  have hts := S.2.2.2.2
  have hl : lv_has ls 3 [(0, .int x), (1, .int y)] := hl
  refine lv_iload_n hx hb dJ9_floorMod_7cf53_0 rfl (lv_at hl 0 rfl) ?_
  refine lv_iload_n hx hb dJ9_floorMod_7cf53_1 rfl (lv_at hl 1 rfl) ?_
  refine lv_irem hx hb dJ9_floorMod_7cf53_2 hy ?_
  refine lv_topi (fun x1 ex1 => ?_)
  refine lv_istore_n (lv' := [(2, .int x1), (0, .int x), (1, .int y)]) hx hb dJ9_floorMod_7cf53_3 rfl hl (by decide) rfl (fun ls hl => ?_)
  refine lv_iload_n hx hb dJ9_floorMod_7cf53_4 rfl (lv_at hl 1 rfl) ?_
  refine lv_iload_n hx hb dJ9_floorMod_7cf53_5 rfl (lv_at hl 2 rfl) ?_
  refine lv_ixor hx hb dJ9_floorMod_7cf53_6 ?_
  refine lv_if_ge (tgt := 18) hx hb dJ9_floorMod_7cf53_7 (by decide) (fun c2 => ?_) (fun c2 => ?_)
  · refine lv_iload_n hx hb dJ9_floorMod_7cf53_18 rfl (lv_at hl 0 rfl) ?_
    exact g_reti S h hr hlocks rfl (by subst ex1; first | (simp only [f_J9_floorMod_7cf53, if_pos c2]; done) | (simp only [f_J9_floorMod_7cf53, if_pos c2]; rfl) | rfl) rfl dJ9_floorMod_7cf53_19
  · refine lv_iload_n hx hb dJ9_floorMod_7cf53_10 rfl (lv_at hl 0 rfl) ?_
    refine lv_if_eq (tgt := 18) hx hb dJ9_floorMod_7cf53_11 (by decide) (fun c3 => ?_) (fun c3 => ?_)
    · refine lv_iload_n hx hb dJ9_floorMod_7cf53_18 rfl (lv_at hl 0 rfl) ?_
      exact g_reti S h hr hlocks rfl (by subst ex1; first | (simp only [f_J9_floorMod_7cf53, if_neg c2, if_pos c3]; done) | (simp only [f_J9_floorMod_7cf53, if_neg c2, if_pos c3]; rfl) | rfl) rfl dJ9_floorMod_7cf53_19
    · refine lv_iload_n hx hb dJ9_floorMod_7cf53_14 rfl (lv_at hl 0 rfl) ?_
      refine lv_iload_n hx hb dJ9_floorMod_7cf53_15 rfl (lv_at hl 2 rfl) ?_
      refine lv_iadd hx hb dJ9_floorMod_7cf53_16 ?_
      exact g_reti S h hr hlocks rfl (by subst ex1; first | (simp only [f_J9_floorMod_7cf53, if_neg c2, if_neg c3]; done) | (simp only [f_J9_floorMod_7cf53, if_neg c2, if_neg c3]; rfl) | rfl) rfl dJ9_floorMod_7cf53_17
theorem f_fm_toInt (x : Int32) : (x - x / 20 * 20).toInt = x.toInt.tmod 20 := by
  have h1 := Int32.le_toInt x
  have h2 := Int32.toInt_lt x
  have h20 : (20 : Int32).toInt = 20 := rfl
  have he := Int.mul_tdiv_add_tmod x.toInt 20
  have hb : -20 < x.toInt.tmod 20 := Int.lt_tmod_of_pos x.toInt (by decide)
  have hb2 : x.toInt.tmod 20 < 20 := Int.tmod_lt_of_pos x.toInt (by decide)
  have hs : 0 ≤ x.toInt → 0 ≤ x.toInt.tmod 20 := fun h => Int.tmod_nonneg 20 h
  have hs2 : x.toInt ≤ 0 → x.toInt.tmod 20 ≤ 0 := fun h => by
    have h3 := Int.tmod_nonneg 20 (show 0 ≤ -x.toInt by omega)
    rw [Int.neg_tmod] at h3
    omega
  have hd : (x / 20).toInt = x.toInt.tdiv 20 := by
    rw [Int32.toInt_div, h20]
    exact Int.bmod_eq_of_le (by omega) (by omega)
  have hm : (x / 20 * 20).toInt = x.toInt.tdiv 20 * 20 := by
    rw [Int32.toInt_mul, hd, h20]
    exact Int.bmod_eq_of_le (by omega) (by omega)
  rw [Int32.toInt_sub, hm]
  rw [Int.bmod_eq_of_le (by omega) (by omega)]
  omega
theorem f_fm_in (st : gSt) (x : Int32) : vp_in (f_J9_floorMod_7cf53 st x 20) 20 := by
  have hb : -20 < x.toInt.tmod 20 := Int.lt_tmod_of_pos x.toInt (by decide)
  have hb2 : x.toInt.tmod 20 < 20 := Int.tmod_lt_of_pos x.toInt (by decide)
  have he := f_fm_toInt x
  have h0 : (0 : Int32).toInt = 0 := rfl
  have h20 : (20 : Int32).toInt = 20 := rfl
  have hsg : 0 ≤ x ^^^ 20 ↔ 0 ≤ x := by
    rw [Int32.le_iff_toBitVec_sle, Int32.le_iff_toBitVec_sle]
    have hm : (20#32 : BitVec 32).msb = false := by decide
    simp [BitVec.zero_sle_eq_not_msb, Int32.toBitVec_xor, hm]
  rw [vp_in_iff]
  simp only [f_J9_floorMod_7cf53]
  split
  · rename_i c
    have hx : 0 ≤ x.toInt := by
      have := Int32.le_iff_toInt_le.mp (hsg.mp c)
      omega
    have := Int.tmod_nonneg 20 hx
    omega
  · split
    · rename_i c
      rw [c]
      omega
    · rename_i c c2
      have hx : ¬ 0 ≤ x.toInt := fun q => c (hsg.mpr (Int32.le_iff_toInt_le.mpr (by omega)))
      have h3 := Int.tmod_nonneg 20 (show 0 ≤ -x.toInt by omega)
      rw [Int.neg_tmod] at h3
      have hne : x.toInt.tmod 20 ≠ 0 := fun q => c2 (Int32.toInt_inj.mp (by rw [he, q, h0]))
      have hadd : (x - x / 20 * 20 + 20).toInt = x.toInt.tmod 20 + 20 := by
        rw [Int32.toInt_add, he, h20]
        exact Int.bmod_eq_of_le (by omega) (by omega)
      omega
set_option maxHeartbeats 8000000 in
set_option maxRecDepth 100000 in
/-- Arrays.fill(int[20], v) -/
theorem c_J7_fill_53178_12 (l : Launch) (D : va_G) (L : Nat → Nat) (cy : Nat → ClassId) (X : va_W) (A : Nat → Prop) (st : gSt) (hD : va_D A (X ++ gW L cy st)) {i : Nat} (hi : gkd i = 12) (v : Int32)  : gMv l yJ7_fill_53178 wsJ7_fill_53178 { frames := 0, cells := 0, slots := 0, locals := 0 } D L cy X A [.ref (L i), .int v] st (f_J7_fill_53178_12 st i v) := by
  refine g_entry hD (cc := cJ7_fill_53178) (maxL := 4) (ret := none) (by decide +kernel) rfl (Nat.le_of_ble_eq_true rfl) ?_
  intro p e s m args below meth c ls B
  obtain ⟨S, hr, hlocks, h, hl⟩ := B
  have hx := S.1
  have hb := S.2.1
  have hts := S.2.2.2.2
  have hl : lv_has ls 4 [(0, .ref (L i)), (1, .int v)] := hl
  refine lv_iconst (v := 0) hx hb dJ7_fill_53178_0 (by decide) ?_
  refine lv_istore_n (lv' := [(2, .int 0), (0, .ref (L i)), (1, .int v)]) hx hb dJ7_fill_53178_1 rfl hl (by decide) rfl (fun ls hl => ?_)
  refine lv_aload_n hx hb dJ7_fill_53178_2 rfl (lv_at hl 1 rfl) ?_
  refine g_alen S h (t0 := 0) hi (by decide) rfl rfl rfl dJ7_fill_53178_3 ?_
  refine lv_istore_n (lv' := [(3, .int 20), (2, .int 0), (0, .ref (L i)), (1, .int v)]) hx hb dJ7_fill_53178_4 rfl hl (by decide) rfl (fun ls hl => ?_)
  have loopL1 : ∀ (nL1 : Nat) (st1 : gSt) (x : Int32) (k : Nat), (k ≤ 20) → (20 < k + nL1) → (x = nI k) → ∀ (H : Heap) (locs : List Loc) (ls : Array Slot), gH D L cy X A st1 s H locs → lv_has ls 4 [(3, .int 20), (2, .int x), (0, .ref (L i)), (1, .int v)] → W p l e { frames := 0, cells := 0, slots := 0, locals := 0 } s m args below meth c H locs 0 0 (MQ below (va_Qv (fun (_ : Unit) => True) (fun _ zt => va_P D vwCl (X ++ gW L cy (f_J7_fill_53178_12_L1 i v nL1 st1 x)) zt.heap) A) args s 0 0 A) (F0 m 5 ls []) := by
    intro nL1
    induction nL1 with
    | zero => intros; omega
    | succ nL1 ihL1 =>
      intro st1 x k hk hn ex H locs ls h hl
      refine lv_iload_n hx hb dJ7_fill_53178_5 rfl (lv_at hl 1 rfl) ?_
      refine lv_iload_n hx hb dJ7_fill_53178_6 rfl (lv_at hl 0 rfl) ?_
      refine lv_icmp_ge (tgt := 20) hx hb dJ7_fill_53178_7 (by decide) (fun c1 => ?_) (fun c1 => ?_)
      · exact g_retv S h hr hlocks (by first | (simp only [f_J7_fill_53178_12_L1, if_pos c1]; done) | (simp only [f_J7_fill_53178_12_L1, if_pos c1]; rfl) | rfl) dJ7_fill_53178_20
      · refine lv_aload_n hx hb dJ7_fill_53178_10 rfl (lv_at hl 2 rfl) ?_
        refine lv_iload_n hx hb dJ7_fill_53178_11 rfl (lv_at hl 1 rfl) ?_
        refine lv_iload_n hx hb dJ7_fill_53178_12 rfl (lv_at hl 3 rfl) ?_
        refine g_ias S h hi (by decide) (fun _ => rfl) (g_in ex (g_lt ex (M := 20) (n := 20) rfl (by omega) (by omega) c1) (by omega)) dJ7_fill_53178_13 (fun H locs h => ?_)
        obtain ⟨x3, ex3⟩ : ∃ zz : Int32, zz = x + 1 := ⟨_, rfl⟩
        refine lv_iinc (v := x3) (lv' := [(2, .int x3), (3, .int 20), (0, .ref (L i)), (1, .int v)]) hx hb dJ7_fill_53178_14 hl (k := 1) rfl (by rw [ex3]; rfl) (by decide) rfl (fun ls hl => ?_)
        refine lv_goto (tgt := 5) hx hb dJ7_fill_53178_17 (by decide) ?_
        have hlt := g_lt ex (M := 20) (n := 20) rfl (by omega) (by omega) c1
        exact g_cvv (by subst ex3; first | (simp only [f_J7_fill_53178_12_L1, if_neg c1]; done) | (simp only [f_J7_fill_53178_12_L1, if_neg c1]; rfl) | rfl) (ihL1 _ x3 (k + 1) (by omega) (by omega) (g_s1 ex3 ex) _ _ ls h (lv_sub hl [1, 0, 2, 3] rfl))
  exact g_cvv (by first | (simp only [f_J7_fill_53178_12]; done) | (simp only [f_J7_fill_53178_12]; rfl) | rfl) (loopL1 21 _ 0 0 (by omega) (by omega) rfl _ _ ls h (lv_sub hl [0, 1, 2, 3] rfl))
set_option maxHeartbeats 8000000 in
set_option maxRecDepth 100000 in
/-- Arrays.fill(int[6], v) -/
theorem c_J7_fill_53178_13 (l : Launch) (D : va_G) (L : Nat → Nat) (cy : Nat → ClassId) (X : va_W) (A : Nat → Prop) (st : gSt) (hD : va_D A (X ++ gW L cy st)) {i : Nat} (hi : gkd i = 13) (v : Int32)  : gMv l yJ7_fill_53178 wsJ7_fill_53178 { frames := 0, cells := 0, slots := 0, locals := 0 } D L cy X A [.ref (L i), .int v] st (f_J7_fill_53178_13 st i v) := by
  refine g_entry hD (cc := cJ7_fill_53178) (maxL := 4) (ret := none) (by decide +kernel) rfl (Nat.le_of_ble_eq_true rfl) ?_
  intro p e s m args below meth c ls B
  obtain ⟨S, hr, hlocks, h, hl⟩ := B
  have hx := S.1
  have hb := S.2.1
  have hts := S.2.2.2.2
  have hl : lv_has ls 4 [(0, .ref (L i)), (1, .int v)] := hl
  refine lv_iconst (v := 0) hx hb dJ7_fill_53178_0 (by decide) ?_
  refine lv_istore_n (lv' := [(2, .int 0), (0, .ref (L i)), (1, .int v)]) hx hb dJ7_fill_53178_1 rfl hl (by decide) rfl (fun ls hl => ?_)
  refine lv_aload_n hx hb dJ7_fill_53178_2 rfl (lv_at hl 1 rfl) ?_
  refine g_alen S h (t0 := 0) hi (by decide) rfl rfl rfl dJ7_fill_53178_3 ?_
  refine lv_istore_n (lv' := [(3, .int 6), (2, .int 0), (0, .ref (L i)), (1, .int v)]) hx hb dJ7_fill_53178_4 rfl hl (by decide) rfl (fun ls hl => ?_)
  have loopL1 : ∀ (nL1 : Nat) (st1 : gSt) (x : Int32) (k : Nat), (k ≤ 6) → (6 < k + nL1) → (x = nI k) → ∀ (H : Heap) (locs : List Loc) (ls : Array Slot), gH D L cy X A st1 s H locs → lv_has ls 4 [(3, .int 6), (2, .int x), (0, .ref (L i)), (1, .int v)] → W p l e { frames := 0, cells := 0, slots := 0, locals := 0 } s m args below meth c H locs 0 0 (MQ below (va_Qv (fun (_ : Unit) => True) (fun _ zt => va_P D vwCl (X ++ gW L cy (f_J7_fill_53178_13_L1 i v nL1 st1 x)) zt.heap) A) args s 0 0 A) (F0 m 5 ls []) := by
    intro nL1
    induction nL1 with
    | zero => intros; omega
    | succ nL1 ihL1 =>
      intro st1 x k hk hn ex H locs ls h hl
      refine lv_iload_n hx hb dJ7_fill_53178_5 rfl (lv_at hl 1 rfl) ?_
      refine lv_iload_n hx hb dJ7_fill_53178_6 rfl (lv_at hl 0 rfl) ?_
      refine lv_icmp_ge (tgt := 20) hx hb dJ7_fill_53178_7 (by decide) (fun c1 => ?_) (fun c1 => ?_)
      · exact g_retv S h hr hlocks (by first | (simp only [f_J7_fill_53178_13_L1, if_pos c1]; done) | (simp only [f_J7_fill_53178_13_L1, if_pos c1]; rfl) | rfl) dJ7_fill_53178_20
      · refine lv_aload_n hx hb dJ7_fill_53178_10 rfl (lv_at hl 2 rfl) ?_
        refine lv_iload_n hx hb dJ7_fill_53178_11 rfl (lv_at hl 1 rfl) ?_
        refine lv_iload_n hx hb dJ7_fill_53178_12 rfl (lv_at hl 3 rfl) ?_
        refine g_ias S h hi (by decide) (fun _ => rfl) (g_in ex (g_lt ex (M := 6) (n := 6) rfl (by omega) (by omega) c1) (by omega)) dJ7_fill_53178_13 (fun H locs h => ?_)
        obtain ⟨x3, ex3⟩ : ∃ zz : Int32, zz = x + 1 := ⟨_, rfl⟩
        refine lv_iinc (v := x3) (lv' := [(2, .int x3), (3, .int 6), (0, .ref (L i)), (1, .int v)]) hx hb dJ7_fill_53178_14 hl (k := 1) rfl (by rw [ex3]; rfl) (by decide) rfl (fun ls hl => ?_)
        refine lv_goto (tgt := 5) hx hb dJ7_fill_53178_17 (by decide) ?_
        have hlt := g_lt ex (M := 6) (n := 6) rfl (by omega) (by omega) c1
        exact g_cvv (by subst ex3; first | (simp only [f_J7_fill_53178_13_L1, if_neg c1]; done) | (simp only [f_J7_fill_53178_13_L1, if_neg c1]; rfl) | rfl) (ihL1 _ x3 (k + 1) (by omega) (by omega) (g_s1 ex3 ex) _ _ ls h (lv_sub hl [1, 0, 2, 3] rfl))
  exact g_cvv (by first | (simp only [f_J7_fill_53178_13]; done) | (simp only [f_J7_fill_53178_13]; rfl) | rfl) (loopL1 7 _ 0 0 (by omega) (by omega) rfl _ _ ls h (lv_sub hl [0, 1, 2, 3] rfl))
set_option maxHeartbeats 8000000 in
set_option maxRecDepth 100000 in
/-- Task.lastChild() -/
theorem c_X4_lastChild (l : Launch) (D : va_G) (L : Nat → Nat) (cy : Nat → ClassId) (X : va_W) (A : Nat → Prop) (st : gSt) (hD : va_D A (X ++ gW L cy st)) {i : Nat} (hi : gkd i = 7)  : gMi l yX4_lastChild wsX4_lastChild { frames := 1, cells := 0, slots := 0, locals := 21 } D L cy X A [.ref (L i)] st (f_X4_lastChild st i) st := by
  refine g_entry hD (cc := cX4_lastChild) (maxL := 1) (ret := (some .int)) (by decide +kernel) rfl (Nat.le_of_ble_eq_true rfl) ?_
  intro p e s m args below meth c ls B
  obtain ⟨S, hr, hlocks, h, hl⟩ := B
  have hx := S.1
  have hb := S.2.1
  have hts := S.2.2.2.2
  have in4 : ∀ w ∈ wsX40, w ∈ wsX4_lastChild := by decide +kernel
  have hl : lv_has ls 1 [(0, .ref (L i))] := hl
  refine lv_bipush (v := 31) hx hb dX4_lastChild_0 (by decide) ?_
  refine lv_aload_n hx hb dX4_lastChild_2 rfl (lv_at hl 0 rfl) ?_
  refine g_get S h hi (by decide) rfl rfl in4 (k := 6) (by decide) (by decide +kernel) rfl dX4_lastChild_3 ?_
  refine g_calliS S h (c_J6_numberOfLeadingZeros_0f7a4 l D L cy X A _ (h.2.2.2.2 _) _) (va_cwS 1 hts gX4_lastChild_J6_numberOfLeadingZeros_0f7a4 rfl rfl rfl (by decide +kernel) ⟨Nat.le_of_ble_eq_true rfl, Nat.le_of_ble_eq_true rfl⟩) rfl hl.1 rfl (Nat.le_of_ble_eq_true rfl) dX4_lastChild_6 ⟨Nat.zero_le _, Nat.zero_le _⟩ (fun H locs h => ?_)
  refine lv_isub hx hb dX4_lastChild_9 ?_
  exact g_reti S h hr hlocks rfl (by first | (simp only [f_X4_lastChild]; done) | (simp only [f_X4_lastChild]; rfl) | rfl) rfl dX4_lastChild_10
set_option maxHeartbeats 8000000 in
set_option maxRecDepth 100000 in
/-- Task.addValue(n) -/
theorem c_X4_addValue (l : Launch) (D : va_G) (L : Nat → Nat) (cy : Nat → ClassId) (X : va_W) (A : Nat → Prop) (st : gSt) (hD : va_D A (X ++ gW L cy st)) {i : Nat} (hi : gkd i = 7) (n0 : Int32)  : gMv l yX4_addValue wsX4_addValue { frames := 1, cells := 0, slots := 0, locals := 24 } D L cy X A [.ref (L i), .int n0] st (f_X4_addValue st i n0) := by
  refine g_entry hD (cc := cX4_addValue) (maxL := 2) (ret := none) (by decide +kernel) rfl (Nat.le_of_ble_eq_true rfl) ?_
  intro p e s m args below meth c ls B
  obtain ⟨S, hr, hlocks, h, hl⟩ := B
  have hx := S.1
  have hb := S.2.1
  have hts := S.2.2.2.2
  have in4 : ∀ w ∈ wsX40, w ∈ wsX4_addValue := by decide +kernel
  have hl : lv_has ls 2 [(0, .ref (L i)), (1, .int n0)] := hl
  refine lv_aload_n hx hb dX4_addValue_0 rfl (lv_at hl 0 rfl) ?_
  refine lv_ldc (v := (-999999)) hx hb S.2.2.2.1 (hts (.constant RX4 49 (-999999)) (by decide +kernel)) dX4_addValue_1 ?_
  refine lv_ldc (v := 999999) hx hb S.2.2.2.1 (hts (.constant RX4 50 999999) (by decide +kernel)) dX4_addValue_3 ?_
  refine lv_aload_n hx hb dX4_addValue_5 rfl (lv_at hl 0 rfl) ?_
  refine g_get S h hi (by decide) rfl rfl in4 (k := 4) (by decide) (by decide +kernel) rfl dX4_addValue_6 ?_
  refine lv_iload_n hx hb dX4_addValue_9 rfl (lv_at hl 1 rfl) ?_
  refine lv_iadd hx hb dX4_addValue_10 ?_
  refine va_mmin hx hb (S.2.2.1.trans hl.1.symm) S.2.2.2.1 (hts (.methodLink RX4 51 Lib.Math.min.name) (by decide +kernel)) (hts (.static Lib.Math.min.name) (by decide +kernel)) (hts (.initialized "java/lang/Math") (by decide +kernel)) (hts (.code Lib.Math.min.name Lib.Math.min.code 2 (some .int)) (by decide +kernel)) (Nat.le_of_ble_eq_true rfl) (Nat.le_of_ble_eq_true rfl) (Nat.zero_le _) (Nat.zero_le _) dX4_addValue_11 ?_
  refine va_mmax hx hb (S.2.2.1.trans hl.1.symm) S.2.2.2.1 (hts (.methodLink RX4 57 Lib.Math.max.name) (by decide +kernel)) (hts (.static Lib.Math.max.name) (by decide +kernel)) (hts (.initialized "java/lang/Math") (by decide +kernel)) (hts (.code Lib.Math.max.name Lib.Math.max.code 2 (some .int)) (by decide +kernel)) (Nat.le_of_ble_eq_true rfl) (Nat.le_of_ble_eq_true rfl) (Nat.zero_le _) (Nat.zero_le _) dX4_addValue_14 ?_
  refine g_put S h tyX4 tyX4_ok nmX4 hi (by decide) rfl rfl in4 (k := 4) (by decide) (by decide +kernel) rfl rfl (Nat.le_of_ble_eq_true rfl) rfl dX4_addValue_17 (fun H locs h => ?_)
  exact g_retv S h hr hlocks (by first | (simp only [f_X4_addValue]; done) | (simp only [f_X4_addValue]; rfl) | rfl) dX4_addValue_20
set_option maxHeartbeats 8000000 in
set_option maxRecDepth 100000 in
/-- Worker.begin() -/
theorem c_X5_begin (l : Launch) (D : va_G) (L : Nat → Nat) (cy : Nat → ClassId) (X : va_W) (A : Nat → Prop) (st : gSt) (hD : va_D A (X ++ gW L cy st)) {i : Nat} (hi : gkd i = 9)  : gMv l yX5_begin wsX5_begin { frames := 1, cells := 0, slots := 0, locals := 23 } D L cy X A [.ref (L i)] st (f_X5_begin st i) := by
  refine g_entry hD (cc := cX5_begin) (maxL := 1) (ret := none) (by decide +kernel) rfl (Nat.le_of_ble_eq_true rfl) ?_
  intro p e s m args below meth c ls B
  obtain ⟨S, hr, hlocks, h, hl⟩ := B
  have hx := S.1
  have hb := S.2.1
  have hts := S.2.2.2.2
  have in5 : ∀ w ∈ wsX50, w ∈ wsX5_begin := by decide +kernel
  have hl : lv_has ls 1 [(0, .ref (L i))] := hl
  refine lv_aload_n hx hb dX5_begin_0 rfl (lv_at hl 0 rfl) ?_
  refine g_get S h hi (by decide) rfl rfl in5 (k := 0) (by decide) (by decide +kernel) rfl dX5_begin_1 ?_
  refine g_callv S h (c_X2_clear l D L cy X A _ (h.2.2.2.2 _) (gk9_1 hi)) (cwV 0 hts gX5_begin_X2_clear rfl rfl rfl (by decide +kernel) ⟨Nat.le_of_ble_eq_true rfl, Nat.le_of_ble_eq_true rfl⟩) (g_pre h (gk9_1 hi) (by decide) rfl rfl _) rfl hl.1 rfl (Nat.le_of_ble_eq_true rfl) dX5_begin_4 ⟨Nat.zero_le _, Nat.zero_le _⟩ (fun H locs h => ?_)
  refine lv_aload_n hx hb dX5_begin_7 rfl (lv_at hl 0 rfl) ?_
  refine g_get S h hi (by decide) rfl rfl in5 (k := 1) (by decide) (by decide +kernel) rfl dX5_begin_8 ?_
  refine g_callv S h (c_X2_clear l D L cy X A _ (h.2.2.2.2 _) (gk9_3 hi)) (cwV 0 hts gX5_begin_X2_clear rfl rfl rfl (by decide +kernel) ⟨Nat.le_of_ble_eq_true rfl, Nat.le_of_ble_eq_true rfl⟩) (g_pre h (gk9_3 hi) (by decide) rfl rfl _) rfl hl.1 rfl (Nat.le_of_ble_eq_true rfl) dX5_begin_11 ⟨Nat.zero_le _, Nat.zero_le _⟩ (fun H locs h => ?_)
  refine lv_aload_n hx hb dX5_begin_14 rfl (lv_at hl 0 rfl) ?_
  refine lv_iconst (v := 0) hx hb dX5_begin_15 (by decide) ?_
  refine g_put S h tyX5 tyX5_ok nmX5 hi (by decide) rfl rfl in5 (k := 2) (by decide) (by decide +kernel) rfl rfl (Nat.le_of_ble_eq_true rfl) rfl dX5_begin_16 (fun H locs h => ?_)
  refine lv_aload_n hx hb dX5_begin_19 rfl (lv_at hl 0 rfl) ?_
  refine lv_iconst (v := 0) hx hb dX5_begin_20 (by decide) ?_
  refine g_put S h tyX5 tyX5_ok nmX5 hi (by decide) rfl rfl in5 (k := 3) (by decide) (by decide +kernel) rfl rfl (Nat.le_of_ble_eq_true rfl) rfl dX5_begin_21 (fun H locs h => ?_)
  refine lv_aload_n hx hb dX5_begin_24 rfl (lv_at hl 0 rfl) ?_
  refine lv_iconst (v := 0) hx hb dX5_begin_25 (by decide) ?_
  refine g_put S h tyX5 tyX5_ok nmX5 hi (by decide) rfl rfl in5 (k := 4) (by decide) (by decide +kernel) rfl rfl (Nat.le_of_ble_eq_true rfl) rfl dX5_begin_26 (fun H locs h => ?_)
  refine lv_aload_n hx hb dX5_begin_29 rfl (lv_at hl 0 rfl) ?_
  refine g_get S h hi (by decide) rfl rfl in5 (k := 5) (by decide) (by decide +kernel) rfl dX5_begin_30 ?_
  refine lv_iconst (v := (-1)) hx hb dX5_begin_33 (by decide) ?_
  refine g_callvS S h (c_J7_fill_53178_12 l D L cy X A _ (h.2.2.2.2 _) (gk9_5 hi) _) (va_cwS 2 hts gX5_begin_J7_fill_53178 rfl rfl rfl (by decide +kernel) ⟨Nat.le_of_ble_eq_true rfl, Nat.le_of_ble_eq_true rfl⟩) rfl hl.1 rfl (Nat.le_of_ble_eq_true rfl) dX5_begin_34 ⟨Nat.zero_le _, Nat.zero_le _⟩ (fun H locs h => ?_)
  exact g_retv S h hr hlocks (by first | (simp only [f_X5_begin]; done) | (simp only [f_X5_begin]; rfl) | rfl) dX5_begin_37
set_option maxHeartbeats 8000000 in
set_option maxRecDepth 100000 in
/-- Worker.copyFrom(other) -/
theorem c_X5_copyFrom (l : Launch) (D : va_G) (L : Nat → Nat) (cy : Nat → ClassId) (X : va_W) (A : Nat → Prop) (st : gSt) (hD : va_D A (X ++ gW L cy st)) {i : Nat} (hi : gkd i = 9) {j : Nat} (hj : gkd j = 9)  : gMv l yX5_copyFrom wsX5_copyFrom { frames := 1, cells := 0, slots := 0, locals := 22 } D L cy X A [.ref (L i), .ref (L j)] st (f_X5_copyFrom st i j) := by
  refine g_entry hD (cc := cX5_copyFrom) (maxL := 3) (ret := none) (by decide +kernel) rfl (Nat.le_of_ble_eq_true rfl) ?_
  intro p e s m args below meth c ls B
  obtain ⟨S, hr, hlocks, h, hl⟩ := B
  have hx := S.1
  have hb := S.2.1
  have hts := S.2.2.2.2
  have in5 : ∀ w ∈ wsX50, w ∈ wsX5_copyFrom := by decide +kernel
  have hl : lv_has ls 3 [(0, .ref (L i)), (1, .ref (L j))] := hl
  refine lv_aload_n hx hb dX5_copyFrom_0 rfl (lv_at hl 0 rfl) ?_
  refine g_get S h hi (by decide) rfl rfl in5 (k := 0) (by decide) (by decide +kernel) rfl dX5_copyFrom_1 ?_
  refine lv_aload_n hx hb dX5_copyFrom_4 rfl (lv_at hl 1 rfl) ?_
  refine g_get S h hj (by decide) rfl rfl in5 (k := 0) (by decide) (by decide +kernel) rfl dX5_copyFrom_5 ?_
  refine g_callv S h (c_X2_copyFrom l D L cy X A _ (h.2.2.2.2 _) (gk9_1 hi) (gk9_1 hj)) (cwV 1 hts gX5_copyFrom_X2_copyFrom rfl rfl rfl (by decide +kernel) ⟨Nat.le_of_ble_eq_true rfl, Nat.le_of_ble_eq_true rfl⟩) (g_pre h (gk9_1 hi) (by decide) rfl rfl _) rfl hl.1 rfl (Nat.le_of_ble_eq_true rfl) dX5_copyFrom_8 ⟨Nat.zero_le _, Nat.zero_le _⟩ (fun H locs h => ?_)
  refine lv_aload_n hx hb dX5_copyFrom_11 rfl (lv_at hl 0 rfl) ?_
  refine g_get S h hi (by decide) rfl rfl in5 (k := 1) (by decide) (by decide +kernel) rfl dX5_copyFrom_12 ?_
  refine lv_aload_n hx hb dX5_copyFrom_15 rfl (lv_at hl 1 rfl) ?_
  refine g_get S h hj (by decide) rfl rfl in5 (k := 1) (by decide) (by decide +kernel) rfl dX5_copyFrom_16 ?_
  refine g_callv S h (c_X2_copyFrom l D L cy X A _ (h.2.2.2.2 _) (gk9_3 hi) (gk9_3 hj)) (cwV 1 hts gX5_copyFrom_X2_copyFrom rfl rfl rfl (by decide +kernel) ⟨Nat.le_of_ble_eq_true rfl, Nat.le_of_ble_eq_true rfl⟩) (g_pre h (gk9_3 hi) (by decide) rfl rfl _) rfl hl.1 rfl (Nat.le_of_ble_eq_true rfl) dX5_copyFrom_19 ⟨Nat.zero_le _, Nat.zero_le _⟩ (fun H locs h => ?_)
  refine lv_aload_n hx hb dX5_copyFrom_22 rfl (lv_at hl 0 rfl) ?_
  refine lv_aload_n hx hb dX5_copyFrom_23 rfl (lv_at hl 1 rfl) ?_
  refine g_get S h hj (by decide) rfl rfl in5 (k := 2) (by decide) (by decide +kernel) rfl dX5_copyFrom_24 ?_
  refine g_put S h tyX5 tyX5_ok nmX5 hi (by decide) rfl rfl in5 (k := 2) (by decide) (by decide +kernel) rfl rfl (Nat.le_of_ble_eq_true rfl) rfl dX5_copyFrom_27 (fun H locs h => ?_)
  refine lv_aload_n hx hb dX5_copyFrom_30 rfl (lv_at hl 0 rfl) ?_
  refine lv_aload_n hx hb dX5_copyFrom_31 rfl (lv_at hl 1 rfl) ?_
  refine g_get S h hj (by decide) rfl rfl in5 (k := 3) (by decide) (by decide +kernel) rfl dX5_copyFrom_32 ?_
  refine g_put S h tyX5 tyX5_ok nmX5 hi (by decide) rfl rfl in5 (k := 3) (by decide) (by decide +kernel) rfl rfl (Nat.le_of_ble_eq_true rfl) rfl dX5_copyFrom_35 (fun H locs h => ?_)
  refine lv_aload_n hx hb dX5_copyFrom_38 rfl (lv_at hl 0 rfl) ?_
  refine lv_aload_n hx hb dX5_copyFrom_39 rfl (lv_at hl 1 rfl) ?_
  refine g_get S h hj (by decide) rfl rfl in5 (k := 4) (by decide) (by decide +kernel) rfl dX5_copyFrom_40 ?_
  refine g_put S h tyX5 tyX5_ok nmX5 hi (by decide) rfl rfl in5 (k := 4) (by decide) (by decide +kernel) rfl rfl (Nat.le_of_ble_eq_true rfl) rfl dX5_copyFrom_43 (fun H locs h => ?_)
  refine lv_iconst (v := 0) hx hb dX5_copyFrom_46 (by decide) ?_
  refine lv_istore_n (lv' := [(2, .int 0), (0, .ref (L i)), (1, .ref (L j))]) hx hb dX5_copyFrom_47 rfl hl (by decide) rfl (fun ls hl => ?_)
  have loopL1 : ∀ (nL1 : Nat) (st1 : gSt) (x : Int32) (k : Nat), (k ≤ 20) → (20 < k + nL1) → (x = nI k) → ∀ (H : Heap) (locs : List Loc) (ls : Array Slot), gH D L cy X A st1 s H locs → lv_has ls 3 [(2, .int x), (0, .ref (L i)), (1, .ref (L j))] → W p l e { frames := 1, cells := 0, slots := 0, locals := 22 } s m args below meth c H locs 0 0 (MQ below (va_Qv (fun (_ : Unit) => True) (fun _ zt => va_P D vwCl (X ++ gW L cy (f_X5_copyFrom_L1 i j nL1 st1 x)) zt.heap) A) args s 0 0 A) (F0 m 48 ls []) := by
    intro nL1
    induction nL1 with
    | zero => intros; omega
    | succ nL1 ihL1 =>
      intro st1 x k hk hn ex H locs ls h hl
      refine lv_iload_n hx hb dX5_copyFrom_48 rfl (lv_at hl 0 rfl) ?_
      refine lv_bipush (v := 20) hx hb dX5_copyFrom_49 (by decide) ?_
      refine lv_icmp_ge (tgt := 72) hx hb dX5_copyFrom_51 (by decide) (fun c6 => ?_) (fun c6 => ?_)
      · exact g_retv S h hr hlocks (by first | (simp only [f_X5_copyFrom_L1, if_pos c6]; done) | (simp only [f_X5_copyFrom_L1, if_pos c6]; rfl) | rfl) dX5_copyFrom_72
      · refine lv_aload_n hx hb dX5_copyFrom_54 rfl (lv_at hl 1 rfl) ?_
        refine g_get S h hi (by decide) rfl rfl in5 (k := 5) (by decide) (by decide +kernel) rfl dX5_copyFrom_55 ?_
        refine lv_iload_n hx hb dX5_copyFrom_58 rfl (lv_at hl 0 rfl) ?_
        refine lv_aload_n hx hb dX5_copyFrom_59 rfl (lv_at hl 2 rfl) ?_
        refine g_get S h hj (by decide) rfl rfl in5 (k := 5) (by decide) (by decide +kernel) rfl dX5_copyFrom_60 ?_
        refine lv_iload_n hx hb dX5_copyFrom_63 rfl (lv_at hl 0 rfl) ?_
        refine g_ial S h (gk9_5 hj) (by decide) rfl (g_in ex (g_lt ex (M := 20) (n := 20) rfl (by omega) (by omega) c6) (by omega)) dX5_copyFrom_64 ?_
        refine g_ias S h (gk9_5 hi) (by decide) (fun _ => rfl) (g_in ex (g_lt ex (M := 20) (n := 20) rfl (by omega) (by omega) c6) (by omega)) dX5_copyFrom_65 (fun H locs h => ?_)
        obtain ⟨x8, ex8⟩ : ∃ zz : Int32, zz = x + 1 := ⟨_, rfl⟩
        refine lv_iinc (v := x8) (lv' := [(2, .int x8), (0, .ref (L i)), (1, .ref (L j))]) hx hb dX5_copyFrom_66 hl (k := 0) rfl (by rw [ex8]; rfl) (by decide) rfl (fun ls hl => ?_)
        refine lv_goto (tgt := 48) hx hb dX5_copyFrom_69 (by decide) ?_
        have hlt := g_lt ex (M := 20) (n := 20) rfl (by omega) (by omega) c6
        exact g_cvv (by subst ex8; first | (simp only [f_X5_copyFrom_L1, if_neg c6]; done) | (simp only [f_X5_copyFrom_L1, if_neg c6]; rfl) | rfl) (ihL1 _ x8 (k + 1) (by omega) (by omega) (g_s1 ex8 ex) _ _ ls h (lv_sub hl [0, 1, 2] rfl))
  exact g_cvv (by first | (simp only [f_X5_copyFrom]; done) | (simp only [f_X5_copyFrom]; rfl) | rfl) (loopL1 21 _ 0 0 (by omega) (by omega) rfl _ _ ls h (lv_sub hl [0, 1, 2] rfl))
set_option maxHeartbeats 8000000 in
set_option maxRecDepth 100000 in
/-- Worker.ranIn(clock) -/
theorem c_X5_ranIn (l : Launch) (D : va_G) (L : Nat → Nat) (cy : Nat → ClassId) (X : va_W) (A : Nat → Prop) (st : gSt) (hD : va_D A (X ++ gW L cy st)) {i : Nat} (hi : gkd i = 9) (x : Int32)  : gMi l yX5_ranIn wsX5_ranIn { frames := 1, cells := 0, slots := 0, locals := 22 } D L cy X A [.ref (L i), .int x] st (f_X5_ranIn st i x) st := by
  refine g_entry hD (cc := cX5_ranIn) (maxL := 2) (ret := (some .int)) (by decide +kernel) rfl (Nat.le_of_ble_eq_true rfl) ?_
  intro p e s m args below meth c ls B
  obtain ⟨S, hr, hlocks, h, hl⟩ := B
  have hx := S.1
  have hb := S.2.1
  have hts := S.2.2.2.2
  have in5 : ∀ w ∈ wsX50, w ∈ wsX5_ranIn := by decide +kernel
  have hl : lv_has ls 2 [(0, .ref (L i)), (1, .int x)] := hl
  refine lv_aload_n hx hb dX5_ranIn_0 rfl (lv_at hl 0 rfl) ?_
  refine g_get S h hi (by decide) rfl rfl in5 (k := 5) (by decide) (by decide +kernel) rfl dX5_ranIn_1 ?_
  refine lv_iload_n hx hb dX5_ranIn_4 rfl (lv_at hl 1 rfl) ?_
  refine lv_bipush (v := 20) hx hb dX5_ranIn_5 (by decide) ?_
  refine g_calliS S h (c_J9_floorMod_7cf53 l D L cy X A _ (h.2.2.2.2 _) _ _ (by decide)) (va_cwS 2 hts gX5_ranIn_J9_floorMod_7cf53 rfl rfl rfl (by decide +kernel) ⟨Nat.le_of_ble_eq_true rfl, Nat.le_of_ble_eq_true rfl⟩) rfl hl.1 rfl (Nat.le_of_ble_eq_true rfl) dX5_ranIn_7 ⟨Nat.zero_le _, Nat.zero_le _⟩ (fun H locs h => ?_)
  refine g_ial S h (gk9_5 hi) (by decide) rfl (f_fm_in _ _) dX5_ranIn_10 ?_
  exact g_reti S h hr hlocks rfl (by first | (simp only [f_X5_ranIn]; done) | (simp only [f_X5_ranIn]; rfl) | rfl) rfl dX5_ranIn_11
set_option maxHeartbeats 8000000 in
set_option maxRecDepth 100000 in
/-- Worker.noteRan(clock, task) -/
theorem c_X5_noteRan (l : Launch) (D : va_G) (L : Nat → Nat) (cy : Nat → ClassId) (X : va_W) (A : Nat → Prop) (st : gSt) (hD : va_D A (X ++ gW L cy st)) {i : Nat} (hi : gkd i = 9) (x : Int32) (t : Int32)  : gMv l yX5_noteRan wsX5_noteRan { frames := 1, cells := 0, slots := 0, locals := 22 } D L cy X A [.ref (L i), .int x, .int t] st (f_X5_noteRan st i x t) := by
  refine g_entry hD (cc := cX5_noteRan) (maxL := 3) (ret := none) (by decide +kernel) rfl (Nat.le_of_ble_eq_true rfl) ?_
  intro p e s m args below meth c ls B
  obtain ⟨S, hr, hlocks, h, hl⟩ := B
  have hx := S.1
  have hb := S.2.1
  have hts := S.2.2.2.2
  have in5 : ∀ w ∈ wsX50, w ∈ wsX5_noteRan := by decide +kernel
  have hl : lv_has ls 3 [(0, .ref (L i)), (1, .int x), (2, .int t)] := hl
  refine lv_aload_n hx hb dX5_noteRan_0 rfl (lv_at hl 0 rfl) ?_
  refine g_get S h hi (by decide) rfl rfl in5 (k := 5) (by decide) (by decide +kernel) rfl dX5_noteRan_1 ?_
  refine lv_iload_n hx hb dX5_noteRan_4 rfl (lv_at hl 1 rfl) ?_
  refine lv_bipush (v := 20) hx hb dX5_noteRan_5 (by decide) ?_
  refine g_calliS S h (c_J9_floorMod_7cf53 l D L cy X A _ (h.2.2.2.2 _) _ _ (by decide)) (va_cwS 2 hts gX5_noteRan_J9_floorMod_7cf53 rfl rfl rfl (by decide +kernel) ⟨Nat.le_of_ble_eq_true rfl, Nat.le_of_ble_eq_true rfl⟩) rfl hl.1 rfl (Nat.le_of_ble_eq_true rfl) dX5_noteRan_7 ⟨Nat.zero_le _, Nat.zero_le _⟩ (fun H locs h => ?_)
  refine lv_iload_n hx hb dX5_noteRan_10 rfl (lv_at hl 2 rfl) ?_
  refine g_ias S h (gk9_5 hi) (by decide) (fun _ => rfl) (f_fm_in _ _) dX5_noteRan_11 (fun H locs h => ?_)
  exact g_retv S h hr hlocks (by first | (simp only [f_X5_noteRan]; done) | (simp only [f_X5_noteRan]; rfl) | rfl) dX5_noteRan_12
