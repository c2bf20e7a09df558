/-! load() of the new object; what is kept; ways; numbers in a range. -/
def gMd (l : Launch) (y : MethodName) (ws : List Cond) (rm : Room) (D : va_G) (L : Nat → Nat) (cy : Nat → ClassId) (X : va_W) (A : Nat → Prop) (av : List Value) (st : gSt) (r : UInt64) (st' : gSt) : Prop :=
  Met l y ws rm (gPc D L cy X st av) (va_Qd (fun (q : UInt64) (_ : Unit) => q = r) (fun _ t => va_P D vwCl (X ++ gW L cy st') t.heap) A) 0 0 A
theorem g_retd {p : Program} {l : Launch} {e : Env} {R : Room} {s : State} {m : MethodId} {args : Array Value} {below : List Frame} {meth : Method} {c : Code} {H : Heap} {locs : List Loc} {cells slots : Nat} {cc : ByteArray} {nL : Nat} {Ts : List Cond} {own : String} {D : va_G} {L : Nat → Nat} {cy : Nat → ClassId} {X : va_W} {A : Nat → Prop} {st st' : gSt} {pc : Nat} {ls : Array Slot} (S : CallFix p m c cc nL s args Ts own) (h : gH D L cy X A st s H locs) {v r : UInt64} (hr : meth.sig.returnType = some .double) (hlocks : meth.locks = false) (hv : v = r) (hst : st = st') (hdg : decode cc pc = .ok (.dreturn, 1)) :
    W p l e R s m args below meth c H locs cells slots (MQ below (va_Qd (fun (q : UInt64) (_ : Unit) => q = r) (fun _ t => va_P D vwCl (X ++ gW L cy st') t.heap) A) args s cells slots A) (F0 m pc ls [.double v]) := by
  obtain ⟨hx, hb, -, hown, hts⟩ := S
  obtain ⟨hP, hS, hK, -, hD⟩ := h
  subst hst
  exact W.dret hx hb hr (fun t ht hW => ⟨⟨v, (), rfl, hv, by show va_P D vwCl (X ++ gW L cy st) t.heap; rw [ht]; exact hP⟩, hS.F ht⟩) hS.2.2 hdg hlocks
set_option maxHeartbeats 4000000 in
set_option maxRecDepth 100000 in
theorem c_X6_load0 (l : Launch) (D : va_G) (L : Nat → Nat) (cy : Nat → ClassId) (X : va_W) (A : Nat → Prop) (st : gSt) (hD : va_D A (X ++ gW L cy st)) (h6 : st 30 6 = 1) (h2 : st 67 2 = 0) (h3 : st 67 3 = 0) : gMd l yX6_load wsX6_load { frames := 2, cells := 0, slots := 0, locals := 60 } D L cy X A [.ref (L 0)] st FP.dconst0 st := by
  refine g_entry hD (cc := cX6_load) (maxL := 5) (ret := (some .double)) (by decide +kernel) rfl (Nat.le_of_ble_eq_true rfl) ?_
  intro p e s m args below meth c ls B
  obtain ⟨S, hr, hlocks, h, hl⟩ := B
  have hx := S.1
  have hb := S.2.1
  have hts := S.2.2.2.2
  have in6 : ∀ w ∈ wsX60, w ∈ wsX6_load := by decide +kernel
  have in1 : ∀ w ∈ wsX10, w ∈ wsX6_load := by decide +kernel
  have in5 : ∀ w ∈ wsX50, w ∈ wsX6_load := by decide +kernel
  have hl : lv_has ls 5 [(0, .ref (L 0))] := hl
  refine lv_iconst (v := 0) hx hb dX6_load_0 (by decide) ?_
  refine lv_istore_n (lv' := [(1, .int 0), (0, .ref (L 0))]) hx hb dX6_load_1 rfl hl (by decide) rfl (fun ls hl => ?_)
  refine lv_iconst (v := 0) hx hb dX6_load_2 (by decide) ?_
  refine lv_istore_n (lv' := [(2, .int 0), (1, .int 0), (0, .ref (L 0))]) hx hb dX6_load_3 rfl hl (by decide) rfl (fun ls hl => ?_)
  refine lv_iconst (v := 0) hx hb dX6_load_4 (by decide) ?_
  refine lv_istore_n (lv' := [(3, .int 0), (2, .int 0), (1, .int 0), (0, .ref (L 0))]) hx hb dX6_load_5 rfl hl (by decide) rfl (fun ls hl => ?_)
  refine lv_iload_n hx hb dX6_load_6 rfl (lv_at hl 0 rfl) ?_
  refine lv_aload_n hx hb dX6_load_7 rfl (lv_at hl 3 rfl) ?_
  refine g_get S h gk_c0 (by decide) rfl rfl in6 (k := 1) (by decide) (by decide +kernel) rfl dX6_load_8 ?_
  refine g_getN S h gk_c30 (by decide) rfl rfl in1 (k := 6) (by decide) (by decide +kernel) rfl dX6_load_11 ?_
  refine lv_icmp_ge (tgt := 49) hx hb dX6_load_14 (by decide) (fun c1 => absurd c1 (by rw [h6]; decide)) (fun c1 => ?_)
  refine lv_aload_n hx hb dX6_load_17 rfl (lv_at hl 3 rfl) ?_
  refine g_get S h gk_c0 (by decide) rfl rfl in6 (k := 1) (by decide) (by decide +kernel) rfl dX6_load_18 ?_
  refine lv_iload_n hx hb dX6_load_21 rfl (lv_at hl 0 rfl) ?_
  refine g_callr S h (c_X1_workerAt l D L cy X A _ (h.2.2.2.2 _) gk_c30 _) (cwV 1 hts gX6_load_X1_workerAt rfl rfl rfl (by decide +kernel) ⟨Nat.le_of_ble_eq_true rfl, Nat.le_of_ble_eq_true rfl⟩) (g_pre h gk_c30 (by decide) rfl rfl _) rfl hl.1 rfl (Nat.le_of_ble_eq_true rfl) dX6_load_22 ⟨Nat.zero_le _, Nat.zero_le _⟩ (fun H locs h => ?_)
  refine g_topr (fun i1 ei1 => ?_)
  have e67 : i1 = 67 := ei1.trans (by decide +kernel)
  have hki1 : gkd i1 = 9 := by rw [e67]; decide +kernel
  refine lv_astore (lv' := [(4, .ref (L i1)), (3, .int 0), (2, .int 0), (1, .int 0), (0, .ref (L 0))]) hx hb dX6_load_25 hl (by decide) rfl (fun ls hl => ?_)
  refine lv_iload_n hx hb dX6_load_27 rfl (lv_at hl 3 rfl) ?_
  refine lv_aload hx hb dX6_load_28 (lv_at hl 0 rfl) ?_
  refine g_getN S h hki1 (by decide) rfl rfl in5 (k := 2) (by decide) (by decide +kernel) rfl dX6_load_30 ?_
  refine lv_iadd hx hb dX6_load_33 ?_
  refine lv_topi (fun x1 ex1 => ?_)
  obtain rfl : x1 = 0 := by rw [ex1, e67, h2]; decide
  refine lv_istore_n (lv' := [(1, .int 0), (4, .ref (L i1)), (3, .int 0), (2, .int 0), (0, .ref (L 0))]) hx hb dX6_load_34 rfl hl (by decide) rfl (fun ls hl => ?_)
  refine lv_iload_n hx hb dX6_load_35 rfl (lv_at hl 3 rfl) ?_
  refine lv_aload hx hb dX6_load_36 (lv_at hl 1 rfl) ?_
  refine g_getN S h hki1 (by decide) rfl rfl in5 (k := 3) (by decide) (by decide +kernel) rfl dX6_load_38 ?_
  refine lv_iadd hx hb dX6_load_41 ?_
  refine lv_topi (fun x2 ex2 => ?_)
  obtain rfl : x2 = 0 := by rw [ex2, e67, h3]; decide
  refine lv_istore_n (lv' := [(2, .int 0), (1, .int 0), (4, .ref (L i1)), (3, .int 0), (0, .ref (L 0))]) hx hb dX6_load_42 rfl hl (by decide) rfl (fun ls hl => ?_)
  refine lv_iinc (v := 1) (lv' := [(3, .int 1), (2, .int 0), (1, .int 0), (4, .ref (L i1)), (0, .ref (L 0))]) hx hb dX6_load_43 hl (k := 3) rfl (by decide) (by decide) rfl (fun ls hl => ?_)
  refine lv_goto (tgt := 6) hx hb dX6_load_46 (by decide) ?_
  refine lv_iload_n hx hb dX6_load_6 rfl (lv_at hl 0 rfl) ?_
  refine lv_aload_n hx hb dX6_load_7 rfl (lv_at hl 4 rfl) ?_
  refine g_get S h gk_c0 (by decide) rfl rfl in6 (k := 1) (by decide) (by decide +kernel) rfl dX6_load_8 ?_
  refine g_getN S h gk_c30 (by decide) rfl rfl in1 (k := 6) (by decide) (by decide +kernel) rfl dX6_load_11 ?_
  refine lv_icmp_ge (tgt := 49) hx hb dX6_load_14 (by decide) (fun c1 => ?_) (fun c1 => absurd (by rw [h6]; decide) c1)
  refine lv_iload_n hx hb dX6_load_49 rfl (lv_at hl 2 rfl) ?_
  refine lv_iload_n hx hb dX6_load_50 rfl (lv_at hl 1 rfl) ?_
  refine lv_iadd hx hb dX6_load_51 ?_
  refine lv_topi (fun x3 ex3 => ?_)
  obtain rfl : x3 = 0 := by rw [ex3]; decide
  refine lv_istore_n (lv' := [(3, .int 0), (2, .int 0), (1, .int 0), (4, .ref (L i1)), (0, .ref (L 0))]) hx hb dX6_load_52 rfl hl (by decide) rfl (fun ls hl => ?_)
  refine lv_iload_n hx hb dX6_load_53 rfl (lv_at hl 0 rfl) ?_
  refine lv_if_ne (tgt := 61) hx hb dX6_load_54 (by decide) (fun c2 => absurd rfl c2) (fun c2 => ?_)
  refine lv_dconst0 hx hb dX6_load_57 ?_
  refine lv_goto (tgt := 66) hx hb dX6_load_58 (by decide) ?_
  exact g_retd S h hr hlocks rfl rfl dX6_load_66
theorem z_l6 : xs0 30 6 = 1 ∧ xs0 67 2 = 0 ∧ xs0 67 3 = 0 := by decide +kernel
theorem z_setWay {w t : Int32} (h0 : ¬ t < 0) (h1 : t ≤ 2) : (f_X6_setWay xs0 w t).1 = 0 := by
  unfold f_X6_setWay
  rw [if_neg h0, if_pos h1]
  by_cases hw : w = xs0 30 9
  · rw [if_pos hw]; exact z_way
  · rw [if_neg hw, if_pos z_stacked]; exact z_way
theorem z_prom0 {v : Int32} (h : v < 0 ∨ 5 < v) : f_X6_isPromise xs0 v = 0 := by
  unfold f_X6_isPromise
  by_cases h0 : v < 0
  · rw [if_pos h0]
  · rw [if_neg h0, if_pos]
    have a : (5 : Int32).toInt < v.toInt := Int32.lt_iff_toInt_lt.mp (h.resolve_left h0)
    refine Int32.le_iff_toInt_le.mpr ?_
    have e5 : (5 : Int32).toInt = 5 := rfl
    have e6 : (6 : Int32).toInt = 6 := rfl
    omega
theorem z_prom1 {v : Int32} (h0 : ¬ v < 0) (h1 : ¬ 5 < v) : ¬ f_X6_isPromise xs0 v = 0 := by
  unfold f_X6_isPromise
  rw [if_neg h0, if_neg]
  · decide
  · intro q
    have a : (6 : Int32).toInt ≤ v.toInt := Int32.le_iff_toInt_le.mp q
    refine h1 (Int32.lt_iff_toInt_lt.mpr ?_)
    have e5 : (5 : Int32).toInt = 5 := rfl
    have e6 : (6 : Int32).toInt = 6 := rfl
    omega
theorem r_of0 {x : Int32} {M : Nat} (hM : M < 64) (h0 : ¬ x < 0) (h1 : ¬ Int32.ofNat M < x) : ∃ r : Nat, r ≤ M ∧ x = Int32.ofNat r := by
  have eM : (Int32.ofNat M).toInt = M := by
    have := co_dec (N := 64) (P := fun M => (Int32.ofNat M).toInt = M) (by decide +kernel) hM
    exact this
  have e1 : (0 : Int32).toInt = 0 := rfl
  have a : ¬ x.toInt < (0 : Int32).toInt := fun q => h0 (Int32.lt_iff_toInt_lt.mpr q)
  have b : ¬ (Int32.ofNat M).toInt < x.toInt := fun q => h1 (Int32.lt_iff_toInt_lt.mpr q)
  rw [e1] at a
  rw [eM] at b
  refine ⟨x.toInt.toNat, by omega, ?_⟩
  have e2 : (Int32.ofNat x.toInt.toNat).toInt = x.toInt.toNat := by
    have := co_dec (N := 64) (P := fun M => (Int32.ofNat M).toInt = M) (by decide +kernel) (i := x.toInt.toNat) (by omega)
    exact this
  exact Int32.toInt_inj.mp (by rw [e2]; omega)
theorem r_of1 {x : Int32} {M : Nat} (hM : M < 64) (h0 : ¬ x < 1) (h1 : ¬ Int32.ofNat M < x) : ∃ r : Nat, 1 ≤ r ∧ r ≤ M ∧ x = Int32.ofNat r := by
  have h00 : ¬ x < 0 := fun q => h0 (Int32.lt_iff_toInt_lt.mpr (Int.lt_trans (Int32.lt_iff_toInt_lt.mp q) (by decide)))
  obtain ⟨r, hr, rfl⟩ := r_of0 hM h00 h1
  refine ⟨r, ?_, hr, rfl⟩
  rcases Nat.eq_zero_or_pos r with rfl | q
  · exact absurd (by decide) h0
  · exact q
