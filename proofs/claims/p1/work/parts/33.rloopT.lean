set_option maxHeartbeats 4000000 in
set_option maxRecDepth 100000 in
theorem k_tick_loop {p : Program} {l : Launch} {e : Env} {s : State} {m : MethodId} {args : Array Value} {below : List Frame} {meth : Method} {c : Code} {D : va_G} {E : rEn} {cy : rC} {X : va_W} {A : Nat → Prop} (S : CallFix p m c cX10_tick 3 s args wsX10_tick RX10) (hr : meth.sig.returnType = some .int) (hlocks : meth.locks = false) (km : Nat) (kp ks kt kw kc kpr dc kwk kq kst ko kr dq ds kd : Nat) : ∀ (r j : Nat) (u : rTu) (H : Heap) (locs : List Loc) (cells slots : Nat) (ls : Array Slot) (x : Int32), x = Int32.ofNat (j + r) → j + r ≤ 40 → cells + r ≤ 40 → slots + 100 * r ≤ 4000 → rCa E u.2.2.2 → lv_has ls 3 [(2, .int (Int32.ofNat j)), (0, .ref km), (1, .int x)] → rH D E cy X ([(km, .inr (12, [.int 0, .ref ks, .ref kp])), (kt, .inr (1, [.int 0, .ref E.1, .int 0]))] ++ (rT8 cy kp ks kt kw kc kpr dc kwk kq kst ko kr dq ds kd u.1 u.2.1 ++ rRan cy E.1 capD kr j u)) A s H locs → W p l e { frames := 14, cells := 40, slots := 4000, locals := 420 } s m args below meth c H locs cells slots (MQ below (va_Qi (fun (q : Int32) (u : Unit) => q = 0 ∧ (fun _ => True) u) (fun u t => va_P D vwCl (X ++ (fun _ : Unit => [(km, .inr (12, [.int 0, .ref ks, .ref kp]))]) u) t.heap ∧ va_D A (X ++ (fun _ : Unit => [(km, .inr (12, [.int 0, .ref ks, .ref kp]))]) u)) A) args s 40 4000 A) (F0 m 27 ls []) := by
  intro r
  induction r with
  | zero =>
    intro j u H locs cells slots ls x hxj hj40 hc hs hu hl h
    have hx := S.1
    have hb := S.2.1
    have hts := S.2.2.2.2
    have inX10 : ∀ w ∈ wsX100, w ∈ wsX10_tick := by decide +kernel
    have inX7 : ∀ w ∈ wsX70, w ∈ wsX10_tick := by decide +kernel
    have e0 : x = Int32.ofNat j := hxj
    refine lv_iload_n hx hb dX10_tick_27 rfl (lv_at hl 0 rfl) ?_
    refine lv_iload_n hx hb dX10_tick_28 rfl (lv_at hl 2 rfl) ?_
    refine lv_icmp_ge (tgt := 45) hx hb dX10_tick_29 (by decide) (fun c1 => ?_) (fun c1 => absurd (by rw [e0]; exact ((r_cmp j (by omega) j (by omega)).1).mpr (Nat.le_refl _)) c1)
    have h := h.pick [0, 2, 1] (w := [(km, .inr (12, [.int 0, .ref ks, .ref kp])), (kp, .inr (9, [.ref ks, .ref kt, .ref kw, .ref kc, .ref kpr, .int 0, .int 0, .int u.1])), (kt, .inr (1, [.int 0, .ref E.1, .int 0]))]) rfl rfl
    refine lv_aload_n hx hb dX10_tick_45 rfl (lv_at hl 1 rfl) ?_
    refine r_get S h 0 inX10 (ref := "BobbinPoolModel") rfl rfl (k := 2) (by decide) (by decide +kernel) (fun _ h9 => h9) rfl dX10_tick_46 ?_
    refine r_calli S h (k_open l D E cy _ A kp ks kt kw kc kpr E.1 u.1) (cwV 0 hts gX10_tick_X7_open rfl rfl rfl (by decide +kernel) ⟨Nat.le_of_ble_eq_true rfl, Nat.le_of_ble_eq_true rfl⟩) (r_preV h [0] [1, 2] (wr := [(km, .inr (12, [.int 0, .ref ks, .ref kp]))]) (wc := [(kp, .inr (9, [.ref ks, .ref kt, .ref kw, .ref kc, .ref kpr, .int 0, .int 0, .int u.1])), (kt, .inr (1, [.int 0, .ref E.1, .int 0]))]) rfl rfl rfl 1 rfl rfl _) rfl hl.1 rfl (Nat.le_of_ble_eq_true rfl) dX10_tick_49 ⟨by show cells + 0 ≤ 40; omega, by show slots + 0 ≤ 4000; omega⟩ (fun u101 H locs k102 h => ?_)
    have h : rH D E cy X [(km, .inr (12, [.int 0, .ref ks, .ref kp])), (kp, .inr (9, [.ref ks, .ref kt, .ref kw, .ref kc, .ref kpr, .int 0, .int 0, .int u.1])), (kt, .inr (1, [.int 0, .ref E.1, .int 0]))] A s H _ := h
    have h := h.pick [0] (w := [(km, .inr (12, [.int 0, .ref ks, .ref kp]))]) rfl rfl
    exact r_reti S h () rfl trivial hr hlocks rfl (rfl) ⟨by omega, by omega⟩ dX10_tick_52
  | succ r ih =>
    intro j u H locs cells slots ls x hxj hj40 hc hs hu hl h
    have hx := S.1
    have hb := S.2.1
    have hts := S.2.2.2.2
    have inX10 : ∀ w ∈ wsX100, w ∈ wsX10_tick := by decide +kernel
    have inX7 : ∀ w ∈ wsX70, w ∈ wsX10_tick := by decide +kernel
    refine lv_iload_n hx hb dX10_tick_27 rfl (lv_at hl 0 rfl) ?_
    refine lv_iload_n hx hb dX10_tick_28 rfl (lv_at hl 2 rfl) ?_
    refine lv_icmp_ge (tgt := 45) hx hb dX10_tick_29 (by decide) (fun c1 => absurd (((r_cmp (j + (r + 1)) (by omega) j (by omega)).1).mp (by rw [← hxj]; exact c1)) (by omega)) (fun c1 => ?_)
    refine lv_aload_n hx hb dX10_tick_32 rfl (lv_at hl 1 rfl) ?_
    refine r_get S h 0 inX10 (ref := "BobbinPoolModel") rfl rfl (k := 2) (by decide) (by decide +kernel) (fun _ h9 => h9) rfl dX10_tick_33 ?_
    have h2 : rH D E cy (X ++ [(km, .inr (12, [.int 0, .ref ks, .ref kp])), (kt, .inr (1, [.int 0, .ref E.1, .int 0]))]) (rT8 cy kp ks kt kw kc kpr dc kwk kq kst ko kr dq ds kd u.1 u.2.1 ++ rRan cy E.1 capD kr j u) A s H locs := rH.app h
    refine r_callv S h2 (k_stepD l D E cy _ A kp ks kt kw kc kpr dc kwk kq kst ko kr dq ds kd j (by omega) u hu) (cwV 0 hts gX10_tick_X7_tick rfl rfl rfl (by decide +kernel) ⟨Nat.le_of_ble_eq_true rfl, Nat.le_of_ble_eq_true rfl⟩) (r_preV h2 [] (List.range (rT8 cy kp ks kt kw kc kpr dc kwk kq kst ko kr dq ds kd u.1 u.2.1 ++ rRan cy E.1 capD kr j u).length) (wr := []) (wc := rT8 cy kp ks kt kw kc kpr dc kwk kq kst ko kr dq ds kd u.1 u.2.1 ++ rRan cy E.1 capD kr j u) (r_ndr _) rfl (r_allp _) 0 rfl rfl _) rfl hl.1 rfl (Nat.le_of_ble_eq_true rfl) dX10_tick_36 ⟨by show cells + 1 ≤ 40; omega, by show slots + 100 ≤ 4000; omega⟩ (fun u2 H locs hk h => ?_)
    have h : rH D E cy X ([(km, .inr (12, [.int 0, .ref ks, .ref kp])), (kt, .inr (1, [.int 0, .ref E.1, .int 0]))] ++ (rT8 cy kp ks kt kw kc kpr dc kwk kq kst ko kr dq ds kd u2.1 u2.2.1 ++ rRan cy E.1 capD kr (j + 1) u2)) A s H locs := rH.unapp h
    refine lv_iinc (v := Int32.ofNat (j + 1)) (lv' := [(2, .int (Int32.ofNat (j + 1))), (0, .ref km), (1, .int x)]) hx hb dX10_tick_39 hl (k := 0) rfl (by rw [← (r_cmp j (by omega) 0 (by omega)).2.2]; rfl) (by decide) rfl (fun ls hl => ?_)
    refine lv_goto (tgt := 27) hx hb dX10_tick_42 (by decide) ?_
    exact ih (j + 1) u2 H locs _ _ ls x (by rw [hxj]; congr 1; omega) (by omega) (by omega) (by omega) hk hl h
set_option maxHeartbeats 4000000 in
set_option maxRecDepth 100000 in
/-- tick -/
theorem k_tick0 (l : Launch) (D : va_G) (E : rEn) (cy : rC) (X : va_W) (A : Nat → Prop) (km ks kp kt kw kc kpr kwk kq kst ko kr kd : Nat) (x : Int32) (h0 : ¬ x < 1) (h1 : ¬ 40 < x) : rMi l yX10_tick wsX10_tick { frames := 14, cells := 40, slots := 4000, locals := 420 } D E cy X [(km, .inr (12, [.int 0, .ref ks, .ref kp])), (ks, .inr (1, [.int 0, .ref E.1, .int 0])), (kp, .inr (9, [.ref ks, .ref kt, .ref kw, .ref kc, .ref kpr, .int 0, .int 0, .int 0])), (kt, .inr (1, [.int 0, .ref E.1, .int 0])), (kc, .inr (1, [.int 0, .ref E.1, .int 0])), rAi cy kpr 6 rPr, (kwk, .inr (11, [.ref kq, .ref kst, .ref ko, .ref kr])), (kq, .inr (1, [.int 0, .ref E.1, .int 0])), (kst, .inr (1, [.int 0, .ref E.1, .int 0])), rAi cy ko 3 (fun _ => 0), (kr, .inr (1, [.int 0, .ref E.1, .int 0])), (kw, .inr (1, [.int 1, .ref kd, .int 1])), rAr cy kd 10 (va_up (fun _ => none) 0 (some kwk))] A [.ref km, .int x] 0 (fun (_ : Unit) => [(km, .inr (12, [.int 0, .ref ks, .ref kp]))]) (fun _ => True) 40 4000 := by
  refine r_entry (cc := cX10_tick) (maxL := 3) (ret := (some .int)) (by decide +kernel) rfl (Nat.le_of_ble_eq_true rfl) ?_
  intro p e s m args below meth c ls B
  obtain ⟨S, hr, hlocks, hmi, h, hl⟩ := B
  have hx := S.1
  have hb := S.2.1
  have hts := S.2.2.2.2
  have hl : lv_has ls 3 [(0, .ref km), (1, .int x)] := hl
  refine lv_aload_n hx hb dX10_tick_0 rfl (lv_at hl 0 rfl) ?_
  refine lv_iload_n hx hb dX10_tick_1 rfl (lv_at hl 1 rfl) ?_
  refine lv_iconst (v := 1) hx hb dX10_tick_2 (by decide) ?_
  refine lv_bipush (v := 40) hx hb dX10_tick_3 (by decide) ?_
  refine r_calliS S h (k_isIn1 l D E cy _ A x 1 40 h0 h1) (cwS 3 hts gX10_tick_X10_isIn rfl rfl rfl (by decide +kernel) ⟨Nat.le_of_ble_eq_true rfl, Nat.le_of_ble_eq_true rfl⟩) (r_preS h [0, 1, 2, 3, 4, 5, 6, 7, 8, 9, 10, 11, 12] [] (wr := [(km, .inr (12, [.int 0, .ref ks, .ref kp])), (ks, .inr (1, [.int 0, .ref E.1, .int 0])), (kp, .inr (9, [.ref ks, .ref kt, .ref kw, .ref kc, .ref kpr, .int 0, .int 0, .int 0])), (kt, .inr (1, [.int 0, .ref E.1, .int 0])), (kc, .inr (1, [.int 0, .ref E.1, .int 0])), rAi cy kpr 6 rPr, (kwk, .inr (11, [.ref kq, .ref kst, .ref ko, .ref kr])), (kq, .inr (1, [.int 0, .ref E.1, .int 0])), (kst, .inr (1, [.int 0, .ref E.1, .int 0])), rAi cy ko 3 (fun _ => 0), (kr, .inr (1, [.int 0, .ref E.1, .int 0])), (kw, .inr (1, [.int 1, .ref kd, .int 1])), rAr cy kd 10 (va_up (fun _ => none) 0 (some kwk))]) (wc := []) rfl rfl rfl _) rfl hl.1 rfl (Nat.le_of_ble_eq_true rfl) dX10_tick_5 ⟨Nat.le_of_ble_eq_true rfl, Nat.le_of_ble_eq_true rfl⟩ (fun u1 H locs k2 h => ?_)
  have h : rH D E cy X [(km, .inr (12, [.int 0, .ref ks, .ref kp])), (ks, .inr (1, [.int 0, .ref E.1, .int 0])), (kp, .inr (9, [.ref ks, .ref kt, .ref kw, .ref kc, .ref kpr, .int 0, .int 0, .int 0])), (kt, .inr (1, [.int 0, .ref E.1, .int 0])), (kc, .inr (1, [.int 0, .ref E.1, .int 0])), rAi cy kpr 6 rPr, (kwk, .inr (11, [.ref kq, .ref kst, .ref ko, .ref kr])), (kq, .inr (1, [.int 0, .ref E.1, .int 0])), (kst, .inr (1, [.int 0, .ref E.1, .int 0])), rAi cy ko 3 (fun _ => 0), (kr, .inr (1, [.int 0, .ref E.1, .int 0])), (kw, .inr (1, [.int 1, .ref kd, .int 1])), rAr cy kd 10 (va_up (fun _ => none) 0 (some kwk))] A s H _ := h
  refine lv_if_ne (tgt := 15) hx hb dX10_tick_8 (by decide) (fun c3 => ?_) (fun c3 => absurd c3 (by decide))
  refine lv_iconst (v := 0) hx hb dX10_tick_15 (by decide) ?_
  refine lv_iconst (v := 1) hx hb dX10_tick_16 (by decide) ?_
  refine r_calli S h (k_start0 l D E cy _ A km ks kp 1) (cwV 2 hts gX10_tick_X10_start rfl rfl rfl (by decide +kernel) ⟨Nat.le_of_ble_eq_true rfl, Nat.le_of_ble_eq_true rfl⟩) (r_preV h [1, 2, 3, 4, 5, 6, 7, 8, 9, 10, 11, 12] [0] (wr := [(ks, .inr (1, [.int 0, .ref E.1, .int 0])), (kp, .inr (9, [.ref ks, .ref kt, .ref kw, .ref kc, .ref kpr, .int 0, .int 0, .int 0])), (kt, .inr (1, [.int 0, .ref E.1, .int 0])), (kc, .inr (1, [.int 0, .ref E.1, .int 0])), rAi cy kpr 6 rPr, (kwk, .inr (11, [.ref kq, .ref kst, .ref ko, .ref kr])), (kq, .inr (1, [.int 0, .ref E.1, .int 0])), (kst, .inr (1, [.int 0, .ref E.1, .int 0])), rAi cy ko 3 (fun _ => 0), (kr, .inr (1, [.int 0, .ref E.1, .int 0])), (kw, .inr (1, [.int 1, .ref kd, .int 1])), rAr cy kd 10 (va_up (fun _ => none) 0 (some kwk))]) (wc := [(km, .inr (12, [.int 0, .ref ks, .ref kp]))]) rfl rfl rfl 0 rfl rfl _) rfl hl.1 rfl (Nat.le_of_ble_eq_true rfl) dX10_tick_17 ⟨Nat.le_of_ble_eq_true rfl, Nat.le_of_ble_eq_true rfl⟩ (fun u4 H locs k5 h => ?_)
  have h : rH D E cy X [(ks, .inr (1, [.int 0, .ref E.1, .int 0])), (kp, .inr (9, [.ref ks, .ref kt, .ref kw, .ref kc, .ref kpr, .int 0, .int 0, .int 0])), (kt, .inr (1, [.int 0, .ref E.1, .int 0])), (kc, .inr (1, [.int 0, .ref E.1, .int 0])), rAi cy kpr 6 rPr, (kwk, .inr (11, [.ref kq, .ref kst, .ref ko, .ref kr])), (kq, .inr (1, [.int 0, .ref E.1, .int 0])), (kst, .inr (1, [.int 0, .ref E.1, .int 0])), rAi cy ko 3 (fun _ => 0), (kr, .inr (1, [.int 0, .ref E.1, .int 0])), (kw, .inr (1, [.int 1, .ref kd, .int 1])), rAr cy kd 10 (va_up (fun _ => none) 0 (some kwk)), (km, .inr (12, [.int 0, .ref ks, .ref kp]))] A s H _ := h
  refine lv_if_eq (tgt := 25) hx hb dX10_tick_20 (by decide) (fun c6 => ?_) (fun c6 => absurd (by decide) c6)
  refine lv_iconst (v := 0) hx hb dX10_tick_25 (by decide) ?_
  refine lv_istore_n (lv' := [(2, .int 0), (0, .ref km), (1, .int x)]) hx hb dX10_tick_26 rfl hl (by decide) rfl (fun ls hl => ?_)
  have h := h.pick [12, 2, 1, 3, 5, 6, 7, 8, 10, 11, 9] (w := [(km, .inr (12, [.int 0, .ref ks, .ref kp])), (kt, .inr (1, [.int 0, .ref E.1, .int 0])), (kp, .inr (9, [.ref ks, .ref kt, .ref kw, .ref kc, .ref kpr, .int 0, .int 0, .int 0])), (kc, .inr (1, [.int 0, .ref E.1, .int 0])), (kwk, .inr (11, [.ref kq, .ref kst, .ref ko, .ref kr])), (kq, .inr (1, [.int 0, .ref E.1, .int 0])), (kst, .inr (1, [.int 0, .ref E.1, .int 0])), rAi cy ko 3 (fun _ => 0), (kw, .inr (1, [.int 1, .ref kd, .int 1])), rAr cy kd 10 (va_up (fun _ => none) 0 (some kwk)), (kr, .inr (1, [.int 0, .ref E.1, .int 0]))]) rfl rfl
  obtain ⟨r, hr40, hxr⟩ := r_ofN (M := 40) (Or.inl (by decide)) h0 h1
  exact k_tick_loop S hr hlocks km kp ks kt kw kc kpr E.1 kwk kq kst ko kr E.1 E.1 kd r 0 (0, fun _ => 0, 0, fun _ => none) _ _ _ _ ls x (by rw [Nat.zero_add]; exact hxr) (by omega) (by omega) (by omega) rCa.none hl h
