/-! THE LAW'S START. -/
section LS
variable {p : Program} {l : Launch} {e : Env} {s : State} {m : MethodId} {below : List Frame} {meth : Method} {c : Code} {H : Heap} {locs : List Loc} {cells slots : Nat} {Q : State → Prop}
variable {D : va_G} {L : Nat → Nat} {cy : Nat → ClassId} {A : Nat → Prop} {st st' : gSt} {pc : Nat} {ls : Array Slot} {rest : List Value} {b Lb : Nat} {xs : Nat → Int32}
theorem j_call {R : Room} {args : Array Value} {cc : ByteArray} {nL : Nat} {Ts : List Cond} {own : String} {X : va_W} {y : MethodName} {bytes : ByteArray} {maxL n idx mc ms : Nat} {ret : Option FieldType} {ws : List Cond} {rm : Room} {As : List Value} {st0 : List Value} {PP : gSt → Prop} (S : CallFix p m c cc nL s args Ts own) (h : gH D L cy X A st s H locs) (hA : ∀ q, s.heap.size ≤ q → A q) (hX : scr b Lb xs A s) (hJ : jX s) (hM : Met l y ws rm (jPc D L cy X A st b Lb xs As) (va_Qr PP (fun st9 _ t => va_P D vwCl (X ++ gW L cy st9) t.heap) A) mc ms A) (cw : CallB R s args own idx y bytes maxL ret ws rm mc ms n ∧ (Cond.static y).before args s = true)
    (hn : As.length = n) (hsize : ls.size = nL) (hstack : st0 = As.reverse ++ rest) (hW : 2 * 0 + (rest.map fun v => v.category).sum ≤ 8) (hdg : decode cc pc = .ok (.invokestatic idx, 3)) (hf : cells + mc ≤ R.cells ∧ slots + ms ≤ R.slots)
    (kk : ∀ (st9 : gSt) (q : Nat) (H1 : Heap) (locs1 : List Loc), PP st9 → gH D L cy X A st9 s H1 locs1 → W p l e R s m args below meth c H1 locs1 (cells + mc) (slots + ms) Q (F0 m (pc + 3) ls (.ref q :: rest))) : W p l e R s m args below meth c H locs cells slots Q (F0 m pc ls st0) := by
  have hp := j_preS h hA hX hJ As
  obtain ⟨hP, hS, hK, hN, hD⟩ := h
  refine va_callr (va_runS S hM cw hp rfl hn hsize hstack hW hdg hf) hS (fun q _ h => h) (fun q h => h) (fun u ra t H1 locs1 ht hvm hw hB hz1 hk1 hS1 => ?_)
  rw [ht] at hB
  exact kk u ra H1 locs1 hw ⟨hB, hS1, hK, hN, hD⟩
theorem hs_0 {s1 s2 : gSt} {wc : Nat} (hw : wc ≤ 5) (h1 : ∀ a k, 30 ≤ a → s1 a k = xs0 a k) (h2 : Bg s1 s2) (h6 : s2 30 6 = nI wc) : f_X1_hasStackedTask s2 30 = 0 := by
  unfold f_X1_hasStackedTask
  refine hst_L1 hw h6 (fun w hw1 => ?_) _ 0 (by omega)
  obtain ⟨-, -, -, -, w5⟩ := x0_w w hw1
  rcases h2 (70 + 6 * w) 1 with q | q | q | q
  · rw [q, h1 _ _ (by omega)]; exact w5
  · omega
  · unfold Wn at q; omega
  · exact q.1
set_option maxHeartbeats 8000000 in
set_option maxRecDepth 100000 in
theorem l_start (S : CallFix p m c cL_law 17 s #[Value.ref b] wsL_law RL) (hA : ∀ q, s.heap.size ≤ q → A q) (hX : scr b Lb xs A s) (hJ : jX s) (hLb : Lb ≤ 260) {st0 : gSt} (h0 : ∀ a k, 30 ≤ a → st0 a k = xs0 a k) (hp0 : P1 st0 st0 0)
    (hE : ∀ (st : gSt) (H : Heap) (locs : List Loc) (ls : Array Slot), gH D L cy [] A st s H locs → W p l e room_1 s m #[Value.ref b] below meth c H locs 1000 10000 Q (F0 m 597 ls []))
    (h : gH D L cy [] A st0 s H locs) (hl : lv_has ls 17 [(1, .ref (L 0)), (0, .ref b)]) : W p l e room_1 s m #[Value.ref b] below meth c H locs 164 1889 Q (F0 m 8 ls []) := by
  have hx := S.1
  have hb := S.2.1
  have hts := S.2.2.2.2
  have h03 : st0 30 3 = 0 := (h0 30 3 (by omega)).trans x0_a.1
  refine lv_iconst (v := 2) hx hb dL_law_8 (by decide) ?_
  refine lv_aload_n hx hb dL_law_9 rfl (lv_at hl 1 rfl) ?_
  refine lv_bipush (v := 15) hx hb dL_law_10 (by decide) ?_
  refine s_calliS S h hA hX (c_L_cell l D L cy _ A _ (h.2.2.2.2 _) b Lb xs 15 (by omega) hLb) (va_cwS 2 hts gL_law_L_cell rfl rfl rfl (by decide +kernel) ⟨Nat.le_of_ble_eq_true rfl, Nat.le_of_ble_eq_true rfl⟩) rfl hl.1 rfl (Nat.le_of_ble_eq_true rfl) dL_law_12 ⟨(by show _ ≤ 600130; omega), (by show _ ≤ 7301080; omega)⟩ (fun H locs h => ?_)
  refine lv_iconst (v := 5) hx hb dL_law_15 (by decide) ?_
  refine s_calliS S h hA hX (c_L_below l D L cy _ A _ (h.2.2.2.2 _) b Lb xs (cellv Lb xs 15) 5 (by decide)) (va_cwS 2 hts gL_law_L_below rfl rfl rfl (by decide +kernel) ⟨Nat.le_of_ble_eq_true rfl, Nat.le_of_ble_eq_true rfl⟩) rfl hl.1 rfl (Nat.le_of_ble_eq_true rfl) dL_law_16 ⟨(by show _ ≤ 600130; omega), (by show _ ≤ 7301080; omega)⟩ (fun H locs h => ?_)
  obtain ⟨r1, hr1, er1⟩ := below_ok (cellv Lb xs 15) (N := 5) (by omega) (by omega)
  refine lv_topi (fun x1 ex1 => ?_)
  have ex1 : x1 = (nI r1) := ex1.trans er1
  subst ex1
  refine lv_iadd hx hb dL_law_19 ?_
  refine lv_topi (fun x2 ex2 => ?_)
  have ex2 : x2 = (nI (2 + r1)) := ex2.trans (nI_add 2 r1)
  subst ex2
  obtain ⟨many, hmany⟩ : ∃ many, many = 2 + r1 := ⟨_, rfl⟩
  rw [← hmany]
  refine lv_istore_n (lv' := [(2, .int (nI many)), (1, .ref (L 0)), (0, .ref b)]) hx hb dL_law_20 rfl hl (by decide) rfl (fun ls hl => ?_)
  refine lv_aload_n hx hb dL_law_21 rfl (lv_at hl 1 rfl) ?_
  refine lv_aload_n hx hb dL_law_22 rfl (lv_at hl 2 rfl) ?_
  refine lv_iload_n hx hb dL_law_23 rfl (lv_at hl 0 rfl) ?_
  refine j_call S h hA hX hJ (c_L_jobs l D L cy _ A _ (h.2.2.2.2 _) b Lb xs hLb (many := many) (by omega) (by omega) hp0 h03) (va_cwS 3 hts gL_law_L_jobs rfl rfl rfl (by decide +kernel) ⟨Nat.le_of_ble_eq_true rfl, Nat.le_of_ble_eq_true rfl⟩) rfl hl.1 rfl (Nat.le_of_ble_eq_true rfl) dL_law_24 ⟨(by show _ ≤ 600130; omega), (by show _ ≤ 7301080; omega)⟩ (fun st1 qj H locs hst1 h => ?_)
  obtain ⟨e1, e2⟩ := hst1
  have h1 : ∀ a k, 30 ≤ a → st1 a k = xs0 a k := fun a k q => (e1 a k q).trans (h0 a k q)
  refine lv_pop hx hb dL_law_27 rfl ?_
  refine lv_aload_n hx hb dL_law_28 rfl (lv_at hl 1 rfl) ?_
  refine lv_iconst (v := 1) hx hb dL_law_29 (by decide) ?_
  refine lv_aload_n hx hb dL_law_30 rfl (lv_at hl 2 rfl) ?_
  refine lv_bipush (v := 14) hx hb dL_law_31 (by decide) ?_
  refine s_calliS S h hA hX (c_L_cell l D L cy _ A _ (h.2.2.2.2 _) b Lb xs 14 (by omega) hLb) (va_cwS 2 hts gL_law_L_cell rfl rfl rfl (by decide +kernel) ⟨Nat.le_of_ble_eq_true rfl, Nat.le_of_ble_eq_true rfl⟩) rfl hl.1 rfl (Nat.le_of_ble_eq_true rfl) dL_law_33 ⟨(by show _ ≤ 600130; omega), (by show _ ≤ 7301080; omega)⟩ (fun H locs h => ?_)
  refine lv_iconst (v := 5) hx hb dL_law_36 (by decide) ?_
  refine s_calliS S h hA hX (c_L_below l D L cy _ A _ (h.2.2.2.2 _) b Lb xs (cellv Lb xs 14) 5 (by decide)) (va_cwS 2 hts gL_law_L_below rfl rfl rfl (by decide +kernel) ⟨Nat.le_of_ble_eq_true rfl, Nat.le_of_ble_eq_true rfl⟩) rfl hl.1 rfl (Nat.le_of_ble_eq_true rfl) dL_law_37 ⟨(by show _ ≤ 600130; omega), (by show _ ≤ 7301080; omega)⟩ (fun H locs h => ?_)
  obtain ⟨r2, hr2, er2⟩ := below_ok (cellv Lb xs 14) (N := 5) (by omega) (by omega)
  refine lv_topi (fun x3 ex3 => ?_)
  have ex3 : x3 = (nI r2) := ex3.trans er2
  subst ex3
  refine lv_iadd hx hb dL_law_40 ?_
  refine lv_topi (fun x4 ex4 => ?_)
  have ex4 : x4 = (nI (1 + r2)) := ex4.trans (nI_add 1 r2)
  subst ex4
  obtain ⟨wc, hwc⟩ : ∃ wc, wc = 1 + r2 := ⟨_, rfl⟩
  rw [← hwc]
  have h16 : st1 30 6 = 1 := (h1 30 6 (by omega)).trans x0_a.2.1
  have h13 : st1 30 3 = 0 := (h1 30 3 (by omega)).trans x0_a.1
  refine g_calli S h (c_X6_setWorkers l D L cy _ A _ (h.2.2.2.2 _) _ (show ¬ nI wc < nI 1 from nI_nlt (by omega) (by omega)) (show nI wc ≤ nI 5 from nI_le (by omega) (by omega)) (nwf_0 (by omega) (by omega) h16 h13)) (cwV 1 hts gL_law_X6_setWorkers rfl rfl rfl (by decide +kernel) ⟨Nat.le_of_ble_eq_true rfl, Nat.le_of_ble_eq_true rfl⟩) (g_pre h gk_c0 (by decide) rfl rfl _) rfl hl.1 rfl (Nat.le_of_ble_eq_true rfl) dL_law_41 ⟨Nat.le_of_ble_eq_true rfl, Nat.le_of_ble_eq_true rfl⟩ (fun H locs h => ?_)
  obtain ⟨b1, b2⟩ := setW_ok (s := st1) (w := wc) (by omega) (by omega) h16 h13
  generalize (f_X6_setWorkers st1 (nI wc)).2 = st2 at b1 b2 h
  refine lv_pop hx hb dL_law_44 rfl ?_
  refine lv_aload_n hx hb dL_law_45 rfl (lv_at hl 1 rfl) ?_
  refine lv_aload_n hx hb dL_law_46 rfl (lv_at hl 2 rfl) ?_
  refine lv_bipush (v := 13) hx hb dL_law_47 (by decide) ?_
  refine s_calliS S h hA hX (c_L_cell l D L cy _ A _ (h.2.2.2.2 _) b Lb xs 13 (by omega) hLb) (va_cwS 2 hts gL_law_L_cell rfl rfl rfl (by decide +kernel) ⟨Nat.le_of_ble_eq_true rfl, Nat.le_of_ble_eq_true rfl⟩) rfl hl.1 rfl (Nat.le_of_ble_eq_true rfl) dL_law_49 ⟨(by show _ ≤ 600130; omega), (by show _ ≤ 7301080; omega)⟩ (fun H locs h => ?_)
  refine lv_iconst (v := 3) hx hb dL_law_52 (by decide) ?_
  refine s_calliS S h hA hX (c_L_below l D L cy _ A _ (h.2.2.2.2 _) b Lb xs (cellv Lb xs 13) 3 (by decide)) (va_cwS 2 hts gL_law_L_below rfl rfl rfl (by decide +kernel) ⟨Nat.le_of_ble_eq_true rfl, Nat.le_of_ble_eq_true rfl⟩) rfl hl.1 rfl (Nat.le_of_ble_eq_true rfl) dL_law_53 ⟨(by show _ ≤ 600130; omega), (by show _ ≤ 7301080; omega)⟩ (fun H locs h => ?_)
  obtain ⟨r3, hr3, er3⟩ := below_ok (cellv Lb xs 13) (N := 3) (by omega) (by omega)
  refine lv_topi (fun x5 ex5 => ?_)
  have ex5 : x5 = (nI r3) := ex5.trans er3
  subst ex5
  refine lv_aload_n hx hb dL_law_56 rfl (lv_at hl 2 rfl) ?_
  refine lv_bipush (v := 12) hx hb dL_law_57 (by decide) ?_
  refine s_calliS S h hA hX (c_L_cell l D L cy _ A _ (h.2.2.2.2 _) b Lb xs 12 (by omega) hLb) (va_cwS 2 hts gL_law_L_cell rfl rfl rfl (by decide +kernel) ⟨Nat.le_of_ble_eq_true rfl, Nat.le_of_ble_eq_true rfl⟩) rfl hl.1 rfl (Nat.le_of_ble_eq_true rfl) dL_law_59 ⟨(by show _ ≤ 600130; omega), (by show _ ≤ 7301080; omega)⟩ (fun H locs h => ?_)
  refine lv_iconst (v := 3) hx hb dL_law_62 (by decide) ?_
  refine s_calliS S h hA hX (c_L_below l D L cy _ A _ (h.2.2.2.2 _) b Lb xs (cellv Lb xs 12) 3 (by decide)) (va_cwS 2 hts gL_law_L_below rfl rfl rfl (by decide +kernel) ⟨Nat.le_of_ble_eq_true rfl, Nat.le_of_ble_eq_true rfl⟩) rfl hl.1 rfl (Nat.le_of_ble_eq_true rfl) dL_law_63 ⟨(by show _ ≤ 600130; omega), (by show _ ≤ 7301080; omega)⟩ (fun H locs h => ?_)
  obtain ⟨r4, hr4, er4⟩ := below_ok (cellv Lb xs 12) (N := 3) (by omega) (by omega)
  refine lv_topi (fun x6 ex6 => ?_)
  have ex6 : x6 = (nI r4) := ex6.trans er4
  subst ex6
  have b3 := hs_0 (by omega) h1 b1 b2
  refine g_calli S h (c_X6_setWay l D L cy _ A _ (h.2.2.2.2 _) _ _ (nI_pos (by omega)) (show nI r3 ≤ nI 2 from nI_le (by omega) (by omega)) (nI_pos (by omega)) b3 (show nI r4 ≤ nI 2 from nI_le (by omega) (by omega))) (cwV 2 hts gL_law_X6_setWay rfl rfl rfl (by decide +kernel) ⟨Nat.le_of_ble_eq_true rfl, Nat.le_of_ble_eq_true rfl⟩) (g_pre h gk_c0 (by decide) rfl rfl _) rfl hl.1 rfl (Nat.le_of_ble_eq_true rfl) dL_law_66 ⟨Nat.le_of_ble_eq_true rfl, Nat.le_of_ble_eq_true rfl⟩ (fun H locs h => ?_)
  have b4 := setY_ok (s := st2) (wy := nI r3) (th := nI r4) (nI_pos (by omega)) (show nI r4 ≤ nI 2 from nI_le (by omega) (by omega)) b3
  generalize (f_X6_setWay st2 (nI r3) (nI r4)).2 = st3 at b4 h
  refine lv_pop hx hb dL_law_69 rfl ?_
  refine lv_iconst (v := 0) hx hb dL_law_70 (by decide) ?_
  refine lv_istore_n (lv' := [(3, .int 0), (2, .int (nI many)), (1, .ref (L 0)), (0, .ref b)]) hx hb dL_law_71 rfl hl (by decide) rfl (fun ls hl => ?_)
  refine W.widen (k := 300 + 0) (n := 3000 + 24 * 0) (by omega) (by omega) ?_
  exact l_loop S hA hX hLb (many := many) (wc := wc) (by omega) (by omega) hE 35 0 0 0 st3 _ _ ls (by omega) (by omega) (by omega) (LI_0 (by omega) (by omega) (by omega) h1 e2 b1 b2 b4) h (lv_sub hl [0, 1, 2, 3] rfl)
end LS
