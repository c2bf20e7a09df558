/-! THE LAW'S LOOP. -/
section LL
variable {p : Program} {l : Launch} {e : Env} {s : State} {m : MethodId} {below : List Frame} {meth : Method} {c : Code} {H : Heap} {locs : List Loc} {cells slots : Nat} {Q : State → Prop}
variable {D : va_G} {L : Nat → Nat} {cy : Nat → ClassId} {A : Nat → Prop} {st st' : gSt} {pc : Nat} {ls : Array Slot} {rest : List Value} {b Lb : Nat} {xs : Nat → Int32}
theorem l_lcmp {R : Room} {args : Array Value} {x : Int64} (hexec : p.tables.exec = Jvm.exec) (hb : c.code = cL_law) (hdg : decode cL_law pc = .ok (.lcmp, 1))
    (k : W p l e R s m args below meth c H locs cells slots Q (F0 m (pc + 1) ls (.int 0 :: rest))) : W p l e R s m args below meth c H locs cells slots Q (F0 m pc ls (.long x :: .long x :: rest)) := by
  intro T hT X
  obtain ⟨t, a, b⟩ := k T hT X
  refine ⟨t, ?_, b⟩
  have h1 : ¬ x > x := Int64.lt_irrefl
  jvm_step X.here [X.here.top, hexec, hb, hdg, h1]
  first | exact a | (simp [h1]; exact a) | (simp; exact a)
set_option maxHeartbeats 16000000 in
set_option maxRecDepth 100000 in
theorem l_loop (S : CallFix p m c cL_law 17 s #[Value.ref b] wsL_law RL) (hA : ∀ q, s.heap.size ≤ q → A q) (hX : scr b Lb xs A s) (hLb : Lb ≤ 260) {wc many : Nat} (hm1 : 1 ≤ many) (hm8 : many ≤ 8)
    (hE : ∀ (st : gSt) (H : Heap) (locs : List Loc) (ls : Array Slot), gH D L cy [] A st s H locs → W p l e room_1 s m #[Value.ref b] below meth c H locs 1000 10000 Q (F0 m 597 ls [])) :
    ∀ (mm k n ck : Nat) (st : gSt) (H : Heap) (locs : List Loc) (ls : Array Slot), k ≤ 34 → 34 < mm + k → ck ≤ 2 * k → LI n wc ck many st → gH D L cy [] A st s H locs → lv_has ls 17 [(3, .int (nI k)), (2, .int (nI many)), (1, .ref (L 0)), (0, .ref b)] → W p l e room_1 s m #[Value.ref b] below meth c H locs (300 + k) (3000 + 24 * k) Q (F0 m 72 ls []) := by
  have hx := S.1
  have hb := S.2.1
  have hts := S.2.2.2.2
  intro mm
  induction mm with
  | zero => intros; omega
  | succ mm ih =>
    intro k n ck st H locs ls hk hmm hck hI h hl
    refine lv_iload_n hx hb dL_law_72 rfl (lv_at hl 0 rfl) ?_
    refine lv_bipush (v := 34) hx hb dL_law_73 (by decide) ?_
    rcases Nat.lt_or_ge k 34 with hlt | hge
    · refine lv_icmp_ge (tgt := 597) hx hb dL_law_75 (by decide) (fun c1 => absurd c1 (show ¬ (34 : Int32) ≤ nI k from nI_ge (b := 34) hlt (by omega))) (fun c1 => ?_)
      have j582 : ∀ (n2 ck2 : Nat) (st : gSt) (H : Heap) (locs : List Loc) (ls : Array Slot), (ck2 ≤ 2 * k + 2) → (LI n2 wc ck2 many st) → gH D L cy [] A st s H locs → lv_has ls 17 [(3, .int (nI k)), (2, .int (nI many)), (1, .ref (L 0)), (0, .ref b)] → W p l e room_1 s m #[Value.ref b] below meth c H locs (300 + k) (3000 + 24 * k) Q (F0 m 582 ls []) := by
        intro n2 ck2 st H locs ls hck2 hI h hl
        refine lv_aload_n hx hb dL_law_582 rfl (lv_at hl 2 rfl) ?_
        refine s_calliS S h hA hX (c_L_isSound l D L cy _ A _ (h.2.2.2.2 _) b Lb xs hI.1 hI.2.1 (by omega)) (va_cwS 1 hts gL_law_L_isSound rfl rfl rfl (by decide +kernel) ⟨Nat.le_of_ble_eq_true rfl, Nat.le_of_ble_eq_true rfl⟩) rfl hl.1 rfl (Nat.le_of_ble_eq_true rfl) dL_law_583 ⟨(by show _ ≤ 600130; omega), (by show _ ≤ 7301080; omega)⟩ (fun H locs h => ?_)
        refine lv_if_ne (tgt := 591) hx hb dL_law_586 (by decide) (fun _ => ?_) (fun c2 => absurd c2 (by decide))
        refine lv_iinc (v := (nI (k + 1))) (lv' := [(3, .int (nI (k + 1))), (2, .int (nI many)), (1, .ref (L 0)), (0, .ref b)]) hx hb dL_law_591 hl (k := 0) rfl (nI_1 _) (by decide) rfl (fun ls hl => ?_)
        refine lv_goto (tgt := 72) hx hb dL_law_594 (by decide) ?_
        refine W.widen (k := 300 + (k + 1)) (n := 3000 + 24 * (k + 1)) (by omega) (by omega) ?_
        exact ih (k + 1) n2 ck2 st _ _ ls (by omega) (by omega) (by omega) hI h (lv_sub hl [0, 1, 2, 3] rfl)
      have j437 : ∀ (st : gSt) (tk ov va ht hd : Int32) (sd : Int64) (kd x : Int32) (H : Heap) (locs : List Loc) (ls : Array Slot), (LI n wc ck many st) → (Tf n st tk ov va) → (Hf st hd ht) → (sd = f_X6_digest st) → gH D L cy [] A st s H locs → lv_has ls 17 [(12, .int va), (11, .int ov), (10, .int tk), (9, .int ht), (8, .int hd), (6, .long sd), (5, .int kd), (4, .int x), (3, .int (nI k)), (2, .int (nI many)), (1, .ref (L 0)), (0, .ref b)] → W p l e room_1 s m #[Value.ref b] below meth c H locs (300 + k) (3000 + 24 * k) Q (F0 m 437 ls []) := by
        intro st tk ov va ht hd sd kd x H locs ls hI hT hH hsd h hl
        have hn3 : st 30 3 = nI n := hI.1.1.2.1.1
        have hn := hI.1.1.1.1
        have hn11 : st 30 11 = nI ck := hI.1.1.2.1.2.2
        refine lv_aload_n hx hb dL_law_437 rfl (lv_at hl 10 rfl) ?_
        refine g_calli S h (c_X6_clock l D L cy _ A _ (h.2.2.2.2 _)) (cwV 0 hts gL_law_X6_clock rfl rfl rfl (by decide +kernel) ⟨Nat.le_of_ble_eq_true rfl, Nat.le_of_ble_eq_true rfl⟩) (g_pre h gk_c0 (by decide) rfl rfl _) rfl hl.1 rfl (Nat.le_of_ble_eq_true rfl) dL_law_438 ⟨(by show _ ≤ 600130; omega), (by show _ ≤ 7301080; omega)⟩ (fun H locs h => ?_)
        refine lv_topi (fun x3 ex3 => ?_)
        have ex3 : x3 = (nI ck) := ex3.trans hn11
        subst ex3
        refine lv_istore (lv' := [(13, .int (nI ck)), (12, .int va), (11, .int ov), (10, .int tk), (9, .int ht), (8, .int hd), (6, .long sd), (5, .int kd), (4, .int x), (3, .int (nI k)), (2, .int (nI many)), (1, .ref (L 0)), (0, .ref b)]) hx hb dL_law_441 hl (by decide) rfl (fun ls hl => ?_)
        refine lv_aload_n hx hb dL_law_443 rfl (lv_at hl 11 rfl) ?_
        refine lv_iconst (v := 2) hx hb dL_law_444 (by decide) ?_
        refine g_calli S h (c_X6_tick l D L cy _ A _ (h.2.2.2.2 _) _ (by decide) (by decide)) (cwV 1 hts gL_law_X6_tick rfl rfl rfl (by decide +kernel) ⟨Nat.le_of_ble_eq_true rfl, Nat.le_of_ble_eq_true rfl⟩) (g_pre h gk_c0 (by decide) rfl rfl _) rfl hl.1 rfl (Nat.le_of_ble_eq_true rfl) dL_law_445 ⟨(by show _ ≤ 600130; omega), (by show _ ≤ 7301080; omega)⟩ (fun H locs h => ?_)
        obtain ⟨n2, hn2, hI2, hop, hhd, hht, htk⟩ := tick_ok hI (by omega) hH hT
        obtain ⟨st2, hst2⟩ : ∃ st2, st2 = (f_X6_tick st 2).2 := ⟨_, rfl⟩
        rw [← hst2] at h hI2 hop hhd hht htk
        refine lv_topi (fun x4 ex4 => ?_)
        have ex4 : x4 = (nI (sm (oU st2) n2)) := ex4.trans hop
        subst ex4
        have hn32 : st2 30 3 = nI n2 := hI2.1.1.2.1.1
        have hn112 : st2 30 11 = nI (ck + 2) := hI2.1.1.2.1.2.2
        have hn24 := hI2.1.1.1.1
        refine lv_istore (lv' := [(14, .int (nI (sm (oU st2) n2))), (13, .int (nI ck)), (12, .int va), (11, .int ov), (10, .int tk), (9, .int ht), (8, .int hd), (6, .long sd), (5, .int kd), (4, .int x), (3, .int (nI k)), (2, .int (nI many)), (1, .ref (L 0)), (0, .ref b)]) hx hb dL_law_448 hl (by decide) rfl (fun ls hl => ?_)
        refine lv_iconst (v := 0) hx hb dL_law_450 (by decide) ?_
        refine lv_istore (lv' := [(15, .int 0), (14, .int (nI (sm (oU st2) n2))), (13, .int (nI ck)), (12, .int va), (11, .int ov), (10, .int tk), (9, .int ht), (8, .int hd), (6, .long sd), (5, .int kd), (4, .int x), (3, .int (nI k)), (2, .int (nI many)), (1, .ref (L 0)), (0, .ref b)]) hx hb dL_law_451 hl (by decide) rfl (fun ls hl => ?_)
        have k582 : ∀ (H : Heap) (locs : List Loc) (ls : Array Slot), gH D L cy [] A st2 s H locs → lv_has ls 17 [(14, .int (nI (sm (oU st2) n2))), (13, .int (nI ck)), (12, .int va), (11, .int ov), (10, .int tk), (9, .int ht), (8, .int hd), (6, .long sd), (5, .int kd), (4, .int x), (3, .int (nI k)), (2, .int (nI many)), (1, .ref (L 0)), (0, .ref b)] → W p l e room_1 s m #[Value.ref b] below meth c H locs (300 + k) (3000 + 24 * k) Q (F0 m 582 ls []) := by
          intro H locs ls h hl
          exact j582 n2 (ck + 2) st2 _ _ ls (by omega) hI2 h (lv_sub hl [10, 11, 12, 13] rfl)
        have k567 : ∀ (H : Heap) (locs : List Loc) (ls : Array Slot), gH D L cy [] A st2 s H locs → lv_has ls 17 [(14, .int (nI (sm (oU st2) n2))), (13, .int (nI ck)), (12, .int va), (11, .int ov), (10, .int tk), (9, .int ht), (8, .int hd), (6, .long sd), (5, .int kd), (4, .int x), (3, .int (nI k)), (2, .int (nI many)), (1, .ref (L 0)), (0, .ref b)] → W p l e room_1 s m #[Value.ref b] below meth c H locs (300 + k) (3000 + 24 * k) Q (F0 m 567 ls []) := by
          intro H locs ls h hl
          refine lv_iload hx hb dL_law_567 (lv_at hl 5 rfl) ?_
          refine lv_iconst (v := 2) hx hb dL_law_569 (by decide) ?_
          by_cases q2 : ht = 2
          · refine lv_icmp_ne (tgt := 582) hx hb dL_law_570 (by decide) (fun c5 => absurd q2 c5) (fun _ => ?_)
            refine lv_aload_n hx hb dL_law_573 rfl (lv_at hl 12 rfl) ?_
            refine g_calli S h (c_X6_halted l D L cy _ A _ (h.2.2.2.2 _)) (cwV 0 hts gL_law_X6_halted rfl rfl rfl (by decide +kernel) ⟨Nat.le_of_ble_eq_true rfl, Nat.le_of_ble_eq_true rfl⟩) (g_pre h gk_c0 (by decide) rfl rfl _) rfl hl.1 rfl (Nat.le_of_ble_eq_true rfl) dL_law_574 ⟨(by show _ ≤ 600130; omega), (by show _ ≤ 7301080; omega)⟩ (fun H locs h => ?_)
            refine lv_if_ne (tgt := 582) hx hb dL_law_577 (by decide) (fun _ => ?_) (fun c6 => absurd c6 (hht q2))
            exact k582 _ _ ls h hl
          · refine lv_icmp_ne (tgt := 582) hx hb dL_law_570 (by decide) (fun _ => ?_) (fun c7 => absurd c7 q2)
            exact k582 _ _ ls h hl
        have k553 : ∀ (H : Heap) (locs : List Loc) (ls : Array Slot), gH D L cy [] A st2 s H locs → lv_has ls 17 [(14, .int (nI (sm (oU st2) n2))), (13, .int (nI ck)), (12, .int va), (11, .int ov), (10, .int tk), (9, .int ht), (8, .int hd), (6, .long sd), (5, .int kd), (4, .int x), (3, .int (nI k)), (2, .int (nI many)), (1, .ref (L 0)), (0, .ref b)] → W p l e room_1 s m #[Value.ref b] below meth c H locs (300 + k) (3000 + 24 * k) Q (F0 m 553 ls []) := by
          intro H locs ls h hl
          refine lv_iload hx hb dL_law_553 (lv_at hl 6 rfl) ?_
          by_cases hh : f_X1_isHalted st 30 = 0
          · refine lv_if_le (tgt := 567) hx hb dL_law_555 (by decide) (fun c8 => ?_) (fun c8 => absurd (by rw [(Hf_n hH hh).1]; decide) c8)
            exact k567 _ _ ls h hl
          · refine lv_if_le (tgt := 567) hx hb dL_law_555 (by decide) (fun c9 => absurd c9 (Hf_y hH hh).1) (fun c9 => ?_)
            refine lv_aload_n hx hb dL_law_558 rfl (lv_at hl 12 rfl) ?_
            refine g_calli S h (c_X6_halted l D L cy _ A _ (h.2.2.2.2 _)) (cwV 0 hts gL_law_X6_halted rfl rfl rfl (by decide +kernel) ⟨Nat.le_of_ble_eq_true rfl, Nat.le_of_ble_eq_true rfl⟩) (g_pre h gk_c0 (by decide) rfl rfl _) rfl hl.1 rfl (Nat.le_of_ble_eq_true rfl) dL_law_559 ⟨(by show _ ≤ 600130; omega), (by show _ ≤ 7301080; omega)⟩ (fun H locs h => ?_)
            refine lv_topi (fun x10 ex10 => ?_)
            have ex10 : x10 = hd := ex10.trans (hhd hh)
            subst ex10
            refine lv_iload hx hb dL_law_562 (lv_at hl 6 rfl) ?_
            refine lv_icmp_ne (tgt := 580) hx hb dL_law_564 (by decide) (fun c11 => absurd rfl c11) (fun _ => ?_)
            exact k567 _ _ ls h hl
        have k498 : ∀ (H : Heap) (locs : List Loc) (ls : Array Slot), gH D L cy [] A st2 s H locs → lv_has ls 17 [(14, .int (nI (sm (oU st2) n2))), (13, .int (nI ck)), (12, .int va), (11, .int ov), (10, .int tk), (9, .int ht), (8, .int hd), (6, .long sd), (5, .int kd), (4, .int x), (3, .int (nI k)), (2, .int (nI many)), (1, .ref (L 0)), (0, .ref b)] → W p l e room_1 s m #[Value.ref b] below meth c H locs (300 + k) (3000 + 24 * k) Q (F0 m 498 ls []) := by
          intro H locs ls h hl
          refine lv_aload_n hx hb dL_law_498 rfl (lv_at hl 12 rfl) ?_
          refine g_calli S h (c_X6_clock l D L cy _ A _ (h.2.2.2.2 _)) (cwV 0 hts gL_law_X6_clock rfl rfl rfl (by decide +kernel) ⟨Nat.le_of_ble_eq_true rfl, Nat.le_of_ble_eq_true rfl⟩) (g_pre h gk_c0 (by decide) rfl rfl _) rfl hl.1 rfl (Nat.le_of_ble_eq_true rfl) dL_law_499 ⟨(by show _ ≤ 600130; omega), (by show _ ≤ 7301080; omega)⟩ (fun H locs h => ?_)
          refine lv_topi (fun x12 ex12 => ?_)
          have ex12 : x12 = (nI (ck + 2)) := ex12.trans hn112
          subst ex12
          refine lv_iload hx hb dL_law_502 (lv_at hl 1 rfl) ?_
          refine lv_iconst (v := 2) hx hb dL_law_504 (by decide) ?_
          refine lv_iadd hx hb dL_law_505 ?_
          refine lv_topi (fun x13 ex13 => ?_)
          have ex13 : x13 = (nI (ck + 2)) := ex13.trans (nI_add ck 2)
          subst ex13
          refine lv_icmp_ne (tgt := 580) hx hb dL_law_506 (by decide) (fun c14 => absurd rfl c14) (fun _ => ?_)
          refine lv_iload hx hb dL_law_509 (lv_at hl 4 rfl) ?_
          rcases hT with ⟨-, z⟩ | ⟨t, ht1, et, -⟩
          · refine lv_if_lt (tgt := 553) hx hb dL_law_511 (by decide) (fun c15 => ?_) (fun c15 => absurd (by rw [z]; decide) c15)
            exact k553 _ _ ls h hl
          · obtain ⟨y1, y2⟩ := htk t et ht1
            subst et
            refine lv_if_lt (tgt := 553) hx hb dL_law_511 (by decide) (fun c16 => absurd c16 (nI_pos (by omega))) (fun c16 => ?_)
            refine lv_aload_n hx hb dL_law_514 rfl (lv_at hl 12 rfl) ?_
            refine lv_iload hx hb dL_law_515 (lv_at hl 4 rfl) ?_
            refine g_calli S h (c_X6_valueOf l D L cy _ A _ (h.2.2.2.2 _) _ (nI_pos (by omega)) (by rw [hn32]; exact nI_lt (by omega) (by omega))) (cwV 1 hts gL_law_X6_valueOf rfl rfl rfl (by decide +kernel) ⟨Nat.le_of_ble_eq_true rfl, Nat.le_of_ble_eq_true rfl⟩) (g_pre h gk_c0 (by decide) rfl rfl _) rfl hl.1 rfl (Nat.le_of_ble_eq_true rfl) dL_law_517 ⟨(by show _ ≤ 600130; omega), (by show _ ≤ 7301080; omega)⟩ (fun H locs h => ?_)
            refine lv_topi (fun x17 ex17 => ?_)
            have ex17 : x17 = va := ex17.trans ((so_value (by omega)).trans y1)
            subst ex17
            refine lv_iload hx hb dL_law_520 (lv_at hl 2 rfl) ?_
            refine lv_icmp_ne (tgt := 580) hx hb dL_law_522 (by decide) (fun c18 => absurd rfl c18) (fun _ => ?_)
            refine lv_iload hx hb dL_law_525 (lv_at hl 3 rfl) ?_
            by_cases q5 : st2 (43 + t) 2 < 4
            · refine lv_if_lt (tgt := 534) hx hb dL_law_527 (by decide) (fun c19 => ?_) (fun c19 => absurd (Decidable.byContradiction fun q => y2.mp q q5) c19)
              refine lv_iconst (v := 0) hx hb dL_law_534 (by decide) ?_
              refine lv_aload_n hx hb dL_law_535 rfl (lv_at hl 12 rfl) ?_
              refine lv_iload hx hb dL_law_536 (lv_at hl 4 rfl) ?_
              refine g_calli S h (c_X6_stateOf l D L cy _ A _ (h.2.2.2.2 _) _ (nI_pos (by omega)) (by rw [hn32]; exact nI_lt (by omega) (by omega))) (cwV 1 hts gL_law_X6_stateOf rfl rfl rfl (by decide +kernel) ⟨Nat.le_of_ble_eq_true rfl, Nat.le_of_ble_eq_true rfl⟩) (g_pre h gk_c0 (by decide) rfl rfl _) rfl hl.1 rfl (Nat.le_of_ble_eq_true rfl) dL_law_538 ⟨(by show _ ≤ 600130; omega), (by show _ ≤ 7301080; omega)⟩ (fun H locs h => ?_)
              refine lv_topi (fun x20 ex20 => ?_)
              have ex20 : x20 = (st2 (43 + t) 2) := ex20.trans (so_state (by omega))
              subst ex20
              refine lv_iconst (v := 4) hx hb dL_law_541 (by decide) ?_
              refine lv_icmp_lt (tgt := 549) hx hb dL_law_542 (by decide) (fun c21 => ?_) (fun c21 => absurd q5 c21)
              refine lv_iconst (v := 0) hx hb dL_law_549 (by decide) ?_
              refine lv_icmp_ne (tgt := 580) hx hb dL_law_550 (by decide) (fun c22 => absurd rfl c22) (fun _ => ?_)
              exact k553 _ _ ls h hl
            · refine lv_if_lt (tgt := 534) hx hb dL_law_527 (by decide) (fun c23 => absurd c23 (y2.mpr q5)) (fun c23 => ?_)
              refine lv_iconst (v := 1) hx hb dL_law_530 (by decide) ?_
              refine lv_goto (tgt := 535) hx hb dL_law_531 (by decide) ?_
              refine lv_aload_n hx hb dL_law_535 rfl (lv_at hl 12 rfl) ?_
              refine lv_iload hx hb dL_law_536 (lv_at hl 4 rfl) ?_
              refine g_calli S h (c_X6_stateOf l D L cy _ A _ (h.2.2.2.2 _) _ (nI_pos (by omega)) (by rw [hn32]; exact nI_lt (by omega) (by omega))) (cwV 1 hts gL_law_X6_stateOf rfl rfl rfl (by decide +kernel) ⟨Nat.le_of_ble_eq_true rfl, Nat.le_of_ble_eq_true rfl⟩) (g_pre h gk_c0 (by decide) rfl rfl _) rfl hl.1 rfl (Nat.le_of_ble_eq_true rfl) dL_law_538 ⟨(by show _ ≤ 600130; omega), (by show _ ≤ 7301080; omega)⟩ (fun H locs h => ?_)
              refine lv_topi (fun x24 ex24 => ?_)
              have ex24 : x24 = (st2 (43 + t) 2) := ex24.trans (so_state (by omega))
              subst ex24
              refine lv_iconst (v := 4) hx hb dL_law_541 (by decide) ?_
              refine lv_icmp_lt (tgt := 549) hx hb dL_law_542 (by decide) (fun c25 => absurd c25 q5) (fun c25 => ?_)
              refine lv_iconst (v := 1) hx hb dL_law_545 (by decide) ?_
              refine lv_goto (tgt := 550) hx hb dL_law_546 (by decide) ?_
              refine lv_icmp_ne (tgt := 580) hx hb dL_law_550 (by decide) (fun c26 => absurd rfl c26) (fun _ => ?_)
              exact k553 _ _ ls h hl
        have kloop : ∀ (mt t op : Nat) (H : Heap) (locs : List Loc) (ls : Array Slot), t ≤ n2 → n2 < mt + t → op = sm (oU st2) t → gH D L cy [] A st2 s H locs → lv_has ls 17 [(16, .int (nI t)), (15, .int (nI op)), (14, .int (nI (sm (oU st2) n2))), (13, .int (nI ck)), (12, .int va), (11, .int ov), (10, .int tk), (9, .int ht), (8, .int hd), (6, .long sd), (5, .int kd), (4, .int x), (3, .int (nI k)), (2, .int (nI many)), (1, .ref (L 0)), (0, .ref b)] → W p l e room_1 s m #[Value.ref b] below meth c H locs (300 + k) (3000 + 24 * k) Q (F0 m 456 ls []) := by
          intro mt
          induction mt with
          | zero => intros; omega
          | succ mt iht =>
            intro t op H locs ls ht1 hmt hop2 h hl
            have hot := oU_le (st := st2) t
            refine lv_iload hx hb dL_law_456 (lv_at hl 0 rfl) ?_
            refine lv_aload_n hx hb dL_law_458 rfl (lv_at hl 14 rfl) ?_
            refine g_calli S h (c_X6_tasks l D L cy _ A _ (h.2.2.2.2 _)) (cwV 0 hts gL_law_X6_tasks rfl rfl rfl (by decide +kernel) ⟨Nat.le_of_ble_eq_true rfl, Nat.le_of_ble_eq_true rfl⟩) (g_pre h gk_c0 (by decide) rfl rfl _) rfl hl.1 rfl (Nat.le_of_ble_eq_true rfl) dL_law_459 ⟨(by show _ ≤ 600130; omega), (by show _ ≤ 7301080; omega)⟩ (fun H locs h => ?_)
            refine lv_topi (fun x27 ex27 => ?_)
            have ex27 : x27 = (nI n2) := ex27.trans hn32
            subst ex27
            rcases Nat.lt_or_ge t n2 with htn | htn
            · refine lv_icmp_ge (tgt := 491) hx hb dL_law_462 (by decide) (fun c28 => absurd c28 (nI_ge htn (by omega))) (fun c28 => ?_)
              refine lv_iload hx hb dL_law_465 (lv_at hl 1 rfl) ?_
              refine lv_aload_n hx hb dL_law_467 rfl (lv_at hl 14 rfl) ?_
              refine lv_iload hx hb dL_law_468 (lv_at hl 0 rfl) ?_
              refine g_calli S h (c_X6_stateOf l D L cy _ A _ (h.2.2.2.2 _) _ (nI_pos (by omega)) (by rw [hn32]; exact nI_lt (by omega) (by omega))) (cwV 1 hts gL_law_X6_stateOf rfl rfl rfl (by decide +kernel) ⟨Nat.le_of_ble_eq_true rfl, Nat.le_of_ble_eq_true rfl⟩) (g_pre h gk_c0 (by decide) rfl rfl _) rfl hl.1 rfl (Nat.le_of_ble_eq_true rfl) dL_law_470 ⟨(by show _ ≤ 600130; omega), (by show _ ≤ 7301080; omega)⟩ (fun H locs h => ?_)
              refine lv_topi (fun x29 ex29 => ?_)
              have ex29 : x29 = (st2 (43 + t) 2) := ex29.trans (so_state (by omega))
              subst ex29
              refine lv_iconst (v := 4) hx hb dL_law_473 (by decide) ?_
              by_cases q6 : st2 (43 + t) 2 < 4
              · refine lv_icmp_ge (tgt := 481) hx hb dL_law_474 (by decide) (fun c30 => absurd c30 (Int32.not_le.mpr q6)) (fun c30 => ?_)
                refine lv_iconst (v := 1) hx hb dL_law_477 (by decide) ?_
                refine lv_goto (tgt := 482) hx hb dL_law_478 (by decide) ?_
                refine lv_iadd hx hb dL_law_482 ?_
                refine lv_topi (fun x31 ex31 => ?_)
                have ex31 : x31 = (nI (op + 1)) := ex31.trans (nI_add op 1)
                subst ex31
                refine lv_istore (lv' := [(15, .int (nI (op + 1))), (16, .int (nI t)), (14, .int (nI (sm (oU st2) n2))), (13, .int (nI ck)), (12, .int va), (11, .int ov), (10, .int tk), (9, .int ht), (8, .int hd), (6, .long sd), (5, .int kd), (4, .int x), (3, .int (nI k)), (2, .int (nI many)), (1, .ref (L 0)), (0, .ref b)]) hx hb dL_law_483 hl (by decide) rfl (fun ls hl => ?_)
                refine lv_iinc (v := (nI (t + 1))) (lv' := [(16, .int (nI (t + 1))), (15, .int (nI (op + 1))), (14, .int (nI (sm (oU st2) n2))), (13, .int (nI ck)), (12, .int va), (11, .int ov), (10, .int tk), (9, .int ht), (8, .int hd), (6, .long sd), (5, .int kd), (4, .int x), (3, .int (nI k)), (2, .int (nI many)), (1, .ref (L 0)), (0, .ref b)]) hx hb dL_law_485 hl (k := 1) rfl (nI_1 _) (by decide) rfl (fun ls hl => ?_)
                refine lv_goto (tgt := 456) hx hb dL_law_488 (by decide) ?_
                exact iht (t + 1) (op + 1) _ _ ls (by omega) (by omega) (by rw [hop2]; show _ = sm (oU st2) t + oU st2 t; unfold oU; rw [if_pos q6]) h (lv_sub hl [0, 1, 2, 3, 4, 5, 6, 7, 8, 9, 10, 11, 12, 13, 14, 15] rfl)
              · refine lv_icmp_ge (tgt := 481) hx hb dL_law_474 (by decide) (fun c32 => ?_) (fun c32 => absurd (Int32.not_lt.mp q6) c32)
                refine lv_iconst (v := 0) hx hb dL_law_481 (by decide) ?_
                refine lv_iadd hx hb dL_law_482 ?_
                refine lv_topi (fun x33 ex33 => ?_)
                have ex33 : x33 = (nI op) := ex33.trans (nI_add op 0)
                subst ex33
                refine lv_istore (lv' := [(15, .int (nI op)), (16, .int (nI t)), (14, .int (nI (sm (oU st2) n2))), (13, .int (nI ck)), (12, .int va), (11, .int ov), (10, .int tk), (9, .int ht), (8, .int hd), (6, .long sd), (5, .int kd), (4, .int x), (3, .int (nI k)), (2, .int (nI many)), (1, .ref (L 0)), (0, .ref b)]) hx hb dL_law_483 hl (by decide) rfl (fun ls hl => ?_)
                refine lv_iinc (v := (nI (t + 1))) (lv' := [(16, .int (nI (t + 1))), (15, .int (nI op)), (14, .int (nI (sm (oU st2) n2))), (13, .int (nI ck)), (12, .int va), (11, .int ov), (10, .int tk), (9, .int ht), (8, .int hd), (6, .long sd), (5, .int kd), (4, .int x), (3, .int (nI k)), (2, .int (nI many)), (1, .ref (L 0)), (0, .ref b)]) hx hb dL_law_485 hl (k := 1) rfl (nI_1 _) (by decide) rfl (fun ls hl => ?_)
                refine lv_goto (tgt := 456) hx hb dL_law_488 (by decide) ?_
                exact iht (t + 1) op _ _ ls (by omega) (by omega) (by rw [hop2]; show _ = sm (oU st2) t + oU st2 t; unfold oU; rw [if_neg q6]; rfl) h (lv_sub hl [0, 1, 2, 3, 4, 5, 6, 7, 8, 9, 10, 11, 12, 13, 14, 15] rfl)
            · refine lv_icmp_ge (tgt := 491) hx hb dL_law_462 (by decide) (fun c34 => ?_) (fun c34 => absurd (nI_le htn (by omega)) c34)
              obtain rfl : t = n2 := by omega
              refine lv_iload hx hb dL_law_491 (lv_at hl 2 rfl) ?_
              refine lv_iload hx hb dL_law_493 (lv_at hl 1 rfl) ?_
              refine lv_icmp_ne (tgt := 580) hx hb dL_law_495 (by decide) (fun c35 => absurd (by rw [hop2]) c35) (fun _ => ?_)
              exact k498 _ _ ls h (lv_sub hl [2, 3, 4, 5, 6, 7, 8, 9, 10, 11, 12, 13, 14, 15] rfl)
        refine lv_iconst (v := 0) hx hb dL_law_453 (by decide) ?_
        refine lv_istore (lv' := [(16, .int 0), (15, .int 0), (14, .int (nI (sm (oU st2) n2))), (13, .int (nI ck)), (12, .int va), (11, .int ov), (10, .int tk), (9, .int ht), (8, .int hd), (6, .long sd), (5, .int kd), (4, .int x), (3, .int (nI k)), (2, .int (nI many)), (1, .ref (L 0)), (0, .ref b)]) hx hb dL_law_454 hl (by decide) rfl (fun ls hl => ?_)
        exact kloop (n2 + 1) 0 0 _ _ ls (by omega) (by omega) rfl h (lv_sub hl [0, 1, 2, 3, 4, 5, 6, 7, 8, 9, 10, 11, 12, 13, 14, 15] rfl)
      have j370 : ∀ (st : gSt) (tk ov va ht hd : Int32) (sd : Int64) (kd x : Int32) (H : Heap) (locs : List Loc) (ls : Array Slot), (LI n wc ck many st) → (Tf n st tk ov va) → (Hf st hd ht) → (sd = f_X6_digest st) → gH D L cy [] A st s H locs → lv_has ls 17 [(12, .int va), (11, .int ov), (10, .int tk), (9, .int ht), (8, .int hd), (6, .long sd), (5, .int kd), (4, .int x), (3, .int (nI k)), (2, .int (nI many)), (1, .ref (L 0)), (0, .ref b)] → W p l e room_1 s m #[Value.ref b] below meth c H locs (300 + k) (3000 + 24 * k) Q (F0 m 370 ls []) := by
        intro st tk ov va ht hd sd kd x H locs ls hI hT hH hsd h hl
        have hn3 : st 30 3 = nI n := hI.1.1.2.1.1
        have hn := hI.1.1.1.1
        have hn11 : st 30 11 = nI ck := hI.1.1.2.1.2.2
        refine lv_iload hx hb dL_law_370 (lv_at hl 6 rfl) ?_
        refine lv_iconst (v := 3) hx hb dL_law_372 (by decide) ?_
        by_cases q1 : kd = 3
        · refine lv_icmp_ne (tgt := 437) hx hb dL_law_373 (by decide) (fun c36 => absurd q1 c36) (fun _ => ?_)
          refine lv_iload hx hb dL_law_376 (lv_at hl 7 rfl) ?_
          refine lv_iconst (v := 3) hx hb dL_law_378 (by decide) ?_
          refine lv_ishr hx hb dL_law_379 ?_
          refine lv_bipush (v := 6) hx hb dL_law_380 (by decide) ?_
          refine s_calliS S h hA hX (c_L_below l D L cy _ A _ (h.2.2.2.2 _) b Lb xs (x >>> (3 &&& 31)) 6 (by decide)) (va_cwS 2 hts gL_law_L_below rfl rfl rfl (by decide +kernel) ⟨Nat.le_of_ble_eq_true rfl, Nat.le_of_ble_eq_true rfl⟩) rfl hl.1 rfl (Nat.le_of_ble_eq_true rfl) dL_law_382 ⟨(by show _ ≤ 600130; omega), (by show _ ≤ 7301080; omega)⟩ (fun H locs h => ?_)
          obtain ⟨q, hq, eq⟩ := below_ok (x >>> (3 &&& 31)) (N := 6) (by omega) (by omega)
          refine lv_topi (fun x37 ex37 => ?_)
          have ex37 : x37 = (nI q) := ex37.trans eq
          subst ex37
          refine lv_istore (lv' := [(13, .int (nI q)), (12, .int va), (11, .int ov), (10, .int tk), (9, .int ht), (8, .int hd), (6, .long sd), (5, .int kd), (4, .int x), (3, .int (nI k)), (2, .int (nI many)), (1, .ref (L 0)), (0, .ref b)]) hx hb dL_law_385 hl (by decide) rfl (fun ls hl => ?_)
          refine lv_aload_n hx hb dL_law_387 rfl (lv_at hl 11 rfl) ?_
          refine lv_iload hx hb dL_law_388 (lv_at hl 0 rfl) ?_
          obtain ⟨pn1, pn2⟩ := promise_n (st := st) hq
          refine g_calli S h (c_X6_promise l D L cy _ A _ (h.2.2.2.2 _) _ pn2) (cwV 1 hts gL_law_X6_promise rfl rfl rfl (by decide +kernel) ⟨Nat.le_of_ble_eq_true rfl, Nat.le_of_ble_eq_true rfl⟩) (g_pre h gk_c0 (by decide) rfl rfl _) rfl hl.1 rfl (Nat.le_of_ble_eq_true rfl) dL_law_390 ⟨(by show _ ≤ 600130; omega), (by show _ ≤ 7301080; omega)⟩ (fun H locs h => ?_)
          refine lv_topi (fun x38 ex38 => ?_)
          have ex38 : x38 = (st 42 q) := ex38.trans pn1
          subst ex38
          refine lv_ldc (v := (-1000000)) hx hb S.2.2.2.1 (hts (.constant RL 111 (-1000000)) (by decide +kernel)) dL_law_393 ?_
          obtain ⟨u1, u2, u3⟩ := keep_ok hI hq
          by_cases q7 : st 42 q = -1000000
          · refine lv_icmp_ne (tgt := 402) hx hb dL_law_395 (by decide) (fun c39 => absurd q7 c39) (fun _ => ?_)
            refine lv_iconst (v := 1) hx hb dL_law_398 (by decide) ?_
            refine lv_goto (tgt := 403) hx hb dL_law_399 (by decide) ?_
            refine lv_istore (lv' := [(14, .int 1), (13, .int (nI q)), (12, .int va), (11, .int ov), (10, .int tk), (9, .int ht), (8, .int hd), (6, .long sd), (5, .int kd), (4, .int x), (3, .int (nI k)), (2, .int (nI many)), (1, .ref (L 0)), (0, .ref b)]) hx hb dL_law_403 hl (by decide) rfl (fun ls hl => ?_)
            refine lv_aload_n hx hb dL_law_405 rfl (lv_at hl 12 rfl) ?_
            refine lv_iload hx hb dL_law_406 (lv_at hl 1 rfl) ?_
            refine lv_iconst (v := 5) hx hb dL_law_408 (by decide) ?_
            refine g_calli S h (c_X6_keep l D L cy _ A _ (h.2.2.2.2 _) _ _ pn2 (by decide) (by decide)) (cwV 2 hts gL_law_X6_keep rfl rfl rfl (by decide +kernel) ⟨Nat.le_of_ble_eq_true rfl, Nat.le_of_ble_eq_true rfl⟩) (g_pre h gk_c0 (by decide) rfl rfl _) rfl hl.1 rfl (Nat.le_of_ble_eq_true rfl) dL_law_409 ⟨(by show _ ≤ 600130; omega), (by show _ ≤ 7301080; omega)⟩ (fun H locs h => ?_)
            obtain ⟨st2, hst2⟩ : ∃ st2, st2 = (f_X6_keep st (nI q) 5).2 := ⟨_, rfl⟩
            obtain ⟨v1, v2⟩ := u2 q7
            rw [← hst2] at h u1 v2
            refine lv_topi (fun x40 ex40 => ?_)
            have ex40 : x40 = 1 := ex40.trans v1
            subst ex40
            refine lv_iload hx hb dL_law_412 (lv_at hl 0 rfl) ?_
            refine lv_icmp_ne (tgt := 432) hx hb dL_law_414 (by decide) (fun c41 => absurd rfl c41) (fun _ => ?_)
            refine lv_iload hx hb dL_law_417 (lv_at hl 0 rfl) ?_
            refine lv_if_eq (tgt := 434) hx hb dL_law_419 (by decide) (fun c42 => absurd c42 (by decide)) (fun c42 => ?_)
            refine lv_aload_n hx hb dL_law_422 rfl (lv_at hl 12 rfl) ?_
            refine lv_iload hx hb dL_law_423 (lv_at hl 1 rfl) ?_
            obtain ⟨pn3, pn4⟩ := promise_n (st := st2) hq
            refine g_calli S h (c_X6_promise l D L cy _ A _ (h.2.2.2.2 _) _ pn4) (cwV 1 hts gL_law_X6_promise rfl rfl rfl (by decide +kernel) ⟨Nat.le_of_ble_eq_true rfl, Nat.le_of_ble_eq_true rfl⟩) (g_pre h gk_c0 (by decide) rfl rfl _) rfl hl.1 rfl (Nat.le_of_ble_eq_true rfl) dL_law_425 ⟨(by show _ ≤ 600130; omega), (by show _ ≤ 7301080; omega)⟩ (fun H locs h => ?_)
            refine lv_topi (fun x43 ex43 => ?_)
            have ex43 : x43 = 5 := ex43.trans (pn3.trans v2)
            subst ex43
            refine lv_iconst (v := 5) hx hb dL_law_428 (by decide) ?_
            refine lv_icmp_eq (tgt := 434) hx hb dL_law_429 (by decide) (fun c44 => ?_) (fun c44 => absurd rfl c44)
            refine lv_goto (tgt := 582) hx hb dL_law_434 (by decide) ?_
            exact j582 n ck st2 _ _ ls (by omega) u1 h (lv_sub hl [10, 11, 12, 13] rfl)
          · refine lv_icmp_ne (tgt := 402) hx hb dL_law_395 (by decide) (fun _ => ?_) (fun c45 => absurd c45 q7)
            refine lv_iconst (v := 0) hx hb dL_law_402 (by decide) ?_
            refine lv_istore (lv' := [(14, .int 0), (13, .int (nI q)), (12, .int va), (11, .int ov), (10, .int tk), (9, .int ht), (8, .int hd), (6, .long sd), (5, .int kd), (4, .int x), (3, .int (nI k)), (2, .int (nI many)), (1, .ref (L 0)), (0, .ref b)]) hx hb dL_law_403 hl (by decide) rfl (fun ls hl => ?_)
            refine lv_aload_n hx hb dL_law_405 rfl (lv_at hl 12 rfl) ?_
            refine lv_iload hx hb dL_law_406 (lv_at hl 1 rfl) ?_
            refine lv_iconst (v := 5) hx hb dL_law_408 (by decide) ?_
            refine g_calli S h (c_X6_keep l D L cy _ A _ (h.2.2.2.2 _) _ _ pn2 (by decide) (by decide)) (cwV 2 hts gL_law_X6_keep rfl rfl rfl (by decide +kernel) ⟨Nat.le_of_ble_eq_true rfl, Nat.le_of_ble_eq_true rfl⟩) (g_pre h gk_c0 (by decide) rfl rfl _) rfl hl.1 rfl (Nat.le_of_ble_eq_true rfl) dL_law_409 ⟨(by show _ ≤ 600130; omega), (by show _ ≤ 7301080; omega)⟩ (fun H locs h => ?_)
            obtain ⟨st2, hst2⟩ : ∃ st2, st2 = (f_X6_keep st (nI q) 5).2 := ⟨_, rfl⟩
            rw [← hst2] at h u1
            refine lv_topi (fun x46 ex46 => ?_)
            have ex46 : x46 = 0 := ex46.trans (u3 q7)
            subst ex46
            refine lv_iload hx hb dL_law_412 (lv_at hl 0 rfl) ?_
            refine lv_icmp_ne (tgt := 432) hx hb dL_law_414 (by decide) (fun c47 => absurd rfl c47) (fun _ => ?_)
            refine lv_iload hx hb dL_law_417 (lv_at hl 0 rfl) ?_
            refine lv_if_eq (tgt := 434) hx hb dL_law_419 (by decide) (fun c48 => ?_) (fun c48 => absurd rfl c48)
            refine lv_goto (tgt := 582) hx hb dL_law_434 (by decide) ?_
            exact j582 n ck st2 _ _ ls (by omega) u1 h (lv_sub hl [10, 11, 12, 13] rfl)
        · refine lv_icmp_ne (tgt := 437) hx hb dL_law_373 (by decide) (fun _ => ?_) (fun c49 => absurd c49 q1)
          exact j437 _ _ _ _ _ _ _ _ _ _ _ ls hI hT hH hsd h hl
      have j313 : ∀ (st : gSt) (tk ov va ht hd : Int32) (sd : Int64) (kd x : Int32) (H : Heap) (locs : List Loc) (ls : Array Slot), (LI n wc ck many st) → (Tf n st tk ov va) → (Hf st hd ht) → (sd = f_X6_digest st) → gH D L cy [] A st s H locs → lv_has ls 17 [(12, .int va), (11, .int ov), (10, .int tk), (9, .int ht), (8, .int hd), (6, .long sd), (5, .int kd), (4, .int x), (3, .int (nI k)), (2, .int (nI many)), (1, .ref (L 0)), (0, .ref b)] → W p l e room_1 s m #[Value.ref b] below meth c H locs (300 + k) (3000 + 24 * k) Q (F0 m 313 ls []) := by
        intro st tk ov va ht hd sd kd x H locs ls hI hT hH hsd h hl
        have hn3 : st 30 3 = nI n := hI.1.1.2.1.1
        have hn := hI.1.1.1.1
        have hn11 : st 30 11 = nI ck := hI.1.1.2.1.2.2
        refine lv_iload hx hb dL_law_313 (lv_at hl 6 rfl) ?_
        refine lv_iconst (v := 2) hx hb dL_law_315 (by decide) ?_
        by_cases q1 : kd = 2
        · refine lv_icmp_ne (tgt := 370) hx hb dL_law_316 (by decide) (fun c50 => absurd q1 c50) (fun _ => ?_)
          refine lv_iload hx hb dL_law_319 (lv_at hl 2 rfl) ?_
          rcases id hT with ⟨-, z⟩ | ⟨t, ht1, et, -⟩
          · refine lv_if_lt (tgt := 370) hx hb dL_law_321 (by decide) (fun c51 => ?_) (fun c51 => absurd (by rw [z]; decide) c51)
            exact j370 _ _ _ _ _ _ _ _ _ _ _ ls hI hT hH hsd h hl
          · subst et
            refine lv_if_lt (tgt := 370) hx hb dL_law_321 (by decide) (fun c52 => absurd c52 (nI_pos (by omega))) (fun c52 => ?_)
            refine lv_aload_n hx hb dL_law_324 rfl (lv_at hl 10 rfl) ?_
            refine lv_iload hx hb dL_law_325 (lv_at hl 2 rfl) ?_
            refine g_calli S h (c_X6_stateOf l D L cy _ A _ (h.2.2.2.2 _) _ (nI_pos (by omega)) (by rw [hn3]; exact nI_lt (by omega) (by omega))) (cwV 1 hts gL_law_X6_stateOf rfl rfl rfl (by decide +kernel) ⟨Nat.le_of_ble_eq_true rfl, Nat.le_of_ble_eq_true rfl⟩) (g_pre h gk_c0 (by decide) rfl rfl _) rfl hl.1 rfl (Nat.le_of_ble_eq_true rfl) dL_law_327 ⟨(by show _ ≤ 600130; omega), (by show _ ≤ 7301080; omega)⟩ (fun H locs h => ?_)
            refine lv_topi (fun x53 ex53 => ?_)
            have ex53 : x53 = (st (43 + t) 2) := ex53.trans (so_state (by omega))
            subst ex53
            refine lv_iconst (v := 4) hx hb dL_law_330 (by decide) ?_
            by_cases q8 : st (43 + t) 2 < 4
            · refine lv_icmp_ge (tgt := 370) hx hb dL_law_331 (by decide) (fun c54 => absurd c54 (Int32.not_le.mpr q8)) (fun c54 => ?_)
              refine lv_aload_n hx hb dL_law_334 rfl (lv_at hl 10 rfl) ?_
              refine lv_iload hx hb dL_law_335 (lv_at hl 2 rfl) ?_
              obtain ⟨cc, hcc, v1, v2, v3, v4⟩ := cancel_ok hI ht1 q8
              refine g_calli S h (c_X6_cancel l D L cy _ A _ (h.2.2.2.2 _) _ (nI_pos (by omega)) (by rw [hn3]; exact nI_lt (by omega) (by omega)) (by rw [tk_n (by omega), isO_eq, if_pos q8])) (cwV 1 hts gL_law_X6_cancel rfl rfl rfl (by decide +kernel) ⟨Nat.le_of_ble_eq_true rfl, Nat.le_of_ble_eq_true rfl⟩) (g_pre h gk_c0 (by decide) rfl rfl _) rfl hl.1 rfl (Nat.le_of_ble_eq_true rfl) dL_law_337 ⟨(by show _ ≤ 600130; omega), (by show _ ≤ 7301080; omega)⟩ (fun H locs h => ?_)
              obtain ⟨st2, hst2⟩ : ∃ st2, st2 = (f_X6_cancel st (nI t)).2 := ⟨_, rfl⟩
              rw [← hst2] at h v2 v3 v4
              have hn3 : st2 30 3 = nI n := v2.1.1.2.1.1
              refine lv_topi (fun x55 ex55 => ?_)
              have ex55 : x55 = (nI (cc + 1)) := ex55.trans v1
              subst ex55
              refine lv_iconst (v := 1) hx hb dL_law_340 (by decide) ?_
              refine lv_icmp_lt (tgt := 368) hx hb dL_law_341 (by decide) (fun c56 => absurd c56 (show ¬ nI (cc + 1) < nI 1 from nI_nlt (by omega) (by omega))) (fun c56 => ?_)
              refine lv_aload_n hx hb dL_law_344 rfl (lv_at hl 10 rfl) ?_
              refine lv_iload hx hb dL_law_345 (lv_at hl 2 rfl) ?_
              refine g_calli S h (c_X6_stateOf l D L cy _ A _ (h.2.2.2.2 _) _ (nI_pos (by omega)) (by rw [hn3]; exact nI_lt (by omega) (by omega))) (cwV 1 hts gL_law_X6_stateOf rfl rfl rfl (by decide +kernel) ⟨Nat.le_of_ble_eq_true rfl, Nat.le_of_ble_eq_true rfl⟩) (g_pre h gk_c0 (by decide) rfl rfl _) rfl hl.1 rfl (Nat.le_of_ble_eq_true rfl) dL_law_347 ⟨(by show _ ≤ 600130; omega), (by show _ ≤ 7301080; omega)⟩ (fun H locs h => ?_)
              refine lv_topi (fun x57 ex57 => ?_)
              have ex57 : x57 = 6 := ex57.trans ((so_state (by omega)).trans v3)
              subst ex57
              refine lv_bipush (v := 6) hx hb dL_law_350 (by decide) ?_
              refine lv_icmp_ne (tgt := 368) hx hb dL_law_352 (by decide) (fun c58 => absurd rfl c58) (fun _ => ?_)
              refine lv_aload_n hx hb dL_law_355 rfl (lv_at hl 10 rfl) ?_
              refine lv_iload hx hb dL_law_356 (lv_at hl 2 rfl) ?_
              refine g_calli S h (c_X6_overAt l D L cy _ A _ (h.2.2.2.2 _) _ (nI_pos (by omega)) (by rw [hn3]; exact nI_lt (by omega) (by omega))) (cwV 1 hts gL_law_X6_overAt rfl rfl rfl (by decide +kernel) ⟨Nat.le_of_ble_eq_true rfl, Nat.le_of_ble_eq_true rfl⟩) (g_pre h gk_c0 (by decide) rfl rfl _) rfl hl.1 rfl (Nat.le_of_ble_eq_true rfl) dL_law_358 ⟨(by show _ ≤ 600130; omega), (by show _ ≤ 7301080; omega)⟩ (fun H locs h => ?_)
              refine lv_topi (fun x59 ex59 => ?_)
              have ex59 : x59 = (nI ck) := ex59.trans ((so_over (by omega)).trans v4)
              subst ex59
              refine lv_aload_n hx hb dL_law_361 rfl (lv_at hl 10 rfl) ?_
              refine g_calli S h (c_X6_clock l D L cy _ A _ (h.2.2.2.2 _)) (cwV 0 hts gL_law_X6_clock rfl rfl rfl (by decide +kernel) ⟨Nat.le_of_ble_eq_true rfl, Nat.le_of_ble_eq_true rfl⟩) (g_pre h gk_c0 (by decide) rfl rfl _) rfl hl.1 rfl (Nat.le_of_ble_eq_true rfl) dL_law_362 ⟨(by show _ ≤ 600130; omega), (by show _ ≤ 7301080; omega)⟩ (fun H locs h => ?_)
              refine lv_topi (fun x60 ex60 => ?_)
              have ex60 : x60 = (nI ck) := ex60.trans v2.1.1.2.1.2.2
              subst ex60
              refine lv_icmp_eq (tgt := 582) hx hb dL_law_365 (by decide) (fun c61 => ?_) (fun c61 => absurd rfl c61)
              exact j582 n ck st2 _ _ ls (by omega) v2 h (lv_sub hl [8, 9, 10, 11] rfl)
            · refine lv_icmp_ge (tgt := 370) hx hb dL_law_331 (by decide) (fun c62 => ?_) (fun c62 => absurd (Int32.not_lt.mp q8) c62)
              exact j370 _ _ _ _ _ _ _ _ _ _ _ ls hI hT hH hsd h hl
        · refine lv_icmp_ne (tgt := 370) hx hb dL_law_316 (by decide) (fun _ => ?_) (fun c63 => absurd c63 q1)
          exact j370 _ _ _ _ _ _ _ _ _ _ _ ls hI hT hH hsd h hl
      have j275 : ∀ (st : gSt) (tk ov va ht hd : Int32) (sd : Int64) (kd x : Int32) (H : Heap) (locs : List Loc) (ls : Array Slot), (LI n wc ck many st) → (Tf n st tk ov va) → (Hf st hd ht) → (sd = f_X6_digest st) → gH D L cy [] A st s H locs → lv_has ls 17 [(12, .int va), (11, .int ov), (10, .int tk), (9, .int ht), (8, .int hd), (6, .long sd), (5, .int kd), (4, .int x), (3, .int (nI k)), (2, .int (nI many)), (1, .ref (L 0)), (0, .ref b)] → W p l e room_1 s m #[Value.ref b] below meth c H locs (300 + k) (3000 + 24 * k) Q (F0 m 275 ls []) := by
        intro st tk ov va ht hd sd kd x H locs ls hI hT hH hsd h hl
        have hn3 : st 30 3 = nI n := hI.1.1.2.1.1
        have hn := hI.1.1.1.1
        have hn11 : st 30 11 = nI ck := hI.1.1.2.1.2.2
        refine lv_iload hx hb dL_law_275 (lv_at hl 6 rfl) ?_
        refine lv_iconst (v := 2) hx hb dL_law_277 (by decide) ?_
        by_cases q1 : 2 ≤ kd
        · refine lv_icmp_ge (tgt := 313) hx hb dL_law_278 (by decide) (fun c64 => ?_) (fun c64 => absurd q1 c64)
          exact j313 _ _ _ _ _ _ _ _ _ _ _ ls hI hT hH hsd h hl
        · refine lv_icmp_ge (tgt := 313) hx hb dL_law_278 (by decide) (fun c65 => absurd c65 q1) (fun c65 => ?_)
          refine lv_aload_n hx hb dL_law_281 rfl (lv_at hl 10 rfl) ?_
          refine g_calli S h (c_X6_tasks l D L cy _ A _ (h.2.2.2.2 _)) (cwV 0 hts gL_law_X6_tasks rfl rfl rfl (by decide +kernel) ⟨Nat.le_of_ble_eq_true rfl, Nat.le_of_ble_eq_true rfl⟩) (g_pre h gk_c0 (by decide) rfl rfl _) rfl hl.1 rfl (Nat.le_of_ble_eq_true rfl) dL_law_282 ⟨(by show _ ≤ 600130; omega), (by show _ ≤ 7301080; omega)⟩ (fun H locs h => ?_)
          refine lv_topi (fun x66 ex66 => ?_)
          have ex66 : x66 = (nI n) := ex66.trans hn3
          subst ex66
          refine lv_bipush (v := 24) hx hb dL_law_285 (by decide) ?_
          rcases Nat.lt_or_ge n 24 with q9 | q9
          · refine lv_icmp_ge (tgt := 313) hx hb dL_law_287 (by decide) (fun c67 => absurd c67 (le24 q9)) (fun c67 => ?_)
            refine lv_aload_n hx hb dL_law_290 rfl (lv_at hl 10 rfl) ?_
            refine lv_iload hx hb dL_law_291 (lv_at hl 7 rfl) ?_
            refine lv_iconst (v := 4) hx hb dL_law_293 (by decide) ?_
            refine lv_ishr hx hb dL_law_294 ?_
            refine lv_iload_n hx hb dL_law_295 rfl (lv_at hl 9 rfl) ?_
            refine s_calliS S h hA hX (c_L_below l D L cy _ A _ (h.2.2.2.2 _) b Lb xs (x >>> (4 &&& 31)) (nI many) (nI_ne0 hm1 (by omega))) (va_cwS 2 hts gL_law_L_below rfl rfl rfl (by decide +kernel) ⟨Nat.le_of_ble_eq_true rfl, Nat.le_of_ble_eq_true rfl⟩) rfl hl.1 rfl (Nat.le_of_ble_eq_true rfl) dL_law_296 ⟨(by show _ ≤ 600130; omega), (by show _ ≤ 7301080; omega)⟩ (fun H locs h => ?_)
            obtain ⟨r, hr2, er⟩ := below_ok (x >>> (4 &&& 31)) (N := many) (by omega) (by omega)
            refine lv_topi (fun x68 ex68 => ?_)
            have ex68 : x68 = (nI r) := ex68.trans er
            subst ex68
            obtain ⟨v1, v2⟩ := submit_ok hI q9 (nI r)
            refine g_calli S h (c_X6_submit l D L cy _ A _ (h.2.2.2.2 _) _ (isJob_n hI.2.2.2.1.1 hm8 hr2) (by rw [hn3]; exact nI_lt (b := 24) q9 (by omega))) (cwV 1 hts gL_law_X6_submit rfl rfl rfl (by decide +kernel) ⟨Nat.le_of_ble_eq_true rfl, Nat.le_of_ble_eq_true rfl⟩) (g_pre h gk_c0 (by decide) rfl rfl _) rfl hl.1 rfl (Nat.le_of_ble_eq_true rfl) dL_law_299 ⟨(by show _ ≤ 600130; omega), (by show _ ≤ 7301080; omega)⟩ (fun H locs h => ?_)
            obtain ⟨st2, hst2⟩ : ∃ st2, st2 = (f_X6_submit st (nI r)).2 := ⟨_, rfl⟩
            rw [← hst2] at h v2
            refine lv_topi (fun x69 ex69 => ?_)
            have ex69 : x69 = (nI n) := ex69.trans v1
            subst ex69
            refine lv_aload_n hx hb dL_law_302 rfl (lv_at hl 10 rfl) ?_
            refine g_calli S h (c_X6_tasks l D L cy _ A _ (h.2.2.2.2 _)) (cwV 0 hts gL_law_X6_tasks rfl rfl rfl (by decide +kernel) ⟨Nat.le_of_ble_eq_true rfl, Nat.le_of_ble_eq_true rfl⟩) (g_pre h gk_c0 (by decide) rfl rfl _) rfl hl.1 rfl (Nat.le_of_ble_eq_true rfl) dL_law_303 ⟨(by show _ ≤ 600130; omega), (by show _ ≤ 7301080; omega)⟩ (fun H locs h => ?_)
            refine lv_topi (fun x70 ex70 => ?_)
            have ex70 : x70 = (nI (n + 1)) := ex70.trans v2.1.1.2.1.1
            subst ex70
            refine lv_iconst (v := 1) hx hb dL_law_306 (by decide) ?_
            refine lv_isub hx hb dL_law_307 ?_
            refine lv_topi (fun x71 ex71 => ?_)
            have ex71 : x71 = (nI n) := ex71.trans (nI_m1 n)
            subst ex71
            refine lv_icmp_eq (tgt := 582) hx hb dL_law_308 (by decide) (fun c72 => ?_) (fun c72 => absurd rfl c72)
            exact j582 (n + 1) ck st2 _ _ ls (by omega) v2 h (lv_sub hl [8, 9, 10, 11] rfl)
          · refine lv_icmp_ge (tgt := 313) hx hb dL_law_287 (by decide) (fun c73 => ?_) (fun c73 => absurd (show (24 : Int32) ≤ nI n from nI_le (a := 24) q9 (by omega)) c73)
            exact j313 _ _ _ _ _ _ _ _ _ _ _ ls hI hT hH hsd h hl
      have j263 : ∀ (st : gSt) (tk ov va ht hd : Int32) (sd : Int64) (kd x : Int32) (H : Heap) (locs : List Loc) (ls : Array Slot), (LI n wc ck many st) → (Tf n st tk ov va) → (Hf st hd ht) → (sd = f_X6_digest st) → gH D L cy [] A st s H locs → lv_has ls 17 [(12, .int va), (11, .int ov), (10, .int tk), (9, .int ht), (8, .int hd), (6, .long sd), (5, .int kd), (4, .int x), (3, .int (nI k)), (2, .int (nI many)), (1, .ref (L 0)), (0, .ref b)] → W p l e room_1 s m #[Value.ref b] below meth c H locs (300 + k) (3000 + 24 * k) Q (F0 m 263 ls []) := by
        intro st tk ov va ht hd sd kd x H locs ls hI hT hH hsd h hl
        refine lv_aload_n hx hb dL_law_263 rfl (lv_at hl 10 rfl) ?_
        refine g_calll S h (c_X6_digest l D L cy _ A _ (h.2.2.2.2 _)) (cwV 0 hts gL_law_X6_digest rfl rfl rfl (by decide +kernel) ⟨Nat.le_of_ble_eq_true rfl, Nat.le_of_ble_eq_true rfl⟩) (g_pre h gk_c0 (by decide) rfl rfl _) rfl hl.1 rfl (Nat.le_of_ble_eq_true rfl) dL_law_264 ⟨(by show _ ≤ 600130; omega), (by show _ ≤ 7301080; omega)⟩ (fun H locs h => ?_)
        rw [← hsd]
        refine lv_lload hx hb dL_law_267 (lv_at hl 5 rfl) ?_
        refine l_lcmp hx hb dL_law_269 ?_
        refine lv_if_eq (tgt := 275) hx hb dL_law_270 (by decide) (fun c74 => ?_) (fun c74 => absurd rfl c74)
        exact j275 _ _ _ _ _ _ _ _ _ _ _ ls hI hT hH hsd h hl
      have j230 : ∀ (st : gSt) (tk ov va ht hd : Int32) (sd : Int64) (kd x : Int32) (H : Heap) (locs : List Loc) (ls : Array Slot), (LI n wc ck many st) → (Tf n st tk ov va) → (Hf st hd ht) → (sd = f_X6_digest st) → gH D L cy [] A st s H locs → lv_has ls 17 [(12, .int va), (11, .int ov), (10, .int tk), (9, .int ht), (8, .int hd), (6, .long sd), (5, .int kd), (4, .int x), (3, .int (nI k)), (2, .int (nI many)), (1, .ref (L 0)), (0, .ref b)] → W p l e room_1 s m #[Value.ref b] below meth c H locs (300 + k) (3000 + 24 * k) Q (F0 m 230 ls []) := by
        intro st tk ov va ht hd sd kd x H locs ls hI hT hH hsd h hl
        have hn3 : st 30 3 = nI n := hI.1.1.2.1.1
        have hn := hI.1.1.1.1
        have hn11 : st 30 11 = nI ck := hI.1.1.2.1.2.2
        refine lv_iload hx hb dL_law_230 (lv_at hl 2 rfl) ?_
        rcases id hT with ⟨-, z⟩ | ⟨t, ht1, et, e0, -⟩
        · refine lv_if_lt (tgt := 263) hx hb dL_law_232 (by decide) (fun c75 => ?_) (fun c75 => absurd (by rw [z]; decide) c75)
          exact j263 _ _ _ _ _ _ _ _ _ _ _ ls hI hT hH hsd h hl
        · subst et
          refine lv_if_lt (tgt := 263) hx hb dL_law_232 (by decide) (fun c76 => absurd c76 (nI_pos (by omega))) (fun c76 => ?_)
          refine lv_aload_n hx hb dL_law_235 rfl (lv_at hl 10 rfl) ?_
          refine lv_iload hx hb dL_law_236 (lv_at hl 2 rfl) ?_
          refine g_calli S h (c_X6_stateOf l D L cy _ A _ (h.2.2.2.2 _) _ (nI_pos (by omega)) (by rw [hn3]; exact nI_lt (by omega) (by omega))) (cwV 1 hts gL_law_X6_stateOf rfl rfl rfl (by decide +kernel) ⟨Nat.le_of_ble_eq_true rfl, Nat.le_of_ble_eq_true rfl⟩) (g_pre h gk_c0 (by decide) rfl rfl _) rfl hl.1 rfl (Nat.le_of_ble_eq_true rfl) dL_law_238 ⟨(by show _ ≤ 600130; omega), (by show _ ≤ 7301080; omega)⟩ (fun H locs h => ?_)
          refine lv_topi (fun x77 ex77 => ?_)
          have ex77 : x77 = (st (43 + t) 2) := ex77.trans (so_state (by omega))
          subst ex77
          refine lv_iconst (v := 4) hx hb dL_law_241 (by decide) ?_
          by_cases q8 : st (43 + t) 2 < 4
          · refine lv_icmp_lt (tgt := 249) hx hb dL_law_242 (by decide) (fun c78 => ?_) (fun c78 => absurd q8 c78)
            refine lv_iconst (v := 0) hx hb dL_law_249 (by decide) ?_
            refine lv_iload hx hb dL_law_250 (lv_at hl 1 rfl) ?_
            refine lv_if_ne (tgt := 259) hx hb dL_law_252 (by decide) (fun _ => ?_) (fun c79 => absurd c79 (fun q => e0.mp q q8))
            refine lv_iconst (v := 0) hx hb dL_law_259 (by decide) ?_
            refine lv_icmp_ne (tgt := 273) hx hb dL_law_260 (by decide) (fun c80 => absurd rfl c80) (fun _ => ?_)
            exact j263 _ _ _ _ _ _ _ _ _ _ _ ls hI hT hH hsd h hl
          · refine lv_icmp_lt (tgt := 249) hx hb dL_law_242 (by decide) (fun c81 => absurd c81 q8) (fun c81 => ?_)
            refine lv_iconst (v := 1) hx hb dL_law_245 (by decide) ?_
            refine lv_goto (tgt := 250) hx hb dL_law_246 (by decide) ?_
            refine lv_iload hx hb dL_law_250 (lv_at hl 1 rfl) ?_
            refine lv_if_ne (tgt := 259) hx hb dL_law_252 (by decide) (fun c82 => absurd (e0.mpr q8) c82) (fun _ => ?_)
            refine lv_iconst (v := 1) hx hb dL_law_255 (by decide) ?_
            refine lv_goto (tgt := 260) hx hb dL_law_256 (by decide) ?_
            refine lv_icmp_ne (tgt := 273) hx hb dL_law_260 (by decide) (fun c83 => absurd rfl c83) (fun _ => ?_)
            exact j263 _ _ _ _ _ _ _ _ _ _ _ ls hI hT hH hsd h hl
      have j170 : ∀ (st : gSt) (ht hd : Int32) (sd : Int64) (kd x : Int32) (H : Heap) (locs : List Loc) (ls : Array Slot), (LI n wc ck many st) → (Hf st hd ht) → (sd = f_X6_digest st) → gH D L cy [] A st s H locs → lv_has ls 17 [(9, .int ht), (8, .int hd), (6, .long sd), (5, .int kd), (4, .int x), (3, .int (nI k)), (2, .int (nI many)), (1, .ref (L 0)), (0, .ref b)] → W p l e room_1 s m #[Value.ref b] below meth c H locs (300 + k) (3000 + 24 * k) Q (F0 m 170 ls []) := by
        intro st ht hd sd kd x H locs ls hI hH hsd h hl
        have hn3 : st 30 3 = nI n := hI.1.1.2.1.1
        have hn := hI.1.1.1.1
        have hn11 : st 30 11 = nI ck := hI.1.1.2.1.2.2
        refine lv_aload_n hx hb dL_law_170 rfl (lv_at hl 7 rfl) ?_
        refine g_calli S h (c_X6_tasks l D L cy _ A _ (h.2.2.2.2 _)) (cwV 0 hts gL_law_X6_tasks rfl rfl rfl (by decide +kernel) ⟨Nat.le_of_ble_eq_true rfl, Nat.le_of_ble_eq_true rfl⟩) (g_pre h gk_c0 (by decide) rfl rfl _) rfl hl.1 rfl (Nat.le_of_ble_eq_true rfl) dL_law_171 ⟨(by show _ ≤ 600130; omega), (by show _ ≤ 7301080; omega)⟩ (fun H locs h => ?_)
        refine lv_topi (fun x84 ex84 => ?_)
        have ex84 : x84 = (nI n) := ex84.trans hn3
        subst ex84
        rcases Nat.eq_zero_or_pos n with q1 | q1
        · refine lv_if_le (tgt := 191) hx hb dL_law_174 (by decide) (fun c85 => ?_) (fun c85 => absurd (by rw [q1]; decide) c85)
          refine lv_iconst (v := (-1)) hx hb dL_law_191 (by decide) ?_
          refine lv_istore (lv' := [(10, .int (-1)), (9, .int ht), (8, .int hd), (6, .long sd), (5, .int kd), (4, .int x), (3, .int (nI k)), (2, .int (nI many)), (1, .ref (L 0)), (0, .ref b)]) hx hb dL_law_192 hl (by decide) rfl (fun ls hl => ?_)
          refine lv_iload hx hb dL_law_194 (lv_at hl 0 rfl) ?_
          refine lv_if_ge (tgt := 203) hx hb dL_law_196 (by decide) (fun c86 => absurd c86 (by decide)) (fun c86 => ?_)
          refine lv_iconst (v := (-1)) hx hb dL_law_199 (by decide) ?_
          refine lv_goto (tgt := 210) hx hb dL_law_200 (by decide) ?_
          refine lv_istore (lv' := [(11, .int (-1)), (10, .int (-1)), (9, .int ht), (8, .int hd), (6, .long sd), (5, .int kd), (4, .int x), (3, .int (nI k)), (2, .int (nI many)), (1, .ref (L 0)), (0, .ref b)]) hx hb dL_law_210 hl (by decide) rfl (fun ls hl => ?_)
          refine lv_iload hx hb dL_law_212 (lv_at hl 1 rfl) ?_
          refine lv_if_ge (tgt := 221) hx hb dL_law_214 (by decide) (fun c87 => absurd c87 (by decide)) (fun c87 => ?_)
          refine lv_iconst (v := 0) hx hb dL_law_217 (by decide) ?_
          refine lv_goto (tgt := 228) hx hb dL_law_218 (by decide) ?_
          refine lv_istore (lv' := [(12, .int 0), (11, .int (-1)), (10, .int (-1)), (9, .int ht), (8, .int hd), (6, .long sd), (5, .int kd), (4, .int x), (3, .int (nI k)), (2, .int (nI many)), (1, .ref (L 0)), (0, .ref b)]) hx hb dL_law_228 hl (by decide) rfl (fun ls hl => ?_)
          exact j230 _ _ _ _ _ _ _ _ _ _ _ ls hI (Or.inl ⟨q1, rfl⟩) hH hsd h hl
        · refine lv_if_le (tgt := 191) hx hb dL_law_174 (by decide) (fun c88 => absurd c88 (show ¬ nI n ≤ nI 0 from nI_ge (by omega) (by omega))) (fun c88 => ?_)
          refine lv_iload hx hb dL_law_177 (lv_at hl 4 rfl) ?_
          refine lv_iconst (v := 3) hx hb dL_law_179 (by decide) ?_
          refine lv_ishr hx hb dL_law_180 ?_
          refine lv_aload_n hx hb dL_law_181 rfl (lv_at hl 7 rfl) ?_
          refine g_calli S h (c_X6_tasks l D L cy _ A _ (h.2.2.2.2 _)) (cwV 0 hts gL_law_X6_tasks rfl rfl rfl (by decide +kernel) ⟨Nat.le_of_ble_eq_true rfl, Nat.le_of_ble_eq_true rfl⟩) (g_pre h gk_c0 (by decide) rfl rfl _) rfl hl.1 rfl (Nat.le_of_ble_eq_true rfl) dL_law_182 ⟨(by show _ ≤ 600130; omega), (by show _ ≤ 7301080; omega)⟩ (fun H locs h => ?_)
          refine lv_topi (fun x89 ex89 => ?_)
          have ex89 : x89 = (nI n) := ex89.trans hn3
          subst ex89
          refine s_calliS S h hA hX (c_L_below l D L cy _ A _ (h.2.2.2.2 _) b Lb xs (x >>> (3 &&& 31)) (nI n) (nI_ne0 q1 (by omega))) (va_cwS 2 hts gL_law_L_below rfl rfl rfl (by decide +kernel) ⟨Nat.le_of_ble_eq_true rfl, Nat.le_of_ble_eq_true rfl⟩) rfl hl.1 rfl (Nat.le_of_ble_eq_true rfl) dL_law_185 ⟨(by show _ ≤ 600130; omega), (by show _ ≤ 7301080; omega)⟩ (fun H locs h => ?_)
          obtain ⟨t, ht1, et⟩ := below_ok (x >>> (3 &&& 31)) (N := n) (by omega) (by omega)
          refine lv_topi (fun x90 ex90 => ?_)
          have ex90 : x90 = (nI t) := ex90.trans et
          subst ex90
          refine lv_goto (tgt := 192) hx hb dL_law_188 (by decide) ?_
          refine lv_istore (lv' := [(10, .int (nI t)), (9, .int ht), (8, .int hd), (6, .long sd), (5, .int kd), (4, .int x), (3, .int (nI k)), (2, .int (nI many)), (1, .ref (L 0)), (0, .ref b)]) hx hb dL_law_192 hl (by decide) rfl (fun ls hl => ?_)
          refine lv_iload hx hb dL_law_194 (lv_at hl 0 rfl) ?_
          refine lv_if_ge (tgt := 203) hx hb dL_law_196 (by decide) (fun c91 => ?_) (fun c91 => absurd (nI_pos' (by omega)) c91)
          refine lv_aload_n hx hb dL_law_203 rfl (lv_at hl 8 rfl) ?_
          refine lv_iload hx hb dL_law_204 (lv_at hl 0 rfl) ?_
          refine lv_iconst (v := 2) hx hb dL_law_206 (by decide) ?_
          obtain ⟨hI1, hI2, ha, hT⟩ := ov_va hI ht1
          refine g_calli S h (c_X6_overIn l D L cy _ A _ (h.2.2.2.2 _) _ _ (nI_pos (by omega)) (by rw [hn3]; exact nI_lt (by omega) (by omega)) (by decide) (by decide)) (cwV 2 hts gL_law_X6_overIn rfl rfl rfl (by decide +kernel) ⟨Nat.le_of_ble_eq_true rfl, Nat.le_of_ble_eq_true rfl⟩) (g_pre h gk_c0 (by decide) rfl rfl _) rfl hl.1 rfl (Nat.le_of_ble_eq_true rfl) dL_law_207 ⟨(by show _ ≤ 600130; omega), (by show _ ≤ 7301080; omega)⟩ (fun H locs h => ?_)
          obtain ⟨st1, hst1⟩ : ∃ st1, st1 = (f_X6_overIn st (nI t) 2).2 := ⟨_, rfl⟩
          obtain ⟨ov, hov⟩ : ∃ ov, ov = (f_X6_overIn st (nI t) 2).1 := ⟨_, rfl⟩
          rw [← hst1] at h hI1 hI2 ha hT
          rw [← hov] at hT ⊢
          have hn3 : st1 30 3 = nI n := hI1.1.1.2.1.1
          refine lv_istore (lv' := [(11, .int ov), (10, .int (nI t)), (9, .int ht), (8, .int hd), (6, .long sd), (5, .int kd), (4, .int x), (3, .int (nI k)), (2, .int (nI many)), (1, .ref (L 0)), (0, .ref b)]) hx hb dL_law_210 hl (by decide) rfl (fun ls hl => ?_)
          refine lv_iload hx hb dL_law_212 (lv_at hl 1 rfl) ?_
          refine lv_if_ge (tgt := 221) hx hb dL_law_214 (by decide) (fun c92 => ?_) (fun c92 => absurd (nI_pos' (by omega)) c92)
          refine lv_aload_n hx hb dL_law_221 rfl (lv_at hl 9 rfl) ?_
          refine lv_iload hx hb dL_law_222 (lv_at hl 1 rfl) ?_
          refine lv_iconst (v := 2) hx hb dL_law_224 (by decide) ?_
          refine g_calli S h (c_X6_valueIn l D L cy _ A _ (h.2.2.2.2 _) _ _ (nI_pos (by omega)) (by rw [hn3]; exact nI_lt (by omega) (by omega)) (by decide) (by decide)) (cwV 2 hts gL_law_X6_valueIn rfl rfl rfl (by decide +kernel) ⟨Nat.le_of_ble_eq_true rfl, Nat.le_of_ble_eq_true rfl⟩) (g_pre h gk_c0 (by decide) rfl rfl _) rfl hl.1 rfl (Nat.le_of_ble_eq_true rfl) dL_law_225 ⟨(by show _ ≤ 600130; omega), (by show _ ≤ 7301080; omega)⟩ (fun H locs h => ?_)
          obtain ⟨st2, hst2⟩ : ∃ st2, st2 = (f_X6_valueIn st1 (nI t) 2).2 := ⟨_, rfl⟩
          obtain ⟨va, hva⟩ : ∃ va, va = (f_X6_valueIn st1 (nI t) 2).1 := ⟨_, rfl⟩
          rw [← hst2] at h hI2 ha hT
          rw [← hva] at hT ⊢
          refine lv_istore (lv' := [(12, .int va), (11, .int ov), (10, .int (nI t)), (9, .int ht), (8, .int hd), (6, .long sd), (5, .int kd), (4, .int x), (3, .int (nI k)), (2, .int (nI many)), (1, .ref (L 0)), (0, .ref b)]) hx hb dL_law_228 hl (by decide) rfl (fun ls hl => ?_)
          exact j230 _ _ _ _ _ _ _ _ _ _ _ ls hI2 hT (Hf_As hH ha) (hsd.trans (digest_same ha.1).symm) h hl
      refine lv_aload_n hx hb dL_law_78 rfl (lv_at hl 3 rfl) ?_
      refine lv_iload_n hx hb dL_law_79 rfl (lv_at hl 0 rfl) ?_
      refine lv_bipush (v := 16) hx hb dL_law_80 (by decide) ?_
      refine lv_irem hx hb dL_law_82 (by decide) ?_
      refine lv_topi (fun x93 ex93 => ?_)
      have ex93 : x93 = (nI (k % 16)) := ex93.trans (mod16 k hlt)
      subst ex93
      refine s_calliS S h hA hX (c_L_cell l D L cy _ A _ (h.2.2.2.2 _) b Lb xs (k % 16) (by omega) hLb) (va_cwS 2 hts gL_law_L_cell rfl rfl rfl (by decide +kernel) ⟨Nat.le_of_ble_eq_true rfl, Nat.le_of_ble_eq_true rfl⟩) rfl hl.1 rfl (Nat.le_of_ble_eq_true rfl) dL_law_83 ⟨(by show _ ≤ 600130; omega), (by show _ ≤ 7301080; omega)⟩ (fun H locs h => ?_)
      refine lv_iload_n hx hb dL_law_86 rfl (lv_at hl 0 rfl) ?_
      refine lv_bipush (v := 16) hx hb dL_law_87 (by decide) ?_
      refine lv_idiv hx hb dL_law_89 (by decide) ?_
      refine lv_iconst (v := 5) hx hb dL_law_90 (by decide) ?_
      refine lv_imul hx hb dL_law_91 ?_
      refine lv_ishr hx hb dL_law_92 ?_
      refine lv_iconst (v := 3) hx hb dL_law_93 (by decide) ?_
      refine lv_iload_n hx hb dL_law_94 rfl (lv_at hl 0 rfl) ?_
      refine lv_imul hx hb dL_law_95 ?_
      refine lv_iadd hx hb dL_law_96 ?_
      refine lv_topi (fun x ex => ?_)
      refine lv_istore (lv' := [(4, .int x), (3, .int (nI k)), (2, .int (nI many)), (1, .ref (L 0)), (0, .ref b)]) hx hb dL_law_97 hl (by decide) rfl (fun ls hl => ?_)
      refine lv_iload hx hb dL_law_99 (lv_at hl 0 rfl) ?_
      refine lv_bipush (v := 7) hx hb dL_law_101 (by decide) ?_
      refine s_calliS S h hA hX (c_L_below l D L cy _ A _ (h.2.2.2.2 _) b Lb xs x 7 (by decide)) (va_cwS 2 hts gL_law_L_below rfl rfl rfl (by decide +kernel) ⟨Nat.le_of_ble_eq_true rfl, Nat.le_of_ble_eq_true rfl⟩) rfl hl.1 rfl (Nat.le_of_ble_eq_true rfl) dL_law_103 ⟨(by show _ ≤ 600130; omega), (by show _ ≤ 7301080; omega)⟩ (fun H locs h => ?_)
      refine lv_topi (fun kd ekd => ?_)
      refine lv_istore (lv' := [(5, .int kd), (4, .int x), (3, .int (nI k)), (2, .int (nI many)), (1, .ref (L 0)), (0, .ref b)]) hx hb dL_law_106 hl (by decide) rfl (fun ls hl => ?_)
      refine lv_aload_n hx hb dL_law_108 rfl (lv_at hl 4 rfl) ?_
      refine g_calll S h (c_X6_digest l D L cy _ A _ (h.2.2.2.2 _)) (cwV 0 hts gL_law_X6_digest rfl rfl rfl (by decide +kernel) ⟨Nat.le_of_ble_eq_true rfl, Nat.le_of_ble_eq_true rfl⟩) (g_pre h gk_c0 (by decide) rfl rfl _) rfl hl.1 rfl (Nat.le_of_ble_eq_true rfl) dL_law_109 ⟨(by show _ ≤ 600130; omega), (by show _ ≤ 7301080; omega)⟩ (fun H locs h => ?_)
      refine lv_topl (fun sd esd => ?_)
      refine lv_lstore (lv' := [(6, .long sd), (5, .int kd), (4, .int x), (3, .int (nI k)), (2, .int (nI many)), (1, .ref (L 0)), (0, .ref b)]) hx hb dL_law_112 hl (by decide) rfl (fun ls hl => ?_)
      refine lv_aload_n hx hb dL_law_114 rfl (lv_at hl 5 rfl) ?_
      refine g_calli S h (c_X6_halted l D L cy _ A _ (h.2.2.2.2 _)) (cwV 0 hts gL_law_X6_halted rfl rfl rfl (by decide +kernel) ⟨Nat.le_of_ble_eq_true rfl, Nat.le_of_ble_eq_true rfl⟩) (g_pre h gk_c0 (by decide) rfl rfl _) rfl hl.1 rfl (Nat.le_of_ble_eq_true rfl) dL_law_115 ⟨(by show _ ≤ 600130; omega), (by show _ ≤ 7301080; omega)⟩ (fun H locs h => ?_)
      refine lv_topi (fun hd ehd => ?_)
      refine lv_istore (lv' := [(8, .int hd), (6, .long sd), (5, .int kd), (4, .int x), (3, .int (nI k)), (2, .int (nI many)), (1, .ref (L 0)), (0, .ref b)]) hx hb dL_law_118 hl (by decide) rfl (fun ls hl => ?_)
      refine lv_aload_n hx hb dL_law_120 rfl (lv_at hl 6 rfl) ?_
      refine lv_iconst (v := 3) hx hb dL_law_121 (by decide) ?_
      refine g_calli S h (c_X6_haltsIn l D L cy _ A _ (h.2.2.2.2 _) _ (by decide) (by decide)) (cwV 1 hts gL_law_X6_haltsIn rfl rfl rfl (by decide +kernel) ⟨Nat.le_of_ble_eq_true rfl, Nat.le_of_ble_eq_true rfl⟩) (g_pre h gk_c0 (by decide) rfl rfl _) rfl hl.1 rfl (Nat.le_of_ble_eq_true rfl) dL_law_122 ⟨(by show _ ≤ 600130; omega), (by show _ ≤ 7301080; omega)⟩ (fun H locs h => ?_)
      obtain ⟨y1, y2, y3⟩ := haltsIn_ok hI
      have hI2 := LI_As hI y1
      obtain ⟨st2, hst2⟩ : ∃ st2, st2 = (f_X6_haltsIn st 3).2 := ⟨_, rfl⟩
      obtain ⟨ht, hht⟩ : ∃ ht, ht = (f_X6_haltsIn st 3).1 := ⟨_, rfl⟩
      rw [← hst2] at h y1 hI2
      rw [← hht] at y2 y3 ⊢
      have hH : Hf st2 hd ht := Hf_As ⟨ehd, y2, y3⟩ y1
      have hsd : sd = f_X6_digest st2 := esd.trans (digest_same y1.1).symm
      refine lv_istore (lv' := [(9, .int ht), (8, .int hd), (6, .long sd), (5, .int kd), (4, .int x), (3, .int (nI k)), (2, .int (nI many)), (1, .ref (L 0)), (0, .ref b)]) hx hb dL_law_125 hl (by decide) rfl (fun ls hl => ?_)
      refine lv_iload hx hb dL_law_127 (lv_at hl 1 rfl) ?_
      by_cases hh : f_X1_isHalted st2 30 = 0
      · obtain ⟨z1, z2⟩ := Hf_n hH hh
        refine lv_if_le (tgt := 136) hx hb dL_law_129 (by decide) (fun c94 => ?_) (fun c94 => absurd (by rw [z1]; decide) c94)
        refine lv_iconst (v := 0) hx hb dL_law_136 (by decide) ?_
        refine lv_iload hx hb dL_law_137 (lv_at hl 0 rfl) ?_
        refine lv_if_ne (tgt := 146) hx hb dL_law_139 (by decide) (fun _ => ?_) (fun c95 => absurd c95 z2)
        refine lv_iconst (v := 0) hx hb dL_law_146 (by decide) ?_
        refine lv_icmp_ne (tgt := 168) hx hb dL_law_147 (by decide) (fun c96 => absurd rfl c96) (fun _ => ?_)
        refine lv_iload hx hb dL_law_150 (lv_at hl 1 rfl) ?_
        refine lv_bipush (v := 7) hx hb dL_law_152 (by decide) ?_
        refine lv_icmp_gt (tgt := 168) hx hb dL_law_154 (by decide) (fun c97 => absurd c97 (by rw [z1]; decide)) (fun c97 => ?_)
        refine lv_iload hx hb dL_law_157 (lv_at hl 1 rfl) ?_
        refine lv_if_le (tgt := 170) hx hb dL_law_159 (by decide) (fun c98 => ?_) (fun c98 => absurd (by rw [z1]; decide) c98)
        exact j170 _ _ _ _ _ _ _ _ ls hI2 hH hsd h hl
      · obtain ⟨z1, z2, z3, z4⟩ := Hf_y hH hh
        refine lv_if_le (tgt := 136) hx hb dL_law_129 (by decide) (fun c99 => absurd c99 z1) (fun c99 => ?_)
        refine lv_iconst (v := 1) hx hb dL_law_132 (by decide) ?_
        refine lv_goto (tgt := 137) hx hb dL_law_133 (by decide) ?_
        refine lv_iload hx hb dL_law_137 (lv_at hl 0 rfl) ?_
        refine lv_if_ne (tgt := 146) hx hb dL_law_139 (by decide) (fun c100 => absurd z4 c100) (fun _ => ?_)
        refine lv_iconst (v := 1) hx hb dL_law_142 (by decide) ?_
        refine lv_goto (tgt := 147) hx hb dL_law_143 (by decide) ?_
        refine lv_icmp_ne (tgt := 168) hx hb dL_law_147 (by decide) (fun c101 => absurd rfl c101) (fun _ => ?_)
        refine lv_iload hx hb dL_law_150 (lv_at hl 1 rfl) ?_
        refine lv_bipush (v := 7) hx hb dL_law_152 (by decide) ?_
        refine lv_icmp_gt (tgt := 168) hx hb dL_law_154 (by decide) (fun c102 => absurd c102 z2) (fun c102 => ?_)
        refine lv_iload hx hb dL_law_157 (lv_at hl 1 rfl) ?_
        refine lv_if_le (tgt := 170) hx hb dL_law_159 (by decide) (fun c103 => absurd c103 z1) (fun c103 => ?_)
        refine lv_iload hx hb dL_law_162 (lv_at hl 1 rfl) ?_
        refine lv_iconst (v := 4) hx hb dL_law_164 (by decide) ?_
        refine lv_icmp_ge (tgt := 170) hx hb dL_law_165 (by decide) (fun c104 => ?_) (fun c104 => absurd z3 c104)
        exact j170 _ _ _ _ _ _ _ _ ls hI2 hH hsd h hl
    · refine lv_icmp_ge (tgt := 597) hx hb dL_law_75 (by decide) (fun c105 => ?_) (fun c105 => absurd (show (34 : Int32) ≤ nI k from nI_le (a := 34) hge (by omega)) c105)
      exact W.widen (k := 1000) (n := 10000) (by omega) (by omega) (hE st _ _ _ h)
end LL
