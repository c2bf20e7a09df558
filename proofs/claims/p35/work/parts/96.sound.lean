/-! isSound: it answers 1 where J and Tt hold. -/
set_option maxHeartbeats 16000000 in
set_option maxRecDepth 100000 in
theorem c_L_isSound (l : Launch) (D : va_G) (L : Nat → Nat) (cy : Nat → ClassId) (X : va_W) (A : Nat → Prop) (st : gSt) (hD : va_D A (X ++ gW L cy st)) (b Lb : Nat) (xs : Nat → Int32) {n wc ck : Nat} (hJ : J n wc ck 0 st) (hT : Tt wc ck 0 st) (hck : ck ≤ 100) : Met l yL_isSound wsL_isSound { frames := 5, cells := 1, slots := 24, locals := 150 } (sPc D L cy X A st b Lb xs [.ref (L 0)]) (va_Qi (fun (q : Int32) (_ : Unit) => q = 1) (fun _ t => va_P D vwCl (X ++ gW L cy st) t.heap) A) 1 24 A := by
  have hn := hJ.1.1.1
  have hwc := hJ.1.1.2.2.1
  have hn3 : st 30 3 = nI n := hJ.1.2.1.1
  have hn6 : st 30 6 = nI wc := hJ.1.2.1.2.1
  have hn11 : st 30 11 = nI ck := hJ.1.2.1.2.2
  refine s_entry hD (cc := cL_isSound) (maxL := 10) (ret := (some .boolean)) (by decide) rfl (Nat.le_of_ble_eq_true rfl) ?_
  intro p e s m args below meth c ls B
  obtain ⟨S, hr, hlocks, h, hl, hA, -⟩ := B
  have hx := S.1
  have hb := S.2.1
  have hts := S.2.2.2.2
  have hl : lv_has ls 10 [(0, .ref (L 0))] := hl
  refine lv_bipush (v := 24) hx hb dL_isSound_0 (by decide) ?_
  refine s_newi S h hA (N := 24) (by decide +kernel) (by decide) (by decide) (by decide) (Nat.le_of_ble_eq_true rfl) (Nat.le_of_ble_eq_true rfl) dL_isSound_2 (fun o H h => ?_)
  have loopD : ∀ (mm t ru bl sk : Nat) (f : Nat → Int32) (H : Heap) (locs : List Loc) (ls : Array Slot), t ≤ n → n < mm + t → ru = sm (oR st) t → bl = sm (oB st) t → sk = sm (fun v => (rl st (sc v)).length) wc → (∀ s, s < 24 → f s = nI (Rn wc st s)) → gH D L cy ((o, .inl (cy 0, 24, .inl f)) :: X) A st s H locs → lv_has ls 10 [(5, .int (nI t)), (4, .int (nI bl)), (3, .int (nI ru)), (2, .int (nI sk)), (1, .ref o), (0, .ref (L 0))] → W p l e { frames := 5, cells := 1, slots := 24, locals := 150 } s m args below meth c H locs 1 24 (MQ below (va_Qi (fun (q : Int32) (_ : Unit) => q = 1) (fun _ t => va_P D vwCl (X ++ gW L cy st) t.heap) A) args s 1 24 A) (F0 m 200 ls []) := by
    intro mm
    induction mm with
    | zero => intros; omega
    | succ mm ihD =>
      intro t ru bl sk f H locs ls ht hm hru hbl hsk hf h hl
      have hsm := so_small hJ ht
      have hs24 := so_le24 hJ
      refine lv_iload hx hb dL_isSound_200 (lv_at hl 0 rfl) ?_
      refine lv_aload_n hx hb dL_isSound_202 rfl (lv_at hl 5 rfl) ?_
      refine g_calli S h (c_X6_tasks l D L cy _ A _ (h.2.2.2.2 _)) (cwV 0 hts gL_isSound_X6_tasks rfl rfl rfl (by decide +kernel) ⟨Nat.le_of_ble_eq_true rfl, Nat.le_of_ble_eq_true rfl⟩) (g_pre h gk_c0 (by decide) rfl rfl _) rfl hl.1 rfl (Nat.le_of_ble_eq_true rfl) dL_isSound_203 ⟨Nat.le_of_ble_eq_true rfl, Nat.le_of_ble_eq_true rfl⟩ (fun H locs h => ?_)
      refine lv_topi (fun x1 ex1 => ?_)
      have ex1 : x1 = (nI n) := ex1.trans hn3
      subst ex1
      rcases Nat.lt_or_ge t n with hlt | hge
      · refine lv_icmp_ge (tgt := 452) hx hb dL_isSound_206 (by decide) (fun c2 => absurd c2 (nI_ge hlt (by omega))) (fun c2 => ?_)
        obtain ⟨a1, a2, a3, a4, a5⟩ := hJ.2.2 t hlt
        have j446 : ∀ (x pa : Int32) (ru2 bl2 : Nat) (H : Heap) (locs : List Loc) (ls : Array Slot), (x = st (43 + t) 2) → (pa = st (43 + t) 5) → (ru2 = sm (oR st) (t + 1)) → (bl2 = sm (oB st) (t + 1)) → gH D L cy ((o, .inl (cy 0, 24, .inl f)) :: X) A st s H locs → lv_has ls 10 [(7, .int pa), (6, .int x), (5, .int (nI t)), (4, .int (nI bl2)), (3, .int (nI ru2)), (2, .int (nI sk)), (1, .ref o), (0, .ref (L 0))] → W p l e { frames := 5, cells := 1, slots := 24, locals := 150 } s m args below meth c H locs 1 24 (MQ below (va_Qi (fun (q : Int32) (_ : Unit) => q = 1) (fun _ t => va_P D vwCl (X ++ gW L cy st) t.heap) A) args s 1 24 A) (F0 m 446 ls []) := by
          intro x pa ru2 bl2 H locs ls hx2 hpa hr2 hb2 h hl
          refine lv_iinc (v := (nI (t + 1))) (lv' := [(5, .int (nI (t + 1))), (7, .int pa), (6, .int x), (4, .int (nI bl2)), (3, .int (nI ru2)), (2, .int (nI sk)), (1, .ref o), (0, .ref (L 0))]) hx hb dL_isSound_446 hl (k := 2) rfl (nI_1 _) (by decide) rfl (fun ls hl => ?_)
          refine lv_goto (tgt := 200) hx hb dL_isSound_449 (by decide) ?_
          exact ihD (t + 1) ru2 bl2 sk f _ _ ls (by omega) (by omega) hr2 hb2 hsk hf h (lv_sub hl [0, 3, 4, 5, 6, 7] rfl)
        have j419 : ∀ (x pa : Int32) (ru2 bl2 : Nat) (H : Heap) (locs : List Loc) (ls : Array Slot), (x = st (43 + t) 2) → (pa = st (43 + t) 5) → (ru2 = sm (oR st) (t + 1)) → (bl2 = sm (oB st) (t + 1)) → gH D L cy ((o, .inl (cy 0, 24, .inl f)) :: X) A st s H locs → lv_has ls 10 [(7, .int pa), (6, .int x), (5, .int (nI t)), (4, .int (nI bl2)), (3, .int (nI ru2)), (2, .int (nI sk)), (1, .ref o), (0, .ref (L 0))] → W p l e { frames := 5, cells := 1, slots := 24, locals := 150 } s m args below meth c H locs 1 24 (MQ below (va_Qi (fun (q : Int32) (_ : Unit) => q = 1) (fun _ t => va_P D vwCl (X ++ gW L cy st) t.heap) A) args s 1 24 A) (F0 m 419 ls []) := by
          intro x pa ru2 bl2 H locs ls hx2 hpa hr2 hb2 h hl
          refine lv_iload hx hb dL_isSound_419 (lv_at hl 0 rfl) ?_
          by_cases q1 : pa < 0
          · refine lv_if_lt (tgt := 446) hx hb dL_isSound_421 (by decide) (fun c3 => ?_) (fun c3 => absurd q1 c3)
            exact j446 _ _ _ _ _ _ ls hx2 hpa hr2 hb2 h hl
          · refine lv_if_lt (tgt := 446) hx hb dL_isSound_421 (by decide) (fun c4 => absurd c4 q1) (fun c4 => ?_)
            refine lv_iload hx hb dL_isSound_424 (lv_at hl 1 rfl) ?_
            refine lv_iconst (v := 4) hx hb dL_isSound_426 (by decide) ?_
            by_cases q2 : x < 4
            · refine lv_icmp_ge (tgt := 446) hx hb dL_isSound_427 (by decide) (fun c5 => absurd c5 (Int32.not_le.mpr q2)) (fun c5 => ?_)
              obtain ⟨r, hr3, er, hbit⟩ := so_pbit hJ hlt (by rw [← hpa]; exact q1) (by rw [← hx2]; exact q2)
              obtain rfl : pa = nI r := hpa.trans er
              refine lv_aload_n hx hb dL_isSound_430 rfl (lv_at hl 7 rfl) ?_
              refine lv_iload hx hb dL_isSound_431 (lv_at hl 0 rfl) ?_
              refine g_calli S h (c_X6_childrenOf l D L cy _ A _ (h.2.2.2.2 _) _ (nI_pos (by omega)) (by rw [hn3]; exact nI_lt (by omega) (by omega))) (cwV 1 hts gL_isSound_X6_childrenOf rfl rfl rfl (by decide +kernel) ⟨Nat.le_of_ble_eq_true rfl, Nat.le_of_ble_eq_true rfl⟩) (g_pre h gk_c0 (by decide) rfl rfl _) rfl hl.1 rfl (Nat.le_of_ble_eq_true rfl) dL_isSound_433 ⟨Nat.le_of_ble_eq_true rfl, Nat.le_of_ble_eq_true rfl⟩ (fun H locs h => ?_)
              refine lv_topi (fun x6 ex6 => ?_)
              have ex6 : x6 = (st (43 + r) 6) := ex6.trans (so_children (by omega))
              subst ex6
              refine lv_iload hx hb dL_isSound_436 (lv_at hl 2 rfl) ?_
              refine lv_ishr hx hb dL_isSound_438 ?_
              refine lv_iconst (v := 1) hx hb dL_isSound_439 (by decide) ?_
              refine lv_iand hx hb dL_isSound_440 ?_
              refine lv_topi (fun x7 ex7 => ?_)
              have ex7 : x7 = 1 := ex7.trans hbit
              subst ex7
              refine lv_if_ne (tgt := 446) hx hb dL_isSound_441 (by decide) (fun c8 => ?_) (fun c8 => absurd c8 (by decide))
              exact j446 _ _ _ _ _ _ ls hx2 hpa hr2 hb2 h hl
            · refine lv_icmp_ge (tgt := 446) hx hb dL_isSound_427 (by decide) (fun c9 => ?_) (fun c9 => absurd (Int32.not_lt.mp q2) c9)
              exact j446 _ _ _ _ _ _ ls hx2 hpa hr2 hb2 h hl
        have loopE : ∀ (me k : Nat) (x pa : Int32) (ru2 bl2 : Nat) (ch : Int32) (H : Heap) (locs : List Loc) (ls : Array Slot), k ≤ 24 → 24 < me + k → x = st (43 + t) 2 → pa = st (43 + t) 5 → ru2 = sm (oR st) (t + 1) → bl2 = sm (oB st) (t + 1) → ch = st (43 + t) 6 → gH D L cy ((o, .inl (cy 0, 24, .inl f)) :: X) A st s H locs → lv_has ls 10 [(9, .int (nI k)), (8, .int ch), (7, .int pa), (6, .int x), (5, .int (nI t)), (4, .int (nI bl2)), (3, .int (nI ru2)), (2, .int (nI sk)), (1, .ref o), (0, .ref (L 0))] → W p l e { frames := 5, cells := 1, slots := 24, locals := 150 } s m args below meth c H locs 1 24 (MQ below (va_Qi (fun (q : Int32) (_ : Unit) => q = 1) (fun _ t => va_P D vwCl (X ++ gW L cy st) t.heap) A) args s 1 24 A) (F0 m 373 ls []) := by
          intro me
          induction me with
          | zero => intros; omega
          | succ me ihE =>
            intro k x pa ru2 bl2 ch H locs ls hk hme hx2 hpa hr2 hb2 hch h hl
            refine lv_iload hx hb dL_isSound_373 (lv_at hl 0 rfl) ?_
            refine lv_bipush (v := 24) hx hb dL_isSound_375 (by decide) ?_
            rcases Nat.lt_or_ge k 24 with hk2 | hk2
            · refine lv_icmp_ge (tgt := 419) hx hb dL_isSound_377 (by decide) (fun c10 => absurd c10 (le24 hk2)) (fun c10 => ?_)
              have j413 : ∀ (H : Heap) (locs : List Loc) (ls : Array Slot), gH D L cy ((o, .inl (cy 0, 24, .inl f)) :: X) A st s H locs → lv_has ls 10 [(9, .int (nI k)), (8, .int ch), (7, .int pa), (6, .int x), (5, .int (nI t)), (4, .int (nI bl2)), (3, .int (nI ru2)), (2, .int (nI sk)), (1, .ref o), (0, .ref (L 0))] → W p l e { frames := 5, cells := 1, slots := 24, locals := 150 } s m args below meth c H locs 1 24 (MQ below (va_Qi (fun (q : Int32) (_ : Unit) => q = 1) (fun _ t => va_P D vwCl (X ++ gW L cy st) t.heap) A) args s 1 24 A) (F0 m 413 ls []) := by
                intro  H locs ls  h hl
                refine lv_iinc (v := (nI (k + 1))) (lv' := [(9, .int (nI (k + 1))), (8, .int ch), (7, .int pa), (6, .int x), (5, .int (nI t)), (4, .int (nI bl2)), (3, .int (nI ru2)), (2, .int (nI sk)), (1, .ref o), (0, .ref (L 0))]) hx hb dL_isSound_413 hl (k := 0) rfl (nI_1 _) (by decide) rfl (fun ls hl => ?_)
                refine lv_goto (tgt := 373) hx hb dL_isSound_416 (by decide) ?_
                exact ihE (k + 1) _ _ _ _ _ _ _ ls (by omega) (by omega) hx2 hpa hr2 hb2 hch h (lv_sub hl [0, 1, 2, 3, 4, 5, 6, 7, 8, 9] rfl)
              refine lv_iload hx hb dL_isSound_380 (lv_at hl 1 rfl) ?_
              refine lv_iload hx hb dL_isSound_382 (lv_at hl 0 rfl) ?_
              refine lv_ishr hx hb dL_isSound_384 ?_
              refine lv_iconst (v := 1) hx hb dL_isSound_385 (by decide) ?_
              refine lv_iand hx hb dL_isSound_386 ?_
              refine lv_iconst (v := 1) hx hb dL_isSound_387 (by decide) ?_
              by_cases q3 : ((ch >>> (nI k &&& 31)) &&& 1) = 1
              · refine lv_icmp_ne (tgt := 413) hx hb dL_isSound_388 (by decide) (fun c1 => absurd q3 c1) (fun _ => ?_)
                obtain ⟨hk3, hk4⟩ := so_bit hJ hlt hk2 (by rw [← hch]; exact q3)
                refine lv_iload hx hb dL_isSound_391 (lv_at hl 0 rfl) ?_
                refine lv_aload_n hx hb dL_isSound_393 rfl (lv_at hl 9 rfl) ?_
                refine g_calli S h (c_X6_tasks l D L cy _ A _ (h.2.2.2.2 _)) (cwV 0 hts gL_isSound_X6_tasks rfl rfl rfl (by decide +kernel) ⟨Nat.le_of_ble_eq_true rfl, Nat.le_of_ble_eq_true rfl⟩) (g_pre h gk_c0 (by decide) rfl rfl _) rfl hl.1 rfl (Nat.le_of_ble_eq_true rfl) dL_isSound_394 ⟨Nat.le_of_ble_eq_true rfl, Nat.le_of_ble_eq_true rfl⟩ (fun H locs h => ?_)
                refine lv_topi (fun x11 ex11 => ?_)
                have ex11 : x11 = (nI n) := ex11.trans hn3
                subst ex11
                refine lv_icmp_ge (tgt := 411) hx hb dL_isSound_397 (by decide) (fun c12 => absurd c12 (nI_ge hk3 (by omega))) (fun c12 => ?_)
                refine lv_aload_n hx hb dL_isSound_400 rfl (lv_at hl 9 rfl) ?_
                refine lv_iload hx hb dL_isSound_401 (lv_at hl 0 rfl) ?_
                refine g_calli S h (c_X6_parentOf l D L cy _ A _ (h.2.2.2.2 _) _ (nI_pos (by omega)) (by rw [hn3]; exact nI_lt (by omega) (by omega))) (cwV 1 hts gL_isSound_X6_parentOf rfl rfl rfl (by decide +kernel) ⟨Nat.le_of_ble_eq_true rfl, Nat.le_of_ble_eq_true rfl⟩) (g_pre h gk_c0 (by decide) rfl rfl _) rfl hl.1 rfl (Nat.le_of_ble_eq_true rfl) dL_isSound_403 ⟨Nat.le_of_ble_eq_true rfl, Nat.le_of_ble_eq_true rfl⟩ (fun H locs h => ?_)
                refine lv_topi (fun x13 ex13 => ?_)
                have ex13 : x13 = (nI t) := ex13.trans ((so_parent (by omega)).trans hk4)
                subst ex13
                refine lv_iload hx hb dL_isSound_406 (lv_at hl 4 rfl) ?_
                refine lv_icmp_eq (tgt := 413) hx hb dL_isSound_408 (by decide) (fun c14 => ?_) (fun c14 => absurd rfl c14)
                exact j413 _ _ ls h hl
              · refine lv_icmp_ne (tgt := 413) hx hb dL_isSound_388 (by decide) (fun _ => ?_) (fun c1 => absurd c1 q3)
                exact j413 _ _ ls h hl
            · refine lv_icmp_ge (tgt := 419) hx hb dL_isSound_377 (by decide) (fun c15 => ?_) (fun c15 => absurd (show (24 : Int32) ≤ nI k from nI_le (a := 24) hk2 (by omega)) c15)
              exact j419 _ _ _ _ _ _ ls hx2 hpa hr2 hb2 h (lv_sub hl [2, 3, 4, 5, 6, 7, 8, 9] rfl)
        have j362 : ∀ (x pa : Int32) (ru2 bl2 : Nat) (H : Heap) (locs : List Loc) (ls : Array Slot), (x = st (43 + t) 2) → (pa = st (43 + t) 5) → (ru2 = sm (oR st) (t + 1)) → (bl2 = sm (oB st) (t + 1)) → gH D L cy ((o, .inl (cy 0, 24, .inl f)) :: X) A st s H locs → lv_has ls 10 [(7, .int pa), (6, .int x), (5, .int (nI t)), (4, .int (nI bl2)), (3, .int (nI ru2)), (2, .int (nI sk)), (1, .ref o), (0, .ref (L 0))] → W p l e { frames := 5, cells := 1, slots := 24, locals := 150 } s m args below meth c H locs 1 24 (MQ below (va_Qi (fun (q : Int32) (_ : Unit) => q = 1) (fun _ t => va_P D vwCl (X ++ gW L cy st) t.heap) A) args s 1 24 A) (F0 m 362 ls []) := by
          intro x pa ru2 bl2 H locs ls hx2 hpa hr2 hb2 h hl
          refine lv_aload_n hx hb dL_isSound_362 rfl (lv_at hl 7 rfl) ?_
          refine lv_iload hx hb dL_isSound_363 (lv_at hl 2 rfl) ?_
          refine g_calli S h (c_X6_childrenOf l D L cy _ A _ (h.2.2.2.2 _) _ (nI_pos (by omega)) (by rw [hn3]; exact nI_lt (by omega) (by omega))) (cwV 1 hts gL_isSound_X6_childrenOf rfl rfl rfl (by decide +kernel) ⟨Nat.le_of_ble_eq_true rfl, Nat.le_of_ble_eq_true rfl⟩) (g_pre h gk_c0 (by decide) rfl rfl _) rfl hl.1 rfl (Nat.le_of_ble_eq_true rfl) dL_isSound_365 ⟨Nat.le_of_ble_eq_true rfl, Nat.le_of_ble_eq_true rfl⟩ (fun H locs h => ?_)
          refine lv_topi (fun x16 ex16 => ?_)
          have ex16 : x16 = (st (43 + t) 6) := ex16.trans (so_children (by omega))
          subst ex16
          refine lv_topi (fun ch hch => ?_)
          refine lv_istore (lv' := [(8, .int ch), (7, .int pa), (6, .int x), (5, .int (nI t)), (4, .int (nI bl2)), (3, .int (nI ru2)), (2, .int (nI sk)), (1, .ref o), (0, .ref (L 0))]) hx hb dL_isSound_368 hl (by decide) rfl (fun ls hl => ?_)
          refine lv_iconst (v := 0) hx hb dL_isSound_370 (by decide) ?_
          refine lv_istore (lv' := [(9, .int 0), (8, .int ch), (7, .int pa), (6, .int x), (5, .int (nI t)), (4, .int (nI bl2)), (3, .int (nI ru2)), (2, .int (nI sk)), (1, .ref o), (0, .ref (L 0))]) hx hb dL_isSound_371 hl (by decide) rfl (fun ls hl => ?_)
          exact loopE 25 0 _ _ _ _ _ _ _ ls (by omega) (by omega) hx2 hpa hr2 hb2 hch h (lv_sub hl [0, 1, 2, 3, 4, 5, 6, 7, 8, 9] rfl)
        have j331 : ∀ (x pa : Int32) (ru2 bl2 : Nat) (H : Heap) (locs : List Loc) (ls : Array Slot), (x = st (43 + t) 2) → (pa = st (43 + t) 5) → (ru2 = sm (oR st) (t + 1)) → (bl2 = sm (oB st) (t + 1)) → gH D L cy ((o, .inl (cy 0, 24, .inl f)) :: X) A st s H locs → lv_has ls 10 [(7, .int pa), (6, .int x), (5, .int (nI t)), (4, .int (nI bl2)), (3, .int (nI ru2)), (2, .int (nI sk)), (1, .ref o), (0, .ref (L 0))] → W p l e { frames := 5, cells := 1, slots := 24, locals := 150 } s m args below meth c H locs 1 24 (MQ below (va_Qi (fun (q : Int32) (_ : Unit) => q = 1) (fun _ t => va_P D vwCl (X ++ gW L cy st) t.heap) A) args s 1 24 A) (F0 m 331 ls []) := by
          intro x pa ru2 bl2 H locs ls hx2 hpa hr2 hb2 h hl
          refine lv_iload hx hb dL_isSound_331 (lv_at hl 0 rfl) ?_
          refine lv_iload hx hb dL_isSound_333 (lv_at hl 2 rfl) ?_
          refine lv_icmp_ge (tgt := 360) hx hb dL_isSound_335 (by decide) (fun c17 => absurd c17 (by rw [hpa]; exact so_parlt hJ hlt)) (fun c17 => ?_)
          refine lv_aload_n hx hb dL_isSound_338 rfl (lv_at hl 7 rfl) ?_
          refine lv_iload hx hb dL_isSound_339 (lv_at hl 2 rfl) ?_
          refine g_calli S h (c_X6_valueOf l D L cy _ A _ (h.2.2.2.2 _) _ (nI_pos (by omega)) (by rw [hn3]; exact nI_lt (by omega) (by omega))) (cwV 1 hts gL_isSound_X6_valueOf rfl rfl rfl (by decide +kernel) ⟨Nat.le_of_ble_eq_true rfl, Nat.le_of_ble_eq_true rfl⟩) (g_pre h gk_c0 (by decide) rfl rfl _) rfl hl.1 rfl (Nat.le_of_ble_eq_true rfl) dL_isSound_341 ⟨Nat.le_of_ble_eq_true rfl, Nat.le_of_ble_eq_true rfl⟩ (fun H locs h => ?_)
          refine lv_topi (fun x18 ex18 => ?_)
          have ex18 : x18 = (st (43 + t) 4) := ex18.trans (so_value (by omega))
          subst ex18
          refine lv_ldc (v := 999999) hx hb S.2.2.2.1 (hts (.constant RL 70 999999) (by decide +kernel)) dL_isSound_344 ?_
          refine lv_icmp_gt (tgt := 360) hx hb dL_isSound_346 (by decide) (fun c19 => absurd c19 a2.2) (fun c19 => ?_)
          refine lv_aload_n hx hb dL_isSound_349 rfl (lv_at hl 7 rfl) ?_
          refine lv_iload hx hb dL_isSound_350 (lv_at hl 2 rfl) ?_
          refine g_calli S h (c_X6_valueOf l D L cy _ A _ (h.2.2.2.2 _) _ (nI_pos (by omega)) (by rw [hn3]; exact nI_lt (by omega) (by omega))) (cwV 1 hts gL_isSound_X6_valueOf rfl rfl rfl (by decide +kernel) ⟨Nat.le_of_ble_eq_true rfl, Nat.le_of_ble_eq_true rfl⟩) (g_pre h gk_c0 (by decide) rfl rfl _) rfl hl.1 rfl (Nat.le_of_ble_eq_true rfl) dL_isSound_352 ⟨Nat.le_of_ble_eq_true rfl, Nat.le_of_ble_eq_true rfl⟩ (fun H locs h => ?_)
          refine lv_topi (fun x20 ex20 => ?_)
          have ex20 : x20 = (st (43 + t) 4) := ex20.trans (so_value (by omega))
          subst ex20
          refine lv_ldc (v := (-999999)) hx hb S.2.2.2.1 (hts (.constant RL 71 (-999999)) (by decide +kernel)) dL_isSound_355 ?_
          refine lv_icmp_ge (tgt := 362) hx hb dL_isSound_357 (by decide) (fun c21 => ?_) (fun c21 => absurd (Int32.not_lt.mp a2.1) c21)
          exact j362 _ _ _ _ _ _ ls hx2 hpa hr2 hb2 h hl
        have j318 : ∀ (x pa : Int32) (ru2 bl2 : Nat) (H : Heap) (locs : List Loc) (ls : Array Slot), (x = st (43 + t) 2) → (pa = st (43 + t) 5) → (ru2 = sm (oR st) (t + 1)) → (bl2 = sm (oB st) (t + 1)) → (x = 4 ∨ x = 5) → gH D L cy ((o, .inl (cy 0, 24, .inl f)) :: X) A st s H locs → lv_has ls 10 [(7, .int pa), (6, .int x), (5, .int (nI t)), (4, .int (nI bl2)), (3, .int (nI ru2)), (2, .int (nI sk)), (1, .ref o), (0, .ref (L 0))] → W p l e { frames := 5, cells := 1, slots := 24, locals := 150 } s m args below meth c H locs 1 24 (MQ below (va_Qi (fun (q : Int32) (_ : Unit) => q = 1) (fun _ t => va_P D vwCl (X ++ gW L cy st) t.heap) A) args s 1 24 A) (F0 m 318 ls []) := by
          intro x pa ru2 bl2 H locs ls hx2 hpa hr2 hb2 h45 h hl
          refine lv_aload_n hx hb dL_isSound_318 rfl (lv_at hl 7 rfl) ?_
          refine lv_iload hx hb dL_isSound_319 (lv_at hl 2 rfl) ?_
          refine g_calli S h (c_X6_overAt l D L cy _ A _ (h.2.2.2.2 _) _ (nI_pos (by omega)) (by rw [hn3]; exact nI_lt (by omega) (by omega))) (cwV 1 hts gL_isSound_X6_overAt rfl rfl rfl (by decide +kernel) ⟨Nat.le_of_ble_eq_true rfl, Nat.le_of_ble_eq_true rfl⟩) (g_pre h gk_c0 (by decide) rfl rfl _) rfl hl.1 rfl (Nat.le_of_ble_eq_true rfl) dL_isSound_321 ⟨Nat.le_of_ble_eq_true rfl, Nat.le_of_ble_eq_true rfl⟩ (fun H locs h => ?_)
          refine lv_topi (fun x22 ex22 => ?_)
          have ex22 : x22 = (st (43 + t) 7) := ex22.trans (so_over (by omega))
          subst ex22
          refine lv_aload_n hx hb dL_isSound_324 rfl (lv_at hl 7 rfl) ?_
          refine g_calli S h (c_X6_clock l D L cy _ A _ (h.2.2.2.2 _)) (cwV 0 hts gL_isSound_X6_clock rfl rfl rfl (by decide +kernel) ⟨Nat.le_of_ble_eq_true rfl, Nat.le_of_ble_eq_true rfl⟩) (g_pre h gk_c0 (by decide) rfl rfl _) rfl hl.1 rfl (Nat.le_of_ble_eq_true rfl) dL_isSound_325 ⟨Nat.le_of_ble_eq_true rfl, Nat.le_of_ble_eq_true rfl⟩ (fun H locs h => ?_)
          refine lv_topi (fun x23 ex23 => ?_)
          have ex23 : x23 = (nI ck) := ex23.trans hn11
          subst ex23
          refine lv_icmp_ge (tgt := 360) hx hb dL_isSound_328 (by decide) (fun c24 => absurd c24 (so_overck hJ hlt (by rw [← hx2]; exact h45))) (fun c24 => ?_)
          exact j331 _ _ _ _ _ _ ls hx2 hpa hr2 hb2 h hl
        have j306 : ∀ (x pa : Int32) (ru2 bl2 : Nat) (H : Heap) (locs : List Loc) (ls : Array Slot), (x = st (43 + t) 2) → (pa = st (43 + t) 5) → (ru2 = sm (oR st) (t + 1)) → (bl2 = sm (oB st) (t + 1)) → gH D L cy ((o, .inl (cy 0, 24, .inl f)) :: X) A st s H locs → lv_has ls 10 [(7, .int pa), (6, .int x), (5, .int (nI t)), (4, .int (nI bl2)), (3, .int (nI ru2)), (2, .int (nI sk)), (1, .ref o), (0, .ref (L 0))] → W p l e { frames := 5, cells := 1, slots := 24, locals := 150 } s m args below meth c H locs 1 24 (MQ below (va_Qi (fun (q : Int32) (_ : Unit) => q = 1) (fun _ t => va_P D vwCl (X ++ gW L cy st) t.heap) A) args s 1 24 A) (F0 m 306 ls []) := by
          intro x pa ru2 bl2 H locs ls hx2 hpa hr2 hb2 h hl
          refine lv_iload hx hb dL_isSound_306 (lv_at hl 1 rfl) ?_
          refine lv_iconst (v := 4) hx hb dL_isSound_308 (by decide) ?_
          by_cases q4 : x = 4
          · refine lv_icmp_eq (tgt := 318) hx hb dL_isSound_309 (by decide) (fun c25 => ?_) (fun c25 => absurd q4 c25)
            exact j318 _ _ _ _ _ _ ls hx2 hpa hr2 hb2 (Or.inl q4) h hl
          · refine lv_icmp_eq (tgt := 318) hx hb dL_isSound_309 (by decide) (fun c26 => absurd c26 q4) (fun c26 => ?_)
            refine lv_iload hx hb dL_isSound_312 (lv_at hl 1 rfl) ?_
            refine lv_iconst (v := 5) hx hb dL_isSound_314 (by decide) ?_
            by_cases q5 : x = 5
            · refine lv_icmp_ne (tgt := 331) hx hb dL_isSound_315 (by decide) (fun c1 => absurd q5 c1) (fun _ => ?_)
              exact j318 _ _ _ _ _ _ ls hx2 hpa hr2 hb2 (Or.inr q5) h hl
            · refine lv_icmp_ne (tgt := 331) hx hb dL_isSound_315 (by decide) (fun _ => ?_) (fun c1 => absurd c1 q5)
              exact j331 _ _ _ _ _ _ ls hx2 hpa hr2 hb2 h hl
        have j278 : ∀ (x pa : Int32) (ru2 bl2 : Nat) (H : Heap) (locs : List Loc) (ls : Array Slot), (x = st (43 + t) 2) → (pa = st (43 + t) 5) → (ru2 = sm (oR st) (t + 1)) → (bl2 = sm (oB st) (t + 1)) → gH D L cy ((o, .inl (cy 0, 24, .inl f)) :: X) A st s H locs → lv_has ls 10 [(7, .int pa), (6, .int x), (5, .int (nI t)), (4, .int (nI bl2)), (3, .int (nI ru2)), (2, .int (nI sk)), (1, .ref o), (0, .ref (L 0))] → W p l e { frames := 5, cells := 1, slots := 24, locals := 150 } s m args below meth c H locs 1 24 (MQ below (va_Qi (fun (q : Int32) (_ : Unit) => q = 1) (fun _ t => va_P D vwCl (X ++ gW L cy st) t.heap) A) args s 1 24 A) (F0 m 278 ls []) := by
          intro x pa ru2 bl2 H locs ls hx2 hpa hr2 hb2 h hl
          refine lv_aload_n hx hb dL_isSound_278 rfl (lv_at hl 7 rfl) ?_
          refine lv_iload hx hb dL_isSound_279 (lv_at hl 2 rfl) ?_
          refine g_calli S h (c_X6_overAt l D L cy _ A _ (h.2.2.2.2 _) _ (nI_pos (by omega)) (by rw [hn3]; exact nI_lt (by omega) (by omega))) (cwV 1 hts gL_isSound_X6_overAt rfl rfl rfl (by decide +kernel) ⟨Nat.le_of_ble_eq_true rfl, Nat.le_of_ble_eq_true rfl⟩) (g_pre h gk_c0 (by decide) rfl rfl _) rfl hl.1 rfl (Nat.le_of_ble_eq_true rfl) dL_isSound_281 ⟨Nat.le_of_ble_eq_true rfl, Nat.le_of_ble_eq_true rfl⟩ (fun H locs h => ?_)
          refine lv_topi (fun x27 ex27 => ?_)
          have ex27 : x27 = (st (43 + t) 7) := ex27.trans (so_over (by omega))
          subst ex27
          by_cases q6 : x < 4
          · refine lv_if_ge (tgt := 291) hx hb dL_isSound_284 (by decide) (fun c28 => absurd c28 (Int32.not_le.mpr ((so_overlt hJ hlt).mpr (by rw [← hx2]; exact q6)))) (fun c28 => ?_)
            refine lv_iconst (v := 1) hx hb dL_isSound_287 (by decide) ?_
            refine lv_goto (tgt := 292) hx hb dL_isSound_288 (by decide) ?_
            refine lv_iload hx hb dL_isSound_292 (lv_at hl 1 rfl) ?_
            refine lv_iconst (v := 4) hx hb dL_isSound_294 (by decide) ?_
            refine lv_icmp_ge (tgt := 302) hx hb dL_isSound_295 (by decide) (fun c29 => absurd c29 (Int32.not_le.mpr q6)) (fun c29 => ?_)
            refine lv_iconst (v := 1) hx hb dL_isSound_298 (by decide) ?_
            refine lv_goto (tgt := 303) hx hb dL_isSound_299 (by decide) ?_
            refine lv_icmp_ne (tgt := 360) hx hb dL_isSound_303 (by decide) (fun c1 => absurd rfl c1) (fun _ => ?_)
            exact j306 _ _ _ _ _ _ ls hx2 hpa hr2 hb2 h hl
          · refine lv_if_ge (tgt := 291) hx hb dL_isSound_284 (by decide) (fun c30 => ?_) (fun c30 => absurd (Int32.not_lt.mp (fun q => q6 (by rw [hx2]; exact (so_overlt hJ hlt).mp q))) c30)
            refine lv_iconst (v := 0) hx hb dL_isSound_291 (by decide) ?_
            refine lv_iload hx hb dL_isSound_292 (lv_at hl 1 rfl) ?_
            refine lv_iconst (v := 4) hx hb dL_isSound_294 (by decide) ?_
            refine lv_icmp_ge (tgt := 302) hx hb dL_isSound_295 (by decide) (fun c31 => ?_) (fun c31 => absurd (Int32.not_lt.mp q6) c31)
            refine lv_iconst (v := 0) hx hb dL_isSound_302 (by decide) ?_
            refine lv_icmp_ne (tgt := 360) hx hb dL_isSound_303 (by decide) (fun c1 => absurd rfl c1) (fun _ => ?_)
            exact j306 _ _ _ _ _ _ ls hx2 hpa hr2 hb2 h hl
        have j250 : ∀ (x : Int32) (ru2 : Nat) (H : Heap) (locs : List Loc) (ls : Array Slot), (x = st (43 + t) 2) → (ru2 = sm (oR st) (t + 1)) → gH D L cy ((o, .inl (cy 0, 24, .inl f)) :: X) A st s H locs → lv_has ls 10 [(6, .int x), (5, .int (nI t)), (4, .int (nI bl)), (3, .int (nI ru2)), (2, .int (nI sk)), (1, .ref o), (0, .ref (L 0))] → W p l e { frames := 5, cells := 1, slots := 24, locals := 150 } s m args below meth c H locs 1 24 (MQ below (va_Qi (fun (q : Int32) (_ : Unit) => q = 1) (fun _ t => va_P D vwCl (X ++ gW L cy st) t.heap) A) args s 1 24 A) (F0 m 250 ls [.int (nI (oB st t)), .int (nI bl)]) := by
          intro x ru2 H locs ls hx2 hr2 h hl
          refine lv_iadd hx hb dL_isSound_250 ?_
          refine lv_topi (fun x32 ex32 => ?_)
          have ex32 : x32 = (nI (bl + oB st t)) := ex32.trans (nI_add bl (oB st t))
          subst ex32
          obtain ⟨bl2, hb2⟩ : ∃ bl2, bl2 = bl + oB st t := ⟨_, rfl⟩
          rw [← hb2]
          have hb2 : bl2 = sm (oB st) (t + 1) := by rw [hb2, hbl]; rfl
          refine lv_istore (lv' := [(4, .int (nI bl2)), (6, .int x), (5, .int (nI t)), (3, .int (nI ru2)), (2, .int (nI sk)), (1, .ref o), (0, .ref (L 0))]) hx hb dL_isSound_251 hl (by decide) rfl (fun ls hl => ?_)
          refine lv_aload_n hx hb dL_isSound_253 rfl (lv_at hl 6 rfl) ?_
          refine lv_iload hx hb dL_isSound_254 (lv_at hl 2 rfl) ?_
          refine g_calli S h (c_X6_parentOf l D L cy _ A _ (h.2.2.2.2 _) _ (nI_pos (by omega)) (by rw [hn3]; exact nI_lt (by omega) (by omega))) (cwV 1 hts gL_isSound_X6_parentOf rfl rfl rfl (by decide +kernel) ⟨Nat.le_of_ble_eq_true rfl, Nat.le_of_ble_eq_true rfl⟩) (g_pre h gk_c0 (by decide) rfl rfl _) rfl hl.1 rfl (Nat.le_of_ble_eq_true rfl) dL_isSound_256 ⟨Nat.le_of_ble_eq_true rfl, Nat.le_of_ble_eq_true rfl⟩ (fun H locs h => ?_)
          refine lv_topi (fun x33 ex33 => ?_)
          have ex33 : x33 = (st (43 + t) 5) := ex33.trans (so_parent (by omega))
          subst ex33
          refine lv_topi (fun pa hpa => ?_)
          refine lv_istore (lv' := [(7, .int pa), (4, .int (nI bl2)), (6, .int x), (5, .int (nI t)), (3, .int (nI ru2)), (2, .int (nI sk)), (1, .ref o), (0, .ref (L 0))]) hx hb dL_isSound_259 hl (by decide) rfl (fun ls hl => ?_)
          refine lv_aload_n hx hb dL_isSound_261 rfl (lv_at hl 6 rfl) ?_
          refine lv_iload hx hb dL_isSound_262 (lv_at hl 3 rfl) ?_
          refine s_ial S h (vp_in_nI (by omega) (by omega)) dL_isSound_264 ?_
          refine lv_topi (fun x34 ex34 => ?_)
          have ex34 : x34 = (if st (43 + t) 2 = 0 then 1 else 0) := ex34.trans (by rw [nI_clamp (by omega), hf t (by omega)]; exact so_where hJ hlt)
          subst ex34
          rw [← hx2]
          refine lv_iload hx hb dL_isSound_265 (lv_at hl 2 rfl) ?_
          by_cases q7 : x = 0
          · refine lv_if_ne (tgt := 274) hx hb dL_isSound_267 (by decide) (fun c1 => absurd q7 c1) (fun _ => ?_)
            refine lv_iconst (v := 1) hx hb dL_isSound_270 (by decide) ?_
            refine lv_goto (tgt := 275) hx hb dL_isSound_271 (by decide) ?_
            refine lv_icmp_ne (tgt := 360) hx hb dL_isSound_275 (by decide) (fun c1 => absurd (by rw [if_pos q7]) c1) (fun _ => ?_)
            exact j278 _ _ _ _ _ _ ls hx2 hpa hr2 hb2 h (lv_sub hl [0, 2, 3, 1, 4, 5, 6, 7] rfl)
          · refine lv_if_ne (tgt := 274) hx hb dL_isSound_267 (by decide) (fun _ => ?_) (fun c1 => absurd c1 q7)
            refine lv_iconst (v := 0) hx hb dL_isSound_274 (by decide) ?_
            refine lv_icmp_ne (tgt := 360) hx hb dL_isSound_275 (by decide) (fun c1 => absurd (by rw [if_neg q7]) c1) (fun _ => ?_)
            exact j278 _ _ _ _ _ _ ls hx2 hpa hr2 hb2 h (lv_sub hl [0, 2, 3, 1, 4, 5, 6, 7] rfl)
        have j229 : ∀ (x : Int32) (H : Heap) (locs : List Loc) (ls : Array Slot), (x = st (43 + t) 2) → gH D L cy ((o, .inl (cy 0, 24, .inl f)) :: X) A st s H locs → lv_has ls 10 [(6, .int x), (5, .int (nI t)), (4, .int (nI bl)), (3, .int (nI ru)), (2, .int (nI sk)), (1, .ref o), (0, .ref (L 0))] → W p l e { frames := 5, cells := 1, slots := 24, locals := 150 } s m args below meth c H locs 1 24 (MQ below (va_Qi (fun (q : Int32) (_ : Unit) => q = 1) (fun _ t => va_P D vwCl (X ++ gW L cy st) t.heap) A) args s 1 24 A) (F0 m 229 ls [.int (nI (oR st t)), .int (nI ru)]) := by
          intro x H locs ls hx2 h hl
          refine lv_iadd hx hb dL_isSound_229 ?_
          refine lv_topi (fun x35 ex35 => ?_)
          have ex35 : x35 = (nI (ru + oR st t)) := ex35.trans (nI_add ru (oR st t))
          subst ex35
          obtain ⟨ru2, hr2⟩ : ∃ ru2, ru2 = ru + oR st t := ⟨_, rfl⟩
          rw [← hr2]
          have hr2 : ru2 = sm (oR st) (t + 1) := by rw [hr2, hru]; rfl
          refine lv_istore_n (lv' := [(3, .int (nI ru2)), (6, .int x), (5, .int (nI t)), (4, .int (nI bl)), (2, .int (nI sk)), (1, .ref o), (0, .ref (L 0))]) hx hb dL_isSound_230 rfl hl (by decide) rfl (fun ls hl => ?_)
          refine lv_iload hx hb dL_isSound_231 (lv_at hl 3 rfl) ?_
          refine lv_iload hx hb dL_isSound_233 (lv_at hl 1 rfl) ?_
          refine lv_iconst (v := 2) hx hb dL_isSound_235 (by decide) ?_
          by_cases q8 : x = 2
          · refine lv_icmp_eq (tgt := 245) hx hb dL_isSound_236 (by decide) (fun c36 => ?_) (fun c36 => absurd q8 c36)
            have e1 : oB st t = 1 := by unfold oB; rw [if_pos (hx2.symm.trans q8)]
            refine lv_iconst (v := 1) hx hb dL_isSound_245 (by decide) ?_
            refine lv_goto (tgt := 250) hx hb dL_isSound_246 (by decide) ?_
            rw [e1] at j250
            exact j250 _ _ _ _ ls hx2 hr2 h (lv_sub hl [1, 2, 3, 0, 4, 5, 6] rfl)
          · refine lv_icmp_eq (tgt := 245) hx hb dL_isSound_236 (by decide) (fun c37 => absurd c37 q8) (fun c37 => ?_)
            refine lv_iload hx hb dL_isSound_239 (lv_at hl 1 rfl) ?_
            refine lv_iconst (v := 3) hx hb dL_isSound_241 (by decide) ?_
            by_cases q9 : x = 3
            · refine lv_icmp_ne (tgt := 249) hx hb dL_isSound_242 (by decide) (fun c1 => absurd q9 c1) (fun _ => ?_)
              have e1 : oB st t = 1 := by unfold oB; rw [if_neg (fun q => q8 (hx2.trans q)), if_pos (hx2.symm.trans q9)]
              refine lv_iconst (v := 1) hx hb dL_isSound_245 (by decide) ?_
              refine lv_goto (tgt := 250) hx hb dL_isSound_246 (by decide) ?_
              rw [e1] at j250
              exact j250 _ _ _ _ ls hx2 hr2 h (lv_sub hl [1, 2, 3, 0, 4, 5, 6] rfl)
            · refine lv_icmp_ne (tgt := 249) hx hb dL_isSound_242 (by decide) (fun _ => ?_) (fun c1 => absurd c1 q9)
              have e1 : oB st t = 0 := by unfold oB; rw [if_neg (fun q => q8 (hx2.trans q)), if_neg (fun q => q9 (hx2.trans q))]
              refine lv_iconst (v := 0) hx hb dL_isSound_249 (by decide) ?_
              rw [e1] at j250
              exact j250 _ _ _ _ ls hx2 hr2 h (lv_sub hl [1, 2, 3, 0, 4, 5, 6] rfl)
        refine lv_aload_n hx hb dL_isSound_209 rfl (lv_at hl 5 rfl) ?_
        refine lv_iload hx hb dL_isSound_210 (lv_at hl 0 rfl) ?_
        refine g_calli S h (c_X6_stateOf l D L cy _ A _ (h.2.2.2.2 _) _ (nI_pos (by omega)) (by rw [hn3]; exact nI_lt (by omega) (by omega))) (cwV 1 hts gL_isSound_X6_stateOf rfl rfl rfl (by decide +kernel) ⟨Nat.le_of_ble_eq_true rfl, Nat.le_of_ble_eq_true rfl⟩) (g_pre h gk_c0 (by decide) rfl rfl _) rfl hl.1 rfl (Nat.le_of_ble_eq_true rfl) dL_isSound_212 ⟨Nat.le_of_ble_eq_true rfl, Nat.le_of_ble_eq_true rfl⟩ (fun H locs h => ?_)
        refine lv_topi (fun x38 ex38 => ?_)
        have ex38 : x38 = (st (43 + t) 2) := ex38.trans (so_state (by omega))
        subst ex38
        refine lv_topi (fun x hx2 => ?_)
        refine lv_istore (lv' := [(6, .int x), (5, .int (nI t)), (4, .int (nI bl)), (3, .int (nI ru)), (2, .int (nI sk)), (1, .ref o), (0, .ref (L 0))]) hx hb dL_isSound_215 hl (by decide) rfl (fun ls hl => ?_)
        refine lv_iload_n hx hb dL_isSound_217 rfl (lv_at hl 3 rfl) ?_
        refine lv_iload hx hb dL_isSound_218 (lv_at hl 0 rfl) ?_
        refine lv_iconst (v := 1) hx hb dL_isSound_220 (by decide) ?_
        by_cases q10 : x = 1
        · refine lv_icmp_ne (tgt := 228) hx hb dL_isSound_221 (by decide) (fun c1 => absurd q10 c1) (fun _ => ?_)
          have e1 : oR st t = 1 := by unfold oR; rw [if_pos (hx2.symm.trans q10)]
          refine lv_iconst (v := 1) hx hb dL_isSound_224 (by decide) ?_
          refine lv_goto (tgt := 229) hx hb dL_isSound_225 (by decide) ?_
          rw [e1] at j229
          exact j229 _ _ _ ls hx2 h (lv_sub hl [0, 1, 2, 3, 4, 5, 6] rfl)
        · refine lv_icmp_ne (tgt := 228) hx hb dL_isSound_221 (by decide) (fun _ => ?_) (fun c1 => absurd c1 q10)
          have e1 : oR st t = 0 := by unfold oR; rw [if_neg (fun q => q10 (hx2.trans q))]
          refine lv_iconst (v := 0) hx hb dL_isSound_228 (by decide) ?_
          rw [e1] at j229
          exact j229 _ _ _ ls hx2 h (lv_sub hl [0, 1, 2, 3, 4, 5, 6] rfl)
      · refine lv_icmp_ge (tgt := 452) hx hb dL_isSound_206 (by decide) (fun c39 => ?_) (fun c39 => absurd (nI_le hge (by omega)) c39)
        obtain rfl : t = n := by omega
        have hsum := so_sum hJ
        rw [← hru, ← hbl, ← hsk] at hsum
        refine lv_iload_n hx hb dL_isSound_452 rfl (lv_at hl 3 rfl) ?_
        refine lv_iload_n hx hb dL_isSound_453 rfl (lv_at hl 2 rfl) ?_
        refine lv_icmp_lt (tgt := 469) hx hb dL_isSound_454 (by decide) (fun c40 => absurd c40 (nI_nlt hsum.1 (by omega))) (fun c40 => ?_)
        refine lv_iload_n hx hb dL_isSound_457 rfl (lv_at hl 3 rfl) ?_
        refine lv_iload_n hx hb dL_isSound_458 rfl (lv_at hl 2 rfl) ?_
        refine lv_iload hx hb dL_isSound_459 (lv_at hl 1 rfl) ?_
        refine lv_iadd hx hb dL_isSound_461 ?_
        refine lv_topi (fun x41 ex41 => ?_)
        have ex41 : x41 = (nI (ru + bl)) := ex41.trans (nI_add ru bl)
        subst ex41
        refine lv_icmp_gt (tgt := 469) hx hb dL_isSound_462 (by decide) (fun c42 => absurd c42 (nI_nlt hsum.2 (by omega))) (fun c42 => ?_)
        refine lv_iconst (v := 1) hx hb dL_isSound_465 (by decide) ?_
        refine lv_goto (tgt := 470) hx hb dL_isSound_466 (by decide) ?_
        exact g_reti S (gH_tl h) hr hlocks rfl rfl rfl dL_isSound_470
  have loopC : ∀ (mm w sk : Nat) (f : Nat → Int32) (H : Heap) (locs : List Loc) (ls : Array Slot), w ≤ wc → wc < mm + w → sk = sm (fun v => (rl st (sc v)).length) w → (∀ s, s < 24 → f s = nI (Rn wc st s)) → gH D L cy ((o, .inl (cy 0, 24, .inl f)) :: X) A st s H locs → lv_has ls 10 [(3, .int (nI w)), (2, .int (nI sk)), (1, .ref o), (0, .ref (L 0))] → W p l e { frames := 5, cells := 1, slots := 24, locals := 150 } s m args below meth c H locs 1 24 (MQ below (va_Qi (fun (q : Int32) (_ : Unit) => q = 1) (fun _ t => va_P D vwCl (X ++ gW L cy st) t.heap) A) args s 1 24 A) (F0 m 83 ls []) := by
    intro mm
    induction mm with
    | zero => intros; omega
    | succ mm ihC =>
      intro w sk f H locs ls hw1 hm hsk hf h hl
      refine lv_iload_n hx hb dL_isSound_83 rfl (lv_at hl 0 rfl) ?_
      refine lv_aload_n hx hb dL_isSound_84 rfl (lv_at hl 3 rfl) ?_
      refine g_calli S h (c_X6_workers l D L cy _ A _ (h.2.2.2.2 _)) (cwV 0 hts gL_isSound_X6_workers rfl rfl rfl (by decide +kernel) ⟨Nat.le_of_ble_eq_true rfl, Nat.le_of_ble_eq_true rfl⟩) (g_pre h gk_c0 (by decide) rfl rfl _) rfl hl.1 rfl (Nat.le_of_ble_eq_true rfl) dL_isSound_85 ⟨Nat.le_of_ble_eq_true rfl, Nat.le_of_ble_eq_true rfl⟩ (fun H locs h => ?_)
      refine lv_topi (fun x43 ex43 => ?_)
      have ex43 : x43 = (nI wc) := ex43.trans hn6
      subst ex43
      rcases Nat.lt_or_ge w wc with hlt | hge
      · refine lv_icmp_ge (tgt := 192) hx hb dL_isSound_88 (by decide) (fun c44 => absurd c44 (nI_ge hlt (by omega))) (fun c44 => ?_)
        obtain ⟨hs1, hs2⟩ := so_stack hJ hlt
        have hpre : sm (fun v => (rl st (sc v)).length) (w + 1) ≤ sm (fun v => (rl st (sc v)).length) wc := sm_pre (by omega)
        have hs24 := so_le24 hJ
        have j157 : ∀ (tp : Int32) (sk2 : Nat) (H : Heap) (locs : List Loc) (ls : Array Slot), (sk2 = sm (fun v => (rl st (sc v)).length) (w + 1)) → gH D L cy ((o, .inl (cy 0, 24, .inl f)) :: X) A st s H locs → lv_has ls 10 [(4, .int tp), (3, .int (nI w)), (2, .int (nI sk2)), (1, .ref o), (0, .ref (L 0))] → W p l e { frames := 5, cells := 1, slots := 24, locals := 150 } s m args below meth c H locs 1 24 (MQ below (va_Qi (fun (q : Int32) (_ : Unit) => q = 1) (fun _ t => va_P D vwCl (X ++ gW L cy st) t.heap) A) args s 1 24 A) (F0 m 157 ls []) := by
          intro tp sk2 H locs ls hk2 h hl
          obtain ⟨ta, tb, tc, t1, t2, t3, t4⟩ := so_told hT hlt hwc hck
          refine lv_aload_n hx hb dL_isSound_157 rfl (lv_at hl 4 rfl) ?_
          refine lv_iload_n hx hb dL_isSound_158 rfl (lv_at hl 1 rfl) ?_
          refine lv_iconst (v := 0) hx hb dL_isSound_159 (by decide) ?_
          refine g_calli S h (c_X6_told l D L cy _ A _ (h.2.2.2.2 _) _ _ (nI_pos (by omega)) (by rw [hn6]; exact nI_lt (by omega) (by omega)) (by decide) (by decide)) (cwV 2 hts gL_isSound_X6_told rfl rfl rfl (by decide +kernel) ⟨Nat.le_of_ble_eq_true rfl, Nat.le_of_ble_eq_true rfl⟩) (g_pre h gk_c0 (by decide) rfl rfl _) rfl hl.1 rfl (Nat.le_of_ble_eq_true rfl) dL_isSound_160 ⟨Nat.le_of_ble_eq_true rfl, Nat.le_of_ble_eq_true rfl⟩ (fun H locs h => ?_)
          refine lv_topi (fun x45 ex45 => ?_)
          have ex45 : x45 = (nI ta) := ex45.trans t1
          subst ex45
          refine lv_aload_n hx hb dL_isSound_163 rfl (lv_at hl 4 rfl) ?_
          refine lv_iload_n hx hb dL_isSound_164 rfl (lv_at hl 1 rfl) ?_
          refine lv_iconst (v := 1) hx hb dL_isSound_165 (by decide) ?_
          refine g_calli S h (c_X6_told l D L cy _ A _ (h.2.2.2.2 _) _ _ (nI_pos (by omega)) (by rw [hn6]; exact nI_lt (by omega) (by omega)) (by decide) (by decide)) (cwV 2 hts gL_isSound_X6_told rfl rfl rfl (by decide +kernel) ⟨Nat.le_of_ble_eq_true rfl, Nat.le_of_ble_eq_true rfl⟩) (g_pre h gk_c0 (by decide) rfl rfl _) rfl hl.1 rfl (Nat.le_of_ble_eq_true rfl) dL_isSound_166 ⟨Nat.le_of_ble_eq_true rfl, Nat.le_of_ble_eq_true rfl⟩ (fun H locs h => ?_)
          refine lv_topi (fun x46 ex46 => ?_)
          have ex46 : x46 = (nI tb) := ex46.trans t2
          subst ex46
          refine lv_iadd hx hb dL_isSound_169 ?_
          refine lv_topi (fun x47 ex47 => ?_)
          have ex47 : x47 = (nI (ta + tb)) := ex47.trans (nI_add ta tb)
          subst ex47
          refine lv_aload_n hx hb dL_isSound_170 rfl (lv_at hl 4 rfl) ?_
          refine lv_iload_n hx hb dL_isSound_171 rfl (lv_at hl 1 rfl) ?_
          refine lv_iconst (v := 2) hx hb dL_isSound_172 (by decide) ?_
          refine g_calli S h (c_X6_told l D L cy _ A _ (h.2.2.2.2 _) _ _ (nI_pos (by omega)) (by rw [hn6]; exact nI_lt (by omega) (by omega)) (by decide) (by decide)) (cwV 2 hts gL_isSound_X6_told rfl rfl rfl (by decide +kernel) ⟨Nat.le_of_ble_eq_true rfl, Nat.le_of_ble_eq_true rfl⟩) (g_pre h gk_c0 (by decide) rfl rfl _) rfl hl.1 rfl (Nat.le_of_ble_eq_true rfl) dL_isSound_173 ⟨Nat.le_of_ble_eq_true rfl, Nat.le_of_ble_eq_true rfl⟩ (fun H locs h => ?_)
          refine lv_topi (fun x48 ex48 => ?_)
          have ex48 : x48 = (nI tc) := ex48.trans t3
          subst ex48
          refine lv_iadd hx hb dL_isSound_176 ?_
          refine lv_topi (fun x49 ex49 => ?_)
          have ex49 : x49 = (nI (ta + tb + tc)) := ex49.trans (nI_add (ta + tb) tc)
          subst ex49
          refine lv_aload_n hx hb dL_isSound_177 rfl (lv_at hl 4 rfl) ?_
          refine g_calli S h (c_X6_clock l D L cy _ A _ (h.2.2.2.2 _)) (cwV 0 hts gL_isSound_X6_clock rfl rfl rfl (by decide +kernel) ⟨Nat.le_of_ble_eq_true rfl, Nat.le_of_ble_eq_true rfl⟩) (g_pre h gk_c0 (by decide) rfl rfl _) rfl hl.1 rfl (Nat.le_of_ble_eq_true rfl) dL_isSound_178 ⟨Nat.le_of_ble_eq_true rfl, Nat.le_of_ble_eq_true rfl⟩ (fun H locs h => ?_)
          refine lv_topi (fun x50 ex50 => ?_)
          have ex50 : x50 = (nI ck) := ex50.trans hn11
          subst ex50
          refine lv_icmp_le (tgt := 186) hx hb dL_isSound_181 (by decide) (fun c51 => ?_) (fun c51 => absurd (nI_le t4 (by omega)) c51)
          refine lv_iinc (v := (nI (w + 1))) (lv' := [(3, .int (nI (w + 1))), (4, .int tp), (2, .int (nI sk2)), (1, .ref o), (0, .ref (L 0))]) hx hb dL_isSound_186 hl (k := 1) rfl (nI_1 _) (by decide) rfl (fun ls hl => ?_)
          refine lv_goto (tgt := 83) hx hb dL_isSound_189 (by decide) ?_
          exact ihC (w + 1) sk2 f _ _ ls (by omega) (by omega) hk2 hf h (lv_sub hl [0, 2, 3, 4] rfl)
        refine lv_iload_n hx hb dL_isSound_91 rfl (lv_at hl 1 rfl) ?_
        refine lv_aload_n hx hb dL_isSound_92 rfl (lv_at hl 3 rfl) ?_
        refine lv_iload_n hx hb dL_isSound_93 rfl (lv_at hl 0 rfl) ?_
        refine g_calli S h (c_X6_stack l D L cy _ A _ (h.2.2.2.2 _) _ (nI_pos (by omega)) (by rw [hn6]; exact nI_lt (by omega) (by omega))) (cwV 1 hts gL_isSound_X6_stack rfl rfl rfl (by decide +kernel) ⟨Nat.le_of_ble_eq_true rfl, Nat.le_of_ble_eq_true rfl⟩) (g_pre h gk_c0 (by decide) rfl rfl _) rfl hl.1 rfl (Nat.le_of_ble_eq_true rfl) dL_isSound_94 ⟨Nat.le_of_ble_eq_true rfl, Nat.le_of_ble_eq_true rfl⟩ (fun H locs h => ?_)
        refine lv_topi (fun x52 ex52 => ?_)
        have ex52 : x52 = (nI (rl st (sc w)).length) := ex52.trans hs1
        subst ex52
        refine lv_iadd hx hb dL_isSound_97 ?_
        refine lv_topi (fun x53 ex53 => ?_)
        have ex53 : x53 = (nI (sk + (rl st (sc w)).length)) := ex53.trans (nI_add sk _)
        subst ex53
        obtain ⟨sk2, hk2⟩ : ∃ sk2, sk2 = sk + (rl st (sc w)).length := ⟨_, rfl⟩
        rw [← hk2]
        have hk2 : sk2 = sm (fun v => (rl st (sc v)).length) (w + 1) := by rw [hk2, hsk]; rfl
        refine lv_istore_n (lv' := [(2, .int (nI sk2)), (3, .int (nI w)), (1, .ref o), (0, .ref (L 0))]) hx hb dL_isSound_98 rfl hl (by decide) rfl (fun ls hl => ?_)
        refine lv_aload_n hx hb dL_isSound_99 rfl (lv_at hl 3 rfl) ?_
        refine lv_iload_n hx hb dL_isSound_100 rfl (lv_at hl 1 rfl) ?_
        refine g_calli S h (c_X6_top l D L cy _ A _ (h.2.2.2.2 _) _ (nI_pos (by omega)) (by rw [hn6]; exact nI_lt (by omega) (by omega))) (cwV 1 hts gL_isSound_X6_top rfl rfl rfl (by decide +kernel) ⟨Nat.le_of_ble_eq_true rfl, Nat.le_of_ble_eq_true rfl⟩) (g_pre h gk_c0 (by decide) rfl rfl _) rfl hl.1 rfl (Nat.le_of_ble_eq_true rfl) dL_isSound_101 ⟨Nat.le_of_ble_eq_true rfl, Nat.le_of_ble_eq_true rfl⟩ (fun H locs h => ?_)
        rcases so_top hJ hlt with ⟨z1, z2⟩ | ⟨z1, t, ht, z2, z3⟩
        · refine lv_topi (fun x54 ex54 => ?_)
          have ex54 : x54 = (-1) := ex54.trans z2
          subst ex54
          refine lv_istore (lv' := [(4, .int (-1)), (2, .int (nI sk2)), (3, .int (nI w)), (1, .ref o), (0, .ref (L 0))]) hx hb dL_isSound_104 hl (by decide) rfl (fun ls hl => ?_)
          refine lv_iload hx hb dL_isSound_106 (lv_at hl 0 rfl) ?_
          refine lv_if_ge (tgt := 115) hx hb dL_isSound_108 (by decide) (fun c55 => absurd c55 (by decide)) (fun c55 => ?_)
          refine lv_iconst (v := 1) hx hb dL_isSound_111 (by decide) ?_
          refine lv_goto (tgt := 116) hx hb dL_isSound_112 (by decide) ?_
          refine lv_aload_n hx hb dL_isSound_116 rfl (lv_at hl 4 rfl) ?_
          refine lv_iload_n hx hb dL_isSound_117 rfl (lv_at hl 2 rfl) ?_
          refine g_calli S h (c_X6_stack l D L cy _ A _ (h.2.2.2.2 _) _ (nI_pos (by omega)) (by rw [hn6]; exact nI_lt (by omega) (by omega))) (cwV 1 hts gL_isSound_X6_stack rfl rfl rfl (by decide +kernel) ⟨Nat.le_of_ble_eq_true rfl, Nat.le_of_ble_eq_true rfl⟩) (g_pre h gk_c0 (by decide) rfl rfl _) rfl hl.1 rfl (Nat.le_of_ble_eq_true rfl) dL_isSound_118 ⟨Nat.le_of_ble_eq_true rfl, Nat.le_of_ble_eq_true rfl⟩ (fun H locs h => ?_)
          refine lv_topi (fun x56 ex56 => ?_)
          have ex56 : x56 = 0 := ex56.trans (by rw [hs1, z1]; rfl)
          subst ex56
          refine lv_if_ne (tgt := 128) hx hb dL_isSound_121 (by decide) (fun c1 => absurd rfl c1) (fun _ => ?_)
          refine lv_iconst (v := 1) hx hb dL_isSound_124 (by decide) ?_
          refine lv_goto (tgt := 129) hx hb dL_isSound_125 (by decide) ?_
          refine lv_icmp_ne (tgt := 184) hx hb dL_isSound_129 (by decide) (fun c1 => absurd rfl c1) (fun _ => ?_)
          refine lv_iload hx hb dL_isSound_132 (lv_at hl 0 rfl) ?_
          refine lv_if_lt (tgt := 157) hx hb dL_isSound_134 (by decide) (fun c57 => ?_) (fun c57 => absurd (by decide) c57)
          exact j157 _ _ _ _ ls hk2 h (lv_sub hl [0, 2, 1, 3, 4] rfl)
        · refine lv_topi (fun x58 ex58 => ?_)
          have ex58 : x58 = (nI t) := ex58.trans z2
          subst ex58
          refine lv_istore (lv' := [(4, .int (nI t)), (2, .int (nI sk2)), (3, .int (nI w)), (1, .ref o), (0, .ref (L 0))]) hx hb dL_isSound_104 hl (by decide) rfl (fun ls hl => ?_)
          refine lv_iload hx hb dL_isSound_106 (lv_at hl 0 rfl) ?_
          refine lv_if_ge (tgt := 115) hx hb dL_isSound_108 (by decide) (fun c59 => ?_) (fun c59 => absurd (nI_pos' (by omega)) c59)
          refine lv_iconst (v := 0) hx hb dL_isSound_115 (by decide) ?_
          refine lv_aload_n hx hb dL_isSound_116 rfl (lv_at hl 4 rfl) ?_
          refine lv_iload_n hx hb dL_isSound_117 rfl (lv_at hl 2 rfl) ?_
          refine g_calli S h (c_X6_stack l D L cy _ A _ (h.2.2.2.2 _) _ (nI_pos (by omega)) (by rw [hn6]; exact nI_lt (by omega) (by omega))) (cwV 1 hts gL_isSound_X6_stack rfl rfl rfl (by decide +kernel) ⟨Nat.le_of_ble_eq_true rfl, Nat.le_of_ble_eq_true rfl⟩) (g_pre h gk_c0 (by decide) rfl rfl _) rfl hl.1 rfl (Nat.le_of_ble_eq_true rfl) dL_isSound_118 ⟨Nat.le_of_ble_eq_true rfl, Nat.le_of_ble_eq_true rfl⟩ (fun H locs h => ?_)
          refine lv_topi (fun x60 ex60 => ?_)
          have ex60 : x60 = (nI (rl st (sc w)).length) := ex60.trans hs1
          subst ex60
          refine lv_if_ne (tgt := 128) hx hb dL_isSound_121 (by decide) (fun _ => ?_) (fun c1 => absurd c1 (nI_ne0 z1 (by omega)))
          refine lv_iconst (v := 0) hx hb dL_isSound_128 (by decide) ?_
          refine lv_icmp_ne (tgt := 184) hx hb dL_isSound_129 (by decide) (fun c1 => absurd rfl c1) (fun _ => ?_)
          refine lv_iload hx hb dL_isSound_132 (lv_at hl 0 rfl) ?_
          refine lv_if_lt (tgt := 157) hx hb dL_isSound_134 (by decide) (fun c61 => absurd c61 (nI_pos (by omega))) (fun c61 => ?_)
          refine lv_aload_n hx hb dL_isSound_137 rfl (lv_at hl 4 rfl) ?_
          refine lv_iload hx hb dL_isSound_138 (lv_at hl 0 rfl) ?_
          refine g_calli S h (c_X6_stateOf l D L cy _ A _ (h.2.2.2.2 _) _ (nI_pos (by omega)) (by rw [hn3]; exact nI_lt (by omega) (by omega))) (cwV 1 hts gL_isSound_X6_stateOf rfl rfl rfl (by decide +kernel) ⟨Nat.le_of_ble_eq_true rfl, Nat.le_of_ble_eq_true rfl⟩) (g_pre h gk_c0 (by decide) rfl rfl _) rfl hl.1 rfl (Nat.le_of_ble_eq_true rfl) dL_isSound_140 ⟨Nat.le_of_ble_eq_true rfl, Nat.le_of_ble_eq_true rfl⟩ (fun H locs h => ?_)
          refine lv_topi (fun x62 ex62 => ?_)
          have ex62 : x62 = (st (43 + t) 2) := ex62.trans (so_state (by omega))
          subst ex62
          refine lv_iconst (v := 1) hx hb dL_isSound_143 (by decide) ?_
          refine lv_icmp_lt (tgt := 184) hx hb dL_isSound_144 (by decide) (fun c63 => absurd c63 (by rcases z3 with q | q | q <;> rw [q] <;> decide)) (fun c63 => ?_)
          refine lv_aload_n hx hb dL_isSound_147 rfl (lv_at hl 4 rfl) ?_
          refine lv_iload hx hb dL_isSound_148 (lv_at hl 0 rfl) ?_
          refine g_calli S h (c_X6_stateOf l D L cy _ A _ (h.2.2.2.2 _) _ (nI_pos (by omega)) (by rw [hn3]; exact nI_lt (by omega) (by omega))) (cwV 1 hts gL_isSound_X6_stateOf rfl rfl rfl (by decide +kernel) ⟨Nat.le_of_ble_eq_true rfl, Nat.le_of_ble_eq_true rfl⟩) (g_pre h gk_c0 (by decide) rfl rfl _) rfl hl.1 rfl (Nat.le_of_ble_eq_true rfl) dL_isSound_150 ⟨Nat.le_of_ble_eq_true rfl, Nat.le_of_ble_eq_true rfl⟩ (fun H locs h => ?_)
          refine lv_topi (fun x64 ex64 => ?_)
          have ex64 : x64 = (st (43 + t) 2) := ex64.trans (so_state (by omega))
          subst ex64
          refine lv_iconst (v := 3) hx hb dL_isSound_153 (by decide) ?_
          refine lv_icmp_gt (tgt := 184) hx hb dL_isSound_154 (by decide) (fun c65 => absurd c65 (by rcases z3 with q | q | q <;> rw [q] <;> decide)) (fun c65 => ?_)
          exact j157 _ _ _ _ ls hk2 h (lv_sub hl [0, 2, 1, 3, 4] rfl)
      · refine lv_icmp_ge (tgt := 192) hx hb dL_isSound_88 (by decide) (fun c66 => ?_) (fun c66 => absurd (nI_le hge (by omega)) c66)
        obtain rfl : w = wc := by omega
        refine lv_iconst (v := 0) hx hb dL_isSound_192 (by decide) ?_
        refine lv_istore_n (lv' := [(3, .int 0), (2, .int (nI sk)), (1, .ref o), (0, .ref (L 0))]) hx hb dL_isSound_193 rfl hl (by decide) rfl (fun ls hl => ?_)
        refine lv_iconst (v := 0) hx hb dL_isSound_194 (by decide) ?_
        refine lv_istore (lv' := [(4, .int 0), (3, .int 0), (2, .int (nI sk)), (1, .ref o), (0, .ref (L 0))]) hx hb dL_isSound_195 hl (by decide) rfl (fun ls hl => ?_)
        refine lv_iconst (v := 0) hx hb dL_isSound_197 (by decide) ?_
        refine lv_istore (lv' := [(5, .int 0), (4, .int 0), (3, .int 0), (2, .int (nI sk)), (1, .ref o), (0, .ref (L 0))]) hx hb dL_isSound_198 hl (by decide) rfl (fun ls hl => ?_)
        exact loopD (n + 1) 0 0 0 sk f _ _ ls (by omega) (by omega) rfl rfl hsk hf h (lv_sub hl [0, 1, 2, 3, 4, 5] rfl)
  have loopA : ∀ (mm j : Nat) (f : Nat → Int32) (H : Heap) (locs : List Loc) (ls : Array Slot), j ≤ wc + 1 → wc + 1 < mm + j → (∀ s, s < 24 → f s = nI (sm (fun i => cnt st (rc i) s) j)) → gH D L cy ((o, .inl (cy 0, 24, .inl f)) :: X) A st s H locs → lv_has ls 10 [(2, .int (wv j)), (1, .ref o), (0, .ref (L 0))] → W p l e { frames := 5, cells := 1, slots := 24, locals := 150 } s m args below meth c H locs 1 24 (MQ below (va_Qi (fun (q : Int32) (_ : Unit) => q = 1) (fun _ t => va_P D vwCl (X ++ gW L cy st) t.heap) A) args s 1 24 A) (F0 m 7 ls []) := by
    intro mm
    induction mm with
    | zero => intros; omega
    | succ mm ihA =>
      intro j f H locs ls hj hm hf h hl
      refine lv_iload_n hx hb dL_isSound_7 rfl (lv_at hl 0 rfl) ?_
      refine lv_aload_n hx hb dL_isSound_8 rfl (lv_at hl 2 rfl) ?_
      refine g_calli S h (c_X6_workers l D L cy _ A _ (h.2.2.2.2 _)) (cwV 0 hts gL_isSound_X6_workers rfl rfl rfl (by decide +kernel) ⟨Nat.le_of_ble_eq_true rfl, Nat.le_of_ble_eq_true rfl⟩) (g_pre h gk_c0 (by decide) rfl rfl _) rfl hl.1 rfl (Nat.le_of_ble_eq_true rfl) dL_isSound_9 ⟨Nat.le_of_ble_eq_true rfl, Nat.le_of_ble_eq_true rfl⟩ (fun H locs h => ?_)
      refine lv_topi (fun x67 ex67 => ?_)
      have ex67 : x67 = (nI wc) := ex67.trans hn6
      subst ex67
      rcases Nat.lt_or_ge wc j with hge | hlt
      · refine lv_icmp_ge (tgt := 79) hx hb dL_isSound_12 (by decide) (fun c68 => ?_) (fun c68 => absurd (wv_ge hge (by omega)) c68)
        obtain rfl : j = wc + 1 := by omega
        refine lv_iconst (v := 0) hx hb dL_isSound_79 (by decide) ?_
        refine lv_istore_n (lv' := [(2, .int 0), (1, .ref o), (0, .ref (L 0))]) hx hb dL_isSound_80 rfl hl (by decide) rfl (fun ls hl => ?_)
        refine lv_iconst (v := 0) hx hb dL_isSound_81 (by decide) ?_
        refine lv_istore_n (lv' := [(3, .int 0), (2, .int 0), (1, .ref o), (0, .ref (L 0))]) hx hb dL_isSound_82 rfl hl (by decide) rfl (fun ls hl => ?_)
        exact loopC (wc + 1) 0 0 f _ _ ls (by omega) (by omega) rfl hf h (lv_sub hl [0, 1, 2, 3] rfl)
      · refine lv_icmp_ge (tgt := 79) hx hb dL_isSound_12 (by decide) (fun c69 => absurd c69 (wv_lt hlt hwc)) (fun c69 => ?_)
        have loopB : ∀ (mb k : Nat) (f : Nat → Int32) (H : Heap) (locs : List Loc) (ls : Array Slot), k ≤ (rl st (rc j)).length → (rl st (rc j)).length < mb + k → (∀ s, s < 24 → f s = nI (sm (fun i => cnt st (rc i) s) j + ((rl st (rc j)).take k).count (nI s))) → gH D L cy ((o, .inl (cy 0, 24, .inl f)) :: X) A st s H locs → lv_has ls 10 [(3, .int (nI k)), (2, .int (wv j)), (1, .ref o), (0, .ref (L 0))] → W p l e { frames := 5, cells := 1, slots := 24, locals := 150 } s m args below meth c H locs 1 24 (MQ below (va_Qi (fun (q : Int32) (_ : Unit) => q = 1) (fun _ t => va_P D vwCl (X ++ gW L cy st) t.heap) A) args s 1 24 A) (F0 m 17 ls []) := by
          intro mb
          induction mb with
          | zero => intros; omega
          | succ mb ihB =>
            intro k f H locs ls hk hm2 hf h hl
            have hl24 := (rok_len (hJ.2.1.1 j hlt).1).2
            refine lv_iload_n hx hb dL_isSound_17 rfl (lv_at hl 0 rfl) ?_
            refine lv_aload_n hx hb dL_isSound_18 rfl (lv_at hl 3 rfl) ?_
            refine lv_iload_n hx hb dL_isSound_19 rfl (lv_at hl 1 rfl) ?_
            refine g_calli S h (c_X6_row l D L cy _ A _ (h.2.2.2.2 _) _ (wv_hd1 (by omega)) (by rw [hn6]; exact wv_hd2 hlt hwc)) (cwV 1 hts gL_isSound_X6_row rfl rfl rfl (by decide +kernel) ⟨Nat.le_of_ble_eq_true rfl, Nat.le_of_ble_eq_true rfl⟩) (g_pre h gk_c0 (by decide) rfl rfl _) rfl hl.1 rfl (Nat.le_of_ble_eq_true rfl) dL_isSound_20 ⟨Nat.le_of_ble_eq_true rfl, Nat.le_of_ble_eq_true rfl⟩ (fun H locs h => ?_)
            refine lv_topi (fun x70 ex70 => ?_)
            have ex70 : x70 = (nI (rl st (rc j)).length) := ex70.trans (so_rowlen hJ hlt)
            subst ex70
            rcases Nat.lt_or_ge k (rl st (rc j)).length with hk1 | hk1
            · refine lv_icmp_ge (tgt := 73) hx hb dL_isSound_23 (by decide) (fun c71 => absurd c71 (nI_ge hk1 (by omega))) (fun c71 => ?_)
              obtain ⟨t, ht, et, hst, hco⟩ := so_inRow hJ hlt hk1
              refine lv_aload_n hx hb dL_isSound_26 rfl (lv_at hl 3 rfl) ?_
              refine lv_iload_n hx hb dL_isSound_27 rfl (lv_at hl 1 rfl) ?_
              refine lv_iload_n hx hb dL_isSound_28 rfl (lv_at hl 0 rfl) ?_
              refine g_calli S h (c_X6_inRow l D L cy _ A _ (h.2.2.2.2 _) _ _ (wv_hd1 (by omega)) (by rw [hn6]; exact wv_hd2 hlt hwc) (nI_pos (by omega)) (so_hd4 hJ hlt hk1)) (cwV 2 hts gL_isSound_X6_inRow rfl rfl rfl (by decide +kernel) ⟨Nat.le_of_ble_eq_true rfl, Nat.le_of_ble_eq_true rfl⟩) (g_pre h gk_c0 (by decide) rfl rfl _) rfl hl.1 rfl (Nat.le_of_ble_eq_true rfl) dL_isSound_29 ⟨Nat.le_of_ble_eq_true rfl, Nat.le_of_ble_eq_true rfl⟩ (fun H locs h => ?_)
              refine lv_topi (fun x72 ex72 => ?_)
              have ex72 : x72 = (nI t) := ex72.trans et
              subst ex72
              refine lv_istore (lv' := [(4, .int (nI t)), (3, .int (nI k)), (2, .int (wv j)), (1, .ref o), (0, .ref (L 0))]) hx hb dL_isSound_32 hl (by decide) rfl (fun ls hl => ?_)
              refine lv_iload hx hb dL_isSound_34 (lv_at hl 0 rfl) ?_
              refine lv_if_lt (tgt := 57) hx hb dL_isSound_36 (by decide) (fun c73 => absurd c73 (nI_pos (by omega))) (fun c73 => ?_)
              refine lv_iload hx hb dL_isSound_39 (lv_at hl 0 rfl) ?_
              refine lv_aload_n hx hb dL_isSound_41 rfl (lv_at hl 4 rfl) ?_
              refine g_calli S h (c_X6_tasks l D L cy _ A _ (h.2.2.2.2 _)) (cwV 0 hts gL_isSound_X6_tasks rfl rfl rfl (by decide +kernel) ⟨Nat.le_of_ble_eq_true rfl, Nat.le_of_ble_eq_true rfl⟩) (g_pre h gk_c0 (by decide) rfl rfl _) rfl hl.1 rfl (Nat.le_of_ble_eq_true rfl) dL_isSound_42 ⟨Nat.le_of_ble_eq_true rfl, Nat.le_of_ble_eq_true rfl⟩ (fun H locs h => ?_)
              refine lv_topi (fun x74 ex74 => ?_)
              have ex74 : x74 = (nI n) := ex74.trans hn3
              subst ex74
              refine lv_icmp_ge (tgt := 57) hx hb dL_isSound_45 (by decide) (fun c75 => absurd c75 (nI_ge ht (by omega))) (fun c75 => ?_)
              refine lv_aload_n hx hb dL_isSound_48 rfl (lv_at hl 4 rfl) ?_
              refine lv_iload hx hb dL_isSound_49 (lv_at hl 0 rfl) ?_
              refine g_calli S h (c_X6_stateOf l D L cy _ A _ (h.2.2.2.2 _) _ (nI_pos (by omega)) (by rw [hn3]; exact nI_lt (by omega) (by omega))) (cwV 1 hts gL_isSound_X6_stateOf rfl rfl rfl (by decide +kernel) ⟨Nat.le_of_ble_eq_true rfl, Nat.le_of_ble_eq_true rfl⟩) (g_pre h gk_c0 (by decide) rfl rfl _) rfl hl.1 rfl (Nat.le_of_ble_eq_true rfl) dL_isSound_51 ⟨Nat.le_of_ble_eq_true rfl, Nat.le_of_ble_eq_true rfl⟩ (fun H locs h => ?_)
              refine lv_topi (fun x76 ex76 => ?_)
              have ex76 : x76 = 0 := ex76.trans ((so_state (by omega)).trans hst)
              subst ex76
              refine lv_if_eq (tgt := 59) hx hb dL_isSound_54 (by decide) (fun c77 => ?_) (fun c77 => absurd rfl c77)
              refine lv_aload_n hx hb dL_isSound_59 rfl (lv_at hl 3 rfl) ?_
              refine lv_iload hx hb dL_isSound_60 (lv_at hl 0 rfl) ?_
              refine lv_dup2_11 hx hb dL_isSound_62 rfl rfl ?_
              refine s_ial S h (vp_in_nI (by omega) (by omega)) dL_isSound_63 ?_
              refine lv_iconst (v := 1) hx hb dL_isSound_64 (by decide) ?_
              refine lv_iadd hx hb dL_isSound_65 ?_
              refine s_ias S h (vp_in_nI (by omega) (by omega)) dL_isSound_66 (fun H locs h => ?_)
              refine lv_iinc (v := (nI (k + 1))) (lv' := [(3, .int (nI (k + 1))), (4, .int (nI t)), (2, .int (wv j)), (1, .ref o), (0, .ref (L 0))]) hx hb dL_isSound_67 hl (k := 1) rfl (nI_1 _) (by decide) rfl (fun ls hl => ?_)
              refine lv_goto (tgt := 17) hx hb dL_isSound_70 (by decide) ?_
              refine ihB (k + 1) _ _ _ ls (by omega) (by omega) (fun s hs => ?_) h (lv_sub hl [0, 2, 3, 4] rfl)
              rw [nI_clamp (by omega), hco s]
              unfold upd
              by_cases c : s = t
              · subst c
                rw [if_pos rfl, if_pos rfl, hf s hs, nI_1]
                rfl
              · rw [if_neg c, if_neg (fun q => c ((nI_eq (by omega) (by omega)).mp q)), hf s hs]
                rfl
            · refine lv_icmp_ge (tgt := 73) hx hb dL_isSound_23 (by decide) (fun c78 => ?_) (fun c78 => absurd (nI_le hk1 (by omega)) c78)
              refine lv_iinc (v := wv (j + 1)) (lv' := [(2, .int (wv (j + 1))), (3, .int (nI k)), (1, .ref o), (0, .ref (L 0))]) hx hb dL_isSound_73 hl (k := 1) rfl (wv_s j) (by decide) rfl (fun ls hl => ?_)
              refine lv_goto (tgt := 7) hx hb dL_isSound_76 (by decide) ?_
              refine ihA (j + 1) f _ _ ls (by omega) (by omega) (fun s hs => ?_) h (lv_sub hl [0, 2, 3] rfl)
              rw [hf s hs, List.take_of_length_le hk1]
              rfl
        refine lv_iconst (v := 0) hx hb dL_isSound_15 (by decide) ?_
        refine lv_istore_n (lv' := [(3, .int 0), (2, .int (wv j)), (1, .ref o), (0, .ref (L 0))]) hx hb dL_isSound_16 rfl hl (by decide) rfl (fun ls hl => ?_)
        exact loopB ((rl st (rc j)).length + 1) 0 f _ _ ls (by omega) (by omega) (fun s hs => by rw [hf s hs]; rfl) h (lv_sub hl [0, 1, 2, 3] rfl)
  refine lv_astore_n (lv' := [(1, .ref o), (0, .ref (L 0))]) hx hb dL_isSound_4 rfl hl (by decide) rfl (fun ls hl => ?_)
  refine lv_iconst (v := (-1)) hx hb dL_isSound_5 (by decide) ?_
  refine lv_istore_n (lv' := [(2, .int (-1)), (1, .ref o), (0, .ref (L 0))]) hx hb dL_isSound_6 rfl hl (by decide) rfl (fun ls hl => ?_)
  exact loopA (wc + 2) 0 (fun _ => 0) _ _ ls (by omega) (by omega) (fun s hs => rfl) h (lv_sub hl [0, 1, 2] rfl)
