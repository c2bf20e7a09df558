set_option maxHeartbeats 8000000 in
set_option maxRecDepth 100000 in
/-- isJob -/
theorem c_X6_isJob (l : Launch) (D : va_G) (L : Nat → Nat) (cy : Nat → ClassId) (X : va_W) (A : Nat → Prop) (st : gSt) (hD : va_D A (X ++ gW L cy st)) (job : Int32)  : gMi l yX6_isJob wsX6_isJob { frames := 0, cells := 0, slots := 0, locals := 0 } D L cy X A [.ref (L 0), .int job] st (f_X6_isJob st job) st := by
  refine g_entry hD (cc := cX6_isJob) (maxL := 2) (ret := (some .boolean)) (by decide +kernel) rfl (Nat.le_of_ble_eq_true rfl) ?_
  intro p e s m args below meth c ls B
  obtain ⟨S, hr, hlocks, h, hl⟩ := B
  have hx := S.1
  have hb := S.2.1
  have hts := S.2.2.2.2
  have in0 : ∀ w ∈ wsX00, w ∈ wsX6_isJob := by decide +kernel
  have in6 : ∀ w ∈ wsX60, w ∈ wsX6_isJob := by decide +kernel
  have hl : lv_has ls 2 [(0, .ref (L 0)), (1, .int job)] := hl
  refine lv_iload_n hx hb dX6_isJob_0 rfl (lv_at hl 1 rfl) ?_
  refine lv_if_lt (tgt := 19) hx hb dX6_isJob_1 (by decide) (fun c1 => ?_) (fun c1 => ?_)
  · refine lv_iconst (v := 0) hx hb dX6_isJob_19 (by decide) ?_
    exact g_reti S h hr hlocks rfl (by first | (simp only [f_X6_isJob, if_pos c1]; done) | (simp only [f_X6_isJob, if_pos c1]; rfl) | rfl) rfl dX6_isJob_20
  · refine lv_iload_n hx hb dX6_isJob_4 rfl (lv_at hl 1 rfl) ?_
    refine lv_aload_n hx hb dX6_isJob_5 rfl (lv_at hl 0 rfl) ?_
    refine g_get S h gk_c0 (by decide) rfl rfl in6 (k := 0) (by decide) (by decide +kernel) rfl dX6_isJob_6 ?_
    refine g_getN S h gk_c1 (by decide) rfl rfl in0 (k := 2) (by decide) (by decide +kernel) rfl dX6_isJob_9 ?_
    refine lv_icmp_ge (tgt := 19) hx hb dX6_isJob_12 (by decide) (fun c2 => ?_) (fun c2 => ?_)
    · refine lv_iconst (v := 0) hx hb dX6_isJob_19 (by decide) ?_
      exact g_reti S h hr hlocks rfl (by first | (simp only [f_X6_isJob, if_neg c1, if_pos c2]; done) | (simp only [f_X6_isJob, if_neg c1, if_pos c2]; rfl) | rfl) rfl dX6_isJob_20
    · refine lv_iconst (v := 1) hx hb dX6_isJob_15 (by decide) ?_
      refine lv_goto (tgt := 20) hx hb dX6_isJob_16 (by decide) ?_
      exact g_reti S h hr hlocks rfl (by first | (simp only [f_X6_isJob, if_neg c1, if_neg c2]; done) | (simp only [f_X6_isJob, if_neg c1, if_neg c2]; rfl) | rfl) rfl dX6_isJob_20
set_option maxHeartbeats 8000000 in
set_option maxRecDepth 100000 in
/-- isPromise -/
theorem c_X6_isPromise (l : Launch) (D : va_G) (L : Nat → Nat) (cy : Nat → ClassId) (X : va_W) (A : Nat → Prop) (st : gSt) (hD : va_D A (X ++ gW L cy st)) (pr : Int32)  : gMi l yX6_isPromise wsX6_isPromise { frames := 0, cells := 0, slots := 0, locals := 0 } D L cy X A [.int pr] st (f_X6_isPromise st pr) st := by
  refine g_entry hD (cc := cX6_isPromise) (maxL := 1) (ret := (some .boolean)) (by decide +kernel) rfl (Nat.le_of_ble_eq_true rfl) ?_
  intro p e s m args below meth c ls B
  obtain ⟨S, hr, hlocks, h, hl⟩ := B
  have hx := S.1
  have hb := S.2.1
  have hts := S.2.2.2.2
  have hl : lv_has ls 1 [(0, .int pr)] := hl
  refine lv_iload_n hx hb dX6_isPromise_0 rfl (lv_at hl 0 rfl) ?_
  refine lv_if_lt (tgt := 14) hx hb dX6_isPromise_1 (by decide) (fun c1 => ?_) (fun c1 => ?_)
  · refine lv_iconst (v := 0) hx hb dX6_isPromise_14 (by decide) ?_
    exact g_reti S h hr hlocks rfl (by first | (simp only [f_X6_isPromise, if_pos c1]; done) | (simp only [f_X6_isPromise, if_pos c1]; rfl) | rfl) rfl dX6_isPromise_15
  · refine lv_iload_n hx hb dX6_isPromise_4 rfl (lv_at hl 0 rfl) ?_
    refine lv_bipush (v := 6) hx hb dX6_isPromise_5 (by decide) ?_
    refine lv_icmp_ge (tgt := 14) hx hb dX6_isPromise_7 (by decide) (fun c2 => ?_) (fun c2 => ?_)
    · refine lv_iconst (v := 0) hx hb dX6_isPromise_14 (by decide) ?_
      exact g_reti S h hr hlocks rfl (by first | (simp only [f_X6_isPromise, if_neg c1, if_pos c2]; done) | (simp only [f_X6_isPromise, if_neg c1, if_pos c2]; rfl) | rfl) rfl dX6_isPromise_15
    · refine lv_iconst (v := 1) hx hb dX6_isPromise_10 (by decide) ?_
      refine lv_goto (tgt := 15) hx hb dX6_isPromise_11 (by decide) ?_
      exact g_reti S h hr hlocks rfl (by first | (simp only [f_X6_isPromise, if_neg c1, if_neg c2]; done) | (simp only [f_X6_isPromise, if_neg c1, if_neg c2]; rfl) | rfl) rfl dX6_isPromise_15
theorem b_isJob {s : gSt} {j : Int32} : f_X6_isJob s j = 0 ∨ f_X6_isJob s j = 1 := by
  simp only [f_X6_isJob]
  split
  · exact Or.inl rfl
  · split
    · exact Or.inl rfl
    · exact Or.inr rfl
theorem b_isPromise {s : gSt} {j : Int32} : f_X6_isPromise s j = 0 ∨ f_X6_isPromise s j = 1 := by
  simp only [f_X6_isPromise]
  split
  · exact Or.inl rfl
  · split
    · exact Or.inl rfl
    · exact Or.inr rfl
set_option maxHeartbeats 8000000 in
set_option maxRecDepth 100000 in
/-- isStep -/
theorem c_X6_isStep (l : Launch) (D : va_G) (L : Nat → Nat) (cy : Nat → ClassId) (X : va_W) (A : Nat → Prop) (st : gSt) (hD : va_D A (X ++ gW L cy st)) (code0 : Int32) (n0 : Int32)  : gMi l yX6_isStep wsX6_isStep { frames := 1, cells := 0, slots := 0, locals := 21 } D L cy X A [.ref (L 0), .int code0, .int n0] st (f_X6_isStep st code0 n0) st := by
  refine g_entry hD (cc := cX6_isStep) (maxL := 3) (ret := (some .boolean)) (by decide +kernel) rfl (Nat.le_of_ble_eq_true rfl) ?_
  intro p e s m args below meth c ls B
  obtain ⟨S, hr, hlocks, h, hl⟩ := B
  have hx := S.1
  have hb := S.2.1
  have hts := S.2.2.2.2
  have hl : lv_has ls 3 [(0, .ref (L 0)), (1, .int code0), (2, .int n0)] := hl
  refine lv_iload_n hx hb dX6_isStep_0 rfl (lv_at hl 1 rfl) ?_
  by_cases c1 : code0 = 0
  · refine lv_tableIn (x := code0) (off := 55) (tgt := 56) hx hb dX6_isStep_1 (by rw [c1]; decide) (by rw [c1]; decide) (by rw [c1]; rfl) (by decide) ?_
    refine lv_iload_n hx hb dX6_isStep_56 rfl (lv_at hl 2 rfl) ?_
    refine lv_iconst (v := 1) hx hb dX6_isStep_57 (by decide) ?_
    refine lv_icmp_lt (tgt := 71) hx hb dX6_isStep_58 (by decide) (fun c2 => ?_) (fun c2 => ?_)
    · refine lv_iconst (v := 0) hx hb dX6_isStep_71 (by decide) ?_
      exact g_reti S h hr hlocks rfl (by first | (simp only [f_X6_isStep, if_pos c1, if_pos c2]; done) | (simp only [f_X6_isStep, if_pos c1, if_pos c2]; rfl) | rfl) rfl dX6_isStep_72
    · refine lv_iload_n hx hb dX6_isStep_61 rfl (lv_at hl 2 rfl) ?_
      refine lv_bipush (v := 20) hx hb dX6_isStep_62 (by decide) ?_
      refine lv_icmp_gt (tgt := 71) hx hb dX6_isStep_64 (by decide) (fun c3 => ?_) (fun c3 => ?_)
      · refine lv_iconst (v := 0) hx hb dX6_isStep_71 (by decide) ?_
        exact g_reti S h hr hlocks rfl (by first | (simp only [f_X6_isStep, if_pos c1, if_neg c2, if_pos c3]; done) | (simp only [f_X6_isStep, if_pos c1, if_neg c2, if_pos c3]; rfl) | rfl) rfl dX6_isStep_72
      · refine lv_iconst (v := 1) hx hb dX6_isStep_67 (by decide) ?_
        refine lv_goto (tgt := 72) hx hb dX6_isStep_68 (by decide) ?_
        exact g_reti S h hr hlocks rfl (by first | (simp only [f_X6_isStep, if_pos c1, if_neg c2, if_neg c3]; done) | (simp only [f_X6_isStep, if_pos c1, if_neg c2, if_neg c3]; rfl) | rfl) rfl dX6_isStep_72
  · by_cases c4 : code0 = 1
    · refine lv_tableIn (x := code0) (off := 72) (tgt := 73) hx hb dX6_isStep_1 (by rw [c4]; decide) (by rw [c4]; decide) (by rw [c4]; rfl) (by decide) ?_
      refine lv_aload_n hx hb dX6_isStep_73 rfl (lv_at hl 0 rfl) ?_
      refine lv_iload_n hx hb dX6_isStep_74 rfl (lv_at hl 2 rfl) ?_
      refine g_calli S h (c_X6_isJob l D L cy X A _ (h.2.2.2.2 _) _) (cwV 1 hts gX6_isStep_X6_isJob rfl rfl rfl (by decide +kernel) ⟨Nat.le_of_ble_eq_true rfl, Nat.le_of_ble_eq_true rfl⟩) (g_pre h gk_c0 (by decide) rfl rfl _) rfl hl.1 rfl (Nat.le_of_ble_eq_true rfl) dX6_isStep_75 ⟨Nat.zero_le _, Nat.zero_le _⟩ (fun H locs h => ?_)
      exact g_reti S h hr hlocks (nb_of b_isJob) (by first | (simp only [f_X6_isStep, if_neg c1, if_pos c4]; done) | (simp only [f_X6_isStep, if_neg c1, if_pos c4]; rfl) | rfl) rfl dX6_isStep_78
    · by_cases c5 : code0 = 2
      · refine lv_tableIn (x := code0) (off := 101) (tgt := 102) hx hb dX6_isStep_1 (by rw [c5]; decide) (by rw [c5]; decide) (by rw [c5]; rfl) (by decide) ?_
        refine lv_iload_n hx hb dX6_isStep_102 rfl (lv_at hl 1 rfl) ?_
        refine lv_if_lt (tgt := 116) hx hb dX6_isStep_103 (by decide) (fun c6 => ?_) (fun c6 => ?_)
        · refine lv_iconst (v := 0) hx hb dX6_isStep_116 (by decide) ?_
          exact g_reti S h hr hlocks rfl (by first | (simp only [f_X6_isStep, if_neg c1, if_neg c4, if_pos c5, if_pos c6]; done) | (simp only [f_X6_isStep, if_neg c1, if_neg c4, if_pos c5, if_pos c6]; rfl) | rfl) rfl dX6_isStep_117
        · refine lv_iload_n hx hb dX6_isStep_106 rfl (lv_at hl 1 rfl) ?_
          refine lv_bipush (v := 9) hx hb dX6_isStep_107 (by decide) ?_
          refine lv_icmp_gt (tgt := 116) hx hb dX6_isStep_109 (by decide) (fun c7 => ?_) (fun c7 => ?_)
          · refine lv_iconst (v := 0) hx hb dX6_isStep_116 (by decide) ?_
            exact g_reti S h hr hlocks rfl (by first | (simp only [f_X6_isStep, if_neg c1, if_neg c4, if_pos c5, if_neg c6, if_pos c7]; done) | (simp only [f_X6_isStep, if_neg c1, if_neg c4, if_pos c5, if_neg c6, if_pos c7]; rfl) | rfl) rfl dX6_isStep_117
          · refine lv_iconst (v := 1) hx hb dX6_isStep_112 (by decide) ?_
            refine lv_goto (tgt := 117) hx hb dX6_isStep_113 (by decide) ?_
            exact g_reti S h hr hlocks rfl (by first | (simp only [f_X6_isStep, if_neg c1, if_neg c4, if_pos c5, if_neg c6, if_neg c7]; done) | (simp only [f_X6_isStep, if_neg c1, if_neg c4, if_pos c5, if_neg c6, if_neg c7]; rfl) | rfl) rfl dX6_isStep_117
      · by_cases c8 : code0 = 3
        · refine lv_tableIn (x := code0) (off := 101) (tgt := 102) hx hb dX6_isStep_1 (by rw [c8]; decide) (by rw [c8]; decide) (by rw [c8]; rfl) (by decide) ?_
          refine lv_iload_n hx hb dX6_isStep_102 rfl (lv_at hl 1 rfl) ?_
          refine lv_if_lt (tgt := 116) hx hb dX6_isStep_103 (by decide) (fun c9 => ?_) (fun c9 => ?_)
          · refine lv_iconst (v := 0) hx hb dX6_isStep_116 (by decide) ?_
            exact g_reti S h hr hlocks rfl (by first | (simp only [f_X6_isStep, if_neg c1, if_neg c4, if_neg c5, if_pos c8, if_pos c9]; done) | (simp only [f_X6_isStep, if_neg c1, if_neg c4, if_neg c5, if_pos c8, if_pos c9]; rfl) | rfl) rfl dX6_isStep_117
          · refine lv_iload_n hx hb dX6_isStep_106 rfl (lv_at hl 1 rfl) ?_
            refine lv_bipush (v := 9) hx hb dX6_isStep_107 (by decide) ?_
            refine lv_icmp_gt (tgt := 116) hx hb dX6_isStep_109 (by decide) (fun c10 => ?_) (fun c10 => ?_)
            · refine lv_iconst (v := 0) hx hb dX6_isStep_116 (by decide) ?_
              exact g_reti S h hr hlocks rfl (by first | (simp only [f_X6_isStep, if_neg c1, if_neg c4, if_neg c5, if_pos c8, if_neg c9, if_pos c10]; done) | (simp only [f_X6_isStep, if_neg c1, if_neg c4, if_neg c5, if_pos c8, if_neg c9, if_pos c10]; rfl) | rfl) rfl dX6_isStep_117
            · refine lv_iconst (v := 1) hx hb dX6_isStep_112 (by decide) ?_
              refine lv_goto (tgt := 117) hx hb dX6_isStep_113 (by decide) ?_
              exact g_reti S h hr hlocks rfl (by first | (simp only [f_X6_isStep, if_neg c1, if_neg c4, if_neg c5, if_pos c8, if_neg c9, if_neg c10]; done) | (simp only [f_X6_isStep, if_neg c1, if_neg c4, if_neg c5, if_pos c8, if_neg c9, if_neg c10]; rfl) | rfl) rfl dX6_isStep_117
        · by_cases c11 : code0 = 4
          · refine lv_tableIn (x := code0) (off := 101) (tgt := 102) hx hb dX6_isStep_1 (by rw [c11]; decide) (by rw [c11]; decide) (by rw [c11]; rfl) (by decide) ?_
            refine lv_iload_n hx hb dX6_isStep_102 rfl (lv_at hl 1 rfl) ?_
            refine lv_if_lt (tgt := 116) hx hb dX6_isStep_103 (by decide) (fun c12 => ?_) (fun c12 => ?_)
            · refine lv_iconst (v := 0) hx hb dX6_isStep_116 (by decide) ?_
              exact g_reti S h hr hlocks rfl (by first | (simp only [f_X6_isStep, if_neg c1, if_neg c4, if_neg c5, if_neg c8, if_pos c11, if_pos c12]; done) | (simp only [f_X6_isStep, if_neg c1, if_neg c4, if_neg c5, if_neg c8, if_pos c11, if_pos c12]; rfl) | rfl) rfl dX6_isStep_117
            · refine lv_iload_n hx hb dX6_isStep_106 rfl (lv_at hl 1 rfl) ?_
              refine lv_bipush (v := 9) hx hb dX6_isStep_107 (by decide) ?_
              refine lv_icmp_gt (tgt := 116) hx hb dX6_isStep_109 (by decide) (fun c13 => ?_) (fun c13 => ?_)
              · refine lv_iconst (v := 0) hx hb dX6_isStep_116 (by decide) ?_
                exact g_reti S h hr hlocks rfl (by first | (simp only [f_X6_isStep, if_neg c1, if_neg c4, if_neg c5, if_neg c8, if_pos c11, if_neg c12, if_pos c13]; done) | (simp only [f_X6_isStep, if_neg c1, if_neg c4, if_neg c5, if_neg c8, if_pos c11, if_neg c12, if_pos c13]; rfl) | rfl) rfl dX6_isStep_117
              · refine lv_iconst (v := 1) hx hb dX6_isStep_112 (by decide) ?_
                refine lv_goto (tgt := 117) hx hb dX6_isStep_113 (by decide) ?_
                exact g_reti S h hr hlocks rfl (by first | (simp only [f_X6_isStep, if_neg c1, if_neg c4, if_neg c5, if_neg c8, if_pos c11, if_neg c12, if_neg c13]; done) | (simp only [f_X6_isStep, if_neg c1, if_neg c4, if_neg c5, if_neg c8, if_pos c11, if_neg c12, if_neg c13]; rfl) | rfl) rfl dX6_isStep_117
          · by_cases c14 : code0 = 5
            · refine lv_tableIn (x := code0) (off := 78) (tgt := 79) hx hb dX6_isStep_1 (by rw [c14]; decide) (by rw [c14]; decide) (by rw [c14]; rfl) (by decide) ?_
              refine lv_iload_n hx hb dX6_isStep_79 rfl (lv_at hl 2 rfl) ?_
              refine lv_bipush (v := (-100)) hx hb dX6_isStep_80 (by decide) ?_
              refine lv_icmp_lt (tgt := 95) hx hb dX6_isStep_82 (by decide) (fun c15 => ?_) (fun c15 => ?_)
              · refine lv_iconst (v := 0) hx hb dX6_isStep_95 (by decide) ?_
                exact g_reti S h hr hlocks rfl (by first | (simp only [f_X6_isStep, if_neg c1, if_neg c4, if_neg c5, if_neg c8, if_neg c11, if_pos c14, if_pos c15]; done) | (simp only [f_X6_isStep, if_neg c1, if_neg c4, if_neg c5, if_neg c8, if_neg c11, if_pos c14, if_pos c15]; rfl) | rfl) rfl dX6_isStep_96
              · refine lv_iload_n hx hb dX6_isStep_85 rfl (lv_at hl 2 rfl) ?_
                refine lv_bipush (v := 100) hx hb dX6_isStep_86 (by decide) ?_
                refine lv_icmp_gt (tgt := 95) hx hb dX6_isStep_88 (by decide) (fun c16 => ?_) (fun c16 => ?_)
                · refine lv_iconst (v := 0) hx hb dX6_isStep_95 (by decide) ?_
                  exact g_reti S h hr hlocks rfl (by first | (simp only [f_X6_isStep, if_neg c1, if_neg c4, if_neg c5, if_neg c8, if_neg c11, if_pos c14, if_neg c15, if_pos c16]; done) | (simp only [f_X6_isStep, if_neg c1, if_neg c4, if_neg c5, if_neg c8, if_neg c11, if_pos c14, if_neg c15, if_pos c16]; rfl) | rfl) rfl dX6_isStep_96
                · refine lv_iconst (v := 1) hx hb dX6_isStep_91 (by decide) ?_
                  refine lv_goto (tgt := 96) hx hb dX6_isStep_92 (by decide) ?_
                  exact g_reti S h hr hlocks rfl (by first | (simp only [f_X6_isStep, if_neg c1, if_neg c4, if_neg c5, if_neg c8, if_neg c11, if_pos c14, if_neg c15, if_neg c16]; done) | (simp only [f_X6_isStep, if_neg c1, if_neg c4, if_neg c5, if_neg c8, if_neg c11, if_pos c14, if_neg c15, if_neg c16]; rfl) | rfl) rfl dX6_isStep_96
            · by_cases c17 : code0 = 6
              · refine lv_tableIn (x := code0) (off := 101) (tgt := 102) hx hb dX6_isStep_1 (by rw [c17]; decide) (by rw [c17]; decide) (by rw [c17]; rfl) (by decide) ?_
                refine lv_iload_n hx hb dX6_isStep_102 rfl (lv_at hl 1 rfl) ?_
                refine lv_if_lt (tgt := 116) hx hb dX6_isStep_103 (by decide) (fun c18 => ?_) (fun c18 => ?_)
                · refine lv_iconst (v := 0) hx hb dX6_isStep_116 (by decide) ?_
                  exact g_reti S h hr hlocks rfl (by first | (simp only [f_X6_isStep, if_neg c1, if_neg c4, if_neg c5, if_neg c8, if_neg c11, if_neg c14, if_pos c17, if_pos c18]; done) | (simp only [f_X6_isStep, if_neg c1, if_neg c4, if_neg c5, if_neg c8, if_neg c11, if_neg c14, if_pos c17, if_pos c18]; rfl) | rfl) rfl dX6_isStep_117
                · refine lv_iload_n hx hb dX6_isStep_106 rfl (lv_at hl 1 rfl) ?_
                  refine lv_bipush (v := 9) hx hb dX6_isStep_107 (by decide) ?_
                  refine lv_icmp_gt (tgt := 116) hx hb dX6_isStep_109 (by decide) (fun c19 => ?_) (fun c19 => ?_)
                  · refine lv_iconst (v := 0) hx hb dX6_isStep_116 (by decide) ?_
                    exact g_reti S h hr hlocks rfl (by first | (simp only [f_X6_isStep, if_neg c1, if_neg c4, if_neg c5, if_neg c8, if_neg c11, if_neg c14, if_pos c17, if_neg c18, if_pos c19]; done) | (simp only [f_X6_isStep, if_neg c1, if_neg c4, if_neg c5, if_neg c8, if_neg c11, if_neg c14, if_pos c17, if_neg c18, if_pos c19]; rfl) | rfl) rfl dX6_isStep_117
                  · refine lv_iconst (v := 1) hx hb dX6_isStep_112 (by decide) ?_
                    refine lv_goto (tgt := 117) hx hb dX6_isStep_113 (by decide) ?_
                    exact g_reti S h hr hlocks rfl (by first | (simp only [f_X6_isStep, if_neg c1, if_neg c4, if_neg c5, if_neg c8, if_neg c11, if_neg c14, if_pos c17, if_neg c18, if_neg c19]; done) | (simp only [f_X6_isStep, if_neg c1, if_neg c4, if_neg c5, if_neg c8, if_neg c11, if_neg c14, if_pos c17, if_neg c18, if_neg c19]; rfl) | rfl) rfl dX6_isStep_117
              · by_cases c20 : code0 = 7
                · refine lv_tableIn (x := code0) (off := 101) (tgt := 102) hx hb dX6_isStep_1 (by rw [c20]; decide) (by rw [c20]; decide) (by rw [c20]; rfl) (by decide) ?_
                  refine lv_iload_n hx hb dX6_isStep_102 rfl (lv_at hl 1 rfl) ?_
                  refine lv_if_lt (tgt := 116) hx hb dX6_isStep_103 (by decide) (fun c21 => ?_) (fun c21 => ?_)
                  · refine lv_iconst (v := 0) hx hb dX6_isStep_116 (by decide) ?_
                    exact g_reti S h hr hlocks rfl (by first | (simp only [f_X6_isStep, if_neg c1, if_neg c4, if_neg c5, if_neg c8, if_neg c11, if_neg c14, if_neg c17, if_pos c20, if_pos c21]; done) | (simp only [f_X6_isStep, if_neg c1, if_neg c4, if_neg c5, if_neg c8, if_neg c11, if_neg c14, if_neg c17, if_pos c20, if_pos c21]; rfl) | rfl) rfl dX6_isStep_117
                  · refine lv_iload_n hx hb dX6_isStep_106 rfl (lv_at hl 1 rfl) ?_
                    refine lv_bipush (v := 9) hx hb dX6_isStep_107 (by decide) ?_
                    refine lv_icmp_gt (tgt := 116) hx hb dX6_isStep_109 (by decide) (fun c22 => ?_) (fun c22 => ?_)
                    · refine lv_iconst (v := 0) hx hb dX6_isStep_116 (by decide) ?_
                      exact g_reti S h hr hlocks rfl (by first | (simp only [f_X6_isStep, if_neg c1, if_neg c4, if_neg c5, if_neg c8, if_neg c11, if_neg c14, if_neg c17, if_pos c20, if_neg c21, if_pos c22]; done) | (simp only [f_X6_isStep, if_neg c1, if_neg c4, if_neg c5, if_neg c8, if_neg c11, if_neg c14, if_neg c17, if_pos c20, if_neg c21, if_pos c22]; rfl) | rfl) rfl dX6_isStep_117
                    · refine lv_iconst (v := 1) hx hb dX6_isStep_112 (by decide) ?_
                      refine lv_goto (tgt := 117) hx hb dX6_isStep_113 (by decide) ?_
                      exact g_reti S h hr hlocks rfl (by first | (simp only [f_X6_isStep, if_neg c1, if_neg c4, if_neg c5, if_neg c8, if_neg c11, if_neg c14, if_neg c17, if_pos c20, if_neg c21, if_neg c22]; done) | (simp only [f_X6_isStep, if_neg c1, if_neg c4, if_neg c5, if_neg c8, if_neg c11, if_neg c14, if_neg c17, if_pos c20, if_neg c21, if_neg c22]; rfl) | rfl) rfl dX6_isStep_117
                · by_cases c23 : code0 = 8
                  · refine lv_tableIn (x := code0) (off := 96) (tgt := 97) hx hb dX6_isStep_1 (by rw [c23]; decide) (by rw [c23]; decide) (by rw [c23]; rfl) (by decide) ?_
                    refine lv_iload_n hx hb dX6_isStep_97 rfl (lv_at hl 2 rfl) ?_
                    refine g_calliS S h (c_X6_isPromise l D L cy X A _ (h.2.2.2.2 _) _) (cwS 1 hts gX6_isStep_X6_isPromise rfl rfl rfl (by decide +kernel) ⟨Nat.le_of_ble_eq_true rfl, Nat.le_of_ble_eq_true rfl⟩) rfl hl.1 rfl (Nat.le_of_ble_eq_true rfl) dX6_isStep_98 ⟨Nat.zero_le _, Nat.zero_le _⟩ (fun H locs h => ?_)
                    exact g_reti S h hr hlocks (nb_of b_isPromise) (by first | (simp only [f_X6_isStep, if_neg c1, if_neg c4, if_neg c5, if_neg c8, if_neg c11, if_neg c14, if_neg c17, if_neg c20, if_pos c23]; done) | (simp only [f_X6_isStep, if_neg c1, if_neg c4, if_neg c5, if_neg c8, if_neg c11, if_neg c14, if_neg c17, if_neg c20, if_pos c23]; rfl) | rfl) rfl dX6_isStep_101
                  · by_cases c24 : code0 = 9
                    · refine lv_tableIn (x := code0) (off := 96) (tgt := 97) hx hb dX6_isStep_1 (by rw [c24]; decide) (by rw [c24]; decide) (by rw [c24]; rfl) (by decide) ?_
                      refine lv_iload_n hx hb dX6_isStep_97 rfl (lv_at hl 2 rfl) ?_
                      refine g_calliS S h (c_X6_isPromise l D L cy X A _ (h.2.2.2.2 _) _) (cwS 1 hts gX6_isStep_X6_isPromise rfl rfl rfl (by decide +kernel) ⟨Nat.le_of_ble_eq_true rfl, Nat.le_of_ble_eq_true rfl⟩) rfl hl.1 rfl (Nat.le_of_ble_eq_true rfl) dX6_isStep_98 ⟨Nat.zero_le _, Nat.zero_le _⟩ (fun H locs h => ?_)
                      exact g_reti S h hr hlocks (nb_of b_isPromise) (by first | (simp only [f_X6_isStep, if_neg c1, if_neg c4, if_neg c5, if_neg c8, if_neg c11, if_neg c14, if_neg c17, if_neg c20, if_neg c23, if_pos c24]; done) | (simp only [f_X6_isStep, if_neg c1, if_neg c4, if_neg c5, if_neg c8, if_neg c11, if_neg c14, if_neg c17, if_neg c20, if_neg c23, if_pos c24]; rfl) | rfl) rfl dX6_isStep_101
                    · refine lv_tableOut (tgt := 102) hx hb dX6_isStep_1 (g_out10 c1 c4 c5 c8 c11 c14 c17 c20 c23 c24) (by decide) ?_
                      refine lv_iload_n hx hb dX6_isStep_102 rfl (lv_at hl 1 rfl) ?_
                      refine lv_if_lt (tgt := 116) hx hb dX6_isStep_103 (by decide) (fun c25 => ?_) (fun c25 => ?_)
                      · refine lv_iconst (v := 0) hx hb dX6_isStep_116 (by decide) ?_
                        exact g_reti S h hr hlocks rfl (by first | (simp only [f_X6_isStep, if_neg c1, if_neg c4, if_neg c5, if_neg c8, if_neg c11, if_neg c14, if_neg c17, if_neg c20, if_neg c23, if_neg c24, if_pos c25]; done) | (simp only [f_X6_isStep, if_neg c1, if_neg c4, if_neg c5, if_neg c8, if_neg c11, if_neg c14, if_neg c17, if_neg c20, if_neg c23, if_neg c24, if_pos c25]; rfl) | rfl) rfl dX6_isStep_117
                      · refine lv_iload_n hx hb dX6_isStep_106 rfl (lv_at hl 1 rfl) ?_
                        refine lv_bipush (v := 9) hx hb dX6_isStep_107 (by decide) ?_
                        refine lv_icmp_gt (tgt := 116) hx hb dX6_isStep_109 (by decide) (fun c26 => ?_) (fun c26 => ?_)
                        · refine lv_iconst (v := 0) hx hb dX6_isStep_116 (by decide) ?_
                          exact g_reti S h hr hlocks rfl (by first | (simp only [f_X6_isStep, if_neg c1, if_neg c4, if_neg c5, if_neg c8, if_neg c11, if_neg c14, if_neg c17, if_neg c20, if_neg c23, if_neg c24, if_neg c25, if_pos c26]; done) | (simp only [f_X6_isStep, if_neg c1, if_neg c4, if_neg c5, if_neg c8, if_neg c11, if_neg c14, if_neg c17, if_neg c20, if_neg c23, if_neg c24, if_neg c25, if_pos c26]; rfl) | rfl) rfl dX6_isStep_117
                        · refine lv_iconst (v := 1) hx hb dX6_isStep_112 (by decide) ?_
                          refine lv_goto (tgt := 117) hx hb dX6_isStep_113 (by decide) ?_
                          exact g_reti S h hr hlocks rfl (by first | (simp only [f_X6_isStep, if_neg c1, if_neg c4, if_neg c5, if_neg c8, if_neg c11, if_neg c14, if_neg c17, if_neg c20, if_neg c23, if_neg c24, if_neg c25, if_neg c26]; done) | (simp only [f_X6_isStep, if_neg c1, if_neg c4, if_neg c5, if_neg c8, if_neg c11, if_neg c14, if_neg c17, if_neg c20, if_neg c23, if_neg c24, if_neg c25, if_neg c26]; rfl) | rfl) rfl dX6_isStep_117
set_option maxHeartbeats 8000000 in
set_option maxRecDepth 100000 in
/-- needJob -/
theorem c_X6_needJob (l : Launch) (D : va_G) (L : Nat → Nat) (cy : Nat → ClassId) (X : va_W) (A : Nat → Prop) (st : gSt) (hD : va_D A (X ++ gW L cy st)) (job : Int32)  (hd1 : ¬ ((f_X6_isJob st job) = 0)) : gMv l yX6_needJob wsX6_needJob { frames := 1, cells := 0, slots := 0, locals := 21 } D L cy X A [.ref (L 0), .int job] st st := by
  refine g_entry hD (cc := cX6_needJob) (maxL := 2) (ret := none) (by decide +kernel) rfl (Nat.le_of_ble_eq_true rfl) ?_
  intro p e s m args below meth c ls B
  obtain ⟨S, hr, hlocks, h, hl⟩ := B
  have hx := S.1
  have hb := S.2.1
  have hts := S.2.2.2.2
  have hl : lv_has ls 2 [(0, .ref (L 0)), (1, .int job)] := hl
  refine lv_aload_n hx hb dX6_needJob_0 rfl (lv_at hl 0 rfl) ?_
  refine lv_iload_n hx hb dX6_needJob_1 rfl (lv_at hl 1 rfl) ?_
  refine g_calli S h (c_X6_isJob l D L cy X A _ (h.2.2.2.2 _) _) (cwV 1 hts gX6_needJob_X6_isJob rfl rfl rfl (by decide +kernel) ⟨Nat.le_of_ble_eq_true rfl, Nat.le_of_ble_eq_true rfl⟩) (g_pre h gk_c0 (by decide) rfl rfl _) rfl hl.1 rfl (Nat.le_of_ble_eq_true rfl) dX6_needJob_2 ⟨Nat.zero_le _, Nat.zero_le _⟩ (fun H locs h => ?_)
  refine lv_if_ne (tgt := 19) hx hb dX6_needJob_5 (by decide) (fun c1 => ?_) (fun c1 => ?_)
  · exact g_retv S h hr hlocks rfl dX6_needJob_19
  · exact absurd c1 hd1
set_option maxHeartbeats 8000000 in
set_option maxRecDepth 100000 in
/-- needTask -/
theorem c_X6_needTask (l : Launch) (D : va_G) (L : Nat → Nat) (cy : Nat → ClassId) (X : va_W) (A : Nat → Prop) (st : gSt) (hD : va_D A (X ++ gW L cy st)) (tk0 : Int32)  (hd1 : ¬ (tk0 < (0 : Int32))) (hd2 : tk0 < (st 30 3)) : gMv l yX6_needTask wsX6_needTask { frames := 0, cells := 0, slots := 0, locals := 0 } D L cy X A [.ref (L 0), .int tk0] st st := by
  refine g_entry hD (cc := cX6_needTask) (maxL := 2) (ret := none) (by decide +kernel) rfl (Nat.le_of_ble_eq_true rfl) ?_
  intro p e s m args below meth c ls B
  obtain ⟨S, hr, hlocks, h, hl⟩ := B
  have hx := S.1
  have hb := S.2.1
  have hts := S.2.2.2.2
  have in1 : ∀ w ∈ wsX10, w ∈ wsX6_needTask := by decide +kernel
  have in6 : ∀ w ∈ wsX60, w ∈ wsX6_needTask := by decide +kernel
  have hl : lv_has ls 2 [(0, .ref (L 0)), (1, .int tk0)] := hl
  refine lv_iload_n hx hb dX6_needTask_0 rfl (lv_at hl 1 rfl) ?_
  refine lv_if_lt (tgt := 15) hx hb dX6_needTask_1 (by decide) (fun c1 => ?_) (fun c1 => ?_)
  · exact absurd c1 hd1
  · refine lv_iload_n hx hb dX6_needTask_4 rfl (lv_at hl 1 rfl) ?_
    refine lv_aload_n hx hb dX6_needTask_5 rfl (lv_at hl 0 rfl) ?_
    refine g_get S h gk_c0 (by decide) rfl rfl in6 (k := 1) (by decide) (by decide +kernel) rfl dX6_needTask_6 ?_
    refine g_getN S h gk_c30 (by decide) rfl rfl in1 (k := 3) (by decide) (by decide +kernel) rfl dX6_needTask_9 ?_
    refine lv_icmp_lt (tgt := 26) hx hb dX6_needTask_12 (by decide) (fun c2 => ?_) (fun c2 => ?_)
    · exact g_retv S h hr hlocks rfl dX6_needTask_26
    · exact absurd hd2 c2
set_option maxHeartbeats 8000000 in
set_option maxRecDepth 100000 in
/-- needWorker -/
theorem c_X6_needWorker (l : Launch) (D : va_G) (L : Nat → Nat) (cy : Nat → ClassId) (X : va_W) (A : Nat → Prop) (st : gSt) (hD : va_D A (X ++ gW L cy st)) (wk0 : Int32)  (hd1 : ¬ (wk0 < (0 : Int32))) (hd2 : wk0 < (st 30 6)) : gMv l yX6_needWorker wsX6_needWorker { frames := 0, cells := 0, slots := 0, locals := 0 } D L cy X A [.ref (L 0), .int wk0] st st := by
  refine g_entry hD (cc := cX6_needWorker) (maxL := 2) (ret := none) (by decide +kernel) rfl (Nat.le_of_ble_eq_true rfl) ?_
  intro p e s m args below meth c ls B
  obtain ⟨S, hr, hlocks, h, hl⟩ := B
  have hx := S.1
  have hb := S.2.1
  have hts := S.2.2.2.2
  have in1 : ∀ w ∈ wsX10, w ∈ wsX6_needWorker := by decide +kernel
  have in6 : ∀ w ∈ wsX60, w ∈ wsX6_needWorker := by decide +kernel
  have hl : lv_has ls 2 [(0, .ref (L 0)), (1, .int wk0)] := hl
  refine lv_iload_n hx hb dX6_needWorker_0 rfl (lv_at hl 1 rfl) ?_
  refine lv_if_lt (tgt := 15) hx hb dX6_needWorker_1 (by decide) (fun c1 => ?_) (fun c1 => ?_)
  · exact absurd c1 hd1
  · refine lv_iload_n hx hb dX6_needWorker_4 rfl (lv_at hl 1 rfl) ?_
    refine lv_aload_n hx hb dX6_needWorker_5 rfl (lv_at hl 0 rfl) ?_
    refine g_get S h gk_c0 (by decide) rfl rfl in6 (k := 1) (by decide) (by decide +kernel) rfl dX6_needWorker_6 ?_
    refine g_getN S h gk_c30 (by decide) rfl rfl in1 (k := 6) (by decide) (by decide +kernel) rfl dX6_needWorker_9 ?_
    refine lv_icmp_lt (tgt := 26) hx hb dX6_needWorker_12 (by decide) (fun c2 => ?_) (fun c2 => ?_)
    · exact g_retv S h hr hlocks rfl dX6_needWorker_26
    · exact absurd hd2 c2
set_option maxHeartbeats 8000000 in
set_option maxRecDepth 100000 in
/-- needPromise -/
theorem c_X6_needPromise (l : Launch) (D : va_G) (L : Nat → Nat) (cy : Nat → ClassId) (X : va_W) (A : Nat → Prop) (st : gSt) (hD : va_D A (X ++ gW L cy st)) (pr : Int32)  (hd1 : ¬ ((f_X6_isPromise st pr) = 0)) : gMv l yX6_needPromise wsX6_needPromise { frames := 1, cells := 0, slots := 0, locals := 20 } D L cy X A [.int pr] st st := by
  refine g_entry hD (cc := cX6_needPromise) (maxL := 1) (ret := none) (by decide +kernel) rfl (Nat.le_of_ble_eq_true rfl) ?_
  intro p e s m args below meth c ls B
  obtain ⟨S, hr, hlocks, h, hl⟩ := B
  have hx := S.1
  have hb := S.2.1
  have hts := S.2.2.2.2
  have hl : lv_has ls 1 [(0, .int pr)] := hl
  refine lv_iload_n hx hb dX6_needPromise_0 rfl (lv_at hl 0 rfl) ?_
  refine g_calliS S h (c_X6_isPromise l D L cy X A _ (h.2.2.2.2 _) _) (cwS 1 hts gX6_needPromise_X6_isPromise rfl rfl rfl (by decide +kernel) ⟨Nat.le_of_ble_eq_true rfl, Nat.le_of_ble_eq_true rfl⟩) rfl hl.1 rfl (Nat.le_of_ble_eq_true rfl) dX6_needPromise_1 ⟨Nat.zero_le _, Nat.zero_le _⟩ (fun H locs h => ?_)
  refine lv_if_ne (tgt := 18) hx hb dX6_needPromise_4 (by decide) (fun c1 => ?_) (fun c1 => ?_)
  · exact g_retv S h hr hlocks rfl dX6_needPromise_18
  · exact absurd c1 hd1
set_option maxHeartbeats 8000000 in
set_option maxRecDepth 100000 in
/-- needWorkerCount -/
theorem c_X6_needWorkerCount (l : Launch) (D : va_G) (L : Nat → Nat) (cy : Nat → ClassId) (X : va_W) (A : Nat → Prop) (st : gSt) (hD : va_D A (X ++ gW L cy st)) (nw : Int32)  (hd1 : ¬ (nw < (1 : Int32))) (hd2 : nw ≤ (5 : Int32)) : gMv l yX6_needWorkerCount wsX6_needWorkerCount { frames := 0, cells := 0, slots := 0, locals := 0 } D L cy X A [.int nw] st st := by
  refine g_entry hD (cc := cX6_needWorkerCount) (maxL := 1) (ret := none) (by decide +kernel) rfl (Nat.le_of_ble_eq_true rfl) ?_
  intro p e s m args below meth c ls B
  obtain ⟨S, hr, hlocks, h, hl⟩ := B
  have hx := S.1
  have hb := S.2.1
  have hts := S.2.2.2.2
  have hl : lv_has ls 1 [(0, .int nw)] := hl
  refine lv_iload_n hx hb dX6_needWorkerCount_0 rfl (lv_at hl 0 rfl) ?_
  refine lv_iconst (v := 1) hx hb dX6_needWorkerCount_1 (by decide) ?_
  refine lv_icmp_lt (tgt := 10) hx hb dX6_needWorkerCount_2 (by decide) (fun c1 => ?_) (fun c1 => ?_)
  · exact absurd c1 hd1
  · refine lv_iload_n hx hb dX6_needWorkerCount_5 rfl (lv_at hl 0 rfl) ?_
    refine lv_iconst (v := 5) hx hb dX6_needWorkerCount_6 (by decide) ?_
    refine lv_icmp_le (tgt := 21) hx hb dX6_needWorkerCount_7 (by decide) (fun c2 => ?_) (fun c2 => ?_)
    · exact g_retv S h hr hlocks rfl dX6_needWorkerCount_21
    · exact absurd hd2 c2
set_option maxHeartbeats 8000000 in
set_option maxRecDepth 100000 in
/-- needWay -/
theorem c_X6_needWay (l : Launch) (D : va_G) (L : Nat → Nat) (cy : Nat → ClassId) (X : va_W) (A : Nat → Prop) (st : gSt) (hD : va_D A (X ++ gW L cy st)) (wy : Int32)  (hd1 : ¬ (wy < (0 : Int32))) (hd2 : wy ≤ (2 : Int32)) : gMv l yX6_needWay wsX6_needWay { frames := 0, cells := 0, slots := 0, locals := 0 } D L cy X A [.int wy] st st := by
  refine g_entry hD (cc := cX6_needWay) (maxL := 1) (ret := none) (by decide +kernel) rfl (Nat.le_of_ble_eq_true rfl) ?_
  intro p e s m args below meth c ls B
  obtain ⟨S, hr, hlocks, h, hl⟩ := B
  have hx := S.1
  have hb := S.2.1
  have hts := S.2.2.2.2
  have hl : lv_has ls 1 [(0, .int wy)] := hl
  refine lv_iload_n hx hb dX6_needWay_0 rfl (lv_at hl 0 rfl) ?_
  refine lv_if_lt (tgt := 9) hx hb dX6_needWay_1 (by decide) (fun c1 => ?_) (fun c1 => ?_)
  · exact absurd c1 hd1
  · refine lv_iload_n hx hb dX6_needWay_4 rfl (lv_at hl 0 rfl) ?_
    refine lv_iconst (v := 2) hx hb dX6_needWay_5 (by decide) ?_
    refine lv_icmp_le (tgt := 20) hx hb dX6_needWay_6 (by decide) (fun c2 => ?_) (fun c2 => ?_)
    · exact g_retv S h hr hlocks rfl dX6_needWay_20
    · exact absurd hd2 c2
set_option maxHeartbeats 8000000 in
set_option maxRecDepth 100000 in
/-- needTicksAhead -/
theorem c_X6_needTicksAhead (l : Launch) (D : va_G) (L : Nat → Nat) (cy : Nat → ClassId) (X : va_W) (A : Nat → Prop) (st : gSt) (hD : va_D A (X ++ gW L cy st)) (ta : Int32)  (hd1 : ¬ (ta < (1 : Int32))) (hd2 : ta ≤ (60 : Int32)) : gMv l yX6_needTicksAhead wsX6_needTicksAhead { frames := 0, cells := 0, slots := 0, locals := 0 } D L cy X A [.int ta] st st := by
  refine g_entry hD (cc := cX6_needTicksAhead) (maxL := 1) (ret := none) (by decide +kernel) rfl (Nat.le_of_ble_eq_true rfl) ?_
  intro p e s m args below meth c ls B
  obtain ⟨S, hr, hlocks, h, hl⟩ := B
  have hx := S.1
  have hb := S.2.1
  have hts := S.2.2.2.2
  have hl : lv_has ls 1 [(0, .int ta)] := hl
  refine lv_iload_n hx hb dX6_needTicksAhead_0 rfl (lv_at hl 0 rfl) ?_
  refine lv_iconst (v := 1) hx hb dX6_needTicksAhead_1 (by decide) ?_
  refine lv_icmp_lt (tgt := 11) hx hb dX6_needTicksAhead_2 (by decide) (fun c1 => ?_) (fun c1 => ?_)
  · exact absurd c1 hd1
  · refine lv_iload_n hx hb dX6_needTicksAhead_5 rfl (lv_at hl 0 rfl) ?_
    refine lv_bipush (v := 60) hx hb dX6_needTicksAhead_6 (by decide) ?_
    refine lv_icmp_le (tgt := 22) hx hb dX6_needTicksAhead_8 (by decide) (fun c2 => ?_) (fun c2 => ?_)
    · exact g_retv S h hr hlocks rfl dX6_needTicksAhead_22
    · exact absurd hd2 c2
set_option maxHeartbeats 8000000 in
set_option maxRecDepth 100000 in
/-- needRow -/
theorem c_X6_needRow (l : Launch) (D : va_G) (L : Nat → Nat) (cy : Nat → ClassId) (X : va_W) (A : Nat → Prop) (st : gSt) (hD : va_D A (X ++ gW L cy st)) (wk0 : Int32) (hr1 : ¬ wk0 = (-1 : Int32) → ¬ wk0 < (0 : Int32)) (hr2 : ¬ wk0 = (-1 : Int32) → wk0 < (st 30 6)) : gMv l yX6_needRow wsX6_needRow { frames := 1, cells := 0, slots := 0, locals := 21 } D L cy X A [.ref (L 0), .int wk0] st st := by
  refine g_entry hD (cc := cX6_needRow) (maxL := 2) (ret := none) (by decide +kernel) rfl (Nat.le_of_ble_eq_true rfl) ?_
  intro p e s m args below meth c ls B
  obtain ⟨S, hr, hlocks, h, hl⟩ := B
  have hx := S.1
  have hb := S.2.1
  have hts := S.2.2.2.2
  have hl : lv_has ls 2 [(0, .ref (L 0)), (1, .int wk0)] := hl
  refine lv_iload_n hx hb dX6_needRow_0 rfl (lv_at hl 1 rfl) ?_
  refine lv_iconst (v := (-1)) hx hb dX6_needRow_1 (by decide) ?_
  refine lv_icmp_eq (tgt := 10) hx hb dX6_needRow_2 (by decide) (fun c1 => ?_) (fun c1 => ?_)
  · exact g_retv S h hr hlocks rfl dX6_needRow_10
  · refine lv_aload_n hx hb dX6_needRow_5 rfl (lv_at hl 0 rfl) ?_
    refine lv_iload_n hx hb dX6_needRow_6 rfl (lv_at hl 1 rfl) ?_
    refine g_callv S h (c_X6_needWorker l D L cy X A _ (h.2.2.2.2 _) _ (hr1 c1) (hr2 c1)) (cwV 1 hts gX6_needRow_X6_needWorker rfl rfl rfl (by decide +kernel) ⟨Nat.le_of_ble_eq_true rfl, Nat.le_of_ble_eq_true rfl⟩) (g_pre h gk_c0 (by decide) rfl rfl _) rfl hl.1 rfl (Nat.le_of_ble_eq_true rfl) dX6_needRow_7 ⟨Nat.zero_le _, Nat.zero_le _⟩ (fun H locs h => ?_)
    exact g_retv S h hr hlocks rfl dX6_needRow_10
