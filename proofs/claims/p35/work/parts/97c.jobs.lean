/-! jobs: the book is written. -/
set_option maxHeartbeats 16000000 in
set_option maxRecDepth 100000 in
theorem c_L_jobs (l : Launch) (D : va_G) (L : Nat → Nat) (cy : Nat → ClassId) (X : va_W) (A : Nat → Prop) (st : gSt) (hD : va_D A (X ++ gW L cy st)) (b Lb : Nat) (xs : Nat → Int32) (hLb : Lb ≤ 260) {many : Nat} (hm1 : 1 ≤ many) (hm6 : many ≤ 6) (hp0 : P1 st st 0) (h3 : st 30 3 = 0) : Met l yL_jobs wsL_jobs { frames := 6, cells := 50, slots := 144, locals := 200 } (jPc D L cy X A st b Lb xs [.ref (L 0), .ref b, .int (nI many)]) (va_Qr (fun (st9 : gSt) => (∀ a k, 30 ≤ a → st9 a k = st a k) ∧ st9 1 2 = nI many) (fun st9 _ t => va_P D vwCl (X ++ gW L cy st9) t.heap) A) 50 144 A := by
  refine j_entry hD (cc := cL_jobs) (maxL := 11) (ret := (some (.array (.array (.array .int))))) (by decide) rfl (Nat.le_of_ble_eq_true rfl) ?_
  intro p e s m args below meth c ls B
  obtain ⟨⟨S, hr, hlocks, h, hl, hA, hX⟩, hjX⟩ := B
  have hx := S.1
  have hb := S.2.1
  have hts := S.2.2.2.2
  have hl : lv_has ls 11 [(0, .ref (L 0)), (1, .ref b), (2, .int (nI many))] := hl
  refine lv_iload_n hx hb dL_jobs_0 rfl (lv_at hl 2 rfl) ?_
  refine s_newA S h hA (t := .array .int) (N := many) hjX.1 hjX.2.2 (nI_pos (by omega)) (nI_clamp (by omega)) (by omega) (by show _ ≤ 50; omega) (by show _ ≤ 144; omega) dL_jobs_1 (fun mo cM H hcM _ h => ?_)
  have loop2 : ∀ (co mm j : Nat) (fm : Nat → Option Nat) (st1 : gSt) (H : Heap) (locs : List Loc) (ls : Array Slot), j ≤ many → many < mm + j → P2 many st st1 j 0 → gH D L cy ((co, .inl (cy 0, 12, .inl cdf)) :: (mo, .inl (cM, many, .inr (.inr (.inr (.inr fm))))) :: X) A st1 s H locs → lv_has ls 11 [(5, .int (nI j)), (4, .ref co), (3, .ref mo), (2, .int (nI many)), (1, .ref b), (0, .ref (L 0))] → W p l e { frames := 6, cells := 50, slots := 144, locals := 200 } s m args below meth c H locs (2 + 8 * j) (18 + 21 * j) (MQ below (va_Qr (fun (st9 : gSt) => (∀ a k, 30 ≤ a → st9 a k = st a k) ∧ st9 1 2 = nI many) (fun st9 _ t => va_P D vwCl (X ++ gW L cy st9) t.heap) A) args s 50 144 A) (F0 m 92 ls []) := by
    intro co mm
    induction mm with
    | zero => intros; omega
    | succ mm ih2 =>
      intro j fm st1 H locs ls hj hm hp h hl
      refine lv_iload hx hb dL_jobs_92 (lv_at hl 0 rfl) ?_
      refine lv_iload_n hx hb dL_jobs_94 rfl (lv_at hl 3 rfl) ?_
      rcases Nat.lt_or_ge j many with hlt | hge
      · refine lv_icmp_ge (tgt := 278) hx hb dL_jobs_95 (by decide) (fun c1 => absurd c1 (nI_ge hlt (by omega))) (fun c1 => ?_)
        refine lv_aload_n hx hb dL_jobs_98 rfl (lv_at hl 4 rfl) ?_
        refine lv_iload hx hb dL_jobs_99 (lv_at hl 0 rfl) ?_
        refine s_calliS S h hA hX (c_L_cell l D L cy _ A _ (h.2.2.2.2 _) b Lb xs j (by omega) hLb) (va_cwS 2 hts gL_jobs_L_cell rfl rfl rfl (by decide +kernel) ⟨Nat.le_of_ble_eq_true rfl, Nat.le_of_ble_eq_true rfl⟩) rfl hl.1 rfl (Nat.le_of_ble_eq_true rfl) dL_jobs_101 ⟨(by show _ ≤ 50; omega), (by show _ ≤ 144; omega)⟩ (fun H locs h => ?_)
        refine lv_bipush (v := 8) hx hb dL_jobs_104 (by decide) ?_
        refine s_calliS S h hA hX (c_L_below l D L cy _ A _ (h.2.2.2.2 _) b Lb xs (cellv Lb xs j) 8 (by decide)) (va_cwS 2 hts gL_jobs_L_below rfl rfl rfl (by decide +kernel) ⟨Nat.le_of_ble_eq_true rfl, Nat.le_of_ble_eq_true rfl⟩) rfl hl.1 rfl (Nat.le_of_ble_eq_true rfl) dL_jobs_106 ⟨(by show _ ≤ 50; omega), (by show _ ≤ 144; omega)⟩ (fun H locs h => ?_)
        obtain ⟨z, hz, ez⟩ := below_ok (cellv Lb xs j) (N := 8) (by omega) (by omega)
        refine lv_topi (fun x2 ex2 => ?_)
        have ex2 : x2 = (nI z) := ex2.trans ez
        subst ex2
        refine lv_istore (lv' := [(6, .int (nI z)), (5, .int (nI j)), (4, .ref co), (3, .ref mo), (2, .int (nI many)), (1, .ref b), (0, .ref (L 0))]) hx hb dL_jobs_109 hl (by decide) rfl (fun ls hl => ?_)
        refine lv_aload_n hx hb dL_jobs_111 rfl (lv_at hl 3 rfl) ?_
        refine lv_iload hx hb dL_jobs_112 (lv_at hl 1 rfl) ?_
        refine lv_iload hx hb dL_jobs_114 (lv_at hl 0 rfl) ?_
        refine s_newA S h hA (t := .int) (N := z) (hts (.classLink RL 27 "[I") (by decide +kernel)) hjX.2.1 (nI_pos (by omega)) (nI_clamp (by omega)) (by omega) (by show _ ≤ 50; omega) (by show _ ≤ 144; omega) dL_jobs_116 (fun ro cR H hcR hnR h => ?_)
        refine s_aast (nv := 0) (q0 := 2) (qv := 0) S h rfl hcM rfl hnR (vp_in_nI hlt (by omega)) dL_jobs_119 (fun H locs h => ?_)
        rw [nI_clamp (by omega)] at h
        have h : gH D L cy ((ro, .inl (cR, z, .inr (.inr (.inr (.inr (fun _ => none)))))) :: (co, .inl (cy 0, 12, .inl cdf)) :: (mo, .inl (cM, many, .inr (.inr (.inr (.inr (va_up fm j (some ro))))))) :: X) A st1 s H locs := h
        have hfm : va_up fm j (some ro) j = some ro := by simp [va_up]
        generalize va_up fm j (some ro) = fm at h hfm
        have loop3 : ∀ (m3 k : Nat) (fr : Nat → Option Nat) (st1 : gSt) (H : Heap) (locs : List Loc) (ls : Array Slot), k ≤ z → z < m3 + k → P2 many st st1 j k → gH D L cy ((ro, .inl (cR, z, .inr (.inr (.inr (.inr fr))))) :: (co, .inl (cy 0, 12, .inl cdf)) :: (mo, .inl (cM, many, .inr (.inr (.inr (.inr fm))))) :: X) A st1 s H locs → lv_has ls 11 [(7, .int (nI k)), (6, .int (nI z)), (5, .int (nI j)), (4, .ref co), (3, .ref mo), (2, .int (nI many)), (1, .ref b), (0, .ref (L 0))] → W p l e { frames := 6, cells := 50, slots := 144, locals := 200 } s m args below meth c H locs (3 + 8 * j + k) (25 + 21 * j + 2 * k) (MQ below (va_Qr (fun (st9 : gSt) => (∀ a k, 30 ≤ a → st9 a k = st a k) ∧ st9 1 2 = nI many) (fun st9 _ t => va_P D vwCl (X ++ gW L cy st9) t.heap) A) args s 50 144 A) (F0 m 123 ls []) := by
          intro m3
          induction m3 with
          | zero => intros; omega
          | succ m3 ih3 =>
            intro k fr st1 H locs ls hk hm3 hp h hl
            refine lv_iload hx hb dL_jobs_123 (lv_at hl 0 rfl) ?_
            refine lv_iload hx hb dL_jobs_125 (lv_at hl 1 rfl) ?_
            rcases Nat.lt_or_ge k z with hkz | hkz
            · refine lv_icmp_ge (tgt := 272) hx hb dL_jobs_127 (by decide) (fun c3 => absurd c3 (nI_ge hkz (by omega))) (fun c3 => ?_)
              refine lv_aload_n hx hb dL_jobs_130 rfl (lv_at hl 6 rfl) ?_
              refine lv_iconst (v := 1) hx hb dL_jobs_131 (by decide) ?_
              refine lv_iload hx hb dL_jobs_132 (lv_at hl 2 rfl) ?_
              refine lv_iadd hx hb dL_jobs_134 ?_
              refine lv_iconst (v := 3) hx hb dL_jobs_135 (by decide) ?_
              refine lv_iload hx hb dL_jobs_136 (lv_at hl 0 rfl) ?_
              refine lv_imul hx hb dL_jobs_138 ?_
              refine lv_iadd hx hb dL_jobs_139 ?_
              refine lv_bipush (v := 16) hx hb dL_jobs_140 (by decide) ?_
              rw [show (1 : Int32) + nI j + 3 * nI k = nI (1 + j + 3 * k) from by rw [show (1 : Int32) = nI 1 from rfl, show (3 : Int32) = nI 3 from rfl, nI_add, pk_mul, nI_add]]
              refine lv_irem hx hb dL_jobs_142 (by decide) ?_
              rw [show nI (1 + j + 3 * k) - nI (1 + j + 3 * k) / 16 * 16 = nI ((1 + j + 3 * k) % 16) from pk_rem (d := 16) (by omega) (by omega) (by omega)]
              refine s_calliS S h hA hX (c_L_cell l D L cy _ A _ (h.2.2.2.2 _) b Lb xs ((1 + j + 3 * k) % 16) (by omega) hLb) (va_cwS 2 hts gL_jobs_L_cell rfl rfl rfl (by decide +kernel) ⟨Nat.le_of_ble_eq_true rfl, Nat.le_of_ble_eq_true rfl⟩) rfl hl.1 rfl (Nat.le_of_ble_eq_true rfl) dL_jobs_143 ⟨(by show _ ≤ 50; omega), (by show _ ≤ 144; omega)⟩ (fun H locs h => ?_)
              refine lv_iload hx hb dL_jobs_146 (lv_at hl 2 rfl) ?_
              refine lv_iload hx hb dL_jobs_148 (lv_at hl 0 rfl) ?_
              refine lv_iadd hx hb dL_jobs_150 ?_
              refine lv_iconst (v := 5) hx hb dL_jobs_151 (by decide) ?_
              refine lv_irem hx hb dL_jobs_152 (by decide) ?_
              refine lv_ishr hx hb dL_jobs_153 ?_
              refine lv_topi (fun x ex => ?_)
              refine lv_istore (lv' := [(8, .int x), (7, .int (nI k)), (6, .int (nI z)), (5, .int (nI j)), (4, .ref co), (3, .ref mo), (2, .int (nI many)), (1, .ref b), (0, .ref (L 0))]) hx hb dL_jobs_154 hl (by decide) rfl (fun ls hl => ?_)
              refine lv_aload hx hb dL_jobs_156 (lv_at hl 4 rfl) ?_
              refine lv_iload hx hb dL_jobs_158 (lv_at hl 0 rfl) ?_
              refine lv_bipush (v := 12) hx hb dL_jobs_160 (by decide) ?_
              refine s_calliS S h hA hX (c_L_below l D L cy _ A _ (h.2.2.2.2 _) b Lb xs x 12 (by decide)) (va_cwS 2 hts gL_jobs_L_below rfl rfl rfl (by decide +kernel) ⟨Nat.le_of_ble_eq_true rfl, Nat.le_of_ble_eq_true rfl⟩) rfl hl.1 rfl (Nat.le_of_ble_eq_true rfl) dL_jobs_162 ⟨(by show _ ≤ 50; omega), (by show _ ≤ 144; omega)⟩ (fun H locs h => ?_)
              obtain ⟨r, hr, er⟩ := below_ok x (N := 12) (by omega) (by omega)
              refine lv_topi (fun x4 ex4 => ?_)
              have ex4 : x4 = (nI r) := ex4.trans er
              subst ex4
              refine s_iald (q0 := 1) S h rfl (vp_in_nI hr (by omega)) dL_jobs_165 ?_
              obtain ⟨er1, er2⟩ := cdf_ok r hr
              rw [nI_clamp (by omega), er1]
              generalize cdl.getD r 0 = q at er1 er2 ⊢
              refine lv_istore (lv' := [(9, .int (nI q)), (8, .int x), (7, .int (nI k)), (6, .int (nI z)), (5, .int (nI j)), (4, .ref co), (3, .ref mo), (2, .int (nI many)), (1, .ref b), (0, .ref (L 0))]) hx hb dL_jobs_166 hl (by decide) rfl (fun ls hl => ?_)
              have j233 : ∀ (v : Int32) (H : Heap) (locs : List Loc) (ls : Array Slot), ¬ f_X6_isStep st1 (nI q) v = 0 → gH D L cy ((ro, .inl (cR, z, .inr (.inr (.inr (.inr fr))))) :: (co, .inl (cy 0, 12, .inl cdf)) :: (mo, .inl (cM, many, .inr (.inr (.inr (.inr fm))))) :: X) A st1 s H locs → lv_has ls 11 [(9, .int (nI q)), (8, .int x), (7, .int (nI k)), (6, .int (nI z)), (5, .int (nI j)), (4, .ref co), (3, .ref mo), (2, .int (nI many)), (1, .ref b), (0, .ref (L 0))] → W p l e { frames := 6, cells := 50, slots := 144, locals := 200 } s m args below meth c H locs (3 + 8 * j + k) (25 + 21 * j + 2 * k) (MQ below (va_Qr (fun (st9 : gSt) => (∀ a k, 30 ≤ a → st9 a k = st a k) ∧ st9 1 2 = nI many) (fun st9 _ t => va_P D vwCl (X ++ gW L cy st9) t.heap) A) args s 50 144 A) (F0 m 233 ls [.int v]) := by
                intro v H locs ls hv h hl
                refine lv_istore (lv' := [(10, .int v), (9, .int (nI q)), (8, .int x), (7, .int (nI k)), (6, .int (nI z)), (5, .int (nI j)), (4, .ref co), (3, .ref mo), (2, .int (nI many)), (1, .ref b), (0, .ref (L 0))]) hx hb dL_jobs_233 hl (by decide) rfl (fun ls hl => ?_)
                refine lv_aload_n hx hb dL_jobs_235 rfl (lv_at hl 10 rfl) ?_
                refine lv_iload hx hb dL_jobs_236 (lv_at hl 5 rfl) ?_
                refine lv_iload hx hb dL_jobs_238 (lv_at hl 1 rfl) ?_
                refine lv_iload hx hb dL_jobs_240 (lv_at hl 0 rfl) ?_
                obtain ⟨p1, p2, p3⟩ := P2_k (cd := nI q) (v := v) hp (by omega) (by omega) h3 hv
                refine g_calli S h (c_X6_addStep l D L cy _ A _ (h.2.2.2.2 _) _ _ _ (isJob_n hp.2.1 (by omega) hlt) p1 p2 hv) (cwV 3 hts gL_jobs_X6_addStep rfl rfl rfl (by decide +kernel) ⟨Nat.le_of_ble_eq_true rfl, Nat.le_of_ble_eq_true rfl⟩) (g_pre h gk_c0 (by decide) rfl rfl _) rfl hl.1 rfl (Nat.le_of_ble_eq_true rfl) dL_jobs_242 ⟨(by show _ ≤ 50; omega), (by show _ ≤ 144; omega)⟩ (fun H locs h => ?_)
                generalize (f_X6_addStep st1 (nI j) (nI q) v).2 = st2 at p3 h
                refine lv_pop hx hb dL_jobs_245 rfl ?_
                refine lv_aload_n hx hb dL_jobs_246 rfl (lv_at hl 7 rfl) ?_
                refine lv_iload hx hb dL_jobs_247 (lv_at hl 5 rfl) ?_
                refine s_aald (q0 := 2) S h rfl hcM (vp_in_nI hlt (by omega)) (by rw [nI_clamp (by omega)]; exact hfm) dL_jobs_249 ?_
                refine lv_iload hx hb dL_jobs_250 (lv_at hl 3 rfl) ?_
                refine lv_iconst (v := 2) hx hb dL_jobs_252 (by decide) ?_
                refine s_newi S h hA (N := 2) (by decide +kernel) (by decide) (by decide) (by decide) (by show _ ≤ 50; omega) (by show _ ≤ 144; omega) dL_jobs_253 (fun io H h => ?_)
                refine lv_dup hx hb dL_jobs_255 rfl ?_
                refine lv_iconst (v := 0) hx hb dL_jobs_256 (by decide) ?_
                refine lv_iload hx hb dL_jobs_257 (lv_at hl 1 rfl) ?_
                refine s_ias S h (vp_in_nI (n := 0) (by omega) (by omega)) dL_jobs_259 (fun H locs h => ?_)
                refine lv_dup hx hb dL_jobs_260 rfl ?_
                refine lv_iconst (v := 1) hx hb dL_jobs_261 (by decide) ?_
                refine lv_iload hx hb dL_jobs_262 (lv_at hl 0 rfl) ?_
                refine s_ias S h (vp_in_nI (n := 1) (by omega) (by omega)) dL_jobs_264 (fun H locs h => ?_)
                refine s_aast (nv := 0) (q0 := 1) (qv := 0) S h rfl hcR rfl (h.2.2.1.2 0 _ rfl).2 (vp_in_nI hkz (by omega)) dL_jobs_265 (fun H locs h => ?_)
                have h := gH_tl h
                refine lv_iinc (v := (nI (k + 1))) (lv' := [(7, .int (nI (k + 1))), (10, .int v), (9, .int (nI q)), (8, .int x), (6, .int (nI z)), (5, .int (nI j)), (4, .ref co), (3, .ref mo), (2, .int (nI many)), (1, .ref b), (0, .ref (L 0))]) hx hb dL_jobs_266 hl (k := 3) rfl (nI_1 _) (by decide) rfl (fun ls hl => ?_)
                refine lv_goto (tgt := 123) hx hb dL_jobs_269 (by decide) ?_
                exact ih3 (k + 1) _ st2 _ _ ls (by omega) (by omega) p3 h (lv_sub hl [0, 4, 5, 6, 7, 8, 9, 10] rfl)
              refine lv_iload hx hb dL_jobs_168 (lv_at hl 0 rfl) ?_
              by_cases q0 : q = 0
              · refine lv_if_ne (tgt := 186) hx hb dL_jobs_170 (by decide) (fun c1 => absurd (by rw [q0]; rfl) c1) (fun _ => ?_)
                refine lv_iconst (v := 1) hx hb dL_jobs_173 (by decide) ?_
                refine lv_iload hx hb dL_jobs_174 (lv_at hl 1 rfl) ?_
                refine lv_iconst (v := 3) hx hb dL_jobs_176 (by decide) ?_
                refine lv_ishr hx hb dL_jobs_177 ?_
                refine lv_iconst (v := 3) hx hb dL_jobs_178 (by decide) ?_
                refine s_calliS S h hA hX (c_L_below l D L cy _ A _ (h.2.2.2.2 _) b Lb xs _ 3 (by decide)) (va_cwS 2 hts gL_jobs_L_below rfl rfl rfl (by decide +kernel) ⟨Nat.le_of_ble_eq_true rfl, Nat.le_of_ble_eq_true rfl⟩) rfl hl.1 rfl (Nat.le_of_ble_eq_true rfl) dL_jobs_179 ⟨(by show _ ≤ 50; omega), (by show _ ≤ 144; omega)⟩ (fun H locs h => ?_)
                obtain ⟨r3, hr3, er3⟩ := below_ok (x >>> ((3 : Int32) &&& 31)) (N := 3) (by omega) (by omega)
                refine lv_topi (fun x5 ex5 => ?_)
                have ex5 : x5 = (nI r3) := ex5.trans er3
                subst ex5
                refine lv_iadd hx hb dL_jobs_182 ?_
                refine lv_topi (fun x6 ex6 => ?_)
                have ex6 : x6 = (nI (1 + r3)) := ex6.trans (nI_add 1 r3)
                subst ex6
                refine lv_goto (tgt := 233) hx hb dL_jobs_183 (by decide) ?_
                exact j233 _ _ _ ls (isStep_n hp.2.1 (by omega) er2 (fun _ => ⟨r3, hr3, rfl⟩) (fun e => by omega) (fun e => by omega) (fun e => by omega)) h (lv_sub hl [0, 1, 2, 3, 4, 5, 6, 7, 8, 9] rfl)
              · refine lv_if_ne (tgt := 186) hx hb dL_jobs_170 (by decide) (fun _ => ?_) (fun c1 => absurd c1 (nI_ne0 (by omega) (by omega)))
                refine lv_iload hx hb dL_jobs_186 (lv_at hl 0 rfl) ?_
                refine lv_iconst (v := 1) hx hb dL_jobs_188 (by decide) ?_
                by_cases q1 : q = 1
                · refine lv_icmp_ne (tgt := 203) hx hb dL_jobs_189 (by decide) (fun c1 => absurd (by rw [q1]; rfl) c1) (fun _ => ?_)
                  refine lv_iload hx hb dL_jobs_192 (lv_at hl 1 rfl) ?_
                  refine lv_iconst (v := 4) hx hb dL_jobs_194 (by decide) ?_
                  refine lv_ishr hx hb dL_jobs_195 ?_
                  refine lv_iload_n hx hb dL_jobs_196 rfl (lv_at hl 7 rfl) ?_
                  refine s_calliS S h hA hX (c_L_below l D L cy _ A _ (h.2.2.2.2 _) b Lb xs _ (nI many) (nI_ne0 (by omega) (by omega))) (va_cwS 2 hts gL_jobs_L_below rfl rfl rfl (by decide +kernel) ⟨Nat.le_of_ble_eq_true rfl, Nat.le_of_ble_eq_true rfl⟩) rfl hl.1 rfl (Nat.le_of_ble_eq_true rfl) dL_jobs_197 ⟨(by show _ ≤ 50; omega), (by show _ ≤ 144; omega)⟩ (fun H locs h => ?_)
                  obtain ⟨r3, hr3, er3⟩ := below_ok (x >>> ((4 : Int32) &&& 31)) (N := many) (by omega) (by omega)
                  refine lv_topi (fun x7 ex7 => ?_)
                  have ex7 : x7 = (nI r3) := ex7.trans er3
                  subst ex7
                  refine lv_goto (tgt := 233) hx hb dL_jobs_200 (by decide) ?_
                  exact j233 _ _ _ ls (isStep_n hp.2.1 (by omega) er2 (fun e => by omega) (fun _ => ⟨r3, hr3, rfl⟩) (fun e => by omega) (fun e => by omega)) h (lv_sub hl [0, 1, 2, 3, 4, 5, 6, 7, 8, 9] rfl)
                · refine lv_icmp_ne (tgt := 203) hx hb dL_jobs_189 (by decide) (fun _ => ?_) (fun c1 => absurd ((nI_eq (b := 1) (by omega) (by omega)).mp c1) q1)
                  refine lv_iload hx hb dL_jobs_203 (lv_at hl 0 rfl) ?_
                  refine lv_iconst (v := 5) hx hb dL_jobs_205 (by decide) ?_
                  by_cases q5 : q = 5
                  · refine lv_icmp_ne (tgt := 225) hx hb dL_jobs_206 (by decide) (fun c1 => absurd (by rw [q5]; rfl) c1) (fun _ => ?_)
                    refine lv_iload hx hb dL_jobs_209 (lv_at hl 1 rfl) ?_
                    refine lv_iconst (v := 3) hx hb dL_jobs_211 (by decide) ?_
                    refine lv_ishr hx hb dL_jobs_212 ?_
                    refine lv_sipush (v := 201) hx hb dL_jobs_213 (by decide) ?_
                    refine s_calliS S h hA hX (c_L_below l D L cy _ A _ (h.2.2.2.2 _) b Lb xs _ 201 (by decide)) (va_cwS 2 hts gL_jobs_L_below rfl rfl rfl (by decide +kernel) ⟨Nat.le_of_ble_eq_true rfl, Nat.le_of_ble_eq_true rfl⟩) rfl hl.1 rfl (Nat.le_of_ble_eq_true rfl) dL_jobs_216 ⟨(by show _ ≤ 50; omega), (by show _ ≤ 144; omega)⟩ (fun H locs h => ?_)
                    obtain ⟨r3, hr3, er3⟩ := below_ok (x >>> ((3 : Int32) &&& 31)) (N := 201) (by omega) (by omega)
                    refine lv_topi (fun x8 ex8 => ?_)
                    have ex8 : x8 = (nI r3) := ex8.trans er3
                    subst ex8
                    refine lv_bipush (v := 100) hx hb dL_jobs_219 (by decide) ?_
                    refine lv_isub hx hb dL_jobs_221 ?_
                    refine lv_goto (tgt := 233) hx hb dL_jobs_222 (by decide) ?_
                    exact j233 _ _ _ ls (isStep_n hp.2.1 (by omega) er2 (fun e => by omega) (fun e => by omega) (fun _ => ⟨r3, hr3, rfl⟩) (fun e => by omega)) h (lv_sub hl [0, 1, 2, 3, 4, 5, 6, 7, 8, 9] rfl)
                  · refine lv_icmp_ne (tgt := 225) hx hb dL_jobs_206 (by decide) (fun _ => ?_) (fun c1 => absurd ((nI_eq (b := 5) (by omega) (by omega)).mp c1) q5)
                    refine lv_iload hx hb dL_jobs_225 (lv_at hl 1 rfl) ?_
                    refine lv_iconst (v := 4) hx hb dL_jobs_227 (by decide) ?_
                    refine lv_ishr hx hb dL_jobs_228 ?_
                    refine lv_iconst (v := 3) hx hb dL_jobs_229 (by decide) ?_
                    refine s_calliS S h hA hX (c_L_below l D L cy _ A _ (h.2.2.2.2 _) b Lb xs _ 3 (by decide)) (va_cwS 2 hts gL_jobs_L_below rfl rfl rfl (by decide +kernel) ⟨Nat.le_of_ble_eq_true rfl, Nat.le_of_ble_eq_true rfl⟩) rfl hl.1 rfl (Nat.le_of_ble_eq_true rfl) dL_jobs_230 ⟨(by show _ ≤ 50; omega), (by show _ ≤ 144; omega)⟩ (fun H locs h => ?_)
                    obtain ⟨r3, hr3, er3⟩ := below_ok (x >>> ((4 : Int32) &&& 31)) (N := 3) (by omega) (by omega)
                    refine lv_topi (fun x9 ex9 => ?_)
                    have ex9 : x9 = (nI r3) := ex9.trans er3
                    subst ex9
                    exact j233 _ _ _ ls (isStep_n hp.2.1 (by omega) er2 (fun e => by omega) (fun e => by omega) (fun e => by omega) (fun _ => ⟨r3, hr3, rfl⟩)) h (lv_sub hl [0, 1, 2, 3, 4, 5, 6, 7, 8, 9] rfl)
            · refine lv_icmp_ge (tgt := 272) hx hb dL_jobs_127 (by decide) (fun c10 => ?_) (fun c10 => absurd (nI_le hkz (by omega)) c10)
              refine lv_iinc (v := (nI (j + 1))) (lv' := [(5, .int (nI (j + 1))), (7, .int (nI k)), (6, .int (nI z)), (4, .ref co), (3, .ref mo), (2, .int (nI many)), (1, .ref b), (0, .ref (L 0))]) hx hb dL_jobs_272 hl (k := 2) rfl (nI_1 _) (by decide) rfl (fun ls hl => ?_)
              refine lv_goto (tgt := 92) hx hb dL_jobs_275 (by decide) ?_
              obtain rfl : k = z := by omega
              refine W.widen (k := 2 + 8 * (j + 1)) (n := 18 + 21 * (j + 1)) (by omega) (by omega) ?_
              exact ih2 (j + 1) fm st1 _ _ ls (by omega) (by omega) (P2_j hp) (gH_tl h) (lv_sub hl [0, 3, 4, 5, 6, 7] rfl)
        refine lv_iconst (v := 0) hx hb dL_jobs_120 (by decide) ?_
        refine lv_istore (lv' := [(7, .int 0), (6, .int (nI z)), (5, .int (nI j)), (4, .ref co), (3, .ref mo), (2, .int (nI many)), (1, .ref b), (0, .ref (L 0))]) hx hb dL_jobs_121 hl (by decide) rfl (fun ls hl => ?_)
        refine W.widen (k := 3 + 8 * j + 0) (n := 25 + 21 * j + 2 * 0) (by omega) (by omega) ?_
        exact loop3 (z + 1) 0 _ st1 _ _ ls (by omega) (by omega) hp h (lv_sub hl [0, 1, 2, 3, 4, 5, 6, 7] rfl)
      · refine lv_icmp_ge (tgt := 278) hx hb dL_jobs_95 (by decide) (fun c11 => ?_) (fun c11 => absurd (nI_le hge (by omega)) c11)
        refine lv_aload_n hx hb dL_jobs_278 rfl (lv_at hl 2 rfl) ?_
        refine W.widen (k := 50) (n := 144) (by omega) (by omega) ?_
        exact W.aret hx hb hr (Or.inr ⟨_, rfl⟩) (Or.inr ⟨mo, rfl⟩) (fun t ht hW => ⟨⟨st1, mo, rfl, ⟨hp.1, hp.2.1⟩, by show va_P D vwCl (X ++ gW L cy st1) t.heap; rw [ht]; exact (gH_tl (gH_tl h)).1⟩, h.2.1.F ht⟩) h.2.1.2.2 dL_jobs_279 hlocks
  have loop1 : ∀ (mm i : Nat) (fm : Nat → Option Nat) (st1 : gSt) (H : Heap) (locs : List Loc) (ls : Array Slot), i ≤ many → many < mm + i → P1 st st1 i → gH D L cy ((mo, .inl (cM, many, .inr (.inr (.inr (.inr fm))))) :: X) A st1 s H locs → lv_has ls 11 [(4, .int (nI i)), (3, .ref mo), (2, .int (nI many)), (1, .ref b), (0, .ref (L 0))] → W p l e { frames := 6, cells := 50, slots := 144, locals := 200 } s m args below meth c H locs 1 6 (MQ below (va_Qr (fun (st9 : gSt) => (∀ a k, 30 ≤ a → st9 a k = st a k) ∧ st9 1 2 = nI many) (fun st9 _ t => va_P D vwCl (X ++ gW L cy st9) t.heap) A) args s 50 144 A) (F0 m 8 ls []) := by
    intro mm
    induction mm with
    | zero => intros; omega
    | succ mm ih1 =>
      intro i fm st1 H locs ls hi hm hp h hl
      refine lv_iload hx hb dL_jobs_8 (lv_at hl 0 rfl) ?_
      refine lv_iload_n hx hb dL_jobs_10 rfl (lv_at hl 2 rfl) ?_
      rcases Nat.lt_or_ge i many with hlt | hge
      · refine lv_icmp_ge (tgt := 25) hx hb dL_jobs_11 (by decide) (fun c12 => absurd c12 (nI_ge hlt (by omega))) (fun c12 => ?_)
        obtain ⟨p1, p2⟩ := P1_s hp (by omega)
        refine lv_aload_n hx hb dL_jobs_14 rfl (lv_at hl 4 rfl) ?_
        refine g_calli S h (c_X6_addJob l D L cy _ A _ (h.2.2.2.2 _) p1) (cwV 0 hts gL_jobs_X6_addJob rfl rfl rfl (by decide +kernel) ⟨Nat.le_of_ble_eq_true rfl, Nat.le_of_ble_eq_true rfl⟩) (g_pre h gk_c0 (by decide) rfl rfl _) rfl hl.1 rfl (Nat.le_of_ble_eq_true rfl) dL_jobs_15 ⟨(by show _ ≤ 50; omega), (by show _ ≤ 144; omega)⟩ (fun H locs h => ?_)
        generalize (f_X6_addJob st1).2 = st2 at p2 h
        refine lv_pop hx hb dL_jobs_18 rfl ?_
        refine lv_iinc (v := (nI (i + 1))) (lv' := [(4, .int (nI (i + 1))), (3, .ref mo), (2, .int (nI many)), (1, .ref b), (0, .ref (L 0))]) hx hb dL_jobs_19 hl (k := 0) rfl (nI_1 _) (by decide) rfl (fun ls hl => ?_)
        refine lv_goto (tgt := 8) hx hb dL_jobs_22 (by decide) ?_
        exact ih1 (i + 1) fm st2 _ _ ls (by omega) (by omega) p2 h (lv_sub hl [0, 1, 2, 3, 4] rfl)
      · refine lv_icmp_ge (tgt := 25) hx hb dL_jobs_11 (by decide) (fun c13 => ?_) (fun c13 => absurd (nI_le hge (by omega)) c13)
        obtain rfl : many = i := by omega
        refine lv_bipush (v := 12) hx hb dL_jobs_25 (by decide) ?_
        refine s_newi S h hA (N := 12) (by decide +kernel) (by decide) (by decide) (by decide) (by show _ ≤ 50; omega) (by show _ ≤ 144; omega) dL_jobs_27 (fun co H h => ?_)
        refine lv_dup hx hb dL_jobs_29 rfl ?_
        refine lv_iconst (v := 0) hx hb dL_jobs_30 (by decide) ?_
        refine lv_iconst (v := 0) hx hb dL_jobs_31 (by decide) ?_
        refine s_ias S h (vp_in_nI (n := 0) (by omega) (by omega)) dL_jobs_32 (fun H locs h => ?_)
        refine lv_dup hx hb dL_jobs_33 rfl ?_
        refine lv_iconst (v := 1) hx hb dL_jobs_34 (by decide) ?_
        refine lv_iconst (v := 0) hx hb dL_jobs_35 (by decide) ?_
        refine s_ias S h (vp_in_nI (n := 1) (by omega) (by omega)) dL_jobs_36 (fun H locs h => ?_)
        refine lv_dup hx hb dL_jobs_37 rfl ?_
        refine lv_iconst (v := 2) hx hb dL_jobs_38 (by decide) ?_
        refine lv_iconst (v := 1) hx hb dL_jobs_39 (by decide) ?_
        refine s_ias S h (vp_in_nI (n := 2) (by omega) (by omega)) dL_jobs_40 (fun H locs h => ?_)
        refine lv_dup hx hb dL_jobs_41 rfl ?_
        refine lv_iconst (v := 3) hx hb dL_jobs_42 (by decide) ?_
        refine lv_iconst (v := 1) hx hb dL_jobs_43 (by decide) ?_
        refine s_ias S h (vp_in_nI (n := 3) (by omega) (by omega)) dL_jobs_44 (fun H locs h => ?_)
        refine lv_dup hx hb dL_jobs_45 rfl ?_
        refine lv_iconst (v := 4) hx hb dL_jobs_46 (by decide) ?_
        refine lv_iconst (v := 2) hx hb dL_jobs_47 (by decide) ?_
        refine s_ias S h (vp_in_nI (n := 4) (by omega) (by omega)) dL_jobs_48 (fun H locs h => ?_)
        refine lv_dup hx hb dL_jobs_49 rfl ?_
        refine lv_iconst (v := 5) hx hb dL_jobs_50 (by decide) ?_
        refine lv_iconst (v := 3) hx hb dL_jobs_51 (by decide) ?_
        refine s_ias S h (vp_in_nI (n := 5) (by omega) (by omega)) dL_jobs_52 (fun H locs h => ?_)
        refine lv_dup hx hb dL_jobs_53 rfl ?_
        refine lv_bipush (v := 6) hx hb dL_jobs_54 (by decide) ?_
        refine lv_iconst (v := 4) hx hb dL_jobs_56 (by decide) ?_
        refine s_ias S h (vp_in_nI (n := 6) (by omega) (by omega)) dL_jobs_57 (fun H locs h => ?_)
        refine lv_dup hx hb dL_jobs_58 rfl ?_
        refine lv_bipush (v := 7) hx hb dL_jobs_59 (by decide) ?_
        refine lv_iconst (v := 5) hx hb dL_jobs_61 (by decide) ?_
        refine s_ias S h (vp_in_nI (n := 7) (by omega) (by omega)) dL_jobs_62 (fun H locs h => ?_)
        refine lv_dup hx hb dL_jobs_63 rfl ?_
        refine lv_bipush (v := 8) hx hb dL_jobs_64 (by decide) ?_
        refine lv_bipush (v := 6) hx hb dL_jobs_66 (by decide) ?_
        refine s_ias S h (vp_in_nI (n := 8) (by omega) (by omega)) dL_jobs_68 (fun H locs h => ?_)
        refine lv_dup hx hb dL_jobs_69 rfl ?_
        refine lv_bipush (v := 9) hx hb dL_jobs_70 (by decide) ?_
        refine lv_bipush (v := 7) hx hb dL_jobs_72 (by decide) ?_
        refine s_ias S h (vp_in_nI (n := 9) (by omega) (by omega)) dL_jobs_74 (fun H locs h => ?_)
        refine lv_dup hx hb dL_jobs_75 rfl ?_
        refine lv_bipush (v := 10) hx hb dL_jobs_76 (by decide) ?_
        refine lv_bipush (v := 8) hx hb dL_jobs_78 (by decide) ?_
        refine s_ias S h (vp_in_nI (n := 10) (by omega) (by omega)) dL_jobs_80 (fun H locs h => ?_)
        refine lv_dup hx hb dL_jobs_81 rfl ?_
        refine lv_bipush (v := 11) hx hb dL_jobs_82 (by decide) ?_
        refine lv_bipush (v := 9) hx hb dL_jobs_84 (by decide) ?_
        refine s_ias S h (vp_in_nI (n := 11) (by omega) (by omega)) dL_jobs_86 (fun H locs h => ?_)
        have h : gH D L cy ((co, .inl (cy 0, 12, .inl cdf)) :: (mo, .inl (cM, many, .inr (.inr (.inr (.inr fm))))) :: X) A st1 s H locs := h
        refine lv_astore (lv' := [(4, .ref co), (3, .ref mo), (2, .int (nI many)), (1, .ref b), (0, .ref (L 0))]) hx hb dL_jobs_87 hl (by decide) rfl (fun ls hl => ?_)
        refine lv_iconst (v := 0) hx hb dL_jobs_89 (by decide) ?_
        refine lv_istore (lv' := [(5, .int 0), (4, .ref co), (3, .ref mo), (2, .int (nI many)), (1, .ref b), (0, .ref (L 0))]) hx hb dL_jobs_90 hl (by decide) rfl (fun ls hl => ?_)
        refine W.widen (k := 2 + 8 * 0) (n := 18 + 21 * 0) (by omega) (by omega) ?_
        exact loop2 co (many + 1) 0 fm st1 _ _ ls (by omega) (by omega) (P2_0 hp) h (lv_sub hl [0, 1, 2, 3, 4, 5] rfl)
  refine lv_astore_n (lv' := [(3, .ref mo), (0, .ref (L 0)), (1, .ref b), (2, .int (nI many))]) hx hb dL_jobs_4 rfl hl (by decide) rfl (fun ls hl => ?_)
  refine lv_iconst (v := 0) hx hb dL_jobs_5 (by decide) ?_
  refine lv_istore (lv' := [(4, .int 0), (3, .ref mo), (0, .ref (L 0)), (1, .ref b), (2, .int (nI many))]) hx hb dL_jobs_6 hl (by decide) rfl (fun ls hl => ?_)
  refine W.widen (k := 1) (n := 6) (by omega) (by omega) ?_
  exact loop1 (many + 1) 0 _ st _ _ ls (by omega) (by omega) hp0 h (lv_sub hl [0, 1, 4, 3, 2] rfl)
