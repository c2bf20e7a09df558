theorem gch_t1 {E : Nat → Nat → Prop} {s1 s2 s3 : gSt} (h2 : gch E s2 s3) (h : gch E s1 s2) : gch E s1 s3 := gch_tr h h2
theorem gch_begin {s : gSt} {i : Nat} {a b : Int32} (hi : gkd i = 7) : gch gE1 s (f_begin s i a b) := by
  have e : ∀ {k : Nat}, k ≠ 0 → gE1 i k := fun h => gE1_t hi h
  exact gch_su (e (by decide)) (gch_su (e (by decide)) (gch_su (e (by decide)) (gch_su (e (by decide)) (gch_su (e (by decide)) (gch_su (e (by decide)) (gch_su (e (by decide)) (gch_su (e (by decide)) (gch_su (e (by decide)) (gch_su (e (by decide)) (gch_rf s))))))))))
theorem gch_new {s : gSt} {P : Nat} {a b : Int32} (hP : gkd P = 5) : gch gE1 s (f_X1_newTask s P a b).2 :=
  gch_tr (gch_su (gE1_c hP) (gch_rf s)) (gch_begin (gk_tk hP _))
theorem gch_note {s : gSt} {i : Nat} {x t : Int32} (hi : gkd i = 9) : gch gE0 s (f_X5_noteRan s i x t) := gch_su (gE0_h (gk9_5 hi)) (gch_rf s)
theorem gch_addv {s : gSt} {i : Nat} {x : Int32} (hi : gkd i = 7) : gch gE0 s (f_X4_addValue s i x) := gch_su (gE0_t hi (by decide) (by decide) (by decide)) (gch_rf s)
theorem gch_take50 {s : gSt} {P w r : Nat} {a x y : Int32} (hP : gkd P = 5) (hw : gkd w = 9) (hr : gkd r = 10) : gch gE0 s (f_X1_take_J50 P a w s x y r).2 := by
  have h1 : gch gE0 s (gsu (f_append (f_rm s r y) (w + 3) y) (f_tk P y) 2 1) := gch_su (gE0_t (gk_tk hP _) (by decide) (by decide) (by decide)) (gch_ap (gk9_3 hw) (gch_rm hr (gch_rf s)))
  simp only [f_X1_take_J50]
  split
  · exact h1
  · split
    · exact h1
    · exact gch_su (gE0_w hw) h1
theorem gch_take {s : gSt} {P w : Nat} {a : Int32} (hP : gkd P = 5) (hw : gkd w = 9) : gch gE0 s (f_X1_take s P a w).2 := by
  simp only [f_X1_take]
  split
  · exact gch_su (gE0_w hw) (gch_rf s)
  · split
    · exact gch_take50 hP hw (gk_row hP _)
    · exact gch_take50 hP hw (gk_row hP _)
theorem gch_work {s : gSt} {P t : Nat} {a n : Int32} (hP : gkd P = 5) (ht : gkd t = 7) : gch gE0 s (f_X1_work s P a t n).2 := by
  have h1 : gch gE0 s (gsu s (f_wk P a) 2 (s (f_wk P a) 2 + 1)) := gch_su (gE0_w (gk_wk hP _)) (gch_rf s)
  have e : ∀ {k : Nat}, k ≠ 0 → k ≠ 1 → k ≠ 5 → gE0 t k := fun h h1 h5 => gE0_t ht h h1 h5
  simp only [f_X1_work]
  split
  · exact gch_su (e (by decide) (by decide) (by decide)) (gch_su (e (by decide) (by decide) (by decide)) (gch_tr h1 (gch_note (gk_wk hP _))))
  · exact gch_su (e (by decide) (by decide) (by decide)) (gch_su (e (by decide) (by decide) (by decide)) (gch_tr h1 (gch_note (gk_wk hP _))))
theorem gch_adv {s : gSt} {P t : Nat} {n : Int32} (hP : gkd P = 5) (ht : gkd t = 7) : gch gE0 s (f_X1_advance s P t n) := by
  have e : ∀ v w, gch gE0 s (gsu (gsu s t 3 v) t 8 w) := fun v w => gch_su (gE0_t ht (by decide) (by decide) (by decide)) (gch_su (gE0_t ht (by decide) (by decide) (by decide)) (gch_rf s))
  simp only [f_X1_advance]
  generalize (if n < s t 3 + 1 then n else s t 3 + 1) = v
  split
  · exact gch_end hP ht (e _ _)
  · exact e _ _
theorem gch_fork {s : gSt} {P t : Nat} {a b : Int32} (hP : gkd P = 5) (ht : gkd t = 7) : gch gE1 s (f_X1_fork s P a t b) := by
  simp only [f_X1_fork]
  split
  · exact gch_tr (gch_su (gE1_t ht (by decide)) (gch_new hP)) (gch_1 (gch_ap (gk_row hP _) (gch_rf _)))
  · exact gch_rf s
theorem gch_await {s : gSt} {P t : Nat} {a b : Int32} (hP : gkd P = 5) (ht : gkd t = 7) : gch gE0 s (f_X1_await s P a t b).2 := by
  simp only [f_X1_await]
  split
  · exact gch_block hP ht (gch_rf s)
  · exact gch_addv ht
theorem gch_join_L1 {P t : Nat} {a b : Int32} (hP : gkd P = 5) (ht : gkd t = 7) : ∀ (n : Nat) (s : gSt) (mo x : Int32), gch gE0 s (f_X1_join_L1 P a t b n s mo x).2 := by
  intro n
  induction n with
  | zero => intro s mo x; exact gch_rf s
  | succ n ih =>
    intro s mo x
    have h1 : ∀ v, gch gE0 s (gsu s t 6 v) := fun v => gch_su (gE0_t ht (by decide) (by decide) (by decide)) (gch_rf s)
    simp only [f_X1_join_L1]
    split
    · exact gch_rf s
    · split
      · exact gch_rf s
      · split
        · exact gch_block hP ht (gch_rf s)
        · split
          · exact gch_tr (gch_tr (h1 _) (gch_addv ht)) (ih _ _ _)
          · split
            · split
              · exact gch_tr (h1 _) (ih _ _ _)
              · exact gch_end hP ht (h1 _)
            · exact gch_tr (h1 _) (ih _ _ _)
theorem gch_join {s : gSt} {P t : Nat} {a b : Int32} (hP : gkd P = 5) (ht : gkd t = 7) : gch gE0 s (f_X1_join s P a t b).2 := by
  simp only [f_X1_join, f_X1_join_J11]
  split
  · exact gch_join_L1 hP ht _ _ _ _
  · exact gch_join_L1 hP ht _ _ _ _
theorem gch_cb_L2 {P t : Nat} (hP : gkd P = 5) : ∀ (n : Nat) (s : gSt) (f y x : Int32), gch gE0 s (f_X1_cancelBelow_L2 P t n s f y x).2 := by
  intro n
  induction n with
  | zero => intro s f y x; exact gch_rf s
  | succ n ih =>
    intro s f y x
    simp only [f_X1_cancelBelow_L2]
    split
    · exact gch_rf s
    · split
      · exact ih _ _ _ _
      · exact gch_tr (gch_end hP (gk_tk hP _) (gch_rf s)) (ih _ _ _ _)
theorem gch_cb_L1 {P t : Nat} (hP : gkd P = 5) : ∀ (n : Nat) (s : gSt) (f x : Int32), gch gE0 s (f_X1_cancelBelow_L1 P t n s f x).2 := by
  intro n
  induction n with
  | zero => intro s f x; exact gch_rf s
  | succ n ih =>
    intro s f x
    simp only [f_X1_cancelBelow_L1]
    split
    · exact gch_cb_L2 hP _ _ _ _ _
    · split
      · exact ih _ _ _
      · split
        · exact ih _ _ _
        · exact ih _ _ _
theorem gch_cb {s : gSt} {P t : Nat} (hP : gkd P = 5) : gch gE0 s (f_X1_cancelBelow s P t).2 := gch_cb_L1 hP _ _ _ _
theorem gch_kp_L1 {P : Nat} {a b : Int32} (hP : gkd P = 5) : ∀ (n : Nat) (s : gSt) (x : Int32), gch gE0 s (f_X1_keepPromise_L1 P a b n s x).2 := by
  intro n
  induction n with
  | zero => intro s x; exact gch_rf s
  | succ n ih =>
    intro s x
    simp only [f_X1_keepPromise_L1]
    split
    · exact gch_rf s
    · split
      · split
        · exact gch_tr (gch_free hP (gk_tk hP _) (gch_rf s)) (ih _ _)
        · exact ih _ _
      · exact ih _ _
theorem gch_kp {s : gSt} {P : Nat} {a b : Int32} (hP : gkd P = 5) : gch gE1 s (f_X1_keepPromise s P a b).2 := by
  simp only [f_X1_keepPromise]
  split
  · exact gch_rf s
  · split
    · exact gch_rf s
    · split
      · exact gch_tr (gch_su (gE1_p (gk5_12 hP)) (gch_rf s)) (gch_1 (gch_kp_L1 hP _ _ _))
      · exact gch_rf s
theorem g_out10 {x : Int32} (h0 : ¬ x = 0) (h1 : ¬ x = 1) (h2 : ¬ x = 2) (h3 : ¬ x = 3) (h4 : ¬ x = 4) (h5 : ¬ x = 5) (h6 : ¬ x = 6) (h7 : ¬ x = 7) (h8 : ¬ x = 8) (h9 : ¬ x = 9) : x.toInt < 0 ∨ 9 < x.toInt := by
  rcases Int.lt_or_le x.toInt 0 with q | q
  · exact Or.inl q
  · rcases Int.lt_or_le 9 x.toInt with q2 | q2
    · exact Or.inr q2
    · exfalso
      have h : x.toInt = 0 ∨ x.toInt = 1 ∨ x.toInt = 2 ∨ x.toInt = 3 ∨ x.toInt = 4 ∨ x.toInt = 5 ∨ x.toInt = 6 ∨ x.toInt = 7 ∨ x.toInt = 8 ∨ x.toInt = 9 := by omega
      rcases h with h | h | h | h | h | h | h | h | h | h
      · exact h0 (Int32.toInt_inj.mp (by rw [h]; rfl))
      · exact h1 (Int32.toInt_inj.mp (by rw [h]; rfl))
      · exact h2 (Int32.toInt_inj.mp (by rw [h]; rfl))
      · exact h3 (Int32.toInt_inj.mp (by rw [h]; rfl))
      · exact h4 (Int32.toInt_inj.mp (by rw [h]; rfl))
      · exact h5 (Int32.toInt_inj.mp (by rw [h]; rfl))
      · exact h6 (Int32.toInt_inj.mp (by rw [h]; rfl))
      · exact h7 (Int32.toInt_inj.mp (by rw [h]; rfl))
      · exact h8 (Int32.toInt_inj.mp (by rw [h]; rfl))
      · exact h9 (Int32.toInt_inj.mp (by rw [h]; rfl))
set_option maxHeartbeats 8000000 in
set_option maxRecDepth 100000 in
/-- Pool.goOn(w, task) -/
theorem c_X1_goOn (l : Launch) (D : va_G) (L : Nat → Nat) (cy : Nat → ClassId) (X : va_W) (A : Nat → Prop) (st : gSt) (hD : va_D A (X ++ gW L cy st)) {P : Nat} (hP : gkd P = 5) (a : Int32) {t : Nat} (ht : gkd t = 7)  : gMi l yX1_goOn wsX1_goOn { frames := 4, cells := 0, slots := 0, locals := 94 } D L cy X A [.ref (L P), .int a, .ref (L t)] st (f_X1_goOn st P a t).1 (f_X1_goOn st P a t).2 := by
  refine g_entry hD (cc := cX1_goOn) (maxL := 7) (ret := (some .boolean)) (by decide +kernel) rfl (Nat.le_of_ble_eq_true rfl) ?_
  intro p e s m args below meth c ls B
  obtain ⟨S, hr, hlocks, h, hl⟩ := B
  have hx := S.1
  have hb := S.2.1
  have hts := S.2.2.2.2
  have in1 : ∀ w ∈ wsX10, w ∈ wsX1_goOn := by decide +kernel
  have in3 : ∀ w ∈ wsX30, w ∈ wsX1_goOn := by decide +kernel
  have in4 : ∀ w ∈ wsX40, w ∈ wsX1_goOn := by decide +kernel
  have hl : lv_has ls 7 [(0, .ref (L P)), (1, .int a), (2, .ref (L t))] := hl
  have join202 : ∀ (st1 : gSt) (co : Int32) (nn : Int32) (be : Int32) (sc : Nat) (hksc : gkd sc = 3) (H : Heap) (locs : List Loc) (ls : Array Slot), gH D L cy X A st1 s H locs → lv_has ls 7 [(0, .ref (L P)), (1, .int a), (2, .ref (L t)), (3, .ref (L sc)), (4, .int co), (5, .int nn), (6, .int be)] → W p l e { frames := 4, cells := 0, slots := 0, locals := 94 } s m args below meth c H locs 0 0 (MQ below (va_Qi (fun (zq : Int32) (_ : Unit) => zq = (f_X1_goOn_J202 P a t st1 co nn be sc).1) (fun _ zt => va_P D vwCl (X ++ gW L cy (f_X1_goOn_J202 P a t st1 co nn be sc).2) zt.heap) A) args s 0 0 A) (F0 m 202 ls []) := by
    intro st1 co nn be sc hksc H locs ls h hl
    refine lv_iload hx hb dX1_goOn_202 (lv_at hl 6 rfl) ?_
    refine lv_if_eq (tgt := 216) hx hb dX1_goOn_204 (by decide) (fun c1 => ?_) (fun c1 => ?_)
    · refine lv_iload hx hb dX1_goOn_216 (lv_at hl 4 rfl) ?_
      refine lv_if_eq (tgt := 225) hx hb dX1_goOn_218 (by decide) (fun c2 => ?_) (fun c2 => ?_)
      · refine lv_iconst (v := 0) hx hb dX1_goOn_225 (by decide) ?_
        exact g_reti S h hr hlocks rfl (by first | (simp only [f_X1_goOn_J202, if_pos c1, if_pos c2]; done) | (simp only [f_X1_goOn_J202, if_pos c1, if_pos c2]; rfl) | rfl) (by first | (simp only [f_X1_goOn_J202, if_pos c1, if_pos c2]; done) | (simp only [f_X1_goOn_J202, if_pos c1, if_pos c2]; rfl) | rfl) dX1_goOn_226
      · refine lv_iconst (v := 1) hx hb dX1_goOn_221 (by decide) ?_
        refine lv_goto (tgt := 226) hx hb dX1_goOn_222 (by decide) ?_
        exact g_reti S h hr hlocks rfl (by first | (simp only [f_X1_goOn_J202, if_pos c1, if_neg c2]; done) | (simp only [f_X1_goOn_J202, if_pos c1, if_neg c2]; rfl) | rfl) (by first | (simp only [f_X1_goOn_J202, if_pos c1, if_neg c2]; done) | (simp only [f_X1_goOn_J202, if_pos c1, if_neg c2]; rfl) | rfl) dX1_goOn_226
    · refine lv_aload_n hx hb dX1_goOn_207 rfl (lv_at hl 0 rfl) ?_
      refine lv_aload_n hx hb dX1_goOn_208 rfl (lv_at hl 2 rfl) ?_
      refine lv_aload_n hx hb dX1_goOn_209 rfl (lv_at hl 3 rfl) ?_
      refine g_getN S h hksc (by decide) rfl rfl in3 (k := 2) (by decide) (by decide +kernel) rfl dX1_goOn_210 ?_
      refine g_callv S h (c_X1_advance l D L cy X A _ (h.2.2.2.2 _) hP ht _) (cwV 2 hts gX1_goOn_X1_advance rfl rfl rfl (by decide +kernel) ⟨Nat.le_of_ble_eq_true rfl, Nat.le_of_ble_eq_true rfl⟩) (g_pre h hP (by decide) rfl rfl _) rfl hl.1 rfl (Nat.le_of_ble_eq_true rfl) dX1_goOn_213 ⟨Nat.zero_le _, Nat.zero_le _⟩ (fun H locs h => ?_)
      refine lv_iload hx hb dX1_goOn_216 (lv_at hl 4 rfl) ?_
      refine lv_if_eq (tgt := 225) hx hb dX1_goOn_218 (by decide) (fun c4 => ?_) (fun c4 => ?_)
      · refine lv_iconst (v := 0) hx hb dX1_goOn_225 (by decide) ?_
        exact g_reti S h hr hlocks rfl (by first | (simp only [f_X1_goOn_J202, if_neg c1, if_pos c4]; done) | (simp only [f_X1_goOn_J202, if_neg c1, if_pos c4]; rfl) | rfl) (by first | (simp only [f_X1_goOn_J202, if_neg c1, if_pos c4]; done) | (simp only [f_X1_goOn_J202, if_neg c1, if_pos c4]; rfl) | rfl) dX1_goOn_226
      · refine lv_iconst (v := 1) hx hb dX1_goOn_221 (by decide) ?_
        refine lv_goto (tgt := 226) hx hb dX1_goOn_222 (by decide) ?_
        exact g_reti S h hr hlocks rfl (by first | (simp only [f_X1_goOn_J202, if_neg c1, if_neg c4]; done) | (simp only [f_X1_goOn_J202, if_neg c1, if_neg c4]; rfl) | rfl) (by first | (simp only [f_X1_goOn_J202, if_neg c1, if_neg c4]; done) | (simp only [f_X1_goOn_J202, if_neg c1, if_neg c4]; rfl) | rfl) dX1_goOn_226
  have join35 : ∀ (st1 : gSt) (co : Int32) (sc : Nat) (hksc : gkd sc = 3) (H : Heap) (locs : List Loc) (ls : Array Slot), gH D L cy X A st1 s H locs → lv_has ls 7 [(0, .ref (L P)), (1, .int a), (2, .ref (L t)), (3, .ref (L sc))] → W p l e { frames := 4, cells := 0, slots := 0, locals := 94 } s m args below meth c H locs 0 0 (MQ below (va_Qi (fun (zq : Int32) (_ : Unit) => zq = (f_X1_goOn_J35 P a t st1 co sc).1) (fun _ zt => va_P D vwCl (X ++ gW L cy (f_X1_goOn_J35 P a t st1 co sc).2) zt.heap) A) args s 0 0 A) (F0 m 35 ls [.int co]) := by
    intro st1 co sc hksc H locs ls h hl
    refine lv_istore (lv' := [(4, .int co), (0, .ref (L P)), (1, .int a), (2, .ref (L t)), (3, .ref (L sc))]) hx hb dX1_goOn_35 hl (by decide) rfl (fun ls hl => ?_)
    refine lv_aload_n hx hb dX1_goOn_37 rfl (lv_at hl 4 rfl) ?_
    refine lv_aload_n hx hb dX1_goOn_38 rfl (lv_at hl 3 rfl) ?_
    refine g_getN S h ht (by decide) rfl rfl in4 (k := 3) (by decide) (by decide +kernel) rfl dX1_goOn_39 ?_
    refine g_calli S h (c_X3_numberAt l D L cy X A _ (h.2.2.2.2 _) hksc _) (cwV 1 hts gX1_goOn_X3_numberAt rfl rfl rfl (by decide +kernel) ⟨Nat.le_of_ble_eq_true rfl, Nat.le_of_ble_eq_true rfl⟩) (g_pre h hksc (by decide) rfl rfl _) rfl hl.1 rfl (Nat.le_of_ble_eq_true rfl) dX1_goOn_42 ⟨Nat.zero_le _, Nat.zero_le _⟩ (fun H locs h => ?_)
    refine lv_topi (fun x5 ex5 => ?_)
    refine lv_istore (lv' := [(5, .int x5), (4, .int co), (0, .ref (L P)), (1, .int a), (2, .ref (L t)), (3, .ref (L sc))]) hx hb dX1_goOn_45 hl (by decide) rfl (fun ls hl => ?_)
    refine lv_iconst (v := 1) hx hb dX1_goOn_47 (by decide) ?_
    refine lv_istore (lv' := [(6, .int 1), (5, .int x5), (4, .int co), (0, .ref (L P)), (1, .int a), (2, .ref (L t)), (3, .ref (L sc))]) hx hb dX1_goOn_48 hl (by decide) rfl (fun ls hl => ?_)
    refine lv_iload hx hb dX1_goOn_50 (lv_at hl 2 rfl) ?_
    by_cases c6 : co = 0
    · refine lv_tableIn (x := co) (off := 56) (tgt := 108) hx hb dX1_goOn_52 (by rw [c6]; decide) (by rw [c6]; decide) (by rw [c6]; rfl) (by decide) ?_
      refine lv_aload_n hx hb dX1_goOn_108 rfl (lv_at hl 3 rfl) ?_
      refine lv_iload_n hx hb dX1_goOn_109 rfl (lv_at hl 4 rfl) ?_
      refine lv_aload_n hx hb dX1_goOn_110 rfl (lv_at hl 5 rfl) ?_
      refine lv_iload hx hb dX1_goOn_111 (lv_at hl 1 rfl) ?_
      refine g_calli S h (c_X1_work l D L cy X A _ (h.2.2.2.2 _) hP _ ht _) (cwV 3 hts gX1_goOn_X1_work rfl rfl rfl (by decide +kernel) ⟨Nat.le_of_ble_eq_true rfl, Nat.le_of_ble_eq_true rfl⟩) (g_pre h hP (by decide) rfl rfl _) rfl hl.1 rfl (Nat.le_of_ble_eq_true rfl) dX1_goOn_113 ⟨Nat.zero_le _, Nat.zero_le _⟩ (fun H locs h => ?_)
      refine lv_topi (fun x8 ex8 => ?_)
      refine lv_istore (lv' := [(6, .int x8), (5, .int x5), (4, .int co), (0, .ref (L P)), (1, .int a), (2, .ref (L t)), (3, .ref (L sc))]) hx hb dX1_goOn_116 hl (by decide) rfl (fun ls hl => ?_)
      refine lv_goto (tgt := 202) hx hb dX1_goOn_118 (by decide) ?_
      exact g_cvi (by subst ex8 ex5; first | (simp only [f_X1_goOn_J35, if_pos c6]; done) | (simp only [f_X1_goOn_J35, if_pos c6]; rfl) | rfl) (by subst ex8 ex5; first | (simp only [f_X1_goOn_J35, if_pos c6]; done) | (simp only [f_X1_goOn_J35, if_pos c6]; rfl) | rfl) (join202 _ _ _ _ _ hksc _ _ ls h (lv_sub hl [3, 4, 5, 6, 2, 1, 0] rfl))
    · by_cases c9 : co = 1
      · refine lv_tableIn (x := co) (off := 69) (tgt := 121) hx hb dX1_goOn_52 (by rw [c9]; decide) (by rw [c9]; decide) (by rw [c9]; rfl) (by decide) ?_
        refine lv_aload_n hx hb dX1_goOn_121 rfl (lv_at hl 3 rfl) ?_
        refine lv_iload_n hx hb dX1_goOn_122 rfl (lv_at hl 4 rfl) ?_
        refine lv_aload_n hx hb dX1_goOn_123 rfl (lv_at hl 5 rfl) ?_
        refine lv_iload hx hb dX1_goOn_124 (lv_at hl 1 rfl) ?_
        refine g_callv S h (c_X1_fork l D L cy X A _ (h.2.2.2.2 _) hP _ ht _) (cwV 3 hts gX1_goOn_X1_fork rfl rfl rfl (by decide +kernel) ⟨Nat.le_of_ble_eq_true rfl, Nat.le_of_ble_eq_true rfl⟩) (g_pre h hP (by decide) rfl rfl _) rfl hl.1 rfl (Nat.le_of_ble_eq_true rfl) dX1_goOn_126 ⟨Nat.zero_le _, Nat.zero_le _⟩ (fun H locs h => ?_)
        refine lv_goto (tgt := 202) hx hb dX1_goOn_129 (by decide) ?_
        exact g_cvi (by subst ex5; first | (simp only [f_X1_goOn_J35, if_neg c6, if_pos c9]; done) | (simp only [f_X1_goOn_J35, if_neg c6, if_pos c9]; rfl) | rfl) (by subst ex5; first | (simp only [f_X1_goOn_J35, if_neg c6, if_pos c9]; done) | (simp only [f_X1_goOn_J35, if_neg c6, if_pos c9]; rfl) | rfl) (join202 _ _ _ _ _ hksc _ _ ls h (lv_sub hl [3, 4, 5, 6, 2, 1, 0] rfl))
      · by_cases c11 : co = 2
        · refine lv_tableIn (x := co) (off := 80) (tgt := 132) hx hb dX1_goOn_52 (by rw [c11]; decide) (by rw [c11]; decide) (by rw [c11]; rfl) (by decide) ?_
          refine lv_aload_n hx hb dX1_goOn_132 rfl (lv_at hl 3 rfl) ?_
          refine lv_iload_n hx hb dX1_goOn_133 rfl (lv_at hl 4 rfl) ?_
          refine lv_aload_n hx hb dX1_goOn_134 rfl (lv_at hl 5 rfl) ?_
          refine lv_iload hx hb dX1_goOn_135 (lv_at hl 2 rfl) ?_
          refine g_calli S h (c_X1_join l D L cy X A _ (h.2.2.2.2 _) hP _ ht _) (cwV 3 hts gX1_goOn_X1_join rfl rfl rfl (by decide +kernel) ⟨Nat.le_of_ble_eq_true rfl, Nat.le_of_ble_eq_true rfl⟩) (g_pre h hP (by decide) rfl rfl _) rfl hl.1 rfl (Nat.le_of_ble_eq_true rfl) dX1_goOn_137 ⟨Nat.zero_le _, Nat.zero_le _⟩ (fun H locs h => ?_)
          refine lv_topi (fun x13 ex13 => ?_)
          refine lv_istore (lv' := [(6, .int x13), (5, .int x5), (4, .int co), (0, .ref (L P)), (1, .int a), (2, .ref (L t)), (3, .ref (L sc))]) hx hb dX1_goOn_140 hl (by decide) rfl (fun ls hl => ?_)
          refine lv_goto (tgt := 202) hx hb dX1_goOn_142 (by decide) ?_
          exact g_cvi (by subst ex13 ex5; first | (simp only [f_X1_goOn_J35, if_neg c6, if_neg c9, if_pos c11]; done) | (simp only [f_X1_goOn_J35, if_neg c6, if_neg c9, if_pos c11]; rfl) | rfl) (by subst ex13 ex5; first | (simp only [f_X1_goOn_J35, if_neg c6, if_neg c9, if_pos c11]; done) | (simp only [f_X1_goOn_J35, if_neg c6, if_neg c9, if_pos c11]; rfl) | rfl) (join202 _ _ _ _ _ hksc _ _ ls h (lv_sub hl [3, 4, 5, 6, 2, 1, 0] rfl))
        · by_cases c14 : co = 3
          · refine lv_tableIn (x := co) (off := 80) (tgt := 132) hx hb dX1_goOn_52 (by rw [c14]; decide) (by rw [c14]; decide) (by rw [c14]; rfl) (by decide) ?_
            refine lv_aload_n hx hb dX1_goOn_132 rfl (lv_at hl 3 rfl) ?_
            refine lv_iload_n hx hb dX1_goOn_133 rfl (lv_at hl 4 rfl) ?_
            refine lv_aload_n hx hb dX1_goOn_134 rfl (lv_at hl 5 rfl) ?_
            refine lv_iload hx hb dX1_goOn_135 (lv_at hl 2 rfl) ?_
            refine g_calli S h (c_X1_join l D L cy X A _ (h.2.2.2.2 _) hP _ ht _) (cwV 3 hts gX1_goOn_X1_join rfl rfl rfl (by decide +kernel) ⟨Nat.le_of_ble_eq_true rfl, Nat.le_of_ble_eq_true rfl⟩) (g_pre h hP (by decide) rfl rfl _) rfl hl.1 rfl (Nat.le_of_ble_eq_true rfl) dX1_goOn_137 ⟨Nat.zero_le _, Nat.zero_le _⟩ (fun H locs h => ?_)
            refine lv_topi (fun x16 ex16 => ?_)
            refine lv_istore (lv' := [(6, .int x16), (5, .int x5), (4, .int co), (0, .ref (L P)), (1, .int a), (2, .ref (L t)), (3, .ref (L sc))]) hx hb dX1_goOn_140 hl (by decide) rfl (fun ls hl => ?_)
            refine lv_goto (tgt := 202) hx hb dX1_goOn_142 (by decide) ?_
            exact g_cvi (by subst ex16 ex5; first | (simp only [f_X1_goOn_J35, if_neg c6, if_neg c9, if_neg c11, if_pos c14]; done) | (simp only [f_X1_goOn_J35, if_neg c6, if_neg c9, if_neg c11, if_pos c14]; rfl) | rfl) (by subst ex16 ex5; first | (simp only [f_X1_goOn_J35, if_neg c6, if_neg c9, if_neg c11, if_pos c14]; done) | (simp only [f_X1_goOn_J35, if_neg c6, if_neg c9, if_neg c11, if_pos c14]; rfl) | rfl) (join202 _ _ _ _ _ hksc _ _ ls h (lv_sub hl [3, 4, 5, 6, 2, 1, 0] rfl))
          · by_cases c17 : co = 4
            · refine lv_tableIn (x := co) (off := 80) (tgt := 132) hx hb dX1_goOn_52 (by rw [c17]; decide) (by rw [c17]; decide) (by rw [c17]; rfl) (by decide) ?_
              refine lv_aload_n hx hb dX1_goOn_132 rfl (lv_at hl 3 rfl) ?_
              refine lv_iload_n hx hb dX1_goOn_133 rfl (lv_at hl 4 rfl) ?_
              refine lv_aload_n hx hb dX1_goOn_134 rfl (lv_at hl 5 rfl) ?_
              refine lv_iload hx hb dX1_goOn_135 (lv_at hl 2 rfl) ?_
              refine g_calli S h (c_X1_join l D L cy X A _ (h.2.2.2.2 _) hP _ ht _) (cwV 3 hts gX1_goOn_X1_join rfl rfl rfl (by decide +kernel) ⟨Nat.le_of_ble_eq_true rfl, Nat.le_of_ble_eq_true rfl⟩) (g_pre h hP (by decide) rfl rfl _) rfl hl.1 rfl (Nat.le_of_ble_eq_true rfl) dX1_goOn_137 ⟨Nat.zero_le _, Nat.zero_le _⟩ (fun H locs h => ?_)
              refine lv_topi (fun x19 ex19 => ?_)
              refine lv_istore (lv' := [(6, .int x19), (5, .int x5), (4, .int co), (0, .ref (L P)), (1, .int a), (2, .ref (L t)), (3, .ref (L sc))]) hx hb dX1_goOn_140 hl (by decide) rfl (fun ls hl => ?_)
              refine lv_goto (tgt := 202) hx hb dX1_goOn_142 (by decide) ?_
              exact g_cvi (by subst ex19 ex5; first | (simp only [f_X1_goOn_J35, if_neg c6, if_neg c9, if_neg c11, if_neg c14, if_pos c17]; done) | (simp only [f_X1_goOn_J35, if_neg c6, if_neg c9, if_neg c11, if_neg c14, if_pos c17]; rfl) | rfl) (by subst ex19 ex5; first | (simp only [f_X1_goOn_J35, if_neg c6, if_neg c9, if_neg c11, if_neg c14, if_pos c17]; done) | (simp only [f_X1_goOn_J35, if_neg c6, if_neg c9, if_neg c11, if_neg c14, if_pos c17]; rfl) | rfl) (join202 _ _ _ _ _ hksc _ _ ls h (lv_sub hl [3, 4, 5, 6, 2, 1, 0] rfl))
            · by_cases c20 : co = 5
              · refine lv_tableIn (x := co) (off := 93) (tgt := 145) hx hb dX1_goOn_52 (by rw [c20]; decide) (by rw [c20]; decide) (by rw [c20]; rfl) (by decide) ?_
                refine lv_aload_n hx hb dX1_goOn_145 rfl (lv_at hl 5 rfl) ?_
                refine lv_iload hx hb dX1_goOn_146 (lv_at hl 1 rfl) ?_
                refine g_callv S h (c_X4_addValue l D L cy X A _ (h.2.2.2.2 _) ht _) (cwV 1 hts gX1_goOn_X4_addValue rfl rfl rfl (by decide +kernel) ⟨Nat.le_of_ble_eq_true rfl, Nat.le_of_ble_eq_true rfl⟩) (g_pre h ht (by decide) rfl rfl _) rfl hl.1 rfl (Nat.le_of_ble_eq_true rfl) dX1_goOn_148 ⟨Nat.zero_le _, Nat.zero_le _⟩ (fun H locs h => ?_)
                refine lv_goto (tgt := 202) hx hb dX1_goOn_151 (by decide) ?_
                exact g_cvi (by subst ex5; first | (simp only [f_X1_goOn_J35, if_neg c6, if_neg c9, if_neg c11, if_neg c14, if_neg c17, if_pos c20]; done) | (simp only [f_X1_goOn_J35, if_neg c6, if_neg c9, if_neg c11, if_neg c14, if_neg c17, if_pos c20]; rfl) | rfl) (by subst ex5; first | (simp only [f_X1_goOn_J35, if_neg c6, if_neg c9, if_neg c11, if_neg c14, if_neg c17, if_pos c20]; done) | (simp only [f_X1_goOn_J35, if_neg c6, if_neg c9, if_neg c11, if_neg c14, if_neg c17, if_pos c20]; rfl) | rfl) (join202 _ _ _ _ _ hksc _ _ ls h (lv_sub hl [3, 4, 5, 6, 2, 1, 0] rfl))
              · by_cases c22 : co = 6
                · refine lv_tableIn (x := co) (off := 102) (tgt := 154) hx hb dX1_goOn_52 (by rw [c22]; decide) (by rw [c22]; decide) (by rw [c22]; rfl) (by decide) ?_
                  refine lv_aload_n hx hb dX1_goOn_154 rfl (lv_at hl 3 rfl) ?_
                  refine lv_aload_n hx hb dX1_goOn_155 rfl (lv_at hl 5 rfl) ?_
                  refine lv_iconst (v := 5) hx hb dX1_goOn_156 (by decide) ?_
                  refine g_callv S h (c_X1_end l D L cy X A _ (h.2.2.2.2 _) hP ht _) (cwV 2 hts gX1_goOn_X1_end rfl rfl rfl (by decide +kernel) ⟨Nat.le_of_ble_eq_true rfl, Nat.le_of_ble_eq_true rfl⟩) (g_pre h hP (by decide) rfl rfl _) rfl hl.1 rfl (Nat.le_of_ble_eq_true rfl) dX1_goOn_157 ⟨Nat.zero_le _, Nat.zero_le _⟩ (fun H locs h => ?_)
                  refine lv_iconst (v := 0) hx hb dX1_goOn_160 (by decide) ?_
                  refine lv_istore (lv' := [(6, .int 0), (5, .int x5), (4, .int co), (0, .ref (L P)), (1, .int a), (2, .ref (L t)), (3, .ref (L sc))]) hx hb dX1_goOn_161 hl (by decide) rfl (fun ls hl => ?_)
                  refine lv_goto (tgt := 202) hx hb dX1_goOn_163 (by decide) ?_
                  exact g_cvi (by subst ex5; first | (simp only [f_X1_goOn_J35, if_neg c6, if_neg c9, if_neg c11, if_neg c14, if_neg c17, if_neg c20, if_pos c22]; done) | (simp only [f_X1_goOn_J35, if_neg c6, if_neg c9, if_neg c11, if_neg c14, if_neg c17, if_neg c20, if_pos c22]; rfl) | rfl) (by subst ex5; first | (simp only [f_X1_goOn_J35, if_neg c6, if_neg c9, if_neg c11, if_neg c14, if_neg c17, if_neg c20, if_pos c22]; done) | (simp only [f_X1_goOn_J35, if_neg c6, if_neg c9, if_neg c11, if_neg c14, if_neg c17, if_neg c20, if_pos c22]; rfl) | rfl) (join202 _ _ _ _ _ hksc _ _ ls h (lv_sub hl [3, 4, 5, 6, 2, 1, 0] rfl))
                · by_cases c24 : co = 7
                  · refine lv_tableIn (x := co) (off := 114) (tgt := 166) hx hb dX1_goOn_52 (by rw [c24]; decide) (by rw [c24]; decide) (by rw [c24]; rfl) (by decide) ?_
                    refine lv_aload_n hx hb dX1_goOn_166 rfl (lv_at hl 3 rfl) ?_
                    refine lv_aload_n hx hb dX1_goOn_167 rfl (lv_at hl 5 rfl) ?_
                    refine g_calli S h (c_X1_cancelBelow l D L cy X A _ (h.2.2.2.2 _) hP ht) (cwV 1 hts gX1_goOn_X1_cancelBelow rfl rfl rfl (by decide +kernel) ⟨Nat.le_of_ble_eq_true rfl, Nat.le_of_ble_eq_true rfl⟩) (g_pre h hP (by decide) rfl rfl _) rfl hl.1 rfl (Nat.le_of_ble_eq_true rfl) dX1_goOn_168 ⟨Nat.zero_le _, Nat.zero_le _⟩ (fun H locs h => ?_)
                    refine lv_pop hx hb dX1_goOn_171 rfl ?_
                    refine lv_goto (tgt := 202) hx hb dX1_goOn_172 (by decide) ?_
                    exact g_cvi (by subst ex5; first | (simp only [f_X1_goOn_J35, if_neg c6, if_neg c9, if_neg c11, if_neg c14, if_neg c17, if_neg c20, if_neg c22, if_pos c24]; done) | (simp only [f_X1_goOn_J35, if_neg c6, if_neg c9, if_neg c11, if_neg c14, if_neg c17, if_neg c20, if_neg c22, if_pos c24]; rfl) | rfl) (by subst ex5; first | (simp only [f_X1_goOn_J35, if_neg c6, if_neg c9, if_neg c11, if_neg c14, if_neg c17, if_neg c20, if_neg c22, if_pos c24]; done) | (simp only [f_X1_goOn_J35, if_neg c6, if_neg c9, if_neg c11, if_neg c14, if_neg c17, if_neg c20, if_neg c22, if_pos c24]; rfl) | rfl) (join202 _ _ _ _ _ hksc _ _ ls h (lv_sub hl [3, 4, 5, 6, 2, 1, 0] rfl))
                  · by_cases c26 : co = 8
                    · refine lv_tableIn (x := co) (off := 123) (tgt := 175) hx hb dX1_goOn_52 (by rw [c26]; decide) (by rw [c26]; decide) (by rw [c26]; rfl) (by decide) ?_
                      refine lv_aload_n hx hb dX1_goOn_175 rfl (lv_at hl 3 rfl) ?_
                      refine lv_iload_n hx hb dX1_goOn_176 rfl (lv_at hl 4 rfl) ?_
                      refine lv_aload_n hx hb dX1_goOn_177 rfl (lv_at hl 5 rfl) ?_
                      refine lv_iload hx hb dX1_goOn_178 (lv_at hl 1 rfl) ?_
                      refine g_calli S h (c_X1_await l D L cy X A _ (h.2.2.2.2 _) hP _ ht _) (cwV 3 hts gX1_goOn_X1_await rfl rfl rfl (by decide +kernel) ⟨Nat.le_of_ble_eq_true rfl, Nat.le_of_ble_eq_true rfl⟩) (g_pre h hP (by decide) rfl rfl _) rfl hl.1 rfl (Nat.le_of_ble_eq_true rfl) dX1_goOn_180 ⟨Nat.zero_le _, Nat.zero_le _⟩ (fun H locs h => ?_)
                      refine lv_topi (fun x28 ex28 => ?_)
                      refine lv_istore (lv' := [(6, .int x28), (5, .int x5), (4, .int co), (0, .ref (L P)), (1, .int a), (2, .ref (L t)), (3, .ref (L sc))]) hx hb dX1_goOn_183 hl (by decide) rfl (fun ls hl => ?_)
                      refine lv_goto (tgt := 202) hx hb dX1_goOn_185 (by decide) ?_
                      exact g_cvi (by subst ex28 ex5; first | (simp only [f_X1_goOn_J35, if_neg c6, if_neg c9, if_neg c11, if_neg c14, if_neg c17, if_neg c20, if_neg c22, if_neg c24, if_pos c26]; done) | (simp only [f_X1_goOn_J35, if_neg c6, if_neg c9, if_neg c11, if_neg c14, if_neg c17, if_neg c20, if_neg c22, if_neg c24, if_pos c26]; rfl) | rfl) (by subst ex28 ex5; first | (simp only [f_X1_goOn_J35, if_neg c6, if_neg c9, if_neg c11, if_neg c14, if_neg c17, if_neg c20, if_neg c22, if_neg c24, if_pos c26]; done) | (simp only [f_X1_goOn_J35, if_neg c6, if_neg c9, if_neg c11, if_neg c14, if_neg c17, if_neg c20, if_neg c22, if_neg c24, if_pos c26]; rfl) | rfl) (join202 _ _ _ _ _ hksc _ _ ls h (lv_sub hl [3, 4, 5, 6, 2, 1, 0] rfl))
                    · by_cases c29 : co = 9
                      · refine lv_tableIn (x := co) (off := 136) (tgt := 188) hx hb dX1_goOn_52 (by rw [c29]; decide) (by rw [c29]; decide) (by rw [c29]; rfl) (by decide) ?_
                        refine lv_aload_n hx hb dX1_goOn_188 rfl (lv_at hl 3 rfl) ?_
                        refine lv_iload hx hb dX1_goOn_189 (lv_at hl 1 rfl) ?_
                        refine lv_aload_n hx hb dX1_goOn_191 rfl (lv_at hl 5 rfl) ?_
                        refine g_getN S h ht (by decide) rfl rfl in4 (k := 4) (by decide) (by decide +kernel) rfl dX1_goOn_192 ?_
                        refine g_calli S h (c_X1_keepPromise l D L cy X A _ (h.2.2.2.2 _) hP _ _) (cwV 2 hts gX1_goOn_X1_keepPromise rfl rfl rfl (by decide +kernel) ⟨Nat.le_of_ble_eq_true rfl, Nat.le_of_ble_eq_true rfl⟩) (g_pre h hP (by decide) rfl rfl _) rfl hl.1 rfl (Nat.le_of_ble_eq_true rfl) dX1_goOn_195 ⟨Nat.zero_le _, Nat.zero_le _⟩ (fun H locs h => ?_)
                        refine lv_pop hx hb dX1_goOn_198 rfl ?_
                        refine lv_goto (tgt := 202) hx hb dX1_goOn_199 (by decide) ?_
                        exact g_cvi (by subst ex5; first | (simp only [f_X1_goOn_J35, if_neg c6, if_neg c9, if_neg c11, if_neg c14, if_neg c17, if_neg c20, if_neg c22, if_neg c24, if_neg c26, if_pos c29]; done) | (simp only [f_X1_goOn_J35, if_neg c6, if_neg c9, if_neg c11, if_neg c14, if_neg c17, if_neg c20, if_neg c22, if_neg c24, if_neg c26, if_pos c29]; rfl) | rfl) (by subst ex5; first | (simp only [f_X1_goOn_J35, if_neg c6, if_neg c9, if_neg c11, if_neg c14, if_neg c17, if_neg c20, if_neg c22, if_neg c24, if_neg c26, if_pos c29]; done) | (simp only [f_X1_goOn_J35, if_neg c6, if_neg c9, if_neg c11, if_neg c14, if_neg c17, if_neg c20, if_neg c22, if_neg c24, if_neg c26, if_pos c29]; rfl) | rfl) (join202 _ _ _ _ _ hksc _ _ ls h (lv_sub hl [3, 4, 5, 6, 2, 1, 0] rfl))
                      · refine lv_tableOut (tgt := 202) hx hb dX1_goOn_52 (g_out10 c6 c9 c11 c14 c17 c20 c22 c24 c26 c29) (by decide) ?_
                        exact g_cvi (by subst ex5; first | (simp only [f_X1_goOn_J35, if_neg c6, if_neg c9, if_neg c11, if_neg c14, if_neg c17, if_neg c20, if_neg c22, if_neg c24, if_neg c26, if_neg c29]; done) | (simp only [f_X1_goOn_J35, if_neg c6, if_neg c9, if_neg c11, if_neg c14, if_neg c17, if_neg c20, if_neg c22, if_neg c24, if_neg c26, if_neg c29]; rfl) | rfl) (by subst ex5; first | (simp only [f_X1_goOn_J35, if_neg c6, if_neg c9, if_neg c11, if_neg c14, if_neg c17, if_neg c20, if_neg c22, if_neg c24, if_neg c26, if_neg c29]; done) | (simp only [f_X1_goOn_J35, if_neg c6, if_neg c9, if_neg c11, if_neg c14, if_neg c17, if_neg c20, if_neg c22, if_neg c24, if_neg c26, if_neg c29]; rfl) | rfl) (join202 _ _ _ _ _ hksc _ _ ls h (lv_sub hl [3, 4, 5, 6, 2, 1, 0] rfl))
  refine lv_aload_n hx hb dX1_goOn_0 rfl (lv_at hl 0 rfl) ?_
  refine g_get S h hP (by decide) rfl rfl in1 (k := 0) (by decide) (by decide +kernel) rfl dX1_goOn_1 ?_
  refine lv_aload_n hx hb dX1_goOn_4 rfl (lv_at hl 2 rfl) ?_
  refine g_getN S h ht (by decide) rfl rfl in4 (k := 1) (by decide) (by decide +kernel) rfl dX1_goOn_5 ?_
  refine g_callr S h (c_X0_scriptAt l D L cy X A _ (h.2.2.2.2 _) _) (cwV 1 hts gX1_goOn_X0_scriptAt rfl rfl rfl (by decide +kernel) ⟨Nat.le_of_ble_eq_true rfl, Nat.le_of_ble_eq_true rfl⟩) (g_pre h gk_c1 (by decide) rfl rfl _) rfl hl.1 rfl (Nat.le_of_ble_eq_true rfl) dX1_goOn_8 ⟨Nat.zero_le _, Nat.zero_le _⟩ (fun H locs h => ?_)
  refine g_topr (fun i31 ei31 => ?_)
  have hki31 : gkd i31 = 3 := by rw [ei31]; exact (gk_sc _)
  refine lv_astore_n (lv' := [(3, .ref (L i31)), (0, .ref (L P)), (1, .int a), (2, .ref (L t))]) hx hb dX1_goOn_11 rfl hl (by decide) rfl (fun ls hl => ?_)
  refine lv_aload_n hx hb dX1_goOn_12 rfl (lv_at hl 3 rfl) ?_
  refine g_getN S h ht (by decide) rfl rfl in4 (k := 3) (by decide) (by decide +kernel) rfl dX1_goOn_13 ?_
  refine lv_aload_n hx hb dX1_goOn_16 rfl (lv_at hl 0 rfl) ?_
  refine g_getN S h hki31 (by decide) rfl rfl in3 (k := 2) (by decide) (by decide +kernel) rfl dX1_goOn_17 ?_
  refine lv_icmp_ge (tgt := 34) hx hb dX1_goOn_20 (by decide) (fun c32 => ?_) (fun c32 => ?_)
  · refine lv_iconst (v := (-1)) hx hb dX1_goOn_34 (by decide) ?_
    exact g_cvi (by subst ei31; first | (simp only [f_X1_goOn, if_pos c32]; done) | (simp only [f_X1_goOn, if_pos c32]; rfl) | rfl) (by subst ei31; first | (simp only [f_X1_goOn, if_pos c32]; done) | (simp only [f_X1_goOn, if_pos c32]; rfl) | rfl) (join35 _ _ _ hki31 _ _ ls h (lv_sub hl [1, 2, 3, 0] rfl))
  · refine lv_aload_n hx hb dX1_goOn_23 rfl (lv_at hl 0 rfl) ?_
    refine lv_aload_n hx hb dX1_goOn_24 rfl (lv_at hl 3 rfl) ?_
    refine g_getN S h ht (by decide) rfl rfl in4 (k := 3) (by decide) (by decide +kernel) rfl dX1_goOn_25 ?_
    refine g_calli S h (c_X3_codeAt l D L cy X A _ (h.2.2.2.2 _) hki31 _) (cwV 1 hts gX1_goOn_X3_codeAt rfl rfl rfl (by decide +kernel) ⟨Nat.le_of_ble_eq_true rfl, Nat.le_of_ble_eq_true rfl⟩) (g_pre h hki31 (by decide) rfl rfl _) rfl hl.1 rfl (Nat.le_of_ble_eq_true rfl) dX1_goOn_28 ⟨Nat.zero_le _, Nat.zero_le _⟩ (fun H locs h => ?_)
    refine lv_goto (tgt := 35) hx hb dX1_goOn_31 (by decide) ?_
    exact g_cvi (by subst ei31; first | (simp only [f_X1_goOn, if_neg c32]; done) | (simp only [f_X1_goOn, if_neg c32]; rfl) | rfl) (by subst ei31; first | (simp only [f_X1_goOn, if_neg c32]; done) | (simp only [f_X1_goOn, if_neg c32]; rfl) | rfl) (join35 _ _ _ hki31 _ _ ls h (lv_sub hl [1, 2, 3, 0] rfl))
theorem nb_of {v : Int32} (h : v = 0 ∨ v = 1) : narrow .boolean (.int v) = .int v := by
  rcases h with rfl | rfl <;> rfl
theorem b_take {s : gSt} {P w : Nat} {a : Int32} : (f_X1_take s P a w).1 = 0 ∨ (f_X1_take s P a w).1 = 1 := by
  have h : ∀ x y r, (f_X1_take_J50 P a w s x y r).1 = 0 ∨ (f_X1_take_J50 P a w s x y r).1 = 1 := by
    intro x y r
    simp only [f_X1_take_J50]
    split
    · exact Or.inr rfl
    · split
      · exact Or.inr rfl
      · exact Or.inl rfl
  simp only [f_X1_take]
  split
  · exact Or.inl rfl
  · split
    · exact h _ _ _
    · exact h _ _ _
theorem b_goOn202 {s : gSt} {P t sc : Nat} {a co nn be : Int32} : (f_X1_goOn_J202 P a t s co nn be sc).1 = 0 ∨ (f_X1_goOn_J202 P a t s co nn be sc).1 = 1 := by
  simp only [f_X1_goOn_J202]
  split
  · split
    · exact Or.inl rfl
    · exact Or.inr rfl
  · split
    · exact Or.inl rfl
    · exact Or.inr rfl
theorem b_goOn35 {s : gSt} {P t sc : Nat} {a co : Int32} : (f_X1_goOn_J35 P a t s co sc).1 = 0 ∨ (f_X1_goOn_J35 P a t s co sc).1 = 1 := by
  simp only [f_X1_goOn_J35]
  repeat' split
  all_goals exact b_goOn202
theorem b_goOn {s : gSt} {P t : Nat} {a : Int32} : (f_X1_goOn s P a t).1 = 0 ∨ (f_X1_goOn s P a t).1 = 1 := by
  simp only [f_X1_goOn]
  split
  all_goals exact b_goOn35
theorem gch_goOn202 {s : gSt} {P t sc : Nat} {a co nn be : Int32} (hP : gkd P = 5) (ht : gkd t = 7) : gch gE0 s (f_X1_goOn_J202 P a t s co nn be sc).2 := by
  simp only [f_X1_goOn_J202]
  split
  · split
    · exact gch_rf s
    · exact gch_rf s
  · split
    · exact gch_adv hP ht
    · exact gch_adv hP ht
theorem gch_goOn35 {s : gSt} {P t sc : Nat} {a co : Int32} (hP : gkd P = 5) (ht : gkd t = 7) : gch gE1 s (f_X1_goOn_J35 P a t s co sc).2 := by
  have h2 : ∀ (s2 : gSt) (c n b : Int32), gch gE1 s2 (f_X1_goOn_J202 P a t s2 c n b sc).2 := fun s2 c n b => gch_1 (gch_goOn202 hP ht)
  simp only [f_X1_goOn_J35]
  split
  · exact gch_tr (gch_1 (gch_work hP ht)) (h2 _ _ _ _)
  · split
    · exact gch_tr (gch_fork hP ht) (h2 _ _ _ _)
    · split
      · exact gch_tr (gch_1 (gch_join hP ht)) (h2 _ _ _ _)
      · split
        · exact gch_tr (gch_1 (gch_join hP ht)) (h2 _ _ _ _)
        · split
          · exact gch_tr (gch_1 (gch_join hP ht)) (h2 _ _ _ _)
          · split
            · exact gch_tr (gch_1 (gch_addv ht)) (h2 _ _ _ _)
            · split
              · exact gch_tr (gch_1 (gch_end hP ht (gch_rf _))) (h2 _ _ _ _)
              · split
                · exact gch_tr (gch_1 (gch_cb hP)) (h2 _ _ _ _)
                · split
                  · exact gch_tr (gch_1 (gch_await hP ht)) (h2 _ _ _ _)
                  · split
                    · exact gch_tr (gch_kp hP) (h2 _ _ _ _)
                    · exact h2 _ _ _ _
theorem gch_goOn {s : gSt} {P t : Nat} {a : Int32} (hP : gkd P = 5) (ht : gkd t = 7) : gch gE1 s (f_X1_goOn s P a t).2 := by
  simp only [f_X1_goOn]
  split
  all_goals exact gch_goOn35 hP ht
