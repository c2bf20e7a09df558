/-! WHAT ISN'T TOUCHED: gch E st st': only cells (i, k) with E i k have changed. E0: fields of tasks but the number, workers, rows and their ints; E1: these, the count of tasks, and promises. -/
def gch (E : Nat → Nat → Prop) (st st' : gSt) : Prop := ∀ a b, ¬ E a b → st' a b = st a b
def gE0 (a b : Nat) : Prop := (gkd a = 7 ∧ b ≠ 0 ∧ b ≠ 1 ∧ b ≠ 5) ∨ gkd a = 9 ∨ gkd a = 10 ∨ gkd a = 11 ∨ gkd a = 12
def gE1 (a b : Nat) : Prop := (gkd a = 7 ∧ b ≠ 0) ∨ gkd a = 9 ∨ gkd a = 10 ∨ gkd a = 11 ∨ gkd a = 12 ∨ (gkd a = 5 ∧ b = 3) ∨ gkd a = 13
theorem gE01 {a b : Nat} (h : gE0 a b) : gE1 a b := by
  rcases h with h | h | h | h | h
  · exact Or.inl ⟨h.1, h.2.1⟩
  · exact Or.inr (Or.inl h)
  · exact Or.inr (Or.inr (Or.inl h))
  · exact Or.inr (Or.inr (Or.inr (Or.inl h)))
  · exact Or.inr (Or.inr (Or.inr (Or.inr (Or.inl h))))
theorem gch_rf {E : Nat → Nat → Prop} (st : gSt) : gch E st st := fun _ _ _ => rfl
theorem gch_tr {E : Nat → Nat → Prop} {s1 s2 s3 : gSt} (h : gch E s1 s2) (h2 : gch E s2 s3) : gch E s1 s3 := fun a b q => (h2 a b q).trans (h a b q)
theorem gch_1 {st st' : gSt} (h : gch gE0 st st') : gch gE1 st st' := fun a b q => h a b fun e => q (gE01 e)
theorem gch_su {E : Nat → Nat → Prop} {st s : gSt} {i k : Nat} {v : Int32} (he : E i k) (h : gch E st s) : gch E st (gsu s i k v) := by
  intro a b q
  rw [gsu_eq, if_neg, h a b q]
  rintro ⟨rfl, rfl⟩
  exact q he
theorem gE0_t {i k : Nat} (hi : gkd i = 7) (h0 : k ≠ 0) (h1 : k ≠ 1) (h5 : k ≠ 5) : gE0 i k := Or.inl ⟨hi, h0, h1, h5⟩
theorem gE1_t {i k : Nat} (hi : gkd i = 7) (h0 : k ≠ 0) : gE1 i k := Or.inl ⟨hi, h0⟩
theorem gE0_w {i k : Nat} (hi : gkd i = 9) : gE0 i k := Or.inr (Or.inl hi)
theorem gE0_r {i k : Nat} (hi : gkd i = 10) : gE0 i k := Or.inr (Or.inr (Or.inl hi))
theorem gE0_n {i k : Nat} (hi : gkd i = 11) : gE0 i k := Or.inr (Or.inr (Or.inr (Or.inl hi)))
theorem gE0_h {i k : Nat} (hi : gkd i = 12) : gE0 i k := Or.inr (Or.inr (Or.inr (Or.inr hi)))
theorem gE1_c {i : Nat} (hi : gkd i = 5) : gE1 i 3 := Or.inr (Or.inr (Or.inr (Or.inr (Or.inr (Or.inl ⟨hi, rfl⟩)))))
theorem gE1_p {i k : Nat} (hi : gkd i = 13) : gE1 i k := Or.inr (Or.inr (Or.inr (Or.inr (Or.inr (Or.inr hi)))))
theorem nE0_P {P b : Nat} (hP : gkd P = 5) : ¬ gE0 P b := by
  intro h
  rcases h with ⟨h, -⟩ | h | h | h | h <;> omega
theorem nE0_t0 {t : Nat} (ht : gkd t = 7) : ¬ gE0 t 0 := by
  intro h
  rcases h with ⟨-, h, -⟩ | h | h | h | h <;> omega
theorem nE1_P {P b : Nat} (hP : gkd P = 5) (hb : b ≠ 3) : ¬ gE1 P b := by
  intro h
  rcases h with ⟨h, -⟩ | h | h | h | h | ⟨-, h⟩ | h <;> omega
theorem nE1_t0 {t : Nat} (ht : gkd t = 7) : ¬ gE1 t 0 := by
  intro h
  rcases h with ⟨-, h⟩ | h | h | h | h | ⟨h, -⟩ | h <;> omega
theorem gch_rm {st s : gSt} {i : Nat} {x : Int32} (hi : gkd i = 10) (h : gch gE0 st s) : gch gE0 st (f_rm s i x) := by
  intro a b q
  rw [f_rm_fr hi (fun e => q (gE0_r e)) (fun e => q (gE0_n e))]
  exact h a b q
theorem gch_ap {st s : gSt} {i : Nat} {x : Int32} (hi : gkd i = 10) (h : gch gE0 st s) : gch gE0 st (f_append s i x) := by
  intro a b q
  rw [f_append_fr hi (fun e => q (gE0_r e)) (fun e => q (gE0_n e))]
  exact h a b q
theorem gch_free_L1 {P t : Nat} (hP : gkd P = 5) (ht : gkd t = 7) : ∀ (n : Nat) (st : gSt) (x : Int32), gch gE0 st (f_X1_free_L1 P t n st x) := by
  intro n
  induction n with
  | zero => intro st x; exact gch_rf st
  | succ n ih =>
    intro st x
    simp only [f_X1_free_L1]
    split
    · exact gch_ap (gk9_1 (gk_wk hP _)) (gch_su (gE0_t ht (by decide) (by decide) (by decide)) (gch_rf st))
    · split
      · exact ih st _
      · exact gch_su (gE0_t ht (by decide) (by decide) (by decide)) (gch_rf st)
theorem gch_free {P t : Nat} (hP : gkd P = 5) (ht : gkd t = 7) {st s : gSt} (h : gch gE0 st s) : gch gE0 st (f_X1_free s P t) := gch_tr h (gch_free_L1 hP ht _ _ _)
theorem gch_end_L1 {P t : Nat} {q : Int32} (hP : gkd P = 5) (ht : gkd t = 7) : ∀ (n : Nat) (st : gSt) (x : Int32), gch gE0 st (f_X1_end_L1 P t q n st x) := by
  intro n
  induction n with
  | zero => intro st x; exact gch_rf st
  | succ n ih =>
    intro st x
    simp only [f_X1_end_L1]
    split
    · split
      · split
        · exact gch_free hP (gk_tk hP _) (gch_rf st)
        · exact gch_rf st
      · exact gch_rf st
    · exact gch_tr (gch_rm (gk9_3 (gk_wk hP _)) (gch_rm (gk9_1 (gk_wk hP _)) (gch_rf st))) (ih _ _)
theorem gch_end {P t : Nat} {q : Int32} (hP : gkd P = 5) (ht : gkd t = 7) {st s : gSt} (h : gch gE0 st s) : gch gE0 st (f_X1_end s P t q) :=
  gch_tr h (gch_tr (gch_rm (gk5_10 hP) (gch_su (gE0_t ht (by decide) (by decide) (by decide)) (gch_su (gE0_t ht (by decide) (by decide) (by decide)) (gch_rf s)))) (gch_end_L1 hP ht _ _ _))
theorem gch_block {P t : Nat} {a q : Int32} (hP : gkd P = 5) (ht : gkd t = 7) {st s : gSt} (h : gch gE0 st s) : gch gE0 st (f_X1_block s P a t q) := by
  have h2 : gch gE0 st (gsu (gsu s t 2 q) t 10 a) := gch_su (gE0_t ht (by decide) (by decide) (by decide)) (gch_su (gE0_t ht (by decide) (by decide) (by decide)) h)
  simp only [f_X1_block]
  split
  · exact gch_rm (gk9_3 (gk_wk hP _)) h2
  · exact h2
/-- a count down while x > y -/
theorem g_md {x y c : Int32} (ey : y = x + (-1)) (h : ¬ x ≤ c) : (y.toInt - c.toInt).toNat < (x.toInt - c.toInt).toNat := by
  have h1 : ¬ x.toInt ≤ c.toInt := fun q => h (Int32.le_iff_toInt_le.mpr q)
  have h2 := Int32.toInt_lt x
  have h3 := Int32.le_toInt c
  have h4 : y.toInt = x.toInt + -1 := by
    rw [ey, Int32.toInt_add]
    have e1 : (-1 : Int32).toInt = -1 := rfl
    rw [e1]
    exact Int.bmod_eq_of_le (by omega) (by omega)
  omega
set_option maxHeartbeats 8000000 in
set_option maxRecDepth 100000 in
/-- Pool.cancelBelow(root) -/
theorem c_X1_cancelBelow (l : Launch) (D : va_G) (L : Nat → Nat) (cy : Nat → ClassId) (X : va_W) (A : Nat → Prop) (st : gSt) (hD : va_D A (X ++ gW L cy st)) {P : Nat} (hP : gkd P = 5) {t : Nat} (ht : gkd t = 7)  : gMi l yX1_cancelBelow wsX1_cancelBelow { frames := 3, cells := 0, slots := 0, locals := 68 } D L cy X A [.ref (L P), .ref (L t)] st (f_X1_cancelBelow st P t).1 (f_X1_cancelBelow st P t).2 := by
  refine g_entry hD (cc := cX1_cancelBelow) (maxL := 5) (ret := (some .int)) (by decide +kernel) rfl (Nat.le_of_ble_eq_true rfl) ?_
  intro p e s m args below meth c ls B
  obtain ⟨S, hr, hlocks, h, hl⟩ := B
  have hx := S.1
  have hb := S.2.1
  have hts := S.2.2.2.2
  have in1 : ∀ w ∈ wsX10, w ∈ wsX1_cancelBelow := by decide +kernel
  have in4 : ∀ w ∈ wsX40, w ∈ wsX1_cancelBelow := by decide +kernel
  have hl : lv_has ls 5 [(0, .ref (L P)), (1, .ref (L t))] := hl
  refine lv_iconst (v := 1) hx hb dX1_cancelBelow_0 (by decide) ?_
  refine lv_aload_n hx hb dX1_cancelBelow_1 rfl (lv_at hl 1 rfl) ?_
  refine g_getN S h ht (by decide) rfl rfl in4 (k := 0) (by decide) (by decide +kernel) rfl dX1_cancelBelow_2 ?_
  refine lv_ishl hx hb dX1_cancelBelow_5 ?_
  refine lv_topi (fun x1 ex1 => ?_)
  refine lv_istore_n (lv' := [(2, .int x1), (0, .ref (L P)), (1, .ref (L t))]) hx hb dX1_cancelBelow_6 rfl hl (by decide) rfl (fun ls hl => ?_)
  refine lv_aload_n hx hb dX1_cancelBelow_7 rfl (lv_at hl 2 rfl) ?_
  refine g_getN S h ht (by decide) rfl rfl in4 (k := 0) (by decide) (by decide +kernel) rfl dX1_cancelBelow_8 ?_
  refine lv_iconst (v := 1) hx hb dX1_cancelBelow_11 (by decide) ?_
  refine lv_iadd hx hb dX1_cancelBelow_12 ?_
  refine lv_topi (fun x2 ex2 => ?_)
  refine lv_istore_n (lv' := [(3, .int x2), (2, .int x1), (0, .ref (L P)), (1, .ref (L t))]) hx hb dX1_cancelBelow_13 rfl hl (by decide) rfl (fun ls hl => ?_)
  have loopL1 : ∀ (nL1 : Nat) (st1 : gSt) (f : Int32) (x : Int32), (((st1 P 3).toInt - x.toInt).toNat < nL1) → ∀ (H : Heap) (locs : List Loc) (ls : Array Slot), gH D L cy X A st1 s H locs → lv_has ls 5 [(3, .int x), (2, .int f), (0, .ref (L P)), (1, .ref (L t))] → W p l e { frames := 3, cells := 0, slots := 0, locals := 68 } s m args below meth c H locs 0 0 (MQ below (va_Qi (fun (zq : Int32) (_ : Unit) => zq = (f_X1_cancelBelow_L1 P t nL1 st1 f x).1) (fun _ zt => va_P D vwCl (X ++ gW L cy (f_X1_cancelBelow_L1 P t nL1 st1 f x).2) zt.heap) A) args s 0 0 A) (F0 m 14 ls []) := by
    intro nL1
    induction nL1 with
    | zero => intros; omega
    | succ nL1 ihL1 =>
      intro st1 f x hn H locs ls h hl
      refine lv_iload_n hx hb dX1_cancelBelow_14 rfl (lv_at hl 0 rfl) ?_
      refine lv_aload_n hx hb dX1_cancelBelow_15 rfl (lv_at hl 2 rfl) ?_
      refine g_get S h hP (by decide) rfl rfl in1 (k := 3) (by decide) (by decide +kernel) rfl dX1_cancelBelow_16 ?_
      refine lv_icmp_ge (tgt := 61) hx hb dX1_cancelBelow_19 (by decide) (fun c3 => ?_) (fun c3 => ?_)
      · refine lv_iconst (v := 0) hx hb dX1_cancelBelow_61 (by decide) ?_
        refine lv_istore_n (lv' := [(3, .int 0), (2, .int f), (0, .ref (L P)), (1, .ref (L t))]) hx hb dX1_cancelBelow_62 rfl hl (by decide) rfl (fun ls hl => ?_)
        refine lv_aload_n hx hb dX1_cancelBelow_63 rfl (lv_at hl 2 rfl) ?_
        refine g_get S h hP (by decide) rfl rfl in1 (k := 3) (by decide) (by decide +kernel) rfl dX1_cancelBelow_64 ?_
        refine lv_iconst (v := 1) hx hb dX1_cancelBelow_67 (by decide) ?_
        refine lv_isub hx hb dX1_cancelBelow_68 ?_
        refine lv_topi (fun x4 ex4 => ?_)
        refine lv_istore (lv' := [(4, .int x4), (3, .int 0), (2, .int f), (0, .ref (L P)), (1, .ref (L t))]) hx hb dX1_cancelBelow_69 hl (by decide) rfl (fun ls hl => ?_)
        have loopL2 : ∀ (nL2 : Nat) (st1 : gSt) (f : Int32) (y : Int32) (x : Int32), ((x.toInt - (st1 t 0).toInt).toNat < nL2) → ∀ (H : Heap) (locs : List Loc) (ls : Array Slot), gH D L cy X A st1 s H locs → lv_has ls 5 [(4, .int x), (3, .int y), (2, .int f), (0, .ref (L P)), (1, .ref (L t))] → W p l e { frames := 3, cells := 0, slots := 0, locals := 68 } s m args below meth c H locs 0 0 (MQ below (va_Qi (fun (zq : Int32) (_ : Unit) => zq = (f_X1_cancelBelow_L2 P t nL2 st1 f y x).1) (fun _ zt => va_P D vwCl (X ++ gW L cy (f_X1_cancelBelow_L2 P t nL2 st1 f y x).2) zt.heap) A) args s 0 0 A) (F0 m 71 ls []) := by
          intro nL2
          induction nL2 with
          | zero => intros; omega
          | succ nL2 ihL2 =>
            intro st1 f y x hn H locs ls h hl
            refine lv_iload hx hb dX1_cancelBelow_71 (lv_at hl 0 rfl) ?_
            refine lv_aload_n hx hb dX1_cancelBelow_73 rfl (lv_at hl 4 rfl) ?_
            refine g_getN S h ht (by decide) rfl rfl in4 (k := 0) (by decide) (by decide +kernel) rfl dX1_cancelBelow_74 ?_
            refine lv_icmp_le (tgt := 110) hx hb dX1_cancelBelow_77 (by decide) (fun c5 => ?_) (fun c5 => ?_)
            · refine lv_iload_n hx hb dX1_cancelBelow_110 rfl (lv_at hl 1 rfl) ?_
              exact g_reti S h hr hlocks rfl (by first | (simp only [f_X1_cancelBelow_L2, if_pos c5]; done) | (simp only [f_X1_cancelBelow_L2, if_pos c5]; rfl) | rfl) (by first | (simp only [f_X1_cancelBelow_L2, if_pos c5]; done) | (simp only [f_X1_cancelBelow_L2, if_pos c5]; rfl) | rfl) dX1_cancelBelow_111
            · refine lv_iload_n hx hb dX1_cancelBelow_80 rfl (lv_at hl 2 rfl) ?_
              refine lv_iload hx hb dX1_cancelBelow_81 (lv_at hl 0 rfl) ?_
              refine g_calliS S h (c_X1_isIn l D L cy X A _ (h.2.2.2.2 _) _ _) (cwS 2 hts gX1_cancelBelow_X1_isIn rfl rfl rfl (by decide +kernel) ⟨Nat.le_of_ble_eq_true rfl, Nat.le_of_ble_eq_true rfl⟩) rfl hl.1 rfl (Nat.le_of_ble_eq_true rfl) dX1_cancelBelow_83 ⟨Nat.zero_le _, Nat.zero_le _⟩ (fun H locs h => ?_)
              refine lv_if_eq (tgt := 104) hx hb dX1_cancelBelow_86 (by decide) (fun c6 => ?_) (fun c6 => ?_)
              · obtain ⟨x7, ex7⟩ : ∃ zz : Int32, zz = x + (-1) := ⟨_, rfl⟩
                refine lv_iinc (v := x7) (lv' := [(4, .int x7), (3, .int y), (2, .int f), (0, .ref (L P)), (1, .ref (L t))]) hx hb dX1_cancelBelow_104 hl (k := 0) rfl (by rw [ex7]; rfl) (by decide) rfl (fun ls hl => ?_)
                refine lv_goto (tgt := 71) hx hb dX1_cancelBelow_107 (by decide) ?_
                exact g_cvi (by subst ex7; first | (simp only [f_X1_cancelBelow_L2, if_neg c5, if_pos c6]; done) | (simp only [f_X1_cancelBelow_L2, if_neg c5, if_pos c6]; rfl) | rfl) (by subst ex7; first | (simp only [f_X1_cancelBelow_L2, if_neg c5, if_pos c6]; done) | (simp only [f_X1_cancelBelow_L2, if_neg c5, if_pos c6]; rfl) | rfl) (ihL2 _ f y x7 (Nat.lt_of_lt_of_le (g_md ex7 c5) (Nat.le_of_lt_succ hn)) _ _ ls h (lv_sub hl [0, 1, 2, 3, 4] rfl))
              · refine lv_aload_n hx hb dX1_cancelBelow_89 rfl (lv_at hl 3 rfl) ?_
                refine lv_aload_n hx hb dX1_cancelBelow_90 rfl (lv_at hl 3 rfl) ?_
                refine lv_iload hx hb dX1_cancelBelow_91 (lv_at hl 0 rfl) ?_
                refine g_callr S h (c_X1_taskAt l D L cy X A _ (h.2.2.2.2 _) hP _) (cwV 1 hts gX1_cancelBelow_X1_taskAt rfl rfl rfl (by decide +kernel) ⟨Nat.le_of_ble_eq_true rfl, Nat.le_of_ble_eq_true rfl⟩) (g_pre h hP (by decide) rfl rfl _) rfl hl.1 rfl (Nat.le_of_ble_eq_true rfl) dX1_cancelBelow_93 ⟨Nat.zero_le _, Nat.zero_le _⟩ (fun H locs h => ?_)
                refine lv_bipush (v := 6) hx hb dX1_cancelBelow_96 (by decide) ?_
                refine g_callv S h (c_X1_end l D L cy X A _ (h.2.2.2.2 _) hP (gk_tk hP _) _) (cwV 2 hts gX1_cancelBelow_X1_end rfl rfl rfl (by decide +kernel) ⟨Nat.le_of_ble_eq_true rfl, Nat.le_of_ble_eq_true rfl⟩) (g_pre h hP (by decide) rfl rfl _) rfl hl.1 rfl (Nat.le_of_ble_eq_true rfl) dX1_cancelBelow_98 ⟨Nat.zero_le _, Nat.zero_le _⟩ (fun H locs h => ?_)
                obtain ⟨x9, ex9⟩ : ∃ zz : Int32, zz = y + 1 := ⟨_, rfl⟩
                refine lv_iinc (v := x9) (lv' := [(3, .int x9), (4, .int x), (2, .int f), (0, .ref (L P)), (1, .ref (L t))]) hx hb dX1_cancelBelow_101 hl (k := 1) rfl (by rw [ex9]; rfl) (by decide) rfl (fun ls hl => ?_)
                obtain ⟨x10, ex10⟩ : ∃ zz : Int32, zz = x + (-1) := ⟨_, rfl⟩
                refine lv_iinc (v := x10) (lv' := [(4, .int x10), (3, .int x9), (2, .int f), (0, .ref (L P)), (1, .ref (L t))]) hx hb dX1_cancelBelow_104 hl (k := 1) rfl (by rw [ex10]; rfl) (by decide) rfl (fun ls hl => ?_)
                refine lv_goto (tgt := 71) hx hb dX1_cancelBelow_107 (by decide) ?_
                exact g_cvi (by subst ex10 ex9; first | (simp only [f_X1_cancelBelow_L2, if_neg c5, if_neg c6]; done) | (simp only [f_X1_cancelBelow_L2, if_neg c5, if_neg c6]; rfl) | rfl) (by subst ex10 ex9; first | (simp only [f_X1_cancelBelow_L2, if_neg c5, if_neg c6]; done) | (simp only [f_X1_cancelBelow_L2, if_neg c5, if_neg c6]; rfl) | rfl) (ihL2 _ f x9 x10 (by rw [gch_end hP (gk_tk hP _) (gch_rf _) t 0 (nE0_t0 ht)]; exact Nat.lt_of_lt_of_le (g_md ex10 c5) (Nat.le_of_lt_succ hn)) _ _ ls h (lv_sub hl [0, 1, 2, 3, 4] rfl))
        exact g_cvi (by subst ex4; first | (simp only [f_X1_cancelBelow_L1, if_pos c3]; done) | (simp only [f_X1_cancelBelow_L1, if_pos c3]; rfl) | rfl) (by subst ex4; first | (simp only [f_X1_cancelBelow_L1, if_pos c3]; done) | (simp only [f_X1_cancelBelow_L1, if_pos c3]; rfl) | rfl) (loopL2 _ _ f 0 x4 (Nat.lt_add_one _) _ _ ls h (lv_sub hl [0, 1, 2, 3, 4] rfl))
      · refine lv_aload_n hx hb dX1_cancelBelow_22 rfl (lv_at hl 2 rfl) ?_
        refine lv_iload_n hx hb dX1_cancelBelow_23 rfl (lv_at hl 0 rfl) ?_
        refine g_callr S h (c_X1_taskAt l D L cy X A _ (h.2.2.2.2 _) hP _) (cwV 1 hts gX1_cancelBelow_X1_taskAt rfl rfl rfl (by decide +kernel) ⟨Nat.le_of_ble_eq_true rfl, Nat.le_of_ble_eq_true rfl⟩) (g_pre h hP (by decide) rfl rfl _) rfl hl.1 rfl (Nat.le_of_ble_eq_true rfl) dX1_cancelBelow_24 ⟨Nat.zero_le _, Nat.zero_le _⟩ (fun H locs h => ?_)
        refine g_topr (fun i11 ei11 => ?_)
        have hki11 : gkd i11 = 7 := by rw [ei11]; exact (gk_tk hP _)
        refine lv_astore (lv' := [(4, .ref (L i11)), (3, .int x), (2, .int f), (0, .ref (L P)), (1, .ref (L t))]) hx hb dX1_cancelBelow_27 hl (by decide) rfl (fun ls hl => ?_)
        refine lv_iload_n hx hb dX1_cancelBelow_29 rfl (lv_at hl 2 rfl) ?_
        refine lv_aload hx hb dX1_cancelBelow_30 (lv_at hl 0 rfl) ?_
        refine g_getN S h hki11 (by decide) rfl rfl in4 (k := 5) (by decide) (by decide +kernel) rfl dX1_cancelBelow_32 ?_
        refine g_calliS S h (c_X1_isIn l D L cy X A _ (h.2.2.2.2 _) _ _) (cwS 2 hts gX1_cancelBelow_X1_isIn rfl rfl rfl (by decide +kernel) ⟨Nat.le_of_ble_eq_true rfl, Nat.le_of_ble_eq_true rfl⟩) rfl hl.1 rfl (Nat.le_of_ble_eq_true rfl) dX1_cancelBelow_35 ⟨Nat.zero_le _, Nat.zero_le _⟩ (fun H locs h => ?_)
        refine lv_if_eq (tgt := 55) hx hb dX1_cancelBelow_38 (by decide) (fun c12 => ?_) (fun c12 => ?_)
        · obtain ⟨x13, ex13⟩ : ∃ zz : Int32, zz = x + 1 := ⟨_, rfl⟩
          refine lv_iinc (v := x13) (lv' := [(3, .int x13), (4, .ref (L i11)), (2, .int f), (0, .ref (L P)), (1, .ref (L t))]) hx hb dX1_cancelBelow_55 hl (k := 1) rfl (by rw [ex13]; rfl) (by decide) rfl (fun ls hl => ?_)
          refine lv_goto (tgt := 14) hx hb dX1_cancelBelow_58 (by decide) ?_
          exact g_cvi (by subst ex13 ei11; first | (simp only [f_X1_cancelBelow_L1, if_neg c3, if_pos c12]; done) | (simp only [f_X1_cancelBelow_L1, if_neg c3, if_pos c12]; rfl) | rfl) (by subst ex13 ei11; first | (simp only [f_X1_cancelBelow_L1, if_neg c3, if_pos c12]; done) | (simp only [f_X1_cancelBelow_L1, if_neg c3, if_pos c12]; rfl) | rfl) (ihL1 _ f x13 (Nat.lt_of_lt_of_le (g_ms ex13 c3) (Nat.le_of_lt_succ hn)) _ _ ls h (lv_sub hl [0, 2, 3, 4] rfl))
        · refine lv_aload hx hb dX1_cancelBelow_41 (lv_at hl 0 rfl) ?_
          refine g_calli S h (c_X4_isOver l D L cy X A _ (h.2.2.2.2 _) hki11) (cwV 0 hts gX1_cancelBelow_X4_isOver rfl rfl rfl (by decide +kernel) ⟨Nat.le_of_ble_eq_true rfl, Nat.le_of_ble_eq_true rfl⟩) (g_pre h hki11 (by decide) rfl rfl _) rfl hl.1 rfl (Nat.le_of_ble_eq_true rfl) dX1_cancelBelow_43 ⟨Nat.zero_le _, Nat.zero_le _⟩ (fun H locs h => ?_)
          refine lv_if_ne (tgt := 55) hx hb dX1_cancelBelow_46 (by decide) (fun c14 => ?_) (fun c14 => ?_)
          · obtain ⟨x15, ex15⟩ : ∃ zz : Int32, zz = x + 1 := ⟨_, rfl⟩
            refine lv_iinc (v := x15) (lv' := [(3, .int x15), (4, .ref (L i11)), (2, .int f), (0, .ref (L P)), (1, .ref (L t))]) hx hb dX1_cancelBelow_55 hl (k := 1) rfl (by rw [ex15]; rfl) (by decide) rfl (fun ls hl => ?_)
            refine lv_goto (tgt := 14) hx hb dX1_cancelBelow_58 (by decide) ?_
            exact g_cvi (by subst ex15 ei11; first | (simp only [f_X1_cancelBelow_L1, if_neg c3, if_neg c12, if_neg c14]; done) | (simp only [f_X1_cancelBelow_L1, if_neg c3, if_neg c12, if_neg c14]; rfl) | rfl) (by subst ex15 ei11; first | (simp only [f_X1_cancelBelow_L1, if_neg c3, if_neg c12, if_neg c14]; done) | (simp only [f_X1_cancelBelow_L1, if_neg c3, if_neg c12, if_neg c14]; rfl) | rfl) (ihL1 _ f x15 (Nat.lt_of_lt_of_le (g_ms ex15 c3) (Nat.le_of_lt_succ hn)) _ _ ls h (lv_sub hl [0, 2, 3, 4] rfl))
          · refine lv_iload_n hx hb dX1_cancelBelow_49 rfl (lv_at hl 2 rfl) ?_
            refine lv_iconst (v := 1) hx hb dX1_cancelBelow_50 (by decide) ?_
            refine lv_iload_n hx hb dX1_cancelBelow_51 rfl (lv_at hl 1 rfl) ?_
            refine lv_ishl hx hb dX1_cancelBelow_52 ?_
            refine lv_ior hx hb dX1_cancelBelow_53 ?_
            refine lv_topi (fun x16 ex16 => ?_)
            refine lv_istore_n (lv' := [(2, .int x16), (4, .ref (L i11)), (3, .int x), (0, .ref (L P)), (1, .ref (L t))]) hx hb dX1_cancelBelow_54 rfl hl (by decide) rfl (fun ls hl => ?_)
            obtain ⟨x17, ex17⟩ : ∃ zz : Int32, zz = x + 1 := ⟨_, rfl⟩
            refine lv_iinc (v := x17) (lv' := [(3, .int x17), (2, .int x16), (4, .ref (L i11)), (0, .ref (L P)), (1, .ref (L t))]) hx hb dX1_cancelBelow_55 hl (k := 2) rfl (by rw [ex17]; rfl) (by decide) rfl (fun ls hl => ?_)
            refine lv_goto (tgt := 14) hx hb dX1_cancelBelow_58 (by decide) ?_
            exact g_cvi (by subst ex17 ex16 ei11; first | (simp only [f_X1_cancelBelow_L1, if_neg c3, if_neg c12, if_pos c14]; done) | (simp only [f_X1_cancelBelow_L1, if_neg c3, if_neg c12, if_pos c14]; rfl) | rfl) (by subst ex17 ex16 ei11; first | (simp only [f_X1_cancelBelow_L1, if_neg c3, if_neg c12, if_pos c14]; done) | (simp only [f_X1_cancelBelow_L1, if_neg c3, if_neg c12, if_pos c14]; rfl) | rfl) (ihL1 _ x16 x17 (Nat.lt_of_lt_of_le (g_ms ex17 c3) (Nat.le_of_lt_succ hn)) _ _ ls h (lv_sub hl [0, 1, 3, 4] rfl))
  exact g_cvi (by subst ex2 ex1; first | (simp only [f_X1_cancelBelow]; done) | (simp only [f_X1_cancelBelow]; rfl) | rfl) (by subst ex2 ex1; first | (simp only [f_X1_cancelBelow]; done) | (simp only [f_X1_cancelBelow]; rfl) | rfl) (loopL1 _ _ x1 x2 (Nat.lt_add_one _) _ _ ls h (lv_sub hl [0, 1, 2, 3] rfl))
set_option maxHeartbeats 8000000 in
set_option maxRecDepth 100000 in
/-- Pool.keepPromise(promise, number) -/
theorem c_X1_keepPromise (l : Launch) (D : va_G) (L : Nat → Nat) (cy : Nat → ClassId) (X : va_W) (A : Nat → Prop) (st : gSt) (hD : va_D A (X ++ gW L cy st)) {P : Nat} (hP : gkd P = 5) (a : Int32) (b : Int32)  : gMi l yX1_keepPromise wsX1_keepPromise { frames := 2, cells := 0, slots := 0, locals := 44 } D L cy X A [.ref (L P), .int a, .int b] st (f_X1_keepPromise st P a b).1 (f_X1_keepPromise st P a b).2 := by
  refine g_entry hD (cc := cX1_keepPromise) (maxL := 6) (ret := (some .boolean)) (by decide +kernel) rfl (Nat.le_of_ble_eq_true rfl) ?_
  intro p e s m args below meth c ls B
  obtain ⟨S, hr, hlocks, h, hl⟩ := B
  have hx := S.1
  have hb := S.2.1
  have hts := S.2.2.2.2
  have in1 : ∀ w ∈ wsX10, w ∈ wsX1_keepPromise := by decide +kernel
  have in4 : ∀ w ∈ wsX40, w ∈ wsX1_keepPromise := by decide +kernel
  have hl : lv_has ls 6 [(0, .ref (L P)), (1, .int a), (2, .int b)] := hl
  refine lv_iload_n hx hb dX1_keepPromise_0 rfl (lv_at hl 1 rfl) ?_
  refine lv_if_lt (tgt := 21) hx hb dX1_keepPromise_1 (by decide) (fun c1 => ?_) (fun c1 => ?_)
  · refine lv_iconst (v := 0) hx hb dX1_keepPromise_21 (by decide) ?_
    exact g_reti S h hr hlocks rfl (by first | (simp only [f_X1_keepPromise, if_pos c1]; done) | (simp only [f_X1_keepPromise, if_pos c1]; rfl) | rfl) (by first | (simp only [f_X1_keepPromise, if_pos c1]; done) | (simp only [f_X1_keepPromise, if_pos c1]; rfl) | rfl) dX1_keepPromise_22
  · refine lv_iload_n hx hb dX1_keepPromise_4 rfl (lv_at hl 1 rfl) ?_
    refine lv_bipush (v := 6) hx hb dX1_keepPromise_5 (by decide) ?_
    refine lv_icmp_ge (tgt := 21) hx hb dX1_keepPromise_7 (by decide) (fun c2 => ?_) (fun c2 => ?_)
    · refine lv_iconst (v := 0) hx hb dX1_keepPromise_21 (by decide) ?_
      exact g_reti S h hr hlocks rfl (by first | (simp only [f_X1_keepPromise, if_neg c1, if_pos c2]; done) | (simp only [f_X1_keepPromise, if_neg c1, if_pos c2]; rfl) | rfl) (by first | (simp only [f_X1_keepPromise, if_neg c1, if_pos c2]; done) | (simp only [f_X1_keepPromise, if_neg c1, if_pos c2]; rfl) | rfl) dX1_keepPromise_22
    · refine lv_aload_n hx hb dX1_keepPromise_10 rfl (lv_at hl 0 rfl) ?_
      refine g_get S h hP (by decide) rfl rfl in1 (k := 8) (by decide) (by decide +kernel) rfl dX1_keepPromise_11 ?_
      refine lv_iload_n hx hb dX1_keepPromise_14 rfl (lv_at hl 1 rfl) ?_
      refine g_ial S h (gk5_12 hP) (by decide) rfl (gin c1 c2 rfl) dX1_keepPromise_15 ?_
      refine lv_ldc (v := (-1000000)) hx hb S.2.2.2.1 (hts (.constant RX1 64 (-1000000)) (by decide +kernel)) dX1_keepPromise_16 ?_
      refine lv_icmp_eq (tgt := 23) hx hb dX1_keepPromise_18 (by decide) (fun c3 => ?_) (fun c3 => ?_)
      · refine lv_aload_n hx hb dX1_keepPromise_23 rfl (lv_at hl 0 rfl) ?_
        refine g_get S h hP (by decide) rfl rfl in1 (k := 8) (by decide) (by decide +kernel) rfl dX1_keepPromise_24 ?_
        refine lv_iload_n hx hb dX1_keepPromise_27 rfl (lv_at hl 1 rfl) ?_
        refine lv_iload_n hx hb dX1_keepPromise_28 rfl (lv_at hl 2 rfl) ?_
        refine g_ias S h (gk5_12 hP) (by decide) (fun _ => rfl) (gin c1 c2 rfl) dX1_keepPromise_29 (fun H locs h => ?_)
        refine lv_iconst (v := 0) hx hb dX1_keepPromise_30 (by decide) ?_
        refine lv_istore_n (lv' := [(3, .int 0), (0, .ref (L P)), (1, .int a), (2, .int b)]) hx hb dX1_keepPromise_31 rfl hl (by decide) rfl (fun ls hl => ?_)
        have loopL1 : ∀ (nL1 : Nat) (st1 : gSt) (x : Int32), (((st1 P 3).toInt - x.toInt).toNat < nL1) → ∀ (H : Heap) (locs : List Loc) (ls : Array Slot), gH D L cy X A st1 s H locs → lv_has ls 6 [(3, .int x), (0, .ref (L P)), (1, .int a), (2, .int b)] → W p l e { frames := 2, cells := 0, slots := 0, locals := 44 } s m args below meth c H locs 0 0 (MQ below (va_Qi (fun (zq : Int32) (_ : Unit) => zq = (f_X1_keepPromise_L1 P a b nL1 st1 x).1) (fun _ zt => va_P D vwCl (X ++ gW L cy (f_X1_keepPromise_L1 P a b nL1 st1 x).2) zt.heap) A) args s 0 0 A) (F0 m 32 ls []) := by
          intro nL1
          induction nL1 with
          | zero => intros; omega
          | succ nL1 ihL1 =>
            intro st1 x hn H locs ls h hl
            refine lv_iload_n hx hb dX1_keepPromise_32 rfl (lv_at hl 0 rfl) ?_
            refine lv_aload_n hx hb dX1_keepPromise_33 rfl (lv_at hl 1 rfl) ?_
            refine g_get S h hP (by decide) rfl rfl in1 (k := 3) (by decide) (by decide +kernel) rfl dX1_keepPromise_34 ?_
            refine lv_icmp_ge (tgt := 96) hx hb dX1_keepPromise_37 (by decide) (fun c5 => ?_) (fun c5 => ?_)
            · refine lv_iconst (v := 1) hx hb dX1_keepPromise_96 (by decide) ?_
              exact g_reti S h hr hlocks rfl (by first | (simp only [f_X1_keepPromise_L1, if_pos c5]; done) | (simp only [f_X1_keepPromise_L1, if_pos c5]; rfl) | rfl) (by first | (simp only [f_X1_keepPromise_L1, if_pos c5]; done) | (simp only [f_X1_keepPromise_L1, if_pos c5]; rfl) | rfl) dX1_keepPromise_97
            · refine lv_aload_n hx hb dX1_keepPromise_40 rfl (lv_at hl 1 rfl) ?_
              refine lv_iload_n hx hb dX1_keepPromise_41 rfl (lv_at hl 0 rfl) ?_
              refine g_callr S h (c_X1_taskAt l D L cy X A _ (h.2.2.2.2 _) hP _) (cwV 1 hts gX1_keepPromise_X1_taskAt rfl rfl rfl (by decide +kernel) ⟨Nat.le_of_ble_eq_true rfl, Nat.le_of_ble_eq_true rfl⟩) (g_pre h hP (by decide) rfl rfl _) rfl hl.1 rfl (Nat.le_of_ble_eq_true rfl) dX1_keepPromise_42 ⟨Nat.zero_le _, Nat.zero_le _⟩ (fun H locs h => ?_)
              refine g_topr (fun i6 ei6 => ?_)
              have hki6 : gkd i6 = 7 := by rw [ei6]; exact (gk_tk hP _)
              refine lv_astore (lv' := [(4, .ref (L i6)), (3, .int x), (0, .ref (L P)), (1, .int a), (2, .int b)]) hx hb dX1_keepPromise_45 hl (by decide) rfl (fun ls hl => ?_)
              refine lv_aload_n hx hb dX1_keepPromise_47 rfl (lv_at hl 2 rfl) ?_
              refine g_get S h hP (by decide) rfl rfl in1 (k := 0) (by decide) (by decide +kernel) rfl dX1_keepPromise_48 ?_
              refine lv_aload hx hb dX1_keepPromise_51 (lv_at hl 0 rfl) ?_
              refine g_getN S h hki6 (by decide) rfl rfl in4 (k := 1) (by decide) (by decide +kernel) rfl dX1_keepPromise_53 ?_
              refine g_callr S h (c_X0_scriptAt l D L cy X A _ (h.2.2.2.2 _) _) (cwV 1 hts gX1_keepPromise_X0_scriptAt rfl rfl rfl (by decide +kernel) ⟨Nat.le_of_ble_eq_true rfl, Nat.le_of_ble_eq_true rfl⟩) (g_pre h gk_c1 (by decide) rfl rfl _) rfl hl.1 rfl (Nat.le_of_ble_eq_true rfl) dX1_keepPromise_56 ⟨Nat.zero_le _, Nat.zero_le _⟩ (fun H locs h => ?_)
              refine g_topr (fun i7 ei7 => ?_)
              have hki7 : gkd i7 = 3 := by rw [ei7]; exact (gk_sc _)
              refine lv_astore (lv' := [(5, .ref (L i7)), (4, .ref (L i6)), (3, .int x), (0, .ref (L P)), (1, .int a), (2, .int b)]) hx hb dX1_keepPromise_59 hl (by decide) rfl (fun ls hl => ?_)
              refine lv_aload hx hb dX1_keepPromise_61 (lv_at hl 1 rfl) ?_
              refine g_getN S h hki6 (by decide) rfl rfl in4 (k := 2) (by decide) (by decide +kernel) rfl dX1_keepPromise_63 ?_
              refine lv_iconst (v := 3) hx hb dX1_keepPromise_66 (by decide) ?_
              refine lv_icmp_ne (tgt := 90) hx hb dX1_keepPromise_67 (by decide) (fun c8 => ?_) (fun c8 => ?_)
              · obtain ⟨x9, ex9⟩ : ∃ zz : Int32, zz = x + 1 := ⟨_, rfl⟩
                refine lv_iinc (v := x9) (lv' := [(3, .int x9), (5, .ref (L i7)), (4, .ref (L i6)), (0, .ref (L P)), (1, .int a), (2, .int b)]) hx hb dX1_keepPromise_90 hl (k := 2) rfl (by rw [ex9]; rfl) (by decide) rfl (fun ls hl => ?_)
                refine lv_goto (tgt := 32) hx hb dX1_keepPromise_93 (by decide) ?_
                exact g_cvi (by subst ex9 ei7 ei6; first | (simp only [f_X1_keepPromise_L1, if_neg c5, if_neg c8]; done) | (simp only [f_X1_keepPromise_L1, if_neg c5, if_neg c8]; rfl) | rfl) (by subst ex9 ei7 ei6; first | (simp only [f_X1_keepPromise_L1, if_neg c5, if_neg c8]; done) | (simp only [f_X1_keepPromise_L1, if_neg c5, if_neg c8]; rfl) | rfl) (ihL1 _ x9 (Nat.lt_of_lt_of_le (g_ms ex9 c5) (Nat.le_of_lt_succ hn)) _ _ ls h (lv_sub hl [0, 3, 4, 5] rfl))
              · refine lv_aload hx hb dX1_keepPromise_70 (lv_at hl 0 rfl) ?_
                refine lv_aload hx hb dX1_keepPromise_72 (lv_at hl 1 rfl) ?_
                refine g_getN S h hki6 (by decide) rfl rfl in4 (k := 3) (by decide) (by decide +kernel) rfl dX1_keepPromise_74 ?_
                refine g_calli S h (c_X3_numberAt l D L cy X A _ (h.2.2.2.2 _) hki7 _) (cwV 1 hts gX1_keepPromise_X3_numberAt rfl rfl rfl (by decide +kernel) ⟨Nat.le_of_ble_eq_true rfl, Nat.le_of_ble_eq_true rfl⟩) (g_pre h hki7 (by decide) rfl rfl _) rfl hl.1 rfl (Nat.le_of_ble_eq_true rfl) dX1_keepPromise_77 ⟨Nat.zero_le _, Nat.zero_le _⟩ (fun H locs h => ?_)
                refine lv_iload_n hx hb dX1_keepPromise_80 rfl (lv_at hl 4 rfl) ?_
                refine lv_icmp_ne (tgt := 90) hx hb dX1_keepPromise_81 (by decide) (fun c10 => ?_) (fun c10 => ?_)
                · obtain ⟨x11, ex11⟩ : ∃ zz : Int32, zz = x + 1 := ⟨_, rfl⟩
                  refine lv_iinc (v := x11) (lv' := [(3, .int x11), (5, .ref (L i7)), (4, .ref (L i6)), (0, .ref (L P)), (1, .int a), (2, .int b)]) hx hb dX1_keepPromise_90 hl (k := 2) rfl (by rw [ex11]; rfl) (by decide) rfl (fun ls hl => ?_)
                  refine lv_goto (tgt := 32) hx hb dX1_keepPromise_93 (by decide) ?_
                  exact g_cvi (by subst ex11 ei7 ei6; first | (simp only [f_X1_keepPromise_L1, if_neg c5, if_pos c8, if_neg c10]; done) | (simp only [f_X1_keepPromise_L1, if_neg c5, if_pos c8, if_neg c10]; rfl) | rfl) (by subst ex11 ei7 ei6; first | (simp only [f_X1_keepPromise_L1, if_neg c5, if_pos c8, if_neg c10]; done) | (simp only [f_X1_keepPromise_L1, if_neg c5, if_pos c8, if_neg c10]; rfl) | rfl) (ihL1 _ x11 (Nat.lt_of_lt_of_le (g_ms ex11 c5) (Nat.le_of_lt_succ hn)) _ _ ls h (lv_sub hl [0, 3, 4, 5] rfl))
                · refine lv_aload_n hx hb dX1_keepPromise_84 rfl (lv_at hl 3 rfl) ?_
                  refine lv_aload hx hb dX1_keepPromise_85 (lv_at hl 1 rfl) ?_
                  refine g_callv S h (c_X1_free l D L cy X A _ (h.2.2.2.2 _) hP hki6) (cwV 1 hts gX1_keepPromise_X1_free rfl rfl rfl (by decide +kernel) ⟨Nat.le_of_ble_eq_true rfl, Nat.le_of_ble_eq_true rfl⟩) (g_pre h hP (by decide) rfl rfl _) rfl hl.1 rfl (Nat.le_of_ble_eq_true rfl) dX1_keepPromise_87 ⟨Nat.zero_le _, Nat.zero_le _⟩ (fun H locs h => ?_)
                  obtain ⟨x13, ex13⟩ : ∃ zz : Int32, zz = x + 1 := ⟨_, rfl⟩
                  refine lv_iinc (v := x13) (lv' := [(3, .int x13), (5, .ref (L i7)), (4, .ref (L i6)), (0, .ref (L P)), (1, .int a), (2, .int b)]) hx hb dX1_keepPromise_90 hl (k := 2) rfl (by rw [ex13]; rfl) (by decide) rfl (fun ls hl => ?_)
                  refine lv_goto (tgt := 32) hx hb dX1_keepPromise_93 (by decide) ?_
                  exact g_cvi (by subst ex13 ei7 ei6; first | (simp only [f_X1_keepPromise_L1, if_neg c5, if_pos c8, if_pos c10]; done) | (simp only [f_X1_keepPromise_L1, if_neg c5, if_pos c8, if_pos c10]; rfl) | rfl) (by subst ex13 ei7 ei6; first | (simp only [f_X1_keepPromise_L1, if_neg c5, if_pos c8, if_pos c10]; done) | (simp only [f_X1_keepPromise_L1, if_neg c5, if_pos c8, if_pos c10]; rfl) | rfl) (ihL1 _ x13 (by rw [gch_free hP hki6 (gch_rf _) P 3 (nE0_P hP)]; exact Nat.lt_of_lt_of_le (g_ms ex13 c5) (Nat.le_of_lt_succ hn)) _ _ ls h (lv_sub hl [0, 3, 4, 5] rfl))
        exact g_cvi (by first | (simp only [f_X1_keepPromise, if_neg c1, if_neg c2, if_pos c3]; done) | (simp only [f_X1_keepPromise, if_neg c1, if_neg c2, if_pos c3]; rfl) | rfl) (by first | (simp only [f_X1_keepPromise, if_neg c1, if_neg c2, if_pos c3]; done) | (simp only [f_X1_keepPromise, if_neg c1, if_neg c2, if_pos c3]; rfl) | rfl) (loopL1 _ _ 0 (Nat.lt_add_one _) _ _ ls h (lv_sub hl [0, 1, 2, 3] rfl))
      · refine lv_iconst (v := 0) hx hb dX1_keepPromise_21 (by decide) ?_
        exact g_reti S h hr hlocks rfl (by first | (simp only [f_X1_keepPromise, if_neg c1, if_neg c2, if_neg c3]; done) | (simp only [f_X1_keepPromise, if_neg c1, if_neg c2, if_neg c3]; rfl) | rfl) (by first | (simp only [f_X1_keepPromise, if_neg c1, if_neg c2, if_neg c3]; done) | (simp only [f_X1_keepPromise, if_neg c1, if_neg c2, if_neg c3]; rfl) | rfl) dX1_keepPromise_22
