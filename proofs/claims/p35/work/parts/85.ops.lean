/-! BLOCK, NEW TASKS, VALUES, JOIN, AWAIT, CANCEL BELOW, KEEP. -/
theorem b_or (x y : Int32) (i : Nat) : bt (x ||| y) i = (bt x i || bt y i) := by unfold bt; rw [Int32.toBitVec_or, BitVec.getLsbD_or]
theorem b_and (x y : Int32) (i : Nat) : bt (x &&& y) i = (bt x i && bt y i) := by unfold bt; rw [Int32.toBitVec_and, BitVec.getLsbD_and]
theorem b_xor (x y : Int32) (i : Nat) : bt (x ^^^ y) i = (bt x i ^^ bt y i) := by unfold bt; rw [Int32.toBitVec_xor, BitVec.getLsbD_xor]
theorem b_m1 : ∀ i, i < 32 → bt (-1) i = true := by decide +kernel
theorem b_0 (i : Nat) : bt 0 i = false := BitVec.getLsbD_zero
theorem s_l : ∀ n, n < 32 → ((nI n &&& 31).toBitVec.smod 32).toNat = n := by decide +kernel
theorem b_one : ∀ n, n < 24 → ∀ i, i < 32 → bt ((1 : Int32) <<< (nI n &&& 31)) i = decide (i = n) := by decide +kernel
theorem b_one' {n i : Nat} (hn : n < 24) (hi : i < 24) : bt ((1 : Int32) <<< (nI n &&& 31)) i = decide (i = n) := b_one n hn i (by omega)
theorem b_sshr (n : Nat) (hn : n < 32) (x : Int32) {i : Nat} (hi : i < 32) : bt (x >>> (nI n &&& 31)) i = if n + i < 32 then bt x (n + i) else bt x 31 := by
  unfold bt
  rw [Int32.toBitVec_shiftRight]
  show (x.toBitVec.sshiftRight ((nI n &&& 31).toBitVec.smod 32).toNat).getLsbD i = _
  rw [s_l n hn, BitVec.getLsbD_sshiftRight, BitVec.msb_eq_getLsbD_last]
  simp [hi]
theorem b_ext {x y : Int32} (h : ∀ i, i < 32 → bt x i = bt y i) : x = y := Int32.toBitVec_inj.mp (BitVec.eq_of_getLsbD_eq (fun i hi => h i hi))
theorem b_1 : ∀ i, i < 32 → bt 1 i = decide (i = 0) := by decide +kernel
/-- a bit, as the class asks for it -/
theorem bit_ask {x : Int32} {k : Nat} (hk : k < 24) : ((x >>> (nI k &&& 31)) &&& 1) = 1 ↔ bt x k = true := by
  constructor
  · intro h
    have h1 : bt ((x >>> (nI k &&& 31)) &&& 1) 0 = bt 1 0 := by rw [h]
    rw [b_and, b_sshr k (by omega) x (by omega), if_pos (by omega), b_1 0 (by omega)] at h1
    simpa using h1
  · intro h
    refine b_ext (fun i hi => ?_)
    rw [b_and, b_1 i hi, b_sshr k (by omega) x hi]
    by_cases c : i = 0
    · subst c
      rw [if_pos (by omega)]
      simp [h]
    · simp [c]
theorem isIn_n {st : gSt} {f : Int32} {k : Nat} (hk : k < 24) : f_X1_isIn st f (nI k) = if bt f k = true then 1 else 0 := by
  unfold f_X1_isIn
  rw [if_neg (nI_pos (by omega)), if_neg (le24 hk)]
  by_cases c : bt f k = true
  · rw [if_pos c, if_pos ((bit_ask hk).mpr c)]
  · rw [if_neg c, if_neg (fun q => c ((bit_ask hk).mp q))]
section OPS
variable {n wc ck e p w : Nat} {g g' : gSt}
theorem isO_eq {i : Nat} : f_isO g i = if g i 2 < 4 then 0 else 1 := rfl
theorem isB_0 {i : Nat} (h : f_isB g i = 0) : g i 2 ≠ 2 ∧ g i 2 ≠ 3 := by
  unfold f_isB at h
  split at h
  · exact absurd h (by decide)
  · split at h
    · exact absurd h (by decide)
    · rename_i a b; exact ⟨a, b⟩
/-- the way is 0: from the stack; else it stays there -/
theorem block_ok {sq : Int32} (h : J n wc ck e g) (hp : p < n) (hs : g (43 + p) 2 = 1) (hw1 : w < wc) (hm : nI p ∈ rl g (sc w)) (hq : sq = 2 ∨ sq = 3) : J n wc ck e (f_X1_block g 30 (nI w) (43 + p) sq) ∧ Fr0 g (f_X1_block g 30 (nI w) (43 + p) sq) ∧ Ch n (fun t => t = p) g (f_X1_block g 30 (nI w) (43 + p) sq) := by
  have hn : n ≤ 24 := h.1.1.1
  have hw : wc ≤ 5 := h.1.1.2.2.1
  obtain ⟨g2, e2⟩ : ∃ g2, g2 = gsu (gsu g (43 + p) 2 sq) (43 + p) 10 (nI w) := ⟨_, rfl⟩
  have hr : RE wc g g2 := by rw [e2]; exact RE_su hw (RE_su hw RE_rf (RS_t (by omega))) (RS_t (by omega))
  have f2 : ∀ a b, ¬ (a = 43 + p ∧ (b = 2 ∨ b = 10)) → g2 a b = g a b := fun a b hc => by rw [e2, su_ne (by omega), su_ne (by omega)]
  have q2 : g2 (43 + p) 2 = sq := by rw [e2, su_nk (by omega), su_at]
  have q10 : g2 (43 + p) 10 = nI w := by rw [e2, su_at]
  have qn : g2 (43 + p) 0 = nI p := (f2 _ 0 (by omega)).trans (h.1.2.2.1 p (by omega))
  have hk := RE_Rk hr h.2.1
  have hF : Fr0 g g2 := by rw [e2]; exact Fr0_su (Fr0_su (Fr0_rf g) (Wr0_t (by omega) (by omega) (by omega))) (Wr0_t (by omega) (by omega) (by omega))
  obtain ⟨a1, -, -, -, a5⟩ := h.2.2 p hp
  have hq4 : sq < 4 := by rcases hq with q | q <;> rw [q] <;> decide
  have hq0 : sq ≠ 0 ∧ sq ≠ 1 := by rcases hq with q | q <;> rw [q] <;> decide
  have hs4 : g (43 + p) 2 < 4 := by rw [hs]; decide
  have hR : Rn wc g p = 0 := by rw [a5.1, hs]; rfl
  have hS : Sn wc g p = 1 := a5.2.2.2 hs
  have ee : f_X1_block g 30 (nI w) (43 + p) sq = if g2 30 9 = 0 then f_rm g2 (sc w) (nI p) else g2 := by
    have e3 : f_wk 30 (nI w) + 3 = sc w := by rw [wk_n (by omega)]; unfold sc; omega
    rw [← qn, ← e3, e2]
    rfl
  rw [ee]
  split
  · have ef : ∀ a k, ¬ RS a → f_rm g2 (sc w) (nI p) a k = g2 a k := fun a k ha => RF_rm (RS_s (by omega)) (RS_s1 (by omega)) a k ha
    have c1 : 1 ≤ cnt g2 (sc w) p := by rw [cnt_same (hr.2 w hw1).1 (hr.2 w hw1).2]; exact cnt_mem hm
    have q3 := Sn_rms (t := p) (s := p) hk hw1 (by omega) (by omega)
    rw [if_pos rfl, RE_Sn hr, hS] at q3
    refine ⟨J_re h hp (fun a b hj hc => ?_) (Rk_rms hk _) (fun s hs1 hne => ?_) ?_ ?_ (fun _ => hs4) ?_, Fr0_rm hF (Wr0_s (by omega)) (fun _ q => Wr0_s1 (by omega) q), Ch_of (fun t ht hx => ?_) (fun t ht hx => ?_)⟩
    · rw [ef a b (by unfold JR at hj; unfold RS; omega)]; exact f2 a b (by omega)
    · have q4 := Sn_rms (t := p) (s := s) hk hw1 (by omega) (by omega)
      rw [if_neg hne, RE_Sn hr] at q4
      exact ⟨by rw [Rn_rms, RE_Rn hr], by omega⟩
    · unfold PLt
      rw [Rn_rms, RE_Rn hr, hR, ef _ _ (RS_t (by omega)), q2, if_neg hq0.1]
      exact ⟨rfl, by omega, fun q => absurd q (by omega), fun q => absurd q hq0.2⟩
    · unfold TS
      rw [ef _ _ (RS_t (by omega)), ef _ _ (RS_t (by omega)), q2, f2 _ 7 (by omega)]
      exact ⟨fun _ => a1.1 hs4, fun q => absurd hq4 q⟩
    · intro _
      exact ⟨w, hw1, (ef _ _ (RS_t (by omega))).trans q10⟩
    · have hx : t ≠ p := hx
      exact (ef _ _ (RS_t (by omega))).trans (f2 _ _ (by omega))
    · have hx : t ≠ p := hx
      exact (ef _ _ (RS_t (by omega))).trans (f2 _ _ (by omega))
  · refine ⟨J_re h hp (fun a b hj hc => f2 a b (by omega)) hk (fun s hs1 hne => ⟨RE_Rn hr s, RE_Sn hr s⟩) ?_ ?_ (fun _ => hs4) ?_, hF, Ch_of (fun t ht hx => ?_) (fun t ht hx => ?_)⟩
    · unfold PLt
      rw [RE_Rn hr, RE_Sn hr, hR, hS, q2, if_neg hq0.1]
      exact ⟨rfl, by omega, fun _ => Or.inr hq, fun q => absurd q hq0.2⟩
    · unfold TS
      rw [q2, f2 _ 7 (by omega)]
      exact ⟨fun _ => a1.1 hs4, fun q => absurd hq4 q⟩
    · intro _
      exact ⟨w, hw1, q10⟩
    · have hx : t ≠ p := hx
      exact f2 _ _ (by omega)
    · have hx : t ≠ p := hx
      exact f2 _ _ (by omega)
/-- a value is added, whatever it is -/
theorem addv_ok {x : Int32} (h : J n wc ck e g) (hp : p < n) : J n wc ck e (f_X4_addValue g (43 + p) x) ∧ Fr0 g (f_X4_addValue g (43 + p) x) ∧ ∀ a b, ¬ (a = 43 + p ∧ b = 4) → f_X4_addValue g (43 + p) x a b = g a b := by
  have hn : n ≤ 24 := h.1.1.1
  have hv : ∀ y : Int32, ¬ (if (-999999 : Int32) < (if y < (999999 : Int32) then y else (999999 : Int32)) then (if y < (999999 : Int32) then y else (999999 : Int32)) else (-999999 : Int32)) < -999999 ∧ ¬ 999999 < (if (-999999 : Int32) < (if y < (999999 : Int32) then y else (999999 : Int32)) then (if y < (999999 : Int32) then y else (999999 : Int32)) else (-999999 : Int32)) := by
    intro y
    by_cases c1 : y < 999999
    · rw [if_pos c1]
      by_cases c2 : -999999 < y
      · rw [if_pos c2]
        rw [Int32.lt_iff_toInt_lt] at c1 c2
        rw [Int32.lt_iff_toInt_lt, Int32.lt_iff_toInt_lt]
        exact ⟨by omega, by omega⟩
      · rw [if_neg c2]
        decide
    · rw [if_neg c1, if_pos (by decide)]
      decide
  unfold f_X4_addValue
  exact ⟨J_val h hp (hv _), Fr0_su (Fr0_rf g) (Wr0_t (by omega) (by omega) (by omega)), fun a b hc => su_ne hc⟩
theorem await_ok {b : Int32} (h : J n wc ck e g) (hp : p < n) (hs : g (43 + p) 2 = 1) (hw1 : w < wc) (hm : nI p ∈ rl g (sc w)) : J n wc ck e (f_X1_await g 30 (nI w) (43 + p) b).2 ∧ Fr0 g (f_X1_await g 30 (nI w) (43 + p) b).2 ∧ Ch n (fun t => t = p) g (f_X1_await g 30 (nI w) (43 + p) b).2 ∧ ((f_X1_await g 30 (nI w) (43 + p) b).1 = 0 ∨ (f_X1_await g 30 (nI w) (43 + p) b).2 (43 + p) 2 = 1) := by
  have hn : n ≤ 24 := h.1.1.1
  unfold f_X1_await
  dsimp only
  split
  · obtain ⟨a1, a2, a3⟩ := block_ok h hp hs hw1 hm (sq := 3) (Or.inr rfl)
    exact ⟨a1, a2, a3, Or.inl rfl⟩
  · obtain ⟨a1, a2, a3⟩ := addv_ok (x := f_prom g 30 b) h hp
    exact ⟨a1, a2, Ch_of (fun t ht hx => a3 _ _ (by omega)) (fun t ht hx => a3 _ _ (by omega)), Or.inr ((a3 _ _ (by omega)).trans hs)⟩
/-- join: the loop -/
theorem join_L1 {b : Int32} (hp : p < n) (hw1 : w < wc) : ∀ (m : Nat) (g : gSt) (mo x : Int32), J n wc ck 1 g → g (43 + p) 2 = 1 → nI p ∈ rl g (sc w) → J n wc ck 1 (f_X1_join_L1 30 (nI w) (43 + p) b m g mo x).2 ∧ Fr0 g (f_X1_join_L1 30 (nI w) (43 + p) b m g mo x).2 ∧ Ch n (fun t => t = p) g (f_X1_join_L1 30 (nI w) (43 + p) b m g mo x).2 ∧ ((f_X1_join_L1 30 (nI w) (43 + p) b m g mo x).1 = 0 ∨ (f_X1_join_L1 30 (nI w) (43 + p) b m g mo x).2 (43 + p) 2 = 1) := by
  intro m
  induction m with
  | zero => intro g mo x h hs hm; exact ⟨h, Fr0_rf g, Ch_rf _ _ _, Or.inl rfl⟩
  | succ m ih =>
    intro g mo x h hs hm
    have hn : n ≤ 24 := h.1.1.1
    have hw : wc ≤ 5 := h.1.1.2.2.1
    have hrf : J n wc ck 1 g ∧ Fr0 g g ∧ Ch n (fun t => t = p) g g ∧ ((1 : Int32) = 0 ∨ g (43 + p) 2 = 1) := ⟨h, Fr0_rf g, Ch_rf _ _ _, Or.inr hs⟩
    unfold f_X1_join_L1
    split
    · exact hrf
    · split
      · exact hrf
      · dsimp only
        generalize hlc : f_X4_lastChild g (43 + p) = lc
        split
        · obtain ⟨a1, a2, a3⟩ := block_ok h hp hs hw1 hm (sq := 2) (Or.inl rfl)
          exact ⟨a1, a2, a3, Or.inl rfl⟩
        · rename_i c3
          obtain ⟨k, hk, ek⟩ : ∃ k, k < 24 ∧ f_tk 30 lc = 43 + k := by
            unfold f_tk at c3 ⊢
            by_cases d1 : lc < 0
            · rw [if_pos d1] at c3
              exact absurd (by rw [isO_eq, show 30 + 2 = 32 from rfl, h.1.2.2.2]; rfl) c3
            · by_cases d2 : 24 ≤ lc
              · rw [if_neg d1, if_pos d2] at c3
                exact absurd (by rw [isO_eq, show 30 + 2 = 32 from rfl, h.1.2.2.2]; rfl) c3
              · rw [if_neg d1, if_neg d2]
                exact ⟨lc.toNatClampNeg, cl_lt (n := 24) d1 d2 rfl, by omega⟩
          rw [ek] at c3 ⊢
          have ov : ¬ g (43 + k) 2 < 4 := fun q => c3 (by rw [isO_eq, if_pos q])
          rw [h.1.2.2.1 k hk]
          obtain ⟨v, hv⟩ : ∃ v, v = g (43 + p) 6 &&& (((1 : Int32) <<< (nI k &&& 31)) ^^^ (-1 : Int32)) := ⟨_, rfl⟩
          rw [← hv]
          have hb : ∀ s, s < 24 → bt v s = (bt (g (43 + p) 6) s && !decide (s = k)) := fun s hs1 => by
            rw [hv, b_and, b_xor, b_one' hk hs1, b_m1 s (by omega)]
            simp
          have h1 : J n wc ck 1 (gsu g (43 + p) 6 v) := J_clr h hp (fun s hs1 q => by rw [hb s hs1] at q; simp at q; exact q.1) (fun s hs1 q1 q2 => by
            rw [hb s (by omega), q2]
            simp
            intro q; subst q; exact ov q1)
          have f1 : Fr0 g (gsu g (43 + p) 6 v) := Fr0_su (Fr0_rf g) (Wr0_t (by omega) (by omega) (by omega))
          have k1 : Ch n (fun t => t = p) g (gsu g (43 + p) 6 v) := Ch_of (fun t ht _ => su_nk (by omega)) (fun t ht _ => su_nk (by omega))
          have s1 : gsu g (43 + p) 6 v (43 + p) 2 = 1 := (su_nk (by omega)).trans hs
          have m1 : nI p ∈ rl (gsu g (43 + p) 6 v) (sc w) := by rw [rl_same (su_ni (by unfold sc; omega)) (fun _ => su_ni (by unfold sc; omega))]; exact hm
          have go : ∀ y, J n wc ck 1 (f_X1_join_L1 30 (nI w) (43 + p) b m (gsu g (43 + p) 6 v) mo y).2 ∧ Fr0 g (f_X1_join_L1 30 (nI w) (43 + p) b m (gsu g (43 + p) 6 v) mo y).2 ∧ Ch n (fun t => t = p) g (f_X1_join_L1 30 (nI w) (43 + p) b m (gsu g (43 + p) 6 v) mo y).2 ∧ ((f_X1_join_L1 30 (nI w) (43 + p) b m (gsu g (43 + p) 6 v) mo y).1 = 0 ∨ (f_X1_join_L1 30 (nI w) (43 + p) b m (gsu g (43 + p) 6 v) mo y).2 (43 + p) 2 = 1) := fun y => by
            obtain ⟨r1, r2, r3, r4⟩ := ih _ mo y h1 s1 m1
            exact ⟨r1, Fr0_tr f1 r2, Ch_tr k1 r3, r4⟩
          split
          · obtain ⟨w1, w2, w3⟩ := addv_ok (x := gsu g (43 + p) 6 v (43 + k) 4) h1 hp
            have m2 : nI p ∈ rl (f_X4_addValue (gsu g (43 + p) 6 v) (43 + p) (gsu g (43 + p) 6 v (43 + k) 4)) (sc w) := by rw [rl_same (w3 _ _ (by unfold sc; omega)) (fun _ => w3 _ _ (by unfold sc; omega))]; exact m1
            obtain ⟨r1, r2, r3, r4⟩ := ih _ mo (x + 1) w1 ((w3 _ _ (by omega)).trans s1) m2
            exact ⟨r1, Fr0_tr f1 (Fr0_tr w2 r2), Ch_tr k1 (Ch_tr (Ch_of (fun t ht _ => w3 _ _ (by omega)) (fun t ht _ => w3 _ _ (by omega))) r3), r4⟩
          · split
            · split
              · exact go (x + 1)
              · obtain ⟨w1, w2, w3, w4, w5, w6⟩ := end_ok (sq := 5) h1 hp (by rw [s1]; decide) (Or.inl ⟨Or.inr rfl, rfl⟩)
                exact ⟨w1, Fr0_tr f1 w2, Ch_tr k1 w4, Or.inl rfl⟩
            · exact go (x + 1)
theorem join_ok {b : Int32} (h : J n wc ck 1 g) (hp : p < n) (hs : g (43 + p) 2 = 1) (hw1 : w < wc) (hm : nI p ∈ rl g (sc w)) : J n wc ck 1 (f_X1_join g 30 (nI w) (43 + p) b).2 ∧ Fr0 g (f_X1_join g 30 (nI w) (43 + p) b).2 ∧ Ch n (fun t => t = p) g (f_X1_join g 30 (nI w) (43 + p) b).2 ∧ ((f_X1_join g 30 (nI w) (43 + p) b).1 = 0 ∨ (f_X1_join g 30 (nI w) (43 + p) b).2 (43 + p) 2 = 1) := by
  unfold f_X1_join f_X1_join_J11
  split
  · exact join_L1 hp hw1 _ _ _ _ h hs hm
  · exact join_L1 hp hw1 _ _ _ _ h hs hm
/-! CANCEL BELOW -/
def Xb (n p : Nat) (g : gSt) (t : Nat) : Prop := p < t ∧ t < n ∧ g (43 + t) 2 < 4
theorem cb_L2 {g0 : gSt} {f : Int32} (hp : p < n) (hb : ∀ j, j < 24 → bt f j = true → j = p ∨ Xb n p g0 j) : ∀ (m k c : Nat) (g : gSt), J n wc ck e g → Fr0 g0 g → Ch n (Xb n p g0) g0 g → p ≤ k → k < n → c + k ≤ 100 → (∀ j, p < j → j ≤ k → g0 (43 + j) 2 < 4 → g (43 + j) 2 < 4) → ∃ c', (f_X1_cancelBelow_L2 30 (43 + p) m g f (nI c) (nI k)).1 = nI c' ∧ c' ≤ 100 ∧ J n wc ck e (f_X1_cancelBelow_L2 30 (43 + p) m g f (nI c) (nI k)).2 ∧ Fr0 g0 (f_X1_cancelBelow_L2 30 (43 + p) m g f (nI c) (nI k)).2 ∧ Ch n (Xb n p g0) g0 (f_X1_cancelBelow_L2 30 (43 + p) m g f (nI c) (nI k)).2 := by
  intro m
  induction m with
  | zero => intro k c g h hf hc h1 h2 h3 h4; exact ⟨0, rfl, by omega, h, hf, hc⟩
  | succ m ih =>
    intro k c g h hf hc h1 h2 h3 h4
    have hn : n ≤ 24 := h.1.1.1
    unfold f_X1_cancelBelow_L2
    rw [h.1.2.2.1 p (by omega), isIn_n (by omega)]
    by_cases c1 : k ≤ p
    · rw [if_pos (nI_le c1 (by omega))]
      exact ⟨c, rfl, by omega, h, hf, hc⟩
    · rw [if_neg (nI_ge (by omega) (by omega))]
      have ek : nI k + (-1) = nI (k - 1) := by
        obtain ⟨j, rfl⟩ : ∃ j, k = j + 1 := ⟨k - 1, by omega⟩
        exact pk_m1 j
      by_cases c2 : bt f k = true
      · rw [if_pos c2, if_neg (by decide), tk_n (by omega)]
        have hx : Xb n p g0 k := by
          rcases hb k (by omega) c2 with q | q
          · omega
          · exact q
        obtain ⟨w1, w2, w3, w4, w5, w6⟩ := end_ok (sq := 6) h h2 (h4 k (by omega) (by omega) hx.2.2) (Or.inr rfl)
        show ∃ c', (f_X1_cancelBelow_L2 30 (43 + p) m (f_X1_end g 30 (43 + k) 6) f (nI c + 1) (nI k + (-1))).1 = nI c' ∧ _
        rw [ek, nI_1 c]
        refine ih (k - 1) (c + 1) _ w1 (Fr0_tr hf w2) (Ch_tr hc ?_) (by omega) (by omega) (by omega) (fun j hj hj2 hj3 => ?_)
        · intro t ht hxt
          exact w4 t ht (fun q => hxt (by have q : t = k := q; rw [q]; exact hx))
        · exact (Ch_lt w4 (by omega) (by show ¬ j = k; omega)).mp (h4 j hj (by omega) hj3)
      · rw [if_neg c2, if_pos rfl]
        show ∃ c', (f_X1_cancelBelow_L2 30 (43 + p) m g f (nI c) (nI k + (-1))).1 = nI c' ∧ _
        rw [ek]
        exact ih (k - 1) c g h hf hc (by omega) (by omega) (by omega) (fun j hj hj2 hj3 => h4 j hj (by omega) hj3)
theorem cb_L1 (hp : p < n) (h : J n wc ck e g) : ∀ (m k : Nat) (f : Int32), p < k → k ≤ n → (∀ j, j < 24 → bt f j = true → j = p ∨ (Xb n p g j ∧ j < k)) → ∃ c', (f_X1_cancelBelow_L1 30 (43 + p) m g f (nI k)).1 = nI c' ∧ c' ≤ 100 ∧ J n wc ck e (f_X1_cancelBelow_L1 30 (43 + p) m g f (nI k)).2 ∧ Fr0 g (f_X1_cancelBelow_L1 30 (43 + p) m g f (nI k)).2 ∧ Ch n (Xb n p g) g (f_X1_cancelBelow_L1 30 (43 + p) m g f (nI k)).2 := by
  have hn : n ≤ 24 := h.1.1.1
  intro m
  induction m with
  | zero => intro k f h1 h2 hb; exact ⟨0, rfl, by omega, h, Fr0_rf g, Ch_rf _ _ _⟩
  | succ m ih =>
    intro k f h1 h2 hb
    unfold f_X1_cancelBelow_L1
    rw [h.1.2.1.1]
    by_cases c1 : n ≤ k
    · rw [if_pos (nI_le c1 (by omega))]
      have en : nI n - 1 = nI (n - 1) := by
        obtain ⟨j, rfl⟩ : ∃ j, n = j + 1 := ⟨n - 1, by omega⟩
        exact nI_pred j
      show ∃ c', (f_X1_cancelBelow_L2 30 (43 + p) (((nI n - 1).toInt - (g (43 + p) 0).toInt).toNat + 1) g f 0 (nI n - 1)).1 = nI c' ∧ _
      rw [en]
      exact cb_L2 (g0 := g) hp (fun j hj q => (hb j hj q).elim Or.inl (fun q => Or.inr q.1)) _ (n - 1) 0 g h (Fr0_rf g) (Ch_rf _ _ _) (by omega) (by omega) (by omega) (fun j _ _ q => q)
    · rw [if_neg (nI_ge (by omega) (by omega)), tk_n (by omega)]
      have e1 : nI k + 1 = nI (k + 1) := nI_1 k
      have hb1 : ∀ j, j < 24 → bt f j = true → j = p ∨ (Xb n p g j ∧ j < k + 1) := fun j hj q => (hb j hj q).elim Or.inl (fun q => Or.inr ⟨q.1, by omega⟩)
      dsimp only
      rw [e1]
      split
      · exact ih (k + 1) f (by omega) (by omega) hb1
      · split
        · rename_i c3
          refine ih (k + 1) _ (by omega) (by omega) (fun j hj q => ?_)
          rw [b_or, b_one' (by omega) hj] at q
          by_cases c4 : j = k
          · refine Or.inr ⟨⟨by omega, by omega, ?_⟩, by omega⟩
            rw [c4]
            rw [isO_eq] at c3
            by_cases c5 : g (43 + k) 2 < 4
            · exact c5
            · rw [if_neg c5] at c3; exact absurd c3 (by decide)
          · exact hb1 j hj (by simpa [c4] using q)
        · exact ih (k + 1) f (by omega) (by omega) hb1
theorem cb_ok (h : J n wc ck e g) (hp : p < n) : ∃ c', (f_X1_cancelBelow g 30 (43 + p)).1 = nI c' ∧ c' ≤ 100 ∧ J n wc ck e (f_X1_cancelBelow g 30 (43 + p)).2 ∧ Fr0 g (f_X1_cancelBelow g 30 (43 + p)).2 ∧ Ch n (Xb n p g) g (f_X1_cancelBelow g 30 (43 + p)).2 := by
  have hn : n ≤ 24 := h.1.1.1
  unfold f_X1_cancelBelow
  rw [h.1.2.2.1 p (by omega)]
  show ∃ c', (f_X1_cancelBelow_L1 30 (43 + p) (((g 30 3).toInt - (nI p + 1).toInt).toNat + 1) g ((1 : Int32) <<< (nI p &&& 31)) (nI p + 1)).1 = nI c' ∧ _
  rw [nI_1 p]
  refine cb_L1 hp h _ (p + 1) _ (by omega) (by omega) (fun j hj q => Or.inl ?_)
  rw [b_one' (by omega) hj] at q
  exact of_decide_eq_true q
/-! KEEP -/
theorem kp_L1 {a b : Int32} {g0 : gSt} : ∀ (m k : Nat) (g : gSt), J n wc ck e g → Fr0 g0 g → Ch n (fun _ => False) g0 g → k ≤ n → J n wc ck e (f_X1_keepPromise_L1 30 a b m g (nI k)).2 ∧ Fr0 g0 (f_X1_keepPromise_L1 30 a b m g (nI k)).2 ∧ Ch n (fun _ => False) g0 (f_X1_keepPromise_L1 30 a b m g (nI k)).2 ∧ (n < m + k → (f_X1_keepPromise_L1 30 a b m g (nI k)).1 = 1) ∧ ∀ i, (f_X1_keepPromise_L1 30 a b m g (nI k)).2 42 i = g 42 i := by
  intro m
  induction m with
  | zero => intro k g h h1 h2 h3; exact ⟨h, h1, h2, fun q => absurd q (by omega), fun _ => rfl⟩
  | succ m ih =>
    intro k g h h1 h2 h3
    have hn : n ≤ 24 := h.1.1.1
    unfold f_X1_keepPromise_L1
    rw [h.1.2.1.1]
    by_cases c1 : n ≤ k
    · rw [if_pos (nI_le c1 (by omega))]
      exact ⟨h, h1, h2, fun _ => rfl, fun _ => rfl⟩
    · rw [if_neg (nI_ge (by omega) (by omega)), tk_n (by omega)]
      have e1 : nI k + 1 = nI (k + 1) := nI_1 k
      have go : ∀ g, J n wc ck e g → Fr0 g0 g → Ch n (fun _ => False) g0 g → J n wc ck e (f_X1_keepPromise_L1 30 a b m g (nI (k + 1))).2 ∧ Fr0 g0 (f_X1_keepPromise_L1 30 a b m g (nI (k + 1))).2 ∧ Ch n (fun _ => False) g0 (f_X1_keepPromise_L1 30 a b m g (nI (k + 1))).2 ∧ (n < m + 1 + k → (f_X1_keepPromise_L1 30 a b m g (nI (k + 1))).1 = 1) ∧ (∀ i, (f_X1_keepPromise_L1 30 a b m g (nI (k + 1))).2 42 i = g 42 i) := fun g q1 q2 q3 => by
        obtain ⟨r1, r2, r3, r4, r5⟩ := ih (k + 1) g q1 q2 q3 (by omega)
        exact ⟨r1, r2, r3, fun q => r4 (by omega), r5⟩
      show J n wc ck e (if g (43 + k) 2 = 3 then if f_numberAt g (f_sc (g (43 + k) 1)) (g (43 + k) 3) = a then f_X1_keepPromise_L1 30 a b m (f_X1_free g 30 (43 + k)) (nI k + 1) else f_X1_keepPromise_L1 30 a b m g (nI k + 1) else f_X1_keepPromise_L1 30 a b m g (nI k + 1)).2 ∧ Fr0 g0 (if g (43 + k) 2 = 3 then if f_numberAt g (f_sc (g (43 + k) 1)) (g (43 + k) 3) = a then f_X1_keepPromise_L1 30 a b m (f_X1_free g 30 (43 + k)) (nI k + 1) else f_X1_keepPromise_L1 30 a b m g (nI k + 1) else f_X1_keepPromise_L1 30 a b m g (nI k + 1)).2 ∧ Ch n (fun _ => False) g0 (if g (43 + k) 2 = 3 then if f_numberAt g (f_sc (g (43 + k) 1)) (g (43 + k) 3) = a then f_X1_keepPromise_L1 30 a b m (f_X1_free g 30 (43 + k)) (nI k + 1) else f_X1_keepPromise_L1 30 a b m g (nI k + 1) else f_X1_keepPromise_L1 30 a b m g (nI k + 1)).2 ∧ (n < m + 1 + k → (if g (43 + k) 2 = 3 then if f_numberAt g (f_sc (g (43 + k) 1)) (g (43 + k) 3) = a then f_X1_keepPromise_L1 30 a b m (f_X1_free g 30 (43 + k)) (nI k + 1) else f_X1_keepPromise_L1 30 a b m g (nI k + 1) else f_X1_keepPromise_L1 30 a b m g (nI k + 1)).1 = 1) ∧ ∀ i, (if g (43 + k) 2 = 3 then if f_numberAt g (f_sc (g (43 + k) 1)) (g (43 + k) 3) = a then f_X1_keepPromise_L1 30 a b m (f_X1_free g 30 (43 + k)) (nI k + 1) else f_X1_keepPromise_L1 30 a b m g (nI k + 1) else f_X1_keepPromise_L1 30 a b m g (nI k + 1)).2 42 i = g 42 i
      rw [e1]
      split
      · rename_i c2
        split
        · obtain ⟨w1, w2, w3, w4⟩ := free_ok h (p := k) (by omega) (Or.inr c2)
          have w5 : Ch n (fun _ => False) g (f_X1_free g 30 (43 + k)) := fun t ht _ => by
            refine ⟨w3 _ _ (RS_t (by omega)) (by omega), ?_⟩
            by_cases c : t = k
            · subst c; exact Or.inr ⟨Or.inr c2, w4⟩
            · exact Or.inl (w3 _ _ (RS_t (by omega)) (by omega))
          obtain ⟨r1, r2, r3, r4, r5⟩ := go _ w1 (Fr0_tr h1 w2) (Ch_tr h2 w5)
          exact ⟨r1, r2, r3, r4, fun i => (r5 i).trans (w3 _ _ RS_42 (by omega))⟩
        · exact go g h h1 h2
      · exact go g h h1 h2
theorem kp_ok {a b : Int32} (h : J n wc ck e g) : J n wc ck e (f_X1_keepPromise g 30 a b).2 ∧ Fr0 g (f_X1_keepPromise g 30 a b).2 ∧ Ch n (fun _ => False) g (f_X1_keepPromise g 30 a b).2 := by
  have hn : n ≤ 24 := h.1.1.1
  unfold f_X1_keepPromise
  split
  · exact ⟨h, Fr0_rf g, Ch_rf _ _ _⟩
  · split
    · exact ⟨h, Fr0_rf g, Ch_rf _ _ _⟩
    · rename_i c1 c2
      have ha := cl_lt (n := 6) c1 c2 rfl
      split
      · have h1 : J n wc ck e (gsu g (30 + 12) a.toNatClampNeg b) := J_ir h (by unfold JR; omega) RS_42
        have f1 : Fr0 g (gsu g (30 + 12) a.toNatClampNeg b) := Fr0_su (Fr0_rf g) (by unfold Wr0; omega)
        obtain ⟨r1, r2, r3, -, -⟩ := kp_L1 (a := a) (b := b) (g0 := g) (((gsu g (30 + 12) a.toNatClampNeg b 30 3).toInt - (0 : Int32).toInt).toNat + 1) 0 _ h1 f1 (Ch_of (fun t _ _ => su_ni (by omega)) (fun t _ _ => su_ni (by omega))) (by omega)
        exact ⟨r1, r2, r3⟩
      · exact ⟨h, Fr0_rf g, Ch_rf _ _ _⟩
end OPS
