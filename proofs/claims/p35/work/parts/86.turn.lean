/-! A TURN: take, work, step, fork; and a whole tick. -/
/-- what a worker is told: one number may be one more, and then its turn is over -/
def Td (w : Nat) (r : Int32) (g g' : gSt) : Prop := (∀ v, v < 5 → v ≠ w → ∀ b, 2 ≤ b → b ≤ 4 → g' (67 + 6 * v) b = g (67 + 6 * v) b) ∧ ((∀ b, 2 ≤ b → b ≤ 4 → g' (67 + 6 * w) b = g (67 + 6 * w) b) ∨ (r = 0 ∧ ∃ c, 2 ≤ c ∧ c ≤ 4 ∧ g' (67 + 6 * w) c = g (67 + 6 * w) c + 1 ∧ ∀ b, 2 ≤ b → b ≤ 4 → b ≠ c → g' (67 + 6 * w) b = g (67 + 6 * w) b))
theorem Td_0 {w : Nat} {r : Int32} {g g' : gSt} (hw : w < 5) (h : Fr0 g g') : Td w r g g' := ⟨fun v hv _ b _ _ => h _ _ (by unfold Wr0; omega), Or.inl (fun b _ _ => h _ _ (by unfold Wr0; omega))⟩
theorem Td_l {w : Nat} {r : Int32} {g g1 g' : gSt} (hw : w < 5) (h : Fr0 g g1) (h2 : Td w r g1 g') : Td w r g g' := by
  have e : ∀ v, v < 5 → ∀ b, 2 ≤ b → b ≤ 4 → g1 (67 + 6 * v) b = g (67 + 6 * v) b := fun v hv b _ _ => h _ _ (by unfold Wr0; omega)
  refine ⟨fun v hv hne b b1 b2 => (h2.1 v hv hne b b1 b2).trans (e v hv b b1 b2), ?_⟩
  rcases h2.2 with q | ⟨q0, c, c1, c2, q1, q2⟩
  · exact Or.inl (fun b b1 b2 => (q b b1 b2).trans (e w hw b b1 b2))
  · exact Or.inr ⟨q0, c, c1, c2, by rw [q1, e w hw c c1 c2], fun b b1 b2 hb => (q2 b b1 b2 hb).trans (e w hw b b1 b2)⟩
theorem Td_r {w : Nat} {r r' : Int32} {g g1 g' : gSt} (hw : w < 5) (h : Td w r g g1) (h2 : Fr0 g1 g') (hr : r = 0 → r' = 0) : Td w r' g g' := by
  have e : ∀ v, v < 5 → ∀ b, 2 ≤ b → b ≤ 4 → g' (67 + 6 * v) b = g1 (67 + 6 * v) b := fun v hv b _ _ => h2 _ _ (by unfold Wr0; omega)
  refine ⟨fun v hv hne b b1 b2 => (e v hv b b1 b2).trans (h.1 v hv hne b b1 b2), ?_⟩
  rcases h.2 with q | ⟨q0, c, c1, c2, q1, q2⟩
  · exact Or.inl (fun b b1 b2 => (e w hw b b1 b2).trans (q b b1 b2))
  · exact Or.inr ⟨hr q0, c, c1, c2, (e w hw c c1 c2).trans q1, fun b b1 b2 hb => (e w hw b b1 b2).trans (q2 b b1 b2 hb)⟩
/-- one number of the worker is one more -/
theorem Td_inc {w c : Nat} {g : gSt} {v : Int32} (hc : 2 ≤ c ∧ c ≤ 4) (hv : v = g (67 + 6 * w) c + 1) : Td w 0 g (gsu g (67 + 6 * w) c v) := by
  refine ⟨fun u _ hne b _ _ => su_ni (by omega), Or.inr ⟨rfl, c, hc.1, hc.2, by rw [su_at, hv], fun b _ _ hb => su_nk hb⟩⟩
/-- who is over stays so -/
def Mo (n : Nat) (g g' : gSt) : Prop := ∀ t, t < n → ¬ g (43 + t) 2 < 4 → g' (43 + t) 2 = g (43 + t) 2 ∧ g' (43 + t) 7 = g (43 + t) 7
theorem Mo_rf (n : Nat) (g : gSt) : Mo n g g := fun _ _ _ => ⟨rfl, rfl⟩
theorem Mo_tr {n n' : Nat} {a b c : gSt} (hn : n ≤ n') (h1 : Mo n a b) (h2 : Mo n' b c) : Mo n a c := fun t ht ho => by
  obtain ⟨p1, p2⟩ := h1 t ht ho
  obtain ⟨q1, q2⟩ := h2 t (by omega) (by rw [p1]; exact ho)
  exact ⟨q1.trans p1, q2.trans p2⟩
theorem Mo_Ch {n : Nat} {X : Nat → Prop} {a b : gSt} (h : Ch n X a b) (hx : ∀ t, t < n → X t → a (43 + t) 2 < 4) : Mo n a b := fun t ht ho => ⟨Ch_ov h ht (fun q => ho (hx t ht q)) ho, (h t ht (fun q => ho (hx t ht q))).1⟩
section TURN
variable {n wc ck e p w : Nat} {g g' : gSt}
theorem rok_pos {i : Nat} (h : rok g i) (hz : ¬ g i 1 ≤ 0) : rl g i ≠ [] := by
  intro q
  have h1 := (rok_len h).1
  rw [q] at h1
  exact hz (by rw [h1]; decide)
/-- from where a worker takes: nowhere, or a row that holds something -/
def Sr (wc w : Nat) (g : gSt) (x : Int32) : Prop := x = -2 ∨ ∃ j, j ≤ wc ∧ f_row 30 x = rc j ∧ rl g (rc j) ≠ []
theorem nwt_L1 (h : J n wc ck e g) (hw1 : w < wc) : ∀ (m k : Nat), 1 ≤ k → k ≤ wc → wc < m + k → Sr wc w g (f_X1_nextWithTasks_L1 30 (nI w) m g (nI k)) := by
  have hw : wc ≤ 5 := h.1.1.2.2.1
  intro m
  induction m with
  | zero => intro k _ h1 h2; omega
  | succ m ih =>
    intro k h0 h1 h2
    unfold f_X1_nextWithTasks_L1
    rw [h.1.2.1.2.1]
    by_cases c1 : wc ≤ k
    · rw [if_pos (nI_le c1 (by omega))]
      exact Or.inl rfl
    · rw [if_neg (nI_ge (by omega) (by omega)), nI_add]
      have e1 : nI k + 1 = nI (k + 1) := nI_1 k
      have go := ih (k + 1) (by omega) (by omega) (by omega)
      by_cases c2 : wc ≤ w + k
      · rw [if_pos (nI_le c2 (by omega))]
        have e2 : nI (w + k) - nI wc = nI (w + k - wc) := pk_sub c2
        show Sr wc w g (if g (f_row 30 (nI (w + k) - nI wc)) 1 ≤ 0 then f_X1_nextWithTasks_L1 30 (nI w) m g (nI k + 1) else nI (w + k) - nI wc)
        rw [e1, e2, row_n (by omega)]
        split
        · exact go
        · rename_i c3
          exact Or.inr ⟨w + k - wc + 1, by omega, row_n (by omega), rok_pos (h.2.1.1 _ (by omega)).1 c3⟩
      · rw [if_neg (nI_ge (by omega) (by omega))]
        show Sr wc w g (if g (f_row 30 (nI (w + k))) 1 ≤ 0 then f_X1_nextWithTasks_L1 30 (nI w) m g (nI k + 1) else nI (w + k))
        rw [e1, row_n (by omega)]
        split
        · exact go
        · rename_i c3
          exact Or.inr ⟨w + k + 1, by omega, row_n (by omega), rok_pos (h.2.1.1 _ (by omega)).1 c3⟩
theorem fwm_L1 (h : J n wc ck e g) : ∀ (m k : Nat) (y z : Int32), k ≤ wc → wc < m + k → ¬ z < 0 → Sr wc w g y → Sr wc w g (f_X1_firstWithMostTasks_L1 30 m g y z (nI k)) := by
  have hw : wc ≤ 5 := h.1.1.2.2.1
  intro m
  induction m with
  | zero => intro k y z h1 h2; omega
  | succ m ih =>
    intro k y z h1 h2 hz hy
    unfold f_X1_firstWithMostTasks_L1
    rw [h.1.2.1.2.1]
    by_cases c1 : wc ≤ k
    · rw [if_pos (nI_le c1 (by omega))]
      exact hy
    · rw [if_neg (nI_ge (by omega) (by omega))]
      have e1 : nI k + 1 = nI (k + 1) := nI_1 k
      show Sr wc w g (if g (f_row 30 (nI k)) 1 ≤ z then f_X1_firstWithMostTasks_L1 30 m g y z (nI k + 1) else f_X1_firstWithMostTasks_L1 30 m g (nI k) (g (f_row 30 (nI k)) 1) (nI k + 1))
      rw [e1, row_n (by omega)]
      split
      · exact ih (k + 1) y z (by omega) (by omega) hz hy
      · rename_i c3
        have c4 : ¬ g (rc (k + 1)) 1 ≤ 0 := fun q => by
          rw [Int32.le_iff_toInt_le] at q c3
          rw [Int32.lt_iff_toInt_lt] at hz
          omega
        refine ih (k + 1) _ _ (by omega) (by omega) (fun q => c4 ?_) (Or.inr ⟨k + 1, by omega, row_n (by omega), rok_pos (h.2.1.1 _ (by omega)).1 c4⟩)
        rw [Int32.le_iff_toInt_le]
        rw [Int32.lt_iff_toInt_lt] at q
        omega
theorem src_ok (h : J n wc ck e g) (hw1 : w < wc) : Sr wc w g (f_X1_sourceFor g 30 (nI w)) := by
  have hw : wc ≤ 5 := h.1.1.2.2.1
  have e0 : (0 : Int32).toInt = 0 := rfl
  have e1 : (1 : Int32).toInt = 1 := rfl
  unfold f_X1_sourceFor
  rw [row_n (by omega)]
  split
  · split
    · split
      · unfold f_X1_nextWithTasks
        exact nwt_L1 h hw1 _ 1 (by omega) (by omega) (by rw [h.1.2.1.2.1, nI_toInt (by omega)]; omega)
      · split
        · unfold f_X1_firstWithMostTasks
          exact fwm_L1 h _ 0 _ _ (by omega) (by rw [h.1.2.1.2.1, nI_toInt (by omega)]; omega) (by decide) (Or.inl rfl)
        · exact Or.inl rfl
    · rename_i c
      exact Or.inr ⟨0, by omega, row_c, rok_pos (h.2.1.1 0 (by omega)).1 c⟩
  · rename_i c
    exact Or.inr ⟨w + 1, by omega, row_n (by omega), rok_pos (h.2.1.1 _ (by omega)).1 c⟩
/-- what act leaves -/
def Ac (n wc ck w : Nat) (g : gSt) (q : Int32 × gSt) : Prop := ∃ n', n ≤ n' ∧ J n' wc ck 1 q.2 ∧ Fr g q.2 ∧ Mo n g q.2 ∧ Td w q.1 g q.2
theorem idle_ok (h : J n wc ck 1 g) (hw1 : w < 5) : Ac n wc ck w g (0, gsu g (67 + 6 * w) 3 (g (67 + 6 * w) 3 + 1)) :=
  ⟨n, Nat.le_refl _, J_ir h (by unfold JR; omega) (RS_w w), Fr_su (Fr_rf g) (by unfold Wr; omega), fun t ht _ => ⟨su_ni (by have := h.1.1.1; omega), su_ni (by have := h.1.1.1; omega)⟩, Td_inc (by omega) rfl⟩
theorem take50_ok {j : Nat} {x y : Int32} (h : J n wc ck 1 g) (hw1 : w < wc) (hj : j ≤ wc) (hy : y ∈ rl g (rc j)) : Ac n wc ck w g (f_X1_take_J50 30 (nI w) (67 + 6 * w) g x y (rc j)) := by
  have hn : n ≤ 24 := h.1.1.1
  have hw : wc ≤ 5 := h.1.1.2.2.1
  obtain ⟨p, hp, rfl⟩ := (h.2.1.1 j hj).2 y hy
  obtain ⟨a1, -, -, a4, a5⟩ := h.2.2 p hp
  have c1 := cnt_mem hy
  have c2 := cnt_Rn (g := g) (t := p) hj
  have hs : g (43 + p) 2 = 0 := by
    rcases Classical.em (g (43 + p) 2 = 0) with q | q
    · exact q
    · rw [a5.1, if_neg q] at c2; omega
  have hR : Rn wc g p = 1 := by rw [a5.1, if_pos hs]
  have hS : Sn wc g p = 0 := by
    rcases Nat.lt_or_ge (Sn wc g p) 1 with q | q
    · omega
    · have q1 := a5.2.2.1 (by have := a5.2.1; omega)
      rw [hs] at q1
      exact absurd q1 (by decide)
  obtain ⟨g1, e1⟩ : ∃ g1, g1 = f_rm g (rc j) (nI p) := ⟨_, rfl⟩
  have k1 : Rk n wc g1 := by rw [e1]; exact Rk_rmr h.2.1 _
  have n1 : ∀ s, s < n → Rn wc g1 s + (if s = p then cnt g (rc j) s else 0) = Rn wc g s ∧ Sn wc g1 s = Sn wc g s := fun s hs1 => by
    rw [e1]; exact ⟨Rn_rmr h.2.1 hj (by omega) (by omega), Sn_rmr⟩
  have r1 : RF g g1 := by rw [e1]; exact RF_rm (RS_r (by omega)) (RS_r1 (by omega))
  have f1 : Fr0 g g1 := by rw [e1]; exact Fr0_rm (Fr0_rf g) (Wr0_r (by omega)) (fun _ q => Wr0_r1 (by omega) q)
  have hl : (rl g1 (sc w)).length < 24 := room_s k1 hn hw1 hp (by
    have q := cnt_Sn (g := g1) (t := p) hw1
    rw [(n1 p hp).2, hS] at q; omega) (fun s hs1 => by
    have q := cnt_Sn (g := g1) (t := s) hw1
    rw [(n1 s hs1).2] at q
    have := (h.2.2 s hs1).2.2.2.2.2.1
    omega)
  obtain ⟨g2, e2⟩ : ∃ g2, g2 = f_append g1 (sc w) (nI p) := ⟨_, rfl⟩
  have k2 : Rk n wc g2 := by rw [e2]; exact Rk_aps k1 hl hp
  have n2 : ∀ s, s < n → Sn wc g2 s = Sn wc g1 s + (if s = p then 1 else 0) ∧ Rn wc g2 s = Rn wc g1 s := fun s hs1 => by
    rw [e2]; exact ⟨Sn_aps k1 hw1 hl (by omega) (by omega), Rn_aps⟩
  have r2 : RF g g2 := RF_tr r1 (by rw [e2]; exact RF_ap (RS_s (by omega)) (RS_s1 (by omega)))
  have f2 : Fr0 g g2 := by rw [e2]; exact Fr0_ap f1 (Wr0_s (by omega)) (fun _ q => Wr0_s1 (by omega) q)
  obtain ⟨g3, e3⟩ : ∃ g3, g3 = gsu g2 (43 + p) 2 1 := ⟨_, rfl⟩
  have hr : RE wc g2 g3 := by rw [e3]; exact RE_su hw RE_rf (RS_t (by omega))
  have f3 : Fr0 g g3 := by rw [e3]; exact Fr0_su f2 (Wr0_t (by omega) (by omega) (by omega))
  have r3 : ∀ a b, ¬ RS a → ¬ (a = 43 + p ∧ b = 2) → g3 a b = g a b := fun a b ha hc => by rw [e3, su_ne hc]; exact r2 a b ha
  have s3 : g3 (43 + p) 2 = 1 := by rw [e3, su_at]
  have hJ : J n wc ck 1 g3 := by
    refine J_re h hp (fun a b hj2 hc => r3 a b (by unfold JR at hj2; unfold RS; omega) (by omega)) (RE_Rk hr k2) (fun s hs1 hne => ?_) ?_ ?_ (fun _ => by rw [hs]; decide) ?_
    · obtain ⟨q1, q2⟩ := n1 s hs1
      obtain ⟨q3, q4⟩ := n2 s hs1
      rw [if_neg hne] at q1 q3
      rw [RE_Rn hr, RE_Sn hr]
      exact ⟨by omega, by omega⟩
    · obtain ⟨q1, q2⟩ := n1 p hp
      obtain ⟨q3, q4⟩ := n2 p hp
      rw [if_pos rfl] at q1 q3
      unfold PLt
      rw [RE_Rn hr, RE_Sn hr, s3, if_neg (by decide)]
      exact ⟨by omega, by omega, fun _ => Or.inl rfl, fun _ => by omega⟩
    · unfold TS
      rw [s3, r3 _ 7 (RS_t (by omega)) (by omega)]
      exact ⟨fun _ => a1.1 (by rw [hs]; decide), fun q => absurd st_lt1 q⟩
    · unfold TB
      rw [s3]
      exact fun q => absurd q (by decide)
  have hM : Mo n g g3 := fun t ht ho => by
    have hne : t ≠ p := fun q => ho (by rw [q, hs]; decide)
    exact ⟨r3 _ _ (RS_t (by omega)) (by omega), r3 _ _ (RS_t (by omega)) (by omega)⟩
  have hA : ∀ r, Ac n wc ck w g (r, g3) := fun r => ⟨n, Nat.le_refl _, hJ, Fr_0 f3, hM, Td_0 (by omega) f3⟩
  have ee : f_X1_take_J50 30 (nI w) (67 + 6 * w) g x (nI p) (rc j) = if x = nI w then ((1 : Int32), g3) else if x = -1 then ((1 : Int32), g3) else ((0 : Int32), gsu g3 (67 + 6 * w) 4 (g3 (67 + 6 * w) 4 + 1)) := by
    rw [e3, e2, e1, ← tk_n (by omega : p < 24)]
    have e5 : 67 + 6 * w + 3 = sc w := by unfold sc; omega
    rw [← e5]
    rfl
  rw [ee]
  split
  · exact hA 1
  · split
    · exact hA 1
    · exact ⟨n, Nat.le_refl _, J_ir hJ (by unfold JR; omega) (RS_w w), Fr_su (Fr_0 f3) (by unfold Wr; omega), fun t ht ho => ⟨(su_ni (by omega)).trans (hM t ht ho).1, (su_ni (by omega)).trans (hM t ht ho).2⟩, Td_l (by omega) f3 (Td_inc (by omega) rfl)⟩
theorem take_ok (h : J n wc ck 1 g) (hw1 : w < wc) : Ac n wc ck w g (f_X1_take g 30 (nI w) (67 + 6 * w)) := by
  have hw : wc ≤ 5 := h.1.1.2.2.1
  have hs := src_ok h hw1
  unfold f_X1_take
  generalize f_X1_sourceFor g 30 (nI w) = x at hs
  show Ac n wc ck w g (if x = -2 then ((0 : Int32), gsu g (67 + 6 * w) 3 (g (67 + 6 * w) 3 + 1)) else if x = nI w then f_X1_take_J50 30 (nI w) (67 + 6 * w) g x (f_last g (f_row 30 x)) (f_row 30 x) else f_X1_take_J50 30 (nI w) (67 + 6 * w) g x (f_at g (f_row 30 x) 0) (f_row 30 x))
  split
  · exact idle_ok h (by omega)
  · rename_i c
    rcases hs with q | ⟨j, hj, er, hne⟩
    · exact absurd q c
    · rw [er]
      have hrk := (h.2.1.1 j hj).1
      split
      · exact take50_ok h hw1 hj (last_mem hrk hne)
      · exact take50_ok h hw1 hj (at_mem (j := 0) hrk (List.length_pos_iff.mpr hne))
/-- a note of what ran: in its own twenty places -/
theorem mod_in (ck : Nat) (h : ck < 1000000) (st : gSt) : (f_J9_floorMod_7cf53 st (nI ck) 20).toNatClampNeg < 20 := by
  have e0 : nI ck - nI ck / 20 * 20 = nI (ck % 20) := pk_rem (d := 20) (by omega) (by omega) (by omega)
  have e1 : ∀ m, m < 20 → (if nI m = 0 then nI m else nI m + 20).toNatClampNeg < 20 ∨ (nI m).toNatClampNeg < 20 := fun m hm => Or.inr (by rw [nI_clamp (by omega)]; exact hm)
  have hx : (0 : Int32) ≤ (nI ck ^^^ 20) := by
    have hb : bt (nI ck ^^^ 20) 31 = false := by
      rw [b_xor]
      have h1 : bt (nI ck) 31 = false := by
        show (BitVec.ofNat 32 ck).getLsbD 31 = false
        rw [BitVec.getLsbD_ofNat]
        have : ck.testBit 31 = false := Nat.testBit_lt_two_pow (by omega)
        simp [this]
      rw [h1]
      decide
    rw [Int32.le_iff_toInt_le]
    have h2 : (nI ck ^^^ 20).toBitVec.msb = false := by rw [BitVec.msb_eq_getLsbD_last]; exact hb
    have h3 : (nI ck ^^^ 20).toInt = (nI ck ^^^ 20).toBitVec.toNat := by
      show (nI ck ^^^ 20).toBitVec.toInt = _
      rw [BitVec.toInt_eq_msb_cond, h2]
      simp
    have e00 : (0 : Int32).toInt = 0 := rfl
    omega
  unfold f_J9_floorMod_7cf53
  show (if (0 : Int32) ≤ (nI ck ^^^ 20) then nI ck - nI ck / 20 * 20 else _).toNatClampNeg < 20
  rw [if_pos hx, e0, nI_clamp (by omega)]
  omega
theorem note_ok {i : Nat} {v : Int32} (h : J n wc ck e g) (hw1 : w < 5) (hi : i = 67 + 6 * w) : J n wc ck e (f_X5_noteRan g i (nI ck) v) ∧ Fr g (f_X5_noteRan g i (nI ck) v) ∧ ∀ a b, a ≠ 72 + 6 * w → f_X5_noteRan g i (nI ck) v a b = g a b := by
  subst hi
  have hm := mod_in ck h.1.1.2.2.2 g
  unfold f_X5_noteRan
  show J n wc ck e (gsu g (67 + 6 * w + 5) (f_J9_floorMod_7cf53 g (nI ck) 20).toNatClampNeg v) ∧ Fr g (gsu g (67 + 6 * w + 5) (f_J9_floorMod_7cf53 g (nI ck) 20).toNatClampNeg v) ∧ ∀ a b, a ≠ 72 + 6 * w → gsu g (67 + 6 * w + 5) (f_J9_floorMod_7cf53 g (nI ck) 20).toNatClampNeg v a b = g a b
  have e5 : 67 + 6 * w + 5 = 72 + 6 * w := by omega
  rw [e5]
  exact ⟨J_ir h (by unfold JR; omega) (RS_n w), Fr_su (Fr_rf g) (by unfold Wr; omega), fun a b ha => su_ni ha⟩
end TURN
