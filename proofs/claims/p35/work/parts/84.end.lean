/-! END: a task is over: it goes from all rows and stacks, and who waits for it is freed. -/
/-- what changes of other tasks' states: blocked ones are freed -/
def Ch (n : Nat) (X : Nat → Prop) (g g' : gSt) : Prop := ∀ t, t < n → ¬ X t → g' (43 + t) 7 = g (43 + t) 7 ∧ (g' (43 + t) 2 = g (43 + t) 2 ∨ ((g (43 + t) 2 = 2 ∨ g (43 + t) 2 = 3) ∧ (g' (43 + t) 2 = 0 ∨ g' (43 + t) 2 = 1)))
theorem Ch_rf (n : Nat) (X : Nat → Prop) (g : gSt) : Ch n X g g := fun _ _ _ => ⟨rfl, Or.inl rfl⟩
theorem Ch_tr {n : Nat} {X : Nat → Prop} {a b c : gSt} (h1 : Ch n X a b) (h2 : Ch n X b c) : Ch n X a c := fun t ht hx => by
  obtain ⟨p1, p2⟩ := h1 t ht hx
  obtain ⟨q1, q2⟩ := h2 t ht hx
  refine ⟨q1.trans p1, ?_⟩
  rcases p2 with p2 | ⟨p2, p3⟩
  · rw [p2] at q2; exact q2
  · rcases q2 with q2 | ⟨q2, -⟩
    · rw [q2]; exact Or.inr ⟨p2, p3⟩
    · exfalso
      rcases p3 with e | e <;> rw [e] at q2 <;> revert q2 <;> decide
theorem Ch_mono {n n' : Nat} {X Y : Nat → Prop} {a b : gSt} (hn : n ≤ n') (h : Ch n' X a b) (hxy : ∀ t, X t → Y t) : Ch n Y a b := fun t ht hx => h t (by omega) (fun q => hx (hxy t q))
theorem Ch_of {n : Nat} {X : Nat → Prop} {a b : gSt} (h2 : ∀ t, t < n → ¬ X t → b (43 + t) 2 = a (43 + t) 2) (h7 : ∀ t, t < n → ¬ X t → b (43 + t) 7 = a (43 + t) 7) : Ch n X a b := fun t ht hx => ⟨h7 t ht hx, Or.inl (h2 t ht hx)⟩
theorem Ch_lt {n t : Nat} {X : Nat → Prop} {a b : gSt} (h : Ch n X a b) (ht : t < n) (hx : ¬ X t) : a (43 + t) 2 < 4 ↔ b (43 + t) 2 < 4 := by
  rcases (h t ht hx).2 with e | ⟨e1, e2⟩
  · rw [e]
  · refine ⟨fun _ => ?_, fun _ => st_lt2 e1⟩
    rcases e2 with e | e <;> rw [e] <;> decide
theorem Ch_ov {n t : Nat} {X : Nat → Prop} {a b : gSt} (h : Ch n X a b) (ht : t < n) (hx : ¬ X t) (ho : ¬ a (43 + t) 2 < 4) : b (43 + t) 2 = a (43 + t) 2 := by
  rcases (h t ht hx).2 with e | ⟨e1, -⟩
  · exact e
  · exact absurd (st_lt2 e1) ho
theorem Ch_1 {n t : Nat} {X : Nat → Prop} {a b : gSt} (h : Ch n X a b) (ht : t < n) (hx : ¬ X t) (h1 : a (43 + t) 2 = 1) : b (43 + t) 2 = 1 := by
  rcases (h t ht hx).2 with e | ⟨e1, -⟩
  · exact e.trans h1
  · rw [h1] at e1; exact absurd e1 (by decide)
section END
variable {n wc ck e p t : Nat} {g g' : gSt}
/-- behind the loop over the workers, k of them are done -/
def Zr (n wc k τ : Nat) (g0 g : gSt) : Prop := RF g0 g ∧ Fr0 g0 g ∧ Rk n wc g ∧ (∀ s, s < n → s ≠ τ → Rn wc g s = Rn wc g0 s ∧ Sn wc g s = Sn wc g0 s) ∧ (∀ j, j ≤ k → j ≤ wc → cnt g (rc j) τ = 0) ∧ (∀ w, w < k → w < wc → cnt g (sc w) τ = 0)
theorem Zr_com (hk : Rk n wc g) (hw : wc ≤ 5) (hn : n ≤ 24) (hp : p < n) : Zr n wc 0 p g (f_rm g 40 (nI p)) := by
  rw [← rc_0]
  refine ⟨RF_rm (RS_r (by omega)) (RS_r1 (by omega)), Fr0_rm (Fr0_rf g) (Wr0_r (by omega)) (fun _ q => Wr0_r1 (by omega) q), Rk_rmr hk _, fun s hs hne => ?_, fun j hj hj2 => ?_, fun w hw1 => absurd hw1 (by omega)⟩
  · have q := Rn_rmr (t := p) (s := s) hk (j := 0) (by omega) (by omega) (by omega)
    rw [if_neg hne] at q
    exact ⟨by omega, Sn_rmr⟩
  · obtain rfl : j = 0 := by omega
    rw [cnt_rm (hk.1 0 (by omega)).1 (by omega) (by omega), if_pos rfl]
theorem Zr_step {k : Nat} {g0 : gSt} (h : Zr n wc k p g0 g) (hw : wc ≤ 5) (hn : n ≤ 24) (hp : p < n) (hk : k < wc) : Zr n wc (k + 1) p g0 (f_rm (f_rm g (rc (k + 1)) (nI p)) (sc k) (nI p)) := by
  obtain ⟨h1, h2, h3, h4, h5, h6⟩ := h
  have k1 := Rk_rmr (j := k + 1) h3 (nI p)
  refine ⟨RF_tr h1 (RF_tr (RF_rm (RS_r (by omega)) (RS_r1 (by omega))) (RF_rm (RS_s (by omega)) (RS_s1 (by omega)))), Fr0_rm (Fr0_rm h2 (Wr0_r (by omega)) (fun _ q => Wr0_r1 (by omega) q)) (Wr0_s (by omega)) (fun _ q => Wr0_s1 (by omega) q), Rk_rms k1 _, fun s hs hne => ?_, fun j hj hj2 => ?_, fun w hj hj2 => ?_⟩
  · have q1 := Rn_rmr (t := p) (s := s) h3 (j := k + 1) (by omega) (by omega) (by omega)
    have q2 := Sn_rms (t := p) (s := s) k1 (j := k) (by omega) (by omega) (by omega)
    rw [if_neg hne] at q1 q2
    rw [Rn_rms]
    rw [Sn_rmr] at q2
    obtain ⟨q3, q4⟩ := h4 s hs hne
    exact ⟨by omega, by omega⟩
  · rw [cnt_same rms_r.1 rms_r.2]
    by_cases c : j = k + 1
    · subst c
      rw [cnt_rm (h3.1 _ hj2).1 (by omega) (by omega), if_pos rfl]
    · rw [cnt_same (rmr_o c).1 (rmr_o c).2]
      exact h5 j (by omega) hj2
  · by_cases c : w = k
    · subst c
      rw [cnt_rm (k1.2 _ hj2).1 (by omega) (by omega), if_pos rfl]
    · rw [cnt_same (rms_o c).1 (rms_o c).2, cnt_same rmr_s.1 rmr_s.2]
      exact h6 w (by omega) hj2
/-- what end looks at behind the loop -/
def fEnd (g : gSt) (t : Nat) : gSt := if g (f_tk 30 (g (43 + t) 5)) 2 = 2 then if f_X4_lastChild g (f_tk 30 (g (43 + t) 5)) = g (43 + t) 0 then f_X1_free g 30 (f_tk 30 (g (43 + t) 5)) else g else g
theorem end_L1 {g0 : gSt} {sq : Int32} (hw : wc ≤ 5) (hn : n ≤ 24) (hp : p < n) (h6 : g0 30 6 = nI wc) (hnum : g0 (43 + p) 0 = nI p) : ∀ (m k : Nat) (g : gSt), k ≤ wc → wc < m + k → Zr n wc k p g0 g → ∃ g2, f_X1_end_L1 30 (43 + p) sq m g (nI k) = fEnd g2 p ∧ Zr n wc wc p g0 g2 := by
  intro m
  induction m with
  | zero => intro k g h1 h2; omega
  | succ m ih =>
    intro k g h1 h2 hz
    have e6 : g 30 6 = nI wc := (hz.1 30 6 RS_30).trans h6
    have en : g (43 + p) 0 = nI p := (hz.1 _ 0 (RS_t (by omega))).trans hnum
    unfold f_X1_end_L1
    rw [e6]
    by_cases c : wc ≤ k
    · rw [if_pos (nI_le c (by omega))]
      obtain rfl : k = wc := by omega
      exact ⟨g, rfl, hz⟩
    · rw [if_neg (nI_ge (by omega) (by omega))]
      have e1 : f_wk 30 (nI k) + 1 = rc (k + 1) := by rw [wk_n (by omega), rc_s]; omega
      have e3 : f_wk 30 (nI k) + 3 = sc k := by rw [wk_n (by omega)]; unfold sc; omega
      have en2 : f_rm g (rc (k + 1)) (nI p) (43 + p) 0 = nI p := (RF_rm (RS_r (by omega)) (RS_r1 (by omega)) _ _ (RS_t (by omega))).trans en
      show ∃ g2, f_X1_end_L1 30 (43 + p) sq m (f_rm (f_rm g (f_wk 30 (nI k) + 1) (g (43 + p) 0)) (f_wk 30 (nI k) + 3) (f_rm g (f_wk 30 (nI k) + 1) (g (43 + p) 0) (43 + p) 0)) (nI k + 1) = fEnd g2 p ∧ _
      rw [e1, e3, en, en2, nI_1 k]
      exact ih (k + 1) _ (by omega) (by omega) (Zr_step hz hw hn hp (by omega))
/-- what is known behind end -/
def Ed (n wc ck e p : Nat) (sq : Int32) (g g' : gSt) : Prop := J n wc ck e g' ∧ Fr0 g g' ∧ (∀ a b, ¬ RS a → ¬ (43 ≤ a ∧ a < 67 ∧ (b = 2 ∨ b = 7)) → g' a b = g a b) ∧ Ch n (fun t => t = p) g g' ∧ g' (43 + p) 2 = sq ∧ g' (43 + p) 7 = nI ck
theorem end_ok {sq : Int32} (h : J n wc ck e g) (hp : p < n) (hs : g (43 + p) 2 < 4) (hq : (sq = 4 ∨ sq = 5) ∧ e = 1 ∨ sq = 6) : Ed n wc ck e p sq g (f_X1_end g 30 (43 + p) sq) := by
  have hn : n ≤ 24 := h.1.1.1
  have hw : wc ≤ 5 := h.1.1.2.2.1
  have hsq : ¬ sq < 4 := by rcases hq with ⟨q | q, -⟩ | q <;> rw [q] <;> decide
  have hsq2 : sq ≠ 0 ∧ sq ≠ 1 ∧ sq ≠ 2 ∧ sq ≠ 3 := by rcases hq with ⟨q | q, -⟩ | q <;> rw [q] <;> decide
  obtain ⟨g1, eg1⟩ : ∃ g1, g1 = gsu (gsu g (43 + p) 2 sq) (43 + p) 7 (nI ck) := ⟨_, rfl⟩
  have hr : RE wc g g1 := by rw [eg1]; exact RE_su hw (RE_su hw RE_rf (RS_t (by omega))) (RS_t (by omega))
  have f1 : ∀ a b, ¬ (a = 43 + p ∧ (b = 2 ∨ b = 7)) → g1 a b = g a b := fun a b hc => by rw [eg1, su_ne (by omega), su_ne (by omega)]
  have e2 : g1 (43 + p) 2 = sq := by rw [eg1, su_nk (by omega), su_at]
  have e7 : g1 (43 + p) 7 = nI ck := by rw [eg1, su_at]
  have hk := RE_Rk hr h.2.1
  have hnum : g1 (43 + p) 0 = nI p := (f1 _ 0 (by omega)).trans (h.1.2.2.1 p (by omega))
  have h6 : g1 30 6 = nI wc := (f1 _ 6 (by omega)).trans h.1.2.1.2.1
  have hz := Zr_com hk hw hn hp
  obtain ⟨g2, eq2, z⟩ := end_L1 (g0 := g1) (sq := sq) hw hn hp h6 hnum (((f_rm g1 40 (nI p) 30 6).toInt - (0 : Int32).toInt).toNat + 1) 0 _ (by omega) (by
    rw [hz.1 30 6 RS_30, h6, nI_toInt (by omega)]
    have e0 : (0 : Int32).toInt = 0 := rfl
    omega) hz
  have ee : f_X1_end g 30 (43 + p) sq = fEnd g2 p := by
    rw [← eq2]
    unfold f_X1_end
    have q11 : gsu g (43 + p) 2 sq 30 11 = nI ck := (su_ne (by omega)).trans h.1.2.1.2.2
    show f_X1_end_L1 30 (43 + p) sq (((f_rm (gsu (gsu g (43 + p) 2 sq) (43 + p) 7 (gsu g (43 + p) 2 sq 30 11)) (30 + 10) (gsu (gsu g (43 + p) 2 sq) (43 + p) 7 (gsu g (43 + p) 2 sq 30 11) (43 + p) 0) 30 6).toInt - (0 : Int32).toInt).toNat + 1) (f_rm (gsu (gsu g (43 + p) 2 sq) (43 + p) 7 (gsu g (43 + p) 2 sq 30 11)) (30 + 10) (gsu (gsu g (43 + p) 2 sq) (43 + p) 7 (gsu g (43 + p) 2 sq 30 11) (43 + p) 0)) 0 = _
    rw [q11, ← eg1, hnum]
    rfl
  rw [ee]
  obtain ⟨z1, z2, z3, z4, z5, z6⟩ := z
  have f2 : ∀ a b, ¬ RS a → ¬ (a = 43 + p ∧ (b = 2 ∨ b = 7)) → g2 a b = g a b := fun a b ha hc => (z1 a b ha).trans (f1 a b hc)
  have e22 : g2 (43 + p) 2 = sq := (z1 _ _ (RS_t (by omega))).trans e2
  have e27 : g2 (43 + p) 7 = nI ck := (z1 _ _ (RS_t (by omega))).trans e7
  have hR0 : Rn wc g2 p = 0 := sm_0 (fun j hj => z5 j (by omega) (by omega))
  have hS0 : Sn wc g2 p = 0 := sm_0 (fun w hj => z6 w hj hj)
  have hJ2 : J n wc ck e g2 := by
    refine J_re h hp (fun a b hj hc => f2 a b (by unfold JR at hj; unfold RS; omega) (by omega)) z3 (fun s hs1 hne => ⟨(z4 s hs1 hne).1.trans (RE_Rn hr s), (z4 s hs1 hne).2.trans (RE_Sn hr s)⟩) ?_ ?_ (fun _ => hs) ?_
    · unfold PLt
      rw [hR0, hS0, e22, if_neg hsq2.1]
      exact ⟨rfl, by omega, fun q => absurd q (by omega), fun q => absurd q hsq2.2.1⟩
    · unfold TS
      rw [e22, e27]
      refine ⟨fun q => absurd q hsq, fun _ => ⟨ck, Nat.le_refl _, rfl, fun q => ?_⟩⟩
      rcases hq with ⟨-, q2⟩ | q2
      · omega
      · rw [q2] at q; exact absurd q (by decide)
    · unfold TB
      rw [e22]
      exact fun q => absurd q (fun q => q.elim hsq2.2.2.1 hsq2.2.2.2)
  have hF2 : Fr0 g g2 := Fr0_tr (by rw [eg1]; exact Fr0_su (Fr0_su (Fr0_rf g) (Wr0_t (by omega) (by omega) (by omega))) (Wr0_t (by omega) (by omega) (by omega))) z2
  have hE2 : Ed n wc ck e p sq g g2 := by
    refine ⟨hJ2, hF2, fun a b ha hc => f2 a b ha (by omega), fun t ht hx => ⟨f2 _ _ (RS_t (by omega)) (by omega), Or.inl (f2 _ _ (RS_t (by omega)) (by omega))⟩, e22, e27⟩
  unfold fEnd
  have ep : g2 (43 + p) 5 = g (43 + p) 5 := f2 _ _ (RS_t (by omega)) (by omega)
  have a3 := (h.2.2 p hp).2.2.1.1
  rw [← ep] at a3
  rcases a3 with q | ⟨r, hr1, q, -⟩
  · have e32 : f_tk 30 (-1) = 32 := by decide
    rw [q, e32, hJ2.1.2.2.2, if_neg (by decide)]
    exact hE2
  · rw [q, tk_n (by omega)]
    split
    · rename_i c2
      split
      · obtain ⟨w1, w2, w3, w4⟩ := free_ok hJ2 (p := r) (by omega) (Or.inl c2)
        refine ⟨w1, Fr0_tr hF2 w2, fun a b ha hc => ?_, fun t ht hx => ?_, ?_, ?_⟩
        · rw [w3 a b ha (by omega)]; exact f2 a b ha (by omega)
        · by_cases c : t = r
          · subst c
            refine ⟨?_, Or.inr ⟨Or.inl ?_, w4⟩⟩
            · rw [w3 _ _ (RS_t (by omega)) (by omega)]; exact f2 _ _ (RS_t (by omega)) (by omega)
            · rw [← f2 _ _ (RS_t (by omega)) (by omega)]; exact c2
          · refine ⟨?_, Or.inl ?_⟩
            · rw [w3 _ _ (RS_t (by omega)) (by omega)]; exact f2 _ _ (RS_t (by omega)) (by omega)
            · rw [w3 _ _ (RS_t (by omega)) (by omega)]; exact f2 _ _ (RS_t (by omega)) (by omega)
        · rw [w3 _ _ (RS_t (by omega)) (by omega)]; exact e22
        · rw [w3 _ _ (RS_t (by omega)) (by omega)]; exact e27
      · exact hE2
    · exact hE2
end END
