/-! WHAT THE LAW'S ROUND KNOWS. -/
section LG
variable {n wc ck many : Nat} {st st' : gSt} {hd ht tk ov va : Int32}
theorem same_ih (h : ∀ i k, i < 97 → st' i k = st i k) : f_X1_isHalted st' 30 = f_X1_isHalted st 30 := by
  rw [← v_halt (bg := st) (st := st') (B := 30) (P := 30) (by omega) (by omega), gv_self h]
theorem same_hd (h : ∀ i k, i < 97 → st' i k = st i k) : f_X6_halted st' = f_X6_halted st := by
  rw [← u_halted (bg := st) (st := st'), gv_self h]
/-- what is known of halted and haltsIn(3) -/
def Hf (st : gSt) (hd ht : Int32) : Prop := hd = f_X6_halted st ∧ (ht = 0 ↔ f_X1_isHalted st 30 ≠ 0) ∧ (ht = 2 → f_X1_isHalted (pt2 st) 30 ≠ 0)
theorem Hf_As (h : Hf st hd ht) (ha : As st st') : Hf st' hd ht := by
  obtain ⟨h1, h2, h3⟩ := h
  refine ⟨by rw [same_hd ha.1]; exact h1, by rw [same_ih ha.1]; exact h2, fun q => ?_⟩
  rw [same_ih (pt2_As ha.1)]
  exact h3 q
theorem Hf_y (h : Hf st hd ht) (hh : f_X1_isHalted st 30 ≠ 0) : ¬ hd ≤ 0 ∧ ¬ 7 < hd ∧ 4 ≤ hd ∧ ht = 0 := by
  obtain ⟨h1, h2, h3⟩ := h
  obtain ⟨q1, q2, q3⟩ := halted_4 hh
  rw [← h1] at q1 q2 q3
  exact ⟨Int32.not_le.mpr q1, q2, Int32.not_lt.mp q3, h2.mpr hh⟩
theorem Hf_n (h : Hf st hd ht) (hh : f_X1_isHalted st 30 = 0) : hd = 0 ∧ ¬ ht = 0 := by
  obtain ⟨h1, h2, h3⟩ := h
  exact ⟨h1.trans (halted_0.mpr hh), fun q => h2.mp q hh⟩
/-- what is known of the task that is asked for -/
def Tf (n : Nat) (st : gSt) (tk ov va : Int32) : Prop := (n = 0 ∧ tk = -1) ∨ ∃ t, t < n ∧ tk = nI t ∧ (ov = 0 ↔ ¬ st (43 + t) 2 < 4) ∧ (¬ ov < 0 ↔ ¬ pt2 st (43 + t) 2 < 4) ∧ va = pt2 st (43 + t) 4
/-- overIn and valueIn, asked one behind the other -/
theorem ov_va {t : Nat} (h : LI n wc ck many st) (ht1 : t < n) : LI n wc ck many (f_X6_overIn st (nI t) 2).2 ∧ LI n wc ck many (f_X6_valueIn (f_X6_overIn st (nI t) 2).2 (nI t) 2).2 ∧ As st (f_X6_valueIn (f_X6_overIn st (nI t) 2).2 (nI t) 2).2 ∧ Tf n (f_X6_valueIn (f_X6_overIn st (nI t) 2).2 (nI t) 2).2 (nI t) (f_X6_overIn st (nI t) 2).1 (f_X6_valueIn (f_X6_overIn st (nI t) 2).2 (nI t) 2).1 := by
  have hn := h.1.1.1.1
  obtain ⟨a1, a2, a3⟩ := overIn_ok h ht1
  have h1 := LI_As h a1
  obtain ⟨b1, b2⟩ := valueIn_ok h1 ht1
  have h2 := LI_As h1 b1
  have a := As_tr a1 b1
  refine ⟨h1, h2, a, Or.inr ⟨t, ht1, rfl, ?_, ?_, ?_⟩⟩
  · rw [a.1 _ _ (by omega)]; exact a2
  · rw [pt2_As a.1 _ _ (by omega)]; exact a3
  · rw [pt2_As b1.1 _ _ (by omega)]; exact b2
/-- tick(2) -/
theorem tick_ok (h : LI n wc ck many st) (hck : ck + 2 ≤ 100) (hH : Hf st hd ht) (hT : Tf n st tk ov va) : ∃ n', n ≤ n' ∧ LI n' wc (ck + 2) many (f_X6_tick st 2).2 ∧ (f_X6_tick st 2).1 = nI (sm (oU (f_X6_tick st 2).2) n') ∧
    (f_X1_isHalted st 30 ≠ 0 → f_X6_halted (f_X6_tick st 2).2 = hd) ∧ (ht = 2 → ¬ f_X6_halted (f_X6_tick st 2).2 = 0) ∧ (∀ t, tk = nI t → t < n → (f_X6_tick st 2).2 (43 + t) 4 = va ∧ (¬ ov < 0 ↔ ¬ (f_X6_tick st 2).2 (43 + t) 2 < 4)) := by
  obtain ⟨n', q1, q2, -⟩ := LI_pt2 h hck
  have hn := h.1.1.1.1
  rw [tick_eq]
  refine ⟨n', q1, q2, cu_ok q2.1, fun q => ?_, fun q => ?_, fun t et ht1 => ?_⟩
  · rw [hH.1]; exact halted_stays h q
  · exact fun q0 => hH.2.2 q (halted_0.mp q0)
  · rcases hT with ⟨z, -⟩ | ⟨t2, l2, e2, -, f2, f3⟩
    · omega
    · have : t = t2 := by
        have := congrArg Int32.toInt (et.symm.trans e2)
        rw [nI_toInt (by omega), nI_toInt (by omega)] at this
        omega
      subst this
      exact ⟨f3.symm, f2⟩
theorem nI_m1 (a : Nat) : nI (a + 1) - 1 = nI a := by
  show nI (a + 1) - nI 1 = nI a
  rw [pk_sub (by omega), Nat.add_sub_cancel]
theorem mod16 : ∀ k, k < 34 → nI k - nI k / 16 * 16 = nI (k % 16) := by decide +kernel
end LG
