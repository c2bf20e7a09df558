/-! WHAT ALWAYS HOLDS OF A POOL (at 30): J n wc ck e g. n tasks, wc workers, the clock ck; e: 1 while a tick goes on, else 0. -/
/-- what a method that is no turn of a worker may write -/
def Wr0 (a b : Nat) : Prop := (a = 30 ∧ b = 3) ∨ (43 ≤ a ∧ a < 67 ∧ 1 ≤ b ∧ b ≤ 10) ∨ (a = 42 ∧ b < 6) ∨ (a = 40 ∧ b = 1) ∨ (a = 41 ∧ b < 24) ∨ (67 ≤ a ∧ a < 97 ∧ (((a - 67) % 6 = 1 ∧ b = 1) ∨ ((a - 67) % 6 = 2 ∧ b < 24) ∨ ((a - 67) % 6 = 3 ∧ b = 1) ∨ ((a - 67) % 6 = 4 ∧ b < 24)))
/-- what a tick may write -/
def Wr (a b : Nat) : Prop := Wr0 a b ∨ (a = 30 ∧ b = 11) ∨ (67 ≤ a ∧ a < 97 ∧ (((a - 67) % 6 = 0 ∧ 2 ≤ b ∧ b ≤ 4) ∨ ((a - 67) % 6 = 5 ∧ b < 20)))
def Fr0 (g g' : gSt) : Prop := ∀ a b, ¬ Wr0 a b → g' a b = g a b
def Fr (g g' : gSt) : Prop := ∀ a b, ¬ Wr a b → g' a b = g a b
theorem Fr_0 {g g' : gSt} (h : Fr0 g g') : Fr g g' := fun a b q => h a b (fun w => q (Or.inl w))
theorem Fr0_rf (g : gSt) : Fr0 g g := fun _ _ _ => rfl
theorem Fr_rf (g : gSt) : Fr g g := fun _ _ _ => rfl
theorem Fr0_tr {a b c : gSt} (h1 : Fr0 a b) (h2 : Fr0 b c) : Fr0 a c := fun x y h => (h2 x y h).trans (h1 x y h)
theorem Fr_tr {a b c : gSt} (h1 : Fr a b) (h2 : Fr b c) : Fr a c := fun x y h => (h2 x y h).trans (h1 x y h)
theorem su_ne {g : gSt} {i k a b : Nat} {v : Int32} (h : ¬ (a = i ∧ b = k)) : gsu g i k v a b = g a b := by rw [gsu_eq, if_neg h]
theorem Fr0_su {g g1 : gSt} {i k : Nat} {v : Int32} (h : Fr0 g g1) (hw : Wr0 i k) : Fr0 g (gsu g1 i k v) := fun a b q => by
  rw [su_ne (fun c => q (by rw [c.1, c.2]; exact hw))]
  exact h a b q
theorem Fr_su {g g1 : gSt} {i k : Nat} {v : Int32} (h : Fr g g1) (hw : Wr i k) : Fr g (gsu g1 i k v) := fun a b q => by
  rw [su_ne (fun c => q (by rw [c.1, c.2]; exact hw))]
  exact h a b q
theorem Wr0_t {t k : Nat} (ht : t < 24) (h1 : 1 ≤ k) (h2 : k ≤ 10) : Wr0 (43 + t) k := Or.inr (Or.inl (by omega))
theorem Wr0_r {j : Nat} (h : j ≤ 5) : Wr0 (rc j) 1 := by unfold Wr0 rc; split <;> omega
theorem Wr0_r1 {j b : Nat} (h : j ≤ 5) (hb : b < 24) : Wr0 (rc j + 1) b := by unfold Wr0 rc; split <;> omega
theorem Wr0_s {j : Nat} (h : j < 5) : Wr0 (sc j) 1 := by unfold Wr0 sc; omega
theorem Wr0_s1 {j b : Nat} (h : j < 5) (hb : b < 24) : Wr0 (sc j + 1) b := by unfold Wr0 sc; omega
theorem Fr0_rm {g g1 : gSt} {i : Nat} {x : Int32} (h : Fr0 g g1) (h0 : Wr0 i 1) (h1 : ∀ b, b < 24 → Wr0 (i + 1) b) : Fr0 g (f_rm g1 i x) := fun a b q => by
  by_cases c : a = i
  · subst c
    rw [rm_fr1 (fun e => q (by rw [e]; exact h0))]
    exact h _ b q
  · by_cases c1 : a = i + 1
    · subst c1
      rw [rm_fr2 (Nat.le_of_not_lt (fun e => q (h1 b e)))]
      exact h _ b q
    · rw [rm_fr c c1]
      exact h a b q
theorem Fr0_ap {g g1 : gSt} {i : Nat} {x : Int32} (h : Fr0 g g1) (h0 : Wr0 i 1) (h1 : ∀ b, b < 24 → Wr0 (i + 1) b) : Fr0 g (f_append g1 i x) := fun a b q => by
  by_cases c : a = i
  · subst c
    rw [ap_fr1 (fun e => q (by rw [e]; exact h0))]
    exact h _ b q
  · by_cases c1 : a = i + 1
    · subst c1
      rw [ap_fr2 (Nat.le_of_not_lt (fun e => q (h1 b e)))]
      exact h _ b q
    · rw [ap_fr c c1]
      exact h a b q
def bt (x : Int32) (i : Nat) : Bool := x.toBitVec.getLsbD i
def TS (ck e : Nat) (g : gSt) (t : Nat) : Prop := (g (43 + t) 2 < 4 → g (43 + t) 7 = -1) ∧ (¬ g (43 + t) 2 < 4 → ∃ o : Nat, o ≤ ck ∧ g (43 + t) 7 = nI o ∧ (g (43 + t) 2 = 4 ∨ g (43 + t) 2 = 5 → o < ck + e))
def TV (g : gSt) (t : Nat) : Prop := ¬ g (43 + t) 4 < -999999 ∧ ¬ 999999 < g (43 + t) 4
def TP (n : Nat) (g : gSt) (t : Nat) : Prop := (g (43 + t) 5 = -1 ∨ ∃ p, p < t ∧ g (43 + t) 5 = nI p ∧ (g (43 + t) 2 < 4 → bt (g (43 + p) 6) t = true)) ∧ (∀ k, k < 24 → bt (g (43 + t) 6) k = true → k < n ∧ g (43 + k) 5 = nI t)
def TB (wc : Nat) (g : gSt) (t : Nat) : Prop := (g (43 + t) 2 = 2 ∨ g (43 + t) 2 = 3) → ∃ b, b < wc ∧ g (43 + t) 10 = nI b
def PLt (wc : Nat) (g : gSt) (t : Nat) : Prop := Rn wc g t = (if g (43 + t) 2 = 0 then 1 else 0) ∧ Sn wc g t ≤ 1 ∧ (Sn wc g t = 1 → g (43 + t) 2 = 1 ∨ g (43 + t) 2 = 2 ∨ g (43 + t) 2 = 3) ∧ (g (43 + t) 2 = 1 → Sn wc g t = 1)
def TK (n wc ck e : Nat) (g : gSt) (t : Nat) : Prop := TS ck e g t ∧ TV g t ∧ TP n g t ∧ TB wc g t ∧ PLt wc g t
def J0 (n wc ck : Nat) (g : gSt) : Prop := (n ≤ 24 ∧ 1 ≤ wc ∧ wc ≤ 5 ∧ ck < 1000000) ∧ (g 30 3 = nI n ∧ g 30 6 = nI wc ∧ g 30 11 = nI ck) ∧ (∀ t, t < 24 → g (43 + t) 0 = nI t) ∧ g 32 2 = 0
def J (n wc ck e : Nat) (g : gSt) : Prop := J0 n wc ck g ∧ Rk n wc g ∧ ∀ t, t < n → TK n wc ck e g t
/-- what J looks at, rows and stacks apart -/
def JR (a b : Nat) : Prop := (a = 30 ∧ (b = 3 ∨ b = 6 ∨ b = 11)) ∨ (a = 32 ∧ b = 2) ∨ (43 ≤ a ∧ a < 67 ∧ (b = 0 ∨ b = 2 ∨ b = 4 ∨ b = 5 ∨ b = 6 ∨ b = 7 ∨ b = 10))
theorem JR_t {t k : Nat} (ht : t < 24) (hk : k = 0 ∨ k = 2 ∨ k = 4 ∨ k = 5 ∨ k = 6 ∨ k = 7 ∨ k = 10) : JR (43 + t) k := Or.inr (Or.inr ⟨by omega, by omega, hk⟩)
section INV
variable {n wc ck e p t : Nat} {g g' : gSt}
theorem J0_of (h : J0 n wc ck g) (h0 : ∀ a b, JR a b → (a = 30 ∨ a = 32 ∨ b = 0) → g' a b = g a b) : J0 n wc ck g' := by
  obtain ⟨h1, ⟨h2, h3, h4⟩, h5, h6⟩ := h
  refine ⟨h1, ⟨?_, ?_, ?_⟩, fun t ht => ?_, ?_⟩
  · rw [h0 30 3 (Or.inl (by omega)) (by omega)]; exact h2
  · rw [h0 30 6 (Or.inl (by omega)) (by omega)]; exact h3
  · rw [h0 30 11 (Or.inl (by omega)) (by omega)]; exact h4
  · rw [h0 (43 + t) 0 (JR_t ht (by omega)) (by omega)]; exact h5 t ht
  · rw [h0 32 2 (Or.inr (Or.inl (by omega))) (by omega)]; exact h6
/-- one task's state, over-tick and place change -/
theorem J_re (h : J n wc ck e g) (hp : p < n) (h0 : ∀ a b, JR a b → ¬ (a = 43 + p ∧ (b = 2 ∨ b = 7 ∨ b = 10)) → g' a b = g a b) (hk : Rk n wc g') (ho : ∀ s, s < n → s ≠ p → Rn wc g' s = Rn wc g s ∧ Sn wc g' s = Sn wc g s) (hpl : PLt wc g' p) (hts : TS ck e g' p) (hst : g' (43 + p) 2 < 4 → g (43 + p) 2 < 4) (hb : TB wc g' p) : J n wc ck e g' := by
  obtain ⟨hJ, -, hT⟩ := h
  have hn : n ≤ 24 := hJ.1.1
  refine ⟨J0_of hJ (fun a b hj hc => h0 a b hj (by omega)), hk, fun t ht => ?_⟩
  have e4 : ∀ t, t < n → g' (43 + t) 4 = g (43 + t) 4 := fun t ht => h0 _ _ (JR_t (by omega) (by omega)) (by omega)
  have e5 : ∀ t, t < n → g' (43 + t) 5 = g (43 + t) 5 := fun t ht => h0 _ _ (JR_t (by omega) (by omega)) (by omega)
  have e6 : ∀ t, t < n → g' (43 + t) 6 = g (43 + t) 6 := fun t ht => h0 _ _ (JR_t (by omega) (by omega)) (by omega)
  obtain ⟨a1, a2, a3, a4, a5⟩ := hT t ht
  have hv : TV g' t := by unfold TV; rw [e4 t ht]; exact a2
  by_cases c : t = p
  · subst c
    refine ⟨hts, hv, ⟨?_, fun k hk1 hb1 => ?_⟩, hb, hpl⟩
    · rw [e5 t ht]
      rcases a3.1 with q | ⟨r, hr, q, hq⟩
      · exact Or.inl q
      · exact Or.inr ⟨r, hr, q, fun hs => by rw [e6 r (by omega)]; exact hq (hst hs)⟩
    · rw [e6 t ht] at hb1
      obtain ⟨b1, b2⟩ := a3.2 k hk1 hb1
      exact ⟨b1, by rw [e5 k b1]; exact b2⟩
  · have e2 : g' (43 + t) 2 = g (43 + t) 2 := h0 _ _ (JR_t (by omega) (by omega)) (by omega)
    have e7 : g' (43 + t) 7 = g (43 + t) 7 := h0 _ _ (JR_t (by omega) (by omega)) (by omega)
    have e10 : g' (43 + t) 10 = g (43 + t) 10 := h0 _ _ (JR_t (by omega) (by omega)) (by omega)
    refine ⟨?_, hv, ⟨?_, fun k hk1 hb1 => ?_⟩, ?_, ?_⟩
    · unfold TS; rw [e2, e7]; exact a1
    · rw [e5 t ht, e2]
      rcases a3.1 with q | ⟨r, hr, q, hq⟩
      · exact Or.inl q
      · exact Or.inr ⟨r, hr, q, fun hs => by rw [e6 r (by omega)]; exact hq hs⟩
    · rw [e6 t ht] at hb1
      obtain ⟨b1, b2⟩ := a3.2 k hk1 hb1
      exact ⟨b1, by rw [e5 k b1]; exact b2⟩
    · unfold TB; rw [e2, e10]; exact a4
    · unfold PLt; rw [e2, (ho t ht c).1, (ho t ht c).2]; exact a5
/-- nothing that J looks at changes -/
theorem J_same (h : J n wc ck e g) (h0 : ∀ a b, JR a b → g' a b = g a b) (hr : RE wc g g') : J n wc ck e g' := by
  obtain ⟨hJ, hk, hT⟩ := h
  have hn : n ≤ 24 := hJ.1.1
  have ee : ∀ t, t < n → ∀ k, (k = 0 ∨ k = 2 ∨ k = 4 ∨ k = 5 ∨ k = 6 ∨ k = 7 ∨ k = 10) → g' (43 + t) k = g (43 + t) k := fun t ht k hk => h0 _ _ (JR_t (by omega) hk)
  refine ⟨J0_of hJ (fun a b hj _ => h0 a b hj), RE_Rk hr hk, fun t ht => ?_⟩
  obtain ⟨a1, a2, a3, a4, a5⟩ := hT t ht
  refine ⟨?_, ?_, ⟨?_, fun k hk1 hb1 => ?_⟩, ?_, ?_⟩
  · unfold TS; rw [ee t ht 2 (by omega), ee t ht 7 (by omega)]; exact a1
  · unfold TV; rw [ee t ht 4 (by omega)]; exact a2
  · rw [ee t ht 5 (by omega), ee t ht 2 (by omega)]
    rcases a3.1 with q | ⟨r, hr, q, hq⟩
    · exact Or.inl q
    · exact Or.inr ⟨r, hr, q, fun hs => by rw [ee r (by omega) 6 (by omega)]; exact hq hs⟩
  · rw [ee t ht 6 (by omega)] at hb1
    obtain ⟨b1, b2⟩ := a3.2 k hk1 hb1
    exact ⟨b1, by rw [ee k b1 5 (by omega)]; exact b2⟩
  · unfold TB; rw [ee t ht 2 (by omega), ee t ht 10 (by omega)]; exact a4
  · unfold PLt; rw [ee t ht 2 (by omega), RE_Rn hr, RE_Sn hr]; exact a5
theorem J_ir {i k : Nat} {v : Int32} (h : J n wc ck e g) (h1 : ¬ JR i k) (h2 : ¬ RS i) : J n wc ck e (gsu g i k v) :=
  J_same h (fun a b hj => su_ne (fun c => h1 (by rw [← c.1, ← c.2]; exact hj))) (RE_su h.1.1.2.2.1 RE_rf h2)
/-- a value is added -/
theorem J_val {v : Int32} (h : J n wc ck e g) (hp : p < n) (hv : ¬ v < -999999 ∧ ¬ 999999 < v) : J n wc ck e (gsu g (43 + p) 4 v) := by
  obtain ⟨hJ, hk, hT⟩ := h
  have hn : n ≤ 24 := hJ.1.1
  have hw : wc ≤ 5 := hJ.1.2.2.1
  have hr : RE wc g (gsu g (43 + p) 4 v) := RE_su hw RE_rf (RS_t (by omega))
  have ee : ∀ t k, k ≠ 4 → gsu g (43 + p) 4 v (43 + t) k = g (43 + t) k := fun t k hk => su_nk hk
  refine ⟨J0_of hJ (fun a b hj hc => su_ne (by omega)), RE_Rk hr hk, fun t ht => ?_⟩
  obtain ⟨a1, a2, a3, a4, a5⟩ := hT t ht
  refine ⟨?_, ?_, ⟨?_, fun k hk1 hb1 => ?_⟩, ?_, ?_⟩
  · unfold TS; rw [ee t 2 (by omega), ee t 7 (by omega)]; exact a1
  · unfold TV
    by_cases c : t = p
    · subst c; rw [su_at]; exact hv
    · rw [su_ni (by omega)]; exact a2
  · rw [ee t 5 (by omega), ee t 2 (by omega)]
    rcases a3.1 with q | ⟨r, hr, q, hq⟩
    · exact Or.inl q
    · exact Or.inr ⟨r, hr, q, fun hs => by rw [ee r 6 (by omega)]; exact hq hs⟩
  · rw [ee t 6 (by omega)] at hb1
    obtain ⟨b1, b2⟩ := a3.2 k hk1 hb1
    exact ⟨b1, by rw [ee k 5 (by omega)]; exact b2⟩
  · unfold TB; rw [ee t 2 (by omega), ee t 10 (by omega)]; exact a4
  · unfold PLt; rw [ee t 2 (by omega), RE_Rn hr, RE_Sn hr]; exact a5
/-- a child that is over is taken from the set -/
theorem J_clr {v : Int32} (h : J n wc ck e g) (hp : p < n) (hv : ∀ k, k < 24 → bt v k = true → bt (g (43 + p) 6) k = true) (hc : ∀ k, k < n → g (43 + k) 2 < 4 → bt (g (43 + p) 6) k = true → bt v k = true) : J n wc ck e (gsu g (43 + p) 6 v) := by
  obtain ⟨hJ, hk, hT⟩ := h
  have hn : n ≤ 24 := hJ.1.1
  have hw : wc ≤ 5 := hJ.1.2.2.1
  have hr : RE wc g (gsu g (43 + p) 6 v) := RE_su hw RE_rf (RS_t (by omega))
  have ee : ∀ t k, k ≠ 6 → gsu g (43 + p) 6 v (43 + t) k = g (43 + t) k := fun t k hk => su_nk hk
  refine ⟨J0_of hJ (fun a b hj hc => su_ne (by omega)), RE_Rk hr hk, fun t ht => ?_⟩
  obtain ⟨a1, a2, a3, a4, a5⟩ := hT t ht
  refine ⟨?_, ?_, ⟨?_, fun k hk1 hb1 => ?_⟩, ?_, ?_⟩
  · unfold TS; rw [ee t 2 (by omega), ee t 7 (by omega)]; exact a1
  · unfold TV; rw [ee t 4 (by omega)]; exact a2
  · rw [ee t 5 (by omega), ee t 2 (by omega)]
    rcases a3.1 with q | ⟨r, hr, q, hq⟩
    · exact Or.inl q
    · refine Or.inr ⟨r, hr, q, fun hs => ?_⟩
      by_cases c : r = p
      · subst c
        rw [su_at]
        exact hc t ht hs (hq hs)
      · rw [su_ni (by omega)]
        exact hq hs
  · have hb2 : bt (g (43 + t) 6) k = true := by
      by_cases c : t = p
      · subst c
        rw [su_at] at hb1
        exact hv k hk1 hb1
      · rw [su_ni (by omega)] at hb1
        exact hb1
    obtain ⟨b1, b2⟩ := a3.2 k hk1 hb2
    exact ⟨b1, by rw [ee k 5 (by omega)]; exact b2⟩
  · unfold TB; rw [ee t 2 (by omega), ee t 10 (by omega)]; exact a4
  · unfold PLt; rw [ee t 2 (by omega), RE_Rn hr, RE_Sn hr]; exact a5
/-! FREE: a task that was blocked runs, if it is on a stack, else it is ready in the row of the worker on which it was blocked. -/
/-- only rows, stacks and the state of one task are otherwise -/
def Tc (p : Nat) (g g' : gSt) : Prop := ∀ a b, ¬ RS a → ¬ (a = 43 + p ∧ b = 2) → g' a b = g a b
theorem st_lt0 : (0 : Int32) < 4 := by decide
theorem st_lt1 : (1 : Int32) < 4 := by decide
theorem st_lt2 {x : Int32} (h : x = 2 ∨ x = 3) : x < 4 := by rcases h with rfl | rfl <;> decide
theorem st_ne0 {x : Int32} (h : x = 2 ∨ x = 3) : x ≠ 0 := by rcases h with rfl | rfl <;> decide
theorem free_run (h : J n wc ck e g) (hp : p < n) (hs : g (43 + p) 2 = 2 ∨ g (43 + p) 2 = 3) (h1 : Sn wc g p = 1) : J n wc ck e (gsu g (43 + p) 2 1) := by
  have hn : n ≤ 24 := h.1.1.1
  have hw : wc ≤ 5 := h.1.1.2.2.1
  have hr : RE wc g (gsu g (43 + p) 2 1) := RE_su hw RE_rf (RS_t (by omega))
  obtain ⟨a1, -, -, -, a5⟩ := h.2.2 p hp
  refine J_re h hp (fun a b _ hc => su_ne (by omega)) (RE_Rk hr h.2.1) (fun s _ _ => ⟨RE_Rn hr s, RE_Sn hr s⟩) ?_ ?_ (fun _ => st_lt2 hs) ?_
  · unfold PLt
    rw [RE_Rn hr, RE_Sn hr, su_at, a5.1, if_neg (st_ne0 hs), if_neg (by decide)]
    exact ⟨rfl, by omega, fun _ => Or.inl rfl, fun _ => h1⟩
  · unfold TS
    rw [su_at, su_nk (by omega)]
    exact ⟨fun _ => a1.1 (st_lt2 hs), fun q => absurd st_lt1 q⟩
  · unfold TB
    rw [su_at]
    exact fun q => absurd q (by decide)
theorem free_row {b : Nat} (h : J n wc ck e g) (hp : p < n) (hs : g (43 + p) 2 = 2 ∨ g (43 + p) 2 = 3) (h1 : Sn wc g p = 0) (hb : b < wc) : J n wc ck e (f_append (gsu g (43 + p) 2 0) (rc (b + 1)) (nI p)) := by
  have hn : n ≤ 24 := h.1.1.1
  have hw : wc ≤ 5 := h.1.1.2.2.1
  have hr : RE wc g (gsu g (43 + p) 2 0) := RE_su hw RE_rf (RS_t (by omega))
  have hk := RE_Rk hr h.2.1
  obtain ⟨a1, -, -, -, a5⟩ := h.2.2 p hp
  have hR : Rn wc (gsu g (43 + p) 2 0) p = 0 := by rw [RE_Rn hr, a5.1, if_neg (st_ne0 hs)]
  have hl : (rl (gsu g (43 + p) 2 0) (rc (b + 1))).length < 24 := room_r hk hn (by omega) hp (by have := cnt_Rn (g := gsu g (43 + p) 2 0) (t := p) (wc := wc) (i := b + 1) (by omega); omega) (fun s hs1 => by
    have q1 := cnt_Rn (g := gsu g (43 + p) 2 0) (t := s) (wc := wc) (i := b + 1) (by omega)
    rw [RE_Rn hr, (h.2.2 s hs1).2.2.2.2.1] at q1
    split at q1 <;> omega)
  have ef : ∀ a k, ¬ RS a → f_append (gsu g (43 + p) 2 0) (rc (b + 1)) (nI p) a k = gsu g (43 + p) 2 0 a k := fun a k ha => RF_ap (RS_r (by omega)) (RS_r1 (by omega)) a k ha
  refine J_re h hp (fun a k hj hc => ?_) (Rk_apr hk hl hp) (fun s hs1 hne => ?_) ?_ ?_ (fun _ => st_lt2 hs) ?_
  · rw [ef a k (by unfold JR at hj; unfold RS; omega)]
    exact su_ne (by omega)
  · rw [Rn_apr hk (by omega) hl (by omega) (by omega), Sn_apr, RE_Rn hr, RE_Sn hr, if_neg hne]
    exact ⟨rfl, rfl⟩
  · unfold PLt
    rw [Rn_apr hk (by omega) hl (by omega) (by omega), Sn_apr, hR, RE_Sn hr, h1, ef _ _ (RS_t (by omega)), su_at, if_pos rfl, if_pos rfl]
    exact ⟨rfl, by omega, fun q => absurd q (by omega), fun q => absurd q (by decide)⟩
  · unfold TS
    rw [ef _ _ (RS_t (by omega)), ef _ _ (RS_t (by omega)), su_at, su_nk (by omega)]
    exact ⟨fun _ => a1.1 (st_lt2 hs), fun q => absurd st_lt0 q⟩
  · unfold TB
    rw [ef _ _ (RS_t (by omega)), su_at]
    exact fun q => absurd q (by decide)
/-- what is known of a task that was freed -/
def Frd (n wc ck e p : Nat) (g g' : gSt) : Prop := J n wc ck e g' ∧ Fr0 g g' ∧ Tc p g g' ∧ (g' (43 + p) 2 = 0 ∨ g' (43 + p) 2 = 1)
theorem free_L1 (h : J n wc ck e g) (hp : p < n) (hs : g (43 + p) 2 = 2 ∨ g (43 + p) 2 = 3) : ∀ (m k : Nat), k ≤ wc → wc < m + k → (∀ w, w < k → nI p ∉ rl g (sc w)) → Frd n wc ck e p g (f_X1_free_L1 30 (43 + p) m g (nI k)) := by
  have hn : n ≤ 24 := h.1.1.1
  have hw : wc ≤ 5 := h.1.1.2.2.1
  obtain ⟨b, hb, eb⟩ := (h.2.2 p hp).2.2.2.1 hs
  intro m
  induction m with
  | zero => intro k h1 h2; omega
  | succ m ih =>
    intro k h1 h2 h3
    unfold f_X1_free_L1
    rw [h.1.2.1.2.1, h.1.2.2.1 p (by omega)]
    by_cases c : wc ≤ k
    · rw [if_pos (nI_le c (by omega))]
      have hS : Sn wc g p = 0 := sm_0 (fun w hw1 => List.count_eq_zero.mpr (h3 w (by omega)))
      have e1 : gsu g (43 + p) 2 0 (43 + p) 10 = nI b := by rw [su_nk (by omega)]; exact eb
      have e2 : gsu g (43 + p) 2 0 (43 + p) 0 = nI p := by rw [su_nk (by omega)]; exact h.1.2.2.1 p (by omega)
      have e3 : f_wk 30 (nI b) + 1 = rc (b + 1) := by rw [wk_n (by omega), rc_s]; omega
      show Frd n wc ck e p g (f_append (gsu g (43 + p) 2 0) (f_wk 30 (gsu g (43 + p) 2 0 (43 + p) 10) + 1) (gsu g (43 + p) 2 0 (43 + p) 0))
      rw [e1, e2, e3]
      refine ⟨free_row h hp hs hS hb, Fr0_ap (Fr0_su (Fr0_rf g) (Wr0_t (by omega) (by omega) (by omega))) (Wr0_r (by omega)) (fun _ q => Wr0_r1 (by omega) q), fun a k ha hc => ?_, Or.inl ?_⟩
      · rw [RF_ap (RS_r (by omega)) (RS_r1 (by omega)) a k ha]
        exact su_ne hc
      · rw [RF_ap (RS_r (by omega)) (RS_r1 (by omega)) _ _ (RS_t (by omega)), su_at]
    · rw [if_neg (nI_ge (by omega) (by omega))]
      have e3 : f_wk 30 (nI k) + 3 = sc k := by rw [wk_n (by omega)]; unfold sc; omega
      rw [e3, has_eq]
      by_cases c2 : nI p ∈ rl g (sc k)
      · rw [if_pos c2, if_neg (by decide)]
        have hS : Sn wc g p = 1 := by
          have q1 := (h.2.2 p hp).2.2.2.2.2.1
          have q2 := cnt_Sn (g := g) (t := p) (wc := wc) (i := k) (by omega)
          have q3 := cnt_mem c2
          omega
        refine ⟨free_run h hp hs hS, Fr0_su (Fr0_rf g) (Wr0_t (by omega) (by omega) (by omega)), fun a k _ hc => su_ne hc, Or.inr su_at⟩
      · rw [if_neg c2, if_pos rfl]
        have e4 : nI k + 1 = nI (k + 1) := nI_1 k
        show Frd n wc ck e p g (f_X1_free_L1 30 (43 + p) m g (nI k + 1))
        rw [e4]
        refine ih (k + 1) (by omega) (by omega) (fun w hw1 => ?_)
        by_cases c3 : w = k
        · subst c3; exact c2
        · exact h3 w (by omega)
theorem free_ok (h : J n wc ck e g) (hp : p < n) (hs : g (43 + p) 2 = 2 ∨ g (43 + p) 2 = 3) : Frd n wc ck e p g (f_X1_free g 30 (43 + p)) := by
  unfold f_X1_free
  refine free_L1 h hp hs _ 0 (by omega) ?_ (fun w q => absurd q (by omega))
  rw [h.1.2.1.2.1, nI_toInt (by have := h.1.1.2.2.1; omega)]
  have e0 : (0 : Int32).toInt = 0 := rfl
  omega
end INV
