/-! A POOL AS IT IS SEEN. gv bg B P st: at B what st has at P, and the book; elsewhere what bg has. Each function at P, seen, is the function at B of what is seen. -/
def gv (bg : gSt) (B P : Nat) (st : gSt) : gSt := fun i k => if i < 30 then st i k else if B ≤ i ∧ i < B + 67 then st (i - B + P) k else bg i k
def gw {α : Type} (bg : gSt) (B P : Nat) (q : α × gSt) : α × gSt := (q.1, gv bg B P q.2)
def gu (bg : gSt) (B P : Nat) (q : gSt × Nat) : gSt × Nat := (gv bg B P q.1, q.2)
theorem gw_mk {α : Type} {bg : gSt} {B P : Nat} {a : α} {s : gSt} : gw bg B P (a, s) = (a, gv bg B P s) := rfl
theorem gw_1 {α : Type} {bg : gSt} {B P : Nat} {q : α × gSt} : (gw bg B P q).1 = q.1 := rfl
theorem gw_2 {α : Type} {bg : gSt} {B P : Nat} {q : α × gSt} : (gw bg B P q).2 = gv bg B P q.2 := rfl
theorem gu_mk {bg : gSt} {B P : Nat} {a : Nat} {s : gSt} : gu bg B P (s, a) = (gv bg B P s, a) := rfl
theorem gu_1 {bg : gSt} {B P : Nat} {q : gSt × Nat} : (gu bg B P q).1 = gv bg B P q.1 := rfl
theorem gu_2 {bg : gSt} {B P : Nat} {q : gSt × Nat} : (gu bg B P q).2 = q.2 := rfl
theorem gv_ite {bg : gSt} {B P : Nat} {c : Prop} [Decidable c] {a b : gSt} : gv bg B P (if c then a else b) = if c then gv bg B P a else gv bg B P b := by split <;> rfl
theorem gw_ite {α : Type} {bg : gSt} {B P : Nat} {c : Prop} [Decidable c] {a b : α × gSt} : gw bg B P (if c then a else b) = if c then gw bg B P a else gw bg B P b := by split <;> rfl
theorem gu_ite {bg : gSt} {B P : Nat} {c : Prop} [Decidable c] {a b : gSt × Nat} : gu bg B P (if c then a else b) = if c then gu bg B P a else gu bg B P b := by split <;> rfl
theorem gv_lo {bg : gSt} {B P i k : Nat} {st : gSt} (h : i < 30) : gv bg B P st i k = st i k := by unfold gv; rw [if_pos h]
theorem gv_at {bg : gSt} {B P c k : Nat} {st : gSt} (hB : 30 ≤ B) (h : c < 67) : gv bg B P st (B + c) k = st (P + c) k := by
  unfold gv
  rw [if_neg (by omega), if_pos (by omega)]
  rw [show B + c - B + P = P + c by omega]
theorem gv_at0 {bg : gSt} {B P k : Nat} {st : gSt} (hB : 30 ≤ B) : gv bg B P st B k = st P k := gv_at (c := 0) hB (by omega)
theorem gv_su {bg : gSt} {B P c k : Nat} {v : Int32} {st : gSt} (hB : 30 ≤ B) (hP : 30 ≤ P) (h : c < 67) : gsu (gv bg B P st) (B + c) k v = gv bg B P (gsu st (P + c) k v) := by
  funext i j
  rw [gsu_eq]
  unfold gv
  by_cases h1 : i < 30
  · rw [if_pos h1, if_pos h1, if_neg (by omega), gsu_eq, if_neg (by omega)]
  · rw [if_neg h1, if_neg h1]
    by_cases h2 : B ≤ i ∧ i < B + 67
    · rw [if_pos h2, if_pos h2, gsu_eq]
      by_cases h3 : i = B + c ∧ j = k
      · rw [if_pos h3, if_pos (by omega)]
      · rw [if_neg h3, if_neg (by omega)]
    · rw [if_neg h2, if_neg h2, if_neg (by omega)]
theorem gv_su0 {bg : gSt} {B P k : Nat} {v : Int32} {st : gSt} (hB : 30 ≤ B) (hP : 30 ≤ P) : gsu (gv bg B P st) B k v = gv bg B P (gsu st P k v) := gv_su (c := 0) hB hP (by omega)
/-! where tasks, workers, rows lie in a pool -/
def otk (x : Int32) : Nat := if x < 0 then 2 else if 24 ≤ x then 2 else 13 + x.toNatClampNeg
def owk (x : Int32) : Nat := if x < 0 then 4 else if 5 ≤ x then 4 else 37 + 6 * x.toNatClampNeg
def orw (x : Int32) : Nat := if x = -1 then 10 else owk x + 1
theorem otk_eq (P : Nat) (x : Int32) : f_tk P x = P + otk x := by
  unfold f_tk otk
  split
  · rfl
  · split
    · rfl
    · omega
theorem owk_eq (P : Nat) (x : Int32) : f_wk P x = P + owk x := by
  unfold f_wk owk
  split
  · rfl
  · split
    · rfl
    · omega
theorem orw_eq (P : Nat) (x : Int32) : f_row P x = P + orw x := by
  unfold f_row orw
  split
  · rfl
  · rw [owk_eq]; omega
theorem cl_lt {x M : Int32} {n : Nat} (h0 : ¬ x < 0) (h : ¬ M ≤ x) (hM : M.toInt = n) : x.toNatClampNeg < n := by
  have h1 : ¬ x.toInt < (0 : Int32).toInt := fun q => h0 (Int32.lt_iff_toInt_lt.mpr q)
  have h2 : ¬ M.toInt ≤ x.toInt := fun q => h (Int32.le_iff_toInt_le.mpr q)
  have h3 : (0 : Int32).toInt = 0 := rfl
  show x.toInt.toNat < n
  omega
theorem otk_lt (x : Int32) : otk x < 67 := by
  unfold otk
  split
  · omega
  · split
    · omega
    · rename_i c1 c2
      have := cl_lt (n := 24) c1 c2 rfl
      omega
theorem owk_5 (x : Int32) : owk x + 5 < 67 := by
  unfold owk
  split
  · omega
  · split
    · omega
    · rename_i c1 c2
      have := cl_lt (n := 5) c1 c2 rfl
      omega
theorem owk_0 (x : Int32) : owk x < 67 := by have := owk_5 x; omega
theorem owk_1 (x : Int32) : owk x + 1 < 67 := by have := owk_5 x; omega
theorem owk_2 (x : Int32) : owk x + 2 < 67 := by have := owk_5 x; omega
theorem owk_3 (x : Int32) : owk x + 3 < 67 := by have := owk_5 x; omega
theorem owk_4 (x : Int32) : owk x + 4 < 67 := by have := owk_5 x; omega
theorem orw_1 (x : Int32) : orw x + 1 < 67 := by
  unfold orw
  split
  · omega
  · have := owk_5 x; omega
theorem orw_0 (x : Int32) : orw x < 67 := by have := orw_1 x; omega
theorem fsc_2 (x : Int32) : f_sc x + 2 < 30 := by
  unfold f_sc
  split
  · omega
  · split
    · omega
    · rename_i c1 c2
      have := cl_lt (n := 8) c1 c2 rfl
      omega
theorem fsc_1 (x : Int32) : f_sc x + 1 < 30 := by have := fsc_2 x; omega
theorem fsc_0 (x : Int32) : f_sc x < 30 := by have := fsc_2 x; omega
theorem b67_10 : (10 : Nat) < 67 := by decide
theorem b67_11 : (11 : Nat) < 67 := by decide
theorem b67_12 : (12 : Nat) < 67 := by decide
section GV
variable {bg : gSt} {B P : Nat} {st : gSt} {c k : Nat} {a b x y z n0 : Int32}
theorem v_nlz : f_J6_numberOfLeadingZeros_0f7a4 (gv bg B P st) x = f_J6_numberOfLeadingZeros_0f7a4 st x := rfl
theorem v_mod : f_J9_floorMod_7cf53 (gv bg B P st) x y = f_J9_floorMod_7cf53 st x y := rfl
theorem v_isIn : f_X1_isIn (gv bg B P st) x y = f_X1_isIn st x y := rfl
theorem v_at (hB : 30 ≤ B) (hP : 30 ≤ P) (hc : c + 1 < 67) : f_at (gv bg B P st) (B + c) x = f_at st (P + c) x := by
  have hc0 : c < 67 := by omega
  simp only [f_at, gv_at hB, gv_at0 hB, gv_su hB hP, gv_su0 hB hP, gv_lo, otk_eq, owk_eq, orw_eq, otk_lt, owk_0, owk_1, owk_2, owk_3, owk_4, owk_5, orw_0, orw_1, fsc_0, fsc_1, fsc_2, b67_10, b67_11, b67_12, Nat.add_assoc, Nat.reduceAdd, gv_ite, gw_ite, gw_mk, gw_1, gw_2, v_nlz, v_mod, v_isIn, hc, hc0]
theorem v_at0 (hB : 30 ≤ B) (hP : 30 ≤ P) {x : Int32} {st : gSt} : f_at (gv bg B P st) (B + 10) x = f_at st (P + 10) x := v_at hB hP (by omega)
theorem v_last (hB : 30 ≤ B) (hP : 30 ≤ P) (hc : c + 1 < 67) : f_last (gv bg B P st) (B + c) = f_last st (P + c) := by
  have hc0 : c < 67 := by omega
  simp only [f_last, gv_at hB, gv_at0 hB, gv_su hB hP, gv_su0 hB hP, gv_lo, otk_eq, owk_eq, orw_eq, otk_lt, owk_0, owk_1, owk_2, owk_3, owk_4, owk_5, orw_0, orw_1, fsc_0, fsc_1, fsc_2, b67_10, b67_11, b67_12, Nat.add_assoc, Nat.reduceAdd, gv_ite, gw_ite, gw_mk, gw_1, gw_2, v_nlz, v_mod, v_isIn, v_at hB hP, hc, hc0]
theorem v_append (hB : 30 ≤ B) (hP : 30 ≤ P) (hc : c + 1 < 67) : f_append (gv bg B P st) (B + c) x = gv bg B P (f_append st (P + c) x) := by
  have hc0 : c < 67 := by omega
  simp only [f_append, gv_at hB, gv_at0 hB, gv_su hB hP, gv_su0 hB hP, gv_lo, otk_eq, owk_eq, orw_eq, otk_lt, owk_0, owk_1, owk_2, owk_3, owk_4, owk_5, orw_0, orw_1, fsc_0, fsc_1, fsc_2, b67_10, b67_11, b67_12, Nat.add_assoc, Nat.reduceAdd, gv_ite, gw_ite, gw_mk, gw_1, gw_2, v_nlz, v_mod, v_isIn, hc, hc0]
theorem v_code  (hk : k + 1 < 30) : f_codeAt (gv bg B P st) k x = f_codeAt st k x := by
  simp only [f_codeAt, gv_lo, otk_eq, owk_eq, orw_eq, otk_lt, owk_0, owk_1, owk_2, owk_3, owk_4, owk_5, orw_0, orw_1, fsc_0, fsc_1, fsc_2, b67_10, b67_11, b67_12, Nat.add_assoc, Nat.reduceAdd, gv_ite, gw_ite, gw_mk, gw_1, gw_2, v_nlz, v_mod, v_isIn, hk]
theorem v_num  (hk : k + 2 < 30) : f_numberAt (gv bg B P st) k x = f_numberAt st k x := by
  simp only [f_numberAt, gv_lo, otk_eq, owk_eq, orw_eq, otk_lt, owk_0, owk_1, owk_2, owk_3, owk_4, owk_5, orw_0, orw_1, fsc_0, fsc_1, fsc_2, b67_10, b67_11, b67_12, Nat.add_assoc, Nat.reduceAdd, gv_ite, gw_ite, gw_mk, gw_1, gw_2, v_nlz, v_mod, v_isIn, hk]
theorem v_begin (hB : 30 ≤ B) (hP : 30 ≤ P) (hc : c < 67) : f_begin (gv bg B P st) (B + c) a b = gv bg B P (f_begin st (P + c) a b) := by
  simp only [f_begin, gv_at hB, gv_at0 hB, gv_su hB hP, gv_su0 hB hP, gv_lo, otk_eq, owk_eq, orw_eq, otk_lt, owk_0, owk_1, owk_2, owk_3, owk_4, owk_5, orw_0, orw_1, fsc_0, fsc_1, fsc_2, b67_10, b67_11, b67_12, Nat.add_assoc, Nat.reduceAdd, gv_ite, gw_ite, gw_mk, gw_1, gw_2, v_nlz, v_mod, v_isIn, hc]
theorem v_isB (hB : 30 ≤ B) (hP : 30 ≤ P) (hc : c < 67) : f_isB (gv bg B P st) (B + c) = f_isB st (P + c) := by
  simp only [f_isB, gv_at hB, gv_at0 hB, gv_su hB hP, gv_su0 hB hP, gv_lo, otk_eq, owk_eq, orw_eq, otk_lt, owk_0, owk_1, owk_2, owk_3, owk_4, owk_5, orw_0, orw_1, fsc_0, fsc_1, fsc_2, b67_10, b67_11, b67_12, Nat.add_assoc, Nat.reduceAdd, gv_ite, gw_ite, gw_mk, gw_1, gw_2, v_nlz, v_mod, v_isIn, hc]
theorem v_isO (hB : 30 ≤ B) (hP : 30 ≤ P) (hc : c < 67) : f_isO (gv bg B P st) (B + c) = f_isO st (P + c) := by
  simp only [f_isO, gv_at hB, gv_at0 hB, gv_su hB hP, gv_su0 hB hP, gv_lo, otk_eq, owk_eq, orw_eq, otk_lt, owk_0, owk_1, owk_2, owk_3, owk_4, owk_5, orw_0, orw_1, fsc_0, fsc_1, fsc_2, b67_10, b67_11, b67_12, Nat.add_assoc, Nat.reduceAdd, gv_ite, gw_ite, gw_mk, gw_1, gw_2, v_nlz, v_mod, v_isIn, hc]
theorem v_prom (hB : 30 ≤ B) (hP : 30 ≤ P) : f_prom (gv bg B P st) B x = f_prom st P x := by
  simp only [f_prom, gv_at hB, gv_at0 hB, gv_su hB hP, gv_su0 hB hP, gv_lo, otk_eq, owk_eq, orw_eq, otk_lt, owk_0, owk_1, owk_2, owk_3, owk_4, owk_5, orw_0, orw_1, fsc_0, fsc_1, fsc_2, b67_10, b67_11, b67_12, Nat.add_assoc, Nat.reduceAdd, gv_ite, gw_ite, gw_mk, gw_1, gw_2, v_nlz, v_mod, v_isIn]
theorem v_gsz (hB : 30 ≤ B) (hP : 30 ≤ P) (hc : c < 67) : gsz (gv bg B P st) (B + c) = gsz st (P + c) := by
  simp only [gsz, gv_at hB, gv_at0 hB, gv_su hB hP, gv_su0 hB hP, gv_lo, otk_eq, owk_eq, orw_eq, otk_lt, owk_0, owk_1, owk_2, owk_3, owk_4, owk_5, orw_0, orw_1, fsc_0, fsc_1, fsc_2, b67_10, b67_11, b67_12, Nat.add_assoc, Nat.reduceAdd, gv_ite, gw_ite, gw_mk, gw_1, gw_2, v_nlz, v_mod, v_isIn, hc]
theorem v_has (hB : 30 ≤ B) (hP : 30 ≤ P) (hc : c + 1 < 67) : f_has (gv bg B P st) (B + c) x = f_has st (P + c) x := by
  have hc0 : c < 67 := by omega
  simp only [f_has, gv_at hB, gv_at0 hB, gv_su hB hP, gv_su0 hB hP, gv_lo, otk_eq, owk_eq, orw_eq, otk_lt, owk_0, owk_1, owk_2, owk_3, owk_4, owk_5, orw_0, orw_1, fsc_0, fsc_1, fsc_2, b67_10, b67_11, b67_12, Nat.add_assoc, Nat.reduceAdd, gv_ite, gw_ite, gw_mk, gw_1, gw_2, v_nlz, v_mod, v_isIn, v_gsz hB hP, hc, hc0]
theorem v_rml (hB : 30 ≤ B) (hP : 30 ≤ P) (hc : c + 1 < 67) : ∀ n, f_rml (gv bg B P st) (B + c) x n = gu bg B P (f_rml st (P + c) x n) := by
  intro n
  induction n with
  | zero => rfl
  | succ n ih =>
    have hc0 : c < 67 := by omega
    unfold f_rml
    rw [ih]
    simp only [gu_1, gu_2, gu_ite, gu_mk, Nat.add_assoc, gv_at hB, gv_su hB hP, hc, hc0]
theorem v_rm (hB : 30 ≤ B) (hP : 30 ≤ P) (hc : c + 1 < 67) : f_rm (gv bg B P st) (B + c) x = gv bg B P (f_rm st (P + c) x) := by
  have hc0 : c < 67 := by omega
  simp only [f_rm, gv_at hB, gv_at0 hB, gv_su hB hP, gv_su0 hB hP, gv_lo, otk_eq, owk_eq, orw_eq, otk_lt, owk_0, owk_1, owk_2, owk_3, owk_4, owk_5, orw_0, orw_1, fsc_0, fsc_1, fsc_2, b67_10, b67_11, b67_12, Nat.add_assoc, Nat.reduceAdd, gv_ite, gw_ite, gw_mk, gw_1, gw_2, v_nlz, v_mod, v_isIn, v_gsz hB hP, v_rml hB hP, gu_1, gu_2, hc, hc0]
theorem v_lastChild (hB : 30 ≤ B) (hP : 30 ≤ P) (hc : c < 67) : f_X4_lastChild (gv bg B P st) (B + c) = f_X4_lastChild st (P + c) := by
  simp only [f_X4_lastChild, gv_at hB, gv_at0 hB, gv_su hB hP, gv_su0 hB hP, gv_lo, otk_eq, owk_eq, orw_eq, otk_lt, owk_0, owk_1, owk_2, owk_3, owk_4, owk_5, orw_0, orw_1, fsc_0, fsc_1, fsc_2, b67_10, b67_11, b67_12, Nat.add_assoc, Nat.reduceAdd, gv_ite, gw_ite, gw_mk, gw_1, gw_2, v_nlz, v_mod, v_isIn, hc]
theorem v_addValue (hB : 30 ≤ B) (hP : 30 ≤ P) (hc : c < 67) : f_X4_addValue (gv bg B P st) (B + c) x = gv bg B P (f_X4_addValue st (P + c) x) := by
  simp only [f_X4_addValue, gv_at hB, gv_at0 hB, gv_su hB hP, gv_su0 hB hP, gv_lo, otk_eq, owk_eq, orw_eq, otk_lt, owk_0, owk_1, owk_2, owk_3, owk_4, owk_5, orw_0, orw_1, fsc_0, fsc_1, fsc_2, b67_10, b67_11, b67_12, Nat.add_assoc, Nat.reduceAdd, gv_ite, gw_ite, gw_mk, gw_1, gw_2, v_nlz, v_mod, v_isIn, hc]
theorem v_note (hB : 30 ≤ B) (hP : 30 ≤ P) (hc : c + 5 < 67) : f_X5_noteRan (gv bg B P st) (B + c) x y = gv bg B P (f_X5_noteRan st (P + c) x y) := by
  have hc0 : c < 67 := by omega
  have hc3 : c + 3 < 67 := by omega
  have hc4 : c + 4 < 67 := by omega
  have hc1 : c + 1 < 67 := by omega
  simp only [f_X5_noteRan, gv_at hB, gv_at0 hB, gv_su hB hP, gv_su0 hB hP, gv_lo, otk_eq, owk_eq, orw_eq, otk_lt, owk_0, owk_1, owk_2, owk_3, owk_4, owk_5, orw_0, orw_1, fsc_0, fsc_1, fsc_2, b67_10, b67_11, b67_12, Nat.add_assoc, Nat.reduceAdd, gv_ite, gw_ite, gw_mk, gw_1, gw_2, v_nlz, v_mod, v_isIn, hc]
theorem v_cu_L1 (hB : 30 ≤ B) (hP : 30 ≤ P) : ∀ (n : Nat) (st : gSt) (y x : Int32), f_X1_countUnfinished_L1 B n (gv bg B P st) y x = f_X1_countUnfinished_L1 P n st y x := by
  intro n
  induction n with
  | zero => intros; rfl
  | succ n ih =>
    intros
    simp only [f_X1_countUnfinished_L1, gv_at hB, gv_at0 hB, gv_su hB hP, gv_su0 hB hP, gv_lo, otk_eq, owk_eq, orw_eq, otk_lt, owk_0, owk_1, owk_2, owk_3, owk_4, owk_5, orw_0, orw_1, fsc_0, fsc_1, fsc_2, b67_10, b67_11, b67_12, Nat.add_assoc, Nat.reduceAdd, gv_ite, gw_ite, gw_mk, gw_1, gw_2, v_nlz, v_mod, v_isIn, v_at hB hP, v_last hB hP, v_append hB hP, v_begin hB hP, v_isB hB hP, v_isO hB hP, v_prom hB hP, v_has hB hP, v_rm hB hP, v_lastChild hB hP, v_addValue hB hP, v_note hB hP, v_code, v_num, ih]
theorem v_cu (hB : 30 ≤ B) (hP : 30 ≤ P) : f_X1_countUnfinished (gv bg B P st) B = f_X1_countUnfinished st P := by
  simp only [f_X1_countUnfinished, gv_at hB, gv_at0 hB, gv_su hB hP, gv_su0 hB hP, gv_lo, otk_eq, owk_eq, orw_eq, otk_lt, owk_0, owk_1, owk_2, owk_3, owk_4, owk_5, orw_0, orw_1, fsc_0, fsc_1, fsc_2, b67_10, b67_11, b67_12, Nat.add_assoc, Nat.reduceAdd, gv_ite, gw_ite, gw_mk, gw_1, gw_2, v_nlz, v_mod, v_isIn, v_at hB hP, v_last hB hP, v_append hB hP, v_begin hB hP, v_isB hB hP, v_isO hB hP, v_prom hB hP, v_has hB hP, v_rm hB hP, v_lastChild hB hP, v_addValue hB hP, v_note hB hP, v_code, v_num, v_cu_L1 hB hP]
theorem v_hti_L1 (hB : 30 ≤ B) (hP : 30 ≤ P) : ∀ (n : Nat) (st : gSt) (y : Int32), f_X1_hasTaskIn_L1 B x n (gv bg B P st) y = f_X1_hasTaskIn_L1 P x n st y := by
  intro n
  induction n with
  | zero => intros; rfl
  | succ n ih =>
    intros
    simp only [f_X1_hasTaskIn_L1, gv_at hB, gv_at0 hB, gv_su hB hP, gv_su0 hB hP, gv_lo, otk_eq, owk_eq, orw_eq, otk_lt, owk_0, owk_1, owk_2, owk_3, owk_4, owk_5, orw_0, orw_1, fsc_0, fsc_1, fsc_2, b67_10, b67_11, b67_12, Nat.add_assoc, Nat.reduceAdd, gv_ite, gw_ite, gw_mk, gw_1, gw_2, v_nlz, v_mod, v_isIn, v_at hB hP, v_last hB hP, v_append hB hP, v_begin hB hP, v_isB hB hP, v_isO hB hP, v_prom hB hP, v_has hB hP, v_rm hB hP, v_lastChild hB hP, v_addValue hB hP, v_note hB hP, v_code, v_num, v_cu hB hP, ih]
theorem v_hti (hB : 30 ≤ B) (hP : 30 ≤ P) : f_X1_hasTaskIn (gv bg B P st) B x = f_X1_hasTaskIn st P x := by
  simp only [f_X1_hasTaskIn, gv_at hB, gv_at0 hB, gv_su hB hP, gv_su0 hB hP, gv_lo, otk_eq, owk_eq, orw_eq, otk_lt, owk_0, owk_1, owk_2, owk_3, owk_4, owk_5, orw_0, orw_1, fsc_0, fsc_1, fsc_2, b67_10, b67_11, b67_12, Nat.add_assoc, Nat.reduceAdd, gv_ite, gw_ite, gw_mk, gw_1, gw_2, v_nlz, v_mod, v_isIn, v_at hB hP, v_last hB hP, v_append hB hP, v_begin hB hP, v_isB hB hP, v_isO hB hP, v_prom hB hP, v_has hB hP, v_rm hB hP, v_lastChild hB hP, v_addValue hB hP, v_note hB hP, v_code, v_num, v_cu hB hP, v_hti_L1 hB hP]
theorem v_hto_L1 (hB : 30 ≤ B) (hP : 30 ≤ P) : ∀ (n : Nat) (st : gSt) (y : Int32), f_X1_hasTaskOf_L1 B x n (gv bg B P st) y = f_X1_hasTaskOf_L1 P x n st y := by
  intro n
  induction n with
  | zero => intros; rfl
  | succ n ih =>
    intros
    simp only [f_X1_hasTaskOf_L1, gv_at hB, gv_at0 hB, gv_su hB hP, gv_su0 hB hP, gv_lo, otk_eq, owk_eq, orw_eq, otk_lt, owk_0, owk_1, owk_2, owk_3, owk_4, owk_5, orw_0, orw_1, fsc_0, fsc_1, fsc_2, b67_10, b67_11, b67_12, Nat.add_assoc, Nat.reduceAdd, gv_ite, gw_ite, gw_mk, gw_1, gw_2, v_nlz, v_mod, v_isIn, v_at hB hP, v_last hB hP, v_append hB hP, v_begin hB hP, v_isB hB hP, v_isO hB hP, v_prom hB hP, v_has hB hP, v_rm hB hP, v_lastChild hB hP, v_addValue hB hP, v_note hB hP, v_code, v_num, v_cu hB hP, v_hti hB hP, ih]
theorem v_hto (hB : 30 ≤ B) (hP : 30 ≤ P) : f_X1_hasTaskOf (gv bg B P st) B x = f_X1_hasTaskOf st P x := by
  simp only [f_X1_hasTaskOf, gv_at hB, gv_at0 hB, gv_su hB hP, gv_su0 hB hP, gv_lo, otk_eq, owk_eq, orw_eq, otk_lt, owk_0, owk_1, owk_2, owk_3, owk_4, owk_5, orw_0, orw_1, fsc_0, fsc_1, fsc_2, b67_10, b67_11, b67_12, Nat.add_assoc, Nat.reduceAdd, gv_ite, gw_ite, gw_mk, gw_1, gw_2, v_nlz, v_mod, v_isIn, v_at hB hP, v_last hB hP, v_append hB hP, v_begin hB hP, v_isB hB hP, v_isO hB hP, v_prom hB hP, v_has hB hP, v_rm hB hP, v_lastChild hB hP, v_addValue hB hP, v_note hB hP, v_code, v_num, v_cu hB hP, v_hti hB hP, v_hto_L1 hB hP]
theorem v_hst_L1 (hB : 30 ≤ B) (hP : 30 ≤ P) : ∀ (n : Nat) (st : gSt) (y : Int32), f_X1_hasStackedTask_L1 B n (gv bg B P st) y = f_X1_hasStackedTask_L1 P n st y := by
  intro n
  induction n with
  | zero => intros; rfl
  | succ n ih =>
    intros
    simp only [f_X1_hasStackedTask_L1, gv_at hB, gv_at0 hB, gv_su hB hP, gv_su0 hB hP, gv_lo, otk_eq, owk_eq, orw_eq, otk_lt, owk_0, owk_1, owk_2, owk_3, owk_4, owk_5, orw_0, orw_1, fsc_0, fsc_1, fsc_2, b67_10, b67_11, b67_12, Nat.add_assoc, Nat.reduceAdd, gv_ite, gw_ite, gw_mk, gw_1, gw_2, v_nlz, v_mod, v_isIn, v_at hB hP, v_last hB hP, v_append hB hP, v_begin hB hP, v_isB hB hP, v_isO hB hP, v_prom hB hP, v_has hB hP, v_rm hB hP, v_lastChild hB hP, v_addValue hB hP, v_note hB hP, v_code, v_num, v_cu hB hP, v_hti hB hP, v_hto hB hP, ih]
theorem v_hst (hB : 30 ≤ B) (hP : 30 ≤ P) : f_X1_hasStackedTask (gv bg B P st) B = f_X1_hasStackedTask st P := by
  simp only [f_X1_hasStackedTask, gv_at hB, gv_at0 hB, gv_su hB hP, gv_su0 hB hP, gv_lo, otk_eq, owk_eq, orw_eq, otk_lt, owk_0, owk_1, owk_2, owk_3, owk_4, owk_5, orw_0, orw_1, fsc_0, fsc_1, fsc_2, b67_10, b67_11, b67_12, Nat.add_assoc, Nat.reduceAdd, gv_ite, gw_ite, gw_mk, gw_1, gw_2, v_nlz, v_mod, v_isIn, v_at hB hP, v_last hB hP, v_append hB hP, v_begin hB hP, v_isB hB hP, v_isO hB hP, v_prom hB hP, v_has hB hP, v_rm hB hP, v_lastChild hB hP, v_addValue hB hP, v_note hB hP, v_code, v_num, v_cu hB hP, v_hti hB hP, v_hto hB hP, v_hst_L1 hB hP]
theorem v_sw_L1 (hB : 30 ≤ B) (hP : 30 ≤ P) : ∀ (n : Nat) (st : gSt) (z y x : Int32), f_X1_sumWork_L1 B a n (gv bg B P st) z y x = f_X1_sumWork_L1 P a n st z y x := by
  intro n
  induction n with
  | zero => intros; rfl
  | succ n ih =>
    intros
    simp only [f_X1_sumWork_L1, gv_at hB, gv_at0 hB, gv_su hB hP, gv_su0 hB hP, gv_lo, otk_eq, owk_eq, orw_eq, otk_lt, owk_0, owk_1, owk_2, owk_3, owk_4, owk_5, orw_0, orw_1, fsc_0, fsc_1, fsc_2, b67_10, b67_11, b67_12, Nat.add_assoc, Nat.reduceAdd, gv_ite, gw_ite, gw_mk, gw_1, gw_2, v_nlz, v_mod, v_isIn, v_at hB hP, v_last hB hP, v_append hB hP, v_begin hB hP, v_isB hB hP, v_isO hB hP, v_prom hB hP, v_has hB hP, v_rm hB hP, v_lastChild hB hP, v_addValue hB hP, v_note hB hP, v_code, v_num, v_cu hB hP, v_hti hB hP, v_hto hB hP, v_hst hB hP, ih]
theorem v_sw (hB : 30 ≤ B) (hP : 30 ≤ P) : f_X1_sumWork (gv bg B P st) B a = f_X1_sumWork st P a := by
  simp only [f_X1_sumWork, gv_at hB, gv_at0 hB, gv_su hB hP, gv_su0 hB hP, gv_lo, otk_eq, owk_eq, orw_eq, otk_lt, owk_0, owk_1, owk_2, owk_3, owk_4, owk_5, orw_0, orw_1, fsc_0, fsc_1, fsc_2, b67_10, b67_11, b67_12, Nat.add_assoc, Nat.reduceAdd, gv_ite, gw_ite, gw_mk, gw_1, gw_2, v_nlz, v_mod, v_isIn, v_at hB hP, v_last hB hP, v_append hB hP, v_begin hB hP, v_isB hB hP, v_isO hB hP, v_prom hB hP, v_has hB hP, v_rm hB hP, v_lastChild hB hP, v_addValue hB hP, v_note hB hP, v_code, v_num, v_cu hB hP, v_hti hB hP, v_hto hB hP, v_hst hB hP, v_sw_L1 hB hP]
theorem v_wants (hB : 30 ≤ B) (hP : 30 ≤ P) (hc : c + 5 < 67) : f_X1_wantsTask (gv bg B P st) B (B + c) = f_X1_wantsTask st P (P + c) := by
  have hc0 : c < 67 := by omega
  have hc3 : c + 3 < 67 := by omega
  have hc4 : c + 4 < 67 := by omega
  have hc1 : c + 1 < 67 := by omega
  simp only [f_X1_wantsTask, gv_at hB, gv_at0 hB, gv_su hB hP, gv_su0 hB hP, gv_lo, otk_eq, owk_eq, orw_eq, otk_lt, owk_0, owk_1, owk_2, owk_3, owk_4, owk_5, orw_0, orw_1, fsc_0, fsc_1, fsc_2, b67_10, b67_11, b67_12, Nat.add_assoc, Nat.reduceAdd, gv_ite, gw_ite, gw_mk, gw_1, gw_2, v_nlz, v_mod, v_isIn, v_at hB hP, v_last hB hP, v_append hB hP, v_begin hB hP, v_isB hB hP, v_isO hB hP, v_prom hB hP, v_has hB hP, v_rm hB hP, v_lastChild hB hP, v_addValue hB hP, v_note hB hP, v_code, v_num, v_cu hB hP, v_hti hB hP, v_hto hB hP, v_hst hB hP, v_sw hB hP, hc, hc0, hc3, hc4]
theorem v_nwt_L1 (hB : 30 ≤ B) (hP : 30 ≤ P) : ∀ (n : Nat) (st : gSt) (x : Int32), f_X1_nextWithTasks_L1 B a n (gv bg B P st) x = f_X1_nextWithTasks_L1 P a n st x := by
  intro n
  induction n with
  | zero => intros; rfl
  | succ n ih =>
    intros
    simp only [f_X1_nextWithTasks_L1, gv_at hB, gv_at0 hB, gv_su hB hP, gv_su0 hB hP, gv_lo, otk_eq, owk_eq, orw_eq, otk_lt, owk_0, owk_1, owk_2, owk_3, owk_4, owk_5, orw_0, orw_1, fsc_0, fsc_1, fsc_2, b67_10, b67_11, b67_12, Nat.add_assoc, Nat.reduceAdd, gv_ite, gw_ite, gw_mk, gw_1, gw_2, v_nlz, v_mod, v_isIn, v_at hB hP, v_last hB hP, v_append hB hP, v_begin hB hP, v_isB hB hP, v_isO hB hP, v_prom hB hP, v_has hB hP, v_rm hB hP, v_lastChild hB hP, v_addValue hB hP, v_note hB hP, v_code, v_num, v_cu hB hP, v_hti hB hP, v_hto hB hP, v_hst hB hP, v_sw hB hP, v_wants hB hP, ih]
theorem v_nwt (hB : 30 ≤ B) (hP : 30 ≤ P) : f_X1_nextWithTasks (gv bg B P st) B a = f_X1_nextWithTasks st P a := by
  simp only [f_X1_nextWithTasks, gv_at hB, gv_at0 hB, gv_su hB hP, gv_su0 hB hP, gv_lo, otk_eq, owk_eq, orw_eq, otk_lt, owk_0, owk_1, owk_2, owk_3, owk_4, owk_5, orw_0, orw_1, fsc_0, fsc_1, fsc_2, b67_10, b67_11, b67_12, Nat.add_assoc, Nat.reduceAdd, gv_ite, gw_ite, gw_mk, gw_1, gw_2, v_nlz, v_mod, v_isIn, v_at hB hP, v_last hB hP, v_append hB hP, v_begin hB hP, v_isB hB hP, v_isO hB hP, v_prom hB hP, v_has hB hP, v_rm hB hP, v_lastChild hB hP, v_addValue hB hP, v_note hB hP, v_code, v_num, v_cu hB hP, v_hti hB hP, v_hto hB hP, v_hst hB hP, v_sw hB hP, v_wants hB hP, v_nwt_L1 hB hP]
theorem v_fwm_L1 (hB : 30 ≤ B) (hP : 30 ≤ P) : ∀ (n : Nat) (st : gSt) (z y x : Int32), f_X1_firstWithMostTasks_L1 B n (gv bg B P st) z y x = f_X1_firstWithMostTasks_L1 P n st z y x := by
  intro n
  induction n with
  | zero => intros; rfl
  | succ n ih =>
    intros
    simp only [f_X1_firstWithMostTasks_L1, gv_at hB, gv_at0 hB, gv_su hB hP, gv_su0 hB hP, gv_lo, otk_eq, owk_eq, orw_eq, otk_lt, owk_0, owk_1, owk_2, owk_3, owk_4, owk_5, orw_0, orw_1, fsc_0, fsc_1, fsc_2, b67_10, b67_11, b67_12, Nat.add_assoc, Nat.reduceAdd, gv_ite, gw_ite, gw_mk, gw_1, gw_2, v_nlz, v_mod, v_isIn, v_at hB hP, v_last hB hP, v_append hB hP, v_begin hB hP, v_isB hB hP, v_isO hB hP, v_prom hB hP, v_has hB hP, v_rm hB hP, v_lastChild hB hP, v_addValue hB hP, v_note hB hP, v_code, v_num, v_cu hB hP, v_hti hB hP, v_hto hB hP, v_hst hB hP, v_sw hB hP, v_wants hB hP, v_nwt hB hP, ih]
theorem v_fwm (hB : 30 ≤ B) (hP : 30 ≤ P) : f_X1_firstWithMostTasks (gv bg B P st) B = f_X1_firstWithMostTasks st P := by
  simp only [f_X1_firstWithMostTasks, gv_at hB, gv_at0 hB, gv_su hB hP, gv_su0 hB hP, gv_lo, otk_eq, owk_eq, orw_eq, otk_lt, owk_0, owk_1, owk_2, owk_3, owk_4, owk_5, orw_0, orw_1, fsc_0, fsc_1, fsc_2, b67_10, b67_11, b67_12, Nat.add_assoc, Nat.reduceAdd, gv_ite, gw_ite, gw_mk, gw_1, gw_2, v_nlz, v_mod, v_isIn, v_at hB hP, v_last hB hP, v_append hB hP, v_begin hB hP, v_isB hB hP, v_isO hB hP, v_prom hB hP, v_has hB hP, v_rm hB hP, v_lastChild hB hP, v_addValue hB hP, v_note hB hP, v_code, v_num, v_cu hB hP, v_hti hB hP, v_hto hB hP, v_hst hB hP, v_sw hB hP, v_wants hB hP, v_nwt hB hP, v_fwm_L1 hB hP]
theorem v_src (hB : 30 ≤ B) (hP : 30 ≤ P) : f_X1_sourceFor (gv bg B P st) B a = f_X1_sourceFor st P a := by
  simp only [f_X1_sourceFor, gv_at hB, gv_at0 hB, gv_su hB hP, gv_su0 hB hP, gv_lo, otk_eq, owk_eq, orw_eq, otk_lt, owk_0, owk_1, owk_2, owk_3, owk_4, owk_5, orw_0, orw_1, fsc_0, fsc_1, fsc_2, b67_10, b67_11, b67_12, Nat.add_assoc, Nat.reduceAdd, gv_ite, gw_ite, gw_mk, gw_1, gw_2, v_nlz, v_mod, v_isIn, v_at hB hP, v_last hB hP, v_append hB hP, v_begin hB hP, v_isB hB hP, v_isO hB hP, v_prom hB hP, v_has hB hP, v_rm hB hP, v_lastChild hB hP, v_addValue hB hP, v_note hB hP, v_code, v_num, v_cu hB hP, v_hti hB hP, v_hto hB hP, v_hst hB hP, v_sw hB hP, v_wants hB hP, v_nwt hB hP, v_fwm hB hP]
theorem v_would (hB : 30 ≤ B) (hP : 30 ≤ P) : f_X1_wouldAct (gv bg B P st) B a = f_X1_wouldAct st P a := by
  simp only [f_X1_wouldAct, gv_at hB, gv_at0 hB, gv_su hB hP, gv_su0 hB hP, gv_lo, otk_eq, owk_eq, orw_eq, otk_lt, owk_0, owk_1, owk_2, owk_3, owk_4, owk_5, orw_0, orw_1, fsc_0, fsc_1, fsc_2, b67_10, b67_11, b67_12, Nat.add_assoc, Nat.reduceAdd, gv_ite, gw_ite, gw_mk, gw_1, gw_2, v_nlz, v_mod, v_isIn, v_at hB hP, v_last hB hP, v_append hB hP, v_begin hB hP, v_isB hB hP, v_isO hB hP, v_prom hB hP, v_has hB hP, v_rm hB hP, v_lastChild hB hP, v_addValue hB hP, v_note hB hP, v_code, v_num, v_cu hB hP, v_hti hB hP, v_hto hB hP, v_hst hB hP, v_sw hB hP, v_wants hB hP, v_nwt hB hP, v_fwm hB hP, v_src hB hP]
theorem v_halt_L1 (hB : 30 ≤ B) (hP : 30 ≤ P) : ∀ (n : Nat) (st : gSt) (x : Int32), f_X1_isHalted_L1 B n (gv bg B P st) x = f_X1_isHalted_L1 P n st x := by
  intro n
  induction n with
  | zero => intros; rfl
  | succ n ih =>
    intros
    simp only [f_X1_isHalted_L1, gv_at hB, gv_at0 hB, gv_su hB hP, gv_su0 hB hP, gv_lo, otk_eq, owk_eq, orw_eq, otk_lt, owk_0, owk_1, owk_2, owk_3, owk_4, owk_5, orw_0, orw_1, fsc_0, fsc_1, fsc_2, b67_10, b67_11, b67_12, Nat.add_assoc, Nat.reduceAdd, gv_ite, gw_ite, gw_mk, gw_1, gw_2, v_nlz, v_mod, v_isIn, v_at hB hP, v_last hB hP, v_append hB hP, v_begin hB hP, v_isB hB hP, v_isO hB hP, v_prom hB hP, v_has hB hP, v_rm hB hP, v_lastChild hB hP, v_addValue hB hP, v_note hB hP, v_code, v_num, v_cu hB hP, v_hti hB hP, v_hto hB hP, v_hst hB hP, v_sw hB hP, v_wants hB hP, v_nwt hB hP, v_fwm hB hP, v_src hB hP, v_would hB hP, ih]
theorem v_halt (hB : 30 ≤ B) (hP : 30 ≤ P) : f_X1_isHalted (gv bg B P st) B = f_X1_isHalted st P := by
  simp only [f_X1_isHalted, gv_at hB, gv_at0 hB, gv_su hB hP, gv_su0 hB hP, gv_lo, otk_eq, owk_eq, orw_eq, otk_lt, owk_0, owk_1, owk_2, owk_3, owk_4, owk_5, orw_0, orw_1, fsc_0, fsc_1, fsc_2, b67_10, b67_11, b67_12, Nat.add_assoc, Nat.reduceAdd, gv_ite, gw_ite, gw_mk, gw_1, gw_2, v_nlz, v_mod, v_isIn, v_at hB hP, v_last hB hP, v_append hB hP, v_begin hB hP, v_isB hB hP, v_isO hB hP, v_prom hB hP, v_has hB hP, v_rm hB hP, v_lastChild hB hP, v_addValue hB hP, v_note hB hP, v_code, v_num, v_cu hB hP, v_hti hB hP, v_hto hB hP, v_hst hB hP, v_sw hB hP, v_wants hB hP, v_nwt hB hP, v_fwm hB hP, v_src hB hP, v_would hB hP, v_halt_L1 hB hP]
theorem v_free_L1 (hB : 30 ≤ B) (hP : 30 ≤ P) (hc : c < 67) : ∀ (n : Nat) (st : gSt) (x : Int32), f_X1_free_L1 B (B + c) n (gv bg B P st) x = gv bg B P (f_X1_free_L1 P (P + c) n st x) := by
  intro n
  induction n with
  | zero => intros; rfl
  | succ n ih =>
    intros
    simp only [f_X1_free_L1, gv_at hB, gv_at0 hB, gv_su hB hP, gv_su0 hB hP, gv_lo, otk_eq, owk_eq, orw_eq, otk_lt, owk_0, owk_1, owk_2, owk_3, owk_4, owk_5, orw_0, orw_1, fsc_0, fsc_1, fsc_2, b67_10, b67_11, b67_12, Nat.add_assoc, Nat.reduceAdd, gv_ite, gw_ite, gw_mk, gw_1, gw_2, v_nlz, v_mod, v_isIn, v_at hB hP, v_last hB hP, v_append hB hP, v_begin hB hP, v_isB hB hP, v_isO hB hP, v_prom hB hP, v_has hB hP, v_rm hB hP, v_lastChild hB hP, v_addValue hB hP, v_note hB hP, v_code, v_num, v_cu hB hP, v_hti hB hP, v_hto hB hP, v_hst hB hP, v_sw hB hP, v_wants hB hP, v_nwt hB hP, v_fwm hB hP, v_src hB hP, v_would hB hP, v_halt hB hP, hc, ih]
theorem v_free (hB : 30 ≤ B) (hP : 30 ≤ P) (hc : c < 67) : f_X1_free (gv bg B P st) B (B + c) = gv bg B P (f_X1_free st P (P + c)) := by
  simp only [f_X1_free, gv_at hB, gv_at0 hB, gv_su hB hP, gv_su0 hB hP, gv_lo, otk_eq, owk_eq, orw_eq, otk_lt, owk_0, owk_1, owk_2, owk_3, owk_4, owk_5, orw_0, orw_1, fsc_0, fsc_1, fsc_2, b67_10, b67_11, b67_12, Nat.add_assoc, Nat.reduceAdd, gv_ite, gw_ite, gw_mk, gw_1, gw_2, v_nlz, v_mod, v_isIn, v_at hB hP, v_last hB hP, v_append hB hP, v_begin hB hP, v_isB hB hP, v_isO hB hP, v_prom hB hP, v_has hB hP, v_rm hB hP, v_lastChild hB hP, v_addValue hB hP, v_note hB hP, v_code, v_num, v_cu hB hP, v_hti hB hP, v_hto hB hP, v_hst hB hP, v_sw hB hP, v_wants hB hP, v_nwt hB hP, v_fwm hB hP, v_src hB hP, v_would hB hP, v_halt hB hP, v_free_L1 hB hP, hc]
theorem v_block (hB : 30 ≤ B) (hP : 30 ≤ P) (hc : c < 67) : f_X1_block (gv bg B P st) B a (B + c) x = gv bg B P (f_X1_block st P a (P + c) x) := by
  simp only [f_X1_block, gv_at hB, gv_at0 hB, gv_su hB hP, gv_su0 hB hP, gv_lo, otk_eq, owk_eq, orw_eq, otk_lt, owk_0, owk_1, owk_2, owk_3, owk_4, owk_5, orw_0, orw_1, fsc_0, fsc_1, fsc_2, b67_10, b67_11, b67_12, Nat.add_assoc, Nat.reduceAdd, gv_ite, gw_ite, gw_mk, gw_1, gw_2, v_nlz, v_mod, v_isIn, v_at hB hP, v_last hB hP, v_append hB hP, v_begin hB hP, v_isB hB hP, v_isO hB hP, v_prom hB hP, v_has hB hP, v_rm hB hP, v_lastChild hB hP, v_addValue hB hP, v_note hB hP, v_code, v_num, v_cu hB hP, v_hti hB hP, v_hto hB hP, v_hst hB hP, v_sw hB hP, v_wants hB hP, v_nwt hB hP, v_fwm hB hP, v_src hB hP, v_would hB hP, v_halt hB hP, v_free hB hP, hc]
theorem v_end_L1 (hB : 30 ≤ B) (hP : 30 ≤ P) (hc : c < 67) : ∀ (n : Nat) (st : gSt) (x : Int32), f_X1_end_L1 B (B + c) a n (gv bg B P st) x = gv bg B P (f_X1_end_L1 P (P + c) a n st x) := by
  intro n
  induction n with
  | zero => intros; rfl
  | succ n ih =>
    intros
    simp only [f_X1_end_L1, gv_at hB, gv_at0 hB, gv_su hB hP, gv_su0 hB hP, gv_lo, otk_eq, owk_eq, orw_eq, otk_lt, owk_0, owk_1, owk_2, owk_3, owk_4, owk_5, orw_0, orw_1, fsc_0, fsc_1, fsc_2, b67_10, b67_11, b67_12, Nat.add_assoc, Nat.reduceAdd, gv_ite, gw_ite, gw_mk, gw_1, gw_2, v_nlz, v_mod, v_isIn, v_at hB hP, v_last hB hP, v_append hB hP, v_begin hB hP, v_isB hB hP, v_isO hB hP, v_prom hB hP, v_has hB hP, v_rm hB hP, v_lastChild hB hP, v_addValue hB hP, v_note hB hP, v_code, v_num, v_cu hB hP, v_hti hB hP, v_hto hB hP, v_hst hB hP, v_sw hB hP, v_wants hB hP, v_nwt hB hP, v_fwm hB hP, v_src hB hP, v_would hB hP, v_halt hB hP, v_free hB hP, v_block hB hP, hc, ih]
theorem v_end (hB : 30 ≤ B) (hP : 30 ≤ P) (hc : c < 67) : f_X1_end (gv bg B P st) B (B + c) a = gv bg B P (f_X1_end st P (P + c) a) := by
  simp only [f_X1_end, gv_at hB, gv_at0 hB, gv_su hB hP, gv_su0 hB hP, gv_lo, otk_eq, owk_eq, orw_eq, otk_lt, owk_0, owk_1, owk_2, owk_3, owk_4, owk_5, orw_0, orw_1, fsc_0, fsc_1, fsc_2, b67_10, b67_11, b67_12, Nat.add_assoc, Nat.reduceAdd, gv_ite, gw_ite, gw_mk, gw_1, gw_2, v_nlz, v_mod, v_isIn, v_at hB hP, v_last hB hP, v_append hB hP, v_begin hB hP, v_isB hB hP, v_isO hB hP, v_prom hB hP, v_has hB hP, v_rm hB hP, v_lastChild hB hP, v_addValue hB hP, v_note hB hP, v_code, v_num, v_cu hB hP, v_hti hB hP, v_hto hB hP, v_hst hB hP, v_sw hB hP, v_wants hB hP, v_nwt hB hP, v_fwm hB hP, v_src hB hP, v_would hB hP, v_halt hB hP, v_free hB hP, v_block hB hP, v_end_L1 hB hP, hc]
theorem v_new (hB : 30 ≤ B) (hP : 30 ≤ P) : f_X1_newTask (gv bg B P st) B a b = (B + otk (st P 3), gv bg B P (f_X1_newTask st P a b).2) := by
  simp only [f_X1_newTask, gv_at hB, gv_at0 hB, gv_su hB hP, gv_su0 hB hP, gv_lo, otk_eq, owk_eq, orw_eq, otk_lt, owk_0, owk_1, owk_2, owk_3, owk_4, owk_5, orw_0, orw_1, fsc_0, fsc_1, fsc_2, b67_10, b67_11, b67_12, Nat.add_assoc, Nat.reduceAdd, gv_ite, gw_ite, gw_mk, gw_1, gw_2, v_nlz, v_mod, v_isIn, v_begin hB hP]
theorem new_1 : (f_X1_newTask st P a b).1 = P + otk (st P 3) := by
  simp only [f_X1_newTask, otk_eq]
theorem v_ask (hB : 30 ≤ B) (hP : 30 ≤ P) : f_X1_askFor (gv bg B P st) B a = gw bg B P (f_X1_askFor st P a) := by
  simp only [f_X1_askFor, gv_at hB, gv_at0 hB, gv_su hB hP, gv_su0 hB hP, gv_lo, otk_eq, owk_eq, orw_eq, otk_lt, owk_0, owk_1, owk_2, owk_3, owk_4, owk_5, orw_0, orw_1, fsc_0, fsc_1, fsc_2, b67_10, b67_11, b67_12, Nat.add_assoc, Nat.reduceAdd, gv_ite, gw_ite, gw_mk, gw_1, gw_2, v_nlz, v_mod, v_isIn, v_at hB hP, v_last hB hP, v_append hB hP, v_begin hB hP, v_isB hB hP, v_isO hB hP, v_prom hB hP, v_has hB hP, v_rm hB hP, v_lastChild hB hP, v_addValue hB hP, v_note hB hP, v_code, v_num, v_cu hB hP, v_hti hB hP, v_hto hB hP, v_hst hB hP, v_sw hB hP, v_wants hB hP, v_nwt hB hP, v_fwm hB hP, v_src hB hP, v_would hB hP, v_halt hB hP, v_free hB hP, v_block hB hP, v_end hB hP, v_new hB hP, new_1]
theorem v_take50 (hB : 30 ≤ B) (hP : 30 ≤ P) (hc : c + 5 < 67) (hk : k + 1 < 67) : f_X1_take_J50 B a (B + c) (gv bg B P st) x y (B + k) = gw bg B P (f_X1_take_J50 P a (P + c) st x y (P + k)) := by
  have hc0 : c < 67 := by omega
  have hc3 : c + 3 < 67 := by omega
  have hc4 : c + 4 < 67 := by omega
  have hc1 : c + 1 < 67 := by omega
  have hk0 : k < 67 := by omega
  simp only [f_X1_take_J50, gv_at hB, gv_at0 hB, gv_su hB hP, gv_su0 hB hP, gv_lo, otk_eq, owk_eq, orw_eq, otk_lt, owk_0, owk_1, owk_2, owk_3, owk_4, owk_5, orw_0, orw_1, fsc_0, fsc_1, fsc_2, b67_10, b67_11, b67_12, Nat.add_assoc, Nat.reduceAdd, gv_ite, gw_ite, gw_mk, gw_1, gw_2, v_nlz, v_mod, v_isIn, v_at hB hP, v_last hB hP, v_append hB hP, v_begin hB hP, v_isB hB hP, v_isO hB hP, v_prom hB hP, v_has hB hP, v_rm hB hP, v_lastChild hB hP, v_addValue hB hP, v_note hB hP, v_code, v_num, v_cu hB hP, v_hti hB hP, v_hto hB hP, v_hst hB hP, v_sw hB hP, v_wants hB hP, v_nwt hB hP, v_fwm hB hP, v_src hB hP, v_would hB hP, v_halt hB hP, v_free hB hP, v_block hB hP, v_end hB hP, v_ask hB hP, hc, hc0, hc3, hc4, hk, hk0]
theorem v_take (hB : 30 ≤ B) (hP : 30 ≤ P) (hc : c + 5 < 67) : f_X1_take (gv bg B P st) B a (B + c) = gw bg B P (f_X1_take st P a (P + c)) := by
  have hc0 : c < 67 := by omega
  have hc3 : c + 3 < 67 := by omega
  have hc4 : c + 4 < 67 := by omega
  have hc1 : c + 1 < 67 := by omega
  simp only [f_X1_take, gv_at hB, gv_at0 hB, gv_su hB hP, gv_su0 hB hP, gv_lo, otk_eq, owk_eq, orw_eq, otk_lt, owk_0, owk_1, owk_2, owk_3, owk_4, owk_5, orw_0, orw_1, fsc_0, fsc_1, fsc_2, b67_10, b67_11, b67_12, Nat.add_assoc, Nat.reduceAdd, gv_ite, gw_ite, gw_mk, gw_1, gw_2, v_nlz, v_mod, v_isIn, v_at hB hP, v_last hB hP, v_append hB hP, v_begin hB hP, v_isB hB hP, v_isO hB hP, v_prom hB hP, v_has hB hP, v_rm hB hP, v_lastChild hB hP, v_addValue hB hP, v_note hB hP, v_code, v_num, v_cu hB hP, v_hti hB hP, v_hto hB hP, v_hst hB hP, v_sw hB hP, v_wants hB hP, v_nwt hB hP, v_fwm hB hP, v_src hB hP, v_would hB hP, v_halt hB hP, v_free hB hP, v_block hB hP, v_end hB hP, v_ask hB hP, v_take50 hB hP, hc, hc0, hc3, hc4]
theorem v_work (hB : 30 ≤ B) (hP : 30 ≤ P) (hc : c < 67) : f_X1_work (gv bg B P st) B a (B + c) x = gw bg B P (f_X1_work st P a (P + c) x) := by
  simp only [f_X1_work, gv_at hB, gv_at0 hB, gv_su hB hP, gv_su0 hB hP, gv_lo, otk_eq, owk_eq, orw_eq, otk_lt, owk_0, owk_1, owk_2, owk_3, owk_4, owk_5, orw_0, orw_1, fsc_0, fsc_1, fsc_2, b67_10, b67_11, b67_12, Nat.add_assoc, Nat.reduceAdd, gv_ite, gw_ite, gw_mk, gw_1, gw_2, v_nlz, v_mod, v_isIn, v_at hB hP, v_last hB hP, v_append hB hP, v_begin hB hP, v_isB hB hP, v_isO hB hP, v_prom hB hP, v_has hB hP, v_rm hB hP, v_lastChild hB hP, v_addValue hB hP, v_note hB hP, v_code, v_num, v_cu hB hP, v_hti hB hP, v_hto hB hP, v_hst hB hP, v_sw hB hP, v_wants hB hP, v_nwt hB hP, v_fwm hB hP, v_src hB hP, v_would hB hP, v_halt hB hP, v_free hB hP, v_block hB hP, v_end hB hP, v_ask hB hP, v_take50 hB hP, v_take hB hP, hc]
theorem v_adv (hB : 30 ≤ B) (hP : 30 ≤ P) (hc : c < 67) : f_X1_advance (gv bg B P st) B (B + c) x = gv bg B P (f_X1_advance st P (P + c) x) := by
  simp only [f_X1_advance, gv_at hB, gv_at0 hB, gv_su hB hP, gv_su0 hB hP, gv_lo, otk_eq, owk_eq, orw_eq, otk_lt, owk_0, owk_1, owk_2, owk_3, owk_4, owk_5, orw_0, orw_1, fsc_0, fsc_1, fsc_2, b67_10, b67_11, b67_12, Nat.add_assoc, Nat.reduceAdd, gv_ite, gw_ite, gw_mk, gw_1, gw_2, v_nlz, v_mod, v_isIn, v_at hB hP, v_last hB hP, v_append hB hP, v_begin hB hP, v_isB hB hP, v_isO hB hP, v_prom hB hP, v_has hB hP, v_rm hB hP, v_lastChild hB hP, v_addValue hB hP, v_note hB hP, v_code, v_num, v_cu hB hP, v_hti hB hP, v_hto hB hP, v_hst hB hP, v_sw hB hP, v_wants hB hP, v_nwt hB hP, v_fwm hB hP, v_src hB hP, v_would hB hP, v_halt hB hP, v_free hB hP, v_block hB hP, v_end hB hP, v_ask hB hP, v_take50 hB hP, v_take hB hP, v_work hB hP, hc]
theorem v_fork (hB : 30 ≤ B) (hP : 30 ≤ P) (hc : c < 67) : f_X1_fork (gv bg B P st) B a (B + c) b = gv bg B P (f_X1_fork st P a (P + c) b) := by
  simp only [f_X1_fork, gv_at hB, gv_at0 hB, gv_su hB hP, gv_su0 hB hP, gv_lo, otk_eq, owk_eq, orw_eq, otk_lt, owk_0, owk_1, owk_2, owk_3, owk_4, owk_5, orw_0, orw_1, fsc_0, fsc_1, fsc_2, b67_10, b67_11, b67_12, Nat.add_assoc, Nat.reduceAdd, gv_ite, gw_ite, gw_mk, gw_1, gw_2, v_nlz, v_mod, v_isIn, v_at hB hP, v_last hB hP, v_append hB hP, v_begin hB hP, v_isB hB hP, v_isO hB hP, v_prom hB hP, v_has hB hP, v_rm hB hP, v_lastChild hB hP, v_addValue hB hP, v_note hB hP, v_code, v_num, v_cu hB hP, v_hti hB hP, v_hto hB hP, v_hst hB hP, v_sw hB hP, v_wants hB hP, v_nwt hB hP, v_fwm hB hP, v_src hB hP, v_would hB hP, v_halt hB hP, v_free hB hP, v_block hB hP, v_end hB hP, v_ask hB hP, v_take50 hB hP, v_take hB hP, v_work hB hP, v_adv hB hP, hc, v_new hB hP, new_1]
theorem v_await (hB : 30 ≤ B) (hP : 30 ≤ P) (hc : c < 67) : f_X1_await (gv bg B P st) B a (B + c) b = gw bg B P (f_X1_await st P a (P + c) b) := by
  simp only [f_X1_await, gv_at hB, gv_at0 hB, gv_su hB hP, gv_su0 hB hP, gv_lo, otk_eq, owk_eq, orw_eq, otk_lt, owk_0, owk_1, owk_2, owk_3, owk_4, owk_5, orw_0, orw_1, fsc_0, fsc_1, fsc_2, b67_10, b67_11, b67_12, Nat.add_assoc, Nat.reduceAdd, gv_ite, gw_ite, gw_mk, gw_1, gw_2, v_nlz, v_mod, v_isIn, v_at hB hP, v_last hB hP, v_append hB hP, v_begin hB hP, v_isB hB hP, v_isO hB hP, v_prom hB hP, v_has hB hP, v_rm hB hP, v_lastChild hB hP, v_addValue hB hP, v_note hB hP, v_code, v_num, v_cu hB hP, v_hti hB hP, v_hto hB hP, v_hst hB hP, v_sw hB hP, v_wants hB hP, v_nwt hB hP, v_fwm hB hP, v_src hB hP, v_would hB hP, v_halt hB hP, v_free hB hP, v_block hB hP, v_end hB hP, v_ask hB hP, v_take50 hB hP, v_take hB hP, v_work hB hP, v_adv hB hP, v_fork hB hP, hc]
theorem v_join_L1 (hB : 30 ≤ B) (hP : 30 ≤ P) (hc : c < 67) : ∀ (n : Nat) (st : gSt) (y x : Int32), f_X1_join_L1 B a (B + c) b n (gv bg B P st) y x = gw bg B P (f_X1_join_L1 P a (P + c) b n st y x) := by
  intro n
  induction n with
  | zero => intros; rfl
  | succ n ih =>
    intros
    simp only [f_X1_join_L1, gv_at hB, gv_at0 hB, gv_su hB hP, gv_su0 hB hP, gv_lo, otk_eq, owk_eq, orw_eq, otk_lt, owk_0, owk_1, owk_2, owk_3, owk_4, owk_5, orw_0, orw_1, fsc_0, fsc_1, fsc_2, b67_10, b67_11, b67_12, Nat.add_assoc, Nat.reduceAdd, gv_ite, gw_ite, gw_mk, gw_1, gw_2, v_nlz, v_mod, v_isIn, v_at hB hP, v_last hB hP, v_append hB hP, v_begin hB hP, v_isB hB hP, v_isO hB hP, v_prom hB hP, v_has hB hP, v_rm hB hP, v_lastChild hB hP, v_addValue hB hP, v_note hB hP, v_code, v_num, v_cu hB hP, v_hti hB hP, v_hto hB hP, v_hst hB hP, v_sw hB hP, v_wants hB hP, v_nwt hB hP, v_fwm hB hP, v_src hB hP, v_would hB hP, v_halt hB hP, v_free hB hP, v_block hB hP, v_end hB hP, v_ask hB hP, v_take50 hB hP, v_take hB hP, v_work hB hP, v_adv hB hP, v_fork hB hP, v_await hB hP, hc, ih]
theorem v_join (hB : 30 ≤ B) (hP : 30 ≤ P) (hc : c < 67) : f_X1_join (gv bg B P st) B a (B + c) b = gw bg B P (f_X1_join st P a (P + c) b) := by
  simp only [f_X1_join, f_X1_join_J11, gv_at hB, gv_at0 hB, gv_su hB hP, gv_su0 hB hP, gv_lo, otk_eq, owk_eq, orw_eq, otk_lt, owk_0, owk_1, owk_2, owk_3, owk_4, owk_5, orw_0, orw_1, fsc_0, fsc_1, fsc_2, b67_10, b67_11, b67_12, Nat.add_assoc, Nat.reduceAdd, gv_ite, gw_ite, gw_mk, gw_1, gw_2, v_nlz, v_mod, v_isIn, v_at hB hP, v_last hB hP, v_append hB hP, v_begin hB hP, v_isB hB hP, v_isO hB hP, v_prom hB hP, v_has hB hP, v_rm hB hP, v_lastChild hB hP, v_addValue hB hP, v_note hB hP, v_code, v_num, v_cu hB hP, v_hti hB hP, v_hto hB hP, v_hst hB hP, v_sw hB hP, v_wants hB hP, v_nwt hB hP, v_fwm hB hP, v_src hB hP, v_would hB hP, v_halt hB hP, v_free hB hP, v_block hB hP, v_end hB hP, v_ask hB hP, v_take50 hB hP, v_take hB hP, v_work hB hP, v_adv hB hP, v_fork hB hP, v_await hB hP, hc, v_join_L1 hB hP]
theorem v_cb_L2 (hB : 30 ≤ B) (hP : 30 ≤ P) (hc : c < 67) : ∀ (n : Nat) (st : gSt) (z y x : Int32), f_X1_cancelBelow_L2 B (B + c) n (gv bg B P st) z y x = gw bg B P (f_X1_cancelBelow_L2 P (P + c) n st z y x) := by
  intro n
  induction n with
  | zero => intros; rfl
  | succ n ih =>
    intros
    simp only [f_X1_cancelBelow_L2, gv_at hB, gv_at0 hB, gv_su hB hP, gv_su0 hB hP, gv_lo, otk_eq, owk_eq, orw_eq, otk_lt, owk_0, owk_1, owk_2, owk_3, owk_4, owk_5, orw_0, orw_1, fsc_0, fsc_1, fsc_2, b67_10, b67_11, b67_12, Nat.add_assoc, Nat.reduceAdd, gv_ite, gw_ite, gw_mk, gw_1, gw_2, v_nlz, v_mod, v_isIn, v_at hB hP, v_last hB hP, v_append hB hP, v_begin hB hP, v_isB hB hP, v_isO hB hP, v_prom hB hP, v_has hB hP, v_rm hB hP, v_lastChild hB hP, v_addValue hB hP, v_note hB hP, v_code, v_num, v_cu hB hP, v_hti hB hP, v_hto hB hP, v_hst hB hP, v_sw hB hP, v_wants hB hP, v_nwt hB hP, v_fwm hB hP, v_src hB hP, v_would hB hP, v_halt hB hP, v_free hB hP, v_block hB hP, v_end hB hP, v_ask hB hP, v_take50 hB hP, v_take hB hP, v_work hB hP, v_adv hB hP, v_fork hB hP, v_await hB hP, v_join hB hP, hc, ih]
theorem v_cb_L1 (hB : 30 ≤ B) (hP : 30 ≤ P) (hc : c < 67) : ∀ (n : Nat) (st : gSt) (y x : Int32), f_X1_cancelBelow_L1 B (B + c) n (gv bg B P st) y x = gw bg B P (f_X1_cancelBelow_L1 P (P + c) n st y x) := by
  intro n
  induction n with
  | zero => intros; rfl
  | succ n ih =>
    intros
    simp only [f_X1_cancelBelow_L1, gv_at hB, gv_at0 hB, gv_su hB hP, gv_su0 hB hP, gv_lo, otk_eq, owk_eq, orw_eq, otk_lt, owk_0, owk_1, owk_2, owk_3, owk_4, owk_5, orw_0, orw_1, fsc_0, fsc_1, fsc_2, b67_10, b67_11, b67_12, Nat.add_assoc, Nat.reduceAdd, gv_ite, gw_ite, gw_mk, gw_1, gw_2, v_nlz, v_mod, v_isIn, v_at hB hP, v_last hB hP, v_append hB hP, v_begin hB hP, v_isB hB hP, v_isO hB hP, v_prom hB hP, v_has hB hP, v_rm hB hP, v_lastChild hB hP, v_addValue hB hP, v_note hB hP, v_code, v_num, v_cu hB hP, v_hti hB hP, v_hto hB hP, v_hst hB hP, v_sw hB hP, v_wants hB hP, v_nwt hB hP, v_fwm hB hP, v_src hB hP, v_would hB hP, v_halt hB hP, v_free hB hP, v_block hB hP, v_end hB hP, v_ask hB hP, v_take50 hB hP, v_take hB hP, v_work hB hP, v_adv hB hP, v_fork hB hP, v_await hB hP, v_join hB hP, v_cb_L2 hB hP, hc, ih]
theorem v_cb (hB : 30 ≤ B) (hP : 30 ≤ P) (hc : c < 67) : f_X1_cancelBelow (gv bg B P st) B (B + c) = gw bg B P (f_X1_cancelBelow st P (P + c)) := by
  simp only [f_X1_cancelBelow, gv_at hB, gv_at0 hB, gv_su hB hP, gv_su0 hB hP, gv_lo, otk_eq, owk_eq, orw_eq, otk_lt, owk_0, owk_1, owk_2, owk_3, owk_4, owk_5, orw_0, orw_1, fsc_0, fsc_1, fsc_2, b67_10, b67_11, b67_12, Nat.add_assoc, Nat.reduceAdd, gv_ite, gw_ite, gw_mk, gw_1, gw_2, v_nlz, v_mod, v_isIn, v_at hB hP, v_last hB hP, v_append hB hP, v_begin hB hP, v_isB hB hP, v_isO hB hP, v_prom hB hP, v_has hB hP, v_rm hB hP, v_lastChild hB hP, v_addValue hB hP, v_note hB hP, v_code, v_num, v_cu hB hP, v_hti hB hP, v_hto hB hP, v_hst hB hP, v_sw hB hP, v_wants hB hP, v_nwt hB hP, v_fwm hB hP, v_src hB hP, v_would hB hP, v_halt hB hP, v_free hB hP, v_block hB hP, v_end hB hP, v_ask hB hP, v_take50 hB hP, v_take hB hP, v_work hB hP, v_adv hB hP, v_fork hB hP, v_await hB hP, v_join hB hP, v_cb_L2 hB hP, hc, v_cb_L1 hB hP]
theorem v_kp_L1 (hB : 30 ≤ B) (hP : 30 ≤ P) : ∀ (n : Nat) (st : gSt) (x : Int32), f_X1_keepPromise_L1 B a b n (gv bg B P st) x = gw bg B P (f_X1_keepPromise_L1 P a b n st x) := by
  intro n
  induction n with
  | zero => intros; rfl
  | succ n ih =>
    intros
    simp only [f_X1_keepPromise_L1, gv_at hB, gv_at0 hB, gv_su hB hP, gv_su0 hB hP, gv_lo, otk_eq, owk_eq, orw_eq, otk_lt, owk_0, owk_1, owk_2, owk_3, owk_4, owk_5, orw_0, orw_1, fsc_0, fsc_1, fsc_2, b67_10, b67_11, b67_12, Nat.add_assoc, Nat.reduceAdd, gv_ite, gw_ite, gw_mk, gw_1, gw_2, v_nlz, v_mod, v_isIn, v_at hB hP, v_last hB hP, v_append hB hP, v_begin hB hP, v_isB hB hP, v_isO hB hP, v_prom hB hP, v_has hB hP, v_rm hB hP, v_lastChild hB hP, v_addValue hB hP, v_note hB hP, v_code, v_num, v_cu hB hP, v_hti hB hP, v_hto hB hP, v_hst hB hP, v_sw hB hP, v_wants hB hP, v_nwt hB hP, v_fwm hB hP, v_src hB hP, v_would hB hP, v_halt hB hP, v_free hB hP, v_block hB hP, v_end hB hP, v_ask hB hP, v_take50 hB hP, v_take hB hP, v_work hB hP, v_adv hB hP, v_fork hB hP, v_await hB hP, v_join hB hP, v_cb_L2 hB hP, v_cb hB hP, ih]
theorem v_kp (hB : 30 ≤ B) (hP : 30 ≤ P) : f_X1_keepPromise (gv bg B P st) B a b = gw bg B P (f_X1_keepPromise st P a b) := by
  simp only [f_X1_keepPromise, gv_at hB, gv_at0 hB, gv_su hB hP, gv_su0 hB hP, gv_lo, otk_eq, owk_eq, orw_eq, otk_lt, owk_0, owk_1, owk_2, owk_3, owk_4, owk_5, orw_0, orw_1, fsc_0, fsc_1, fsc_2, b67_10, b67_11, b67_12, Nat.add_assoc, Nat.reduceAdd, gv_ite, gw_ite, gw_mk, gw_1, gw_2, v_nlz, v_mod, v_isIn, v_at hB hP, v_last hB hP, v_append hB hP, v_begin hB hP, v_isB hB hP, v_isO hB hP, v_prom hB hP, v_has hB hP, v_rm hB hP, v_lastChild hB hP, v_addValue hB hP, v_note hB hP, v_code, v_num, v_cu hB hP, v_hti hB hP, v_hto hB hP, v_hst hB hP, v_sw hB hP, v_wants hB hP, v_nwt hB hP, v_fwm hB hP, v_src hB hP, v_would hB hP, v_halt hB hP, v_free hB hP, v_block hB hP, v_end hB hP, v_ask hB hP, v_take50 hB hP, v_take hB hP, v_work hB hP, v_adv hB hP, v_fork hB hP, v_await hB hP, v_join hB hP, v_cb_L2 hB hP, v_cb hB hP, v_kp_L1 hB hP]
theorem v_go202 (hB : 30 ≤ B) (hP : 30 ≤ P) (hc : c < 67) (hk : k + 2 < 30) : f_X1_goOn_J202 B a (B + c) (gv bg B P st) x y z k = gw bg B P (f_X1_goOn_J202 P a (P + c) st x y z k) := by
  have hk0 : k < 30 := by omega
  have hk1 : k + 1 < 30 := by omega
  simp only [f_X1_goOn_J202, gv_at hB, gv_at0 hB, gv_su hB hP, gv_su0 hB hP, gv_lo, otk_eq, owk_eq, orw_eq, otk_lt, owk_0, owk_1, owk_2, owk_3, owk_4, owk_5, orw_0, orw_1, fsc_0, fsc_1, fsc_2, b67_10, b67_11, b67_12, Nat.add_assoc, Nat.reduceAdd, gv_ite, gw_ite, gw_mk, gw_1, gw_2, v_nlz, v_mod, v_isIn, v_at hB hP, v_last hB hP, v_append hB hP, v_begin hB hP, v_isB hB hP, v_isO hB hP, v_prom hB hP, v_has hB hP, v_rm hB hP, v_lastChild hB hP, v_addValue hB hP, v_note hB hP, v_code, v_num, v_cu hB hP, v_hti hB hP, v_hto hB hP, v_hst hB hP, v_sw hB hP, v_wants hB hP, v_nwt hB hP, v_fwm hB hP, v_src hB hP, v_would hB hP, v_halt hB hP, v_free hB hP, v_block hB hP, v_end hB hP, v_ask hB hP, v_take50 hB hP, v_take hB hP, v_work hB hP, v_adv hB hP, v_fork hB hP, v_await hB hP, v_join hB hP, v_cb_L2 hB hP, v_cb hB hP, v_kp hB hP, hc, hk, hk0, hk1]
theorem v_go35 (hB : 30 ≤ B) (hP : 30 ≤ P) (hc : c < 67) (hk : k + 2 < 30) : f_X1_goOn_J35 B a (B + c) (gv bg B P st) x k = gw bg B P (f_X1_goOn_J35 P a (P + c) st x k) := by
  have hk0 : k < 30 := by omega
  have hk1 : k + 1 < 30 := by omega
  simp only [f_X1_goOn_J35, gv_at hB, gv_at0 hB, gv_su hB hP, gv_su0 hB hP, gv_lo, otk_eq, owk_eq, orw_eq, otk_lt, owk_0, owk_1, owk_2, owk_3, owk_4, owk_5, orw_0, orw_1, fsc_0, fsc_1, fsc_2, b67_10, b67_11, b67_12, Nat.add_assoc, Nat.reduceAdd, gv_ite, gw_ite, gw_mk, gw_1, gw_2, v_nlz, v_mod, v_isIn, v_at hB hP, v_last hB hP, v_append hB hP, v_begin hB hP, v_isB hB hP, v_isO hB hP, v_prom hB hP, v_has hB hP, v_rm hB hP, v_lastChild hB hP, v_addValue hB hP, v_note hB hP, v_code, v_num, v_cu hB hP, v_hti hB hP, v_hto hB hP, v_hst hB hP, v_sw hB hP, v_wants hB hP, v_nwt hB hP, v_fwm hB hP, v_src hB hP, v_would hB hP, v_halt hB hP, v_free hB hP, v_block hB hP, v_end hB hP, v_ask hB hP, v_take50 hB hP, v_take hB hP, v_work hB hP, v_adv hB hP, v_fork hB hP, v_await hB hP, v_join hB hP, v_cb_L2 hB hP, v_cb hB hP, v_kp hB hP, v_go202 hB hP, hc, hk, hk0, hk1]
theorem v_goOn (hB : 30 ≤ B) (hP : 30 ≤ P) (hc : c < 67) : f_X1_goOn (gv bg B P st) B a (B + c) = gw bg B P (f_X1_goOn st P a (P + c)) := by
  simp only [f_X1_goOn, gv_at hB, gv_at0 hB, gv_su hB hP, gv_su0 hB hP, gv_lo, otk_eq, owk_eq, orw_eq, otk_lt, owk_0, owk_1, owk_2, owk_3, owk_4, owk_5, orw_0, orw_1, fsc_0, fsc_1, fsc_2, b67_10, b67_11, b67_12, Nat.add_assoc, Nat.reduceAdd, gv_ite, gw_ite, gw_mk, gw_1, gw_2, v_nlz, v_mod, v_isIn, v_at hB hP, v_last hB hP, v_append hB hP, v_begin hB hP, v_isB hB hP, v_isO hB hP, v_prom hB hP, v_has hB hP, v_rm hB hP, v_lastChild hB hP, v_addValue hB hP, v_note hB hP, v_code, v_num, v_cu hB hP, v_hti hB hP, v_hto hB hP, v_hst hB hP, v_sw hB hP, v_wants hB hP, v_nwt hB hP, v_fwm hB hP, v_src hB hP, v_would hB hP, v_halt hB hP, v_free hB hP, v_block hB hP, v_end hB hP, v_ask hB hP, v_take50 hB hP, v_take hB hP, v_work hB hP, v_adv hB hP, v_fork hB hP, v_await hB hP, v_join hB hP, v_cb_L2 hB hP, v_cb hB hP, v_kp hB hP, v_go202 hB hP, v_go35 hB hP, hc]
theorem gw_eta {α : Type} {q : α × gSt} : gw bg B P (q.1, q.2) = gw bg B P q := rfl
theorem v_act (hB : 30 ≤ B) (hP : 30 ≤ P) : f_X1_act (gv bg B P st) B a = gw bg B P (f_X1_act st P a) := by
  simp only [f_X1_act, gv_at hB, gv_at0 hB, gv_su hB hP, gv_su0 hB hP, gv_lo, otk_eq, owk_eq, orw_eq, otk_lt, owk_0, owk_1, owk_2, owk_3, owk_4, owk_5, orw_0, orw_1, fsc_0, fsc_1, fsc_2, b67_10, b67_11, b67_12, Nat.add_assoc, Nat.reduceAdd, gv_ite, gw_ite, gw_mk, gw_1, gw_2, v_nlz, v_mod, v_isIn, v_at hB hP, v_last hB hP, v_append hB hP, v_begin hB hP, v_isB hB hP, v_isO hB hP, v_prom hB hP, v_has hB hP, v_rm hB hP, v_lastChild hB hP, v_addValue hB hP, v_note hB hP, v_code, v_num, v_cu hB hP, v_hti hB hP, v_hto hB hP, v_hst hB hP, v_sw hB hP, v_wants hB hP, v_nwt hB hP, v_fwm hB hP, v_src hB hP, v_would hB hP, v_halt hB hP, v_free hB hP, v_block hB hP, v_end hB hP, v_ask hB hP, v_take50 hB hP, v_take hB hP, v_work hB hP, v_adv hB hP, v_fork hB hP, v_await hB hP, v_join hB hP, v_cb_L2 hB hP, v_cb hB hP, v_kp hB hP, v_go202 hB hP, v_go35 hB hP, v_goOn hB hP, gw_eta]
theorem v_pt_L2 (hB : 30 ≤ B) (hP : 30 ≤ P) {K K1 : gSt → Int32 → gSt} (hK : ∀ st x, K (gv bg B P st) x = gv bg B P (K1 st x)) : ∀ (n : Nat) (st : gSt) (b y : Int32), f_X1_passTick_L2 B K x n (gv bg B P st) b y = gv bg B P (f_X1_passTick_L2 P K1 x n st b y) := by
  intro n
  induction n with
  | zero => intros; rfl
  | succ n ih =>
    intros
    simp only [f_X1_passTick_L2, v_act hB hP, gw_1, gw_2, hK, gv_ite, ih]
theorem v_pt_L1 (hB : 30 ≤ B) (hP : 30 ≤ P) : ∀ (n : Nat) (st : gSt) (x : Int32), f_X1_passTick_L1 B n (gv bg B P st) x = gv bg B P (f_X1_passTick_L1 P n st x) := by
  intro n
  induction n with
  | zero => intros; rfl
  | succ n ih =>
    intro st x
    have h2 := fun (st : gSt) (b y : Int32) => v_pt_L2 (x := x) hB hP ih 1000001 st b y
    simp only [f_X1_passTick_L1, gv_at hB, gv_at0 hB, gv_su hB hP, gv_su0 hB hP, gv_lo, otk_eq, owk_eq, orw_eq, otk_lt, owk_0, owk_1, owk_2, owk_3, owk_4, owk_5, orw_0, orw_1, fsc_0, fsc_1, fsc_2, b67_10, b67_11, b67_12, Nat.add_assoc, Nat.reduceAdd, gv_ite, gw_ite, gw_mk, gw_1, gw_2, v_nlz, v_mod, v_isIn, v_note hB hP, h2]
theorem v_pt (hB : 30 ≤ B) (hP : 30 ≤ P) : f_X1_passTick (gv bg B P st) B = gv bg B P (f_X1_passTick st P) := by
  simp only [f_X1_passTick, gv_at0 hB, v_pt_L1 hB hP]
end GV
