section
/-! THE CLASS'S STATE FUNCTIONS, apart from the machine: what each method answers and leaves. -/
abbrev gSt : Type := Nat → Nat → Int32
def gsu (st : gSt) (i k : Nat) (v : Int32) : gSt := va_up st i (upd (st i) k v)
theorem gsu_at {st : gSt} {i k : Nat} {v : Int32} : gsu st i k v i k = v := by simp [gsu, va_up, upd]
theorem gsu_ni {st : gSt} {i k a b : Nat} {v : Int32} (h : a ≠ i) : gsu st i k v a b = st a b := by simp [gsu, va_up, h]
theorem gsu_nk {st : gSt} {i k a b : Nat} {v : Int32} (h : b ≠ k) : gsu st i k v a b = st a b := by
  by_cases ha : a = i
  · subst ha; simp [gsu, va_up, upd, h]
  · simp [gsu, va_up, ha]
theorem gsu_eq (st : gSt) (i k : Nat) (v : Int32) (a b : Nat) : gsu st i k v a b = if a = i ∧ b = k then v else st a b := by
  by_cases ha : a = i
  · by_cases hb : b = k
    · simp [ha, hb, gsu_at]
    · simp [hb, gsu_nk hb]
  · simp [ha, gsu_ni ha]
def f_at (st : gSt) (i : Nat) (x : Int32) : Int32 := if x < 0 then -1 else if st i 1 ≤ x then -1 else if 24 ≤ x then -1 else st (i + 1) x.toNatClampNeg
def f_last (st : gSt) (i : Nat) : Int32 := f_at st i (st i 1 - 1)
def f_append (st : gSt) (i : Nat) (n : Int32) : gSt := if st i 1 < 0 then st else if 24 ≤ st i 1 then st else gsu (gsu st (i + 1) (st i 1).toNatClampNeg n) i 1 (st i 1 + 1)
def f_codeAt (st : gSt) (i : Nat) (x : Int32) : Int32 := if x < 0 then -1 else if 12 ≤ x then -1 else st (i + 1) x.toNatClampNeg
def f_numberAt (st : gSt) (i : Nat) (x : Int32) : Int32 := if x < 0 then 0 else if 12 ≤ x then 0 else st (i + 2) x.toNatClampNeg
def f_sapp (st : gSt) (i : Nat) (a b : Int32) : gSt := if st i 2 < 0 then st else if 12 ≤ st i 2 then st else gsu (gsu (gsu st (i + 1) (st i 2).toNatClampNeg a) (i + 2) (st i 2).toNatClampNeg b) i 2 (st i 2 + 1)
def f_begin (st : gSt) (i : Nat) (a b : Int32) : gSt := gsu (gsu (gsu (gsu (gsu (gsu (gsu (gsu (gsu (gsu st i 1 a) i 2 0) i 3 0) i 4 0) i 5 b) i 6 0) i 7 (-1)) i 8 0) i 9 0) i 10 (-1)
def f_tcopy (st : gSt) (i j : Nat) : gSt := gsu (gsu (gsu (gsu (gsu (gsu (gsu (gsu (gsu (gsu st i 1 (st j 1)) i 2 (st j 2)) i 3 (st j 3)) i 4 (st j 4)) i 5 (st j 5)) i 6 (st j 6)) i 7 (st j 7)) i 8 (st j 8)) i 9 (st j 9)) i 10 (st j 10)
def f_isB (st : gSt) (i : Nat) : Int32 := if st i 2 = 2 then 1 else if st i 2 = 3 then 1 else 0
def f_isO (st : gSt) (i : Nat) : Int32 := if st i 2 < 4 then 0 else 1
def f_sc (x : Int32) : Nat := if x < 0 then 3 else if 8 ≤ x then 3 else 6 + 3 * x.toNatClampNeg
def f_tk (P : Nat) (x : Int32) : Nat := if x < 0 then P + 2 else if 24 ≤ x then P + 2 else P + 1 + 12 + x.toNatClampNeg
def f_wk (P : Nat) (x : Int32) : Nat := if x < 0 then P + 4 else if 5 ≤ x then P + 4 else P + 3 + 34 + 6 * x.toNatClampNeg
def f_row (P : Nat) (x : Int32) : Nat := if x = -1 then P + 10 else f_wk P x + 1
def f_prom (st : gSt) (P : Nat) (x : Int32) : Int32 := if x < 0 then -1000000 else if 6 ≤ x then -1000000 else st (P + 12) x.toNatClampNeg
def f_cp (st : gSt) (a b : Nat) : Nat → gSt
  | 0 => st
  | k + 1 => gsu (f_cp st a b k) a k (f_cp st a b k b k)
def f_rcopy (st : gSt) (i j : Nat) : gSt := f_cp (gsu st i 1 (st j 1)) (i + 1) (j + 1) 24
def gsz (st : gSt) (i : Nat) : Nat := min (st i 1).toNatClampNeg 24
def f_has (st : gSt) (i : Nat) (x : Int32) : Int32 := if (List.range (gsz st i)).any (fun j => decide (st (i + 1) j = x)) then 1 else 0
def f_rml (st : gSt) (i : Nat) (x : Int32) : Nat → gSt × Nat
  | 0 => (st, 0)
  | k + 1 => if (f_rml st i x k).1 (i + 1) k = x then f_rml st i x k else (gsu (f_rml st i x k).1 (i + 1) (f_rml st i x k).2 ((f_rml st i x k).1 (i + 1) k), (f_rml st i x k).2 + 1)
def f_rm (st : gSt) (i : Nat) (x : Int32) : gSt := gsu (f_rml st i x (gsz st i)).1 i 1 (nI (f_rml st i x (gsz st i)).2)
def f_J6_numberOfLeadingZeros_0f7a4_J73 (x : Int32) (st1 : gSt) (x1 : Int32) (n1 : Int32) : Int32 := (n1 - (x1.toUInt32 >>> ((1 : Int32).toUInt32 &&& Int32.toUInt32 31)).toInt32)
def f_J6_numberOfLeadingZeros_0f7a4_J61 (x : Int32) (st1 : gSt) (x1 : Int32) (n1 : Int32) : Int32 := if x1 < (4 : Int32) then f_J6_numberOfLeadingZeros_0f7a4_J73 x st1 x1 n1  else (let x2 := (n1 + (-2)); let x3 := (x1.toUInt32 >>> ((2 : Int32).toUInt32 &&& Int32.toUInt32 31)).toInt32; f_J6_numberOfLeadingZeros_0f7a4_J73 x st1 x3 x2 )
def f_J6_numberOfLeadingZeros_0f7a4_J48 (x : Int32) (st1 : gSt) (x1 : Int32) (n1 : Int32) : Int32 := if x1 < (16 : Int32) then f_J6_numberOfLeadingZeros_0f7a4_J61 x st1 x1 n1  else (let x5 := (n1 + (-4)); let x6 := (x1.toUInt32 >>> ((4 : Int32).toUInt32 &&& Int32.toUInt32 31)).toInt32; f_J6_numberOfLeadingZeros_0f7a4_J61 x st1 x6 x5 )
def f_J6_numberOfLeadingZeros_0f7a4_J33 (x : Int32) (st1 : gSt) (x1 : Int32) (n1 : Int32) : Int32 := if x1 < (256 : Int32) then f_J6_numberOfLeadingZeros_0f7a4_J48 x st1 x1 n1  else (let x8 := (n1 + (-8)); let x9 := (x1.toUInt32 >>> ((8 : Int32).toUInt32 &&& Int32.toUInt32 31)).toInt32; f_J6_numberOfLeadingZeros_0f7a4_J48 x st1 x9 x8 )
def f_J6_numberOfLeadingZeros_0f7a4 (st : gSt) (x : Int32) : Int32 := if (0 : Int32) < x then if x < (65536 : Int32) then f_J6_numberOfLeadingZeros_0f7a4_J33 x st x (31 : Int32)  else (let x12 := ((31 : Int32) + (-16)); let x13 := (x.toUInt32 >>> ((16 : Int32).toUInt32 &&& Int32.toUInt32 31)).toInt32; f_J6_numberOfLeadingZeros_0f7a4_J33 x st x13 x12 ) else if x = 0 then (32 : Int32) else (0 : Int32)
def f_J9_floorMod_7cf53 (st : gSt) (x : Int32) (y : Int32) : Int32 := (let x1 := (x - x / y * y); if (0 : Int32) ≤ (x ^^^ y) then x1 else if x1 = 0 then x1 else (x1 + y))
def f_J7_fill_53178_12_L1 (i : Nat) (v : Int32) : Nat → gSt → Int32 → gSt
  | 0, st1, _ => st1
  | n + 1, st1, x => if (20 : Int32) ≤ x then st1 else (let s2 := gsu st1 i x.toNatClampNeg v; let x3 := (x + 1); f_J7_fill_53178_12_L1 i v n s2 x3)
def f_J7_fill_53178_12 (st : gSt) (i : Nat) (v : Int32) : gSt := f_J7_fill_53178_12_L1 i v 21 st (0 : Int32)
def f_J7_fill_53178_13_L1 (i : Nat) (v : Int32) : Nat → gSt → Int32 → gSt
  | 0, st1, _ => st1
  | n + 1, st1, x => if (6 : Int32) ≤ x then st1 else (let s2 := gsu st1 i x.toNatClampNeg v; let x3 := (x + 1); f_J7_fill_53178_13_L1 i v n s2 x3)
def f_J7_fill_53178_13 (st : gSt) (i : Nat) (v : Int32) : gSt := f_J7_fill_53178_13_L1 i v 7 st (0 : Int32)
def f_X4_lastChild (st : gSt) (i : Nat) : Int32 := ((31 : Int32) - (f_J6_numberOfLeadingZeros_0f7a4 st (st i 6)))
def f_X4_addValue (st : gSt) (i : Nat) (n0 : Int32) : gSt := (let s1 := gsu st i 4 (if (-999999 : Int32) < (if ((st i 4) + n0) < (999999 : Int32) then ((st i 4) + n0) else (999999 : Int32)) then (if ((st i 4) + n0) < (999999 : Int32) then ((st i 4) + n0) else (999999 : Int32)) else (-999999 : Int32)); s1)
def f_X5_begin (st : gSt) (i : Nat) : gSt := (let s1 := (gsu st (i + 1) 1 0); let s2 := (gsu s1 (i + 3) 1 0); let s3 := gsu s2 i 2 (0 : Int32); let s4 := gsu s3 i 3 (0 : Int32); let s5 := gsu s4 i 4 (0 : Int32); let s6 := (f_J7_fill_53178_12 s5 (i + 5) (-1 : Int32)); s6)
def f_X5_copyFrom_L1 (i : Nat) (j : Nat) : Nat → gSt → Int32 → gSt
  | 0, st1, _ => st1
  | n + 1, st1, x => if (20 : Int32) ≤ x then st1 else (let s7 := gsu st1 (i + 5) x.toNatClampNeg (st1 (j + 5) x.toNatClampNeg); let x8 := (x + 1); f_X5_copyFrom_L1 i j n s7 x8)
def f_X5_copyFrom (st : gSt) (i : Nat) (j : Nat) : gSt := (let s1 := (f_rcopy st (i + 1) (j + 1)); let s2 := (f_rcopy s1 (i + 3) (j + 3)); let s3 := gsu s2 i 2 (s2 j 2); let s4 := gsu s3 i 3 (s3 j 3); let s5 := gsu s4 i 4 (s4 j 4); f_X5_copyFrom_L1 i j 21 s5 (0 : Int32))
def f_X5_ranIn (st : gSt) (i : Nat) (x : Int32) : Int32 := (st (i + 5) (f_J9_floorMod_7cf53 st x (20 : Int32)).toNatClampNeg)
def f_X5_noteRan (st : gSt) (i : Nat) (x : Int32) (t : Int32) : gSt := (let s1 := gsu st (i + 5) (f_J9_floorMod_7cf53 st x (20 : Int32)).toNatClampNeg t; s1)
def f_X1_isIn (st : gSt) (a : Int32) (b : Int32) : Int32 := if b < (0 : Int32) then (0 : Int32) else if (24 : Int32) ≤ b then (0 : Int32) else if ((a >>> (b &&& 31)) &&& (1 : Int32)) = (1 : Int32) then (1 : Int32) else (0 : Int32)
def f_X1_hasTaskOf_L1 (P : Nat) (job : Int32) : Nat → gSt → Int32 → Int32
  | 0, _, _ => 0
  | n + 1, st1, x => if (st1 P 3) ≤ x then (0 : Int32) else if (st1 (f_tk P x) 1) = job then (1 : Int32) else (let x3 := (x + 1); f_X1_hasTaskOf_L1 P job n st1 x3)
def f_X1_hasTaskOf (st : gSt) (P : Nat) (job : Int32) : Int32 := f_X1_hasTaskOf_L1 P job (((st P 3).toInt - (0 : Int32).toInt).toNat + 1) st (0 : Int32)
def f_X1_hasTaskIn_L1 (P : Nat) (sq : Int32) : Nat → gSt → Int32 → Int32
  | 0, _, _ => 0
  | n + 1, st1, x => if (st1 P 3) ≤ x then (0 : Int32) else if (st1 (f_tk P x) 2) = sq then (1 : Int32) else (let x3 := (x + 1); f_X1_hasTaskIn_L1 P sq n st1 x3)
def f_X1_hasTaskIn (st : gSt) (P : Nat) (sq : Int32) : Int32 := f_X1_hasTaskIn_L1 P sq (((st P 3).toInt - (0 : Int32).toInt).toNat + 1) st (0 : Int32)
def f_X1_hasStackedTask_L1 (P : Nat) : Nat → gSt → Int32 → Int32
  | 0, _, _ => 0
  | n + 1, st1, x => if (st1 P 6) ≤ x then (0 : Int32) else if (st1 ((f_wk P x) + 3) 1) ≤ (0 : Int32) then (let x3 := (x + 1); f_X1_hasStackedTask_L1 P n st1 x3) else (1 : Int32)
def f_X1_hasStackedTask (st : gSt) (P : Nat) : Int32 := f_X1_hasStackedTask_L1 P (((st P 6).toInt - (0 : Int32).toInt).toNat + 1) st (0 : Int32)
def f_X1_countUnfinished_L1 (P : Nat) : Nat → gSt → Int32 → Int32 → Int32
  | 0, _, _, _ => 0
  | n + 1, st1, y, x => if (st1 P 3) ≤ x then y else if (f_isO st1 (f_tk P x)) = 0 then (let x4 := (y + 1); let x5 := (x + 1); f_X1_countUnfinished_L1 P n st1 x4 x5) else (let x3 := (x + 1); f_X1_countUnfinished_L1 P n st1 y x3)
def f_X1_countUnfinished (st : gSt) (P : Nat) : Int32 := f_X1_countUnfinished_L1 P (((st P 3).toInt - (0 : Int32).toInt).toNat + 1) st (0 : Int32) (0 : Int32)
def f_X1_sumWork_L1 (P : Nat) (a : Int32) : Nat → gSt → Int32 → Int32 → Int32 → Int32
  | 0, _, _, _, _ => 0
  | n + 1, st1, f, y, x => if (st1 P 3) ≤ x then y else (let i5 := (f_tk P x); if (f_X1_isIn st1 f (st1 i5 5)) = 0 then (let x7 := (x + 1); f_X1_sumWork_L1 P a n st1 f y x7) else (let x8 := (f ||| ((1 : Int32) <<< (x &&& 31))); let x9 := (y + (st1 i5 9)); let x10 := (x + 1); f_X1_sumWork_L1 P a n st1 x8 x9 x10))
def f_X1_sumWork (st : gSt) (P : Nat) (a : Int32) : Int32 := (let x1 := ((1 : Int32) <<< (a &&& 31)); let x2 := (st (f_tk P a) 9); let x3 := (a + (1 : Int32)); f_X1_sumWork_L1 P a (((st P 3).toInt - (a + (1 : Int32)).toInt).toNat + 1) st x1 x2 x3)
def f_X1_wantsTask (st : gSt) (P : Nat) (w : Nat) : Int32 := if (st (w + 3) 1) = 0 then (1 : Int32) else if (st P 9) = (2 : Int32) then if (f_isB st (f_tk P (f_last st (w + 3)))) = 0 then (0 : Int32) else (1 : Int32) else (0 : Int32)
def f_X1_nextWithTasks_L1 (P : Nat) (a : Int32) : Nat → gSt → Int32 → Int32
  | 0, _, _ => 0
  | n + 1, st1, x => if (st1 P 6) ≤ x then (-2 : Int32) else if (st1 P 6) ≤ (a + x) then (let x3 := ((a + x) - (st1 P 6)); if (st1 (f_row P x3) 1) ≤ (0 : Int32) then (let x5 := (x + 1); f_X1_nextWithTasks_L1 P a n st1 x5) else x3) else (let x6 := (a + x); if (st1 (f_row P x6) 1) ≤ (0 : Int32) then (let x8 := (x + 1); f_X1_nextWithTasks_L1 P a n st1 x8) else x6)
def f_X1_nextWithTasks (st : gSt) (P : Nat) (a : Int32) : Int32 := f_X1_nextWithTasks_L1 P a (((st P 6).toInt - (1 : Int32).toInt).toNat + 1) st (1 : Int32)
def f_X1_firstWithMostTasks_L1 (P : Nat) : Nat → gSt → Int32 → Int32 → Int32 → Int32
  | 0, _, _, _, _ => 0
  | n + 1, st1, y, z, x => if (st1 P 6) ≤ x then y else (let x2 := (st1 (f_row P x) 1); if x2 ≤ z then (let x4 := (x + 1); f_X1_firstWithMostTasks_L1 P n st1 y z x4) else (let x5 := (x + 1); f_X1_firstWithMostTasks_L1 P n st1 x x2 x5))
def f_X1_firstWithMostTasks (st : gSt) (P : Nat) : Int32 := f_X1_firstWithMostTasks_L1 P (((st P 6).toInt - (0 : Int32).toInt).toNat + 1) st (-2 : Int32) (0 : Int32) (0 : Int32)
def f_X1_sourceFor (st : gSt) (P : Nat) (a : Int32) : Int32 := if (st (f_row P a) 1) ≤ (0 : Int32) then if (st (P + 10) 1) ≤ (0 : Int32) then if (st P 10) = 0 then (f_X1_nextWithTasks st P a) else if (st P 10) = (1 : Int32) then (f_X1_firstWithMostTasks st P) else (-2 : Int32) else (-1 : Int32) else a
def f_X1_wouldAct (st : gSt) (P : Nat) (a : Int32) : Int32 := (let i1 := (f_wk P a); if (f_X1_wantsTask st P i1) = 0 then if (f_isB st (f_tk P (f_last st (i1 + 3)))) = 0 then (1 : Int32) else (0 : Int32) else if (f_X1_sourceFor st P a) = (-2 : Int32) then (0 : Int32) else (1 : Int32))
def f_X1_isHalted_L1 (P : Nat) : Nat → gSt → Int32 → Int32
  | 0, _, _ => 0
  | n + 1, st1, x => if (st1 P 6) ≤ x then (1 : Int32) else if (f_X1_wouldAct st1 P x) = 0 then (let x4 := (x + 1); f_X1_isHalted_L1 P n st1 x4) else (0 : Int32)
def f_X1_isHalted (st : gSt) (P : Nat) : Int32 := if (f_X1_countUnfinished st P) = 0 then (0 : Int32) else f_X1_isHalted_L1 P (((st P 6).toInt - (0 : Int32).toInt).toNat + 1) st (0 : Int32)
def f_X1_changeWorkerCount_L1 (P : Nat) (c0 : Int32) : Nat → gSt → Int32 → gSt
  | 0, st1, _ => st1
  | n + 1, st1, x => if c0 ≤ x then (let s3 := gsu st1 P 6 c0; s3) else (let s4 := (f_X5_begin st1 (f_wk P x)); let x5 := (x + 1); f_X1_changeWorkerCount_L1 P c0 n s4 x5)
def f_X1_changeWorkerCount (st : gSt) (P : Nat) (c0 : Int32) : gSt := (let x1 := (st P 6); f_X1_changeWorkerCount_L1 P c0 ((c0.toInt - (st P 6).toInt).toNat + 1) st x1)
def f_X1_free_L1 (P : Nat) (t : Nat) : Nat → gSt → Int32 → gSt
  | 0, st1, _ => st1
  | n + 1, st1, x => if (st1 P 6) ≤ x then (let s2 := gsu st1 t 2 (0 : Int32); let s3 := (f_append s2 ((f_wk P (s2 t 10)) + 1) (s2 t 0)); s3) else if (f_has st1 ((f_wk P x) + 3) (st1 t 0)) = 0 then (let x5 := (x + 1); f_X1_free_L1 P t n st1 x5) else (let s6 := gsu st1 t 2 (1 : Int32); s6)
def f_X1_free (st : gSt) (P : Nat) (t : Nat) : gSt := f_X1_free_L1 P t (((st P 6).toInt - (0 : Int32).toInt).toNat + 1) st (0 : Int32)
def f_X1_block (st : gSt) (P : Nat) (a : Int32) (t : Nat) (sq : Int32) : gSt := (let s1 := gsu st t 2 sq; let s2 := gsu s1 t 10 a; if (s2 P 9) = 0 then (let s4 := (f_rm s2 ((f_wk P a) + 3) (s2 t 0)); s4) else s2)
def f_X1_newTask (st : gSt) (P : Nat) (a : Int32) (b : Int32) : Nat × gSt := (let i1 := (f_tk P (st P 3)); let s2 := gsu st P 3 ((st P 3) + (1 : Int32)); let s3 := (f_begin s2 i1 a b); (i1, s3))
def f_X1_askFor (st : gSt) (P : Nat) (a : Int32) : Int32 × gSt := (let q1 := (f_X1_newTask st P a (-1 : Int32)); let i2 := q1.1; let s3 := (f_append q1.2 (P + 10) (q1.2 i2 0)); ((s3 i2 0), s3))
def f_X1_end_L1 (P : Nat) (t : Nat) (sq : Int32) : Nat → gSt → Int32 → gSt
  | 0, st1, _ => st1
  | n + 1, st1, x => if (st1 P 6) ≤ x then (let i5 := (f_tk P (st1 t 5)); if (st1 i5 2) = (2 : Int32) then if (f_X4_lastChild st1 i5) = (st1 t 0) then (let s8 := (f_X1_free st1 P i5); s8) else st1 else st1) else (let i9 := (f_wk P x); let s10 := (f_rm st1 (i9 + 1) (st1 t 0)); let s11 := (f_rm s10 (i9 + 3) (s10 t 0)); let x12 := (x + 1); f_X1_end_L1 P t sq n s11 x12)
def f_X1_end (st : gSt) (P : Nat) (t : Nat) (sq : Int32) : gSt := (let s1 := gsu st t 2 sq; let s2 := gsu s1 t 7 (s1 P 11); let s3 := (f_rm s2 (P + 10) (s2 t 0)); f_X1_end_L1 P t sq (((s3 P 6).toInt - (0 : Int32).toInt).toNat + 1) s3 (0 : Int32))
def f_X1_take_J50 (P : Nat) (a : Int32) (w : Nat) (st1 : gSt) (x : Int32) (y : Int32) (r : Nat) : Int32 × gSt := (let s1 := (f_rm st1 r y); let s2 := (f_append s1 (w + 3) y); let s3 := gsu s2 (f_tk P y) 2 (1 : Int32); if x = a then ((1 : Int32), s3) else if x = (-1 : Int32) then ((1 : Int32), s3) else (let s6 := gsu s3 w 4 ((s3 w 4) + (1 : Int32)); ((0 : Int32), s6)))
def f_X1_take (st : gSt) (P : Nat) (a : Int32) (w : Nat) : Int32 × gSt := (let x7 := (f_X1_sourceFor st P a); if x7 = (-2 : Int32) then (let s11 := gsu st w 3 ((st w 3) + (1 : Int32)); ((0 : Int32), s11)) else (let i9 := (f_row P x7); if x7 = a then f_X1_take_J50 P a w st x7 (f_last st i9) i9 else f_X1_take_J50 P a w st x7 (f_at st i9 (0 : Int32)) i9))
def f_X1_work (st : gSt) (P : Nat) (a : Int32) (t : Nat) (n0 : Int32) : Int32 × gSt := (let i1 := (f_wk P a); let s2 := gsu st i1 2 ((st i1 2) + (1 : Int32)); let s3 := (f_X5_noteRan s2 i1 (s2 P 11) (s2 t 0)); let s4 := gsu s3 t 9 ((s3 t 9) + (1 : Int32)); let s5 := gsu s4 t 8 ((s4 t 8) + (1 : Int32)); if (s5 t 8) < n0 then ((0 : Int32), s5) else ((1 : Int32), s5))
def f_X1_advance (st : gSt) (P : Nat) (t : Nat) (n0 : Int32) : gSt := (let s1 := gsu st t 3 (if n0 < ((st t 3) + (1 : Int32)) then n0 else ((st t 3) + (1 : Int32))); let s2 := gsu s1 t 8 (0 : Int32); if (s2 t 3) = n0 then (let s4 := (f_X1_end s2 P t (4 : Int32)); s4) else s2)
def f_X1_fork (st : gSt) (P : Nat) (a : Int32) (t : Nat) (b : Int32) : gSt := if (st P 3) < (24 : Int32) then (let q2 := (f_X1_newTask st P b (st t 0)); let i3 := q2.1; let s4 := gsu q2.2 t 6 ((q2.2 t 6) ||| ((1 : Int32) <<< ((q2.2 i3 0) &&& 31))); let s5 := (f_append s4 (f_row P a) (s4 i3 0)); s5) else st
def f_X1_await (st : gSt) (P : Nat) (a : Int32) (t : Nat) (b : Int32) : Int32 × gSt := (let x1 := (f_prom st P b); if x1 = (-1000000 : Int32) then (let s4 := (f_X1_block st P a t (3 : Int32)); ((0 : Int32), s4)) else (let s3 := (f_X4_addValue st t x1); ((1 : Int32), s3)))
def f_X1_join_L1 (P : Nat) (a : Int32) (t : Nat) (b : Int32) : Nat → gSt → Int32 → Int32 → Int32 × gSt
  | 0, st1, _, _ => (0, st1)
  | n + 1, st1, mo, x => if mo ≤ x then ((1 : Int32), st1) else if (st1 t 6) = 0 then ((1 : Int32), st1) else (let i3 := (f_tk P (f_X4_lastChild st1 t)); if (f_isO st1 i3) = 0 then (let s14 := (f_X1_block st1 P a t (2 : Int32)); ((0 : Int32), s14)) else (let s5 := gsu st1 t 6 ((st1 t 6) &&& (((1 : Int32) <<< ((st1 i3 0) &&& 31)) ^^^ (-1 : Int32))); if (s5 i3 2) = (4 : Int32) then (let s12 := (f_X4_addValue s5 t (s5 i3 4)); let x13 := (x + 1); f_X1_join_L1 P a t b n s12 mo x13) else if (s5 i3 2) = (5 : Int32) then if b = (4 : Int32) then (let x10 := (x + 1); f_X1_join_L1 P a t b n s5 mo x10) else (let s11 := (f_X1_end s5 P t (5 : Int32)); ((0 : Int32), s11)) else (let x8 := (x + 1); f_X1_join_L1 P a t b n s5 mo x8)))
def f_X1_join_J11 (P : Nat) (a : Int32) (t : Nat) (b : Int32) (st1 : gSt) (mo : Int32) : Int32 × gSt := f_X1_join_L1 P a t b ((mo.toInt - (0 : Int32).toInt).toNat + 1) st1 mo (0 : Int32)
def f_X1_join (st : gSt) (P : Nat) (a : Int32) (t : Nat) (b : Int32) : Int32 × gSt := if b = (3 : Int32) then f_X1_join_J11 P a t b st (24 : Int32)  else f_X1_join_J11 P a t b st (1 : Int32) 
def f_X1_cancelBelow_L2 (P : Nat) (t : Nat) : Nat → gSt → Int32 → Int32 → Int32 → Int32 × gSt
  | 0, st1, _, _, _ => (0, st1)
  | n + 1, st1, f, y, x => if x ≤ (st1 t 0) then (y, st1) else if (f_X1_isIn st1 f x) = 0 then (let x7 := (x + (-1)); f_X1_cancelBelow_L2 P t n st1 f y x7) else (let s8 := (f_X1_end st1 P (f_tk P x) (6 : Int32)); let x9 := (y + 1); let x10 := (x + (-1)); f_X1_cancelBelow_L2 P t n s8 f x9 x10)
def f_X1_cancelBelow_L1 (P : Nat) (t : Nat) : Nat → gSt → Int32 → Int32 → Int32 × gSt
  | 0, st1, _, _ => (0, st1)
  | n + 1, st1, f, x => if (st1 P 3) ≤ x then (let x4 := ((st1 P 3) - (1 : Int32)); f_X1_cancelBelow_L2 P t (((x4).toInt - (st1 t 0).toInt).toNat + 1) st1 f (0 : Int32) x4) else (let i11 := (f_tk P x); if (f_X1_isIn st1 f (st1 i11 5)) = 0 then (let x13 := (x + 1); f_X1_cancelBelow_L1 P t n st1 f x13) else if (f_isO st1 i11) = 0 then (let x16 := (f ||| ((1 : Int32) <<< (x &&& 31))); let x17 := (x + 1); f_X1_cancelBelow_L1 P t n st1 x16 x17) else (let x15 := (x + 1); f_X1_cancelBelow_L1 P t n st1 f x15))
def f_X1_cancelBelow (st : gSt) (P : Nat) (t : Nat) : Int32 × gSt := (let x1 := ((1 : Int32) <<< ((st t 0) &&& 31)); let x2 := ((st t 0) + (1 : Int32)); f_X1_cancelBelow_L1 P t (((st P 3).toInt - (x2).toInt).toNat + 1) st x1 x2)
def f_X1_keepPromise_L1 (P : Nat) (a : Int32) (b : Int32) : Nat → gSt → Int32 → Int32 × gSt
  | 0, st1, _ => (0, st1)
  | n + 1, st1, x => if (st1 P 3) ≤ x then ((1 : Int32), st1) else (let i6 := (f_tk P x); let i7 := (f_sc (st1 i6 1)); if (st1 i6 2) = (3 : Int32) then if (f_numberAt st1 i7 (st1 i6 3)) = a then (let s12 := (f_X1_free st1 P i6); let x13 := (x + 1); f_X1_keepPromise_L1 P a b n s12 x13) else (let x11 := (x + 1); f_X1_keepPromise_L1 P a b n st1 x11) else (let x9 := (x + 1); f_X1_keepPromise_L1 P a b n st1 x9))
def f_X1_keepPromise (st : gSt) (P : Nat) (a : Int32) (b : Int32) : Int32 × gSt := if a < (0 : Int32) then ((0 : Int32), st) else if (6 : Int32) ≤ a then ((0 : Int32), st) else if (st (P + 12) a.toNatClampNeg) = (-1000000 : Int32) then (let s4 := gsu st (P + 12) a.toNatClampNeg b; f_X1_keepPromise_L1 P a b (((s4 P 3).toInt - (0 : Int32).toInt).toNat + 1) s4 (0 : Int32)) else ((0 : Int32), st)
def f_X1_goOn_J202 (P : Nat) (a : Int32) (t : Nat) (st1 : gSt) (co : Int32) (nn : Int32) (be : Int32) (sc : Nat) : Int32 × gSt := if be = 0 then if co = 0 then ((0 : Int32), st1) else ((1 : Int32), st1) else (let s3 := (f_X1_advance st1 P t (st1 sc 2)); if co = 0 then ((0 : Int32), s3) else ((1 : Int32), s3))
def f_X1_goOn_J35 (P : Nat) (a : Int32) (t : Nat) (st1 : gSt) (co : Int32) (sc : Nat) : Int32 × gSt := (let x5 := (f_numberAt st1 sc (st1 t 3)); if co = (0 : Int32) then (let q7 := (f_X1_work st1 P a t x5); let x8 := q7.1; f_X1_goOn_J202 P a t q7.2 co x5 x8 sc) else if co = (1 : Int32) then (let s10 := (f_X1_fork st1 P a t x5); f_X1_goOn_J202 P a t s10 co x5 (1 : Int32) sc) else if co = (2 : Int32) then (let q12 := (f_X1_join st1 P a t co); let x13 := q12.1; f_X1_goOn_J202 P a t q12.2 co x5 x13 sc) else if co = (3 : Int32) then (let q15 := (f_X1_join st1 P a t co); let x16 := q15.1; f_X1_goOn_J202 P a t q15.2 co x5 x16 sc) else if co = (4 : Int32) then (let q18 := (f_X1_join st1 P a t co); let x19 := q18.1; f_X1_goOn_J202 P a t q18.2 co x5 x19 sc) else if co = (5 : Int32) then (let s21 := (f_X4_addValue st1 t x5); f_X1_goOn_J202 P a t s21 co x5 (1 : Int32) sc) else if co = (6 : Int32) then (let s23 := (f_X1_end st1 P t (5 : Int32)); f_X1_goOn_J202 P a t s23 co x5 (0 : Int32) sc) else if co = (7 : Int32) then (let q25 := (f_X1_cancelBelow st1 P t); f_X1_goOn_J202 P a t q25.2 co x5 (1 : Int32) sc) else if co = (8 : Int32) then (let q27 := (f_X1_await st1 P a t x5); let x28 := q27.1; f_X1_goOn_J202 P a t q27.2 co x5 x28 sc) else if co = (9 : Int32) then (let q30 := (f_X1_keepPromise st1 P x5 (st1 t 4)); f_X1_goOn_J202 P a t q30.2 co x5 (1 : Int32) sc) else f_X1_goOn_J202 P a t st1 co x5 (1 : Int32) sc)
def f_X1_goOn (st : gSt) (P : Nat) (a : Int32) (t : Nat) : Int32 × gSt := (let i31 := (f_sc (st t 1)); if (st i31 2) ≤ (st t 3) then f_X1_goOn_J35 P a t st (-1 : Int32) i31 else f_X1_goOn_J35 P a t st (f_codeAt st i31 (st t 3)) i31)
def f_X1_act (st : gSt) (P : Nat) (a : Int32) : Int32 × gSt := (let i1 := (f_wk P a); if (f_X1_wantsTask st P i1) = 0 then (let i3 := (f_tk P (f_last st (i1 + 3))); if (f_isB st i3) = 0 then (let q5 := (f_X1_goOn st P a i3); (q5.1, q5.2)) else (let s6 := gsu st i1 3 ((st i1 3) + (1 : Int32)); ((0 : Int32), s6))) else (let q7 := (f_X1_take st P a i1); (q7.1, q7.2)))
def f_X1_passTick_L2 (P : Nat) (K : gSt → Int32 → gSt) (x : Int32) : Nat → gSt → Int32 → Int32 → gSt
  | 0, st1, _, _ => st1
  | n + 1, st1, b, y => if (1000000 : Int32) ≤ y then (let x5 := (x + 1); K st1 x5) else if b = 0 then (let x7 := (x + 1); K st1 x7) else (let q8 := (f_X1_act st1 P x); let x9 := q8.1; let x10 := (y + 1); f_X1_passTick_L2 P K x n q8.2 x9 x10)
def f_X1_passTick_L1 (P : Nat) : Nat → gSt → Int32 → gSt
  | 0, so, _ => so
  | n + 1, so, x => if (so P 6) ≤ x then (let s2 := gsu so P 11 ((so P 11) + (1 : Int32)); s2) else (let s3 := (f_X5_noteRan so (f_wk P x) (so P 11) (-1 : Int32)); f_X1_passTick_L2 P (f_X1_passTick_L1 P n) x 1000001 s3 (1 : Int32) (0 : Int32))
def f_X1_passTick (st : gSt) (P : Nat) : gSt := f_X1_passTick_L1 P (((st P 6).toInt - (0 : Int32).toInt).toNat + 1) st (0 : Int32)
def f_X1_clear (st : gSt) (P : Nat) : gSt := (let s1 := gsu st P 3 (0 : Int32); let s2 := gsu s1 P 6 (0 : Int32); let s3 := (f_X1_changeWorkerCount s2 P (1 : Int32)); let s4 := (gsu s3 (P + 10) 1 0); let s5 := (f_J7_fill_53178_13 s4 (P + 12) (-1000000 : Int32)); let s6 := gsu s5 P 9 (0 : Int32); let s7 := gsu s6 P 10 (0 : Int32); let s8 := gsu s7 P 11 (0 : Int32); s8)
def f_X1_copyFrom_L3 (P : Nat) (O : Nat) : Nat → gSt → Int32 → gSt
  | 0, st1, _ => st1
  | n + 1, st1, z => if (6 : Int32) ≤ z then (let s7 := gsu st1 P 9 (st1 O 9); let s8 := gsu s7 P 10 (s7 O 10); let s9 := gsu s8 P 11 (s8 O 11); s9) else (let s10 := gsu st1 (P + 12) z.toNatClampNeg (st1 (O + 12) z.toNatClampNeg); let x11 := (z + 1); f_X1_copyFrom_L3 P O n s10 x11)
def f_X1_copyFrom_L2 (P : Nat) (O : Nat) : Nat → gSt → Int32 → gSt
  | 0, st1, _ => st1
  | n + 1, st1, y => if (5 : Int32) ≤ y then (let s5 := (f_rcopy st1 (P + 10) (O + 10)); f_X1_copyFrom_L3 P O 7 s5 (0 : Int32)) else (let s12 := (f_X5_copyFrom st1 ((P + 3) + 34 + 6 * y.toNatClampNeg) ((O + 3) + 34 + 6 * y.toNatClampNeg)); let x13 := (y + 1); f_X1_copyFrom_L2 P O n s12 x13)
def f_X1_copyFrom_L1 (P : Nat) (O : Nat) : Nat → gSt → Int32 → gSt
  | 0, st1, _ => st1
  | n + 1, st1, x => if (24 : Int32) ≤ x then (let s3 := gsu st1 P 6 (st1 O 6); f_X1_copyFrom_L2 P O 6 s3 (0 : Int32)) else (let s14 := (f_tcopy st1 ((P + 1) + 12 + x.toNatClampNeg) ((O + 1) + 12 + x.toNatClampNeg)); let x15 := (x + 1); f_X1_copyFrom_L1 P O n s14 x15)
def f_X1_copyFrom (st : gSt) (P : Nat) (O : Nat) : gSt := (let s1 := gsu st P 3 (st O 3); f_X1_copyFrom_L1 P O 25 s1 (0 : Int32))
def f_X6_isJob (st : gSt) (job : Int32) : Int32 := if job < (0 : Int32) then (0 : Int32) else if (st 1 2) ≤ job then (0 : Int32) else (1 : Int32)
def f_X6_isPromise (st : gSt) (pr : Int32) : Int32 := if pr < (0 : Int32) then (0 : Int32) else if (6 : Int32) ≤ pr then (0 : Int32) else (1 : Int32)
def f_X6_isStep (st : gSt) (code0 : Int32) (n0 : Int32) : Int32 := if code0 = (0 : Int32) then if n0 < (1 : Int32) then (0 : Int32) else if (20 : Int32) < n0 then (0 : Int32) else (1 : Int32) else if code0 = (1 : Int32) then (f_X6_isJob st n0) else if code0 = (2 : Int32) then if code0 < (0 : Int32) then (0 : Int32) else if (9 : Int32) < code0 then (0 : Int32) else (1 : Int32) else if code0 = (3 : Int32) then if code0 < (0 : Int32) then (0 : Int32) else if (9 : Int32) < code0 then (0 : Int32) else (1 : Int32) else if code0 = (4 : Int32) then if code0 < (0 : Int32) then (0 : Int32) else if (9 : Int32) < code0 then (0 : Int32) else (1 : Int32) else if code0 = (5 : Int32) then if n0 < (-100 : Int32) then (0 : Int32) else if (100 : Int32) < n0 then (0 : Int32) else (1 : Int32) else if code0 = (6 : Int32) then if code0 < (0 : Int32) then (0 : Int32) else if (9 : Int32) < code0 then (0 : Int32) else (1 : Int32) else if code0 = (7 : Int32) then if code0 < (0 : Int32) then (0 : Int32) else if (9 : Int32) < code0 then (0 : Int32) else (1 : Int32) else if code0 = (8 : Int32) then (f_X6_isPromise st n0) else if code0 = (9 : Int32) then (f_X6_isPromise st n0) else if code0 < (0 : Int32) then (0 : Int32) else if (9 : Int32) < code0 then (0 : Int32) else (1 : Int32)
def f_X6_clock (st : gSt)  : Int32 := (st 30 11)
def f_X6_tasks (st : gSt)  : Int32 := (st 30 3)
def f_X6_workers (st : gSt)  : Int32 := (st 30 6)
def f_X6_stateOf (st : gSt) (tk0 : Int32) : Int32 := (st (f_tk 30 tk0) 2)
def f_X6_valueOf (st : gSt) (tk0 : Int32) : Int32 := (st (f_tk 30 tk0) 4)
def f_X6_stepOf (st : gSt) (tk0 : Int32) : Int32 := (st (f_tk 30 tk0) 3)
def f_X6_parentOf (st : gSt) (tk0 : Int32) : Int32 := (st (f_tk 30 tk0) 5)
def f_X6_childrenOf (st : gSt) (tk0 : Int32) : Int32 := (st (f_tk 30 tk0) 6)
def f_X6_workOf (st : gSt) (tk0 : Int32) : Int32 := (f_X1_sumWork st 30 tk0)
def f_X6_overAt (st : gSt) (tk0 : Int32) : Int32 := (st (f_tk 30 tk0) 7)
def f_X6_promise (st : gSt) (pr : Int32) : Int32 := (f_prom st 30 pr)
def f_X6_top (st : gSt) (wk0 : Int32) : Int32 := (f_last st ((f_wk 30 wk0) + 3))
def f_X6_stack (st : gSt) (wk0 : Int32) : Int32 := (st ((f_wk 30 wk0) + 3) 1)
def f_X6_row (st : gSt) (wk0 : Int32) : Int32 := (st (f_row 30 wk0) 1)
def f_X6_inRow (st : gSt) (wk0 : Int32) (pl : Int32) : Int32 := (let i1 := (f_row 30 wk0); if pl < (0 : Int32) then 0 else if pl < (st i1 1) then (f_at st i1 pl) else 0)
def f_X6_told (st : gSt) (wk0 : Int32) (wt : Int32) : Int32 := if wt < (0 : Int32) then 0 else if wt ≤ (2 : Int32) then (let i3 := (f_wk 30 wk0); if wt = 0 then (st i3 2) else if wt = (1 : Int32) then (st i3 3) else (st i3 4)) else 0
def f_X6_ran (st : gSt) (wk0 : Int32) (bk : Int32) : Int32 := if bk < (1 : Int32) then 0 else if bk ≤ (20 : Int32) then if bk ≤ (st 30 11) then (f_X5_ranIn st (f_wk 30 wk0) ((st 30 11) - bk)) else (-2 : Int32) else 0
def f_X6_halted (st : gSt)  : Int32 := if (f_X1_isHalted st 30) = 0 then (0 : Int32) else if (f_X1_hasTaskIn st 30 (3 : Int32)) = 0 then if (f_X1_hasTaskIn st 30 (0 : Int32)) = 0 then (((4 : Int32) + (0 : Int32)) + (0 : Int32)) else (((4 : Int32) + (0 : Int32)) + (2 : Int32)) else if (f_X1_hasTaskIn st 30 (0 : Int32)) = 0 then (((4 : Int32) + (1 : Int32)) + (0 : Int32)) else (((4 : Int32) + (1 : Int32)) + (2 : Int32))
def f_X1_needsWorkerFrom_L2 (P : Nat) (a : Int32) : Nat → gSt → Int32 → Int32
  | 0, _, _ => 0
  | n + 1, st1, x => if (st1 P 3) ≤ x then (0 : Int32) else (let i3 := (f_tk P x); if (f_isB st1 i3) = 0 then (let x5 := (x + 1); f_X1_needsWorkerFrom_L2 P a n st1 x5) else if (st1 i3 10) < a then (let x7 := (x + 1); f_X1_needsWorkerFrom_L2 P a n st1 x7) else (1 : Int32))
def f_X1_needsWorkerFrom_L1 (P : Nat) (a : Int32) : Nat → gSt → Int32 → Int32
  | 0, _, _ => 0
  | n + 1, st1, x => if (st1 P 6) ≤ x then f_X1_needsWorkerFrom_L2 P a (((st1 P 3).toInt - (0 : Int32).toInt).toNat + 1) st1 (0 : Int32) else (let i8 := (f_wk P x); if (0 : Int32) < (st1 (i8 + 1) 1) then (1 : Int32) else if (st1 (i8 + 3) 1) ≤ (0 : Int32) then (let x11 := (x + 1); f_X1_needsWorkerFrom_L1 P a n st1 x11) else (1 : Int32))
def f_X1_needsWorkerFrom (st : gSt) (P : Nat) (a : Int32) : Int32 := f_X1_needsWorkerFrom_L1 P a (((st P 6).toInt - a.toInt).toNat + 1) st a
def f_X6_addJob (st : gSt)  : Int32 × gSt := if (st 1 2) < (8 : Int32) then (let q2 := (st 1 2, gsu st 1 2 (st 1 2 + 1)); (q2.1, q2.2)) else (0, st)
def f_X6_addStep (st : gSt) (job : Int32) (cd : Int32) (n0 : Int32) : Int32 × gSt := if (f_X6_isStep st cd n0) = 0 then (0, st) else (let i2 := (f_sc job); if (st i2 2) < (12 : Int32) then if (f_X1_hasTaskOf st 30 job) = 0 then (let s5 := (f_sapp st i2 cd n0); ((s5 i2 2), s5)) else (0, st) else (0, st))
def f_X6_setWorkers (st : gSt) (nw : Int32) : Int32 × gSt := if (f_X1_needsWorkerFrom st 30 nw) = 0 then (let x2 := (st 30 6); let s3 := (f_X1_changeWorkerCount st 30 nw); (x2, s3)) else (0, st)
def f_X6_setWay (st : gSt) (wy : Int32) (th : Int32) : Int32 × gSt := if th < (0 : Int32) then (0, st) else if th ≤ (2 : Int32) then if wy = (st 30 9) then (let x4 := (st 30 9); let s5 := gsu st 30 9 wy; let s6 := gsu s5 30 10 th; (x4, s6)) else if (f_X1_hasStackedTask st 30) = 0 then (let x8 := (st 30 9); let s9 := gsu st 30 9 wy; let s10 := gsu s9 30 10 th; (x8, s10)) else (0, st) else (0, st)
def f_X6_submit (st : gSt) (job : Int32) : Int32 × gSt := if (st 30 3) < (24 : Int32) then (let q2 := (f_X1_askFor st 30 job); (q2.1, q2.2)) else (0, st)
def f_X6_cancel (st : gSt) (tk0 : Int32) : Int32 × gSt := (let i1 := (f_tk 30 tk0); if (f_isO st i1) = 0 then (let q3 := (f_X1_cancelBelow st 30 i1); let x4 := q3.1; let s5 := (f_X1_end q3.2 30 i1 (6 : Int32)); ((x4 + (1 : Int32)), s5)) else (0, st))
def f_X6_keep (st : gSt) (pr : Int32) (n0 : Int32) : Int32 × gSt := if n0 < (-999 : Int32) then (0, st) else if n0 ≤ (999 : Int32) then (let q3 := (f_X1_keepPromise st 30 pr n0); (q3.1, q3.2)) else (0, st)
def f_X6_tick_L1 (ta : Int32) : Nat → gSt → Int32 → Int32 × gSt
  | 0, st1, _ => (0, st1)
  | n + 1, st1, x => if ta ≤ x then ((f_X1_countUnfinished st1 30), st1) else (let s4 := (f_X1_passTick st1 30); let x5 := (x + 1); f_X6_tick_L1 ta n s4 x5)
def f_X6_tick (st : gSt) (ta : Int32) : Int32 × gSt := if ta < (1 : Int32) then (0, st) else if ta ≤ (40 : Int32) then f_X6_tick_L1 ta ((ta.toInt - (0 : Int32).toInt).toNat + 1) st (0 : Int32) else (0, st)
def f_X6_overIn_L1 (tk0 : Int32) (ta : Int32) : Nat → gSt → Int32 → Int32 × gSt
  | 0, st1, _ => (0, st1)
  | n + 1, st1, x => if ta ≤ x then if (f_isO st1 (f_tk 97 tk0)) = 0 then ((-1 : Int32), st1) else (((st1 97 11) - (st1 30 11)), st1) else if (f_isO st1 (f_tk 97 tk0)) = 0 then (let s6 := (f_X1_passTick st1 97); let x7 := (x + 1); f_X6_overIn_L1 tk0 ta n s6 x7) else if (f_isO st1 (f_tk 97 tk0)) = 0 then ((-1 : Int32), st1) else (((st1 97 11) - (st1 30 11)), st1)
def f_X6_overIn (st : gSt) (tk0 : Int32) (ta : Int32) : Int32 × gSt := (let s1 := (f_X1_copyFrom st 97 30); f_X6_overIn_L1 tk0 ta ((ta.toInt - (0 : Int32).toInt).toNat + 1) s1 (0 : Int32))
def f_X6_valueIn_L1 (tk0 : Int32) (ta : Int32) : Nat → gSt → Int32 → Int32 × gSt
  | 0, st1, _ => (0, st1)
  | n + 1, st1, x => if ta ≤ x then ((st1 (f_tk 97 tk0) 4), st1) else (let s3 := (f_X1_passTick st1 97); let x4 := (x + 1); f_X6_valueIn_L1 tk0 ta n s3 x4)
def f_X6_valueIn (st : gSt) (tk0 : Int32) (ta : Int32) : Int32 × gSt := (let s1 := (f_X1_copyFrom st 97 30); f_X6_valueIn_L1 tk0 ta ((ta.toInt - (0 : Int32).toInt).toNat + 1) s1 (0 : Int32))
def f_X6_haltsIn_L1 (ta : Int32) : Nat → gSt → Int32 → Int32 × gSt
  | 0, st1, _ => (0, st1)
  | n + 1, st1, x => if ta ≤ x then if (f_X1_isHalted st1 97) = 0 then ((-1 : Int32), st1) else (((st1 97 11) - (st1 30 11)), st1) else if (f_X1_isHalted st1 97) = 0 then (let s6 := (f_X1_passTick st1 97); let x7 := (x + 1); f_X6_haltsIn_L1 ta n s6 x7) else if (f_X1_isHalted st1 97) = 0 then ((-1 : Int32), st1) else (((st1 97 11) - (st1 30 11)), st1)
def f_X6_haltsIn (st : gSt) (ta : Int32) : Int32 × gSt := (let s1 := (f_X1_copyFrom st 97 30); f_X6_haltsIn_L1 ta ((ta.toInt - (0 : Int32).toInt).toNat + 1) s1 (0 : Int32))
def f_X6_withTask (st : gSt) (d0 : Int64) (tk0 : Int32) : Int64 := (let d1 := ((d0 * (31 : Int64)) + ((f_X6_stateOf st tk0)).toInt64); let d2 := ((d1 * (31 : Int64)) + ((f_X6_valueOf st tk0)).toInt64); let d3 := ((d2 * (31 : Int64)) + ((f_X6_stepOf st tk0)).toInt64); let d4 := ((d3 * (31 : Int64)) + ((f_X6_parentOf st tk0)).toInt64); let d5 := ((d4 * (31 : Int64)) + ((f_X6_childrenOf st tk0)).toInt64); let d6 := ((d5 * (31 : Int64)) + ((f_X6_workOf st tk0)).toInt64); ((d6 * (31 : Int64)) + ((f_X6_overAt st tk0)).toInt64))
def f_X6_withRow_L1 (d0 : Int64) (wk0 : Int32) : Nat → gSt → Int32 → Int64 → Int32 → Int64
  | 0, _, _, _, _ => 0
  | n + 1, st1, sz, da, x => if sz ≤ x then da else (let d4 := ((da * (31 : Int64)) + ((f_X6_inRow st1 wk0 x)).toInt64); let x5 := (x + 1); f_X6_withRow_L1 d0 wk0 n st1 sz d4 x5)
def f_X6_withRow (st : gSt) (d0 : Int64) (wk0 : Int32) : Int64 := (let x1 := (f_X6_row st wk0); let d2 := ((d0 * (31 : Int64)) + (x1).toInt64); f_X6_withRow_L1 d0 wk0 ((x1.toInt - (0 : Int32).toInt).toNat + 1) st x1 d2 (0 : Int32))
def f_X6_withWorker_L2 (d0 : Int64) (wk0 : Int32) : Nat → gSt → Int64 → Int32 → Int64
  | 0, _, _, _ => 0
  | n + 1, st1, db, y => if (3 : Int32) < y then db else (let d5 := ((db * (31 : Int64)) + ((f_X6_ran st1 wk0 y)).toInt64); let x6 := (y + 1); f_X6_withWorker_L2 d0 wk0 n st1 d5 x6)
def f_X6_withWorker_L1 (d0 : Int64) (wk0 : Int32) : Nat → gSt → Int64 → Int32 → Int64
  | 0, _, _, _ => 0
  | n + 1, st1, da, x => if (2 : Int32) < x then f_X6_withWorker_L2 d0 wk0 5 st1 da (1 : Int32) else (let d7 := ((da * (31 : Int64)) + ((f_X6_told st1 wk0 x)).toInt64); let x8 := (x + 1); f_X6_withWorker_L1 d0 wk0 n st1 d7 x8)
def f_X6_withWorker (st : gSt) (d0 : Int64) (wk0 : Int32) : Int64 := (let d1 := ((d0 * (31 : Int64)) + ((f_X6_top st wk0)).toInt64); let d2 := ((d1 * (31 : Int64)) + ((f_X6_stack st wk0)).toInt64); f_X6_withWorker_L1 d0 wk0 4 st d2 (0 : Int32))
def f_X6_digest_L4  : Nat → gSt → Int64 → Int32 → Int64
  | 0, _, _, _ => 0
  | n + 1, st1, de, v => if (st1 30 6) ≤ v then de else (let d9 := (f_X6_withWorker st1 de v); let x10 := (v + 1); f_X6_digest_L4  n st1 d9 x10)
def f_X6_digest_L3  : Nat → gSt → Int64 → Int32 → Int64
  | 0, _, _, _ => 0
  | n + 1, st1, dc, z => if (st1 30 6) ≤ z then f_X6_digest_L4  (((st1 30 6).toInt - (0 : Int32).toInt).toNat + 1) st1 dc (0 : Int32) else (let d11 := (f_X6_withRow st1 dc z); let x12 := (z + 1); f_X6_digest_L3  n st1 d11 x12)
def f_X6_digest_L2  : Nat → gSt → Int64 → Int32 → Int64
  | 0, _, _, _ => 0
  | n + 1, st1, db, y => if (6 : Int32) ≤ y then f_X6_digest_L3  (((st1 30 6).toInt - (-1 : Int32).toInt).toNat + 1) st1 db (-1 : Int32) else (let d13 := ((db * (31 : Int64)) + ((f_X6_promise st1 y)).toInt64); let x14 := (y + 1); f_X6_digest_L2  n st1 d13 x14)
def f_X6_digest_L1  : Nat → gSt → Int64 → Int32 → Int64
  | 0, _, _, _ => 0
  | n + 1, st1, da, x => if (st1 30 3) ≤ x then f_X6_digest_L2  (((6 : Int32).toInt - (0 : Int32).toInt).toNat + 1) st1 da (0 : Int32) else (let d15 := (f_X6_withTask st1 da x); let x16 := (x + 1); f_X6_digest_L1  n st1 d15 x16)
def f_X6_digest (st : gSt)  : Int64 := (let d1 := (((58063 : Int64) * (31 : Int64)) + ((f_X6_clock st )).toInt64); let d2 := ((d1 * (31 : Int64)) + ((f_X6_tasks st )).toInt64); let d3 := ((d2 * (31 : Int64)) + ((f_X6_workers st )).toInt64); let d4 := ((d3 * (31 : Int64)) + ((f_X6_halted st )).toInt64); f_X6_digest_L1  (((st 30 3).toInt - (0 : Int32).toInt).toNat + 1) st d4 (0 : Int32))
end
section
/-! A POOL AS IT IS SEEN. gv B P st: at B what st has at P, and the book; nothing else. Each function at P, seen, is the function at B of what is seen. -/
def gv (B P : Nat) (st : gSt) : gSt := fun i k => if i < 30 then st i k else if B ≤ i ∧ i < B + 67 then st (i - B + P) k else 0
def gw {α : Type} (B P : Nat) (q : α × gSt) : α × gSt := (q.1, gv B P q.2)
def gu (B P : Nat) (q : gSt × Nat) : gSt × Nat := (gv B P q.1, q.2)
theorem gw_mk {α : Type} {B P : Nat} {a : α} {s : gSt} : gw B P (a, s) = (a, gv B P s) := rfl
theorem gw_1 {α : Type} {B P : Nat} {q : α × gSt} : (gw B P q).1 = q.1 := rfl
theorem gw_2 {α : Type} {B P : Nat} {q : α × gSt} : (gw B P q).2 = gv B P q.2 := rfl
theorem gu_mk {B P : Nat} {a : Nat} {s : gSt} : gu B P (s, a) = (gv B P s, a) := rfl
theorem gu_1 {B P : Nat} {q : gSt × Nat} : (gu B P q).1 = gv B P q.1 := rfl
theorem gu_2 {B P : Nat} {q : gSt × Nat} : (gu B P q).2 = q.2 := rfl
theorem gv_ite {B P : Nat} {c : Prop} [Decidable c] {a b : gSt} : gv B P (if c then a else b) = if c then gv B P a else gv B P b := by split <;> rfl
theorem gw_ite {α : Type} {B P : Nat} {c : Prop} [Decidable c] {a b : α × gSt} : gw B P (if c then a else b) = if c then gw B P a else gw B P b := by split <;> rfl
theorem gu_ite {B P : Nat} {c : Prop} [Decidable c] {a b : gSt × Nat} : gu B P (if c then a else b) = if c then gu B P a else gu B P b := by split <;> rfl
theorem gv_lo {B P i k : Nat} {st : gSt} (h : i < 30) : gv B P st i k = st i k := by unfold gv; rw [if_pos h]
theorem gv_at {B P c k : Nat} {st : gSt} (hB : 30 ≤ B) (h : c < 67) : gv B P st (B + c) k = st (P + c) k := by
  unfold gv
  rw [if_neg (by omega), if_pos (by omega)]
  rw [show B + c - B + P = P + c by omega]
theorem gv_at0 {B P k : Nat} {st : gSt} (hB : 30 ≤ B) : gv B P st B k = st P k := gv_at (c := 0) hB (by omega)
theorem gv_su {B P c k : Nat} {v : Int32} {st : gSt} (hB : 30 ≤ B) (hP : 30 ≤ P) (h : c < 67) : gsu (gv B P st) (B + c) k v = gv B P (gsu st (P + c) k v) := by
  funext i j
  rw [gsu_eq]
  unfold gv
  by_cases h1 : i < 30
  · rw [if_pos h1, if_pos h1, if_neg (by omega), gsu_eq, if_neg (by omega)]
  · rw [if_neg h1, if_neg h1]
    by_cases h2 : B ≤ i ∧ i < B + 67
    · rw [if_pos h2, if_pos h2, gsu_eq]
      by_cases h3 : i = B + c ∧ j = k
      · rw [if_pos h3, if_pos (by omega)]
      · rw [if_neg h3, if_neg (by omega)]
    · rw [if_neg h2, if_neg h2, if_neg (by omega)]
theorem gv_su0 {B P k : Nat} {v : Int32} {st : gSt} (hB : 30 ≤ B) (hP : 30 ≤ P) : gsu (gv B P st) B k v = gv B P (gsu st P k v) := gv_su (c := 0) hB hP (by omega)
/-! where tasks, workers, rows lie in a pool -/
def otk (x : Int32) : Nat := if x < 0 then 2 else if 24 ≤ x then 2 else 13 + x.toNatClampNeg
def owk (x : Int32) : Nat := if x < 0 then 4 else if 5 ≤ x then 4 else 37 + 6 * x.toNatClampNeg
def orw (x : Int32) : Nat := if x = -1 then 10 else owk x + 1
theorem otk_eq (P : Nat) (x : Int32) : f_tk P x = P + otk x := by
  unfold f_tk otk
  split
  · rfl
  · split
    · rfl
    · omega
theorem owk_eq (P : Nat) (x : Int32) : f_wk P x = P + owk x := by
  unfold f_wk owk
  split
  · rfl
  · split
    · rfl
    · omega
theorem orw_eq (P : Nat) (x : Int32) : f_row P x = P + orw x := by
  unfold f_row orw
  split
  · rfl
  · rw [owk_eq]; omega
theorem cl_lt {x M : Int32} {n : Nat} (h0 : ¬ x < 0) (h : ¬ M ≤ x) (hM : M.toInt = n) : x.toNatClampNeg < n := by
  have h1 : ¬ x.toInt < (0 : Int32).toInt := fun q => h0 (Int32.lt_iff_toInt_lt.mpr q)
  have h2 : ¬ M.toInt ≤ x.toInt := fun q => h (Int32.le_iff_toInt_le.mpr q)
  have h3 : (0 : Int32).toInt = 0 := rfl
  show x.toInt.toNat < n
  omega
theorem otk_lt (x : Int32) : otk x < 67 := by
  unfold otk
  split
  · omega
  · split
    · omega
    · rename_i c1 c2
      have := cl_lt (n := 24) c1 c2 rfl
      omega
theorem owk_5 (x : Int32) : owk x + 5 < 67 := by
  unfold owk
  split
  · omega
  · split
    · omega
    · rename_i c1 c2
      have := cl_lt (n := 5) c1 c2 rfl
      omega
theorem owk_0 (x : Int32) : owk x < 67 := by have := owk_5 x; omega
theorem owk_1 (x : Int32) : owk x + 1 < 67 := by have := owk_5 x; omega
theorem owk_2 (x : Int32) : owk x + 2 < 67 := by have := owk_5 x; omega
theorem owk_3 (x : Int32) : owk x + 3 < 67 := by have := owk_5 x; omega
theorem owk_4 (x : Int32) : owk x + 4 < 67 := by have := owk_5 x; omega
theorem orw_1 (x : Int32) : orw x + 1 < 67 := by
  unfold orw
  split
  · omega
  · have := owk_5 x; omega
theorem orw_0 (x : Int32) : orw x < 67 := by have := orw_1 x; omega
theorem fsc_2 (x : Int32) : f_sc x + 2 < 30 := by
  unfold f_sc
  split
  · omega
  · split
    · omega
    · rename_i c1 c2
      have := cl_lt (n := 8) c1 c2 rfl
      omega
theorem fsc_1 (x : Int32) : f_sc x + 1 < 30 := by have := fsc_2 x; omega
theorem fsc_0 (x : Int32) : f_sc x < 30 := by have := fsc_2 x; omega
theorem b67_10 : (10 : Nat) < 67 := by decide
theorem b67_11 : (11 : Nat) < 67 := by decide
theorem b67_12 : (12 : Nat) < 67 := by decide
section GV
variable {B P : Nat} {st : gSt} {c k : Nat} {a b x y z n0 : Int32}
theorem v_nlz : f_J6_numberOfLeadingZeros_0f7a4 (gv B P st) x = f_J6_numberOfLeadingZeros_0f7a4 st x := rfl
theorem v_mod : f_J9_floorMod_7cf53 (gv B P st) x y = f_J9_floorMod_7cf53 st x y := rfl
theorem v_isIn : f_X1_isIn (gv B P st) x y = f_X1_isIn st x y := rfl
theorem v_at (hB : 30 ≤ B) (hP : 30 ≤ P) (hc : c + 1 < 67) : f_at (gv B P st) (B + c) x = f_at st (P + c) x := by
  have hc0 : c < 67 := by omega
  simp only [f_at, gv_at hB, gv_at0 hB, gv_su hB hP, gv_su0 hB hP, gv_lo, otk_eq, owk_eq, orw_eq, otk_lt, owk_0, owk_1, owk_2, owk_3, owk_4, owk_5, orw_0, orw_1, fsc_0, fsc_1, fsc_2, b67_10, b67_11, b67_12, Nat.add_assoc, Nat.reduceAdd, gv_ite, gw_ite, gw_mk, gw_1, gw_2, v_nlz, v_mod, v_isIn, hc, hc0]
theorem v_at0 (hB : 30 ≤ B) (hP : 30 ≤ P) {x : Int32} {st : gSt} : f_at (gv B P st) (B + 10) x = f_at st (P + 10) x := v_at hB hP (by omega)
theorem v_last (hB : 30 ≤ B) (hP : 30 ≤ P) (hc : c + 1 < 67) : f_last (gv B P st) (B + c) = f_last st (P + c) := by
  have hc0 : c < 67 := by omega
  simp only [f_last, gv_at hB, gv_at0 hB, gv_su hB hP, gv_su0 hB hP, gv_lo, otk_eq, owk_eq, orw_eq, otk_lt, owk_0, owk_1, owk_2, owk_3, owk_4, owk_5, orw_0, orw_1, fsc_0, fsc_1, fsc_2, b67_10, b67_11, b67_12, Nat.add_assoc, Nat.reduceAdd, gv_ite, gw_ite, gw_mk, gw_1, gw_2, v_nlz, v_mod, v_isIn, v_at hB hP, hc, hc0]
theorem v_append (hB : 30 ≤ B) (hP : 30 ≤ P) (hc : c + 1 < 67) : f_append (gv B P st) (B + c) x = gv B P (f_append st (P + c) x) := by
  have hc0 : c < 67 := by omega
  simp only [f_append, gv_at hB, gv_at0 hB, gv_su hB hP, gv_su0 hB hP, gv_lo, otk_eq, owk_eq, orw_eq, otk_lt, owk_0, owk_1, owk_2, owk_3, owk_4, owk_5, orw_0, orw_1, fsc_0, fsc_1, fsc_2, b67_10, b67_11, b67_12, Nat.add_assoc, Nat.reduceAdd, gv_ite, gw_ite, gw_mk, gw_1, gw_2, v_nlz, v_mod, v_isIn, hc, hc0]
theorem v_code  (hk : k + 1 < 30) : f_codeAt (gv B P st) k x = f_codeAt st k x := by
  simp only [f_codeAt, gv_lo, otk_eq, owk_eq, orw_eq, otk_lt, owk_0, owk_1, owk_2, owk_3, owk_4, owk_5, orw_0, orw_1, fsc_0, fsc_1, fsc_2, b67_10, b67_11, b67_12, Nat.add_assoc, Nat.reduceAdd, gv_ite, gw_ite, gw_mk, gw_1, gw_2, v_nlz, v_mod, v_isIn, hk]
theorem v_num  (hk : k + 2 < 30) : f_numberAt (gv B P st) k x = f_numberAt st k x := by
  simp only [f_numberAt, gv_lo, otk_eq, owk_eq, orw_eq, otk_lt, owk_0, owk_1, owk_2, owk_3, owk_4, owk_5, orw_0, orw_1, fsc_0, fsc_1, fsc_2, b67_10, b67_11, b67_12, Nat.add_assoc, Nat.reduceAdd, gv_ite, gw_ite, gw_mk, gw_1, gw_2, v_nlz, v_mod, v_isIn, hk]
theorem v_begin (hB : 30 ≤ B) (hP : 30 ≤ P) (hc : c < 67) : f_begin (gv B P st) (B + c) a b = gv B P (f_begin st (P + c) a b) := by
  simp only [f_begin, gv_at hB, gv_at0 hB, gv_su hB hP, gv_su0 hB hP, gv_lo, otk_eq, owk_eq, orw_eq, otk_lt, owk_0, owk_1, owk_2, owk_3, owk_4, owk_5, orw_0, orw_1, fsc_0, fsc_1, fsc_2, b67_10, b67_11, b67_12, Nat.add_assoc, Nat.reduceAdd, gv_ite, gw_ite, gw_mk, gw_1, gw_2, v_nlz, v_mod, v_isIn, hc]
theorem v_isB (hB : 30 ≤ B) (hP : 30 ≤ P) (hc : c < 67) : f_isB (gv B P st) (B + c) = f_isB st (P + c) := by
  simp only [f_isB, gv_at hB, gv_at0 hB, gv_su hB hP, gv_su0 hB hP, gv_lo, otk_eq, owk_eq, orw_eq, otk_lt, owk_0, owk_1, owk_2, owk_3, owk_4, owk_5, orw_0, orw_1, fsc_0, fsc_1, fsc_2, b67_10, b67_11, b67_12, Nat.add_assoc, Nat.reduceAdd, gv_ite, gw_ite, gw_mk, gw_1, gw_2, v_nlz, v_mod, v_isIn, hc]
theorem v_isO (hB : 30 ≤ B) (hP : 30 ≤ P) (hc : c < 67) : f_isO (gv B P st) (B + c) = f_isO st (P + c) := by
  simp only [f_isO, gv_at hB, gv_at0 hB, gv_su hB hP, gv_su0 hB hP, gv_lo, otk_eq, owk_eq, orw_eq, otk_lt, owk_0, owk_1, owk_2, owk_3, owk_4, owk_5, orw_0, orw_1, fsc_0, fsc_1, fsc_2, b67_10, b67_11, b67_12, Nat.add_assoc, Nat.reduceAdd, gv_ite, gw_ite, gw_mk, gw_1, gw_2, v_nlz, v_mod, v_isIn, hc]
theorem v_prom (hB : 30 ≤ B) (hP : 30 ≤ P) : f_prom (gv B P st) B x = f_prom st P x := by
  simp only [f_prom, gv_at hB, gv_at0 hB, gv_su hB hP, gv_su0 hB hP, gv_lo, otk_eq, owk_eq, orw_eq, otk_lt, owk_0, owk_1, owk_2, owk_3, owk_4, owk_5, orw_0, orw_1, fsc_0, fsc_1, fsc_2, b67_10, b67_11, b67_12, Nat.add_assoc, Nat.reduceAdd, gv_ite, gw_ite, gw_mk, gw_1, gw_2, v_nlz, v_mod, v_isIn]
theorem v_gsz (hB : 30 ≤ B) (hP : 30 ≤ P) (hc : c < 67) : gsz (gv B P st) (B + c) = gsz st (P + c) := by
  simp only [gsz, gv_at hB, gv_at0 hB, gv_su hB hP, gv_su0 hB hP, gv_lo, otk_eq, owk_eq, orw_eq, otk_lt, owk_0, owk_1, owk_2, owk_3, owk_4, owk_5, orw_0, orw_1, fsc_0, fsc_1, fsc_2, b67_10, b67_11, b67_12, Nat.add_assoc, Nat.reduceAdd, gv_ite, gw_ite, gw_mk, gw_1, gw_2, v_nlz, v_mod, v_isIn, hc]
theorem v_has (hB : 30 ≤ B) (hP : 30 ≤ P) (hc : c + 1 < 67) : f_has (gv B P st) (B + c) x = f_has st (P + c) x := by
  have hc0 : c < 67 := by omega
  simp only [f_has, gv_at hB, gv_at0 hB, gv_su hB hP, gv_su0 hB hP, gv_lo, otk_eq, owk_eq, orw_eq, otk_lt, owk_0, owk_1, owk_2, owk_3, owk_4, owk_5, orw_0, orw_1, fsc_0, fsc_1, fsc_2, b67_10, b67_11, b67_12, Nat.add_assoc, Nat.reduceAdd, gv_ite, gw_ite, gw_mk, gw_1, gw_2, v_nlz, v_mod, v_isIn, v_gsz hB hP, hc, hc0]
theorem v_rml (hB : 30 ≤ B) (hP : 30 ≤ P) (hc : c + 1 < 67) : ∀ n, f_rml (gv B P st) (B + c) x n = gu B P (f_rml st (P + c) x n) := by
  intro n
  induction n with
  | zero => rfl
  | succ n ih =>
    have hc0 : c < 67 := by omega
    unfold f_rml
    rw [ih]
    simp only [gu_1, gu_2, gu_ite, gu_mk, Nat.add_assoc, gv_at hB, gv_su hB hP, hc, hc0]
theorem v_rm (hB : 30 ≤ B) (hP : 30 ≤ P) (hc : c + 1 < 67) : f_rm (gv B P st) (B + c) x = gv B P (f_rm st (P + c) x) := by
  have hc0 : c < 67 := by omega
  simp only [f_rm, gv_at hB, gv_at0 hB, gv_su hB hP, gv_su0 hB hP, gv_lo, otk_eq, owk_eq, orw_eq, otk_lt, owk_0, owk_1, owk_2, owk_3, owk_4, owk_5, orw_0, orw_1, fsc_0, fsc_1, fsc_2, b67_10, b67_11, b67_12, Nat.add_assoc, Nat.reduceAdd, gv_ite, gw_ite, gw_mk, gw_1, gw_2, v_nlz, v_mod, v_isIn, v_gsz hB hP, v_rml hB hP, gu_1, gu_2, hc, hc0]
theorem v_lastChild (hB : 30 ≤ B) (hP : 30 ≤ P) (hc : c < 67) : f_X4_lastChild (gv B P st) (B + c) = f_X4_lastChild st (P + c) := by
  simp only [f_X4_lastChild, gv_at hB, gv_at0 hB, gv_su hB hP, gv_su0 hB hP, gv_lo, otk_eq, owk_eq, orw_eq, otk_lt, owk_0, owk_1, owk_2, owk_3, owk_4, owk_5, orw_0, orw_1, fsc_0, fsc_1, fsc_2, b67_10, b67_11, b67_12, Nat.add_assoc, Nat.reduceAdd, gv_ite, gw_ite, gw_mk, gw_1, gw_2, v_nlz, v_mod, v_isIn, hc]
theorem v_addValue (hB : 30 ≤ B) (hP : 30 ≤ P) (hc : c < 67) : f_X4_addValue (gv B P st) (B + c) x = gv B P (f_X4_addValue st (P + c) x) := by
  simp only [f_X4_addValue, gv_at hB, gv_at0 hB, gv_su hB hP, gv_su0 hB hP, gv_lo, otk_eq, owk_eq, orw_eq, otk_lt, owk_0, owk_1, owk_2, owk_3, owk_4, owk_5, orw_0, orw_1, fsc_0, fsc_1, fsc_2, b67_10, b67_11, b67_12, Nat.add_assoc, Nat.reduceAdd, gv_ite, gw_ite, gw_mk, gw_1, gw_2, v_nlz, v_mod, v_isIn, hc]
theorem v_note (hB : 30 ≤ B) (hP : 30 ≤ P) (hc : c + 5 < 67) : f_X5_noteRan (gv B P st) (B + c) x y = gv B P (f_X5_noteRan st (P + c) x y) := by
  have hc0 : c < 67 := by omega
  have hc3 : c + 3 < 67 := by omega
  have hc4 : c + 4 < 67 := by omega
  have hc1 : c + 1 < 67 := by omega
  simp only [f_X5_noteRan, gv_at hB, gv_at0 hB, gv_su hB hP, gv_su0 hB hP, gv_lo, otk_eq, owk_eq, orw_eq, otk_lt, owk_0, owk_1, owk_2, owk_3, owk_4, owk_5, orw_0, orw_1, fsc_0, fsc_1, fsc_2, b67_10, b67_11, b67_12, Nat.add_assoc, Nat.reduceAdd, gv_ite, gw_ite, gw_mk, gw_1, gw_2, v_nlz, v_mod, v_isIn, hc]
theorem v_cu_L1 (hB : 30 ≤ B) (hP : 30 ≤ P) : ∀ (n : Nat) (st : gSt) (y x : Int32), f_X1_countUnfinished_L1 B n (gv B P st) y x = f_X1_countUnfinished_L1 P n st y x := by
  intro n
  induction n with
  | zero => intros; rfl
  | succ n ih =>
    intros
    simp only [f_X1_countUnfinished_L1, gv_at hB, gv_at0 hB, gv_su hB hP, gv_su0 hB hP, gv_lo, otk_eq, owk_eq, orw_eq, otk_lt, owk_0, owk_1, owk_2, owk_3, owk_4, owk_5, orw_0, orw_1, fsc_0, fsc_1, fsc_2, b67_10, b67_11, b67_12, Nat.add_assoc, Nat.reduceAdd, gv_ite, gw_ite, gw_mk, gw_1, gw_2, v_nlz, v_mod, v_isIn, v_at hB hP, v_last hB hP, v_append hB hP, v_begin hB hP, v_isB hB hP, v_isO hB hP, v_prom hB hP, v_has hB hP, v_rm hB hP, v_lastChild hB hP, v_addValue hB hP, v_note hB hP, v_code, v_num, ih]
theorem v_cu (hB : 30 ≤ B) (hP : 30 ≤ P) : f_X1_countUnfinished (gv B P st) B = f_X1_countUnfinished st P := by
  simp only [f_X1_countUnfinished, gv_at hB, gv_at0 hB, gv_su hB hP, gv_su0 hB hP, gv_lo, otk_eq, owk_eq, orw_eq, otk_lt, owk_0, owk_1, owk_2, owk_3, owk_4, owk_5, orw_0, orw_1, fsc_0, fsc_1, fsc_2, b67_10, b67_11, b67_12, Nat.add_assoc, Nat.reduceAdd, gv_ite, gw_ite, gw_mk, gw_1, gw_2, v_nlz, v_mod, v_isIn, v_at hB hP, v_last hB hP, v_append hB hP, v_begin hB hP, v_isB hB hP, v_isO hB hP, v_prom hB hP, v_has hB hP, v_rm hB hP, v_lastChild hB hP, v_addValue hB hP, v_note hB hP, v_code, v_num, v_cu_L1 hB hP]
theorem v_hti_L1 (hB : 30 ≤ B) (hP : 30 ≤ P) : ∀ (n : Nat) (st : gSt) (y : Int32), f_X1_hasTaskIn_L1 B x n (gv B P st) y = f_X1_hasTaskIn_L1 P x n st y := by
  intro n
  induction n with
  | zero => intros; rfl
  | succ n ih =>
    intros
    simp only [f_X1_hasTaskIn_L1, gv_at hB, gv_at0 hB, gv_su hB hP, gv_su0 hB hP, gv_lo, otk_eq, owk_eq, orw_eq, otk_lt, owk_0, owk_1, owk_2, owk_3, owk_4, owk_5, orw_0, orw_1, fsc_0, fsc_1, fsc_2, b67_10, b67_11, b67_12, Nat.add_assoc, Nat.reduceAdd, gv_ite, gw_ite, gw_mk, gw_1, gw_2, v_nlz, v_mod, v_isIn, v_at hB hP, v_last hB hP, v_append hB hP, v_begin hB hP, v_isB hB hP, v_isO hB hP, v_prom hB hP, v_has hB hP, v_rm hB hP, v_lastChild hB hP, v_addValue hB hP, v_note hB hP, v_code, v_num, v_cu hB hP, ih]
theorem v_hti (hB : 30 ≤ B) (hP : 30 ≤ P) : f_X1_hasTaskIn (gv B P st) B x = f_X1_hasTaskIn st P x := by
  simp only [f_X1_hasTaskIn, gv_at hB, gv_at0 hB, gv_su hB hP, gv_su0 hB hP, gv_lo, otk_eq, owk_eq, orw_eq, otk_lt, owk_0, owk_1, owk_2, owk_3, owk_4, owk_5, orw_0, orw_1, fsc_0, fsc_1, fsc_2, b67_10, b67_11, b67_12, Nat.add_assoc, Nat.reduceAdd, gv_ite, gw_ite, gw_mk, gw_1, gw_2, v_nlz, v_mod, v_isIn, v_at hB hP, v_last hB hP, v_append hB hP, v_begin hB hP, v_isB hB hP, v_isO hB hP, v_prom hB hP, v_has hB hP, v_rm hB hP, v_lastChild hB hP, v_addValue hB hP, v_note hB hP, v_code, v_num, v_cu hB hP, v_hti_L1 hB hP]
theorem v_hto_L1 (hB : 30 ≤ B) (hP : 30 ≤ P) : ∀ (n : Nat) (st : gSt) (y : Int32), f_X1_hasTaskOf_L1 B x n (gv B P st) y = f_X1_hasTaskOf_L1 P x n st y := by
  intro n
  induction n with
  | zero => intros; rfl
  | succ n ih =>
    intros
    simp only [f_X1_hasTaskOf_L1, gv_at hB, gv_at0 hB, gv_su hB hP, gv_su0 hB hP, gv_lo, otk_eq, owk_eq, orw_eq, otk_lt, owk_0, owk_1, owk_2, owk_3, owk_4, owk_5, orw_0, orw_1, fsc_0, fsc_1, fsc_2, b67_10, b67_11, b67_12, Nat.add_assoc, Nat.reduceAdd, gv_ite, gw_ite, gw_mk, gw_1, gw_2, v_nlz, v_mod, v_isIn, v_at hB hP, v_last hB hP, v_append hB hP, v_begin hB hP, v_isB hB hP, v_isO hB hP, v_prom hB hP, v_has hB hP, v_rm hB hP, v_lastChild hB hP, v_addValue hB hP, v_note hB hP, v_code, v_num, v_cu hB hP, v_hti hB hP, ih]
theorem v_hto (hB : 30 ≤ B) (hP : 30 ≤ P) : f_X1_hasTaskOf (gv B P st) B x = f_X1_hasTaskOf st P x := by
  simp only [f_X1_hasTaskOf, gv_at hB, gv_at0 hB, gv_su hB hP, gv_su0 hB hP, gv_lo, otk_eq, owk_eq, orw_eq, otk_lt, owk_0, owk_1, owk_2, owk_3, owk_4, owk_5, orw_0, orw_1, fsc_0, fsc_1, fsc_2, b67_10, b67_11, b67_12, Nat.add_assoc, Nat.reduceAdd, gv_ite, gw_ite, gw_mk, gw_1, gw_2, v_nlz, v_mod, v_isIn, v_at hB hP, v_last hB hP, v_append hB hP, v_begin hB hP, v_isB hB hP, v_isO hB hP, v_prom hB hP, v_has hB hP, v_rm hB hP, v_lastChild hB hP, v_addValue hB hP, v_note hB hP, v_code, v_num, v_cu hB hP, v_hti hB hP, v_hto_L1 hB hP]
theorem v_hst_L1 (hB : 30 ≤ B) (hP : 30 ≤ P) : ∀ (n : Nat) (st : gSt) (y : Int32), f_X1_hasStackedTask_L1 B n (gv B P st) y = f_X1_hasStackedTask_L1 P n st y := by
  intro n
  induction n with
  | zero => intros; rfl
  | succ n ih =>
    intros
    simp only [f_X1_hasStackedTask_L1, gv_at hB, gv_at0 hB, gv_su hB hP, gv_su0 hB hP, gv_lo, otk_eq, owk_eq, orw_eq, otk_lt, owk_0, owk_1, owk_2, owk_3, owk_4, owk_5, orw_0, orw_1, fsc_0, fsc_1, fsc_2, b67_10, b67_11, b67_12, Nat.add_assoc, Nat.reduceAdd, gv_ite, gw_ite, gw_mk, gw_1, gw_2, v_nlz, v_mod, v_isIn, v_at hB hP, v_last hB hP, v_append hB hP, v_begin hB hP, v_isB hB hP, v_isO hB hP, v_prom hB hP, v_has hB hP, v_rm hB hP, v_lastChild hB hP, v_addValue hB hP, v_note hB hP, v_code, v_num, v_cu hB hP, v_hti hB hP, v_hto hB hP, ih]
theorem v_hst (hB : 30 ≤ B) (hP : 30 ≤ P) : f_X1_hasStackedTask (gv B P st) B = f_X1_hasStackedTask st P := by
  simp only [f_X1_hasStackedTask, gv_at hB, gv_at0 hB, gv_su hB hP, gv_su0 hB hP, gv_lo, otk_eq, owk_eq, orw_eq, otk_lt, owk_0, owk_1, owk_2, owk_3, owk_4, owk_5, orw_0, orw_1, fsc_0, fsc_1, fsc_2, b67_10, b67_11, b67_12, Nat.add_assoc, Nat.reduceAdd, gv_ite, gw_ite, gw_mk, gw_1, gw_2, v_nlz, v_mod, v_isIn, v_at hB hP, v_last hB hP, v_append hB hP, v_begin hB hP, v_isB hB hP, v_isO hB hP, v_prom hB hP, v_has hB hP, v_rm hB hP, v_lastChild hB hP, v_addValue hB hP, v_note hB hP, v_code, v_num, v_cu hB hP, v_hti hB hP, v_hto hB hP, v_hst_L1 hB hP]
theorem v_sw_L1 (hB : 30 ≤ B) (hP : 30 ≤ P) : ∀ (n : Nat) (st : gSt) (z y x : Int32), f_X1_sumWork_L1 B a n (gv B P st) z y x = f_X1_sumWork_L1 P a n st z y x := by
  intro n
  induction n with
  | zero => intros; rfl
  | succ n ih =>
    intros
    simp only [f_X1_sumWork_L1, gv_at hB, gv_at0 hB, gv_su hB hP, gv_su0 hB hP, gv_lo, otk_eq, owk_eq, orw_eq, otk_lt, owk_0, owk_1, owk_2, owk_3, owk_4, owk_5, orw_0, orw_1, fsc_0, fsc_1, fsc_2, b67_10, b67_11, b67_12, Nat.add_assoc, Nat.reduceAdd, gv_ite, gw_ite, gw_mk, gw_1, gw_2, v_nlz, v_mod, v_isIn, v_at hB hP, v_last hB hP, v_append hB hP, v_begin hB hP, v_isB hB hP, v_isO hB hP, v_prom hB hP, v_has hB hP, v_rm hB hP, v_lastChild hB hP, v_addValue hB hP, v_note hB hP, v_code, v_num, v_cu hB hP, v_hti hB hP, v_hto hB hP, v_hst hB hP, ih]
theorem v_sw (hB : 30 ≤ B) (hP : 30 ≤ P) : f_X1_sumWork (gv B P st) B a = f_X1_sumWork st P a := by
  simp only [f_X1_sumWork, gv_at hB, gv_at0 hB, gv_su hB hP, gv_su0 hB hP, gv_lo, otk_eq, owk_eq, orw_eq, otk_lt, owk_0, owk_1, owk_2, owk_3, owk_4, owk_5, orw_0, orw_1, fsc_0, fsc_1, fsc_2, b67_10, b67_11, b67_12, Nat.add_assoc, Nat.reduceAdd, gv_ite, gw_ite, gw_mk, gw_1, gw_2, v_nlz, v_mod, v_isIn, v_at hB hP, v_last hB hP, v_append hB hP, v_begin hB hP, v_isB hB hP, v_isO hB hP, v_prom hB hP, v_has hB hP, v_rm hB hP, v_lastChild hB hP, v_addValue hB hP, v_note hB hP, v_code, v_num, v_cu hB hP, v_hti hB hP, v_hto hB hP, v_hst hB hP, v_sw_L1 hB hP]
theorem v_wants (hB : 30 ≤ B) (hP : 30 ≤ P) (hc : c + 5 < 67) : f_X1_wantsTask (gv B P st) B (B + c) = f_X1_wantsTask st P (P + c) := by
  have hc0 : c < 67 := by omega
  have hc3 : c + 3 < 67 := by omega
  have hc4 : c + 4 < 67 := by omega
  have hc1 : c + 1 < 67 := by omega
  simp only [f_X1_wantsTask, gv_at hB, gv_at0 hB, gv_su hB hP, gv_su0 hB hP, gv_lo, otk_eq, owk_eq, orw_eq, otk_lt, owk_0, owk_1, owk_2, owk_3, owk_4, owk_5, orw_0, orw_1, fsc_0, fsc_1, fsc_2, b67_10, b67_11, b67_12, Nat.add_assoc, Nat.reduceAdd, gv_ite, gw_ite, gw_mk, gw_1, gw_2, v_nlz, v_mod, v_isIn, v_at hB hP, v_last hB hP, v_append hB hP, v_begin hB hP, v_isB hB hP, v_isO hB hP, v_prom hB hP, v_has hB hP, v_rm hB hP, v_lastChild hB hP, v_addValue hB hP, v_note hB hP, v_code, v_num, v_cu hB hP, v_hti hB hP, v_hto hB hP, v_hst hB hP, v_sw hB hP, hc, hc0, hc3, hc4]
theorem v_nwt_L1 (hB : 30 ≤ B) (hP : 30 ≤ P) : ∀ (n : Nat) (st : gSt) (x : Int32), f_X1_nextWithTasks_L1 B a n (gv B P st) x = f_X1_nextWithTasks_L1 P a n st x := by
  intro n
  induction n with
  | zero => intros; rfl
  | succ n ih =>
    intros
    simp only [f_X1_nextWithTasks_L1, gv_at hB, gv_at0 hB, gv_su hB hP, gv_su0 hB hP, gv_lo, otk_eq, owk_eq, orw_eq, otk_lt, owk_0, owk_1, owk_2, owk_3, owk_4, owk_5, orw_0, orw_1, fsc_0, fsc_1, fsc_2, b67_10, b67_11, b67_12, Nat.add_assoc, Nat.reduceAdd, gv_ite, gw_ite, gw_mk, gw_1, gw_2, v_nlz, v_mod, v_isIn, v_at hB hP, v_last hB hP, v_append hB hP, v_begin hB hP, v_isB hB hP, v_isO hB hP, v_prom hB hP, v_has hB hP, v_rm hB hP, v_lastChild hB hP, v_addValue hB hP, v_note hB hP, v_code, v_num, v_cu hB hP, v_hti hB hP, v_hto hB hP, v_hst hB hP, v_sw hB hP, v_wants hB hP, ih]
theorem v_nwt (hB : 30 ≤ B) (hP : 30 ≤ P) : f_X1_nextWithTasks (gv B P st) B a = f_X1_nextWithTasks st P a := by
  simp only [f_X1_nextWithTasks, gv_at hB, gv_at0 hB, gv_su hB hP, gv_su0 hB hP, gv_lo, otk_eq, owk_eq, orw_eq, otk_lt, owk_0, owk_1, owk_2, owk_3, owk_4, owk_5, orw_0, orw_1, fsc_0, fsc_1, fsc_2, b67_10, b67_11, b67_12, Nat.add_assoc, Nat.reduceAdd, gv_ite, gw_ite, gw_mk, gw_1, gw_2, v_nlz, v_mod, v_isIn, v_at hB hP, v_last hB hP, v_append hB hP, v_begin hB hP, v_isB hB hP, v_isO hB hP, v_prom hB hP, v_has hB hP, v_rm hB hP, v_lastChild hB hP, v_addValue hB hP, v_note hB hP, v_code, v_num, v_cu hB hP, v_hti hB hP, v_hto hB hP, v_hst hB hP, v_sw hB hP, v_wants hB hP, v_nwt_L1 hB hP]
theorem v_fwm_L1 (hB : 30 ≤ B) (hP : 30 ≤ P) : ∀ (n : Nat) (st : gSt) (z y x : Int32), f_X1_firstWithMostTasks_L1 B n (gv B P st) z y x = f_X1_firstWithMostTasks_L1 P n st z y x := by
  intro n
  induction n with
  | zero => intros; rfl
  | succ n ih =>
    intros
    simp only [f_X1_firstWithMostTasks_L1, gv_at hB, gv_at0 hB, gv_su hB hP, gv_su0 hB hP, gv_lo, otk_eq, owk_eq, orw_eq, otk_lt, owk_0, owk_1, owk_2, owk_3, owk_4, owk_5, orw_0, orw_1, fsc_0, fsc_1, fsc_2, b67_10, b67_11, b67_12, Nat.add_assoc, Nat.reduceAdd, gv_ite, gw_ite, gw_mk, gw_1, gw_2, v_nlz, v_mod, v_isIn, v_at hB hP, v_last hB hP, v_append hB hP, v_begin hB hP, v_isB hB hP, v_isO hB hP, v_prom hB hP, v_has hB hP, v_rm hB hP, v_lastChild hB hP, v_addValue hB hP, v_note hB hP, v_code, v_num, v_cu hB hP, v_hti hB hP, v_hto hB hP, v_hst hB hP, v_sw hB hP, v_wants hB hP, v_nwt hB hP, ih]
theorem v_fwm (hB : 30 ≤ B) (hP : 30 ≤ P) : f_X1_firstWithMostTasks (gv B P st) B = f_X1_firstWithMostTasks st P := by
  simp only [f_X1_firstWithMostTasks, gv_at hB, gv_at0 hB, gv_su hB hP, gv_su0 hB hP, gv_lo, otk_eq, owk_eq, orw_eq, otk_lt, owk_0, owk_1, owk_2, owk_3, owk_4, owk_5, orw_0, orw_1, fsc_0, fsc_1, fsc_2, b67_10, b67_11, b67_12, Nat.add_assoc, Nat.reduceAdd, gv_ite, gw_ite, gw_mk, gw_1, gw_2, v_nlz, v_mod, v_isIn, v_at hB hP, v_last hB hP, v_append hB hP, v_begin hB hP, v_isB hB hP, v_isO hB hP, v_prom hB hP, v_has hB hP, v_rm hB hP, v_lastChild hB hP, v_addValue hB hP, v_note hB hP, v_code, v_num, v_cu hB hP, v_hti hB hP, v_hto hB hP, v_hst hB hP, v_sw hB hP, v_wants hB hP, v_nwt hB hP, v_fwm_L1 hB hP]
theorem v_src (hB : 30 ≤ B) (hP : 30 ≤ P) : f_X1_sourceFor (gv B P st) B a = f_X1_sourceFor st P a := by
  simp only [f_X1_sourceFor, gv_at hB, gv_at0 hB, gv_su hB hP, gv_su0 hB hP, gv_lo, otk_eq, owk_eq, orw_eq, otk_lt, owk_0, owk_1, owk_2, owk_3, owk_4, owk_5, orw_0, orw_1, fsc_0, fsc_1, fsc_2, b67_10, b67_11, b67_12, Nat.add_assoc, Nat.reduceAdd, gv_ite, gw_ite, gw_mk, gw_1, gw_2, v_nlz, v_mod, v_isIn, v_at hB hP, v_last hB hP, v_append hB hP, v_begin hB hP, v_isB hB hP, v_isO hB hP, v_prom hB hP, v_has hB hP, v_rm hB hP, v_lastChild hB hP, v_addValue hB hP, v_note hB hP, v_code, v_num, v_cu hB hP, v_hti hB hP, v_hto hB hP, v_hst hB hP, v_sw hB hP, v_wants hB hP, v_nwt hB hP, v_fwm hB hP]
theorem v_would (hB : 30 ≤ B) (hP : 30 ≤ P) : f_X1_wouldAct (gv B P st) B a = f_X1_wouldAct st P a := by
  simp only [f_X1_wouldAct, gv_at hB, gv_at0 hB, gv_su hB hP, gv_su0 hB hP, gv_lo, otk_eq, owk_eq, orw_eq, otk_lt, owk_0, owk_1, owk_2, owk_3, owk_4, owk_5, orw_0, orw_1, fsc_0, fsc_1, fsc_2, b67_10, b67_11, b67_12, Nat.add_assoc, Nat.reduceAdd, gv_ite, gw_ite, gw_mk, gw_1, gw_2, v_nlz, v_mod, v_isIn, v_at hB hP, v_last hB hP, v_append hB hP, v_begin hB hP, v_isB hB hP, v_isO hB hP, v_prom hB hP, v_has hB hP, v_rm hB hP, v_lastChild hB hP, v_addValue hB hP, v_note hB hP, v_code, v_num, v_cu hB hP, v_hti hB hP, v_hto hB hP, v_hst hB hP, v_sw hB hP, v_wants hB hP, v_nwt hB hP, v_fwm hB hP, v_src hB hP]
theorem v_halt_L1 (hB : 30 ≤ B) (hP : 30 ≤ P) : ∀ (n : Nat) (st : gSt) (x : Int32), f_X1_isHalted_L1 B n (gv B P st) x = f_X1_isHalted_L1 P n st x := by
  intro n
  induction n with
  | zero => intros; rfl
  | succ n ih =>
    intros
    simp only [f_X1_isHalted_L1, gv_at hB, gv_at0 hB, gv_su hB hP, gv_su0 hB hP, gv_lo, otk_eq, owk_eq, orw_eq, otk_lt, owk_0, owk_1, owk_2, owk_3, owk_4, owk_5, orw_0, orw_1, fsc_0, fsc_1, fsc_2, b67_10, b67_11, b67_12, Nat.add_assoc, Nat.reduceAdd, gv_ite, gw_ite, gw_mk, gw_1, gw_2, v_nlz, v_mod, v_isIn, v_at hB hP, v_last hB hP, v_append hB hP, v_begin hB hP, v_isB hB hP, v_isO hB hP, v_prom hB hP, v_has hB hP, v_rm hB hP, v_lastChild hB hP, v_addValue hB hP, v_note hB hP, v_code, v_num, v_cu hB hP, v_hti hB hP, v_hto hB hP, v_hst hB hP, v_sw hB hP, v_wants hB hP, v_nwt hB hP, v_fwm hB hP, v_src hB hP, v_would hB hP, ih]
theorem v_halt (hB : 30 ≤ B) (hP : 30 ≤ P) : f_X1_isHalted (gv B P st) B = f_X1_isHalted st P := by
  simp only [f_X1_isHalted, gv_at hB, gv_at0 hB, gv_su hB hP, gv_su0 hB hP, gv_lo, otk_eq, owk_eq, orw_eq, otk_lt, owk_0, owk_1, owk_2, owk_3, owk_4, owk_5, orw_0, orw_1, fsc_0, fsc_1, fsc_2, b67_10, b67_11, b67_12, Nat.add_assoc, Nat.reduceAdd, gv_ite, gw_ite, gw_mk, gw_1, gw_2, v_nlz, v_mod, v_isIn, v_at hB hP, v_last hB hP, v_append hB hP, v_begin hB hP, v_isB hB hP, v_isO hB hP, v_prom hB hP, v_has hB hP, v_rm hB hP, v_lastChild hB hP, v_addValue hB hP, v_note hB hP, v_code, v_num, v_cu hB hP, v_hti hB hP, v_hto hB hP, v_hst hB hP, v_sw hB hP, v_wants hB hP, v_nwt hB hP, v_fwm hB hP, v_src hB hP, v_would hB hP, v_halt_L1 hB hP]
theorem v_free_L1 (hB : 30 ≤ B) (hP : 30 ≤ P) (hc : c < 67) : ∀ (n : Nat) (st : gSt) (x : Int32), f_X1_free_L1 B (B + c) n (gv B P st) x = gv B P (f_X1_free_L1 P (P + c) n st x) := by
  intro n
  induction n with
  | zero => intros; rfl
  | succ n ih =>
    intros
    simp only [f_X1_free_L1, gv_at hB, gv_at0 hB, gv_su hB hP, gv_su0 hB hP, gv_lo, otk_eq, owk_eq, orw_eq, otk_lt, owk_0, owk_1, owk_2, owk_3, owk_4, owk_5, orw_0, orw_1, fsc_0, fsc_1, fsc_2, b67_10, b67_11, b67_12, Nat.add_assoc, Nat.reduceAdd, gv_ite, gw_ite, gw_mk, gw_1, gw_2, v_nlz, v_mod, v_isIn, v_at hB hP, v_last hB hP, v_append hB hP, v_begin hB hP, v_isB hB hP, v_isO hB hP, v_prom hB hP, v_has hB hP, v_rm hB hP, v_lastChild hB hP, v_addValue hB hP, v_note hB hP, v_code, v_num, v_cu hB hP, v_hti hB hP, v_hto hB hP, v_hst hB hP, v_sw hB hP, v_wants hB hP, v_nwt hB hP, v_fwm hB hP, v_src hB hP, v_would hB hP, v_halt hB hP, hc, ih]
theorem v_free (hB : 30 ≤ B) (hP : 30 ≤ P) (hc : c < 67) : f_X1_free (gv B P st) B (B + c) = gv B P (f_X1_free st P (P + c)) := by
  simp only [f_X1_free, gv_at hB, gv_at0 hB, gv_su hB hP, gv_su0 hB hP, gv_lo, otk_eq, owk_eq, orw_eq, otk_lt, owk_0, owk_1, owk_2, owk_3, owk_4, owk_5, orw_0, orw_1, fsc_0, fsc_1, fsc_2, b67_10, b67_11, b67_12, Nat.add_assoc, Nat.reduceAdd, gv_ite, gw_ite, gw_mk, gw_1, gw_2, v_nlz, v_mod, v_isIn, v_at hB hP, v_last hB hP, v_append hB hP, v_begin hB hP, v_isB hB hP, v_isO hB hP, v_prom hB hP, v_has hB hP, v_rm hB hP, v_lastChild hB hP, v_addValue hB hP, v_note hB hP, v_code, v_num, v_cu hB hP, v_hti hB hP, v_hto hB hP, v_hst hB hP, v_sw hB hP, v_wants hB hP, v_nwt hB hP, v_fwm hB hP, v_src hB hP, v_would hB hP, v_halt hB hP, v_free_L1 hB hP, hc]
theorem v_block (hB : 30 ≤ B) (hP : 30 ≤ P) (hc : c < 67) : f_X1_block (gv B P st) B a (B + c) x = gv B P (f_X1_block st P a (P + c) x) := by
  simp only [f_X1_block, gv_at hB, gv_at0 hB, gv_su hB hP, gv_su0 hB hP, gv_lo, otk_eq, owk_eq, orw_eq, otk_lt, owk_0, owk_1, owk_2, owk_3, owk_4, owk_5, orw_0, orw_1, fsc_0, fsc_1, fsc_2, b67_10, b67_11, b67_12, Nat.add_assoc, Nat.reduceAdd, gv_ite, gw_ite, gw_mk, gw_1, gw_2, v_nlz, v_mod, v_isIn, v_at hB hP, v_last hB hP, v_append hB hP, v_begin hB hP, v_isB hB hP, v_isO hB hP, v_prom hB hP, v_has hB hP, v_rm hB hP, v_lastChild hB hP, v_addValue hB hP, v_note hB hP, v_code, v_num, v_cu hB hP, v_hti hB hP, v_hto hB hP, v_hst hB hP, v_sw hB hP, v_wants hB hP, v_nwt hB hP, v_fwm hB hP, v_src hB hP, v_would hB hP, v_halt hB hP, v_free hB hP, hc]
theorem v_end_L1 (hB : 30 ≤ B) (hP : 30 ≤ P) (hc : c < 67) : ∀ (n : Nat) (st : gSt) (x : Int32), f_X1_end_L1 B (B + c) a n (gv B P st) x = gv B P (f_X1_end_L1 P (P + c) a n st x) := by
  intro n
  induction n with
  | zero => intros; rfl
  | succ n ih =>
    intros
    simp only [f_X1_end_L1, gv_at hB, gv_at0 hB, gv_su hB hP, gv_su0 hB hP, gv_lo, otk_eq, owk_eq, orw_eq, otk_lt, owk_0, owk_1, owk_2, owk_3, owk_4, owk_5, orw_0, orw_1, fsc_0, fsc_1, fsc_2, b67_10, b67_11, b67_12, Nat.add_assoc, Nat.reduceAdd, gv_ite, gw_ite, gw_mk, gw_1, gw_2, v_nlz, v_mod, v_isIn, v_at hB hP, v_last hB hP, v_append hB hP, v_begin hB hP, v_isB hB hP, v_isO hB hP, v_prom hB hP, v_has hB hP, v_rm hB hP, v_lastChild hB hP, v_addValue hB hP, v_note hB hP, v_code, v_num, v_cu hB hP, v_hti hB hP, v_hto hB hP, v_hst hB hP, v_sw hB hP, v_wants hB hP, v_nwt hB hP, v_fwm hB hP, v_src hB hP, v_would hB hP, v_halt hB hP, v_free hB hP, v_block hB hP, hc, ih]
theorem v_end (hB : 30 ≤ B) (hP : 30 ≤ P) (hc : c < 67) : f_X1_end (gv B P st) B (B + c) a = gv B P (f_X1_end st P (P + c) a) := by
  simp only [f_X1_end, gv_at hB, gv_at0 hB, gv_su hB hP, gv_su0 hB hP, gv_lo, otk_eq, owk_eq, orw_eq, otk_lt, owk_0, owk_1, owk_2, owk_3, owk_4, owk_5, orw_0, orw_1, fsc_0, fsc_1, fsc_2, b67_10, b67_11, b67_12, Nat.add_assoc, Nat.reduceAdd, gv_ite, gw_ite, gw_mk, gw_1, gw_2, v_nlz, v_mod, v_isIn, v_at hB hP, v_last hB hP, v_append hB hP, v_begin hB hP, v_isB hB hP, v_isO hB hP, v_prom hB hP, v_has hB hP, v_rm hB hP, v_lastChild hB hP, v_addValue hB hP, v_note hB hP, v_code, v_num, v_cu hB hP, v_hti hB hP, v_hto hB hP, v_hst hB hP, v_sw hB hP, v_wants hB hP, v_nwt hB hP, v_fwm hB hP, v_src hB hP, v_would hB hP, v_halt hB hP, v_free hB hP, v_block hB hP, v_end_L1 hB hP, hc]
theorem v_new (hB : 30 ≤ B) (hP : 30 ≤ P) : f_X1_newTask (gv B P st) B a b = (B + otk (st P 3), gv B P (f_X1_newTask st P a b).2) := by
  simp only [f_X1_newTask, gv_at hB, gv_at0 hB, gv_su hB hP, gv_su0 hB hP, gv_lo, otk_eq, owk_eq, orw_eq, otk_lt, owk_0, owk_1, owk_2, owk_3, owk_4, owk_5, orw_0, orw_1, fsc_0, fsc_1, fsc_2, b67_10, b67_11, b67_12, Nat.add_assoc, Nat.reduceAdd, gv_ite, gw_ite, gw_mk, gw_1, gw_2, v_nlz, v_mod, v_isIn, v_begin hB hP]
theorem new_1 : (f_X1_newTask st P a b).1 = P + otk (st P 3) := by
  simp only [f_X1_newTask, otk_eq]
theorem v_ask (hB : 30 ≤ B) (hP : 30 ≤ P) : f_X1_askFor (gv B P st) B a = gw B P (f_X1_askFor st P a) := by
  simp only [f_X1_askFor, gv_at hB, gv_at0 hB, gv_su hB hP, gv_su0 hB hP, gv_lo, otk_eq, owk_eq, orw_eq, otk_lt, owk_0, owk_1, owk_2, owk_3, owk_4, owk_5, orw_0, orw_1, fsc_0, fsc_1, fsc_2, b67_10, b67_11, b67_12, Nat.add_assoc, Nat.reduceAdd, gv_ite, gw_ite, gw_mk, gw_1, gw_2, v_nlz, v_mod, v_isIn, v_at hB hP, v_last hB hP, v_append hB hP, v_begin hB hP, v_isB hB hP, v_isO hB hP, v_prom hB hP, v_has hB hP, v_rm hB hP, v_lastChild hB hP, v_addValue hB hP, v_note hB hP, v_code, v_num, v_cu hB hP, v_hti hB hP, v_hto hB hP, v_hst hB hP, v_sw hB hP, v_wants hB hP, v_nwt hB hP, v_fwm hB hP, v_src hB hP, v_would hB hP, v_halt hB hP, v_free hB hP, v_block hB hP, v_end hB hP, v_new hB hP, new_1]
theorem v_take50 (hB : 30 ≤ B) (hP : 30 ≤ P) (hc : c + 5 < 67) (hk : k + 1 < 67) : f_X1_take_J50 B a (B + c) (gv B P st) x y (B + k) = gw B P (f_X1_take_J50 P a (P + c) st x y (P + k)) := by
  have hc0 : c < 67 := by omega
  have hc3 : c + 3 < 67 := by omega
  have hc4 : c + 4 < 67 := by omega
  have hc1 : c + 1 < 67 := by omega
  have hk0 : k < 67 := by omega
  simp only [f_X1_take_J50, gv_at hB, gv_at0 hB, gv_su hB hP, gv_su0 hB hP, gv_lo, otk_eq, owk_eq, orw_eq, otk_lt, owk_0, owk_1, owk_2, owk_3, owk_4, owk_5, orw_0, orw_1, fsc_0, fsc_1, fsc_2, b67_10, b67_11, b67_12, Nat.add_assoc, Nat.reduceAdd, gv_ite, gw_ite, gw_mk, gw_1, gw_2, v_nlz, v_mod, v_isIn, v_at hB hP, v_last hB hP, v_append hB hP, v_begin hB hP, v_isB hB hP, v_isO hB hP, v_prom hB hP, v_has hB hP, v_rm hB hP, v_lastChild hB hP, v_addValue hB hP, v_note hB hP, v_code, v_num, v_cu hB hP, v_hti hB hP, v_hto hB hP, v_hst hB hP, v_sw hB hP, v_wants hB hP, v_nwt hB hP, v_fwm hB hP, v_src hB hP, v_would hB hP, v_halt hB hP, v_free hB hP, v_block hB hP, v_end hB hP, v_ask hB hP, hc, hc0, hc3, hc4, hk, hk0]
theorem v_take (hB : 30 ≤ B) (hP : 30 ≤ P) (hc : c + 5 < 67) : f_X1_take (gv B P st) B a (B + c) = gw B P (f_X1_take st P a (P + c)) := by
  have hc0 : c < 67 := by omega
  have hc3 : c + 3 < 67 := by omega
  have hc4 : c + 4 < 67 := by omega
  have hc1 : c + 1 < 67 := by omega
  simp only [f_X1_take, gv_at hB, gv_at0 hB, gv_su hB hP, gv_su0 hB hP, gv_lo, otk_eq, owk_eq, orw_eq, otk_lt, owk_0, owk_1, owk_2, owk_3, owk_4, owk_5, orw_0, orw_1, fsc_0, fsc_1, fsc_2, b67_10, b67_11, b67_12, Nat.add_assoc, Nat.reduceAdd, gv_ite, gw_ite, gw_mk, gw_1, gw_2, v_nlz, v_mod, v_isIn, v_at hB hP, v_last hB hP, v_append hB hP, v_begin hB hP, v_isB hB hP, v_isO hB hP, v_prom hB hP, v_has hB hP, v_rm hB hP, v_lastChild hB hP, v_addValue hB hP, v_note hB hP, v_code, v_num, v_cu hB hP, v_hti hB hP, v_hto hB hP, v_hst hB hP, v_sw hB hP, v_wants hB hP, v_nwt hB hP, v_fwm hB hP, v_src hB hP, v_would hB hP, v_halt hB hP, v_free hB hP, v_block hB hP, v_end hB hP, v_ask hB hP, v_take50 hB hP, hc, hc0, hc3, hc4]
theorem v_work (hB : 30 ≤ B) (hP : 30 ≤ P) (hc : c < 67) : f_X1_work (gv B P st) B a (B + c) x = gw B P (f_X1_work st P a (P + c) x) := by
  simp only [f_X1_work, gv_at hB, gv_at0 hB, gv_su hB hP, gv_su0 hB hP, gv_lo, otk_eq, owk_eq, orw_eq, otk_lt, owk_0, owk_1, owk_2, owk_3, owk_4, owk_5, orw_0, orw_1, fsc_0, fsc_1, fsc_2, b67_10, b67_11, b67_12, Nat.add_assoc, Nat.reduceAdd, gv_ite, gw_ite, gw_mk, gw_1, gw_2, v_nlz, v_mod, v_isIn, v_at hB hP, v_last hB hP, v_append hB hP, v_begin hB hP, v_isB hB hP, v_isO hB hP, v_prom hB hP, v_has hB hP, v_rm hB hP, v_lastChild hB hP, v_addValue hB hP, v_note hB hP, v_code, v_num, v_cu hB hP, v_hti hB hP, v_hto hB hP, v_hst hB hP, v_sw hB hP, v_wants hB hP, v_nwt hB hP, v_fwm hB hP, v_src hB hP, v_would hB hP, v_halt hB hP, v_free hB hP, v_block hB hP, v_end hB hP, v_ask hB hP, v_take50 hB hP, v_take hB hP, hc]
theorem v_adv (hB : 30 ≤ B) (hP : 30 ≤ P) (hc : c < 67) : f_X1_advance (gv B P st) B (B + c) x = gv B P (f_X1_advance st P (P + c) x) := by
  simp only [f_X1_advance, gv_at hB, gv_at0 hB, gv_su hB hP, gv_su0 hB hP, gv_lo, otk_eq, owk_eq, orw_eq, otk_lt, owk_0, owk_1, owk_2, owk_3, owk_4, owk_5, orw_0, orw_1, fsc_0, fsc_1, fsc_2, b67_10, b67_11, b67_12, Nat.add_assoc, Nat.reduceAdd, gv_ite, gw_ite, gw_mk, gw_1, gw_2, v_nlz, v_mod, v_isIn, v_at hB hP, v_last hB hP, v_append hB hP, v_begin hB hP, v_isB hB hP, v_isO hB hP, v_prom hB hP, v_has hB hP, v_rm hB hP, v_lastChild hB hP, v_addValue hB hP, v_note hB hP, v_code, v_num, v_cu hB hP, v_hti hB hP, v_hto hB hP, v_hst hB hP, v_sw hB hP, v_wants hB hP, v_nwt hB hP, v_fwm hB hP, v_src hB hP, v_would hB hP, v_halt hB hP, v_free hB hP, v_block hB hP, v_end hB hP, v_ask hB hP, v_take50 hB hP, v_take hB hP, v_work hB hP, hc]
theorem v_fork (hB : 30 ≤ B) (hP : 30 ≤ P) (hc : c < 67) : f_X1_fork (gv B P st) B a (B + c) b = gv B P (f_X1_fork st P a (P + c) b) := by
  simp only [f_X1_fork, gv_at hB, gv_at0 hB, gv_su hB hP, gv_su0 hB hP, gv_lo, otk_eq, owk_eq, orw_eq, otk_lt, owk_0, owk_1, owk_2, owk_3, owk_4, owk_5, orw_0, orw_1, fsc_0, fsc_1, fsc_2, b67_10, b67_11, b67_12, Nat.add_assoc, Nat.reduceAdd, gv_ite, gw_ite, gw_mk, gw_1, gw_2, v_nlz, v_mod, v_isIn, v_at hB hP, v_last hB hP, v_append hB hP, v_begin hB hP, v_isB hB hP, v_isO hB hP, v_prom hB hP, v_has hB hP, v_rm hB hP, v_lastChild hB hP, v_addValue hB hP, v_note hB hP, v_code, v_num, v_cu hB hP, v_hti hB hP, v_hto hB hP, v_hst hB hP, v_sw hB hP, v_wants hB hP, v_nwt hB hP, v_fwm hB hP, v_src hB hP, v_would hB hP, v_halt hB hP, v_free hB hP, v_block hB hP, v_end hB hP, v_ask hB hP, v_take50 hB hP, v_take hB hP, v_work hB hP, v_adv hB hP, hc, v_new hB hP, new_1]
theorem v_await (hB : 30 ≤ B) (hP : 30 ≤ P) (hc : c < 67) : f_X1_await (gv B P st) B a (B + c) b = gw B P (f_X1_await st P a (P + c) b) := by
  simp only [f_X1_await, gv_at hB, gv_at0 hB, gv_su hB hP, gv_su0 hB hP, gv_lo, otk_eq, owk_eq, orw_eq, otk_lt, owk_0, owk_1, owk_2, owk_3, owk_4, owk_5, orw_0, orw_1, fsc_0, fsc_1, fsc_2, b67_10, b67_11, b67_12, Nat.add_assoc, Nat.reduceAdd, gv_ite, gw_ite, gw_mk, gw_1, gw_2, v_nlz, v_mod, v_isIn, v_at hB hP, v_last hB hP, v_append hB hP, v_begin hB hP, v_isB hB hP, v_isO hB hP, v_prom hB hP, v_has hB hP, v_rm hB hP, v_lastChild hB hP, v_addValue hB hP, v_note hB hP, v_code, v_num, v_cu hB hP, v_hti hB hP, v_hto hB hP, v_hst hB hP, v_sw hB hP, v_wants hB hP, v_nwt hB hP, v_fwm hB hP, v_src hB hP, v_would hB hP, v_halt hB hP, v_free hB hP, v_block hB hP, v_end hB hP, v_ask hB hP, v_take50 hB hP, v_take hB hP, v_work hB hP, v_adv hB hP, v_fork hB hP, hc]
theorem v_join_L1 (hB : 30 ≤ B) (hP : 30 ≤ P) (hc : c < 67) : ∀ (n : Nat) (st : gSt) (y x : Int32), f_X1_join_L1 B a (B + c) b n (gv B P st) y x = gw B P (f_X1_join_L1 P a (P + c) b n st y x) := by
  intro n
  induction n with
  | zero => intros; rfl
  | succ n ih =>
    intros
    simp only [f_X1_join_L1, gv_at hB, gv_at0 hB, gv_su hB hP, gv_su0 hB hP, gv_lo, otk_eq, owk_eq, orw_eq, otk_lt, owk_0, owk_1, owk_2, owk_3, owk_4, owk_5, orw_0, orw_1, fsc_0, fsc_1, fsc_2, b67_10, b67_11, b67_12, Nat.add_assoc, Nat.reduceAdd, gv_ite, gw_ite, gw_mk, gw_1, gw_2, v_nlz, v_mod, v_isIn, v_at hB hP, v_last hB hP, v_append hB hP, v_begin hB hP, v_isB hB hP, v_isO hB hP, v_prom hB hP, v_has hB hP, v_rm hB hP, v_lastChild hB hP, v_addValue hB hP, v_note hB hP, v_code, v_num, v_cu hB hP, v_hti hB hP, v_hto hB hP, v_hst hB hP, v_sw hB hP, v_wants hB hP, v_nwt hB hP, v_fwm hB hP, v_src hB hP, v_would hB hP, v_halt hB hP, v_free hB hP, v_block hB hP, v_end hB hP, v_ask hB hP, v_take50 hB hP, v_take hB hP, v_work hB hP, v_adv hB hP, v_fork hB hP, v_await hB hP, hc, ih]
theorem v_join (hB : 30 ≤ B) (hP : 30 ≤ P) (hc : c < 67) : f_X1_join (gv B P st) B a (B + c) b = gw B P (f_X1_join st P a (P + c) b) := by
  simp only [f_X1_join, f_X1_join_J11, gv_at hB, gv_at0 hB, gv_su hB hP, gv_su0 hB hP, gv_lo, otk_eq, owk_eq, orw_eq, otk_lt, owk_0, owk_1, owk_2, owk_3, owk_4, owk_5, orw_0, orw_1, fsc_0, fsc_1, fsc_2, b67_10, b67_11, b67_12, Nat.add_assoc, Nat.reduceAdd, gv_ite, gw_ite, gw_mk, gw_1, gw_2, v_nlz, v_mod, v_isIn, v_at hB hP, v_last hB hP, v_append hB hP, v_begin hB hP, v_isB hB hP, v_isO hB hP, v_prom hB hP, v_has hB hP, v_rm hB hP, v_lastChild hB hP, v_addValue hB hP, v_note hB hP, v_code, v_num, v_cu hB hP, v_hti hB hP, v_hto hB hP, v_hst hB hP, v_sw hB hP, v_wants hB hP, v_nwt hB hP, v_fwm hB hP, v_src hB hP, v_would hB hP, v_halt hB hP, v_free hB hP, v_block hB hP, v_end hB hP, v_ask hB hP, v_take50 hB hP, v_take hB hP, v_work hB hP, v_adv hB hP, v_fork hB hP, v_await hB hP, hc, v_join_L1 hB hP]
theorem v_cb_L2 (hB : 30 ≤ B) (hP : 30 ≤ P) (hc : c < 67) : ∀ (n : Nat) (st : gSt) (z y x : Int32), f_X1_cancelBelow_L2 B (B + c) n (gv B P st) z y x = gw B P (f_X1_cancelBelow_L2 P (P + c) n st z y x) := by
  intro n
  induction n with
  | zero => intros; rfl
  | succ n ih =>
    intros
    simp only [f_X1_cancelBelow_L2, gv_at hB, gv_at0 hB, gv_su hB hP, gv_su0 hB hP, gv_lo, otk_eq, owk_eq, orw_eq, otk_lt, owk_0, owk_1, owk_2, owk_3, owk_4, owk_5, orw_0, orw_1, fsc_0, fsc_1, fsc_2, b67_10, b67_11, b67_12, Nat.add_assoc, Nat.reduceAdd, gv_ite, gw_ite, gw_mk, gw_1, gw_2, v_nlz, v_mod, v_isIn, v_at hB hP, v_last hB hP, v_append hB hP, v_begin hB hP, v_isB hB hP, v_isO hB hP, v_prom hB hP, v_has hB hP, v_rm hB hP, v_lastChild hB hP, v_addValue hB hP, v_note hB hP, v_code, v_num, v_cu hB hP, v_hti hB hP, v_hto hB hP, v_hst hB hP, v_sw hB hP, v_wants hB hP, v_nwt hB hP, v_fwm hB hP, v_src hB hP, v_would hB hP, v_halt hB hP, v_free hB hP, v_block hB hP, v_end hB hP, v_ask hB hP, v_take50 hB hP, v_take hB hP, v_work hB hP, v_adv hB hP, v_fork hB hP, v_await hB hP, v_join hB hP, hc, ih]
theorem v_cb_L1 (hB : 30 ≤ B) (hP : 30 ≤ P) (hc : c < 67) : ∀ (n : Nat) (st : gSt) (y x : Int32), f_X1_cancelBelow_L1 B (B + c) n (gv B P st) y x = gw B P (f_X1_cancelBelow_L1 P (P + c) n st y x) := by
  intro n
  induction n with
  | zero => intros; rfl
  | succ n ih =>
    intros
    simp only [f_X1_cancelBelow_L1, gv_at hB, gv_at0 hB, gv_su hB hP, gv_su0 hB hP, gv_lo, otk_eq, owk_eq, orw_eq, otk_lt, owk_0, owk_1, owk_2, owk_3, owk_4, owk_5, orw_0, orw_1, fsc_0, fsc_1, fsc_2, b67_10, b67_11, b67_12, Nat.add_assoc, Nat.reduceAdd, gv_ite, gw_ite, gw_mk, gw_1, gw_2, v_nlz, v_mod, v_isIn, v_at hB hP, v_last hB hP, v_append hB hP, v_begin hB hP, v_isB hB hP, v_isO hB hP, v_prom hB hP, v_has hB hP, v_rm hB hP, v_lastChild hB hP, v_addValue hB hP, v_note hB hP, v_code, v_num, v_cu hB hP, v_hti hB hP, v_hto hB hP, v_hst hB hP, v_sw hB hP, v_wants hB hP, v_nwt hB hP, v_fwm hB hP, v_src hB hP, v_would hB hP, v_halt hB hP, v_free hB hP, v_block hB hP, v_end hB hP, v_ask hB hP, v_take50 hB hP, v_take hB hP, v_work hB hP, v_adv hB hP, v_fork hB hP, v_await hB hP, v_join hB hP, v_cb_L2 hB hP, hc, ih]
theorem v_cb (hB : 30 ≤ B) (hP : 30 ≤ P) (hc : c < 67) : f_X1_cancelBelow (gv B P st) B (B + c) = gw B P (f_X1_cancelBelow st P (P + c)) := by
  simp only [f_X1_cancelBelow, gv_at hB, gv_at0 hB, gv_su hB hP, gv_su0 hB hP, gv_lo, otk_eq, owk_eq, orw_eq, otk_lt, owk_0, owk_1, owk_2, owk_3, owk_4, owk_5, orw_0, orw_1, fsc_0, fsc_1, fsc_2, b67_10, b67_11, b67_12, Nat.add_assoc, Nat.reduceAdd, gv_ite, gw_ite, gw_mk, gw_1, gw_2, v_nlz, v_mod, v_isIn, v_at hB hP, v_last hB hP, v_append hB hP, v_begin hB hP, v_isB hB hP, v_isO hB hP, v_prom hB hP, v_has hB hP, v_rm hB hP, v_lastChild hB hP, v_addValue hB hP, v_note hB hP, v_code, v_num, v_cu hB hP, v_hti hB hP, v_hto hB hP, v_hst hB hP, v_sw hB hP, v_wants hB hP, v_nwt hB hP, v_fwm hB hP, v_src hB hP, v_would hB hP, v_halt hB hP, v_free hB hP, v_block hB hP, v_end hB hP, v_ask hB hP, v_take50 hB hP, v_take hB hP, v_work hB hP, v_adv hB hP, v_fork hB hP, v_await hB hP, v_join hB hP, v_cb_L2 hB hP, hc, v_cb_L1 hB hP]
theorem v_kp_L1 (hB : 30 ≤ B) (hP : 30 ≤ P) : ∀ (n : Nat) (st : gSt) (x : Int32), f_X1_keepPromise_L1 B a b n (gv B P st) x = gw B P (f_X1_keepPromise_L1 P a b n st x) := by
  intro n
  induction n with
  | zero => intros; rfl
  | succ n ih =>
    intros
    simp only [f_X1_keepPromise_L1, gv_at hB, gv_at0 hB, gv_su hB hP, gv_su0 hB hP, gv_lo, otk_eq, owk_eq, orw_eq, otk_lt, owk_0, owk_1, owk_2, owk_3, owk_4, owk_5, orw_0, orw_1, fsc_0, fsc_1, fsc_2, b67_10, b67_11, b67_12, Nat.add_assoc, Nat.reduceAdd, gv_ite, gw_ite, gw_mk, gw_1, gw_2, v_nlz, v_mod, v_isIn, v_at hB hP, v_last hB hP, v_append hB hP, v_begin hB hP, v_isB hB hP, v_isO hB hP, v_prom hB hP, v_has hB hP, v_rm hB hP, v_lastChild hB hP, v_addValue hB hP, v_note hB hP, v_code, v_num, v_cu hB hP, v_hti hB hP, v_hto hB hP, v_hst hB hP, v_sw hB hP, v_wants hB hP, v_nwt hB hP, v_fwm hB hP, v_src hB hP, v_would hB hP, v_halt hB hP, v_free hB hP, v_block hB hP, v_end hB hP, v_ask hB hP, v_take50 hB hP, v_take hB hP, v_work hB hP, v_adv hB hP, v_fork hB hP, v_await hB hP, v_join hB hP, v_cb_L2 hB hP, v_cb hB hP, ih]
theorem v_kp (hB : 30 ≤ B) (hP : 30 ≤ P) : f_X1_keepPromise (gv B P st) B a b = gw B P (f_X1_keepPromise st P a b) := by
  simp only [f_X1_keepPromise, gv_at hB, gv_at0 hB, gv_su hB hP, gv_su0 hB hP, gv_lo, otk_eq, owk_eq, orw_eq, otk_lt, owk_0, owk_1, owk_2, owk_3, owk_4, owk_5, orw_0, orw_1, fsc_0, fsc_1, fsc_2, b67_10, b67_11, b67_12, Nat.add_assoc, Nat.reduceAdd, gv_ite, gw_ite, gw_mk, gw_1, gw_2, v_nlz, v_mod, v_isIn, v_at hB hP, v_last hB hP, v_append hB hP, v_begin hB hP, v_isB hB hP, v_isO hB hP, v_prom hB hP, v_has hB hP, v_rm hB hP, v_lastChild hB hP, v_addValue hB hP, v_note hB hP, v_code, v_num, v_cu hB hP, v_hti hB hP, v_hto hB hP, v_hst hB hP, v_sw hB hP, v_wants hB hP, v_nwt hB hP, v_fwm hB hP, v_src hB hP, v_would hB hP, v_halt hB hP, v_free hB hP, v_block hB hP, v_end hB hP, v_ask hB hP, v_take50 hB hP, v_take hB hP, v_work hB hP, v_adv hB hP, v_fork hB hP, v_await hB hP, v_join hB hP, v_cb_L2 hB hP, v_cb hB hP, v_kp_L1 hB hP]
theorem v_go202 (hB : 30 ≤ B) (hP : 30 ≤ P) (hc : c < 67) (hk : k + 2 < 30) : f_X1_goOn_J202 B a (B + c) (gv B P st) x y z k = gw B P (f_X1_goOn_J202 P a (P + c) st x y z k) := by
  have hk0 : k < 30 := by omega
  have hk1 : k + 1 < 30 := by omega
  simp only [f_X1_goOn_J202, gv_at hB, gv_at0 hB, gv_su hB hP, gv_su0 hB hP, gv_lo, otk_eq, owk_eq, orw_eq, otk_lt, owk_0, owk_1, owk_2, owk_3, owk_4, owk_5, orw_0, orw_1, fsc_0, fsc_1, fsc_2, b67_10, b67_11, b67_12, Nat.add_assoc, Nat.reduceAdd, gv_ite, gw_ite, gw_mk, gw_1, gw_2, v_nlz, v_mod, v_isIn, v_at hB hP, v_last hB hP, v_append hB hP, v_begin hB hP, v_isB hB hP, v_isO hB hP, v_prom hB hP, v_has hB hP, v_rm hB hP, v_lastChild hB hP, v_addValue hB hP, v_note hB hP, v_code, v_num, v_cu hB hP, v_hti hB hP, v_hto hB hP, v_hst hB hP, v_sw hB hP, v_wants hB hP, v_nwt hB hP, v_fwm hB hP, v_src hB hP, v_would hB hP, v_halt hB hP, v_free hB hP, v_block hB hP, v_end hB hP, v_ask hB hP, v_take50 hB hP, v_take hB hP, v_work hB hP, v_adv hB hP, v_fork hB hP, v_await hB hP, v_join hB hP, v_cb_L2 hB hP, v_cb hB hP, v_kp hB hP, hc, hk, hk0, hk1]
theorem v_go35 (hB : 30 ≤ B) (hP : 30 ≤ P) (hc : c < 67) (hk : k + 2 < 30) : f_X1_goOn_J35 B a (B + c) (gv B P st) x k = gw B P (f_X1_goOn_J35 P a (P + c) st x k) := by
  have hk0 : k < 30 := by omega
  have hk1 : k + 1 < 30 := by omega
  simp only [f_X1_goOn_J35, gv_at hB, gv_at0 hB, gv_su hB hP, gv_su0 hB hP, gv_lo, otk_eq, owk_eq, orw_eq, otk_lt, owk_0, owk_1, owk_2, owk_3, owk_4, owk_5, orw_0, orw_1, fsc_0, fsc_1, fsc_2, b67_10, b67_11, b67_12, Nat.add_assoc, Nat.reduceAdd, gv_ite, gw_ite, gw_mk, gw_1, gw_2, v_nlz, v_mod, v_isIn, v_at hB hP, v_last hB hP, v_append hB hP, v_begin hB hP, v_isB hB hP, v_isO hB hP, v_prom hB hP, v_has hB hP, v_rm hB hP, v_lastChild hB hP, v_addValue hB hP, v_note hB hP, v_code, v_num, v_cu hB hP, v_hti hB hP, v_hto hB hP, v_hst hB hP, v_sw hB hP, v_wants hB hP, v_nwt hB hP, v_fwm hB hP, v_src hB hP, v_would hB hP, v_halt hB hP, v_free hB hP, v_block hB hP, v_end hB hP, v_ask hB hP, v_take50 hB hP, v_take hB hP, v_work hB hP, v_adv hB hP, v_fork hB hP, v_await hB hP, v_join hB hP, v_cb_L2 hB hP, v_cb hB hP, v_kp hB hP, v_go202 hB hP, hc, hk, hk0, hk1]
theorem v_goOn (hB : 30 ≤ B) (hP : 30 ≤ P) (hc : c < 67) : f_X1_goOn (gv B P st) B a (B + c) = gw B P (f_X1_goOn st P a (P + c)) := by
  simp only [f_X1_goOn, gv_at hB, gv_at0 hB, gv_su hB hP, gv_su0 hB hP, gv_lo, otk_eq, owk_eq, orw_eq, otk_lt, owk_0, owk_1, owk_2, owk_3, owk_4, owk_5, orw_0, orw_1, fsc_0, fsc_1, fsc_2, b67_10, b67_11, b67_12, Nat.add_assoc, Nat.reduceAdd, gv_ite, gw_ite, gw_mk, gw_1, gw_2, v_nlz, v_mod, v_isIn, v_at hB hP, v_last hB hP, v_append hB hP, v_begin hB hP, v_isB hB hP, v_isO hB hP, v_prom hB hP, v_has hB hP, v_rm hB hP, v_lastChild hB hP, v_addValue hB hP, v_note hB hP, v_code, v_num, v_cu hB hP, v_hti hB hP, v_hto hB hP, v_hst hB hP, v_sw hB hP, v_wants hB hP, v_nwt hB hP, v_fwm hB hP, v_src hB hP, v_would hB hP, v_halt hB hP, v_free hB hP, v_block hB hP, v_end hB hP, v_ask hB hP, v_take50 hB hP, v_take hB hP, v_work hB hP, v_adv hB hP, v_fork hB hP, v_await hB hP, v_join hB hP, v_cb_L2 hB hP, v_cb hB hP, v_kp hB hP, v_go202 hB hP, v_go35 hB hP, hc]
theorem gw_eta {α : Type} {q : α × gSt} : gw B P (q.1, q.2) = gw B P q := rfl
theorem v_act (hB : 30 ≤ B) (hP : 30 ≤ P) : f_X1_act (gv B P st) B a = gw B P (f_X1_act st P a) := by
  simp only [f_X1_act, gv_at hB, gv_at0 hB, gv_su hB hP, gv_su0 hB hP, gv_lo, otk_eq, owk_eq, orw_eq, otk_lt, owk_0, owk_1, owk_2, owk_3, owk_4, owk_5, orw_0, orw_1, fsc_0, fsc_1, fsc_2, b67_10, b67_11, b67_12, Nat.add_assoc, Nat.reduceAdd, gv_ite, gw_ite, gw_mk, gw_1, gw_2, v_nlz, v_mod, v_isIn, v_at hB hP, v_last hB hP, v_append hB hP, v_begin hB hP, v_isB hB hP, v_isO hB hP, v_prom hB hP, v_has hB hP, v_rm hB hP, v_lastChild hB hP, v_addValue hB hP, v_note hB hP, v_code, v_num, v_cu hB hP, v_hti hB hP, v_hto hB hP, v_hst hB hP, v_sw hB hP, v_wants hB hP, v_nwt hB hP, v_fwm hB hP, v_src hB hP, v_would hB hP, v_halt hB hP, v_free hB hP, v_block hB hP, v_end hB hP, v_ask hB hP, v_take50 hB hP, v_take hB hP, v_work hB hP, v_adv hB hP, v_fork hB hP, v_await hB hP, v_join hB hP, v_cb_L2 hB hP, v_cb hB hP, v_kp hB hP, v_go202 hB hP, v_go35 hB hP, v_goOn hB hP, gw_eta]
theorem v_pt_L2 (hB : 30 ≤ B) (hP : 30 ≤ P) {K K1 : gSt → Int32 → gSt} (hK : ∀ st x, K (gv B P st) x = gv B P (K1 st x)) : ∀ (n : Nat) (st : gSt) (b y : Int32), f_X1_passTick_L2 B K x n (gv B P st) b y = gv B P (f_X1_passTick_L2 P K1 x n st b y) := by
  intro n
  induction n with
  | zero => intros; rfl
  | succ n ih =>
    intros
    simp only [f_X1_passTick_L2, v_act hB hP, gw_1, gw_2, hK, gv_ite, ih]
theorem v_pt_L1 (hB : 30 ≤ B) (hP : 30 ≤ P) : ∀ (n : Nat) (st : gSt) (x : Int32), f_X1_passTick_L1 B n (gv B P st) x = gv B P (f_X1_passTick_L1 P n st x) := by
  intro n
  induction n with
  | zero => intros; rfl
  | succ n ih =>
    intro st x
    have h2 := fun (st : gSt) (b y : Int32) => v_pt_L2 (x := x) hB hP ih 1000001 st b y
    simp only [f_X1_passTick_L1, gv_at hB, gv_at0 hB, gv_su hB hP, gv_su0 hB hP, gv_lo, otk_eq, owk_eq, orw_eq, otk_lt, owk_0, owk_1, owk_2, owk_3, owk_4, owk_5, orw_0, orw_1, fsc_0, fsc_1, fsc_2, b67_10, b67_11, b67_12, Nat.add_assoc, Nat.reduceAdd, gv_ite, gw_ite, gw_mk, gw_1, gw_2, v_nlz, v_mod, v_isIn, v_note hB hP, h2]
theorem v_pt (hB : 30 ≤ B) (hP : 30 ≤ P) : f_X1_passTick (gv B P st) B = gv B P (f_X1_passTick st P) := by
  simp only [f_X1_passTick, gv_at0 hB, v_pt_L1 hB hP]
end GV
end
section
/-! ROWS AND STACKS as lists: rl g i is what the row at the cell i holds, in order. -/
theorem su_at {g : gSt} {i k : Nat} {v : Int32} : gsu g i k v i k = v := gsu_at
theorem su_ni {g : gSt} {i k a b : Nat} {v : Int32} (h : a ≠ i) : gsu g i k v a b = g a b := gsu_ni h
theorem su_nk {g : gSt} {i k a b : Nat} {v : Int32} (h : b ≠ k) : gsu g i k v a b = g a b := gsu_nk h
theorem le24 {m : Nat} (h : m < 24) : ¬ (24 : Int32) ≤ nI m := nI_ge (b := 24) h (by omega)
theorem le5 {m : Nat} (h : m < 5) : ¬ (5 : Int32) ≤ nI m := nI_ge (b := 5) h (by omega)
def rl (g : gSt) (i : Nat) : List Int32 := (List.range (gsz g i)).map (fun j => g (i + 1) j)
def rok (g : gSt) (i : Nat) : Prop := ∃ m : Nat, m ≤ 24 ∧ g i 1 = nI m
theorem rok_sz {g : gSt} {i m : Nat} (hm : m ≤ 24) (h : g i 1 = nI m) : gsz g i = m := by
  unfold gsz
  rw [h, nI_clamp (by omega)]
  omega
theorem rl_len {g : gSt} {i : Nat} : (rl g i).length = gsz g i := by unfold rl; simp
theorem rok_len {g : gSt} {i : Nat} (h : rok g i) : g i 1 = nI (rl g i).length ∧ (rl g i).length ≤ 24 := by
  obtain ⟨m, hm, e⟩ := h
  rw [rl_len, rok_sz hm e]
  exact ⟨e, hm⟩
theorem rl_of {g : gSt} {i m : Nat} (hm : m ≤ 24) (h : g i 1 = nI m) : rl g i = (List.range m).map (fun j => g (i + 1) j) := by
  unfold rl
  rw [rok_sz hm h]
/-- a row whose two cells are as they were -/
theorem rl_same {g g' : gSt} {i : Nat} (h0 : g' i 1 = g i 1) (h1 : ∀ k, g' (i + 1) k = g (i + 1) k) : rl g' i = rl g i := by
  unfold rl gsz
  rw [h0]
  exact List.map_congr_left (fun j _ => h1 j)
theorem rok_same {g g' : gSt} {i : Nat} (h0 : g' i 1 = g i 1) (h : rok g i) : rok g' i := by
  obtain ⟨m, hm, e⟩ := h
  exact ⟨m, hm, h0.trans e⟩
/-! append -/
theorem ap_eq {g : gSt} {i m : Nat} {x : Int32} (hm : m < 24) (h : g i 1 = nI m) : f_append g i x = gsu (gsu g (i + 1) m x) i 1 (nI (m + 1)) := by
  unfold f_append
  have e1 : ¬ (nI m < 0) := nI_pos (by omega)
  have e2 : ¬ ((24 : Int32) ≤ nI m) := le24 hm
  rw [h, if_neg e1, if_neg e2, nI_clamp (by omega), nI_succ]
theorem ap_fr {g : gSt} {i a b : Nat} {x : Int32} (h1 : a ≠ i) (h2 : a ≠ i + 1) : f_append g i x a b = g a b := by
  unfold f_append
  split
  · rfl
  · split
    · rfl
    · rw [su_ni h1, su_ni h2]
theorem ap_fr1 {g : gSt} {i b : Nat} {x : Int32} (h : b ≠ 1) : f_append g i x i b = g i b := by
  unfold f_append
  split
  · rfl
  · split
    · rfl
    · rw [su_nk h, su_ni (by omega)]
theorem ap_fr2 {g : gSt} {i b : Nat} {x : Int32} (h : 24 ≤ b) : f_append g i x (i + 1) b = g (i + 1) b := by
  unfold f_append
  split
  · rfl
  · split
    · rfl
    · rename_i c1 c2
      have := cl_lt (n := 24) c1 c2 rfl
      rw [su_ni (by omega), su_nk (by omega)]
theorem ap_rok {g : gSt} {i : Nat} {x : Int32} (h : rok g i) (hl : (rl g i).length < 24) : rok (f_append g i x) i := by
  obtain ⟨m, hm, e⟩ := h
  rw [rl_len, rok_sz hm e] at hl
  rw [ap_eq hl e]
  exact ⟨m + 1, hl, su_at⟩
theorem ap_rl {g : gSt} {i : Nat} {x : Int32} (h : rok g i) (hl : (rl g i).length < 24) : rl (f_append g i x) i = rl g i ++ [x] := by
  obtain ⟨m, hm, e⟩ := h
  rw [rl_len, rok_sz hm e] at hl
  rw [ap_eq hl e, rl_of (m := m + 1) hl su_at, rl_of hm e, List.range_succ, List.map_append]
  congr 1
  · refine List.map_congr_left (fun j hj => ?_)
    have := List.mem_range.mp hj
    rw [su_ni (by omega), su_nk (by omega)]
  · show [gsu (gsu g (i + 1) m x) i 1 (nI (m + 1)) (i + 1) m] = [x]
    rw [su_ni (by omega), su_at]
/-! remove -/
theorem rml_inv {g : gSt} {i : Nat} {x : Int32} : ∀ k, (f_rml g i x k).2 ≤ k ∧ (∀ j, k ≤ j → (f_rml g i x k).1 (i + 1) j = g (i + 1) j) ∧ (List.range (f_rml g i x k).2).map (fun j => (f_rml g i x k).1 (i + 1) j) = ((List.range k).map (fun j => g (i + 1) j)).filter (fun y => decide (y ≠ x)) ∧ ∀ a b, (a ≠ i + 1 ∨ k ≤ b) → (f_rml g i x k).1 a b = g a b := by
  intro k
  induction k with
  | zero => exact ⟨Nat.le_refl _, fun _ _ => rfl, rfl, fun _ _ _ => rfl⟩
  | succ k ih =>
    obtain ⟨h1, h2, h3, h4⟩ := ih
    have e := h2 k (Nat.le_refl _)
    rw [List.range_succ, List.map_append, List.filter_append, ← h3]
    by_cases c : g (i + 1) k = x
    · have hq : f_rml g i x (k + 1) = f_rml g i x k := by
        show (if _ then _ else _) = _
        rw [if_pos (e.trans c)]
      rw [hq]
      refine ⟨by omega, fun j hj => h2 j (by omega), ?_, fun a b h => h4 a b (by omega)⟩
      simp [c]
    · have hq : f_rml g i x (k + 1) = (gsu (f_rml g i x k).1 (i + 1) (f_rml g i x k).2 (g (i + 1) k), (f_rml g i x k).2 + 1) := by
        show (if _ then _ else _) = _
        rw [if_neg (fun q => c (e.symm.trans q)), e]
      rw [hq]
      refine ⟨by show (f_rml g i x k).2 + 1 ≤ k + 1; omega, fun j hj => ?_, ?_, fun a b h => ?_⟩
      · show gsu _ _ _ _ _ _ = _
        rw [su_nk (by omega)]
        exact h2 j (by omega)
      · show (List.range ((f_rml g i x k).2 + 1)).map (fun j => gsu (f_rml g i x k).1 (i + 1) (f_rml g i x k).2 (g (i + 1) k) (i + 1) j) = _
        rw [List.range_succ, List.map_append]
        congr 1
        · refine List.map_congr_left (fun j hj => ?_)
          have := List.mem_range.mp hj
          rw [su_nk (by omega)]
        · simp [su_at, c]
      · show gsu _ _ _ _ _ _ = _
        by_cases c2 : a = i + 1
        · subst c2
          rw [su_nk (by omega)]
          exact h4 _ b (by omega)
        · rw [su_ni c2]
          exact h4 a b (by omega)
theorem rm_rl {g : gSt} {i : Nat} {x : Int32} (h : rok g i) : rl (f_rm g i x) i = (rl g i).filter (fun y => decide (y ≠ x)) := by
  obtain ⟨m, hm, e⟩ := h
  obtain ⟨h1, -, h3, -⟩ := rml_inv (g := g) (i := i) (x := x) m
  have e1 : f_rm g i x = gsu (f_rml g i x m).1 i 1 (nI (f_rml g i x m).2) := by unfold f_rm; rw [rok_sz hm e]
  rw [e1, rl_of (m := (f_rml g i x m).2) (by omega) su_at, rl_of hm e, ← h3]
  refine List.map_congr_left (fun j hj => ?_)
  rw [su_ni (by omega)]
theorem rm_rok {g : gSt} {i : Nat} {x : Int32} : rok (f_rm g i x) i := by
  have h1 := (rml_inv (g := g) (i := i) (x := x) (gsz g i)).1
  have h2 : gsz g i ≤ 24 := by unfold gsz; omega
  exact ⟨(f_rml g i x (gsz g i)).2, by omega, by unfold f_rm; rw [su_at]⟩
theorem rm_fr {g : gSt} {i a b : Nat} {x : Int32} (h1 : a ≠ i) (h2 : a ≠ i + 1) : f_rm g i x a b = g a b := by
  unfold f_rm
  rw [su_ni h1]
  exact (rml_inv (g := g) (i := i) (x := x) _).2.2.2 a b (Or.inl h2)
theorem rm_fr1 {g : gSt} {i b : Nat} {x : Int32} (h : b ≠ 1) : f_rm g i x i b = g i b := by
  unfold f_rm
  rw [su_nk h]
  exact (rml_inv (g := g) (i := i) (x := x) _).2.2.2 i b (Or.inl (by omega))
theorem rm_fr2 {g : gSt} {i b : Nat} {x : Int32} (h : 24 ≤ b) : f_rm g i x (i + 1) b = g (i + 1) b := by
  unfold f_rm
  rw [su_ni (by omega)]
  exact (rml_inv (g := g) (i := i) (x := x) _).2.2.2 (i + 1) b (Or.inr (by unfold gsz; omega))
/-! has, at, last -/
theorem has_eq {g : gSt} {i : Nat} {x : Int32} : f_has g i x = if x ∈ rl g i then 1 else 0 := by
  unfold f_has rl
  by_cases c : x ∈ (List.range (gsz g i)).map (fun j => g (i + 1) j)
  · rw [if_pos c, if_pos]
    obtain ⟨j, hj, e⟩ := List.mem_map.mp c
    exact List.any_eq_true.mpr ⟨j, hj, by simp [e]⟩
  · rw [if_neg c, if_neg]
    intro q
    obtain ⟨j, hj, e⟩ := List.any_eq_true.mp q
    exact c (List.mem_map.mpr ⟨j, hj, of_decide_eq_true e⟩)
theorem at_in {g : gSt} {i j : Nat} (h : rok g i) (hj : j < (rl g i).length) : f_at g i (nI j) = (rl g i)[j] := by
  obtain ⟨m, hm, e⟩ := h
  have hl := hj
  rw [rl_len, rok_sz hm e] at hl
  unfold f_at
  rw [if_neg (nI_pos (by omega)), e, if_neg (nI_ge hl (by omega)), if_neg (le24 (by omega)), nI_clamp (by omega)]
  simp [rl]
theorem at_mem {g : gSt} {i j : Nat} (h : rok g i) (hj : j < (rl g i).length) : f_at g i (nI j) ∈ rl g i := by
  rw [at_in h hj]
  exact List.getElem_mem hj
theorem last_0 {g : gSt} {i : Nat} (h : rok g i) (h0 : rl g i = []) : f_last g i = -1 := by
  obtain ⟨h1, -⟩ := rok_len h
  unfold f_last f_at
  rw [h1, h0, if_pos (by decide)]
theorem last_mem {g : gSt} {i : Nat} (h : rok g i) (h0 : rl g i ≠ []) : f_last g i ∈ rl g i := by
  obtain ⟨h1, h2⟩ := rok_len h
  have hp : 0 < (rl g i).length := List.length_pos_iff.mpr h0
  obtain ⟨j, hj⟩ : ∃ j, (rl g i).length = j + 1 := ⟨(rl g i).length - 1, by omega⟩
  unfold f_last
  rw [h1, hj, nI_pred]
  exact at_mem h (by omega)
/-! how often a task stands in a row -/
def cnt (g : gSt) (i t : Nat) : Nat := (rl g i).count (nI t)
theorem cnt_same {g g' : gSt} {i t : Nat} (h0 : g' i 1 = g i 1) (h1 : ∀ k, g' (i + 1) k = g (i + 1) k) : cnt g' i t = cnt g i t := by
  unfold cnt
  rw [rl_same h0 h1]
theorem cnt_ap {g : gSt} {i t s : Nat} (h : rok g i) (hl : (rl g i).length < 24) (ht : t < 2 ^ 31) (hs : s < 2 ^ 31) : cnt (f_append g i (nI t)) i s = cnt g i s + if s = t then 1 else 0 := by
  unfold cnt
  rw [ap_rl h hl, List.count_append]
  by_cases c : s = t
  · subst c; simp
  · have q0 : List.count (nI s) [nI t] = 0 := List.count_eq_zero.mpr (fun q => c ((nI_eq hs ht).mp (List.mem_singleton.mp q)))
    rw [if_neg c, q0]
theorem cnt_rm {g : gSt} {i t s : Nat} (h : rok g i) (ht : t < 2 ^ 31) (hs : s < 2 ^ 31) : cnt (f_rm g i (nI t)) i s = if s = t then 0 else cnt g i s := by
  unfold cnt
  rw [rm_rl h]
  by_cases c : s = t
  · subst c
    rw [if_pos rfl, List.count_eq_zero.mpr]
    intro q
    have := (List.mem_filter.mp q).2
    simp at this
  · rw [if_neg c, List.count_filter]
    exact decide_eq_true (fun q => c ((nI_eq hs ht).mp q))
/-! sums -/
def sm (f : Nat → Nat) : Nat → Nat
  | 0 => 0
  | n + 1 => sm f n + f n
theorem sm_congr {f f' : Nat → Nat} : ∀ {n : Nat}, (∀ j, j < n → f' j = f j) → sm f' n = sm f n := by
  intro n
  induction n with
  | zero => intro _; rfl
  | succ n ih =>
    intro h
    show sm f' n + f' n = sm f n + f n
    rw [ih (fun j hj => h j (by omega)), h n (by omega)]
theorem sm_upd {f f' : Nat → Nat} {a : Nat} : ∀ {n : Nat}, (∀ j, j < n → j ≠ a → f' j = f j) → a < n → sm f' n + f a = sm f n + f' a := by
  intro n
  induction n with
  | zero => intro _ h; omega
  | succ n ih =>
    intro h ha
    show sm f' n + f' n + f a = sm f n + f n + f' a
    by_cases c : a = n
    · subst c
      rw [sm_congr (f := f) (f' := f') (n := a) (fun j hj => h j (by omega) (by omega))]
      omega
    · have h1 := ih (fun j hj => h j (by omega)) (by omega)
      have h2 := h n (by omega) (fun q => c q.symm)
      omega
theorem sm_le {f : Nat → Nat} {a : Nat} : ∀ {n : Nat}, a < n → f a ≤ sm f n := by
  intro n
  induction n with
  | zero => intro h; omega
  | succ n ih =>
    intro h
    show f a ≤ sm f n + f n
    by_cases c : a = n
    · subst c; omega
    · have := ih (by omega); omega
theorem sm_0 {f : Nat → Nat} : ∀ {n : Nat}, (∀ j, j < n → f j = 0) → sm f n = 0 := by
  intro n
  induction n with
  | zero => intro _; rfl
  | succ n ih =>
    intro h
    show sm f n + f n = 0
    rw [ih (fun j hj => h j (by omega)), h n (by omega)]
theorem sm_mono {f f' : Nat → Nat} : ∀ {n : Nat}, (∀ j, j < n → f' j ≤ f j) → sm f' n ≤ sm f n := by
  intro n
  induction n with
  | zero => intro _; exact Nat.le_refl _
  | succ n ih =>
    intro h
    show sm f' n + f' n ≤ sm f n + f n
    have := ih (fun j hj => h j (by omega))
    have := h n (by omega)
    omega
theorem sm_one {a v : Nat} : ∀ {n : Nat}, sm (fun j => if j = a then v else 0) n = if a < n then v else 0 := by
  intro n
  induction n with
  | zero => rfl
  | succ n ih =>
    show sm (fun j => if j = a then v else 0) n + (if n = a then v else 0) = _
    rw [ih]
    by_cases c : n = a
    · subst c; simp
    · rw [if_neg c]
      by_cases c2 : a < n
      · rw [if_pos c2, if_pos (by omega)]; rfl
      · rw [if_neg c2, if_neg (by omega)]
theorem sm_add {f f' : Nat → Nat} : ∀ {n : Nat}, sm (fun j => f j + f' j) n = sm f n + sm f' n := by
  intro n
  induction n with
  | zero => rfl
  | succ n ih =>
    show sm (fun j => f j + f' j) n + (f n + f' n) = sm f n + f n + (sm f' n + f' n)
    rw [ih]; omega
theorem sm_swap {f : Nat → Nat → Nat} {n : Nat} : ∀ {k : Nat}, sm (fun a => sm (fun b => f a b) n) k = sm (fun b => sm (fun a => f a b) k) n := by
  intro k
  induction k with
  | zero => exact (sm_0 (fun _ _ => rfl)).symm
  | succ k ih =>
    show sm (fun a => sm (fun b => f a b) n) k + sm (fun b => f k b) n = sm (fun b => sm (fun a => f a b) k + f k b) n
    rw [ih, sm_add]
theorem len_sm {n : Nat} (hn : n ≤ 24) : ∀ {l : List Int32}, (∀ y ∈ l, ∃ t, t < n ∧ y = nI t) → l.length = sm (fun t => l.count (nI t)) n := by
  intro l
  induction l with
  | nil => intro _; exact (sm_0 (fun _ _ => rfl)).symm
  | cons y l ih =>
    intro h
    obtain ⟨t, ht, rfl⟩ := h y List.mem_cons_self
    have e : sm (fun s => (nI t :: l).count (nI s)) n = sm (fun s => l.count (nI s) + if s = t then 1 else 0) n := sm_congr (fun s hs => by
      rw [List.count_cons]
      congr 1
      by_cases c : s = t
      · subst c; simp
      · rw [if_neg c, if_neg]
        intro q
        exact c ((nI_eq (by omega) (by omega)).mp (beq_iff_eq.mp q).symm))
    rw [e, sm_add, sm_one, if_pos ht, ← ih (fun y hy => h y (List.mem_cons_of_mem _ hy))]
    rfl
end
section
/-! WHERE TASKS ARE. A pool at 30: task t at 43 + t, the row j (0 the common one, w + 1 that of the worker w) at rc j, the stack of the worker w at sc w. -/
def rc (j : Nat) : Nat := if j = 0 then 40 else 62 + 6 * j
def sc (w : Nat) : Nat := 70 + 6 * w
theorem rc_0 : rc 0 = 40 := rfl
theorem rc_s (w : Nat) : rc (w + 1) = 68 + 6 * w := by unfold rc; rw [if_neg (by omega)]; omega
theorem tk_n {t : Nat} (h : t < 24) : f_tk 30 (nI t) = 43 + t := by
  unfold f_tk
  rw [if_neg (nI_pos (by omega)), if_neg (le24 h), nI_clamp (by omega)]
theorem wk_n {w : Nat} (h : w < 5) : f_wk 30 (nI w) = 67 + 6 * w := by
  unfold f_wk
  rw [if_neg (nI_pos (by omega)), if_neg (le5 h), nI_clamp (by omega)]
theorem row_n {w : Nat} (h : w < 5) : f_row 30 (nI w) = rc (w + 1) := by
  have e : ¬ nI w = -1 := fun q => by
    have h1 := nI_pos (n := w) (by omega)
    rw [q] at h1
    exact h1 (by decide)
  unfold f_row
  rw [if_neg e, wk_n h, rc_s]
  omega
theorem row_c : f_row 30 (-1) = 40 := by unfold f_row; rw [if_pos rfl]
/-- cells of rows and stacks -/
def RS (a : Nat) : Prop := a = 40 ∨ a = 41 ∨ (67 ≤ a ∧ a < 97 ∧ 1 ≤ (a - 67) % 6 ∧ (a - 67) % 6 ≤ 4)
theorem RS_r {j : Nat} (h : j ≤ 5) : RS (rc j) := by unfold RS rc; split <;> omega
theorem RS_r1 {j : Nat} (h : j ≤ 5) : RS (rc j + 1) := by unfold RS rc; split <;> omega
theorem RS_s {w : Nat} (h : w < 5) : RS (sc w) := by unfold RS sc; omega
theorem RS_s1 {w : Nat} (h : w < 5) : RS (sc w + 1) := by unfold RS sc; omega
theorem RS_t {t : Nat} (h : t < 24) : ¬ RS (43 + t) := by unfold RS; omega
theorem RS_30 : ¬ RS 30 := by unfold RS; omega
theorem RS_32 : ¬ RS 32 := by unfold RS; omega
theorem RS_42 : ¬ RS 42 := by unfold RS; omega
theorem RS_w (w : Nat) : ¬ RS (67 + 6 * w) := by unfold RS; omega
theorem RS_n (w : Nat) : ¬ RS (72 + 6 * w) := by unfold RS; omega
theorem rc_ne {i j : Nat} (h : i ≠ j) : rc i ≠ rc j ∧ rc i ≠ rc j + 1 ∧ rc i + 1 ≠ rc j ∧ rc i + 1 ≠ rc j + 1 := by
  unfold rc
  split <;> split <;> omega
theorem sc_ne {i j : Nat} (h : i ≠ j) : sc i ≠ sc j ∧ sc i ≠ sc j + 1 ∧ sc i + 1 ≠ sc j ∧ sc i + 1 ≠ sc j + 1 := by
  unfold sc; omega
theorem rs_ne (i j : Nat) : rc i ≠ sc j ∧ rc i ≠ sc j + 1 ∧ rc i + 1 ≠ sc j ∧ rc i + 1 ≠ sc j + 1 := by
  unfold rc sc
  split <;> omega
theorem RS_ne {a i : Nat} (ha : RS a) (hi : ¬ RS i) : a ≠ i := fun q => hi (q ▸ ha)
/-- how often the task t stands in all rows, on all stacks -/
def Rn (wc : Nat) (g : gSt) (t : Nat) : Nat := sm (fun j => cnt g (rc j) t) (wc + 1)
def Sn (wc : Nat) (g : gSt) (t : Nat) : Nat := sm (fun w => cnt g (sc w) t) wc
/-- rows and stacks are whole, and hold tasks alone -/
def Rk (n wc : Nat) (g : gSt) : Prop := (∀ j, j ≤ wc → rok g (rc j) ∧ ∀ y ∈ rl g (rc j), ∃ t, t < n ∧ y = nI t) ∧ (∀ w, w < wc → rok g (sc w) ∧ ∀ y ∈ rl g (sc w), ∃ t, t < n ∧ y = nI t)
/-- only rows and stacks are otherwise -/
def RF (g g' : gSt) : Prop := ∀ a b, ¬ RS a → g' a b = g a b
theorem RF_rf (g : gSt) : RF g g := fun _ _ _ => rfl
theorem RF_tr {a b c : gSt} (h1 : RF a b) (h2 : RF b c) : RF a c := fun x y h => (h2 x y h).trans (h1 x y h)
theorem RF_rm {g : gSt} {i : Nat} {x : Int32} (h0 : RS i) (h1 : RS (i + 1)) : RF g (f_rm g i x) := fun a b h => rm_fr (fun q => h (q ▸ h0)) (fun q => h (q ▸ h1))
theorem RF_ap {g : gSt} {i : Nat} {x : Int32} (h0 : RS i) (h1 : RS (i + 1)) : RF g (f_append g i x) := fun a b h => ap_fr (fun q => h (q ▸ h0)) (fun q => h (q ▸ h1))
/-- rows and stacks are as they were -/
def RE (wc : Nat) (g g' : gSt) : Prop := (∀ j, j ≤ wc → g' (rc j) 1 = g (rc j) 1 ∧ ∀ k, g' (rc j + 1) k = g (rc j + 1) k) ∧ (∀ w, w < wc → g' (sc w) 1 = g (sc w) 1 ∧ ∀ k, g' (sc w + 1) k = g (sc w + 1) k)
theorem RE_su {wc : Nat} {g g1 : gSt} {i k : Nat} {v : Int32} (hw : wc ≤ 5) (h : RE wc g g1) (hi : ¬ RS i) : RE wc g (gsu g1 i k v) := by
  refine ⟨fun j hj => ⟨?_, fun b => ?_⟩, fun w hj => ⟨?_, fun b => ?_⟩⟩
  · rw [su_ni (RS_ne (RS_r (show j ≤ 5 by omega)) hi)]; exact (h.1 j hj).1
  · rw [su_ni (RS_ne (RS_r1 (show j ≤ 5 by omega)) hi)]; exact (h.1 j hj).2 b
  · rw [su_ni (RS_ne (RS_s (show w < 5 by omega)) hi)]; exact (h.2 w hj).1
  · rw [su_ni (RS_ne (RS_s1 (show w < 5 by omega)) hi)]; exact (h.2 w hj).2 b
theorem RE_rf {wc : Nat} {g : gSt} : RE wc g g := ⟨fun _ _ => ⟨rfl, fun _ => rfl⟩, fun _ _ => ⟨rfl, fun _ => rfl⟩⟩
theorem RE_tr {wc : Nat} {g g1 g2 : gSt} (h1 : RE wc g g1) (h2 : RE wc g1 g2) : RE wc g g2 := ⟨fun j hj => ⟨((h2.1 j hj).1).trans (h1.1 j hj).1, fun k => ((h2.1 j hj).2 k).trans ((h1.1 j hj).2 k)⟩, fun j hj => ⟨((h2.2 j hj).1).trans (h1.2 j hj).1, fun k => ((h2.2 j hj).2 k).trans ((h1.2 j hj).2 k)⟩⟩
theorem RE_Rk {n wc : Nat} {g g' : gSt} (h : RE wc g g') (hk : Rk n wc g) : Rk n wc g' := by
  refine ⟨fun j hj => ⟨rok_same (h.1 j hj).1 (hk.1 j hj).1, ?_⟩, fun w hj => ⟨rok_same (h.2 w hj).1 (hk.2 w hj).1, ?_⟩⟩
  · rw [rl_same (h.1 j hj).1 (h.1 j hj).2]; exact (hk.1 j hj).2
  · rw [rl_same (h.2 w hj).1 (h.2 w hj).2]; exact (hk.2 w hj).2
theorem RE_Rn {wc : Nat} {g g' : gSt} (h : RE wc g g') (t : Nat) : Rn wc g' t = Rn wc g t := sm_congr (fun j hj => cnt_same (h.1 j (by omega)).1 (h.1 j (by omega)).2)
theorem RE_Sn {wc : Nat} {g g' : gSt} (h : RE wc g g') (t : Nat) : Sn wc g' t = Sn wc g t := sm_congr (fun j hj => cnt_same (h.2 j hj).1 (h.2 j hj).2)
theorem Rk_up {n n' wc : Nat} {g : gSt} (h : Rk n wc g) (hn : n ≤ n') : Rk n' wc g := ⟨fun j hj => ⟨(h.1 j hj).1, fun y hy => by obtain ⟨t, a, b⟩ := (h.1 j hj).2 y hy; exact ⟨t, by omega, b⟩⟩, fun j hj => ⟨(h.2 j hj).1, fun y hy => by obtain ⟨t, a, b⟩ := (h.2 j hj).2 y hy; exact ⟨t, by omega, b⟩⟩⟩
/-- a task that isn't there stands nowhere -/
theorem Rn_out {n wc t : Nat} {g : gSt} (h : Rk n wc g) (hn : n ≤ 24) (ht : n ≤ t) (h31 : t < 2 ^ 31) : Rn wc g t = 0 ∧ Sn wc g t = 0 := by
  refine ⟨sm_0 (fun j hj => List.count_eq_zero.mpr (fun q => ?_)), sm_0 (fun j hj => List.count_eq_zero.mpr (fun q => ?_))⟩
  · obtain ⟨s, hs, e⟩ := (h.1 j (by omega)).2 _ q
    have := (nI_eq h31 (by omega)).mp e
    omega
  · obtain ⟨s, hs, e⟩ := (h.2 j hj).2 _ q
    have := (nI_eq h31 (by omega)).mp e
    omega
/-! one row, one stack changes -/
theorem cnt_fr {g g' : gSt} {i t : Nat} (h : ∀ b, g' i b = g i b) (h1 : ∀ b, g' (i + 1) b = g (i + 1) b) : cnt g' i t = cnt g i t := cnt_same (h 1) h1
section OneRow
variable {n wc j t s : Nat} {g : gSt}
theorem rmr_o {x : Int32} {i : Nat} (h : i ≠ j) : (f_rm g (rc j) x (rc i) 1 = g (rc i) 1 ∧ ∀ k, f_rm g (rc j) x (rc i + 1) k = g (rc i + 1) k) := ⟨rm_fr (rc_ne h).1 (rc_ne h).2.1, fun _ => rm_fr (rc_ne h).2.2.1 (rc_ne h).2.2.2⟩
theorem rmr_s {x : Int32} {i : Nat} : (f_rm g (rc j) x (sc i) 1 = g (sc i) 1 ∧ ∀ k, f_rm g (rc j) x (sc i + 1) k = g (sc i + 1) k) := ⟨rm_fr (fun q => (rs_ne j i).1 q.symm) (fun q => (rs_ne j i).2.2.1 q.symm), fun _ => rm_fr (fun q => (rs_ne j i).2.1 q.symm) (fun q => (rs_ne j i).2.2.2 q.symm)⟩
theorem rms_o {x : Int32} {i : Nat} (h : i ≠ j) : (f_rm g (sc j) x (sc i) 1 = g (sc i) 1 ∧ ∀ k, f_rm g (sc j) x (sc i + 1) k = g (sc i + 1) k) := ⟨rm_fr (sc_ne h).1 (sc_ne h).2.1, fun _ => rm_fr (sc_ne h).2.2.1 (sc_ne h).2.2.2⟩
theorem rms_r {x : Int32} {i : Nat} : (f_rm g (sc j) x (rc i) 1 = g (rc i) 1 ∧ ∀ k, f_rm g (sc j) x (rc i + 1) k = g (rc i + 1) k) := ⟨rm_fr (rs_ne i j).1 (rs_ne i j).2.1, fun _ => rm_fr (rs_ne i j).2.2.1 (rs_ne i j).2.2.2⟩
theorem apr_o {x : Int32} {i : Nat} (h : i ≠ j) : (f_append g (rc j) x (rc i) 1 = g (rc i) 1 ∧ ∀ k, f_append g (rc j) x (rc i + 1) k = g (rc i + 1) k) := ⟨ap_fr (rc_ne h).1 (rc_ne h).2.1, fun _ => ap_fr (rc_ne h).2.2.1 (rc_ne h).2.2.2⟩
theorem apr_s {x : Int32} {i : Nat} : (f_append g (rc j) x (sc i) 1 = g (sc i) 1 ∧ ∀ k, f_append g (rc j) x (sc i + 1) k = g (sc i + 1) k) := ⟨ap_fr (fun q => (rs_ne j i).1 q.symm) (fun q => (rs_ne j i).2.2.1 q.symm), fun _ => ap_fr (fun q => (rs_ne j i).2.1 q.symm) (fun q => (rs_ne j i).2.2.2 q.symm)⟩
theorem aps_o {x : Int32} {i : Nat} (h : i ≠ j) : (f_append g (sc j) x (sc i) 1 = g (sc i) 1 ∧ ∀ k, f_append g (sc j) x (sc i + 1) k = g (sc i + 1) k) := ⟨ap_fr (sc_ne h).1 (sc_ne h).2.1, fun _ => ap_fr (sc_ne h).2.2.1 (sc_ne h).2.2.2⟩
theorem aps_r {x : Int32} {i : Nat} : (f_append g (sc j) x (rc i) 1 = g (rc i) 1 ∧ ∀ k, f_append g (sc j) x (rc i + 1) k = g (rc i + 1) k) := ⟨ap_fr (rs_ne i j).1 (rs_ne i j).2.1, fun _ => ap_fr (rs_ne i j).2.2.1 (rs_ne i j).2.2.2⟩
/-- taken out of a row -/
theorem Rk_rmr (hk : Rk n wc g) (x : Int32) : Rk n wc (f_rm g (rc j) x) := by
  refine ⟨fun i hi => ?_, fun i hi => ⟨rok_same rmr_s.1 (hk.2 i hi).1, ?_⟩⟩
  · by_cases c : i = j
    · subst c
      refine ⟨rm_rok, fun y hy => ?_⟩
      rw [rm_rl (hk.1 i hi).1] at hy
      exact (hk.1 i hi).2 y (List.mem_filter.mp hy).1
    · refine ⟨rok_same (rmr_o c).1 (hk.1 i hi).1, ?_⟩
      rw [rl_same (rmr_o c).1 (rmr_o c).2]
      exact (hk.1 i hi).2
  · rw [rl_same rmr_s.1 rmr_s.2]
    exact (hk.2 i hi).2
theorem Rk_rms (hk : Rk n wc g) (x : Int32) : Rk n wc (f_rm g (sc j) x) := by
  refine ⟨fun i hi => ⟨rok_same rms_r.1 (hk.1 i hi).1, ?_⟩, fun i hi => ?_⟩
  · rw [rl_same rms_r.1 rms_r.2]
    exact (hk.1 i hi).2
  · by_cases c : i = j
    · subst c
      refine ⟨rm_rok, fun y hy => ?_⟩
      rw [rm_rl (hk.2 i hi).1] at hy
      exact (hk.2 i hi).2 y (List.mem_filter.mp hy).1
    · refine ⟨rok_same (rms_o c).1 (hk.2 i hi).1, ?_⟩
      rw [rl_same (rms_o c).1 (rms_o c).2]
      exact (hk.2 i hi).2
theorem Rk_apr (hk : Rk n wc g) (hl : (rl g (rc j)).length < 24) (ht : t < n) : Rk n wc (f_append g (rc j) (nI t)) := by
  refine ⟨fun i hi => ?_, fun i hi => ⟨rok_same apr_s.1 (hk.2 i hi).1, ?_⟩⟩
  · by_cases c : i = j
    · subst c
      refine ⟨ap_rok (hk.1 i hi).1 hl, fun y hy => ?_⟩
      rw [ap_rl (hk.1 i hi).1 hl] at hy
      rcases List.mem_append.mp hy with h | h
      · exact (hk.1 i hi).2 y h
      · exact ⟨t, ht, List.mem_singleton.mp h⟩
    · refine ⟨rok_same (apr_o c).1 (hk.1 i hi).1, ?_⟩
      rw [rl_same (apr_o c).1 (apr_o c).2]
      exact (hk.1 i hi).2
  · rw [rl_same apr_s.1 apr_s.2]
    exact (hk.2 i hi).2
theorem Rk_aps (hk : Rk n wc g) (hl : (rl g (sc j)).length < 24) (ht : t < n) : Rk n wc (f_append g (sc j) (nI t)) := by
  refine ⟨fun i hi => ⟨rok_same aps_r.1 (hk.1 i hi).1, ?_⟩, fun i hi => ?_⟩
  · rw [rl_same aps_r.1 aps_r.2]
    exact (hk.1 i hi).2
  · by_cases c : i = j
    · subst c
      refine ⟨ap_rok (hk.2 i hi).1 hl, fun y hy => ?_⟩
      rw [ap_rl (hk.2 i hi).1 hl] at hy
      rcases List.mem_append.mp hy with h | h
      · exact (hk.2 i hi).2 y h
      · exact ⟨t, ht, List.mem_singleton.mp h⟩
    · refine ⟨rok_same (aps_o c).1 (hk.2 i hi).1, ?_⟩
      rw [rl_same (aps_o c).1 (aps_o c).2]
      exact (hk.2 i hi).2
/-- the counts behind it -/
theorem Rn_rmr (hk : Rk n wc g) (hj : j ≤ wc) (ht : t < 2 ^ 31) (hs : s < 2 ^ 31) : Rn wc (f_rm g (rc j) (nI t)) s + (if s = t then cnt g (rc j) s else 0) = Rn wc g s := by
  have h1 : sm (fun i => cnt (f_rm g (rc j) (nI t)) (rc i) s) (wc + 1) + cnt g (rc j) s = sm (fun i => cnt g (rc i) s) (wc + 1) + cnt (f_rm g (rc j) (nI t)) (rc j) s := sm_upd (fun i _ c => cnt_same (rmr_o c).1 (rmr_o c).2) (by omega)
  rw [cnt_rm (hk.1 j hj).1 ht hs] at h1
  unfold Rn
  split
  · rename_i c; rw [if_pos c] at h1; omega
  · rename_i c; rw [if_neg c] at h1; omega
theorem Sn_rmr : Sn wc (f_rm g (rc j) (nI t)) s = Sn wc g s := sm_congr (fun i _ => cnt_same rmr_s.1 rmr_s.2)
theorem Sn_rms (hk : Rk n wc g) (hj : j < wc) (ht : t < 2 ^ 31) (hs : s < 2 ^ 31) : Sn wc (f_rm g (sc j) (nI t)) s + (if s = t then cnt g (sc j) s else 0) = Sn wc g s := by
  have h1 : sm (fun i => cnt (f_rm g (sc j) (nI t)) (sc i) s) wc + cnt g (sc j) s = sm (fun i => cnt g (sc i) s) wc + cnt (f_rm g (sc j) (nI t)) (sc j) s := sm_upd (fun i _ c => cnt_same (rms_o c).1 (rms_o c).2) hj
  rw [cnt_rm (hk.2 j hj).1 ht hs] at h1
  unfold Sn
  split
  · rename_i c; rw [if_pos c] at h1; omega
  · rename_i c; rw [if_neg c] at h1; omega
theorem Rn_rms : Rn wc (f_rm g (sc j) (nI t)) s = Rn wc g s := sm_congr (fun i _ => cnt_same rms_r.1 rms_r.2)
theorem Rn_apr (hk : Rk n wc g) (hj : j ≤ wc) (hl : (rl g (rc j)).length < 24) (ht : t < 2 ^ 31) (hs : s < 2 ^ 31) : Rn wc (f_append g (rc j) (nI t)) s = Rn wc g s + (if s = t then 1 else 0) := by
  have h1 : sm (fun i => cnt (f_append g (rc j) (nI t)) (rc i) s) (wc + 1) + cnt g (rc j) s = sm (fun i => cnt g (rc i) s) (wc + 1) + cnt (f_append g (rc j) (nI t)) (rc j) s := sm_upd (fun i _ c => cnt_same (apr_o c).1 (apr_o c).2) (by omega)
  rw [cnt_ap (hk.1 j hj).1 hl ht hs] at h1
  unfold Rn
  omega
theorem Sn_apr : Sn wc (f_append g (rc j) (nI t)) s = Sn wc g s := sm_congr (fun i _ => cnt_same apr_s.1 apr_s.2)
theorem Sn_aps (hk : Rk n wc g) (hj : j < wc) (hl : (rl g (sc j)).length < 24) (ht : t < 2 ^ 31) (hs : s < 2 ^ 31) : Sn wc (f_append g (sc j) (nI t)) s = Sn wc g s + (if s = t then 1 else 0) := by
  have h1 : sm (fun i => cnt (f_append g (sc j) (nI t)) (sc i) s) wc + cnt g (sc j) s = sm (fun i => cnt g (sc i) s) wc + cnt (f_append g (sc j) (nI t)) (sc j) s := sm_upd (fun i _ c => cnt_same (aps_o c).1 (aps_o c).2) hj
  rw [cnt_ap (hk.2 j hj).1 hl ht hs] at h1
  unfold Sn
  omega
theorem Rn_aps : Rn wc (f_append g (sc j) (nI t)) s = Rn wc g s := sm_congr (fun i _ => cnt_same aps_r.1 aps_r.2)
/-- there is a place left for a task that isn't in the row -/
theorem room_r (hk : Rk n wc g) (hn : n ≤ 24) (hj : j ≤ wc) (ht : t < n) (h0 : cnt g (rc j) t = 0) (h1 : ∀ s, s < n → cnt g (rc j) s ≤ 1) : (rl g (rc j)).length < 24 := by
  rw [len_sm hn (hk.1 j hj).2]
  have e : sm (fun s => (rl g (rc j)).count (nI s)) n ≤ sm (fun s => if s = t then 0 else 1) n := sm_mono (fun s hs => by
    by_cases c : s = t
    · subst c
      rw [if_pos rfl]
      exact Nat.le_of_eq h0
    · rw [if_neg c]
      exact h1 s hs)
  have e2 : sm (fun s => if s = t then 0 else 1) n + sm (fun s => if s = t then 1 else 0) n = sm (fun _ => 1) n := by
    rw [← sm_add]
    exact sm_congr (fun s _ => by split <;> rfl)
  have e3 : ∀ k, sm (fun _ => 1) k = k := by
    intro k
    induction k with
    | zero => rfl
    | succ k ih => show sm (fun _ => 1) k + 1 = k + 1; rw [ih]
  rw [sm_one, if_pos ht, e3] at e2
  omega
theorem room_s (hk : Rk n wc g) (hn : n ≤ 24) (hj : j < wc) (ht : t < n) (h0 : cnt g (sc j) t = 0) (h1 : ∀ s, s < n → cnt g (sc j) s ≤ 1) : (rl g (sc j)).length < 24 := by
  rw [len_sm hn (hk.2 j hj).2]
  have e : sm (fun s => (rl g (sc j)).count (nI s)) n ≤ sm (fun s => if s = t then 0 else 1) n := sm_mono (fun s hs => by
    by_cases c : s = t
    · subst c
      rw [if_pos rfl]
      exact Nat.le_of_eq h0
    · rw [if_neg c]
      exact h1 s hs)
  have e2 : sm (fun s => if s = t then 0 else 1) n + sm (fun s => if s = t then 1 else 0) n = sm (fun _ => 1) n := by
    rw [← sm_add]
    exact sm_congr (fun s _ => by split <;> rfl)
  have e3 : ∀ k, sm (fun _ => 1) k = k := by
    intro k
    induction k with
    | zero => rfl
    | succ k ih => show sm (fun _ => 1) k + 1 = k + 1; rw [ih]
  rw [sm_one, if_pos ht, e3] at e2
  omega
theorem cnt_Rn {i : Nat} (hj : i ≤ wc) : cnt g (rc i) t ≤ Rn wc g t := sm_le (f := fun j => cnt g (rc j) t) (by omega)
theorem cnt_Sn {i : Nat} (hj : i < wc) : cnt g (sc i) t ≤ Sn wc g t := sm_le (f := fun j => cnt g (sc j) t) hj
theorem cnt_mem {i : Nat} (h : nI t ∈ rl g i) : 1 ≤ cnt g i t := List.count_pos_iff.mpr h
end OneRow
end
section
/-! WHAT ALWAYS HOLDS OF A POOL (at 30): J n wc ck e g. n tasks, wc workers, the clock ck; e: 1 while a tick goes on, else 0. -/
/-- what a method that is no turn of a worker may write -/
def Wr0 (a b : Nat) : Prop := (a = 30 ∧ b = 3) ∨ (43 ≤ a ∧ a < 67 ∧ 1 ≤ b ∧ b ≤ 10) ∨ (a = 42 ∧ b < 6) ∨ (a = 40 ∧ b = 1) ∨ (a = 41 ∧ b < 24) ∨ (67 ≤ a ∧ a < 97 ∧ (((a - 67) % 6 = 1 ∧ b = 1) ∨ ((a - 67) % 6 = 2 ∧ b < 24) ∨ ((a - 67) % 6 = 3 ∧ b = 1) ∨ ((a - 67) % 6 = 4 ∧ b < 24)))
/-- what a tick may write -/
def Wr (a b : Nat) : Prop := Wr0 a b ∨ (a = 30 ∧ b = 11) ∨ (67 ≤ a ∧ a < 97 ∧ (((a - 67) % 6 = 0 ∧ 2 ≤ b ∧ b ≤ 4) ∨ ((a - 67) % 6 = 5 ∧ b < 20)))
def Fr0 (g g' : gSt) : Prop := ∀ a b, ¬ Wr0 a b → g' a b = g a b
def Fr (g g' : gSt) : Prop := ∀ a b, ¬ Wr a b → g' a b = g a b
theorem Fr_0 {g g' : gSt} (h : Fr0 g g') : Fr g g' := fun a b q => h a b (fun w => q (Or.inl w))
theorem Fr0_rf (g : gSt) : Fr0 g g := fun _ _ _ => rfl
theorem Fr_rf (g : gSt) : Fr g g := fun _ _ _ => rfl
theorem Fr0_tr {a b c : gSt} (h1 : Fr0 a b) (h2 : Fr0 b c) : Fr0 a c := fun x y h => (h2 x y h).trans (h1 x y h)
theorem Fr_tr {a b c : gSt} (h1 : Fr a b) (h2 : Fr b c) : Fr a c := fun x y h => (h2 x y h).trans (h1 x y h)
theorem su_ne {g : gSt} {i k a b : Nat} {v : Int32} (h : ¬ (a = i ∧ b = k)) : gsu g i k v a b = g a b := by rw [gsu_eq, if_neg h]
theorem Fr0_su {g g1 : gSt} {i k : Nat} {v : Int32} (h : Fr0 g g1) (hw : Wr0 i k) : Fr0 g (gsu g1 i k v) := fun a b q => by
  rw [su_ne (fun c => q (by rw [c.1, c.2]; exact hw))]
  exact h a b q
theorem Fr_su {g g1 : gSt} {i k : Nat} {v : Int32} (h : Fr g g1) (hw : Wr i k) : Fr g (gsu g1 i k v) := fun a b q => by
  rw [su_ne (fun c => q (by rw [c.1, c.2]; exact hw))]
  exact h a b q
theorem Wr0_t {t k : Nat} (ht : t < 24) (h1 : 1 ≤ k) (h2 : k ≤ 10) : Wr0 (43 + t) k := Or.inr (Or.inl (by omega))
theorem Wr0_r {j : Nat} (h : j ≤ 5) : Wr0 (rc j) 1 := by unfold Wr0 rc; split <;> omega
theorem Wr0_r1 {j b : Nat} (h : j ≤ 5) (hb : b < 24) : Wr0 (rc j + 1) b := by unfold Wr0 rc; split <;> omega
theorem Wr0_s {j : Nat} (h : j < 5) : Wr0 (sc j) 1 := by unfold Wr0 sc; omega
theorem Wr0_s1 {j b : Nat} (h : j < 5) (hb : b < 24) : Wr0 (sc j + 1) b := by unfold Wr0 sc; omega
theorem Fr0_rm {g g1 : gSt} {i : Nat} {x : Int32} (h : Fr0 g g1) (h0 : Wr0 i 1) (h1 : ∀ b, b < 24 → Wr0 (i + 1) b) : Fr0 g (f_rm g1 i x) := fun a b q => by
  by_cases c : a = i
  · subst c
    rw [rm_fr1 (fun e => q (by rw [e]; exact h0))]
    exact h _ b q
  · by_cases c1 : a = i + 1
    · subst c1
      rw [rm_fr2 (Nat.le_of_not_lt (fun e => q (h1 b e)))]
      exact h _ b q
    · rw [rm_fr c c1]
      exact h a b q
theorem Fr0_ap {g g1 : gSt} {i : Nat} {x : Int32} (h : Fr0 g g1) (h0 : Wr0 i 1) (h1 : ∀ b, b < 24 → Wr0 (i + 1) b) : Fr0 g (f_append g1 i x) := fun a b q => by
  by_cases c : a = i
  · subst c
    rw [ap_fr1 (fun e => q (by rw [e]; exact h0))]
    exact h _ b q
  · by_cases c1 : a = i + 1
    · subst c1
      rw [ap_fr2 (Nat.le_of_not_lt (fun e => q (h1 b e)))]
      exact h _ b q
    · rw [ap_fr c c1]
      exact h a b q
def bt (x : Int32) (i : Nat) : Bool := x.toBitVec.getLsbD i
def TS (ck e : Nat) (g : gSt) (t : Nat) : Prop := (g (43 + t) 2 < 4 → g (43 + t) 7 = -1) ∧ (¬ g (43 + t) 2 < 4 → ∃ o : Nat, o ≤ ck ∧ g (43 + t) 7 = nI o ∧ (g (43 + t) 2 = 4 ∨ g (43 + t) 2 = 5 → o < ck + e))
def TV (g : gSt) (t : Nat) : Prop := ¬ g (43 + t) 4 < -999999 ∧ ¬ 999999 < g (43 + t) 4
def TP (n : Nat) (g : gSt) (t : Nat) : Prop := (g (43 + t) 5 = -1 ∨ ∃ p, p < t ∧ g (43 + t) 5 = nI p ∧ (g (43 + t) 2 < 4 → bt (g (43 + p) 6) t = true)) ∧ (∀ k, k < 24 → bt (g (43 + t) 6) k = true → k < n ∧ g (43 + k) 5 = nI t)
def TB (wc : Nat) (g : gSt) (t : Nat) : Prop := (g (43 + t) 2 = 2 ∨ g (43 + t) 2 = 3) → ∃ b, b < wc ∧ g (43 + t) 10 = nI b
def PLt (wc : Nat) (g : gSt) (t : Nat) : Prop := Rn wc g t = (if g (43 + t) 2 = 0 then 1 else 0) ∧ Sn wc g t ≤ 1 ∧ (Sn wc g t = 1 → g (43 + t) 2 = 1 ∨ g (43 + t) 2 = 2 ∨ g (43 + t) 2 = 3) ∧ (g (43 + t) 2 = 1 → Sn wc g t = 1)
def TK (n wc ck e : Nat) (g : gSt) (t : Nat) : Prop := TS ck e g t ∧ TV g t ∧ TP n g t ∧ TB wc g t ∧ PLt wc g t
def J0 (n wc ck : Nat) (g : gSt) : Prop := (n ≤ 24 ∧ 1 ≤ wc ∧ wc ≤ 5 ∧ ck < 1000000) ∧ (g 30 3 = nI n ∧ g 30 6 = nI wc ∧ g 30 11 = nI ck) ∧ (∀ t, t < 24 → g (43 + t) 0 = nI t) ∧ g 32 2 = 0
def J (n wc ck e : Nat) (g : gSt) : Prop := J0 n wc ck g ∧ Rk n wc g ∧ ∀ t, t < n → TK n wc ck e g t
/-- what J looks at, rows and stacks apart -/
def JR (a b : Nat) : Prop := (a = 30 ∧ (b = 3 ∨ b = 6 ∨ b = 11)) ∨ (a = 32 ∧ b = 2) ∨ (43 ≤ a ∧ a < 67 ∧ (b = 0 ∨ b = 2 ∨ b = 4 ∨ b = 5 ∨ b = 6 ∨ b = 7 ∨ b = 10))
theorem JR_t {t k : Nat} (ht : t < 24) (hk : k = 0 ∨ k = 2 ∨ k = 4 ∨ k = 5 ∨ k = 6 ∨ k = 7 ∨ k = 10) : JR (43 + t) k := Or.inr (Or.inr ⟨by omega, by omega, hk⟩)
section INV
variable {n wc ck e p t : Nat} {g g' : gSt}
theorem J0_of (h : J0 n wc ck g) (h0 : ∀ a b, JR a b → (a = 30 ∨ a = 32 ∨ b = 0) → g' a b = g a b) : J0 n wc ck g' := by
  obtain ⟨h1, ⟨h2, h3, h4⟩, h5, h6⟩ := h
  refine ⟨h1, ⟨?_, ?_, ?_⟩, fun t ht => ?_, ?_⟩
  · rw [h0 30 3 (Or.inl (by omega)) (by omega)]; exact h2
  · rw [h0 30 6 (Or.inl (by omega)) (by omega)]; exact h3
  · rw [h0 30 11 (Or.inl (by omega)) (by omega)]; exact h4
  · rw [h0 (43 + t) 0 (JR_t ht (by omega)) (by omega)]; exact h5 t ht
  · rw [h0 32 2 (Or.inr (Or.inl (by omega))) (by omega)]; exact h6
/-- one task's state, over-tick and place change -/
theorem J_re (h : J n wc ck e g) (hp : p < n) (h0 : ∀ a b, JR a b → ¬ (a = 43 + p ∧ (b = 2 ∨ b = 7 ∨ b = 10)) → g' a b = g a b) (hk : Rk n wc g') (ho : ∀ s, s < n → s ≠ p → Rn wc g' s = Rn wc g s ∧ Sn wc g' s = Sn wc g s) (hpl : PLt wc g' p) (hts : TS ck e g' p) (hst : g' (43 + p) 2 < 4 → g (43 + p) 2 < 4) (hb : TB wc g' p) : J n wc ck e g' := by
  obtain ⟨hJ, -, hT⟩ := h
  have hn : n ≤ 24 := hJ.1.1
  refine ⟨J0_of hJ (fun a b hj hc => h0 a b hj (by omega)), hk, fun t ht => ?_⟩
  have e4 : ∀ t, t < n → g' (43 + t) 4 = g (43 + t) 4 := fun t ht => h0 _ _ (JR_t (by omega) (by omega)) (by omega)
  have e5 : ∀ t, t < n → g' (43 + t) 5 = g (43 + t) 5 := fun t ht => h0 _ _ (JR_t (by omega) (by omega)) (by omega)
  have e6 : ∀ t, t < n → g' (43 + t) 6 = g (43 + t) 6 := fun t ht => h0 _ _ (JR_t (by omega) (by omega)) (by omega)
  obtain ⟨a1, a2, a3, a4, a5⟩ := hT t ht
  have hv : TV g' t := by unfold TV; rw [e4 t ht]; exact a2
  by_cases c : t = p
  · subst c
    refine ⟨hts, hv, ⟨?_, fun k hk1 hb1 => ?_⟩, hb, hpl⟩
    · rw [e5 t ht]
      rcases a3.1 with q | ⟨r, hr, q, hq⟩
      · exact Or.inl q
      · exact Or.inr ⟨r, hr, q, fun hs => by rw [e6 r (by omega)]; exact hq (hst hs)⟩
    · rw [e6 t ht] at hb1
      obtain ⟨b1, b2⟩ := a3.2 k hk1 hb1
      exact ⟨b1, by rw [e5 k b1]; exact b2⟩
  · have e2 : g' (43 + t) 2 = g (43 + t) 2 := h0 _ _ (JR_t (by omega) (by omega)) (by omega)
    have e7 : g' (43 + t) 7 = g (43 + t) 7 := h0 _ _ (JR_t (by omega) (by omega)) (by omega)
    have e10 : g' (43 + t) 10 = g (43 + t) 10 := h0 _ _ (JR_t (by omega) (by omega)) (by omega)
    refine ⟨?_, hv, ⟨?_, fun k hk1 hb1 => ?_⟩, ?_, ?_⟩
    · unfold TS; rw [e2, e7]; exact a1
    · rw [e5 t ht, e2]
      rcases a3.1 with q | ⟨r, hr, q, hq⟩
      · exact Or.inl q
      · exact Or.inr ⟨r, hr, q, fun hs => by rw [e6 r (by omega)]; exact hq hs⟩
    · rw [e6 t ht] at hb1
      obtain ⟨b1, b2⟩ := a3.2 k hk1 hb1
      exact ⟨b1, by rw [e5 k b1]; exact b2⟩
    · unfold TB; rw [e2, e10]; exact a4
    · unfold PLt; rw [e2, (ho t ht c).1, (ho t ht c).2]; exact a5
/-- nothing that J looks at changes -/
theorem J_same (h : J n wc ck e g) (h0 : ∀ a b, JR a b → g' a b = g a b) (hr : RE wc g g') : J n wc ck e g' := by
  obtain ⟨hJ, hk, hT⟩ := h
  have hn : n ≤ 24 := hJ.1.1
  have ee : ∀ t, t < n → ∀ k, (k = 0 ∨ k = 2 ∨ k = 4 ∨ k = 5 ∨ k = 6 ∨ k = 7 ∨ k = 10) → g' (43 + t) k = g (43 + t) k := fun t ht k hk => h0 _ _ (JR_t (by omega) hk)
  refine ⟨J0_of hJ (fun a b hj _ => h0 a b hj), RE_Rk hr hk, fun t ht => ?_⟩
  obtain ⟨a1, a2, a3, a4, a5⟩ := hT t ht
  refine ⟨?_, ?_, ⟨?_, fun k hk1 hb1 => ?_⟩, ?_, ?_⟩
  · unfold TS; rw [ee t ht 2 (by omega), ee t ht 7 (by omega)]; exact a1
  · unfold TV; rw [ee t ht 4 (by omega)]; exact a2
  · rw [ee t ht 5 (by omega), ee t ht 2 (by omega)]
    rcases a3.1 with q | ⟨r, hr, q, hq⟩
    · exact Or.inl q
    · exact Or.inr ⟨r, hr, q, fun hs => by rw [ee r (by omega) 6 (by omega)]; exact hq hs⟩
  · rw [ee t ht 6 (by omega)] at hb1
    obtain ⟨b1, b2⟩ := a3.2 k hk1 hb1
    exact ⟨b1, by rw [ee k b1 5 (by omega)]; exact b2⟩
  · unfold TB; rw [ee t ht 2 (by omega), ee t ht 10 (by omega)]; exact a4
  · unfold PLt; rw [ee t ht 2 (by omega), RE_Rn hr, RE_Sn hr]; exact a5
theorem J_ir {i k : Nat} {v : Int32} (h : J n wc ck e g) (h1 : ¬ JR i k) (h2 : ¬ RS i) : J n wc ck e (gsu g i k v) :=
  J_same h (fun a b hj => su_ne (fun c => h1 (by rw [← c.1, ← c.2]; exact hj))) (RE_su h.1.1.2.2.1 RE_rf h2)
/-- a value is added -/
theorem J_val {v : Int32} (h : J n wc ck e g) (hp : p < n) (hv : ¬ v < -999999 ∧ ¬ 999999 < v) : J n wc ck e (gsu g (43 + p) 4 v) := by
  obtain ⟨hJ, hk, hT⟩ := h
  have hn : n ≤ 24 := hJ.1.1
  have hw : wc ≤ 5 := hJ.1.2.2.1
  have hr : RE wc g (gsu g (43 + p) 4 v) := RE_su hw RE_rf (RS_t (by omega))
  have ee : ∀ t k, k ≠ 4 → gsu g (43 + p) 4 v (43 + t) k = g (43 + t) k := fun t k hk => su_nk hk
  refine ⟨J0_of hJ (fun a b hj hc => su_ne (by omega)), RE_Rk hr hk, fun t ht => ?_⟩
  obtain ⟨a1, a2, a3, a4, a5⟩ := hT t ht
  refine ⟨?_, ?_, ⟨?_, fun k hk1 hb1 => ?_⟩, ?_, ?_⟩
  · unfold TS; rw [ee t 2 (by omega), ee t 7 (by omega)]; exact a1
  · unfold TV
    by_cases c : t = p
    · subst c; rw [su_at]; exact hv
    · rw [su_ni (by omega)]; exact a2
  · rw [ee t 5 (by omega), ee t 2 (by omega)]
    rcases a3.1 with q | ⟨r, hr, q, hq⟩
    · exact Or.inl q
    · exact Or.inr ⟨r, hr, q, fun hs => by rw [ee r 6 (by omega)]; exact hq hs⟩
  · rw [ee t 6 (by omega)] at hb1
    obtain ⟨b1, b2⟩ := a3.2 k hk1 hb1
    exact ⟨b1, by rw [ee k 5 (by omega)]; exact b2⟩
  · unfold TB; rw [ee t 2 (by omega), ee t 10 (by omega)]; exact a4
  · unfold PLt; rw [ee t 2 (by omega), RE_Rn hr, RE_Sn hr]; exact a5
/-- a child that is over is taken from the set -/
theorem J_clr {v : Int32} (h : J n wc ck e g) (hp : p < n) (hv : ∀ k, k < 24 → bt v k = true → bt (g (43 + p) 6) k = true) (hc : ∀ k, k < n → g (43 + k) 2 < 4 → bt (g (43 + p) 6) k = true → bt v k = true) : J n wc ck e (gsu g (43 + p) 6 v) := by
  obtain ⟨hJ, hk, hT⟩ := h
  have hn : n ≤ 24 := hJ.1.1
  have hw : wc ≤ 5 := hJ.1.2.2.1
  have hr : RE wc g (gsu g (43 + p) 6 v) := RE_su hw RE_rf (RS_t (by omega))
  have ee : ∀ t k, k ≠ 6 → gsu g (43 + p) 6 v (43 + t) k = g (43 + t) k := fun t k hk => su_nk hk
  refine ⟨J0_of hJ (fun a b hj hc => su_ne (by omega)), RE_Rk hr hk, fun t ht => ?_⟩
  obtain ⟨a1, a2, a3, a4, a5⟩ := hT t ht
  refine ⟨?_, ?_, ⟨?_, fun k hk1 hb1 => ?_⟩, ?_, ?_⟩
  · unfold TS; rw [ee t 2 (by omega), ee t 7 (by omega)]; exact a1
  · unfold TV; rw [ee t 4 (by omega)]; exact a2
  · rw [ee t 5 (by omega), ee t 2 (by omega)]
    rcases a3.1 with q | ⟨r, hr, q, hq⟩
    · exact Or.inl q
    · refine Or.inr ⟨r, hr, q, fun hs => ?_⟩
      by_cases c : r = p
      · subst c
        rw [su_at]
        exact hc t ht hs (hq hs)
      · rw [su_ni (by omega)]
        exact hq hs
  · have hb2 : bt (g (43 + t) 6) k = true := by
      by_cases c : t = p
      · subst c
        rw [su_at] at hb1
        exact hv k hk1 hb1
      · rw [su_ni (by omega)] at hb1
        exact hb1
    obtain ⟨b1, b2⟩ := a3.2 k hk1 hb2
    exact ⟨b1, by rw [ee k 5 (by omega)]; exact b2⟩
  · unfold TB; rw [ee t 2 (by omega), ee t 10 (by omega)]; exact a4
  · unfold PLt; rw [ee t 2 (by omega), RE_Rn hr, RE_Sn hr]; exact a5
/-! FREE: a task that was blocked runs, if it is on a stack, else it is ready in the row of the worker on which it was blocked. -/
/-- only rows, stacks and the state of one task are otherwise -/
def Tc (p : Nat) (g g' : gSt) : Prop := ∀ a b, ¬ RS a → ¬ (a = 43 + p ∧ b = 2) → g' a b = g a b
theorem st_lt0 : (0 : Int32) < 4 := by decide
theorem st_lt1 : (1 : Int32) < 4 := by decide
theorem st_lt2 {x : Int32} (h : x = 2 ∨ x = 3) : x < 4 := by rcases h with rfl | rfl <;> decide
theorem st_ne0 {x : Int32} (h : x = 2 ∨ x = 3) : x ≠ 0 := by rcases h with rfl | rfl <;> decide
theorem free_run (h : J n wc ck e g) (hp : p < n) (hs : g (43 + p) 2 = 2 ∨ g (43 + p) 2 = 3) (h1 : Sn wc g p = 1) : J n wc ck e (gsu g (43 + p) 2 1) := by
  have hn : n ≤ 24 := h.1.1.1
  have hw : wc ≤ 5 := h.1.1.2.2.1
  have hr : RE wc g (gsu g (43 + p) 2 1) := RE_su hw RE_rf (RS_t (by omega))
  obtain ⟨a1, -, -, -, a5⟩ := h.2.2 p hp
  refine J_re h hp (fun a b _ hc => su_ne (by omega)) (RE_Rk hr h.2.1) (fun s _ _ => ⟨RE_Rn hr s, RE_Sn hr s⟩) ?_ ?_ (fun _ => st_lt2 hs) ?_
  · unfold PLt
    rw [RE_Rn hr, RE_Sn hr, su_at, a5.1, if_neg (st_ne0 hs), if_neg (by decide)]
    exact ⟨rfl, by omega, fun _ => Or.inl rfl, fun _ => h1⟩
  · unfold TS
    rw [su_at, su_nk (by omega)]
    exact ⟨fun _ => a1.1 (st_lt2 hs), fun q => absurd st_lt1 q⟩
  · unfold TB
    rw [su_at]
    exact fun q => absurd q (by decide)
theorem free_row {b : Nat} (h : J n wc ck e g) (hp : p < n) (hs : g (43 + p) 2 = 2 ∨ g (43 + p) 2 = 3) (h1 : Sn wc g p = 0) (hb : b < wc) : J n wc ck e (f_append (gsu g (43 + p) 2 0) (rc (b + 1)) (nI p)) := by
  have hn : n ≤ 24 := h.1.1.1
  have hw : wc ≤ 5 := h.1.1.2.2.1
  have hr : RE wc g (gsu g (43 + p) 2 0) := RE_su hw RE_rf (RS_t (by omega))
  have hk := RE_Rk hr h.2.1
  obtain ⟨a1, -, -, -, a5⟩ := h.2.2 p hp
  have hR : Rn wc (gsu g (43 + p) 2 0) p = 0 := by rw [RE_Rn hr, a5.1, if_neg (st_ne0 hs)]
  have hl : (rl (gsu g (43 + p) 2 0) (rc (b + 1))).length < 24 := room_r hk hn (by omega) hp (by have := cnt_Rn (g := gsu g (43 + p) 2 0) (t := p) (wc := wc) (i := b + 1) (by omega); omega) (fun s hs1 => by
    have q1 := cnt_Rn (g := gsu g (43 + p) 2 0) (t := s) (wc := wc) (i := b + 1) (by omega)
    rw [RE_Rn hr, (h.2.2 s hs1).2.2.2.2.1] at q1
    split at q1 <;> omega)
  have ef : ∀ a k, ¬ RS a → f_append (gsu g (43 + p) 2 0) (rc (b + 1)) (nI p) a k = gsu g (43 + p) 2 0 a k := fun a k ha => RF_ap (RS_r (by omega)) (RS_r1 (by omega)) a k ha
  refine J_re h hp (fun a k hj hc => ?_) (Rk_apr hk hl hp) (fun s hs1 hne => ?_) ?_ ?_ (fun _ => st_lt2 hs) ?_
  · rw [ef a k (by unfold JR at hj; unfold RS; omega)]
    exact su_ne (by omega)
  · rw [Rn_apr hk (by omega) hl (by omega) (by omega), Sn_apr, RE_Rn hr, RE_Sn hr, if_neg hne]
    exact ⟨rfl, rfl⟩
  · unfold PLt
    rw [Rn_apr hk (by omega) hl (by omega) (by omega), Sn_apr, hR, RE_Sn hr, h1, ef _ _ (RS_t (by omega)), su_at, if_pos rfl, if_pos rfl]
    exact ⟨rfl, by omega, fun q => absurd q (by omega), fun q => absurd q (by decide)⟩
  · unfold TS
    rw [ef _ _ (RS_t (by omega)), ef _ _ (RS_t (by omega)), su_at, su_nk (by omega)]
    exact ⟨fun _ => a1.1 (st_lt2 hs), fun q => absurd st_lt0 q⟩
  · unfold TB
    rw [ef _ _ (RS_t (by omega)), su_at]
    exact fun q => absurd q (by decide)
/-- what is known of a task that was freed -/
def Frd (n wc ck e p : Nat) (g g' : gSt) : Prop := J n wc ck e g' ∧ Fr0 g g' ∧ Tc p g g' ∧ (g' (43 + p) 2 = 0 ∨ g' (43 + p) 2 = 1)
theorem free_L1 (h : J n wc ck e g) (hp : p < n) (hs : g (43 + p) 2 = 2 ∨ g (43 + p) 2 = 3) : ∀ (m k : Nat), k ≤ wc → wc < m + k → (∀ w, w < k → nI p ∉ rl g (sc w)) → Frd n wc ck e p g (f_X1_free_L1 30 (43 + p) m g (nI k)) := by
  have hn : n ≤ 24 := h.1.1.1
  have hw : wc ≤ 5 := h.1.1.2.2.1
  obtain ⟨b, hb, eb⟩ := (h.2.2 p hp).2.2.2.1 hs
  intro m
  induction m with
  | zero => intro k h1 h2; omega
  | succ m ih =>
    intro k h1 h2 h3
    unfold f_X1_free_L1
    rw [h.1.2.1.2.1, h.1.2.2.1 p (by omega)]
    by_cases c : wc ≤ k
    · rw [if_pos (nI_le c (by omega))]
      have hS : Sn wc g p = 0 := sm_0 (fun w hw1 => List.count_eq_zero.mpr (h3 w (by omega)))
      have e1 : gsu g (43 + p) 2 0 (43 + p) 10 = nI b := by rw [su_nk (by omega)]; exact eb
      have e2 : gsu g (43 + p) 2 0 (43 + p) 0 = nI p := by rw [su_nk (by omega)]; exact h.1.2.2.1 p (by omega)
      have e3 : f_wk 30 (nI b) + 1 = rc (b + 1) := by rw [wk_n (by omega), rc_s]; omega
      show Frd n wc ck e p g (f_append (gsu g (43 + p) 2 0) (f_wk 30 (gsu g (43 + p) 2 0 (43 + p) 10) + 1) (gsu g (43 + p) 2 0 (43 + p) 0))
      rw [e1, e2, e3]
      refine ⟨free_row h hp hs hS hb, Fr0_ap (Fr0_su (Fr0_rf g) (Wr0_t (by omega) (by omega) (by omega))) (Wr0_r (by omega)) (fun _ q => Wr0_r1 (by omega) q), fun a k ha hc => ?_, Or.inl ?_⟩
      · rw [RF_ap (RS_r (by omega)) (RS_r1 (by omega)) a k ha]
        exact su_ne hc
      · rw [RF_ap (RS_r (by omega)) (RS_r1 (by omega)) _ _ (RS_t (by omega)), su_at]
    · rw [if_neg (nI_ge (by omega) (by omega))]
      have e3 : f_wk 30 (nI k) + 3 = sc k := by rw [wk_n (by omega)]; unfold sc; omega
      rw [e3, has_eq]
      by_cases c2 : nI p ∈ rl g (sc k)
      · rw [if_pos c2, if_neg (by decide)]
        have hS : Sn wc g p = 1 := by
          have q1 := (h.2.2 p hp).2.2.2.2.2.1
          have q2 := cnt_Sn (g := g) (t := p) (wc := wc) (i := k) (by omega)
          have q3 := cnt_mem c2
          omega
        refine ⟨free_run h hp hs hS, Fr0_su (Fr0_rf g) (Wr0_t (by omega) (by omega) (by omega)), fun a k _ hc => su_ne hc, Or.inr su_at⟩
      · rw [if_neg c2, if_pos rfl]
        have e4 : nI k + 1 = nI (k + 1) := nI_1 k
        show Frd n wc ck e p g (f_X1_free_L1 30 (43 + p) m g (nI k + 1))
        rw [e4]
        refine ih (k + 1) (by omega) (by omega) (fun w hw1 => ?_)
        by_cases c3 : w = k
        · subst c3; exact c2
        · exact h3 w (by omega)
theorem free_ok (h : J n wc ck e g) (hp : p < n) (hs : g (43 + p) 2 = 2 ∨ g (43 + p) 2 = 3) : Frd n wc ck e p g (f_X1_free g 30 (43 + p)) := by
  unfold f_X1_free
  refine free_L1 h hp hs _ 0 (by omega) ?_ (fun w q => absurd q (by omega))
  rw [h.1.2.1.2.1, nI_toInt (by have := h.1.1.2.2.1; omega)]
  have e0 : (0 : Int32).toInt = 0 := rfl
  omega
end INV
end
section
/-! END: a task is over: it goes from all rows and stacks, and who waits for it is freed. -/
/-- what changes of other tasks' states: blocked ones are freed -/
def Ch (n : Nat) (X : Nat → Prop) (g g' : gSt) : Prop := ∀ t, t < n → ¬ X t → g' (43 + t) 7 = g (43 + t) 7 ∧ (g' (43 + t) 2 = g (43 + t) 2 ∨ ((g (43 + t) 2 = 2 ∨ g (43 + t) 2 = 3) ∧ (g' (43 + t) 2 = 0 ∨ g' (43 + t) 2 = 1)))
theorem Ch_rf (n : Nat) (X : Nat → Prop) (g : gSt) : Ch n X g g := fun _ _ _ => ⟨rfl, Or.inl rfl⟩
theorem Ch_tr {n : Nat} {X : Nat → Prop} {a b c : gSt} (h1 : Ch n X a b) (h2 : Ch n X b c) : Ch n X a c := fun t ht hx => by
  obtain ⟨p1, p2⟩ := h1 t ht hx
  obtain ⟨q1, q2⟩ := h2 t ht hx
  refine ⟨q1.trans p1, ?_⟩
  rcases p2 with p2 | ⟨p2, p3⟩
  · rw [p2] at q2; exact q2
  · rcases q2 with q2 | ⟨q2, -⟩
    · rw [q2]; exact Or.inr ⟨p2, p3⟩
    · exfalso
      rcases p3 with e | e <;> rw [e] at q2 <;> revert q2 <;> decide
theorem Ch_mono {n n' : Nat} {X Y : Nat → Prop} {a b : gSt} (hn : n ≤ n') (h : Ch n' X a b) (hxy : ∀ t, X t → Y t) : Ch n Y a b := fun t ht hx => h t (by omega) (fun q => hx (hxy t q))
theorem Ch_of {n : Nat} {X : Nat → Prop} {a b : gSt} (h2 : ∀ t, t < n → ¬ X t → b (43 + t) 2 = a (43 + t) 2) (h7 : ∀ t, t < n → ¬ X t → b (43 + t) 7 = a (43 + t) 7) : Ch n X a b := fun t ht hx => ⟨h7 t ht hx, Or.inl (h2 t ht hx)⟩
theorem Ch_lt {n t : Nat} {X : Nat → Prop} {a b : gSt} (h : Ch n X a b) (ht : t < n) (hx : ¬ X t) : a (43 + t) 2 < 4 ↔ b (43 + t) 2 < 4 := by
  rcases (h t ht hx).2 with e | ⟨e1, e2⟩
  · rw [e]
  · refine ⟨fun _ => ?_, fun _ => st_lt2 e1⟩
    rcases e2 with e | e <;> rw [e] <;> decide
theorem Ch_ov {n t : Nat} {X : Nat → Prop} {a b : gSt} (h : Ch n X a b) (ht : t < n) (hx : ¬ X t) (ho : ¬ a (43 + t) 2 < 4) : b (43 + t) 2 = a (43 + t) 2 := by
  rcases (h t ht hx).2 with e | ⟨e1, -⟩
  · exact e
  · exact absurd (st_lt2 e1) ho
theorem Ch_1 {n t : Nat} {X : Nat → Prop} {a b : gSt} (h : Ch n X a b) (ht : t < n) (hx : ¬ X t) (h1 : a (43 + t) 2 = 1) : b (43 + t) 2 = 1 := by
  rcases (h t ht hx).2 with e | ⟨e1, -⟩
  · exact e.trans h1
  · rw [h1] at e1; exact absurd e1 (by decide)
section END
variable {n wc ck e p t : Nat} {g g' : gSt}
/-- behind the loop over the workers, k of them are done -/
def Zr (n wc k τ : Nat) (g0 g : gSt) : Prop := RF g0 g ∧ Fr0 g0 g ∧ Rk n wc g ∧ (∀ s, s < n → s ≠ τ → Rn wc g s = Rn wc g0 s ∧ Sn wc g s = Sn wc g0 s) ∧ (∀ j, j ≤ k → j ≤ wc → cnt g (rc j) τ = 0) ∧ (∀ w, w < k → w < wc → cnt g (sc w) τ = 0)
theorem Zr_com (hk : Rk n wc g) (hw : wc ≤ 5) (hn : n ≤ 24) (hp : p < n) : Zr n wc 0 p g (f_rm g 40 (nI p)) := by
  rw [← rc_0]
  refine ⟨RF_rm (RS_r (by omega)) (RS_r1 (by omega)), Fr0_rm (Fr0_rf g) (Wr0_r (by omega)) (fun _ q => Wr0_r1 (by omega) q), Rk_rmr hk _, fun s hs hne => ?_, fun j hj hj2 => ?_, fun w hw1 => absurd hw1 (by omega)⟩
  · have q := Rn_rmr (t := p) (s := s) hk (j := 0) (by omega) (by omega) (by omega)
    rw [if_neg hne] at q
    exact ⟨by omega, Sn_rmr⟩
  · obtain rfl : j = 0 := by omega
    rw [cnt_rm (hk.1 0 (by omega)).1 (by omega) (by omega), if_pos rfl]
theorem Zr_step {k : Nat} {g0 : gSt} (h : Zr n wc k p g0 g) (hw : wc ≤ 5) (hn : n ≤ 24) (hp : p < n) (hk : k < wc) : Zr n wc (k + 1) p g0 (f_rm (f_rm g (rc (k + 1)) (nI p)) (sc k) (nI p)) := by
  obtain ⟨h1, h2, h3, h4, h5, h6⟩ := h
  have k1 := Rk_rmr (j := k + 1) h3 (nI p)
  refine ⟨RF_tr h1 (RF_tr (RF_rm (RS_r (by omega)) (RS_r1 (by omega))) (RF_rm (RS_s (by omega)) (RS_s1 (by omega)))), Fr0_rm (Fr0_rm h2 (Wr0_r (by omega)) (fun _ q => Wr0_r1 (by omega) q)) (Wr0_s (by omega)) (fun _ q => Wr0_s1 (by omega) q), Rk_rms k1 _, fun s hs hne => ?_, fun j hj hj2 => ?_, fun w hj hj2 => ?_⟩
  · have q1 := Rn_rmr (t := p) (s := s) h3 (j := k + 1) (by omega) (by omega) (by omega)
    have q2 := Sn_rms (t := p) (s := s) k1 (j := k) (by omega) (by omega) (by omega)
    rw [if_neg hne] at q1 q2
    rw [Rn_rms]
    rw [Sn_rmr] at q2
    obtain ⟨q3, q4⟩ := h4 s hs hne
    exact ⟨by omega, by omega⟩
  · rw [cnt_same rms_r.1 rms_r.2]
    by_cases c : j = k + 1
    · subst c
      rw [cnt_rm (h3.1 _ hj2).1 (by omega) (by omega), if_pos rfl]
    · rw [cnt_same (rmr_o c).1 (rmr_o c).2]
      exact h5 j (by omega) hj2
  · by_cases c : w = k
    · subst c
      rw [cnt_rm (k1.2 _ hj2).1 (by omega) (by omega), if_pos rfl]
    · rw [cnt_same (rms_o c).1 (rms_o c).2, cnt_same rmr_s.1 rmr_s.2]
      exact h6 w (by omega) hj2
/-- what end looks at behind the loop -/
def fEnd (g : gSt) (t : Nat) : gSt := if g (f_tk 30 (g (43 + t) 5)) 2 = 2 then if f_X4_lastChild g (f_tk 30 (g (43 + t) 5)) = g (43 + t) 0 then f_X1_free g 30 (f_tk 30 (g (43 + t) 5)) else g else g
theorem end_L1 {g0 : gSt} {sq : Int32} (hw : wc ≤ 5) (hn : n ≤ 24) (hp : p < n) (h6 : g0 30 6 = nI wc) (hnum : g0 (43 + p) 0 = nI p) : ∀ (m k : Nat) (g : gSt), k ≤ wc → wc < m + k → Zr n wc k p g0 g → ∃ g2, f_X1_end_L1 30 (43 + p) sq m g (nI k) = fEnd g2 p ∧ Zr n wc wc p g0 g2 := by
  intro m
  induction m with
  | zero => intro k g h1 h2; omega
  | succ m ih =>
    intro k g h1 h2 hz
    have e6 : g 30 6 = nI wc := (hz.1 30 6 RS_30).trans h6
    have en : g (43 + p) 0 = nI p := (hz.1 _ 0 (RS_t (by omega))).trans hnum
    unfold f_X1_end_L1
    rw [e6]
    by_cases c : wc ≤ k
    · rw [if_pos (nI_le c (by omega))]
      obtain rfl : k = wc := by omega
      exact ⟨g, rfl, hz⟩
    · rw [if_neg (nI_ge (by omega) (by omega))]
      have e1 : f_wk 30 (nI k) + 1 = rc (k + 1) := by rw [wk_n (by omega), rc_s]; omega
      have e3 : f_wk 30 (nI k) + 3 = sc k := by rw [wk_n (by omega)]; unfold sc; omega
      have en2 : f_rm g (rc (k + 1)) (nI p) (43 + p) 0 = nI p := (RF_rm (RS_r (by omega)) (RS_r1 (by omega)) _ _ (RS_t (by omega))).trans en
      show ∃ g2, f_X1_end_L1 30 (43 + p) sq m (f_rm (f_rm g (f_wk 30 (nI k) + 1) (g (43 + p) 0)) (f_wk 30 (nI k) + 3) (f_rm g (f_wk 30 (nI k) + 1) (g (43 + p) 0) (43 + p) 0)) (nI k + 1) = fEnd g2 p ∧ _
      rw [e1, e3, en, en2, nI_1 k]
      exact ih (k + 1) _ (by omega) (by omega) (Zr_step hz hw hn hp (by omega))
/-- what is known behind end -/
def Ed (n wc ck e p : Nat) (sq : Int32) (g g' : gSt) : Prop := J n wc ck e g' ∧ Fr0 g g' ∧ (∀ a b, ¬ RS a → ¬ (43 ≤ a ∧ a < 67 ∧ (b = 2 ∨ b = 7)) → g' a b = g a b) ∧ Ch n (fun t => t = p) g g' ∧ g' (43 + p) 2 = sq ∧ g' (43 + p) 7 = nI ck
theorem end_ok {sq : Int32} (h : J n wc ck e g) (hp : p < n) (hs : g (43 + p) 2 < 4) (hq : (sq = 4 ∨ sq = 5) ∧ e = 1 ∨ sq = 6) : Ed n wc ck e p sq g (f_X1_end g 30 (43 + p) sq) := by
  have hn : n ≤ 24 := h.1.1.1
  have hw : wc ≤ 5 := h.1.1.2.2.1
  have hsq : ¬ sq < 4 := by rcases hq with ⟨q | q, -⟩ | q <;> rw [q] <;> decide
  have hsq2 : sq ≠ 0 ∧ sq ≠ 1 ∧ sq ≠ 2 ∧ sq ≠ 3 := by rcases hq with ⟨q | q, -⟩ | q <;> rw [q] <;> decide
  obtain ⟨g1, eg1⟩ : ∃ g1, g1 = gsu (gsu g (43 + p) 2 sq) (43 + p) 7 (nI ck) := ⟨_, rfl⟩
  have hr : RE wc g g1 := by rw [eg1]; exact RE_su hw (RE_su hw RE_rf (RS_t (by omega))) (RS_t (by omega))
  have f1 : ∀ a b, ¬ (a = 43 + p ∧ (b = 2 ∨ b = 7)) → g1 a b = g a b := fun a b hc => by rw [eg1, su_ne (by omega), su_ne (by omega)]
  have e2 : g1 (43 + p) 2 = sq := by rw [eg1, su_nk (by omega), su_at]
  have e7 : g1 (43 + p) 7 = nI ck := by rw [eg1, su_at]
  have hk := RE_Rk hr h.2.1
  have hnum : g1 (43 + p) 0 = nI p := (f1 _ 0 (by omega)).trans (h.1.2.2.1 p (by omega))
  have h6 : g1 30 6 = nI wc := (f1 _ 6 (by omega)).trans h.1.2.1.2.1
  have hz := Zr_com hk hw hn hp
  obtain ⟨g2, eq2, z⟩ := end_L1 (g0 := g1) (sq := sq) hw hn hp h6 hnum (((f_rm g1 40 (nI p) 30 6).toInt - (0 : Int32).toInt).toNat + 1) 0 _ (by omega) (by
    rw [hz.1 30 6 RS_30, h6, nI_toInt (by omega)]
    have e0 : (0 : Int32).toInt = 0 := rfl
    omega) hz
  have ee : f_X1_end g 30 (43 + p) sq = fEnd g2 p := by
    rw [← eq2]
    unfold f_X1_end
    have q11 : gsu g (43 + p) 2 sq 30 11 = nI ck := (su_ne (by omega)).trans h.1.2.1.2.2
    show f_X1_end_L1 30 (43 + p) sq (((f_rm (gsu (gsu g (43 + p) 2 sq) (43 + p) 7 (gsu g (43 + p) 2 sq 30 11)) (30 + 10) (gsu (gsu g (43 + p) 2 sq) (43 + p) 7 (gsu g (43 + p) 2 sq 30 11) (43 + p) 0) 30 6).toInt - (0 : Int32).toInt).toNat + 1) (f_rm (gsu (gsu g (43 + p) 2 sq) (43 + p) 7 (gsu g (43 + p) 2 sq 30 11)) (30 + 10) (gsu (gsu g (43 + p) 2 sq) (43 + p) 7 (gsu g (43 + p) 2 sq 30 11) (43 + p) 0)) 0 = _
    rw [q11, ← eg1, hnum]
    rfl
  rw [ee]
  obtain ⟨z1, z2, z3, z4, z5, z6⟩ := z
  have f2 : ∀ a b, ¬ RS a → ¬ (a = 43 + p ∧ (b = 2 ∨ b = 7)) → g2 a b = g a b := fun a b ha hc => (z1 a b ha).trans (f1 a b hc)
  have e22 : g2 (43 + p) 2 = sq := (z1 _ _ (RS_t (by omega))).trans e2
  have e27 : g2 (43 + p) 7 = nI ck := (z1 _ _ (RS_t (by omega))).trans e7
  have hR0 : Rn wc g2 p = 0 := sm_0 (fun j hj => z5 j (by omega) (by omega))
  have hS0 : Sn wc g2 p = 0 := sm_0 (fun w hj => z6 w hj hj)
  have hJ2 : J n wc ck e g2 := by
    refine J_re h hp (fun a b hj hc => f2 a b (by unfold JR at hj; unfold RS; omega) (by omega)) z3 (fun s hs1 hne => ⟨(z4 s hs1 hne).1.trans (RE_Rn hr s), (z4 s hs1 hne).2.trans (RE_Sn hr s)⟩) ?_ ?_ (fun _ => hs) ?_
    · unfold PLt
      rw [hR0, hS0, e22, if_neg hsq2.1]
      exact ⟨rfl, by omega, fun q => absurd q (by omega), fun q => absurd q hsq2.2.1⟩
    · unfold TS
      rw [e22, e27]
      refine ⟨fun q => absurd q hsq, fun _ => ⟨ck, Nat.le_refl _, rfl, fun q => ?_⟩⟩
      rcases hq with ⟨-, q2⟩ | q2
      · omega
      · rw [q2] at q; exact absurd q (by decide)
    · unfold TB
      rw [e22]
      exact fun q => absurd q (fun q => q.elim hsq2.2.2.1 hsq2.2.2.2)
  have hF2 : Fr0 g g2 := Fr0_tr (by rw [eg1]; exact Fr0_su (Fr0_su (Fr0_rf g) (Wr0_t (by omega) (by omega) (by omega))) (Wr0_t (by omega) (by omega) (by omega))) z2
  have hE2 : Ed n wc ck e p sq g g2 := by
    refine ⟨hJ2, hF2, fun a b ha hc => f2 a b ha (by omega), fun t ht hx => ⟨f2 _ _ (RS_t (by omega)) (by omega), Or.inl (f2 _ _ (RS_t (by omega)) (by omega))⟩, e22, e27⟩
  unfold fEnd
  have ep : g2 (43 + p) 5 = g (43 + p) 5 := f2 _ _ (RS_t (by omega)) (by omega)
  have a3 := (h.2.2 p hp).2.2.1.1
  rw [← ep] at a3
  rcases a3 with q | ⟨r, hr1, q, -⟩
  · have e32 : f_tk 30 (-1) = 32 := by decide
    rw [q, e32, hJ2.1.2.2.2, if_neg (by decide)]
    exact hE2
  · rw [q, tk_n (by omega)]
    split
    · rename_i c2
      split
      · obtain ⟨w1, w2, w3, w4⟩ := free_ok hJ2 (p := r) (by omega) (Or.inl c2)
        refine ⟨w1, Fr0_tr hF2 w2, fun a b ha hc => ?_, fun t ht hx => ?_, ?_, ?_⟩
        · rw [w3 a b ha (by omega)]; exact f2 a b ha (by omega)
        · by_cases c : t = r
          · subst c
            refine ⟨?_, Or.inr ⟨Or.inl ?_, w4⟩⟩
            · rw [w3 _ _ (RS_t (by omega)) (by omega)]; exact f2 _ _ (RS_t (by omega)) (by omega)
            · rw [← f2 _ _ (RS_t (by omega)) (by omega)]; exact c2
          · refine ⟨?_, Or.inl ?_⟩
            · rw [w3 _ _ (RS_t (by omega)) (by omega)]; exact f2 _ _ (RS_t (by omega)) (by omega)
            · rw [w3 _ _ (RS_t (by omega)) (by omega)]; exact f2 _ _ (RS_t (by omega)) (by omega)
        · rw [w3 _ _ (RS_t (by omega)) (by omega)]; exact e22
        · rw [w3 _ _ (RS_t (by omega)) (by omega)]; exact e27
      · exact hE2
    · exact hE2
end END
end
section
/-! BLOCK, NEW TASKS, VALUES, JOIN, AWAIT, CANCEL BELOW, KEEP. -/
theorem b_or (x y : Int32) (i : Nat) : bt (x ||| y) i = (bt x i || bt y i) := by unfold bt; rw [Int32.toBitVec_or, BitVec.getLsbD_or]
theorem b_and (x y : Int32) (i : Nat) : bt (x &&& y) i = (bt x i && bt y i) := by unfold bt; rw [Int32.toBitVec_and, BitVec.getLsbD_and]
theorem b_xor (x y : Int32) (i : Nat) : bt (x ^^^ y) i = (bt x i ^^ bt y i) := by unfold bt; rw [Int32.toBitVec_xor, BitVec.getLsbD_xor]
theorem b_m1 : ∀ i, i < 32 → bt (-1) i = true := by decide +kernel
theorem b_0 (i : Nat) : bt 0 i = false := BitVec.getLsbD_zero
theorem s_l : ∀ n, n < 32 → ((nI n &&& 31).toBitVec.smod 32).toNat = n := by decide +kernel
theorem b_one : ∀ n, n < 24 → ∀ i, i < 32 → bt ((1 : Int32) <<< (nI n &&& 31)) i = decide (i = n) := by decide +kernel
theorem b_one' {n i : Nat} (hn : n < 24) (hi : i < 24) : bt ((1 : Int32) <<< (nI n &&& 31)) i = decide (i = n) := b_one n hn i (by omega)
theorem b_sshr (n : Nat) (hn : n < 32) (x : Int32) {i : Nat} (hi : i < 32) : bt (x >>> (nI n &&& 31)) i = if n + i < 32 then bt x (n + i) else bt x 31 := by
  unfold bt
  rw [Int32.toBitVec_shiftRight]
  show (x.toBitVec.sshiftRight ((nI n &&& 31).toBitVec.smod 32).toNat).getLsbD i = _
  rw [s_l n hn, BitVec.getLsbD_sshiftRight, BitVec.msb_eq_getLsbD_last]
  simp [hi]
theorem b_ext {x y : Int32} (h : ∀ i, i < 32 → bt x i = bt y i) : x = y := Int32.toBitVec_inj.mp (BitVec.eq_of_getLsbD_eq (fun i hi => h i hi))
theorem b_1 : ∀ i, i < 32 → bt 1 i = decide (i = 0) := by decide +kernel
/-- a bit, as the class asks for it -/
theorem bit_ask {x : Int32} {k : Nat} (hk : k < 24) : ((x >>> (nI k &&& 31)) &&& 1) = 1 ↔ bt x k = true := by
  constructor
  · intro h
    have h1 : bt ((x >>> (nI k &&& 31)) &&& 1) 0 = bt 1 0 := by rw [h]
    rw [b_and, b_sshr k (by omega) x (by omega), if_pos (by omega), b_1 0 (by omega)] at h1
    simpa using h1
  · intro h
    refine b_ext (fun i hi => ?_)
    rw [b_and, b_1 i hi, b_sshr k (by omega) x hi]
    by_cases c : i = 0
    · subst c
      rw [if_pos (by omega)]
      simp [h]
    · simp [c]
theorem isIn_n {st : gSt} {f : Int32} {k : Nat} (hk : k < 24) : f_X1_isIn st f (nI k) = if bt f k = true then 1 else 0 := by
  unfold f_X1_isIn
  rw [if_neg (nI_pos (by omega)), if_neg (le24 hk)]
  by_cases c : bt f k = true
  · rw [if_pos c, if_pos ((bit_ask hk).mpr c)]
  · rw [if_neg c, if_neg (fun q => c ((bit_ask hk).mp q))]
section OPS
variable {n wc ck e p w : Nat} {g g' : gSt}
theorem isO_eq {i : Nat} : f_isO g i = if g i 2 < 4 then 0 else 1 := rfl
theorem isB_0 {i : Nat} (h : f_isB g i = 0) : g i 2 ≠ 2 ∧ g i 2 ≠ 3 := by
  unfold f_isB at h
  split at h
  · exact absurd h (by decide)
  · split at h
    · exact absurd h (by decide)
    · rename_i a b; exact ⟨a, b⟩
/-- the way is 0: from the stack; else it stays there -/
theorem block_ok {sq : Int32} (h : J n wc ck e g) (hp : p < n) (hs : g (43 + p) 2 = 1) (hw1 : w < wc) (hm : nI p ∈ rl g (sc w)) (hq : sq = 2 ∨ sq = 3) : J n wc ck e (f_X1_block g 30 (nI w) (43 + p) sq) ∧ Fr0 g (f_X1_block g 30 (nI w) (43 + p) sq) ∧ Ch n (fun t => t = p) g (f_X1_block g 30 (nI w) (43 + p) sq) := by
  have hn : n ≤ 24 := h.1.1.1
  have hw : wc ≤ 5 := h.1.1.2.2.1
  obtain ⟨g2, e2⟩ : ∃ g2, g2 = gsu (gsu g (43 + p) 2 sq) (43 + p) 10 (nI w) := ⟨_, rfl⟩
  have hr : RE wc g g2 := by rw [e2]; exact RE_su hw (RE_su hw RE_rf (RS_t (by omega))) (RS_t (by omega))
  have f2 : ∀ a b, ¬ (a = 43 + p ∧ (b = 2 ∨ b = 10)) → g2 a b = g a b := fun a b hc => by rw [e2, su_ne (by omega), su_ne (by omega)]
  have q2 : g2 (43 + p) 2 = sq := by rw [e2, su_nk (by omega), su_at]
  have q10 : g2 (43 + p) 10 = nI w := by rw [e2, su_at]
  have qn : g2 (43 + p) 0 = nI p := (f2 _ 0 (by omega)).trans (h.1.2.2.1 p (by omega))
  have hk := RE_Rk hr h.2.1
  have hF : Fr0 g g2 := by rw [e2]; exact Fr0_su (Fr0_su (Fr0_rf g) (Wr0_t (by omega) (by omega) (by omega))) (Wr0_t (by omega) (by omega) (by omega))
  obtain ⟨a1, -, -, -, a5⟩ := h.2.2 p hp
  have hq4 : sq < 4 := by rcases hq with q | q <;> rw [q] <;> decide
  have hq0 : sq ≠ 0 ∧ sq ≠ 1 := by rcases hq with q | q <;> rw [q] <;> decide
  have hs4 : g (43 + p) 2 < 4 := by rw [hs]; decide
  have hR : Rn wc g p = 0 := by rw [a5.1, hs]; rfl
  have hS : Sn wc g p = 1 := a5.2.2.2 hs
  have ee : f_X1_block g 30 (nI w) (43 + p) sq = if g2 30 9 = 0 then f_rm g2 (sc w) (nI p) else g2 := by
    have e3 : f_wk 30 (nI w) + 3 = sc w := by rw [wk_n (by omega)]; unfold sc; omega
    rw [← qn, ← e3, e2]
    rfl
  rw [ee]
  split
  · have ef : ∀ a k, ¬ RS a → f_rm g2 (sc w) (nI p) a k = g2 a k := fun a k ha => RF_rm (RS_s (by omega)) (RS_s1 (by omega)) a k ha
    have c1 : 1 ≤ cnt g2 (sc w) p := by rw [cnt_same (hr.2 w hw1).1 (hr.2 w hw1).2]; exact cnt_mem hm
    have q3 := Sn_rms (t := p) (s := p) hk hw1 (by omega) (by omega)
    rw [if_pos rfl, RE_Sn hr, hS] at q3
    refine ⟨J_re h hp (fun a b hj hc => ?_) (Rk_rms hk _) (fun s hs1 hne => ?_) ?_ ?_ (fun _ => hs4) ?_, Fr0_rm hF (Wr0_s (by omega)) (fun _ q => Wr0_s1 (by omega) q), Ch_of (fun t ht hx => ?_) (fun t ht hx => ?_)⟩
    · rw [ef a b (by unfold JR at hj; unfold RS; omega)]; exact f2 a b (by omega)
    · have q4 := Sn_rms (t := p) (s := s) hk hw1 (by omega) (by omega)
      rw [if_neg hne, RE_Sn hr] at q4
      exact ⟨by rw [Rn_rms, RE_Rn hr], by omega⟩
    · unfold PLt
      rw [Rn_rms, RE_Rn hr, hR, ef _ _ (RS_t (by omega)), q2, if_neg hq0.1]
      exact ⟨rfl, by omega, fun q => absurd q (by omega), fun q => absurd q hq0.2⟩
    · unfold TS
      rw [ef _ _ (RS_t (by omega)), ef _ _ (RS_t (by omega)), q2, f2 _ 7 (by omega)]
      exact ⟨fun _ => a1.1 hs4, fun q => absurd hq4 q⟩
    · intro _
      exact ⟨w, hw1, (ef _ _ (RS_t (by omega))).trans q10⟩
    · have hx : t ≠ p := hx
      exact (ef _ _ (RS_t (by omega))).trans (f2 _ _ (by omega))
    · have hx : t ≠ p := hx
      exact (ef _ _ (RS_t (by omega))).trans (f2 _ _ (by omega))
  · refine ⟨J_re h hp (fun a b hj hc => f2 a b (by omega)) hk (fun s hs1 hne => ⟨RE_Rn hr s, RE_Sn hr s⟩) ?_ ?_ (fun _ => hs4) ?_, hF, Ch_of (fun t ht hx => ?_) (fun t ht hx => ?_)⟩
    · unfold PLt
      rw [RE_Rn hr, RE_Sn hr, hR, hS, q2, if_neg hq0.1]
      exact ⟨rfl, by omega, fun _ => Or.inr hq, fun q => absurd q hq0.2⟩
    · unfold TS
      rw [q2, f2 _ 7 (by omega)]
      exact ⟨fun _ => a1.1 hs4, fun q => absurd hq4 q⟩
    · intro _
      exact ⟨w, hw1, q10⟩
    · have hx : t ≠ p := hx
      exact f2 _ _ (by omega)
    · have hx : t ≠ p := hx
      exact f2 _ _ (by omega)
/-- a value is added, whatever it is -/
theorem addv_ok {x : Int32} (h : J n wc ck e g) (hp : p < n) : J n wc ck e (f_X4_addValue g (43 + p) x) ∧ Fr0 g (f_X4_addValue g (43 + p) x) ∧ ∀ a b, ¬ (a = 43 + p ∧ b = 4) → f_X4_addValue g (43 + p) x a b = g a b := by
  have hn : n ≤ 24 := h.1.1.1
  have hv : ∀ y : Int32, ¬ (if (-999999 : Int32) < (if y < (999999 : Int32) then y else (999999 : Int32)) then (if y < (999999 : Int32) then y else (999999 : Int32)) else (-999999 : Int32)) < -999999 ∧ ¬ 999999 < (if (-999999 : Int32) < (if y < (999999 : Int32) then y else (999999 : Int32)) then (if y < (999999 : Int32) then y else (999999 : Int32)) else (-999999 : Int32)) := by
    intro y
    by_cases c1 : y < 999999
    · rw [if_pos c1]
      by_cases c2 : -999999 < y
      · rw [if_pos c2]
        rw [Int32.lt_iff_toInt_lt] at c1 c2
        rw [Int32.lt_iff_toInt_lt, Int32.lt_iff_toInt_lt]
        exact ⟨by omega, by omega⟩
      · rw [if_neg c2]
        decide
    · rw [if_neg c1, if_pos (by decide)]
      decide
  unfold f_X4_addValue
  exact ⟨J_val h hp (hv _), Fr0_su (Fr0_rf g) (Wr0_t (by omega) (by omega) (by omega)), fun a b hc => su_ne hc⟩
theorem await_ok {b : Int32} (h : J n wc ck e g) (hp : p < n) (hs : g (43 + p) 2 = 1) (hw1 : w < wc) (hm : nI p ∈ rl g (sc w)) : J n wc ck e (f_X1_await g 30 (nI w) (43 + p) b).2 ∧ Fr0 g (f_X1_await g 30 (nI w) (43 + p) b).2 ∧ Ch n (fun t => t = p) g (f_X1_await g 30 (nI w) (43 + p) b).2 ∧ ((f_X1_await g 30 (nI w) (43 + p) b).1 = 0 ∨ (f_X1_await g 30 (nI w) (43 + p) b).2 (43 + p) 2 = 1) := by
  have hn : n ≤ 24 := h.1.1.1
  unfold f_X1_await
  dsimp only
  split
  · obtain ⟨a1, a2, a3⟩ := block_ok h hp hs hw1 hm (sq := 3) (Or.inr rfl)
    exact ⟨a1, a2, a3, Or.inl rfl⟩
  · obtain ⟨a1, a2, a3⟩ := addv_ok (x := f_prom g 30 b) h hp
    exact ⟨a1, a2, Ch_of (fun t ht hx => a3 _ _ (by omega)) (fun t ht hx => a3 _ _ (by omega)), Or.inr ((a3 _ _ (by omega)).trans hs)⟩
/-- join: the loop -/
theorem join_L1 {b : Int32} (hp : p < n) (hw1 : w < wc) : ∀ (m : Nat) (g : gSt) (mo x : Int32), J n wc ck 1 g → g (43 + p) 2 = 1 → nI p ∈ rl g (sc w) → J n wc ck 1 (f_X1_join_L1 30 (nI w) (43 + p) b m g mo x).2 ∧ Fr0 g (f_X1_join_L1 30 (nI w) (43 + p) b m g mo x).2 ∧ Ch n (fun t => t = p) g (f_X1_join_L1 30 (nI w) (43 + p) b m g mo x).2 ∧ ((f_X1_join_L1 30 (nI w) (43 + p) b m g mo x).1 = 0 ∨ (f_X1_join_L1 30 (nI w) (43 + p) b m g mo x).2 (43 + p) 2 = 1) := by
  intro m
  induction m with
  | zero => intro g mo x h hs hm; exact ⟨h, Fr0_rf g, Ch_rf _ _ _, Or.inl rfl⟩
  | succ m ih =>
    intro g mo x h hs hm
    have hn : n ≤ 24 := h.1.1.1
    have hw : wc ≤ 5 := h.1.1.2.2.1
    have hrf : J n wc ck 1 g ∧ Fr0 g g ∧ Ch n (fun t => t = p) g g ∧ ((1 : Int32) = 0 ∨ g (43 + p) 2 = 1) := ⟨h, Fr0_rf g, Ch_rf _ _ _, Or.inr hs⟩
    unfold f_X1_join_L1
    split
    · exact hrf
    · split
      · exact hrf
      · dsimp only
        generalize hlc : f_X4_lastChild g (43 + p) = lc
        split
        · obtain ⟨a1, a2, a3⟩ := block_ok h hp hs hw1 hm (sq := 2) (Or.inl rfl)
          exact ⟨a1, a2, a3, Or.inl rfl⟩
        · rename_i c3
          obtain ⟨k, hk, ek⟩ : ∃ k, k < 24 ∧ f_tk 30 lc = 43 + k := by
            unfold f_tk at c3 ⊢
            by_cases d1 : lc < 0
            · rw [if_pos d1] at c3
              exact absurd (by rw [isO_eq, show 30 + 2 = 32 from rfl, h.1.2.2.2]; rfl) c3
            · by_cases d2 : 24 ≤ lc
              · rw [if_neg d1, if_pos d2] at c3
                exact absurd (by rw [isO_eq, show 30 + 2 = 32 from rfl, h.1.2.2.2]; rfl) c3
              · rw [if_neg d1, if_neg d2]
                exact ⟨lc.toNatClampNeg, cl_lt (n := 24) d1 d2 rfl, by omega⟩
          rw [ek] at c3 ⊢
          have ov : ¬ g (43 + k) 2 < 4 := fun q => c3 (by rw [isO_eq, if_pos q])
          rw [h.1.2.2.1 k hk]
          obtain ⟨v, hv⟩ : ∃ v, v = g (43 + p) 6 &&& (((1 : Int32) <<< (nI k &&& 31)) ^^^ (-1 : Int32)) := ⟨_, rfl⟩
          rw [← hv]
          have hb : ∀ s, s < 24 → bt v s = (bt (g (43 + p) 6) s && !decide (s = k)) := fun s hs1 => by
            rw [hv, b_and, b_xor, b_one' hk hs1, b_m1 s (by omega)]
            simp
          have h1 : J n wc ck 1 (gsu g (43 + p) 6 v) := J_clr h hp (fun s hs1 q => by rw [hb s hs1] at q; simp at q; exact q.1) (fun s hs1 q1 q2 => by
            rw [hb s (by omega), q2]
            simp
            intro q; subst q; exact ov q1)
          have f1 : Fr0 g (gsu g (43 + p) 6 v) := Fr0_su (Fr0_rf g) (Wr0_t (by omega) (by omega) (by omega))
          have k1 : Ch n (fun t => t = p) g (gsu g (43 + p) 6 v) := Ch_of (fun t ht _ => su_nk (by omega)) (fun t ht _ => su_nk (by omega))
          have s1 : gsu g (43 + p) 6 v (43 + p) 2 = 1 := (su_nk (by omega)).trans hs
          have m1 : nI p ∈ rl (gsu g (43 + p) 6 v) (sc w) := by rw [rl_same (su_ni (by unfold sc; omega)) (fun _ => su_ni (by unfold sc; omega))]; exact hm
          have go : ∀ y, J n wc ck 1 (f_X1_join_L1 30 (nI w) (43 + p) b m (gsu g (43 + p) 6 v) mo y).2 ∧ Fr0 g (f_X1_join_L1 30 (nI w) (43 + p) b m (gsu g (43 + p) 6 v) mo y).2 ∧ Ch n (fun t => t = p) g (f_X1_join_L1 30 (nI w) (43 + p) b m (gsu g (43 + p) 6 v) mo y).2 ∧ ((f_X1_join_L1 30 (nI w) (43 + p) b m (gsu g (43 + p) 6 v) mo y).1 = 0 ∨ (f_X1_join_L1 30 (nI w) (43 + p) b m (gsu g (43 + p) 6 v) mo y).2 (43 + p) 2 = 1) := fun y => by
            obtain ⟨r1, r2, r3, r4⟩ := ih _ mo y h1 s1 m1
            exact ⟨r1, Fr0_tr f1 r2, Ch_tr k1 r3, r4⟩
          split
          · obtain ⟨w1, w2, w3⟩ := addv_ok (x := gsu g (43 + p) 6 v (43 + k) 4) h1 hp
            have m2 : nI p ∈ rl (f_X4_addValue (gsu g (43 + p) 6 v) (43 + p) (gsu g (43 + p) 6 v (43 + k) 4)) (sc w) := by rw [rl_same (w3 _ _ (by unfold sc; omega)) (fun _ => w3 _ _ (by unfold sc; omega))]; exact m1
            obtain ⟨r1, r2, r3, r4⟩ := ih _ mo (x + 1) w1 ((w3 _ _ (by omega)).trans s1) m2
            exact ⟨r1, Fr0_tr f1 (Fr0_tr w2 r2), Ch_tr k1 (Ch_tr (Ch_of (fun t ht _ => w3 _ _ (by omega)) (fun t ht _ => w3 _ _ (by omega))) r3), r4⟩
          · split
            · split
              · exact go (x + 1)
              · obtain ⟨w1, w2, w3, w4, w5, w6⟩ := end_ok (sq := 5) h1 hp (by rw [s1]; decide) (Or.inl ⟨Or.inr rfl, rfl⟩)
                exact ⟨w1, Fr0_tr f1 w2, Ch_tr k1 w4, Or.inl rfl⟩
            · exact go (x + 1)
theorem join_ok {b : Int32} (h : J n wc ck 1 g) (hp : p < n) (hs : g (43 + p) 2 = 1) (hw1 : w < wc) (hm : nI p ∈ rl g (sc w)) : J n wc ck 1 (f_X1_join g 30 (nI w) (43 + p) b).2 ∧ Fr0 g (f_X1_join g 30 (nI w) (43 + p) b).2 ∧ Ch n (fun t => t = p) g (f_X1_join g 30 (nI w) (43 + p) b).2 ∧ ((f_X1_join g 30 (nI w) (43 + p) b).1 = 0 ∨ (f_X1_join g 30 (nI w) (43 + p) b).2 (43 + p) 2 = 1) := by
  unfold f_X1_join f_X1_join_J11
  split
  · exact join_L1 hp hw1 _ _ _ _ h hs hm
  · exact join_L1 hp hw1 _ _ _ _ h hs hm
/-! CANCEL BELOW -/
def Xb (n p : Nat) (g : gSt) (t : Nat) : Prop := p < t ∧ t < n ∧ g (43 + t) 2 < 4
theorem cb_L2 {g0 : gSt} {f : Int32} (hp : p < n) (hb : ∀ j, j < 24 → bt f j = true → j = p ∨ Xb n p g0 j) : ∀ (m k c : Nat) (g : gSt), J n wc ck e g → Fr0 g0 g → Ch n (Xb n p g0) g0 g → p ≤ k → k < n → c + k ≤ 100 → (∀ j, p < j → j ≤ k → g0 (43 + j) 2 < 4 → g (43 + j) 2 < 4) → ∃ c', (f_X1_cancelBelow_L2 30 (43 + p) m g f (nI c) (nI k)).1 = nI c' ∧ c' ≤ 100 ∧ J n wc ck e (f_X1_cancelBelow_L2 30 (43 + p) m g f (nI c) (nI k)).2 ∧ Fr0 g0 (f_X1_cancelBelow_L2 30 (43 + p) m g f (nI c) (nI k)).2 ∧ Ch n (Xb n p g0) g0 (f_X1_cancelBelow_L2 30 (43 + p) m g f (nI c) (nI k)).2 := by
  intro m
  induction m with
  | zero => intro k c g h hf hc h1 h2 h3 h4; exact ⟨0, rfl, by omega, h, hf, hc⟩
  | succ m ih =>
    intro k c g h hf hc h1 h2 h3 h4
    have hn : n ≤ 24 := h.1.1.1
    unfold f_X1_cancelBelow_L2
    rw [h.1.2.2.1 p (by omega), isIn_n (by omega)]
    by_cases c1 : k ≤ p
    · rw [if_pos (nI_le c1 (by omega))]
      exact ⟨c, rfl, by omega, h, hf, hc⟩
    · rw [if_neg (nI_ge (by omega) (by omega))]
      have ek : nI k + (-1) = nI (k - 1) := by
        obtain ⟨j, rfl⟩ : ∃ j, k = j + 1 := ⟨k - 1, by omega⟩
        exact pk_m1 j
      by_cases c2 : bt f k = true
      · rw [if_pos c2, if_neg (by decide), tk_n (by omega)]
        have hx : Xb n p g0 k := by
          rcases hb k (by omega) c2 with q | q
          · omega
          · exact q
        obtain ⟨w1, w2, w3, w4, w5, w6⟩ := end_ok (sq := 6) h h2 (h4 k (by omega) (by omega) hx.2.2) (Or.inr rfl)
        show ∃ c', (f_X1_cancelBelow_L2 30 (43 + p) m (f_X1_end g 30 (43 + k) 6) f (nI c + 1) (nI k + (-1))).1 = nI c' ∧ _
        rw [ek, nI_1 c]
        refine ih (k - 1) (c + 1) _ w1 (Fr0_tr hf w2) (Ch_tr hc ?_) (by omega) (by omega) (by omega) (fun j hj hj2 hj3 => ?_)
        · intro t ht hxt
          exact w4 t ht (fun q => hxt (by have q : t = k := q; rw [q]; exact hx))
        · exact (Ch_lt w4 (by omega) (by show ¬ j = k; omega)).mp (h4 j hj (by omega) hj3)
      · rw [if_neg c2, if_pos rfl]
        show ∃ c', (f_X1_cancelBelow_L2 30 (43 + p) m g f (nI c) (nI k + (-1))).1 = nI c' ∧ _
        rw [ek]
        exact ih (k - 1) c g h hf hc (by omega) (by omega) (by omega) (fun j hj hj2 hj3 => h4 j hj (by omega) hj3)
theorem cb_L1 (hp : p < n) (h : J n wc ck e g) : ∀ (m k : Nat) (f : Int32), p < k → k ≤ n → (∀ j, j < 24 → bt f j = true → j = p ∨ (Xb n p g j ∧ j < k)) → ∃ c', (f_X1_cancelBelow_L1 30 (43 + p) m g f (nI k)).1 = nI c' ∧ c' ≤ 100 ∧ J n wc ck e (f_X1_cancelBelow_L1 30 (43 + p) m g f (nI k)).2 ∧ Fr0 g (f_X1_cancelBelow_L1 30 (43 + p) m g f (nI k)).2 ∧ Ch n (Xb n p g) g (f_X1_cancelBelow_L1 30 (43 + p) m g f (nI k)).2 := by
  have hn : n ≤ 24 := h.1.1.1
  intro m
  induction m with
  | zero => intro k f h1 h2 hb; exact ⟨0, rfl, by omega, h, Fr0_rf g, Ch_rf _ _ _⟩
  | succ m ih =>
    intro k f h1 h2 hb
    unfold f_X1_cancelBelow_L1
    rw [h.1.2.1.1]
    by_cases c1 : n ≤ k
    · rw [if_pos (nI_le c1 (by omega))]
      have en : nI n - 1 = nI (n - 1) := by
        obtain ⟨j, rfl⟩ : ∃ j, n = j + 1 := ⟨n - 1, by omega⟩
        exact nI_pred j
      show ∃ c', (f_X1_cancelBelow_L2 30 (43 + p) (((nI n - 1).toInt - (g (43 + p) 0).toInt).toNat + 1) g f 0 (nI n - 1)).1 = nI c' ∧ _
      rw [en]
      exact cb_L2 (g0 := g) hp (fun j hj q => (hb j hj q).elim Or.inl (fun q => Or.inr q.1)) _ (n - 1) 0 g h (Fr0_rf g) (Ch_rf _ _ _) (by omega) (by omega) (by omega) (fun j _ _ q => q)
    · rw [if_neg (nI_ge (by omega) (by omega)), tk_n (by omega)]
      have e1 : nI k + 1 = nI (k + 1) := nI_1 k
      have hb1 : ∀ j, j < 24 → bt f j = true → j = p ∨ (Xb n p g j ∧ j < k + 1) := fun j hj q => (hb j hj q).elim Or.inl (fun q => Or.inr ⟨q.1, by omega⟩)
      dsimp only
      rw [e1]
      split
      · exact ih (k + 1) f (by omega) (by omega) hb1
      · split
        · rename_i c3
          refine ih (k + 1) _ (by omega) (by omega) (fun j hj q => ?_)
          rw [b_or, b_one' (by omega) hj] at q
          by_cases c4 : j = k
          · refine Or.inr ⟨⟨by omega, by omega, ?_⟩, by omega⟩
            rw [c4]
            rw [isO_eq] at c3
            by_cases c5 : g (43 + k) 2 < 4
            · exact c5
            · rw [if_neg c5] at c3; exact absurd c3 (by decide)
          · exact hb1 j hj (by simpa [c4] using q)
        · exact ih (k + 1) f (by omega) (by omega) hb1
theorem cb_ok (h : J n wc ck e g) (hp : p < n) : ∃ c', (f_X1_cancelBelow g 30 (43 + p)).1 = nI c' ∧ c' ≤ 100 ∧ J n wc ck e (f_X1_cancelBelow g 30 (43 + p)).2 ∧ Fr0 g (f_X1_cancelBelow g 30 (43 + p)).2 ∧ Ch n (Xb n p g) g (f_X1_cancelBelow g 30 (43 + p)).2 := by
  have hn : n ≤ 24 := h.1.1.1
  unfold f_X1_cancelBelow
  rw [h.1.2.2.1 p (by omega)]
  show ∃ c', (f_X1_cancelBelow_L1 30 (43 + p) (((g 30 3).toInt - (nI p + 1).toInt).toNat + 1) g ((1 : Int32) <<< (nI p &&& 31)) (nI p + 1)).1 = nI c' ∧ _
  rw [nI_1 p]
  refine cb_L1 hp h _ (p + 1) _ (by omega) (by omega) (fun j hj q => Or.inl ?_)
  rw [b_one' (by omega) hj] at q
  exact of_decide_eq_true q
/-! KEEP -/
theorem kp_L1 {a b : Int32} {g0 : gSt} : ∀ (m k : Nat) (g : gSt), J n wc ck e g → Fr0 g0 g → Ch n (fun _ => False) g0 g → k ≤ n → J n wc ck e (f_X1_keepPromise_L1 30 a b m g (nI k)).2 ∧ Fr0 g0 (f_X1_keepPromise_L1 30 a b m g (nI k)).2 ∧ Ch n (fun _ => False) g0 (f_X1_keepPromise_L1 30 a b m g (nI k)).2 ∧ (n < m + k → (f_X1_keepPromise_L1 30 a b m g (nI k)).1 = 1) ∧ ∀ i, (f_X1_keepPromise_L1 30 a b m g (nI k)).2 42 i = g 42 i := by
  intro m
  induction m with
  | zero => intro k g h h1 h2 h3; exact ⟨h, h1, h2, fun q => absurd q (by omega), fun _ => rfl⟩
  | succ m ih =>
    intro k g h h1 h2 h3
    have hn : n ≤ 24 := h.1.1.1
    unfold f_X1_keepPromise_L1
    rw [h.1.2.1.1]
    by_cases c1 : n ≤ k
    · rw [if_pos (nI_le c1 (by omega))]
      exact ⟨h, h1, h2, fun _ => rfl, fun _ => rfl⟩
    · rw [if_neg (nI_ge (by omega) (by omega)), tk_n (by omega)]
      have e1 : nI k + 1 = nI (k + 1) := nI_1 k
      have go : ∀ g, J n wc ck e g → Fr0 g0 g → Ch n (fun _ => False) g0 g → J n wc ck e (f_X1_keepPromise_L1 30 a b m g (nI (k + 1))).2 ∧ Fr0 g0 (f_X1_keepPromise_L1 30 a b m g (nI (k + 1))).2 ∧ Ch n (fun _ => False) g0 (f_X1_keepPromise_L1 30 a b m g (nI (k + 1))).2 ∧ (n < m + 1 + k → (f_X1_keepPromise_L1 30 a b m g (nI (k + 1))).1 = 1) ∧ (∀ i, (f_X1_keepPromise_L1 30 a b m g (nI (k + 1))).2 42 i = g 42 i) := fun g q1 q2 q3 => by
        obtain ⟨r1, r2, r3, r4, r5⟩ := ih (k + 1) g q1 q2 q3 (by omega)
        exact ⟨r1, r2, r3, fun q => r4 (by omega), r5⟩
      show J n wc ck e (if g (43 + k) 2 = 3 then if f_numberAt g (f_sc (g (43 + k) 1)) (g (43 + k) 3) = a then f_X1_keepPromise_L1 30 a b m (f_X1_free g 30 (43 + k)) (nI k + 1) else f_X1_keepPromise_L1 30 a b m g (nI k + 1) else f_X1_keepPromise_L1 30 a b m g (nI k + 1)).2 ∧ Fr0 g0 (if g (43 + k) 2 = 3 then if f_numberAt g (f_sc (g (43 + k) 1)) (g (43 + k) 3) = a then f_X1_keepPromise_L1 30 a b m (f_X1_free g 30 (43 + k)) (nI k + 1) else f_X1_keepPromise_L1 30 a b m g (nI k + 1) else f_X1_keepPromise_L1 30 a b m g (nI k + 1)).2 ∧ Ch n (fun _ => False) g0 (if g (43 + k) 2 = 3 then if f_numberAt g (f_sc (g (43 + k) 1)) (g (43 + k) 3) = a then f_X1_keepPromise_L1 30 a b m (f_X1_free g 30 (43 + k)) (nI k + 1) else f_X1_keepPromise_L1 30 a b m g (nI k + 1) else f_X1_keepPromise_L1 30 a b m g (nI k + 1)).2 ∧ (n < m + 1 + k → (if g (43 + k) 2 = 3 then if f_numberAt g (f_sc (g (43 + k) 1)) (g (43 + k) 3) = a then f_X1_keepPromise_L1 30 a b m (f_X1_free g 30 (43 + k)) (nI k + 1) else f_X1_keepPromise_L1 30 a b m g (nI k + 1) else f_X1_keepPromise_L1 30 a b m g (nI k + 1)).1 = 1) ∧ ∀ i, (if g (43 + k) 2 = 3 then if f_numberAt g (f_sc (g (43 + k) 1)) (g (43 + k) 3) = a then f_X1_keepPromise_L1 30 a b m (f_X1_free g 30 (43 + k)) (nI k + 1) else f_X1_keepPromise_L1 30 a b m g (nI k + 1) else f_X1_keepPromise_L1 30 a b m g (nI k + 1)).2 42 i = g 42 i
      rw [e1]
      split
      · rename_i c2
        split
        · obtain ⟨w1, w2, w3, w4⟩ := free_ok h (p := k) (by omega) (Or.inr c2)
          have w5 : Ch n (fun _ => False) g (f_X1_free g 30 (43 + k)) := fun t ht _ => by
            refine ⟨w3 _ _ (RS_t (by omega)) (by omega), ?_⟩
            by_cases c : t = k
            · subst c; exact Or.inr ⟨Or.inr c2, w4⟩
            · exact Or.inl (w3 _ _ (RS_t (by omega)) (by omega))
          obtain ⟨r1, r2, r3, r4, r5⟩ := go _ w1 (Fr0_tr h1 w2) (Ch_tr h2 w5)
          exact ⟨r1, r2, r3, r4, fun i => (r5 i).trans (w3 _ _ RS_42 (by omega))⟩
        · exact go g h h1 h2
      · exact go g h h1 h2
theorem kp_ok {a b : Int32} (h : J n wc ck e g) : J n wc ck e (f_X1_keepPromise g 30 a b).2 ∧ Fr0 g (f_X1_keepPromise g 30 a b).2 ∧ Ch n (fun _ => False) g (f_X1_keepPromise g 30 a b).2 := by
  have hn : n ≤ 24 := h.1.1.1
  unfold f_X1_keepPromise
  split
  · exact ⟨h, Fr0_rf g, Ch_rf _ _ _⟩
  · split
    · exact ⟨h, Fr0_rf g, Ch_rf _ _ _⟩
    · rename_i c1 c2
      have ha := cl_lt (n := 6) c1 c2 rfl
      split
      · have h1 : J n wc ck e (gsu g (30 + 12) a.toNatClampNeg b) := J_ir h (by unfold JR; omega) RS_42
        have f1 : Fr0 g (gsu g (30 + 12) a.toNatClampNeg b) := Fr0_su (Fr0_rf g) (by unfold Wr0; omega)
        obtain ⟨r1, r2, r3, -, -⟩ := kp_L1 (a := a) (b := b) (g0 := g) (((gsu g (30 + 12) a.toNatClampNeg b 30 3).toInt - (0 : Int32).toInt).toNat + 1) 0 _ h1 f1 (Ch_of (fun t _ _ => su_ni (by omega)) (fun t _ _ => su_ni (by omega))) (by omega)
        exact ⟨r1, r2, r3⟩
      · exact ⟨h, Fr0_rf g, Ch_rf _ _ _⟩
end OPS
end
section
/-! A TURN: take, work, step, fork; and a whole tick. -/
/-- what a worker is told: one number may be one more, and then its turn is over -/
def Td (w : Nat) (r : Int32) (g g' : gSt) : Prop := (∀ v, v < 5 → v ≠ w → ∀ b, 2 ≤ b → b ≤ 4 → g' (67 + 6 * v) b = g (67 + 6 * v) b) ∧ ((∀ b, 2 ≤ b → b ≤ 4 → g' (67 + 6 * w) b = g (67 + 6 * w) b) ∨ (r = 0 ∧ ∃ c, 2 ≤ c ∧ c ≤ 4 ∧ g' (67 + 6 * w) c = g (67 + 6 * w) c + 1 ∧ ∀ b, 2 ≤ b → b ≤ 4 → b ≠ c → g' (67 + 6 * w) b = g (67 + 6 * w) b))
theorem Td_0 {w : Nat} {r : Int32} {g g' : gSt} (hw : w < 5) (h : Fr0 g g') : Td w r g g' := ⟨fun v hv _ b _ _ => h _ _ (by unfold Wr0; omega), Or.inl (fun b _ _ => h _ _ (by unfold Wr0; omega))⟩
theorem Td_l {w : Nat} {r : Int32} {g g1 g' : gSt} (hw : w < 5) (h : Fr0 g g1) (h2 : Td w r g1 g') : Td w r g g' := by
  have e : ∀ v, v < 5 → ∀ b, 2 ≤ b → b ≤ 4 → g1 (67 + 6 * v) b = g (67 + 6 * v) b := fun v hv b _ _ => h _ _ (by unfold Wr0; omega)
  refine ⟨fun v hv hne b b1 b2 => (h2.1 v hv hne b b1 b2).trans (e v hv b b1 b2), ?_⟩
  rcases h2.2 with q | ⟨q0, c, c1, c2, q1, q2⟩
  · exact Or.inl (fun b b1 b2 => (q b b1 b2).trans (e w hw b b1 b2))
  · exact Or.inr ⟨q0, c, c1, c2, by rw [q1, e w hw c c1 c2], fun b b1 b2 hb => (q2 b b1 b2 hb).trans (e w hw b b1 b2)⟩
theorem Td_r {w : Nat} {r r' : Int32} {g g1 g' : gSt} (hw : w < 5) (h : Td w r g g1) (h2 : Fr0 g1 g') (hr : r = 0 → r' = 0) : Td w r' g g' := by
  have e : ∀ v, v < 5 → ∀ b, 2 ≤ b → b ≤ 4 → g' (67 + 6 * v) b = g1 (67 + 6 * v) b := fun v hv b _ _ => h2 _ _ (by unfold Wr0; omega)
  refine ⟨fun v hv hne b b1 b2 => (e v hv b b1 b2).trans (h.1 v hv hne b b1 b2), ?_⟩
  rcases h.2 with q | ⟨q0, c, c1, c2, q1, q2⟩
  · exact Or.inl (fun b b1 b2 => (e w hw b b1 b2).trans (q b b1 b2))
  · exact Or.inr ⟨hr q0, c, c1, c2, (e w hw c c1 c2).trans q1, fun b b1 b2 hb => (e w hw b b1 b2).trans (q2 b b1 b2 hb)⟩
/-- one number of the worker is one more -/
theorem Td_inc {w c : Nat} {g : gSt} {v : Int32} (hc : 2 ≤ c ∧ c ≤ 4) (hv : v = g (67 + 6 * w) c + 1) : Td w 0 g (gsu g (67 + 6 * w) c v) := by
  refine ⟨fun u _ hne b _ _ => su_ni (by omega), Or.inr ⟨rfl, c, hc.1, hc.2, by rw [su_at, hv], fun b _ _ hb => su_nk hb⟩⟩
/-- who is over stays so -/
def Mo (n : Nat) (g g' : gSt) : Prop := ∀ t, t < n → ¬ g (43 + t) 2 < 4 → g' (43 + t) 2 = g (43 + t) 2 ∧ g' (43 + t) 7 = g (43 + t) 7
theorem Mo_rf (n : Nat) (g : gSt) : Mo n g g := fun _ _ _ => ⟨rfl, rfl⟩
theorem Mo_tr {n n' : Nat} {a b c : gSt} (hn : n ≤ n') (h1 : Mo n a b) (h2 : Mo n' b c) : Mo n a c := fun t ht ho => by
  obtain ⟨p1, p2⟩ := h1 t ht ho
  obtain ⟨q1, q2⟩ := h2 t (by omega) (by rw [p1]; exact ho)
  exact ⟨q1.trans p1, q2.trans p2⟩
theorem Mo_Ch {n : Nat} {X : Nat → Prop} {a b : gSt} (h : Ch n X a b) (hx : ∀ t, t < n → X t → a (43 + t) 2 < 4) : Mo n a b := fun t ht ho => ⟨Ch_ov h ht (fun q => ho (hx t ht q)) ho, (h t ht (fun q => ho (hx t ht q))).1⟩
section TURN
variable {n wc ck e p w : Nat} {g g' : gSt}
theorem rok_pos {i : Nat} (h : rok g i) (hz : ¬ g i 1 ≤ 0) : rl g i ≠ [] := by
  intro q
  have h1 := (rok_len h).1
  rw [q] at h1
  exact hz (by rw [h1]; decide)
/-- from where a worker takes: nowhere, or a row that holds something -/
def Sr (wc w : Nat) (g : gSt) (x : Int32) : Prop := x = -2 ∨ ∃ j, j ≤ wc ∧ f_row 30 x = rc j ∧ rl g (rc j) ≠ []
theorem nwt_L1 (h : J n wc ck e g) (hw1 : w < wc) : ∀ (m k : Nat), 1 ≤ k → k ≤ wc → wc < m + k → Sr wc w g (f_X1_nextWithTasks_L1 30 (nI w) m g (nI k)) := by
  have hw : wc ≤ 5 := h.1.1.2.2.1
  intro m
  induction m with
  | zero => intro k _ h1 h2; omega
  | succ m ih =>
    intro k h0 h1 h2
    unfold f_X1_nextWithTasks_L1
    rw [h.1.2.1.2.1]
    by_cases c1 : wc ≤ k
    · rw [if_pos (nI_le c1 (by omega))]
      exact Or.inl rfl
    · rw [if_neg (nI_ge (by omega) (by omega)), nI_add]
      have e1 : nI k + 1 = nI (k + 1) := nI_1 k
      have go := ih (k + 1) (by omega) (by omega) (by omega)
      by_cases c2 : wc ≤ w + k
      · rw [if_pos (nI_le c2 (by omega))]
        have e2 : nI (w + k) - nI wc = nI (w + k - wc) := pk_sub c2
        show Sr wc w g (if g (f_row 30 (nI (w + k) - nI wc)) 1 ≤ 0 then f_X1_nextWithTasks_L1 30 (nI w) m g (nI k + 1) else nI (w + k) - nI wc)
        rw [e1, e2, row_n (by omega)]
        split
        · exact go
        · rename_i c3
          exact Or.inr ⟨w + k - wc + 1, by omega, row_n (by omega), rok_pos (h.2.1.1 _ (by omega)).1 c3⟩
      · rw [if_neg (nI_ge (by omega) (by omega))]
        show Sr wc w g (if g (f_row 30 (nI (w + k))) 1 ≤ 0 then f_X1_nextWithTasks_L1 30 (nI w) m g (nI k + 1) else nI (w + k))
        rw [e1, row_n (by omega)]
        split
        · exact go
        · rename_i c3
          exact Or.inr ⟨w + k + 1, by omega, row_n (by omega), rok_pos (h.2.1.1 _ (by omega)).1 c3⟩
theorem fwm_L1 (h : J n wc ck e g) : ∀ (m k : Nat) (y z : Int32), k ≤ wc → wc < m + k → ¬ z < 0 → Sr wc w g y → Sr wc w g (f_X1_firstWithMostTasks_L1 30 m g y z (nI k)) := by
  have hw : wc ≤ 5 := h.1.1.2.2.1
  intro m
  induction m with
  | zero => intro k y z h1 h2; omega
  | succ m ih =>
    intro k y z h1 h2 hz hy
    unfold f_X1_firstWithMostTasks_L1
    rw [h.1.2.1.2.1]
    by_cases c1 : wc ≤ k
    · rw [if_pos (nI_le c1 (by omega))]
      exact hy
    · rw [if_neg (nI_ge (by omega) (by omega))]
      have e1 : nI k + 1 = nI (k + 1) := nI_1 k
      show Sr wc w g (if g (f_row 30 (nI k)) 1 ≤ z then f_X1_firstWithMostTasks_L1 30 m g y z (nI k + 1) else f_X1_firstWithMostTasks_L1 30 m g (nI k) (g (f_row 30 (nI k)) 1) (nI k + 1))
      rw [e1, row_n (by omega)]
      split
      · exact ih (k + 1) y z (by omega) (by omega) hz hy
      · rename_i c3
        have c4 : ¬ g (rc (k + 1)) 1 ≤ 0 := fun q => by
          rw [Int32.le_iff_toInt_le] at q c3
          rw [Int32.lt_iff_toInt_lt] at hz
          omega
        refine ih (k + 1) _ _ (by omega) (by omega) (fun q => c4 ?_) (Or.inr ⟨k + 1, by omega, row_n (by omega), rok_pos (h.2.1.1 _ (by omega)).1 c4⟩)
        rw [Int32.le_iff_toInt_le]
        rw [Int32.lt_iff_toInt_lt] at q
        omega
theorem src_ok (h : J n wc ck e g) (hw1 : w < wc) : Sr wc w g (f_X1_sourceFor g 30 (nI w)) := by
  have hw : wc ≤ 5 := h.1.1.2.2.1
  have e0 : (0 : Int32).toInt = 0 := rfl
  have e1 : (1 : Int32).toInt = 1 := rfl
  unfold f_X1_sourceFor
  rw [row_n (by omega)]
  split
  · split
    · split
      · unfold f_X1_nextWithTasks
        exact nwt_L1 h hw1 _ 1 (by omega) (by omega) (by rw [h.1.2.1.2.1, nI_toInt (by omega)]; omega)
      · split
        · unfold f_X1_firstWithMostTasks
          exact fwm_L1 h _ 0 _ _ (by omega) (by rw [h.1.2.1.2.1, nI_toInt (by omega)]; omega) (by decide) (Or.inl rfl)
        · exact Or.inl rfl
    · rename_i c
      exact Or.inr ⟨0, by omega, row_c, rok_pos (h.2.1.1 0 (by omega)).1 c⟩
  · rename_i c
    exact Or.inr ⟨w + 1, by omega, row_n (by omega), rok_pos (h.2.1.1 _ (by omega)).1 c⟩
/-- what act leaves -/
def Ac (n wc ck w : Nat) (g : gSt) (q : Int32 × gSt) : Prop := ∃ n', n ≤ n' ∧ J n' wc ck 1 q.2 ∧ Fr g q.2 ∧ Mo n g q.2 ∧ Td w q.1 g q.2
theorem idle_ok (h : J n wc ck 1 g) (hw1 : w < 5) : Ac n wc ck w g (0, gsu g (67 + 6 * w) 3 (g (67 + 6 * w) 3 + 1)) :=
  ⟨n, Nat.le_refl _, J_ir h (by unfold JR; omega) (RS_w w), Fr_su (Fr_rf g) (by unfold Wr; omega), fun t ht _ => ⟨su_ni (by have := h.1.1.1; omega), su_ni (by have := h.1.1.1; omega)⟩, Td_inc (by omega) rfl⟩
theorem take50_ok {j : Nat} {x y : Int32} (h : J n wc ck 1 g) (hw1 : w < wc) (hj : j ≤ wc) (hy : y ∈ rl g (rc j)) : Ac n wc ck w g (f_X1_take_J50 30 (nI w) (67 + 6 * w) g x y (rc j)) := by
  have hn : n ≤ 24 := h.1.1.1
  have hw : wc ≤ 5 := h.1.1.2.2.1
  obtain ⟨p, hp, rfl⟩ := (h.2.1.1 j hj).2 y hy
  obtain ⟨a1, -, -, a4, a5⟩ := h.2.2 p hp
  have c1 := cnt_mem hy
  have c2 := cnt_Rn (g := g) (t := p) hj
  have hs : g (43 + p) 2 = 0 := by
    rcases Classical.em (g (43 + p) 2 = 0) with q | q
    · exact q
    · rw [a5.1, if_neg q] at c2; omega
  have hR : Rn wc g p = 1 := by rw [a5.1, if_pos hs]
  have hS : Sn wc g p = 0 := by
    rcases Nat.lt_or_ge (Sn wc g p) 1 with q | q
    · omega
    · have q1 := a5.2.2.1 (by have := a5.2.1; omega)
      rw [hs] at q1
      exact absurd q1 (by decide)
  obtain ⟨g1, e1⟩ : ∃ g1, g1 = f_rm g (rc j) (nI p) := ⟨_, rfl⟩
  have k1 : Rk n wc g1 := by rw [e1]; exact Rk_rmr h.2.1 _
  have n1 : ∀ s, s < n → Rn wc g1 s + (if s = p then cnt g (rc j) s else 0) = Rn wc g s ∧ Sn wc g1 s = Sn wc g s := fun s hs1 => by
    rw [e1]; exact ⟨Rn_rmr h.2.1 hj (by omega) (by omega), Sn_rmr⟩
  have r1 : RF g g1 := by rw [e1]; exact RF_rm (RS_r (by omega)) (RS_r1 (by omega))
  have f1 : Fr0 g g1 := by rw [e1]; exact Fr0_rm (Fr0_rf g) (Wr0_r (by omega)) (fun _ q => Wr0_r1 (by omega) q)
  have hl : (rl g1 (sc w)).length < 24 := room_s k1 hn hw1 hp (by
    have q := cnt_Sn (g := g1) (t := p) hw1
    rw [(n1 p hp).2, hS] at q; omega) (fun s hs1 => by
    have q := cnt_Sn (g := g1) (t := s) hw1
    rw [(n1 s hs1).2] at q
    have := (h.2.2 s hs1).2.2.2.2.2.1
    omega)
  obtain ⟨g2, e2⟩ : ∃ g2, g2 = f_append g1 (sc w) (nI p) := ⟨_, rfl⟩
  have k2 : Rk n wc g2 := by rw [e2]; exact Rk_aps k1 hl hp
  have n2 : ∀ s, s < n → Sn wc g2 s = Sn wc g1 s + (if s = p then 1 else 0) ∧ Rn wc g2 s = Rn wc g1 s := fun s hs1 => by
    rw [e2]; exact ⟨Sn_aps k1 hw1 hl (by omega) (by omega), Rn_aps⟩
  have r2 : RF g g2 := RF_tr r1 (by rw [e2]; exact RF_ap (RS_s (by omega)) (RS_s1 (by omega)))
  have f2 : Fr0 g g2 := by rw [e2]; exact Fr0_ap f1 (Wr0_s (by omega)) (fun _ q => Wr0_s1 (by omega) q)
  obtain ⟨g3, e3⟩ : ∃ g3, g3 = gsu g2 (43 + p) 2 1 := ⟨_, rfl⟩
  have hr : RE wc g2 g3 := by rw [e3]; exact RE_su hw RE_rf (RS_t (by omega))
  have f3 : Fr0 g g3 := by rw [e3]; exact Fr0_su f2 (Wr0_t (by omega) (by omega) (by omega))
  have r3 : ∀ a b, ¬ RS a → ¬ (a = 43 + p ∧ b = 2) → g3 a b = g a b := fun a b ha hc => by rw [e3, su_ne hc]; exact r2 a b ha
  have s3 : g3 (43 + p) 2 = 1 := by rw [e3, su_at]
  have hJ : J n wc ck 1 g3 := by
    refine J_re h hp (fun a b hj2 hc => r3 a b (by unfold JR at hj2; unfold RS; omega) (by omega)) (RE_Rk hr k2) (fun s hs1 hne => ?_) ?_ ?_ (fun _ => by rw [hs]; decide) ?_
    · obtain ⟨q1, q2⟩ := n1 s hs1
      obtain ⟨q3, q4⟩ := n2 s hs1
      rw [if_neg hne] at q1 q3
      rw [RE_Rn hr, RE_Sn hr]
      exact ⟨by omega, by omega⟩
    · obtain ⟨q1, q2⟩ := n1 p hp
      obtain ⟨q3, q4⟩ := n2 p hp
      rw [if_pos rfl] at q1 q3
      unfold PLt
      rw [RE_Rn hr, RE_Sn hr, s3, if_neg (by decide)]
      exact ⟨by omega, by omega, fun _ => Or.inl rfl, fun _ => by omega⟩
    · unfold TS
      rw [s3, r3 _ 7 (RS_t (by omega)) (by omega)]
      exact ⟨fun _ => a1.1 (by rw [hs]; decide), fun q => absurd st_lt1 q⟩
    · unfold TB
      rw [s3]
      exact fun q => absurd q (by decide)
  have hM : Mo n g g3 := fun t ht ho => by
    have hne : t ≠ p := fun q => ho (by rw [q, hs]; decide)
    exact ⟨r3 _ _ (RS_t (by omega)) (by omega), r3 _ _ (RS_t (by omega)) (by omega)⟩
  have hA : ∀ r, Ac n wc ck w g (r, g3) := fun r => ⟨n, Nat.le_refl _, hJ, Fr_0 f3, hM, Td_0 (by omega) f3⟩
  have ee : f_X1_take_J50 30 (nI w) (67 + 6 * w) g x (nI p) (rc j) = if x = nI w then ((1 : Int32), g3) else if x = -1 then ((1 : Int32), g3) else ((0 : Int32), gsu g3 (67 + 6 * w) 4 (g3 (67 + 6 * w) 4 + 1)) := by
    rw [e3, e2, e1, ← tk_n (by omega : p < 24)]
    have e5 : 67 + 6 * w + 3 = sc w := by unfold sc; omega
    rw [← e5]
    rfl
  rw [ee]
  split
  · exact hA 1
  · split
    · exact hA 1
    · exact ⟨n, Nat.le_refl _, J_ir hJ (by unfold JR; omega) (RS_w w), Fr_su (Fr_0 f3) (by unfold Wr; omega), fun t ht ho => ⟨(su_ni (by omega)).trans (hM t ht ho).1, (su_ni (by omega)).trans (hM t ht ho).2⟩, Td_l (by omega) f3 (Td_inc (by omega) rfl)⟩
theorem take_ok (h : J n wc ck 1 g) (hw1 : w < wc) : Ac n wc ck w g (f_X1_take g 30 (nI w) (67 + 6 * w)) := by
  have hw : wc ≤ 5 := h.1.1.2.2.1
  have hs := src_ok h hw1
  unfold f_X1_take
  generalize f_X1_sourceFor g 30 (nI w) = x at hs
  show Ac n wc ck w g (if x = -2 then ((0 : Int32), gsu g (67 + 6 * w) 3 (g (67 + 6 * w) 3 + 1)) else if x = nI w then f_X1_take_J50 30 (nI w) (67 + 6 * w) g x (f_last g (f_row 30 x)) (f_row 30 x) else f_X1_take_J50 30 (nI w) (67 + 6 * w) g x (f_at g (f_row 30 x) 0) (f_row 30 x))
  split
  · exact idle_ok h (by omega)
  · rename_i c
    rcases hs with q | ⟨j, hj, er, hne⟩
    · exact absurd q c
    · rw [er]
      have hrk := (h.2.1.1 j hj).1
      split
      · exact take50_ok h hw1 hj (last_mem hrk hne)
      · exact take50_ok h hw1 hj (at_mem (j := 0) hrk (List.length_pos_iff.mpr hne))
/-- a note of what ran: in its own twenty places -/
theorem mod_in (ck : Nat) (h : ck < 1000000) (st : gSt) : (f_J9_floorMod_7cf53 st (nI ck) 20).toNatClampNeg < 20 := by
  have e0 : nI ck - nI ck / 20 * 20 = nI (ck % 20) := pk_rem (d := 20) (by omega) (by omega) (by omega)
  have e1 : ∀ m, m < 20 → (if nI m = 0 then nI m else nI m + 20).toNatClampNeg < 20 ∨ (nI m).toNatClampNeg < 20 := fun m hm => Or.inr (by rw [nI_clamp (by omega)]; exact hm)
  have hx : (0 : Int32) ≤ (nI ck ^^^ 20) := by
    have hb : bt (nI ck ^^^ 20) 31 = false := by
      rw [b_xor]
      have h1 : bt (nI ck) 31 = false := by
        show (BitVec.ofNat 32 ck).getLsbD 31 = false
        rw [BitVec.getLsbD_ofNat]
        have : ck.testBit 31 = false := Nat.testBit_lt_two_pow (by omega)
        simp [this]
      rw [h1]
      decide
    rw [Int32.le_iff_toInt_le]
    have h2 : (nI ck ^^^ 20).toBitVec.msb = false := by rw [BitVec.msb_eq_getLsbD_last]; exact hb
    have h3 : (nI ck ^^^ 20).toInt = (nI ck ^^^ 20).toBitVec.toNat := by
      show (nI ck ^^^ 20).toBitVec.toInt = _
      rw [BitVec.toInt_eq_msb_cond, h2]
      simp
    have e00 : (0 : Int32).toInt = 0 := rfl
    omega
  unfold f_J9_floorMod_7cf53
  show (if (0 : Int32) ≤ (nI ck ^^^ 20) then nI ck - nI ck / 20 * 20 else _).toNatClampNeg < 20
  rw [if_pos hx, e0, nI_clamp (by omega)]
  omega
theorem note_ok {i : Nat} {v : Int32} (h : J n wc ck e g) (hw1 : w < 5) (hi : i = 67 + 6 * w) : J n wc ck e (f_X5_noteRan g i (nI ck) v) ∧ Fr g (f_X5_noteRan g i (nI ck) v) ∧ ∀ a b, a ≠ 72 + 6 * w → f_X5_noteRan g i (nI ck) v a b = g a b := by
  subst hi
  have hm := mod_in ck h.1.1.2.2.2 g
  unfold f_X5_noteRan
  show J n wc ck e (gsu g (67 + 6 * w + 5) (f_J9_floorMod_7cf53 g (nI ck) 20).toNatClampNeg v) ∧ Fr g (gsu g (67 + 6 * w + 5) (f_J9_floorMod_7cf53 g (nI ck) 20).toNatClampNeg v) ∧ ∀ a b, a ≠ 72 + 6 * w → gsu g (67 + 6 * w + 5) (f_J9_floorMod_7cf53 g (nI ck) 20).toNatClampNeg v a b = g a b
  have e5 : 67 + 6 * w + 5 = 72 + 6 * w := by omega
  rw [e5]
  exact ⟨J_ir h (by unfold JR; omega) (RS_n w), Fr_su (Fr_rf g) (by unfold Wr; omega), fun a b ha => su_ni ha⟩
end TURN
end
section
/-! STEPS, TURNS, TICKS. -/
section TICK
variable {n wc ck e p w : Nat} {g g' : gSt}
/-- work: the worker is told, the task has run for one tick more -/
theorem work_ok {x : Int32} (h : J n wc ck 1 g) (hp : p < n) (hw1 : w < 5) : J n wc ck 1 (f_X1_work g 30 (nI w) (43 + p) x).2 ∧ Fr g (f_X1_work g 30 (nI w) (43 + p) x).2 ∧ (∀ t, t < 24 → ∀ b, b ≠ 8 → b ≠ 9 → (f_X1_work g 30 (nI w) (43 + p) x).2 (43 + t) b = g (43 + t) b) ∧ Td w 0 g (f_X1_work g 30 (nI w) (43 + p) x).2 := by
  have hn : n ≤ 24 := h.1.1.1
  obtain ⟨g2, e2⟩ : ∃ g2, g2 = gsu g (67 + 6 * w) 2 (g (67 + 6 * w) 2 + 1) := ⟨_, rfl⟩
  have j2 : J n wc ck 1 g2 := by rw [e2]; exact J_ir h (by unfold JR; omega) (RS_w w)
  have f2 : Fr g g2 := by rw [e2]; exact Fr_su (Fr_rf g) (by unfold Wr; omega)
  have d2 : Td w 0 g g2 := by rw [e2]; exact Td_inc (by omega) rfl
  have t2 : ∀ a b, a ≠ 67 + 6 * w → g2 a b = g a b := fun a b ha => by rw [e2]; exact su_ni ha
  obtain ⟨g3, e3⟩ : ∃ g3, g3 = f_X5_noteRan g2 (67 + 6 * w) (nI ck) (nI p) := ⟨_, rfl⟩
  obtain ⟨j3, f3, t3⟩ := note_ok (v := nI p) j2 hw1 rfl
  rw [← e3] at j3 f3 t3
  have j4 : ∀ v v', J n wc ck 1 (gsu (gsu g3 (43 + p) 9 v) (43 + p) 8 v') := fun v v' => J_ir (J_ir j3 (by unfold JR; omega) (RS_t (by omega))) (by unfold JR; omega) (RS_t (by omega))
  have f4 : ∀ v v', Fr g (gsu (gsu g3 (43 + p) 9 v) (43 + p) 8 v') := fun v v' => Fr_su (Fr_su (Fr_tr f2 f3) (Or.inl (Wr0_t (by omega) (by omega) (by omega)))) (Or.inl (Wr0_t (by omega) (by omega) (by omega)))
  have t4 : ∀ v v' t, t < 24 → ∀ b, b ≠ 8 → b ≠ 9 → gsu (gsu g3 (43 + p) 9 v) (43 + p) 8 v' (43 + t) b = g (43 + t) b := fun v v' t ht b h8 h9 => by
    rw [su_nk h8, su_nk h9, t3 _ _ (by omega)]; exact t2 _ _ (by omega)
  have d4 : ∀ v v', Td w 0 g (gsu (gsu g3 (43 + p) 9 v) (43 + p) 8 v') := fun v v' => by
    have q : ∀ a b, 67 ≤ a → a ≠ 72 + 6 * w → gsu (gsu g3 (43 + p) 9 v) (43 + p) 8 v' a b = g2 a b := fun a b ha hc => by rw [su_ni (by omega), su_ni (by omega)]; exact t3 a b hc
    refine ⟨fun u hu hne b b1 b2 => by rw [q _ _ (by omega) (by omega)]; exact d2.1 u hu hne b b1 b2, ?_⟩
    rcases d2.2 with r | ⟨r0, c, c1, c2, r1, r2⟩
    · exact Or.inl (fun b b1 b2 => by rw [q _ _ (by omega) (by omega)]; exact r b b1 b2)
    · exact Or.inr ⟨r0, c, c1, c2, by rw [q _ _ (by omega) (by omega)]; exact r1, fun b b1 b2 hb => by rw [q _ _ (by omega) (by omega)]; exact r2 b b1 b2 hb⟩
  have q11 : g2 30 11 = nI ck := (t2 _ _ (by omega)).trans h.1.2.1.2.2
  have qn : g2 (43 + p) 0 = nI p := (t2 _ _ (by omega)).trans (h.1.2.2.1 p (by omega))
  have ee : f_X1_work g 30 (nI w) (43 + p) x = if gsu (gsu g3 (43 + p) 9 (g3 (43 + p) 9 + 1)) (43 + p) 8 (gsu g3 (43 + p) 9 (g3 (43 + p) 9 + 1) (43 + p) 8 + 1) (43 + p) 8 < x then ((0 : Int32), gsu (gsu g3 (43 + p) 9 (g3 (43 + p) 9 + 1)) (43 + p) 8 (gsu g3 (43 + p) 9 (g3 (43 + p) 9 + 1) (43 + p) 8 + 1)) else ((1 : Int32), gsu (gsu g3 (43 + p) 9 (g3 (43 + p) 9 + 1)) (43 + p) 8 (gsu g3 (43 + p) 9 (g3 (43 + p) 9 + 1) (43 + p) 8 + 1)) := by
    rw [e3, ← q11, ← qn, e2, ← wk_n hw1]
    rfl
  rw [ee]
  split
  · exact ⟨j4 _ _, f4 _ _, t4 _ _, d4 _ _⟩
  · exact ⟨j4 _ _, f4 _ _, t4 _ _, d4 _ _⟩
/-- advance: behind the step; DONE at the end of the script -/
theorem adv_ok {x : Int32} (h : J n wc ck 1 g) (hp : p < n) (hs : g (43 + p) 2 < 4) : J n wc ck 1 (f_X1_advance g 30 (43 + p) x) ∧ Fr0 g (f_X1_advance g 30 (43 + p) x) ∧ Ch n (fun t => t = p) g (f_X1_advance g 30 (43 + p) x) := by
  have hn : n ≤ 24 := h.1.1.1
  have j2 : ∀ v v', J n wc ck 1 (gsu (gsu g (43 + p) 3 v) (43 + p) 8 v') := fun v v' => J_ir (J_ir h (by unfold JR; omega) (RS_t (by omega))) (by unfold JR; omega) (RS_t (by omega))
  have f2 : ∀ v v', Fr0 g (gsu (gsu g (43 + p) 3 v) (43 + p) 8 v') := fun v v' => Fr0_su (Fr0_su (Fr0_rf g) (Wr0_t (by omega) (by omega) (by omega))) (Wr0_t (by omega) (by omega) (by omega))
  have t2 : ∀ v v' t b, b ≠ 3 → b ≠ 8 → gsu (gsu g (43 + p) 3 v) (43 + p) 8 v' (43 + t) b = g (43 + t) b := fun v v' t b h3 h8 => by rw [su_nk h8, su_nk h3]
  have c2 : ∀ v v', Ch n (fun t => t = p) g (gsu (gsu g (43 + p) 3 v) (43 + p) 8 v') := fun v v' => Ch_of (fun t _ _ => t2 _ _ _ _ (by omega) (by omega)) (fun t _ _ => t2 _ _ _ _ (by omega) (by omega))
  unfold f_X1_advance
  generalize (if x < g (43 + p) 3 + 1 then x else g (43 + p) 3 + 1) = v
  show J n wc ck 1 (if gsu (gsu g (43 + p) 3 v) (43 + p) 8 0 (43 + p) 3 = x then f_X1_end (gsu (gsu g (43 + p) 3 v) (43 + p) 8 0) 30 (43 + p) 4 else gsu (gsu g (43 + p) 3 v) (43 + p) 8 0) ∧ Fr0 g (if gsu (gsu g (43 + p) 3 v) (43 + p) 8 0 (43 + p) 3 = x then f_X1_end (gsu (gsu g (43 + p) 3 v) (43 + p) 8 0) 30 (43 + p) 4 else gsu (gsu g (43 + p) 3 v) (43 + p) 8 0) ∧ Ch n (fun t => t = p) g (if gsu (gsu g (43 + p) 3 v) (43 + p) 8 0 (43 + p) 3 = x then f_X1_end (gsu (gsu g (43 + p) 3 v) (43 + p) 8 0) 30 (43 + p) 4 else gsu (gsu g (43 + p) 3 v) (43 + p) 8 0)
  split
  · obtain ⟨w1, w2, -, w4, -, -⟩ := end_ok (sq := 4) (j2 v 0) hp (by rw [t2 _ _ _ _ (by omega) (by omega)]; exact hs) (Or.inl ⟨Or.inl rfl, rfl⟩)
    exact ⟨w1, Fr0_tr (f2 _ _) w2, Ch_tr (c2 _ _) w4⟩
  · exact ⟨j2 _ _, f2 _ _, c2 _ _⟩
/-- a new task: in its cell what begin writes, in one row its number -/
theorem J_new (h : J n wc ck e g) (hn1 : n < 24) (h0 : ∀ a b, JR a b → ¬ a = 43 + n → ¬ (a = 30 ∧ b = 3) → ¬ (43 ≤ a ∧ a < 67 ∧ b = 6) → g' a b = g a b) (h3 : g' 30 3 = nI (n + 1)) (hnum : g' (43 + n) 0 = nI n) (h2 : g' (43 + n) 2 = 0) (h7 : g' (43 + n) 7 = -1) (h4 : g' (43 + n) 4 = 0) (h6 : g' (43 + n) 6 = 0) (hpar : g' (43 + n) 5 = -1 ∨ ∃ r, r < n ∧ g' (43 + n) 5 = nI r) (hc : ∀ s, s < n → ∀ k, k < 24 → (bt (g' (43 + s) 6) k = true ↔ bt (g (43 + s) 6) k = true ∨ (k = n ∧ g' (43 + n) 5 = nI s))) (hk : Rk (n + 1) wc g') (ho : ∀ s, s < n → Rn wc g' s = Rn wc g s ∧ Sn wc g' s = Sn wc g s) (hR : Rn wc g' n = 1) (hS : Sn wc g' n = 0) : J (n + 1) wc ck e g' := by
  obtain ⟨hJ, -, hT⟩ := h
  obtain ⟨b1, ⟨b2, b3, b4⟩, b5, b6⟩ := hJ
  refine ⟨⟨⟨by omega, b1.2⟩, ⟨h3, ?_, ?_⟩, fun t ht => ?_, ?_⟩, hk, fun t ht => ?_⟩
  · rw [h0 30 6 (Or.inl (by omega)) (by omega) (by omega) (by omega)]; exact b3
  · rw [h0 30 11 (Or.inl (by omega)) (by omega) (by omega) (by omega)]; exact b4
  · by_cases c : t = n
    · rw [c]; exact hnum
    · rw [h0 _ _ (JR_t ht (by omega)) (by omega) (by omega) (by omega)]; exact b5 t ht
  · rw [h0 32 2 (Or.inr (Or.inl (by omega))) (by omega) (by omega) (by omega)]; exact b6
  · by_cases c : t = n
    · subst c
      refine ⟨?_, ?_, ⟨?_, fun k _ q => ?_⟩, ?_, ?_⟩
      · unfold TS; rw [h2, h7]; exact ⟨fun _ => rfl, fun q => absurd st_lt0 q⟩
      · unfold TV; rw [h4]; decide
      · rcases hpar with q | ⟨r, hr, q⟩
        · exact Or.inl q
        · exact Or.inr ⟨r, hr, q, fun _ => (hc r hr t (by omega)).mpr (Or.inr ⟨rfl, q⟩)⟩
      · rw [h6, b_0] at q; exact absurd q (by decide)
      · unfold TB; rw [h2]; exact fun q => absurd q (by decide)
      · unfold PLt; rw [h2, hR, hS, if_pos rfl]; exact ⟨rfl, by omega, fun q => absurd q (by omega), fun q => absurd q (by decide)⟩
    · have ht : t < n := by omega
      have ee : ∀ t, t < n → ∀ k, (k = 0 ∨ k = 2 ∨ k = 4 ∨ k = 5 ∨ k = 7 ∨ k = 10) → g' (43 + t) k = g (43 + t) k := fun t ht k hk => h0 _ _ (JR_t (by omega) (by omega)) (by omega) (by omega) (by omega)
      obtain ⟨a1, a2, a3, a4, a5⟩ := hT t ht
      refine ⟨?_, ?_, ⟨?_, fun k hk1 q => ?_⟩, ?_, ?_⟩
      · unfold TS; rw [ee t ht 2 (by omega), ee t ht 7 (by omega)]; exact a1
      · unfold TV; rw [ee t ht 4 (by omega)]; exact a2
      · rw [ee t ht 5 (by omega), ee t ht 2 (by omega)]
        rcases a3.1 with q | ⟨r, hr, q, hq⟩
        · exact Or.inl q
        · exact Or.inr ⟨r, hr, q, fun hs => (hc r (by omega) t (by omega)).mpr (Or.inl (hq hs))⟩
      · rcases (hc t ht k hk1).mp q with q | ⟨q1, q2⟩
        · obtain ⟨d1, d2⟩ := a3.2 k hk1 q
          exact ⟨by omega, by rw [ee k d1 5 (by omega)]; exact d2⟩
        · rw [q1]; exact ⟨by omega, q2⟩
      · unfold TB; rw [ee t ht 2 (by omega), ee t ht 10 (by omega)]; exact a4
      · unfold PLt; rw [ee t ht 2 (by omega), (ho t ht).1, (ho t ht).2]; exact a5
/-- what newTask leaves -/
theorem new_eq {a b : Int32} (h : J n wc ck e g) (hn1 : n < 24) : f_X1_newTask g 30 a b = (43 + n, f_begin (gsu g 30 3 (nI (n + 1))) (43 + n) a b) := by
  unfold f_X1_newTask
  rw [h.1.2.1.1, tk_n hn1, ← nI_1 n]
theorem beg_fr {i : Nat} {a b : Int32} (x k : Nat) (h : x ≠ i ∨ k = 0 ∨ 10 < k) : f_begin g i a b x k = g x k := by
  unfold f_begin
  rw [su_ne (by omega), su_ne (by omega), su_ne (by omega), su_ne (by omega), su_ne (by omega), su_ne (by omega), su_ne (by omega), su_ne (by omega), su_ne (by omega), su_ne (by omega)]
theorem beg_at {i : Nat} {a b : Int32} : f_begin g i a b i 2 = 0 ∧ f_begin g i a b i 4 = 0 ∧ f_begin g i a b i 5 = b ∧ f_begin g i a b i 6 = 0 ∧ f_begin g i a b i 7 = -1 := by
  unfold f_begin
  refine ⟨?_, ?_, ?_, ?_, ?_⟩ <;> simp [gsu_eq]
/-- newTask, perhaps a child, and its number at the end of a row -/
theorem born {a b : Int32} {j : Nat} {g1 : gSt} (h : J n wc ck e g) (hn1 : n < 24) (hj : j ≤ wc) (hb : b = -1 ∨ ∃ r, r < n ∧ b = nI r) (h1 : ∀ x k, ¬ (43 ≤ x ∧ x < 43 + n ∧ k = 6) → g1 x k = f_begin (gsu g 30 3 (nI (n + 1))) (43 + n) a b x k) (hc : ∀ s, s < n → ∀ k, k < 24 → (bt (g1 (43 + s) 6) k = true ↔ bt (g (43 + s) 6) k = true ∨ (k = n ∧ b = nI s))) : J (n + 1) wc ck e (f_append g1 (rc j) (nI n)) ∧ Fr0 g (f_append g1 (rc j) (nI n)) ∧ Ch n (fun _ => False) g (f_append g1 (rc j) (nI n)) := by
  have hn : n ≤ 24 := h.1.1.1
  have hw : wc ≤ 5 := h.1.1.2.2.1
  have q1 : ∀ x k, x ≠ 43 + n → ¬ (x = 30 ∧ k = 3) → ¬ (43 ≤ x ∧ x < 43 + n ∧ k = 6) → g1 x k = g x k := fun x k ha hb1 hc1 => by
    rw [h1 x k hc1, beg_fr x k (Or.inl ha), su_ne hb1]
  have hr : RE wc g g1 := by
    refine ⟨fun i hi => ⟨q1 _ _ ?_ ?_ ?_, fun k => q1 _ _ ?_ ?_ ?_⟩, fun i hi => ⟨q1 _ _ ?_ ?_ ?_, fun k => q1 _ _ ?_ ?_ ?_⟩⟩ <;> first | (unfold rc; split <;> omega) | (unfold sc; omega)
  have hk := RE_Rk hr h.2.1
  obtain ⟨z1, z2⟩ := Rn_out hk hn (t := n) (by omega) (by omega)
  have hk1 : Rk (n + 1) wc g1 := Rk_up hk (by omega)
  have hl : (rl g1 (rc j)).length < 24 := room_r hk1 (by omega) hj (t := n) (by omega) (by have := cnt_Rn (g := g1) (t := n) hj; omega) (fun s hs => by
    have q := cnt_Rn (g := g1) (t := s) hj
    by_cases c : s = n
    · rw [c] at q; rw [c]; omega
    · rw [RE_Rn hr, (h.2.2 s (by omega)).2.2.2.2.1] at q
      split at q <;> omega)
  have ef : ∀ x k, ¬ RS x → f_append g1 (rc j) (nI n) x k = g1 x k := fun x k hx => RF_ap (RS_r (by omega)) (RS_r1 (by omega)) x k hx
  have eb : ∀ k, f_append g1 (rc j) (nI n) (43 + n) k = f_begin (gsu g 30 3 (nI (n + 1))) (43 + n) a b (43 + n) k := fun k => by
    rw [ef _ _ (RS_t hn1), h1 _ _ (by omega)]
  obtain ⟨c2, c4, c5, c6, c7⟩ := beg_at (g := gsu g 30 3 (nI (n + 1))) (i := 43 + n) (a := a) (b := b)
  have F1 : Fr0 g g1 := fun x k hw0 => by
    unfold Wr0 at hw0
    by_cases c : x = 43 + n
    · subst c
      rw [h1 _ _ (by omega), beg_fr _ _ (by omega), su_ne (by omega)]
    · exact q1 x k c (by omega) (by omega)
  refine ⟨?_, Fr0_ap F1 (Wr0_r (by omega)) (fun _ q => Wr0_r1 (by omega) q), Ch_of (fun t ht _ => ?_) (fun t ht _ => ?_)⟩
  · refine J_new h hn1 (fun x k hx h43 h303 h6 => ?_) ?_ ?_ ?_ ?_ ?_ ?_ ?_ ?_ (Rk_apr hk1 hl (by omega)) (fun s hs => ?_) ?_ ?_
    · rw [ef x k (by unfold JR at hx; unfold RS; omega)]; exact q1 x k h43 h303 (by omega)
    · rw [ef _ _ RS_30, h1 _ _ (by omega), beg_fr _ _ (by omega), su_at]
    · rw [eb, beg_fr _ _ (by omega), su_ne (by omega)]; exact h.1.2.2.1 n hn1
    · rw [eb]; exact c2
    · rw [eb]; exact c7
    · rw [eb]; exact c4
    · rw [eb]; exact c6
    · rw [eb, c5]; exact hb
    · intro s hs k hk2
      rw [ef _ _ (RS_t (by omega)), eb, c5]
      exact hc s hs k hk2
    · rw [Rn_apr hk1 hj hl (by omega) (by omega), Sn_apr, if_neg (by omega), RE_Rn hr, RE_Sn hr]; exact ⟨rfl, rfl⟩
    · rw [Rn_apr hk1 hj hl (by omega) (by omega), if_pos rfl, z1]
    · rw [Sn_apr]; exact z2
  · rw [ef _ _ (RS_t (by omega))]; exact q1 _ _ (by omega) (by omega) (by omega)
  · rw [ef _ _ (RS_t (by omega))]; exact q1 _ _ (by omega) (by omega) (by omega)
theorem ask_ok {a : Int32} (h : J n wc ck e g) (hn1 : n < 24) : (f_X1_askFor g 30 a).1 = nI n ∧ J (n + 1) wc ck e (f_X1_askFor g 30 a).2 ∧ Fr0 g (f_X1_askFor g 30 a).2 ∧ Ch n (fun _ => False) g (f_X1_askFor g 30 a).2 := by
  have hb1 : f_begin (gsu g 30 3 (nI (n + 1))) (43 + n) a (-1) (43 + n) 0 = nI n := by rw [beg_fr _ _ (by omega), su_ne (by omega)]; exact h.1.2.2.1 n hn1
  have e1 : f_X1_askFor g 30 a = (f_append (f_begin (gsu g 30 3 (nI (n + 1))) (43 + n) a (-1)) (30 + 10) (f_begin (gsu g 30 3 (nI (n + 1))) (43 + n) a (-1) (43 + n) 0) (43 + n) 0, f_append (f_begin (gsu g 30 3 (nI (n + 1))) (43 + n) a (-1)) (30 + 10) (f_begin (gsu g 30 3 (nI (n + 1))) (43 + n) a (-1) (43 + n) 0)) := by
    unfold f_X1_askFor
    rw [new_eq h hn1]
  rw [e1, hb1]
  have e2 : 30 + 10 = rc 0 := rfl
  rw [e2]
  refine ⟨?_, born (j := 0) (a := a) (b := -1) h hn1 (by omega) (Or.inl rfl) (fun _ _ _ => rfl) (fun s hs k hk => ?_)⟩
  · show f_append _ (rc 0) (nI n) (43 + n) 0 = nI n
    rw [RF_ap (RS_r (by omega)) (RS_r1 (by omega)) _ _ (RS_t hn1)]
    exact hb1
  · rw [beg_fr _ _ (by omega), su_ne (by omega)]
    refine ⟨Or.inl, fun q => q.elim id (fun q => ?_)⟩
    have h1 := nI_pos (n := s) (by omega)
    rw [← q.2] at h1
    exact absurd (by decide) h1
theorem fork_ok {b : Int32} (h : J n wc ck e g) (hp : p < n) (hw1 : w < wc) : ∃ n', n ≤ n' ∧ J n' wc ck e (f_X1_fork g 30 (nI w) (43 + p) b) ∧ Fr0 g (f_X1_fork g 30 (nI w) (43 + p) b) ∧ Ch n (fun _ => False) g (f_X1_fork g 30 (nI w) (43 + p) b) := by
  have hn : n ≤ 24 := h.1.1.1
  have hw : wc ≤ 5 := h.1.1.2.2.1
  by_cases c : n < 24
  · have e1 : f_X1_fork g 30 (nI w) (43 + p) b = f_append (gsu (f_begin (gsu g 30 3 (nI (n + 1))) (43 + n) b (nI p)) (43 + p) 6 (f_begin (gsu g 30 3 (nI (n + 1))) (43 + n) b (nI p) (43 + p) 6 ||| ((1 : Int32) <<< (f_begin (gsu g 30 3 (nI (n + 1))) (43 + n) b (nI p) (43 + n) 0 &&& 31)))) (f_row 30 (nI w)) (gsu (f_begin (gsu g 30 3 (nI (n + 1))) (43 + n) b (nI p)) (43 + p) 6 (f_begin (gsu g 30 3 (nI (n + 1))) (43 + n) b (nI p) (43 + p) 6 ||| ((1 : Int32) <<< (f_begin (gsu g 30 3 (nI (n + 1))) (43 + n) b (nI p) (43 + n) 0 &&& 31))) (43 + n) 0) := by
      unfold f_X1_fork
      rw [h.1.2.1.1, if_pos (show nI n < 24 from nI_lt (b := 24) c (by omega)), h.1.2.2.1 p (by omega), new_eq h c]
    have hb1 : f_begin (gsu g 30 3 (nI (n + 1))) (43 + n) b (nI p) (43 + n) 0 = nI n := by rw [beg_fr _ _ (by omega), su_ne (by omega)]; exact h.1.2.2.1 n c
    have hb6 : ∀ s, s < n → f_begin (gsu g 30 3 (nI (n + 1))) (43 + n) b (nI p) (43 + s) 6 = g (43 + s) 6 := fun s hs => by rw [beg_fr _ _ (by omega), su_ne (by omega)]
    rw [e1, hb1, su_ne (by omega), hb1, row_n (by omega)]
    refine ⟨n + 1, by omega, born (j := w + 1) (a := b) (b := nI p) h c (by omega) (Or.inr ⟨p, hp, rfl⟩) (fun x k hx => su_ne (by omega)) (fun s hs k hk => ?_)⟩
    by_cases c2 : s = p
    · subst c2
      rw [su_at, b_or, hb6 s hs, b_one' c hk]
      simp
    · rw [su_ni (by omega), hb6 s hs]
      refine ⟨Or.inl, fun q => q.elim id (fun q => ?_)⟩
      exact absurd ((nI_eq (by omega) (by omega)).mp q.2).symm c2
  · have e1 : f_X1_fork g 30 (nI w) (43 + p) b = g := by
      unfold f_X1_fork
      rw [h.1.2.1.1, if_neg (show ¬ nI n < 24 from nI_nlt (b := 24) (by omega) (by omega))]
    rw [e1]
    exact ⟨n, Nat.le_refl _, h, Fr0_rf g, Ch_rf _ _ _⟩
/-- behind a step -/
theorem go202 {g0 : gSt} {n0 : Nat} {co nn be r0 : Int32} {sc0 : Nat} (hn0 : n0 ≤ n) (h : J n wc ck 1 g) (hp : p < n0) (hw1 : w < 5) (hf : Fr g0 g) (hm : Ch n0 (fun t => t = p) g0 g) (hd : Td w r0 g0 g) (hr : r0 = 0 → co = 0) (hs : be = 0 ∨ g (43 + p) 2 < 4) (hs0 : g0 (43 + p) 2 < 4) : Ac n0 wc ck w g0 (f_X1_goOn_J202 30 (nI w) (43 + p) g co nn be sc0) := by
  have key : ∀ g', J n wc ck 1 g' → Fr g0 g' → Ch n0 (fun t => t = p) g0 g' → Td w r0 g0 g' → Ac n0 wc ck w g0 (if co = 0 then ((0 : Int32), g') else ((1 : Int32), g')) := fun g' q1 q2 q3 q4 => by
    have hM : Mo n0 g0 g' := Mo_Ch q3 (fun t _ ht => by have ht : t = p := ht; rw [ht]; exact hs0)
    split
    · exact ⟨n, hn0, q1, q2, hM, Td_r hw1 q4 (Fr0_rf _) (fun _ => rfl)⟩
    · rename_i c
      exact ⟨n, hn0, q1, q2, hM, Td_r hw1 q4 (Fr0_rf _) (fun q => absurd (hr q) c)⟩
  unfold f_X1_goOn_J202
  split
  · exact key g h hf hm hd
  · rename_i c
    obtain ⟨a1, a2, a3⟩ := adv_ok (x := g sc0 2) h (by omega) (hs.resolve_left c)
    exact key _ a1 (Fr_tr hf (Fr_0 a2)) (Ch_tr hm (Ch_mono hn0 a3 (fun _ q => q))) (Td_r hw1 hd a2 id)
theorem goOn_ok (h : J n wc ck 1 g) (hp : p < n) (hs : g (43 + p) 2 = 1) (hw1 : w < wc) (hm : nI p ∈ rl g (sc w)) : Ac n wc ck w g (f_X1_goOn g 30 (nI w) (43 + p)) := by
  have hn : n ≤ 24 := h.1.1.1
  have hw : wc ≤ 5 := h.1.1.2.2.1
  have hs4 : g (43 + p) 2 < 4 := by rw [hs]; decide
  have go35 : ∀ co sc0, Ac n wc ck w g (f_X1_goOn_J35 30 (nI w) (43 + p) g co sc0) := by
    intro co sc0
    unfold f_X1_goOn_J35
    generalize f_numberAt g sc0 (g (43 + p) 3) = x5
    dsimp only
    have jj : ∀ b, b ≠ 0 → Ac n wc ck w g (f_X1_goOn_J202 30 (nI w) (43 + p) (f_X1_join g 30 (nI w) (43 + p) b).2 b x5 (f_X1_join g 30 (nI w) (43 + p) b).1 sc0) := fun b c => by
      obtain ⟨a1, a2, a3, a4⟩ := join_ok (b := b) h hp hs hw1 hm
      exact go202 (r0 := 1) (Nat.le_refl _) a1 hp (by omega) (Fr_0 a2) a3 (Td_0 (by omega) a2) (fun q => absurd q (by decide)) (a4.imp id (fun q => by rw [q]; decide)) hs4
    by_cases c0 : co = 0
    · rw [if_pos c0]
      obtain ⟨a1, a2, a3, a4⟩ := work_ok (x := x5) h hp (w := w) (by omega)
      exact go202 (r0 := 0) (Nat.le_refl _) a1 hp (by omega) a2 (Ch_of (fun t ht _ => a3 t (by omega) _ (by omega) (by omega)) (fun t ht _ => a3 t (by omega) _ (by omega) (by omega))) a4 (fun _ => c0) (Or.inr (by rw [a3 p (by omega) _ (by omega) (by omega)]; exact hs4)) hs4
    rw [if_neg c0]
    by_cases c1 : co = 1
    · rw [if_pos c1]
      obtain ⟨n', a0, a1, a2, a3⟩ := fork_ok (b := x5) h hp hw1
      exact go202 (r0 := 1) a0 a1 hp (by omega) (Fr_0 a2) (Ch_mono (Nat.le_refl _) a3 (fun _ q => q.elim)) (Td_0 (by omega) a2) (fun q => absurd q (by decide)) (Or.inr (by rw [Ch_1 a3 hp (fun q => q) hs]; decide)) hs4
    rw [if_neg c1]
    by_cases c2 : co = 2
    · rw [if_pos c2]
      exact jj co c0
    rw [if_neg c2]
    by_cases c3 : co = 3
    · rw [if_pos c3]
      exact jj co c0
    rw [if_neg c3]
    by_cases c4 : co = 4
    · rw [if_pos c4]
      exact jj co c0
    rw [if_neg c4]
    by_cases c5 : co = 5
    · rw [if_pos c5]
      obtain ⟨a1, a2, a3⟩ := addv_ok (x := x5) h hp
      exact go202 (r0 := 1) (Nat.le_refl _) a1 hp (by omega) (Fr_0 a2) (Ch_of (fun t ht _ => a3 _ _ (by omega)) (fun t ht _ => a3 _ _ (by omega))) (Td_0 (by omega) a2) (fun q => absurd q (by decide)) (Or.inr (by rw [a3 _ _ (by omega)]; exact hs4)) hs4
    rw [if_neg c5]
    by_cases c6 : co = 6
    · rw [if_pos c6]
      obtain ⟨a1, a2, -, a4, -, -⟩ := end_ok (sq := 5) h hp hs4 (Or.inl ⟨Or.inr rfl, rfl⟩)
      exact go202 (r0 := 1) (Nat.le_refl _) a1 hp (by omega) (Fr_0 a2) a4 (Td_0 (by omega) a2) (fun q => absurd q (by decide)) (Or.inl rfl) hs4
    rw [if_neg c6]
    by_cases c7 : co = 7
    · rw [if_pos c7]
      obtain ⟨c', -, -, a1, a2, a3⟩ := cb_ok h hp
      have a5 : (f_X1_cancelBelow g 30 (43 + p)).2 (43 + p) 2 = 1 := Ch_1 a3 hp (fun q => by have := q.1; omega) hs
      have hM : Mo n g (f_X1_cancelBelow g 30 (43 + p)).2 := Mo_Ch a3 (fun t _ q => q.2.2)
      generalize (f_X1_cancelBelow g 30 (43 + p)).2 = g9 at a1 a2 a5 hM
      have key := go202 (g := g9) (g0 := g9) (n0 := n) (co := co) (nn := x5) (be := 1) (r0 := 1) (sc0 := sc0) (Nat.le_refl _) a1 hp (w := w) (by omega) (Fr_rf _) (Ch_rf _ _ _) (Td_0 (by omega) (Fr0_rf _)) (fun q => absurd q (by decide)) (Or.inr (by rw [a5]; decide)) (by rw [a5]; decide)
      obtain ⟨n', k0, k1, k2, k3, k4⟩ := key
      exact ⟨n', k0, k1, Fr_tr (Fr_0 a2) k2, Mo_tr (Nat.le_refl _) hM k3, Td_l (by omega) a2 k4⟩
    rw [if_neg c7]
    by_cases c8 : co = 8
    · rw [if_pos c8]
      obtain ⟨a1, a2, a3, a4⟩ := await_ok (b := x5) h hp hs hw1 hm
      exact go202 (r0 := 1) (Nat.le_refl _) a1 hp (by omega) (Fr_0 a2) a3 (Td_0 (by omega) a2) (fun q => absurd q (by decide)) (a4.imp id (fun q => by rw [q]; decide)) hs4
    rw [if_neg c8]
    by_cases c9 : co = 9
    · rw [if_pos c9]
      obtain ⟨a1, a2, a3⟩ := kp_ok (a := x5) (b := g (43 + p) 4) h
      exact go202 (r0 := 1) (Nat.le_refl _) a1 hp (by omega) (Fr_0 a2) (Ch_mono (Nat.le_refl _) a3 (fun _ q => q.elim)) (Td_0 (by omega) a2) (fun q => absurd q (by decide)) (Or.inr (by rw [Ch_1 a3 hp (fun q => q) hs]; decide)) hs4
    rw [if_neg c9]
    exact go202 (r0 := 1) (Nat.le_refl _) h hp (by omega) (Fr_rf _) (Ch_rf _ _ _) (Td_0 (by omega) (Fr0_rf _)) (fun q => absurd q (by decide)) (Or.inr hs4) hs4
  unfold f_X1_goOn
  show Ac n wc ck w g (if g (f_sc (g (43 + p) 1)) 2 ≤ g (43 + p) 3 then f_X1_goOn_J35 30 (nI w) (43 + p) g (-1) (f_sc (g (43 + p) 1)) else f_X1_goOn_J35 30 (nI w) (43 + p) g (f_codeAt g (f_sc (g (43 + p) 1)) (g (43 + p) 3)) (f_sc (g (43 + p) 1)))
  split
  · exact go35 _ _
  · exact go35 _ _
theorem act_ok (h : J n wc ck 1 g) (hw1 : w < wc) : Ac n wc ck w g (f_X1_act g 30 (nI w)) := by
  have hw : wc ≤ 5 := h.1.1.2.2.1
  have e3 : 67 + 6 * w + 3 = sc w := by unfold sc; omega
  unfold f_X1_act
  rw [wk_n (by omega)]
  show Ac n wc ck w g (if f_X1_wantsTask g 30 (67 + 6 * w) = 0 then (if f_isB g (f_tk 30 (f_last g (67 + 6 * w + 3))) = 0 then ((f_X1_goOn g 30 (nI w) (f_tk 30 (f_last g (67 + 6 * w + 3)))).1, (f_X1_goOn g 30 (nI w) (f_tk 30 (f_last g (67 + 6 * w + 3)))).2) else ((0 : Int32), gsu g (67 + 6 * w) 3 (g (67 + 6 * w) 3 + 1))) else ((f_X1_take g 30 (nI w) (67 + 6 * w)).1, (f_X1_take g 30 (nI w) (67 + 6 * w)).2))
  rw [e3]
  split
  · rename_i c
    have hne : rl g (sc w) ≠ [] := by
      intro q
      have h1 := (rok_len (h.2.1.2 w hw1).1).1
      rw [q] at h1
      unfold f_X1_wantsTask at c
      rw [e3, h1, if_pos (by decide)] at c
      exact absurd c (by decide)
    have hm := last_mem (h.2.1.2 w hw1).1 hne
    obtain ⟨p, hp, ep⟩ := (h.2.1.2 w hw1).2 _ hm
    rw [ep] at hm ⊢
    have hn : n ≤ 24 := h.1.1.1
    rw [tk_n (by omega)]
    split
    · rename_i c2
      obtain ⟨d1, d2⟩ := isB_0 c2
      have a5 := (h.2.2 p hp).2.2.2.2
      have q1 := cnt_Sn (g := g) (t := p) hw1
      have q2 := cnt_mem hm
      have hs : g (43 + p) 2 = 1 := by
        rcases a5.2.2.1 (by have := a5.2.1; omega) with q | q | q
        · exact q
        · exact absurd q d1
        · exact absurd q d2
      exact goOn_ok h hp hs hw1 hm
    · exact idle_ok h (by omega)
  · exact take_ok h hw1
/-! a tick -/
/-- what the workers are told: k of them have had their turn -/
def Tt (wc ck k : Nat) (g : gSt) : Prop := ∀ w, w < wc → ∃ a b c : Nat, g (67 + 6 * w) 2 = nI a ∧ g (67 + 6 * w) 3 = nI b ∧ g (67 + 6 * w) 4 = nI c ∧ a + b + c ≤ ck + (if w < k then 1 else 0)
theorem Tt_same {k : Nat} (h : Tt wc ck k g) (h0 : ∀ w, w < wc → ∀ b, 2 ≤ b → b ≤ 4 → g' (67 + 6 * w) b = g (67 + 6 * w) b) : Tt wc ck k g' := fun w hw => by
  obtain ⟨a, b, c, h1, h2, h3, h4⟩ := h w hw
  exact ⟨a, b, c, (h0 w hw 2 (by omega) (by omega)).trans h1, (h0 w hw 3 (by omega) (by omega)).trans h2, (h0 w hw 4 (by omega) (by omega)).trans h3, h4⟩
theorem Tt_Td {r : Int32} (hw : wc ≤ 5) (hw1 : w < wc) (h : Tt wc ck w g) (hd : Td w r g g') : Tt wc ck (w + 1) g' ∧ (r ≠ 0 → Tt wc ck w g') := by
  refine ⟨fun v hv => ?_, fun hr => Tt_same h (fun v hv b b1 b2 => ?_)⟩
  · obtain ⟨a, b, c, h1, h2, h3, h4⟩ := h v hv
    by_cases c1 : v = w
    · subst c1
      rw [if_neg (by omega)] at h4
      rw [if_pos (by omega)]
      rcases hd.2 with q | ⟨-, d, d1, d2, q1, q2⟩
      · exact ⟨a, b, c, (q 2 (by omega) (by omega)).trans h1, (q 3 (by omega) (by omega)).trans h2, (q 4 (by omega) (by omega)).trans h3, by omega⟩
      · rcases (show d = 2 ∨ d = 3 ∨ d = 4 by omega) with rfl | rfl | rfl
        · exact ⟨a + 1, b, c, by rw [q1, h1, nI_1], (q2 3 (by omega) (by omega) (by omega)).trans h2, (q2 4 (by omega) (by omega) (by omega)).trans h3, by omega⟩
        · exact ⟨a, b + 1, c, (q2 2 (by omega) (by omega) (by omega)).trans h1, by rw [q1, h2, nI_1], (q2 4 (by omega) (by omega) (by omega)).trans h3, by omega⟩
        · exact ⟨a, b, c + 1, (q2 2 (by omega) (by omega) (by omega)).trans h1, (q2 3 (by omega) (by omega) (by omega)).trans h2, by rw [q1, h3, nI_1], by omega⟩
    · have q := hd.1 v (by omega) c1
      refine ⟨a, b, c, (q 2 (by omega) (by omega)).trans h1, (q 3 (by omega) (by omega)).trans h2, (q 4 (by omega) (by omega)).trans h3, ?_⟩
      by_cases c2 : v < w
      · rw [if_pos c2] at h4; rw [if_pos (by omega)]; exact h4
      · rw [if_neg c2] at h4; rw [if_neg (by omega)]; exact h4
  · by_cases c1 : v = w
    · subst c1
      rcases hd.2 with q | ⟨q, -⟩
      · exact q b b1 b2
      · exact absurd q hr
    · exact hd.1 v (by omega) c1 b b1 b2
/-- what a tick leaves -/
def Tk (n wc ck : Nat) (g g' : gSt) : Prop := ∃ n', n ≤ n' ∧ J n' wc (ck + 1) 0 g' ∧ Tt wc (ck + 1) 0 g' ∧ Fr g g' ∧ Mo n g g'
theorem pt_L2 {g0 : gSt} {n0 : Nat} {K : gSt → Int32 → gSt} (hw : wc ≤ 5) (hw1 : w < wc) (hK : ∀ n g, n0 ≤ n → J n wc ck 1 g → Tt wc ck (w + 1) g → Fr g0 g → Mo n0 g0 g → Tk n0 wc ck g0 (K g (nI (w + 1)))) : ∀ (m n k : Nat) (g : gSt) (b : Int32), n0 ≤ n → J n wc ck 1 g → Tt wc ck (w + 1) g → (b ≠ 0 → Tt wc ck w g) → Fr g0 g → Mo n0 g0 g → k ≤ 1000000 → 1000000 < m + k → Tk n0 wc ck g0 (f_X1_passTick_L2 30 K (nI w) m g b (nI k)) := by
  intro m
  induction m with
  | zero => intro n k g b h0 h1 h2 h3 h4 h5 h6 h7; omega
  | succ m ih =>
    intro n k g b h0 h1 h2 h3 h4 h5 h6 h7
    have e1 : nI w + 1 = nI (w + 1) := nI_1 w
    have ek : nI k + 1 = nI (k + 1) := nI_1 k
    unfold f_X1_passTick_L2
    by_cases c1 : 1000000 ≤ k
    · rw [if_pos (show (1000000 : Int32) ≤ nI k from nI_le c1 (by omega))]
      show Tk n0 wc ck g0 (K g (nI w + 1))
      rw [e1]
      exact hK n g h0 h1 h2 h4 h5
    · rw [if_neg (show ¬ (1000000 : Int32) ≤ nI k from nI_ge (b := 1000000) (by omega) (by omega))]
      split
      · show Tk n0 wc ck g0 (K g (nI w + 1))
        rw [e1]
        exact hK n g h0 h1 h2 h4 h5
      · rename_i c2
        show Tk n0 wc ck g0 (f_X1_passTick_L2 30 K (nI w) m (f_X1_act g 30 (nI w)).2 (f_X1_act g 30 (nI w)).1 (nI k + 1))
        rw [ek]
        obtain ⟨n', q0, q1, q2, q3, q4⟩ := act_ok h1 hw1
        obtain ⟨r1, r2⟩ := Tt_Td hw hw1 (h3 c2) q4
        exact ih n' (k + 1) _ _ (by omega) q1 r1 r2 (Fr_tr h4 q2) (Mo_tr h0 h5 q3) (by omega) (by omega)
theorem J_e (h : J n wc ck 0 g) : J n wc ck 1 g := ⟨h.1, h.2.1, fun t ht => by
  obtain ⟨a1, a2⟩ := h.2.2 t ht
  refine ⟨⟨a1.1, fun q => ?_⟩, a2⟩
  obtain ⟨o, o1, o2, o3⟩ := a1.2 q
  exact ⟨o, o1, o2, fun q => by have := o3 q; omega⟩⟩
theorem J_clk (h : J n wc ck 1 g) (hck : ck + 1 < 1000000) : J n wc (ck + 1) 0 (gsu g 30 11 (nI (ck + 1))) := by
  have hr : RE wc g (gsu g 30 11 (nI (ck + 1))) := RE_su h.1.1.2.2.1 RE_rf RS_30
  have ee : ∀ t b, gsu g 30 11 (nI (ck + 1)) (43 + t) b = g (43 + t) b := fun t b => su_ni (by omega)
  obtain ⟨⟨⟨b1, b2, b3, b4⟩, ⟨b5, b6, b7⟩, b8, b9⟩, hk, hT⟩ := h
  refine ⟨⟨⟨b1, b2, b3, hck⟩, ⟨(su_nk (by omega)).trans b5, (su_nk (by omega)).trans b6, su_at⟩, fun t ht => (ee t 0).trans (b8 t ht), (su_ni (by omega)).trans b9⟩, RE_Rk hr hk, fun t ht => ?_⟩
  obtain ⟨a1, a2, a3, a4, a5⟩ := hT t ht
  refine ⟨?_, ?_, ?_, ?_, ?_⟩
  · unfold TS
    rw [ee, ee]
    refine ⟨a1.1, fun q => ?_⟩
    obtain ⟨o, o1, o2, o3⟩ := a1.2 q
    exact ⟨o, by omega, o2, fun q => by have := o3 q; omega⟩
  · unfold TV; rw [ee]; exact a2
  · unfold TP
    rw [ee, ee, ee]
    refine ⟨?_, fun k hk1 q => by rw [ee]; exact a3.2 k hk1 q⟩
    rcases a3.1 with q | ⟨r, hr1, q, hq⟩
    · exact Or.inl q
    · exact Or.inr ⟨r, hr1, q, fun hs => by rw [ee]; exact hq hs⟩
  · unfold TB; rw [ee, ee]; exact a4
  · unfold PLt; rw [ee, RE_Rn hr, RE_Sn hr]; exact a5
theorem pt_L1 {g0 : gSt} {n0 : Nat} (hck : ck + 1 < 1000000) : ∀ (m n k : Nat) (g : gSt), n0 ≤ n → J n wc ck 1 g → Tt wc ck k g → Fr g0 g → Mo n0 g0 g → k ≤ wc → wc < m + k → Tk n0 wc ck g0 (f_X1_passTick_L1 30 m g (nI k)) := by
  intro m
  induction m with
  | zero => intro n k g _ _ _ _ _ h1 h2; omega
  | succ m ih =>
    intro n k g h0 h1 h2 h3 h4 h5 h6
    have hw : wc ≤ 5 := h1.1.1.2.2.1
    have hn : n ≤ 24 := h1.1.1.1
    unfold f_X1_passTick_L1
    rw [h1.1.2.1.2.1]
    by_cases c1 : wc ≤ k
    · rw [if_pos (nI_le c1 (by omega)), h1.1.2.1.2.2]
      have e1 : nI ck + 1 = nI (ck + 1) := nI_1 ck
      show Tk n0 wc ck g0 (gsu g 30 11 (nI ck + 1))
      rw [e1]
      refine ⟨n, h0, J_clk h1 hck, fun w hw1 => ?_, Fr_su h3 (by unfold Wr; omega), fun t ht ho => ?_⟩
      · obtain ⟨a, b, c, q1, q2, q3, q4⟩ := h2 w hw1
        rw [if_pos (by omega)] at q4
        exact ⟨a, b, c, (su_ni (by omega)).trans q1, (su_ni (by omega)).trans q2, (su_ni (by omega)).trans q3, by rw [if_neg (by omega)]; omega⟩
      · rw [su_ni (by omega), su_ni (by omega)]; exact h4 t ht ho
    · rw [if_neg (nI_ge (by omega) (by omega)), wk_n (by omega), h1.1.2.1.2.2]
      obtain ⟨q1, q2, q3⟩ := note_ok (v := -1) h1 (w := k) (by omega) rfl
      show Tk n0 wc ck g0 (f_X1_passTick_L2 30 (f_X1_passTick_L1 30 m) (nI k) 1000001 (f_X5_noteRan g (67 + 6 * k) (nI ck) (-1)) 1 0)
      have t1 : Tt wc ck k (f_X5_noteRan g (67 + 6 * k) (nI ck) (-1)) := Tt_same h2 (fun v _ b _ _ => q3 _ _ (by omega))
      have t2 : Tt wc ck (k + 1) (f_X5_noteRan g (67 + 6 * k) (nI ck) (-1)) := fun v hv => by
        obtain ⟨a, b, c, r1, r2, r3, r4⟩ := t1 v hv
        refine ⟨a, b, c, r1, r2, r3, ?_⟩
        by_cases c2 : v < k
        · rw [if_pos c2] at r4; rw [if_pos (by omega)]; exact r4
        · rw [if_neg c2] at r4; split <;> omega
      exact pt_L2 (g0 := g0) (n0 := n0) hw (by omega) (fun n g a0 a1 a2 a3 a4 => ih n (k + 1) g a0 a1 a2 a3 a4 (by omega) (by omega)) 1000001 n 0 _ 1 h0 q1 t2 (fun _ => t1) (Fr_tr h3 q2) (fun t ht ho => by
        rw [q3 _ _ (by omega), q3 _ _ (by omega)]; exact h4 t ht ho) (by omega) (by omega)
theorem pt_ok (h : J n wc ck 0 g) (ht : Tt wc ck 0 g) (hck : ck + 1 < 1000000) : Tk n wc ck g (f_X1_passTick g 30) := by
  have hw : wc ≤ 5 := h.1.1.2.2.1
  have e0 : (0 : Int32).toInt = 0 := rfl
  unfold f_X1_passTick
  exact pt_L1 hck _ n 0 g (Nat.le_refl _) (J_e h) ht (Fr_rf g) (Mo_rf n g) (by omega) (by rw [h.1.2.1.2.1, nI_toInt (by omega)]; omega)
end TICK
end
