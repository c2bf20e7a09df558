/-! THE CLASS'S STATE FUNCTIONS, apart from the machine: what each method answers and leaves. -/
abbrev gSt : Type := Nat → Nat → Int32
def gsu (st : gSt) (i k : Nat) (v : Int32) : gSt := va_up st i (upd (st i) k v)
theorem gsu_at {st : gSt} {i k : Nat} {v : Int32} : gsu st i k v i k = v := by simp [gsu, va_up, upd]
theorem gsu_ni {st : gSt} {i k a b : Nat} {v : Int32} (h : a ≠ i) : gsu st i k v a b = st a b := by simp [gsu, va_up, h]
theorem gsu_nk {st : gSt} {i k a b : Nat} {v : Int32} (h : b ≠ k) : gsu st i k v a b = st a b := by
  by_cases ha : a = i
  · subst ha; simp [gsu, va_up, upd, h]
  · simp [gsu, va_up, ha]
theorem gsu_eq (st : gSt) (i k : Nat) (v : Int32) (a b : Nat) : gsu st i k v a b = if a = i ∧ b = k then v else st a b := by
  by_cases ha : a = i
  · by_cases hb : b = k
    · simp [ha, hb, gsu_at]
    · simp [hb, gsu_nk hb]
  · simp [ha, gsu_ni ha]
def f_at (st : gSt) (i : Nat) (x : Int32) : Int32 := if x < 0 then -1 else if st i 1 ≤ x then -1 else if 24 ≤ x then -1 else st (i + 1) x.toNatClampNeg
def f_last (st : gSt) (i : Nat) : Int32 := f_at st i (st i 1 - 1)
def f_append (st : gSt) (i : Nat) (n : Int32) : gSt := if st i 1 < 0 then st else if 24 ≤ st i 1 then st else gsu (gsu st (i + 1) (st i 1).toNatClampNeg n) i 1 (st i 1 + 1)
def f_codeAt (st : gSt) (i : Nat) (x : Int32) : Int32 := if x < 0 then -1 else if 12 ≤ x then -1 else st (i + 1) x.toNatClampNeg
def f_numberAt (st : gSt) (i : Nat) (x : Int32) : Int32 := if x < 0 then 0 else if 12 ≤ x then 0 else st (i + 2) x.toNatClampNeg
def f_sapp (st : gSt) (i : Nat) (a b : Int32) : gSt := if st i 2 < 0 then st else if 12 ≤ st i 2 then st else gsu (gsu (gsu st (i + 1) (st i 2).toNatClampNeg a) (i + 2) (st i 2).toNatClampNeg b) i 2 (st i 2 + 1)
def f_begin (st : gSt) (i : Nat) (a b : Int32) : gSt := gsu (gsu (gsu (gsu (gsu (gsu (gsu (gsu (gsu (gsu st i 1 a) i 2 0) i 3 0) i 4 0) i 5 b) i 6 0) i 7 (-1)) i 8 0) i 9 0) i 10 (-1)
def f_tcopy (st : gSt) (i j : Nat) : gSt := gsu (gsu (gsu (gsu (gsu (gsu (gsu (gsu (gsu (gsu st i 1 (st j 1)) i 2 (st j 2)) i 3 (st j 3)) i 4 (st j 4)) i 5 (st j 5)) i 6 (st j 6)) i 7 (st j 7)) i 8 (st j 8)) i 9 (st j 9)) i 10 (st j 10)
def f_isB (st : gSt) (i : Nat) : Int32 := if st i 2 = 2 then 1 else if st i 2 = 3 then 1 else 0
def f_isO (st : gSt) (i : Nat) : Int32 := if st i 2 < 4 then 0 else 1
def f_sc (x : Int32) : Nat := if x < 0 then 3 else if 8 ≤ x then 3 else 6 + 3 * x.toNatClampNeg
def f_tk (P : Nat) (x : Int32) : Nat := if x < 0 then P + 2 else if 24 ≤ x then P + 2 else P + 1 + 12 + x.toNatClampNeg
def f_wk (P : Nat) (x : Int32) : Nat := if x < 0 then P + 4 else if 5 ≤ x then P + 4 else P + 3 + 34 + 6 * x.toNatClampNeg
def f_row (P : Nat) (x : Int32) : Nat := if x = -1 then P + 10 else f_wk P x + 1
def f_prom (st : gSt) (P : Nat) (x : Int32) : Int32 := if x < 0 then -1000000 else if 6 ≤ x then -1000000 else st (P + 12) x.toNatClampNeg
def f_cp (st : gSt) (a b : Nat) : Nat → gSt
  | 0 => st
  | k + 1 => gsu (f_cp st a b k) a k (f_cp st a b k b k)
def f_rcopy (st : gSt) (i j : Nat) : gSt := f_cp (gsu st i 1 (st j 1)) (i + 1) (j + 1) 24
def gsz (st : gSt) (i : Nat) : Nat := min (st i 1).toNatClampNeg 24
def f_has (st : gSt) (i : Nat) (x : Int32) : Int32 := if (List.range (gsz st i)).any (fun j => decide (st (i + 1) j = x)) then 1 else 0
def f_rml (st : gSt) (i : Nat) (x : Int32) : Nat → gSt × Nat
  | 0 => (st, 0)
  | k + 1 => if (f_rml st i x k).1 (i + 1) k = x then f_rml st i x k else (gsu (f_rml st i x k).1 (i + 1) (f_rml st i x k).2 ((f_rml st i x k).1 (i + 1) k), (f_rml st i x k).2 + 1)
def f_rm (st : gSt) (i : Nat) (x : Int32) : gSt := gsu (f_rml st i x (gsz st i)).1 i 1 (nI (f_rml st i x (gsz st i)).2)
def f_J6_numberOfLeadingZeros_0f7a4_J73 (x : Int32) (st1 : gSt) (x1 : Int32) (n1 : Int32) : Int32 := (n1 - (x1.toUInt32 >>> ((1 : Int32).toUInt32 &&& Int32.toUInt32 31)).toInt32)
def f_J6_numberOfLeadingZeros_0f7a4_J61 (x : Int32) (st1 : gSt) (x1 : Int32) (n1 : Int32) : Int32 := if x1 < (4 : Int32) then f_J6_numberOfLeadingZeros_0f7a4_J73 x st1 x1 n1  else (let x2 := (n1 + (-2)); let x3 := (x1.toUInt32 >>> ((2 : Int32).toUInt32 &&& Int32.toUInt32 31)).toInt32; f_J6_numberOfLeadingZeros_0f7a4_J73 x st1 x3 x2 )
def f_J6_numberOfLeadingZeros_0f7a4_J48 (x : Int32) (st1 : gSt) (x1 : Int32) (n1 : Int32) : Int32 := if x1 < (16 : Int32) then f_J6_numberOfLeadingZeros_0f7a4_J61 x st1 x1 n1  else (let x5 := (n1 + (-4)); let x6 := (x1.toUInt32 >>> ((4 : Int32).toUInt32 &&& Int32.toUInt32 31)).toInt32; f_J6_numberOfLeadingZeros_0f7a4_J61 x st1 x6 x5 )
def f_J6_numberOfLeadingZeros_0f7a4_J33 (x : Int32) (st1 : gSt) (x1 : Int32) (n1 : Int32) : Int32 := if x1 < (256 : Int32) then f_J6_numberOfLeadingZeros_0f7a4_J48 x st1 x1 n1  else (let x8 := (n1 + (-8)); let x9 := (x1.toUInt32 >>> ((8 : Int32).toUInt32 &&& Int32.toUInt32 31)).toInt32; f_J6_numberOfLeadingZeros_0f7a4_J48 x st1 x9 x8 )
def f_J6_numberOfLeadingZeros_0f7a4 (st : gSt) (x : Int32) : Int32 := if (0 : Int32) < x then if x < (65536 : Int32) then f_J6_numberOfLeadingZeros_0f7a4_J33 x st x (31 : Int32)  else (let x12 := ((31 : Int32) + (-16)); let x13 := (x.toUInt32 >>> ((16 : Int32).toUInt32 &&& Int32.toUInt32 31)).toInt32; f_J6_numberOfLeadingZeros_0f7a4_J33 x st x13 x12 ) else if x = 0 then (32 : Int32) else (0 : Int32)
def f_J9_floorMod_7cf53 (st : gSt) (x : Int32) (y : Int32) : Int32 := (let x1 := (x - x / y * y); if (0 : Int32) ≤ (x ^^^ y) then x1 else if x1 = 0 then x1 else (x1 + y))
def f_J7_fill_53178_12_L1 (i : Nat) (v : Int32) : Nat → gSt → Int32 → gSt
  | 0, st1, _ => st1
  | n + 1, st1, x => if (20 : Int32) ≤ x then st1 else (let s2 := gsu st1 i x.toNatClampNeg v; let x3 := (x + 1); f_J7_fill_53178_12_L1 i v n s2 x3)
def f_J7_fill_53178_12 (st : gSt) (i : Nat) (v : Int32) : gSt := f_J7_fill_53178_12_L1 i v 21 st (0 : Int32)
def f_J7_fill_53178_13_L1 (i : Nat) (v : Int32) : Nat → gSt → Int32 → gSt
  | 0, st1, _ => st1
  | n + 1, st1, x => if (6 : Int32) ≤ x then st1 else (let s2 := gsu st1 i x.toNatClampNeg v; let x3 := (x + 1); f_J7_fill_53178_13_L1 i v n s2 x3)
def f_J7_fill_53178_13 (st : gSt) (i : Nat) (v : Int32) : gSt := f_J7_fill_53178_13_L1 i v 7 st (0 : Int32)
def f_X4_lastChild (st : gSt) (i : Nat) : Int32 := ((31 : Int32) - (f_J6_numberOfLeadingZeros_0f7a4 st (st i 6)))
def f_X4_addValue (st : gSt) (i : Nat) (n0 : Int32) : gSt := (let s1 := gsu st i 4 (if (-999999 : Int32) < (if ((st i 4) + n0) < (999999 : Int32) then ((st i 4) + n0) else (999999 : Int32)) then (if ((st i 4) + n0) < (999999 : Int32) then ((st i 4) + n0) else (999999 : Int32)) else (-999999 : Int32)); s1)
def f_X5_begin (st : gSt) (i : Nat) : gSt := (let s1 := (gsu st (i + 1) 1 0); let s2 := (gsu s1 (i + 3) 1 0); let s3 := gsu s2 i 2 (0 : Int32); let s4 := gsu s3 i 3 (0 : Int32); let s5 := gsu s4 i 4 (0 : Int32); let s6 := (f_J7_fill_53178_12 s5 (i + 5) (-1 : Int32)); s6)
def f_X5_copyFrom_L1 (i : Nat) (j : Nat) : Nat → gSt → Int32 → gSt
  | 0, st1, _ => st1
  | n + 1, st1, x => if (20 : Int32) ≤ x then st1 else (let s7 := gsu st1 (i + 5) x.toNatClampNeg (st1 (j + 5) x.toNatClampNeg); let x8 := (x + 1); f_X5_copyFrom_L1 i j n s7 x8)
def f_X5_copyFrom (st : gSt) (i : Nat) (j : Nat) : gSt := (let s1 := (f_rcopy st (i + 1) (j + 1)); let s2 := (f_rcopy s1 (i + 3) (j + 3)); let s3 := gsu s2 i 2 (s2 j 2); let s4 := gsu s3 i 3 (s3 j 3); let s5 := gsu s4 i 4 (s4 j 4); f_X5_copyFrom_L1 i j 21 s5 (0 : Int32))
def f_X5_ranIn (st : gSt) (i : Nat) (x : Int32) : Int32 := (st (i + 5) (f_J9_floorMod_7cf53 st x (20 : Int32)).toNatClampNeg)
def f_X5_noteRan (st : gSt) (i : Nat) (x : Int32) (t : Int32) : gSt := (let s1 := gsu st (i + 5) (f_J9_floorMod_7cf53 st x (20 : Int32)).toNatClampNeg t; s1)
def f_X1_isIn (st : gSt) (a : Int32) (b : Int32) : Int32 := if b < (0 : Int32) then (0 : Int32) else if (24 : Int32) ≤ b then (0 : Int32) else if ((a >>> (b &&& 31)) &&& (1 : Int32)) = (1 : Int32) then (1 : Int32) else (0 : Int32)
def f_X1_hasTaskOf_L1 (P : Nat) (job : Int32) : Nat → gSt → Int32 → Int32
  | 0, _, _ => 0
  | n + 1, st1, x => if (st1 P 3) ≤ x then (0 : Int32) else if (st1 (f_tk P x) 1) = job then (1 : Int32) else (let x3 := (x + 1); f_X1_hasTaskOf_L1 P job n st1 x3)
def f_X1_hasTaskOf (st : gSt) (P : Nat) (job : Int32) : Int32 := f_X1_hasTaskOf_L1 P job (((st P 3).toInt - (0 : Int32).toInt).toNat + 1) st (0 : Int32)
def f_X1_hasTaskIn_L1 (P : Nat) (sq : Int32) : Nat → gSt → Int32 → Int32
  | 0, _, _ => 0
  | n + 1, st1, x => if (st1 P 3) ≤ x then (0 : Int32) else if (st1 (f_tk P x) 2) = sq then (1 : Int32) else (let x3 := (x + 1); f_X1_hasTaskIn_L1 P sq n st1 x3)
def f_X1_hasTaskIn (st : gSt) (P : Nat) (sq : Int32) : Int32 := f_X1_hasTaskIn_L1 P sq (((st P 3).toInt - (0 : Int32).toInt).toNat + 1) st (0 : Int32)
def f_X1_hasStackedTask_L1 (P : Nat) : Nat → gSt → Int32 → Int32
  | 0, _, _ => 0
  | n + 1, st1, x => if (st1 P 6) ≤ x then (0 : Int32) else if (st1 ((f_wk P x) + 3) 1) ≤ (0 : Int32) then (let x3 := (x + 1); f_X1_hasStackedTask_L1 P n st1 x3) else (1 : Int32)
def f_X1_hasStackedTask (st : gSt) (P : Nat) : Int32 := f_X1_hasStackedTask_L1 P (((st P 6).toInt - (0 : Int32).toInt).toNat + 1) st (0 : Int32)
def f_X1_countUnfinished_L1 (P : Nat) : Nat → gSt → Int32 → Int32 → Int32
  | 0, _, _, _ => 0
  | n + 1, st1, y, x => if (st1 P 3) ≤ x then y else if (f_isO st1 (f_tk P x)) = 0 then (let x4 := (y + 1); let x5 := (x + 1); f_X1_countUnfinished_L1 P n st1 x4 x5) else (let x3 := (x + 1); f_X1_countUnfinished_L1 P n st1 y x3)
def f_X1_countUnfinished (st : gSt) (P : Nat) : Int32 := f_X1_countUnfinished_L1 P (((st P 3).toInt - (0 : Int32).toInt).toNat + 1) st (0 : Int32) (0 : Int32)
def f_X1_sumWork_L1 (P : Nat) (a : Int32) : Nat → gSt → Int32 → Int32 → Int32 → Int32
  | 0, _, _, _, _ => 0
  | n + 1, st1, f, y, x => if (st1 P 3) ≤ x then y else (let i5 := (f_tk P x); if (f_X1_isIn st1 f (st1 i5 5)) = 0 then (let x7 := (x + 1); f_X1_sumWork_L1 P a n st1 f y x7) else (let x8 := (f ||| ((1 : Int32) <<< (x &&& 31))); let x9 := (y + (st1 i5 9)); let x10 := (x + 1); f_X1_sumWork_L1 P a n st1 x8 x9 x10))
def f_X1_sumWork (st : gSt) (P : Nat) (a : Int32) : Int32 := (let x1 := ((1 : Int32) <<< (a &&& 31)); let x2 := (st (f_tk P a) 9); let x3 := (a + (1 : Int32)); f_X1_sumWork_L1 P a (((st P 3).toInt - (a + (1 : Int32)).toInt).toNat + 1) st x1 x2 x3)
def f_X1_wantsTask (st : gSt) (P : Nat) (w : Nat) : Int32 := if (st (w + 3) 1) = 0 then (1 : Int32) else if (st P 9) = (2 : Int32) then if (f_isB st (f_tk P (f_last st (w + 3)))) = 0 then (0 : Int32) else (1 : Int32) else (0 : Int32)
def f_X1_nextWithTasks_L1 (P : Nat) (a : Int32) : Nat → gSt → Int32 → Int32
  | 0, _, _ => 0
  | n + 1, st1, x => if (st1 P 6) ≤ x then (-2 : Int32) else if (st1 P 6) ≤ (a + x) then (let x3 := ((a + x) - (st1 P 6)); if (st1 (f_row P x3) 1) ≤ (0 : Int32) then (let x5 := (x + 1); f_X1_nextWithTasks_L1 P a n st1 x5) else x3) else (let x6 := (a + x); if (st1 (f_row P x6) 1) ≤ (0 : Int32) then (let x8 := (x + 1); f_X1_nextWithTasks_L1 P a n st1 x8) else x6)
def f_X1_nextWithTasks (st : gSt) (P : Nat) (a : Int32) : Int32 := f_X1_nextWithTasks_L1 P a (((st P 6).toInt - (1 : Int32).toInt).toNat + 1) st (1 : Int32)
def f_X1_firstWithMostTasks_L1 (P : Nat) : Nat → gSt → Int32 → Int32 → Int32 → Int32
  | 0, _, _, _, _ => 0
  | n + 1, st1, y, z, x => if (st1 P 6) ≤ x then y else (let x2 := (st1 (f_row P x) 1); if x2 ≤ z then (let x4 := (x + 1); f_X1_firstWithMostTasks_L1 P n st1 y z x4) else (let x5 := (x + 1); f_X1_firstWithMostTasks_L1 P n st1 x x2 x5))
def f_X1_firstWithMostTasks (st : gSt) (P : Nat) : Int32 := f_X1_firstWithMostTasks_L1 P (((st P 6).toInt - (0 : Int32).toInt).toNat + 1) st (-2 : Int32) (0 : Int32) (0 : Int32)
def f_X1_sourceFor (st : gSt) (P : Nat) (a : Int32) : Int32 := if (st (f_row P a) 1) ≤ (0 : Int32) then if (st (P + 10) 1) ≤ (0 : Int32) then if (st P 10) = 0 then (f_X1_nextWithTasks st P a) else if (st P 10) = (1 : Int32) then (f_X1_firstWithMostTasks st P) else (-2 : Int32) else (-1 : Int32) else a
def f_X1_wouldAct (st : gSt) (P : Nat) (a : Int32) : Int32 := (let i1 := (f_wk P a); if (f_X1_wantsTask st P i1) = 0 then if (f_isB st (f_tk P (f_last st (i1 + 3)))) = 0 then (1 : Int32) else (0 : Int32) else if (f_X1_sourceFor st P a) = (-2 : Int32) then (0 : Int32) else (1 : Int32))
def f_X1_isHalted_L1 (P : Nat) : Nat → gSt → Int32 → Int32
  | 0, _, _ => 0
  | n + 1, st1, x => if (st1 P 6) ≤ x then (1 : Int32) else if (f_X1_wouldAct st1 P x) = 0 then (let x4 := (x + 1); f_X1_isHalted_L1 P n st1 x4) else (0 : Int32)
def f_X1_isHalted (st : gSt) (P : Nat) : Int32 := if (f_X1_countUnfinished st P) = 0 then (0 : Int32) else f_X1_isHalted_L1 P (((st P 6).toInt - (0 : Int32).toInt).toNat + 1) st (0 : Int32)
def f_X1_changeWorkerCount_L1 (P : Nat) (c0 : Int32) : Nat → gSt → Int32 → gSt
  | 0, st1, _ => st1
  | n + 1, st1, x => if c0 ≤ x then (let s3 := gsu st1 P 6 c0; s3) else (let s4 := (f_X5_begin st1 (f_wk P x)); let x5 := (x + 1); f_X1_changeWorkerCount_L1 P c0 n s4 x5)
def f_X1_changeWorkerCount (st : gSt) (P : Nat) (c0 : Int32) : gSt := (let x1 := (st P 6); f_X1_changeWorkerCount_L1 P c0 ((c0.toInt - (st P 6).toInt).toNat + 1) st x1)
def f_X1_free_L1 (P : Nat) (t : Nat) : Nat → gSt → Int32 → gSt
  | 0, st1, _ => st1
  | n + 1, st1, x => if (st1 P 6) ≤ x then (let s2 := gsu st1 t 2 (0 : Int32); let s3 := (f_append s2 ((f_wk P (s2 t 10)) + 1) (s2 t 0)); s3) else if (f_has st1 ((f_wk P x) + 3) (st1 t 0)) = 0 then (let x5 := (x + 1); f_X1_free_L1 P t n st1 x5) else (let s6 := gsu st1 t 2 (1 : Int32); s6)
def f_X1_free (st : gSt) (P : Nat) (t : Nat) : gSt := f_X1_free_L1 P t (((st P 6).toInt - (0 : Int32).toInt).toNat + 1) st (0 : Int32)
def f_X1_block (st : gSt) (P : Nat) (a : Int32) (t : Nat) (sq : Int32) : gSt := (let s1 := gsu st t 2 sq; let s2 := gsu s1 t 10 a; if (s2 P 9) = 0 then (let s4 := (f_rm s2 ((f_wk P a) + 3) (s2 t 0)); s4) else s2)
def f_X1_newTask (st : gSt) (P : Nat) (a : Int32) (b : Int32) : Nat × gSt := (let i1 := (f_tk P (st P 3)); let s2 := gsu st P 3 ((st P 3) + (1 : Int32)); let s3 := (f_begin s2 i1 a b); (i1, s3))
def f_X1_askFor (st : gSt) (P : Nat) (a : Int32) : Int32 × gSt := (let q1 := (f_X1_newTask st P a (-1 : Int32)); let i2 := q1.1; let s3 := (f_append q1.2 (P + 10) (q1.2 i2 0)); ((s3 i2 0), s3))
def f_X1_end_L1 (P : Nat) (t : Nat) (sq : Int32) : Nat → gSt → Int32 → gSt
  | 0, st1, _ => st1
  | n + 1, st1, x => if (st1 P 6) ≤ x then (let i5 := (f_tk P (st1 t 5)); if (st1 i5 2) = (2 : Int32) then if (f_X4_lastChild st1 i5) = (st1 t 0) then (let s8 := (f_X1_free st1 P i5); s8) else st1 else st1) else (let i9 := (f_wk P x); let s10 := (f_rm st1 (i9 + 1) (st1 t 0)); let s11 := (f_rm s10 (i9 + 3) (s10 t 0)); let x12 := (x + 1); f_X1_end_L1 P t sq n s11 x12)
def f_X1_end (st : gSt) (P : Nat) (t : Nat) (sq : Int32) : gSt := (let s1 := gsu st t 2 sq; let s2 := gsu s1 t 7 (s1 P 11); let s3 := (f_rm s2 (P + 10) (s2 t 0)); f_X1_end_L1 P t sq (((s3 P 6).toInt - (0 : Int32).toInt).toNat + 1) s3 (0 : Int32))
def f_X1_take_J50 (P : Nat) (a : Int32) (w : Nat) (st1 : gSt) (x : Int32) (y : Int32) (r : Nat) : Int32 × gSt := (let s1 := (f_rm st1 r y); let s2 := (f_append s1 (w + 3) y); let s3 := gsu s2 (f_tk P y) 2 (1 : Int32); if x = a then ((1 : Int32), s3) else if x = (-1 : Int32) then ((1 : Int32), s3) else (let s6 := gsu s3 w 4 ((s3 w 4) + (1 : Int32)); ((0 : Int32), s6)))
def f_X1_take (st : gSt) (P : Nat) (a : Int32) (w : Nat) : Int32 × gSt := (let x7 := (f_X1_sourceFor st P a); if x7 = (-2 : Int32) then (let s11 := gsu st w 3 ((st w 3) + (1 : Int32)); ((0 : Int32), s11)) else (let i9 := (f_row P x7); if x7 = a then f_X1_take_J50 P a w st x7 (f_last st i9) i9 else f_X1_take_J50 P a w st x7 (f_at st i9 (0 : Int32)) i9))
def f_X1_work (st : gSt) (P : Nat) (a : Int32) (t : Nat) (n0 : Int32) : Int32 × gSt := (let i1 := (f_wk P a); let s2 := gsu st i1 2 ((st i1 2) + (1 : Int32)); let s3 := (f_X5_noteRan s2 i1 (s2 P 11) (s2 t 0)); let s4 := gsu s3 t 9 ((s3 t 9) + (1 : Int32)); let s5 := gsu s4 t 8 ((s4 t 8) + (1 : Int32)); if (s5 t 8) < n0 then ((0 : Int32), s5) else ((1 : Int32), s5))
def f_X1_advance (st : gSt) (P : Nat) (t : Nat) (n0 : Int32) : gSt := (let s1 := gsu st t 3 (if n0 < ((st t 3) + (1 : Int32)) then n0 else ((st t 3) + (1 : Int32))); let s2 := gsu s1 t 8 (0 : Int32); if (s2 t 3) = n0 then (let s4 := (f_X1_end s2 P t (4 : Int32)); s4) else s2)
def f_X1_fork (st : gSt) (P : Nat) (a : Int32) (t : Nat) (b : Int32) : gSt := if (st P 3) < (24 : Int32) then (let q2 := (f_X1_newTask st P b (st t 0)); let i3 := q2.1; let s4 := gsu q2.2 t 6 ((q2.2 t 6) ||| ((1 : Int32) <<< ((q2.2 i3 0) &&& 31))); let s5 := (f_append s4 (f_row P a) (s4 i3 0)); s5) else st
def f_X1_await (st : gSt) (P : Nat) (a : Int32) (t : Nat) (b : Int32) : Int32 × gSt := (let x1 := (f_prom st P b); if x1 = (-1000000 : Int32) then (let s4 := (f_X1_block st P a t (3 : Int32)); ((0 : Int32), s4)) else (let s3 := (f_X4_addValue st t x1); ((1 : Int32), s3)))
def f_X1_join_L1 (P : Nat) (a : Int32) (t : Nat) (b : Int32) : Nat → gSt → Int32 → Int32 → Int32 × gSt
  | 0, st1, _, _ => (0, st1)
  | n + 1, st1, mo, x => if mo ≤ x then ((1 : Int32), st1) else if (st1 t 6) = 0 then ((1 : Int32), st1) else (let i3 := (f_tk P (f_X4_lastChild st1 t)); if (f_isO st1 i3) = 0 then (let s14 := (f_X1_block st1 P a t (2 : Int32)); ((0 : Int32), s14)) else (let s5 := gsu st1 t 6 ((st1 t 6) &&& (((1 : Int32) <<< ((st1 i3 0) &&& 31)) ^^^ (-1 : Int32))); if (s5 i3 2) = (4 : Int32) then (let s12 := (f_X4_addValue s5 t (s5 i3 4)); let x13 := (x + 1); f_X1_join_L1 P a t b n s12 mo x13) else if (s5 i3 2) = (5 : Int32) then if b = (4 : Int32) then (let x10 := (x + 1); f_X1_join_L1 P a t b n s5 mo x10) else (let s11 := (f_X1_end s5 P t (5 : Int32)); ((0 : Int32), s11)) else (let x8 := (x + 1); f_X1_join_L1 P a t b n s5 mo x8)))
def f_X1_join_J11 (P : Nat) (a : Int32) (t : Nat) (b : Int32) (st1 : gSt) (mo : Int32) : Int32 × gSt := f_X1_join_L1 P a t b ((mo.toInt - (0 : Int32).toInt).toNat + 1) st1 mo (0 : Int32)
def f_X1_join (st : gSt) (P : Nat) (a : Int32) (t : Nat) (b : Int32) : Int32 × gSt := if b = (3 : Int32) then f_X1_join_J11 P a t b st (24 : Int32)  else f_X1_join_J11 P a t b st (1 : Int32) 
def f_X1_cancelBelow_L2 (P : Nat) (t : Nat) : Nat → gSt → Int32 → Int32 → Int32 → Int32 × gSt
  | 0, st1, _, _, _ => (0, st1)
  | n + 1, st1, f, y, x => if x ≤ (st1 t 0) then (y, st1) else if (f_X1_isIn st1 f x) = 0 then (let x7 := (x + (-1)); f_X1_cancelBelow_L2 P t n st1 f y x7) else (let s8 := (f_X1_end st1 P (f_tk P x) (6 : Int32)); let x9 := (y + 1); let x10 := (x + (-1)); f_X1_cancelBelow_L2 P t n s8 f x9 x10)
def f_X1_cancelBelow_L1 (P : Nat) (t : Nat) : Nat → gSt → Int32 → Int32 → Int32 × gSt
  | 0, st1, _, _ => (0, st1)
  | n + 1, st1, f, x => if (st1 P 3) ≤ x then (let x4 := ((st1 P 3) - (1 : Int32)); f_X1_cancelBelow_L2 P t (((x4).toInt - (st1 t 0).toInt).toNat + 1) st1 f (0 : Int32) x4) else (let i11 := (f_tk P x); if (f_X1_isIn st1 f (st1 i11 5)) = 0 then (let x13 := (x + 1); f_X1_cancelBelow_L1 P t n st1 f x13) else if (f_isO st1 i11) = 0 then (let x16 := (f ||| ((1 : Int32) <<< (x &&& 31))); let x17 := (x + 1); f_X1_cancelBelow_L1 P t n st1 x16 x17) else (let x15 := (x + 1); f_X1_cancelBelow_L1 P t n st1 f x15))
def f_X1_cancelBelow (st : gSt) (P : Nat) (t : Nat) : Int32 × gSt := (let x1 := ((1 : Int32) <<< ((st t 0) &&& 31)); let x2 := ((st t 0) + (1 : Int32)); f_X1_cancelBelow_L1 P t (((st P 3).toInt - (x2).toInt).toNat + 1) st x1 x2)
def f_X1_keepPromise_L1 (P : Nat) (a : Int32) (b : Int32) : Nat → gSt → Int32 → Int32 × gSt
  | 0, st1, _ => (0, st1)
  | n + 1, st1, x => if (st1 P 3) ≤ x then ((1 : Int32), st1) else (let i6 := (f_tk P x); let i7 := (f_sc (st1 i6 1)); if (st1 i6 2) = (3 : Int32) then if (f_numberAt st1 i7 (st1 i6 3)) = a then (let s12 := (f_X1_free st1 P i6); let x13 := (x + 1); f_X1_keepPromise_L1 P a b n s12 x13) else (let x11 := (x + 1); f_X1_keepPromise_L1 P a b n st1 x11) else (let x9 := (x + 1); f_X1_keepPromise_L1 P a b n st1 x9))
def f_X1_keepPromise (st : gSt) (P : Nat) (a : Int32) (b : Int32) : Int32 × gSt := if a < (0 : Int32) then ((0 : Int32), st) else if (6 : Int32) ≤ a then ((0 : Int32), st) else if (st (P + 12) a.toNatClampNeg) = (-1000000 : Int32) then (let s4 := gsu st (P + 12) a.toNatClampNeg b; f_X1_keepPromise_L1 P a b (((s4 P 3).toInt - (0 : Int32).toInt).toNat + 1) s4 (0 : Int32)) else ((0 : Int32), st)
def f_X1_goOn_J202 (P : Nat) (a : Int32) (t : Nat) (st1 : gSt) (co : Int32) (nn : Int32) (be : Int32) (sc : Nat) : Int32 × gSt := if be = 0 then if co = 0 then ((0 : Int32), st1) else ((1 : Int32), st1) else (let s3 := (f_X1_advance st1 P t (st1 sc 2)); if co = 0 then ((0 : Int32), s3) else ((1 : Int32), s3))
def f_X1_goOn_J35 (P : Nat) (a : Int32) (t : Nat) (st1 : gSt) (co : Int32) (sc : Nat) : Int32 × gSt := (let x5 := (f_numberAt st1 sc (st1 t 3)); if co = (0 : Int32) then (let q7 := (f_X1_work st1 P a t x5); let x8 := q7.1; f_X1_goOn_J202 P a t q7.2 co x5 x8 sc) else if co = (1 : Int32) then (let s10 := (f_X1_fork st1 P a t x5); f_X1_goOn_J202 P a t s10 co x5 (1 : Int32) sc) else if co = (2 : Int32) then (let q12 := (f_X1_join st1 P a t co); let x13 := q12.1; f_X1_goOn_J202 P a t q12.2 co x5 x13 sc) else if co = (3 : Int32) then (let q15 := (f_X1_join st1 P a t co); let x16 := q15.1; f_X1_goOn_J202 P a t q15.2 co x5 x16 sc) else if co = (4 : Int32) then (let q18 := (f_X1_join st1 P a t co); let x19 := q18.1; f_X1_goOn_J202 P a t q18.2 co x5 x19 sc) else if co = (5 : Int32) then (let s21 := (f_X4_addValue st1 t x5); f_X1_goOn_J202 P a t s21 co x5 (1 : Int32) sc) else if co = (6 : Int32) then (let s23 := (f_X1_end st1 P t (5 : Int32)); f_X1_goOn_J202 P a t s23 co x5 (0 : Int32) sc) else if co = (7 : Int32) then (let q25 := (f_X1_cancelBelow st1 P t); f_X1_goOn_J202 P a t q25.2 co x5 (1 : Int32) sc) else if co = (8 : Int32) then (let q27 := (f_X1_await st1 P a t x5); let x28 := q27.1; f_X1_goOn_J202 P a t q27.2 co x5 x28 sc) else if co = (9 : Int32) then (let q30 := (f_X1_keepPromise st1 P x5 (st1 t 4)); f_X1_goOn_J202 P a t q30.2 co x5 (1 : Int32) sc) else f_X1_goOn_J202 P a t st1 co x5 (1 : Int32) sc)
def f_X1_goOn (st : gSt) (P : Nat) (a : Int32) (t : Nat) : Int32 × gSt := (let i31 := (f_sc (st t 1)); if (st i31 2) ≤ (st t 3) then f_X1_goOn_J35 P a t st (-1 : Int32) i31 else f_X1_goOn_J35 P a t st (f_codeAt st i31 (st t 3)) i31)
def f_X1_act (st : gSt) (P : Nat) (a : Int32) : Int32 × gSt := (let i1 := (f_wk P a); if (f_X1_wantsTask st P i1) = 0 then (let i3 := (f_tk P (f_last st (i1 + 3))); if (f_isB st i3) = 0 then (let q5 := (f_X1_goOn st P a i3); (q5.1, q5.2)) else (let s6 := gsu st i1 3 ((st i1 3) + (1 : Int32)); ((0 : Int32), s6))) else (let q7 := (f_X1_take st P a i1); (q7.1, q7.2)))
def f_X1_passTick_L2 (P : Nat) (K : gSt → Int32 → gSt) (x : Int32) : Nat → gSt → Int32 → Int32 → gSt
  | 0, st1, _, _ => st1
  | n + 1, st1, b, y => if (1000000 : Int32) ≤ y then (let x5 := (x + 1); K st1 x5) else if b = 0 then (let x7 := (x + 1); K st1 x7) else (let q8 := (f_X1_act st1 P x); let x9 := q8.1; let x10 := (y + 1); f_X1_passTick_L2 P K x n q8.2 x9 x10)
def f_X1_passTick_L1 (P : Nat) : Nat → gSt → Int32 → gSt
  | 0, so, _ => so
  | n + 1, so, x => if (so P 6) ≤ x then (let s2 := gsu so P 11 ((so P 11) + (1 : Int32)); s2) else (let s3 := (f_X5_noteRan so (f_wk P x) (so P 11) (-1 : Int32)); f_X1_passTick_L2 P (f_X1_passTick_L1 P n) x 1000001 s3 (1 : Int32) (0 : Int32))
def f_X1_passTick (st : gSt) (P : Nat) : gSt := f_X1_passTick_L1 P (((st P 6).toInt - (0 : Int32).toInt).toNat + 1) st (0 : Int32)
def f_X1_clear (st : gSt) (P : Nat) : gSt := (let s1 := gsu st P 3 (0 : Int32); let s2 := gsu s1 P 6 (0 : Int32); let s3 := (f_X1_changeWorkerCount s2 P (1 : Int32)); let s4 := (gsu s3 (P + 10) 1 0); let s5 := (f_J7_fill_53178_13 s4 (P + 12) (-1000000 : Int32)); let s6 := gsu s5 P 9 (0 : Int32); let s7 := gsu s6 P 10 (0 : Int32); let s8 := gsu s7 P 11 (0 : Int32); s8)
def f_X1_copyFrom_L3 (P : Nat) (O : Nat) : Nat → gSt → Int32 → gSt
  | 0, st1, _ => st1
  | n + 1, st1, z => if (6 : Int32) ≤ z then (let s7 := gsu st1 P 9 (st1 O 9); let s8 := gsu s7 P 10 (s7 O 10); let s9 := gsu s8 P 11 (s8 O 11); s9) else (let s10 := gsu st1 (P + 12) z.toNatClampNeg (st1 (O + 12) z.toNatClampNeg); let x11 := (z + 1); f_X1_copyFrom_L3 P O n s10 x11)
def f_X1_copyFrom_L2 (P : Nat) (O : Nat) : Nat → gSt → Int32 → gSt
  | 0, st1, _ => st1
  | n + 1, st1, y => if (5 : Int32) ≤ y then (let s5 := (f_rcopy st1 (P + 10) (O + 10)); f_X1_copyFrom_L3 P O 7 s5 (0 : Int32)) else (let s12 := (f_X5_copyFrom st1 ((P + 3) + 34 + 6 * y.toNatClampNeg) ((O + 3) + 34 + 6 * y.toNatClampNeg)); let x13 := (y + 1); f_X1_copyFrom_L2 P O n s12 x13)
def f_X1_copyFrom_L1 (P : Nat) (O : Nat) : Nat → gSt → Int32 → gSt
  | 0, st1, _ => st1
  | n + 1, st1, x => if (24 : Int32) ≤ x then (let s3 := gsu st1 P 6 (st1 O 6); f_X1_copyFrom_L2 P O 6 s3 (0 : Int32)) else (let s14 := (f_tcopy st1 ((P + 1) + 12 + x.toNatClampNeg) ((O + 1) + 12 + x.toNatClampNeg)); let x15 := (x + 1); f_X1_copyFrom_L1 P O n s14 x15)
def f_X1_copyFrom (st : gSt) (P : Nat) (O : Nat) : gSt := (let s1 := gsu st P 3 (st O 3); f_X1_copyFrom_L1 P O 25 s1 (0 : Int32))
def f_X6_isJob (st : gSt) (job : Int32) : Int32 := if job < (0 : Int32) then (0 : Int32) else if (st 1 2) ≤ job then (0 : Int32) else (1 : Int32)
def f_X6_isPromise (st : gSt) (pr : Int32) : Int32 := if pr < (0 : Int32) then (0 : Int32) else if (6 : Int32) ≤ pr then (0 : Int32) else (1 : Int32)
def f_X6_isStep (st : gSt) (code0 : Int32) (n0 : Int32) : Int32 := if code0 = (0 : Int32) then if n0 < (1 : Int32) then (0 : Int32) else if (20 : Int32) < n0 then (0 : Int32) else (1 : Int32) else if code0 = (1 : Int32) then (f_X6_isJob st n0) else if code0 = (2 : Int32) then if code0 < (0 : Int32) then (0 : Int32) else if (9 : Int32) < code0 then (0 : Int32) else (1 : Int32) else if code0 = (3 : Int32) then if code0 < (0 : Int32) then (0 : Int32) else if (9 : Int32) < code0 then (0 : Int32) else (1 : Int32) else if code0 = (4 : Int32) then if code0 < (0 : Int32) then (0 : Int32) else if (9 : Int32) < code0 then (0 : Int32) else (1 : Int32) else if code0 = (5 : Int32) then if n0 < (-100 : Int32) then (0 : Int32) else if (100 : Int32) < n0 then (0 : Int32) else (1 : Int32) else if code0 = (6 : Int32) then if code0 < (0 : Int32) then (0 : Int32) else if (9 : Int32) < code0 then (0 : Int32) else (1 : Int32) else if code0 = (7 : Int32) then if code0 < (0 : Int32) then (0 : Int32) else if (9 : Int32) < code0 then (0 : Int32) else (1 : Int32) else if code0 = (8 : Int32) then (f_X6_isPromise st n0) else if code0 = (9 : Int32) then (f_X6_isPromise st n0) else if code0 < (0 : Int32) then (0 : Int32) else if (9 : Int32) < code0 then (0 : Int32) else (1 : Int32)
def f_X6_clock (st : gSt)  : Int32 := (st 30 11)
def f_X6_tasks (st : gSt)  : Int32 := (st 30 3)
def f_X6_workers (st : gSt)  : Int32 := (st 30 6)
def f_X6_stateOf (st : gSt) (tk0 : Int32) : Int32 := (st (f_tk 30 tk0) 2)
def f_X6_valueOf (st : gSt) (tk0 : Int32) : Int32 := (st (f_tk 30 tk0) 4)
def f_X6_stepOf (st : gSt) (tk0 : Int32) : Int32 := (st (f_tk 30 tk0) 3)
def f_X6_parentOf (st : gSt) (tk0 : Int32) : Int32 := (st (f_tk 30 tk0) 5)
def f_X6_childrenOf (st : gSt) (tk0 : Int32) : Int32 := (st (f_tk 30 tk0) 6)
def f_X6_workOf (st : gSt) (tk0 : Int32) : Int32 := (f_X1_sumWork st 30 tk0)
def f_X6_overAt (st : gSt) (tk0 : Int32) : Int32 := (st (f_tk 30 tk0) 7)
def f_X6_promise (st : gSt) (pr : Int32) : Int32 := (f_prom st 30 pr)
def f_X6_top (st : gSt) (wk0 : Int32) : Int32 := (f_last st ((f_wk 30 wk0) + 3))
def f_X6_stack (st : gSt) (wk0 : Int32) : Int32 := (st ((f_wk 30 wk0) + 3) 1)
def f_X6_row (st : gSt) (wk0 : Int32) : Int32 := (st (f_row 30 wk0) 1)
def f_X6_inRow (st : gSt) (wk0 : Int32) (pl : Int32) : Int32 := (let i1 := (f_row 30 wk0); if pl < (0 : Int32) then 0 else if pl < (st i1 1) then (f_at st i1 pl) else 0)
def f_X6_told (st : gSt) (wk0 : Int32) (wt : Int32) : Int32 := if wt < (0 : Int32) then 0 else if wt ≤ (2 : Int32) then (let i3 := (f_wk 30 wk0); if wt = 0 then (st i3 2) else if wt = (1 : Int32) then (st i3 3) else (st i3 4)) else 0
def f_X6_ran (st : gSt) (wk0 : Int32) (bk : Int32) : Int32 := if bk < (1 : Int32) then 0 else if bk ≤ (20 : Int32) then if bk ≤ (st 30 11) then (f_X5_ranIn st (f_wk 30 wk0) ((st 30 11) - bk)) else (-2 : Int32) else 0
def f_X6_halted (st : gSt)  : Int32 := if (f_X1_isHalted st 30) = 0 then (0 : Int32) else if (f_X1_hasTaskIn st 30 (3 : Int32)) = 0 then if (f_X1_hasTaskIn st 30 (0 : Int32)) = 0 then (((4 : Int32) + (0 : Int32)) + (0 : Int32)) else (((4 : Int32) + (0 : Int32)) + (2 : Int32)) else if (f_X1_hasTaskIn st 30 (0 : Int32)) = 0 then (((4 : Int32) + (1 : Int32)) + (0 : Int32)) else (((4 : Int32) + (1 : Int32)) + (2 : Int32))
def f_X1_needsWorkerFrom_L2 (P : Nat) (a : Int32) : Nat → gSt → Int32 → Int32
  | 0, _, _ => 0
  | n + 1, st1, x => if (st1 P 3) ≤ x then (0 : Int32) else (let i3 := (f_tk P x); if (f_isB st1 i3) = 0 then (let x5 := (x + 1); f_X1_needsWorkerFrom_L2 P a n st1 x5) else if (st1 i3 10) < a then (let x7 := (x + 1); f_X1_needsWorkerFrom_L2 P a n st1 x7) else (1 : Int32))
def f_X1_needsWorkerFrom_L1 (P : Nat) (a : Int32) : Nat → gSt → Int32 → Int32
  | 0, _, _ => 0
  | n + 1, st1, x => if (st1 P 6) ≤ x then f_X1_needsWorkerFrom_L2 P a (((st1 P 3).toInt - (0 : Int32).toInt).toNat + 1) st1 (0 : Int32) else (let i8 := (f_wk P x); if (0 : Int32) < (st1 (i8 + 1) 1) then (1 : Int32) else if (st1 (i8 + 3) 1) ≤ (0 : Int32) then (let x11 := (x + 1); f_X1_needsWorkerFrom_L1 P a n st1 x11) else (1 : Int32))
def f_X1_needsWorkerFrom (st : gSt) (P : Nat) (a : Int32) : Int32 := f_X1_needsWorkerFrom_L1 P a (((st P 6).toInt - a.toInt).toNat + 1) st a
def f_X6_addJob (st : gSt)  : Int32 × gSt := if (st 1 2) < (8 : Int32) then (let q2 := (st 1 2, gsu st 1 2 (st 1 2 + 1)); (q2.1, q2.2)) else (0, st)
def f_X6_addStep (st : gSt) (job : Int32) (cd : Int32) (n0 : Int32) : Int32 × gSt := if (f_X6_isStep st cd n0) = 0 then (0, st) else (let i2 := (f_sc job); if (st i2 2) < (12 : Int32) then if (f_X1_hasTaskOf st 30 job) = 0 then (let s5 := (f_sapp st i2 cd n0); ((s5 i2 2), s5)) else (0, st) else (0, st))
def f_X6_setWorkers (st : gSt) (nw : Int32) : Int32 × gSt := if (f_X1_needsWorkerFrom st 30 nw) = 0 then (let x2 := (st 30 6); let s3 := (f_X1_changeWorkerCount st 30 nw); (x2, s3)) else (0, st)
def f_X6_setWay (st : gSt) (wy : Int32) (th : Int32) : Int32 × gSt := if th < (0 : Int32) then (0, st) else if th ≤ (2 : Int32) then if wy = (st 30 9) then (let x4 := (st 30 9); let s5 := gsu st 30 9 wy; let s6 := gsu s5 30 10 th; (x4, s6)) else if (f_X1_hasStackedTask st 30) = 0 then (let x8 := (st 30 9); let s9 := gsu st 30 9 wy; let s10 := gsu s9 30 10 th; (x8, s10)) else (0, st) else (0, st)
def f_X6_submit (st : gSt) (job : Int32) : Int32 × gSt := if (st 30 3) < (24 : Int32) then (let q2 := (f_X1_askFor st 30 job); (q2.1, q2.2)) else (0, st)
def f_X6_cancel (st : gSt) (tk0 : Int32) : Int32 × gSt := (let i1 := (f_tk 30 tk0); if (f_isO st i1) = 0 then (let q3 := (f_X1_cancelBelow st 30 i1); let x4 := q3.1; let s5 := (f_X1_end q3.2 30 i1 (6 : Int32)); ((x4 + (1 : Int32)), s5)) else (0, st))
def f_X6_keep (st : gSt) (pr : Int32) (n0 : Int32) : Int32 × gSt := if n0 < (-999 : Int32) then (0, st) else if n0 ≤ (999 : Int32) then (let q3 := (f_X1_keepPromise st 30 pr n0); (q3.1, q3.2)) else (0, st)
def f_X6_tick_L1 (ta : Int32) : Nat → gSt → Int32 → Int32 × gSt
  | 0, st1, _ => (0, st1)
  | n + 1, st1, x => if ta ≤ x then ((f_X1_countUnfinished st1 30), st1) else (let s4 := (f_X1_passTick st1 30); let x5 := (x + 1); f_X6_tick_L1 ta n s4 x5)
def f_X6_tick (st : gSt) (ta : Int32) : Int32 × gSt := if ta < (1 : Int32) then (0, st) else if ta ≤ (40 : Int32) then f_X6_tick_L1 ta ((ta.toInt - (0 : Int32).toInt).toNat + 1) st (0 : Int32) else (0, st)
def f_X6_overIn_L1 (tk0 : Int32) (ta : Int32) : Nat → gSt → Int32 → Int32 × gSt
  | 0, st1, _ => (0, st1)
  | n + 1, st1, x => if ta ≤ x then if (f_isO st1 (f_tk 97 tk0)) = 0 then ((-1 : Int32), st1) else (((st1 97 11) - (st1 30 11)), st1) else if (f_isO st1 (f_tk 97 tk0)) = 0 then (let s6 := (f_X1_passTick st1 97); let x7 := (x + 1); f_X6_overIn_L1 tk0 ta n s6 x7) else if (f_isO st1 (f_tk 97 tk0)) = 0 then ((-1 : Int32), st1) else (((st1 97 11) - (st1 30 11)), st1)
def f_X6_overIn (st : gSt) (tk0 : Int32) (ta : Int32) : Int32 × gSt := (let s1 := (f_X1_copyFrom st 97 30); f_X6_overIn_L1 tk0 ta ((ta.toInt - (0 : Int32).toInt).toNat + 1) s1 (0 : Int32))
def f_X6_valueIn_L1 (tk0 : Int32) (ta : Int32) : Nat → gSt → Int32 → Int32 × gSt
  | 0, st1, _ => (0, st1)
  | n + 1, st1, x => if ta ≤ x then ((st1 (f_tk 97 tk0) 4), st1) else (let s3 := (f_X1_passTick st1 97); let x4 := (x + 1); f_X6_valueIn_L1 tk0 ta n s3 x4)
def f_X6_valueIn (st : gSt) (tk0 : Int32) (ta : Int32) : Int32 × gSt := (let s1 := (f_X1_copyFrom st 97 30); f_X6_valueIn_L1 tk0 ta ((ta.toInt - (0 : Int32).toInt).toNat + 1) s1 (0 : Int32))
def f_X6_haltsIn_L1 (ta : Int32) : Nat → gSt → Int32 → Int32 × gSt
  | 0, st1, _ => (0, st1)
  | n + 1, st1, x => if ta ≤ x then if (f_X1_isHalted st1 97) = 0 then ((-1 : Int32), st1) else (((st1 97 11) - (st1 30 11)), st1) else if (f_X1_isHalted st1 97) = 0 then (let s6 := (f_X1_passTick st1 97); let x7 := (x + 1); f_X6_haltsIn_L1 ta n s6 x7) else if (f_X1_isHalted st1 97) = 0 then ((-1 : Int32), st1) else (((st1 97 11) - (st1 30 11)), st1)
def f_X6_haltsIn (st : gSt) (ta : Int32) : Int32 × gSt := (let s1 := (f_X1_copyFrom st 97 30); f_X6_haltsIn_L1 ta ((ta.toInt - (0 : Int32).toInt).toNat + 1) s1 (0 : Int32))
def f_X6_withTask (st : gSt) (d0 : Int64) (tk0 : Int32) : Int64 := (let d1 := ((d0 * (31 : Int64)) + ((f_X6_stateOf st tk0)).toInt64); let d2 := ((d1 * (31 : Int64)) + ((f_X6_valueOf st tk0)).toInt64); let d3 := ((d2 * (31 : Int64)) + ((f_X6_stepOf st tk0)).toInt64); let d4 := ((d3 * (31 : Int64)) + ((f_X6_parentOf st tk0)).toInt64); let d5 := ((d4 * (31 : Int64)) + ((f_X6_childrenOf st tk0)).toInt64); let d6 := ((d5 * (31 : Int64)) + ((f_X6_workOf st tk0)).toInt64); ((d6 * (31 : Int64)) + ((f_X6_overAt st tk0)).toInt64))
def f_X6_withRow_L1 (d0 : Int64) (wk0 : Int32) : Nat → gSt → Int32 → Int64 → Int32 → Int64
  | 0, _, _, _, _ => 0
  | n + 1, st1, sz, da, x => if sz ≤ x then da else (let d4 := ((da * (31 : Int64)) + ((f_X6_inRow st1 wk0 x)).toInt64); let x5 := (x + 1); f_X6_withRow_L1 d0 wk0 n st1 sz d4 x5)
def f_X6_withRow (st : gSt) (d0 : Int64) (wk0 : Int32) : Int64 := (let x1 := (f_X6_row st wk0); let d2 := ((d0 * (31 : Int64)) + (x1).toInt64); f_X6_withRow_L1 d0 wk0 ((x1.toInt - (0 : Int32).toInt).toNat + 1) st x1 d2 (0 : Int32))
def f_X6_withWorker_L2 (d0 : Int64) (wk0 : Int32) : Nat → gSt → Int64 → Int32 → Int64
  | 0, _, _, _ => 0
  | n + 1, st1, db, y => if (3 : Int32) < y then db else (let d5 := ((db * (31 : Int64)) + ((f_X6_ran st1 wk0 y)).toInt64); let x6 := (y + 1); f_X6_withWorker_L2 d0 wk0 n st1 d5 x6)
def f_X6_withWorker_L1 (d0 : Int64) (wk0 : Int32) : Nat → gSt → Int64 → Int32 → Int64
  | 0, _, _, _ => 0
  | n + 1, st1, da, x => if (2 : Int32) < x then f_X6_withWorker_L2 d0 wk0 5 st1 da (1 : Int32) else (let d7 := ((da * (31 : Int64)) + ((f_X6_told st1 wk0 x)).toInt64); let x8 := (x + 1); f_X6_withWorker_L1 d0 wk0 n st1 d7 x8)
def f_X6_withWorker (st : gSt) (d0 : Int64) (wk0 : Int32) : Int64 := (let d1 := ((d0 * (31 : Int64)) + ((f_X6_top st wk0)).toInt64); let d2 := ((d1 * (31 : Int64)) + ((f_X6_stack st wk0)).toInt64); f_X6_withWorker_L1 d0 wk0 4 st d2 (0 : Int32))
def f_X6_digest_L4  : Nat → gSt → Int64 → Int32 → Int64
  | 0, _, _, _ => 0
  | n + 1, st1, de, v => if (st1 30 6) ≤ v then de else (let d9 := (f_X6_withWorker st1 de v); let x10 := (v + 1); f_X6_digest_L4  n st1 d9 x10)
def f_X6_digest_L3  : Nat → gSt → Int64 → Int32 → Int64
  | 0, _, _, _ => 0
  | n + 1, st1, dc, z => if (st1 30 6) ≤ z then f_X6_digest_L4  (((st1 30 6).toInt - (0 : Int32).toInt).toNat + 1) st1 dc (0 : Int32) else (let d11 := (f_X6_withRow st1 dc z); let x12 := (z + 1); f_X6_digest_L3  n st1 d11 x12)
def f_X6_digest_L2  : Nat → gSt → Int64 → Int32 → Int64
  | 0, _, _, _ => 0
  | n + 1, st1, db, y => if (6 : Int32) ≤ y then f_X6_digest_L3  (((st1 30 6).toInt - (-1 : Int32).toInt).toNat + 1) st1 db (-1 : Int32) else (let d13 := ((db * (31 : Int64)) + ((f_X6_promise st1 y)).toInt64); let x14 := (y + 1); f_X6_digest_L2  n st1 d13 x14)
def f_X6_digest_L1  : Nat → gSt → Int64 → Int32 → Int64
  | 0, _, _, _ => 0
  | n + 1, st1, da, x => if (st1 30 3) ≤ x then f_X6_digest_L2  (((6 : Int32).toInt - (0 : Int32).toInt).toNat + 1) st1 da (0 : Int32) else (let d15 := (f_X6_withTask st1 da x); let x16 := (x + 1); f_X6_digest_L1  n st1 d15 x16)
def f_X6_digest (st : gSt)  : Int64 := (let d1 := (((58063 : Int64) * (31 : Int64)) + ((f_X6_clock st )).toInt64); let d2 := ((d1 * (31 : Int64)) + ((f_X6_tasks st )).toInt64); let d3 := ((d2 * (31 : Int64)) + ((f_X6_workers st )).toInt64); let d4 := ((d3 * (31 : Int64)) + ((f_X6_halted st )).toInt64); f_X6_digest_L1  (((st 30 3).toInt - (0 : Int32).toInt).toNat + 1) st d4 (0 : Int32))
