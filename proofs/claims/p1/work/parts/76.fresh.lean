/-! THE NEW OBJECT: what its calls answer, read off the functions. -/
def xs0 : gSt := cl_s (f_X1_clear pl_s 30)
theorem z_count : xs0 1 2 = 0 := by decide +kernel
theorem z_tasks : xs0 30 3 = 0 := by decide +kernel
theorem z_workers : xs0 30 6 = 1 := by decide +kernel
theorem z_job (v : Int32) : f_X6_isJob xs0 v = 0 := by
  unfold f_X6_isJob
  rw [z_count]
  by_cases h : v < 0
  · rw [if_pos h]
  · rw [if_neg h, if_pos (Int32.not_lt.mp h)]
theorem z_task (v : Int32) : v < 0 ∨ xs0 30 3 ≤ v := by
  rw [z_tasks]
  by_cases h : v < 0
  · exact Or.inl h
  · exact Or.inr (Int32.not_lt.mp h)
theorem z_worker {v : Int32} (h : v < 0 ∨ 0 < v) : v < 0 ∨ xs0 30 6 ≤ v := by
  rw [z_workers]
  rcases h with h | h
  · exact Or.inl h
  · refine Or.inr ?_
    have a : (0 : Int32).toInt < v.toInt := Int32.lt_iff_toInt_lt.mp h
    refine Int32.le_iff_toInt_le.mpr ?_
    have e0 : (0 : Int32).toInt = 0 := rfl
    have e1 : (1 : Int32).toInt = 1 := rfl
    omega
theorem z_addJob : (f_X6_addJob xs0).1 = 0 := by decide +kernel
theorem z_addJob0 : xs0 1 2 < 8 := by decide +kernel
theorem z_setWorkers : ∀ n : Nat, n < 6 → 1 ≤ n → f_X1_needsWorkerFrom xs0 30 (Int32.ofNat n) = 0 ∧ (f_X6_setWorkers xs0 (Int32.ofNat n)).1 = 1 := by decide +kernel
theorem z_stacked : f_X1_hasStackedTask xs0 30 = 0 := by decide +kernel
theorem z_way : xs0 30 9 = 0 := by decide +kernel
theorem z_promise : ∀ n : Nat, n < 6 → f_X6_promise xs0 (Int32.ofNat n) = -1000000 := by decide +kernel
theorem z_top : f_X6_top xs0 0 = -1 := by decide +kernel
theorem z_stack : f_X6_stack xs0 0 = 0 := by decide +kernel
theorem z_row0 : f_X6_row xs0 0 = 0 := by decide +kernel
theorem z_rowC : f_X6_row xs0 (-1) = 0 := by decide +kernel
theorem z_told : ∀ n : Nat, n < 3 → f_X6_told xs0 0 (Int32.ofNat n) = 0 := by decide +kernel
theorem z_ran : ∀ n : Nat, n < 21 → 1 ≤ n → f_X6_ran xs0 0 (Int32.ofNat n) = -2 := by decide +kernel
theorem z_halted : f_X6_halted xs0 = 0 := by decide +kernel
theorem z_clock : f_X6_clock xs0 = 0 := by decide +kernel
theorem z_tick1 : ∀ n : Nat, n < 4 → 1 ≤ n → (f_X6_tick xs0 (Int32.ofNat n)).1 = 0 := by decide +kernel
theorem z_digest : f_X6_digest xs0 = (-5500428396780963123) := by decide +kernel
