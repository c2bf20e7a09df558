/-! THE NEW OBJECT: many ticks; promises kept; ways. -/
theorem z_tick : ∀ n : Nat, n < 41 → 1 ≤ n → (f_X6_tick xs0 (Int32.ofNat n)).1 = 0 := by decide +kernel
theorem z_haltsIn : ∀ n : Nat, n < 61 → 1 ≤ n → (f_X6_haltsIn xs0 (Int32.ofNat n)).1 = -1 := by decide +kernel
