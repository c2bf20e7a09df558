/-! THE NEW OBJECT: a promise kept. -/
theorem z_keepA : ∀ n : Nat, n < 6 → (¬ Int32.ofNat n < 0 ∧ ¬ (6 : Int32) ≤ Int32.ofNat n ∧ xs0 42 (Int32.ofNat n).toNatClampNeg = (-1000000 : Int32)) := by decide +kernel
theorem z_keep {n : Nat} (hn : n < 6) {b : Int32} (h0 : ¬ b < (-999 : Int32)) (h1 : ¬ (999 : Int32) < b) : (f_X6_keep xs0 (Int32.ofNat n) b).1 = 1 := by
  obtain ⟨e0, e1, e2⟩ := z_keepA n hn
  have e3 : b ≤ (999 : Int32) := Int32.not_lt.mp h1
  have e4 : gsu xs0 42 (Int32.ofNat n).toNatClampNeg b 30 3 = 0 := by rw [gsu_ni (by decide)]; exact z_tasks
  have e5 : f_X1_keepPromise xs0 30 (Int32.ofNat n) b = (1, gsu xs0 42 (Int32.ofNat n).toNatClampNeg b) := by
    unfold f_X1_keepPromise
    rw [if_neg e0, if_neg e1, if_pos e2]
    show f_X1_keepPromise_L1 30 (Int32.ofNat n) b (((gsu xs0 42 (Int32.ofNat n).toNatClampNeg b 30 3).toInt - (0 : Int32).toInt).toNat + 1) (gsu xs0 42 (Int32.ofNat n).toNatClampNeg b) (0 : Int32) = _
    rw [f_X1_keepPromise_L1, if_pos (by rw [e4]; decide)]
  unfold f_X6_keep
  rw [if_neg h0, if_pos e3, e5]
