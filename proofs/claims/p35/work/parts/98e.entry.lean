/-! WHAT HOLDS AT THE LAW'S ENTRY, out of the tables' words. -/
theorem e_D {args : Array Value} {s : State} (hts : ∀ w ∈ lw_tbl, w.before args s = true) : ∃ D : va_G, ∀ (k : Nat) (q : vw_C), vwCl[k]? = some q → u_Kn s q.1 q.2.1 q.2.2 (D.1 k) (D.2 k) := by
  have hI : ∀ k : Nat, ∃ (c : ClassId) (i : Nat → Nat), ∀ q : vw_C, vwCl[k]? = some q → u_Kn s q.1 q.2.1 q.2.2 c i := by
    intro k
    match k with
    | 0 => obtain ⟨c, i, h⟩ := u_known (C := RX0) (T := TX0) (N := 3) (n := 3) hts inX0 (hts (.instantiable RX0 3) (by decide +kernel)); exact ⟨c, i, fun q hq => by cases hq; exact h⟩
    | 1 => obtain ⟨c, i, h⟩ := u_known (C := RX1) (T := TX1) (N := 12) (n := 12) hts inX1 (hts (.instantiable RX1 12) (by decide +kernel)); exact ⟨c, i, fun q hq => by cases hq; exact h⟩
    | 2 => obtain ⟨c, i, h⟩ := u_known (C := RX2) (T := TX2) (N := 2) (n := 2) hts inX2 (hts (.instantiable RX2 2) (by decide +kernel)); exact ⟨c, i, fun q hq => by cases hq; exact h⟩
    | 3 => obtain ⟨c, i, h⟩ := u_known (C := RX3) (T := TX3) (N := 3) (n := 3) hts inX3 (hts (.instantiable RX3 3) (by decide +kernel)); exact ⟨c, i, fun q hq => by cases hq; exact h⟩
    | 4 => obtain ⟨c, i, h⟩ := u_known (C := RX4) (T := TX4) (N := 11) (n := 11) hts inX4 (hts (.instantiable RX4 11) (by decide +kernel)); exact ⟨c, i, fun q hq => by cases hq; exact h⟩
    | 5 => obtain ⟨c, i, h⟩ := u_known (C := RX5) (T := TX5) (N := 6) (n := 6) hts inX5 (hts (.instantiable RX5 6) (by decide +kernel)); exact ⟨c, i, fun q hq => by cases hq; exact h⟩
    | 6 => obtain ⟨c, i, h⟩ := u_known (C := RX6) (T := TX6) (N := 3) (n := 3) hts inX6 (hts (.instantiable RX6 3) (by decide +kernel)); exact ⟨c, i, fun q hq => by cases hq; exact h⟩
    | n + 7 => obtain ⟨c, i, h⟩ := u_known (C := RX6) (T := TX6) (N := 3) (n := 3) hts inX6 (hts (.instantiable RX6 3) (by decide +kernel)); exact ⟨c, i, fun q hq => absurd hq (by simp [vwCl])⟩
  exact ⟨(fun k => Classical.choose (hI k), fun k => Classical.choose (Classical.choose_spec (hI k))), fun k q hq => Classical.choose_spec (Classical.choose_spec (hI k)) q hq⟩
theorem e_int {args : Array Value} {s : State} (h : (Cond.arrayClass .int).before args s = true) : ∃ c : ClassId, ArrOfT s c .int ∧ va_RA s c .int := by
  obtain ⟨c, k, comp, h1, h2, h3⟩ := Cond.arrayClass_spec h
  exact ⟨c, fun n z => ⟨fun k h => (by cases h), k, h2, comp, h3⟩, h1⟩
theorem e_obj {args : Array Value} {s : State} {C : String} (h : (Cond.arrayOver (.object C)).before args s = true) : ∃ c : ClassId, ArrOfT s c (.object C) ∧ va_RA s c (.object C) := by
  obtain ⟨comp, c, k, h1, h2, h3, h4, h5⟩ := Cond.arrayOver_spec h
  exact ⟨c, fun n z => ⟨fun k h => (by cases h), k, h3, comp, h4⟩, k, comp, h3, h4, h1, h5⟩
theorem e_cg {args : Array Value} {s : State} {D : va_G} (hD : ∀ (k : Nat) (q : vw_C), vwCl[k]? = some q → u_Kn s q.1 q.2.1 q.2.2 (D.1 k) (D.2 k)) (hts : ∀ w ∈ lw_tbl, w.before args s = true) : ∃ cg : Nat → ClassId, va_K D vwCl (gty cg) s := by
  obtain ⟨c0, a0, b0⟩ := e_int (hts (.arrayClass .int) (by decide +kernel))
  obtain ⟨c1, a1, b1⟩ := e_obj (C := RX3) (hts _ (by decide +kernel))
  obtain ⟨c2, a2, b2⟩ := e_obj (C := RX4) (hts _ (by decide +kernel))
  obtain ⟨c3, a3, b3⟩ := e_obj (C := RX5) (hts _ (by decide +kernel))
  refine ⟨fun i => match i with | 0 => c0 | 1 => c1 | 2 => c2 | _ => c3, ⟨hD, ?_⟩⟩
  intro k q hk
  match k, hk with
  | 0, hk => cases hk; exact ⟨a0, b0⟩
  | 1, hk => cases hk; exact ⟨a1, b1⟩
  | 2, hk => cases hk; exact ⟨a2, b2⟩
  | 3, hk => cases hk; exact ⟨a3, b3⟩
  | n + 4, hk => exact absurd hk (by simp)
theorem e_gNin : ∀ w ∈ gNw, w ∈ lw_tbl := by decide +kernel
theorem e_gNot : ∀ w ∈ gNw, w.onTables = true := by decide +kernel
theorem e_gN {args : Array Value} {s : State} (hts : ∀ w ∈ lw_tbl, w.before args s = true) : gN s := fun w hw => va_Nw.of (e_gNot w hw) (hts w (e_gNin w hw))
theorem e_gS2 {args : Array Value} {s : State} (hts : ∀ w ∈ lw_tbl, w.before args s = true) : gS2 s := ⟨e_gN hts, ⟨va_Nw.of rfl (hts _ (by decide +kernel)), va_Nw.of rfl (hts _ (by decide +kernel)), va_Nw.of rfl (hts _ (by decide +kernel)), va_Nw.of rfl (hts _ (by decide +kernel))⟩, va_AO.of (hts _ (by decide +kernel)), va_AO.of (hts _ (by decide +kernel)), va_AO.of (hts _ (by decide +kernel))⟩
theorem e_jX {b : Nat} {s : State} (hts : ∀ w ∈ lw_tbl, w.before #[Value.ref b] s = true) : jX s := by
  have h1 : (Cond.classLink RL 9 "[[I").before #[Value.ref b] s = true := hts _ (by decide +kernel)
  have h2 : (Cond.arrayOver (.array .int)).before #[Value.ref b] s = true := hts _ (by decide +kernel)
  have h3 : (Cond.arrayOver (.array (.array .int))).before #[Value.ref b] s = true := hts _ (by decide +kernel)
  exact ⟨va_tabs (by decide) rfl h1, h2, h3⟩
