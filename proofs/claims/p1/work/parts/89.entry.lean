/-! WHAT HOLDS AT THE LAW'S ENTRY, out of the tables' words and the given ones. -/
theorem e_D {args : Array Value} {s : State} (hts : ∀ w ∈ lw_tbl, w.before args s = true) : ∃ D : va_G, ∀ (k : Nat) (q : vw_C), vwCl[k]? = some q → u_Kn s q.1 q.2.1 q.2.2 (D.1 k) (D.2 k) := by
  have hI : ∀ k : Nat, ∃ (c : ClassId) (i : Nat → Nat), ∀ q : vw_C, vwCl[k]? = some q → u_Kn s q.1 q.2.1 q.2.2 c i := by
    intro k
    match k with
    | 0 => obtain ⟨c, i, h⟩ := u_known (C := RJ6) (T := TJ6) (N := 1) (n := 1) hts inJ6 (hts (.instantiable RJ6 1) (by decide +kernel)); exact ⟨c, i, fun q hq => by cases hq; exact h⟩
    | 1 => obtain ⟨c, i, h⟩ := u_known (C := RJx4a65c) (T := TJx4a65c) (N := 3) (n := 3) hts inJx4a65c (hts (.instantiable RJx4a65c 3) (by decide +kernel)); exact ⟨c, i, fun q hq => by cases hq; exact h⟩
    | 2 => obtain ⟨c, i, h⟩ := u_known (C := RX0) (T := TX0) (N := 3) (n := 3) hts inX0 (hts (.instantiable RX0 3) (by decide +kernel)); exact ⟨c, i, fun q hq => by cases hq; exact h⟩
    | 3 => obtain ⟨c, i, h⟩ := u_known (C := RX1) (T := TX1) (N := 12) (n := 12) hts inX1 (hts (.instantiable RX1 12) (by decide +kernel)); exact ⟨c, i, fun q hq => by cases hq; exact h⟩
    | 4 => obtain ⟨c, i, h⟩ := u_known (C := RX2) (T := TX2) (N := 2) (n := 2) hts inX2 (hts (.instantiable RX2 2) (by decide +kernel)); exact ⟨c, i, fun q hq => by cases hq; exact h⟩
    | 5 => obtain ⟨c, i, h⟩ := u_known (C := RX3) (T := TX3) (N := 3) (n := 3) hts inX3 (hts (.instantiable RX3 3) (by decide +kernel)); exact ⟨c, i, fun q hq => by cases hq; exact h⟩
    | 6 => obtain ⟨c, i, h⟩ := u_known (C := RX4) (T := TX4) (N := 11) (n := 11) hts inX4 (hts (.instantiable RX4 11) (by decide +kernel)); exact ⟨c, i, fun q hq => by cases hq; exact h⟩
    | 7 => obtain ⟨c, i, h⟩ := u_known (C := RX5) (T := TX5) (N := 6) (n := 6) hts inX5 (hts (.instantiable RX5 6) (by decide +kernel)); exact ⟨c, i, fun q hq => by cases hq; exact h⟩
    | 8 => obtain ⟨c, i, h⟩ := u_known (C := RX6) (T := TX6) (N := 3) (n := 3) hts inX6 (hts (.instantiable RX6 3) (by decide +kernel)); exact ⟨c, i, fun q hq => by cases hq; exact h⟩
    | 9 => obtain ⟨c, i, h⟩ := u_known (C := RX7) (T := TX7) (N := 8) (n := 8) hts inX7 (hts (.instantiable RX7 8) (by decide +kernel)); exact ⟨c, i, fun q hq => by cases hq; exact h⟩
    | 10 => obtain ⟨c, i, h⟩ := u_known (C := RX8) (T := TX8) (N := 10) (n := 10) hts inX8 (hts (.instantiable RX8 10) (by decide +kernel)); exact ⟨c, i, fun q hq => by cases hq; exact h⟩
    | 11 => obtain ⟨c, i, h⟩ := u_known (C := RX9) (T := TX9) (N := 4) (n := 4) hts inX9 (hts (.instantiable RX9 4) (by decide +kernel)); exact ⟨c, i, fun q hq => by cases hq; exact h⟩
    | 12 => obtain ⟨c, i, h⟩ := u_known (C := RX10) (T := TX10) (N := 3) (n := 3) hts inX10 (hts (.instantiable RX10 3) (by decide +kernel)); exact ⟨c, i, fun q hq => by cases hq; exact h⟩
    | n + 13 => obtain ⟨c, i, h⟩ := u_known (C := RX10) (T := TX10) (N := 3) (n := 3) hts inX10 (hts (.instantiable RX10 3) (by decide +kernel)); exact ⟨c, i, fun q hq => absurd hq (by simp [vwCl])⟩
  exact ⟨(fun k => Classical.choose (hI k), fun k => Classical.choose (Classical.choose_spec (hI k))), fun k q hq => Classical.choose_spec (Classical.choose_spec (hI k)) q hq⟩
theorem e_int {args : Array Value} {s : State} (h : (Cond.arrayClass .int).before args s = true) : ∃ c : ClassId, ArrOfT s c .int ∧ va_RA s c .int := by
  obtain ⟨c, k, comp, h1, h2, h3⟩ := Cond.arrayClass_spec h
  exact ⟨c, fun n z => ⟨fun k h => (by cases h), k, h2, comp, h3⟩, h1⟩
theorem e_obj {args : Array Value} {s : State} {C : String} (h : (Cond.arrayOver (.object C)).before args s = true) : ∃ c : ClassId, ArrOfT s c (.object C) ∧ va_RA s c (.object C) := by
  obtain ⟨comp, c, k, h1, h2, h3, h4, h5⟩ := Cond.arrayOver_spec h
  exact ⟨c, fun n z => ⟨fun k h => (by cases h), k, h3, comp, h4⟩, k, comp, h3, h4, h1, h5⟩
theorem e_cg {args : Array Value} {s : State} {D : va_G} (hD : ∀ (k : Nat) (q : vw_C), vwCl[k]? = some q → u_Kn s q.1 q.2.1 q.2.2 (D.1 k) (D.2 k)) (hts : ∀ w ∈ lw_tbl, w.before args s = true) : ∃ (cg : Nat → ClassId) (cr : rC), va_K D vwCl (gty cg) s ∧ va_K D vwCl (rty cr) s := by
  obtain ⟨c0, a0, b0⟩ := e_int (hts (.arrayClass .int) (by decide +kernel))
  obtain ⟨c1, a1, b1⟩ := e_obj (C := RX3) (hts _ (by decide +kernel))
  obtain ⟨c2, a2, b2⟩ := e_obj (C := RX4) (hts _ (by decide +kernel))
  obtain ⟨c3, a3, b3⟩ := e_obj (C := RX5) (hts _ (by decide +kernel))
  obtain ⟨c4, a4, b4⟩ := e_obj (C := "java/lang/Object") (hts _ (by decide +kernel))
  refine ⟨fun i => match i with | 0 => c0 | 1 => c1 | 2 => c2 | _ => c3, (c0, c4), ⟨hD, ?_⟩, hD, ?_⟩
  · intro k q hk
    match k, hk with
    | 0, hk => cases hk; exact ⟨a0, b0⟩
    | 1, hk => cases hk; exact ⟨a1, b1⟩
    | 2, hk => cases hk; exact ⟨a2, b2⟩
    | 3, hk => cases hk; exact ⟨a3, b3⟩
    | n + 4, hk => exact absurd hk (by simp)
  · intro k q hk
    match k, hk with
    | 0, hk => cases hk; exact ⟨a0, b0⟩
    | 1, hk => cases hk; exact ⟨a4, b4⟩
    | n + 2, hk => exact absurd hk (by simp)
theorem e_gNin : ∀ w ∈ gNw, w ∈ lw_tbl := by decide +kernel
theorem e_gNot : ∀ w ∈ gNw, w.onTables = true := by decide +kernel
theorem e_gN {args : Array Value} {s : State} (hts : ∀ w ∈ lw_tbl, w.before args s = true) : gN s := fun w hw => va_Nw.of (e_gNot w hw) (hts w (e_gNin w hw))
theorem e_gS2 {args : Array Value} {s : State} (hts : ∀ w ∈ lw_tbl, w.before args s = true) : gS2 s := ⟨e_gN hts, ⟨va_Nw.of rfl (hts _ (by decide +kernel)), va_Nw.of rfl (hts _ (by decide +kernel)), va_Nw.of rfl (hts _ (by decide +kernel)), va_Nw.of rfl (hts _ (by decide +kernel))⟩, va_AO.of (hts _ (by decide +kernel)), va_AO.of (hts _ (by decide +kernel)), va_AO.of (hts _ (by decide +kernel))⟩
theorem e_xBin : ∀ w ∈ xB, w ∈ lw_tbl := by decide +kernel
theorem e_xN {args : Array Value} {s : State} (hts : ∀ w ∈ lw_tbl, w.before args s = true) : xN s := fun w hw => va_Nw.of (xB_ot w hw) (hts w (e_xBin w hw))
section EG
variable {b : Nat} {s : State}
theorem e_xTin : ∀ q ∈ xSt, Cond.stringRef RX6 q.1 q.2 ∈ lw_tbl := by decide +kernel
theorem e_hA {s : State} : ∀ a : Nat, a < s.heap.size → ¬ lA0 s a := fun a ha h => Nat.not_le.mpr ha h
theorem e_xT (hts : ∀ w ∈ lw_tbl, w.before #[Value.ref b] s = true) (hg : (Jvm.Cond.and given_1 narrow_1).before #[Value.ref b] s = true) : xT s := by
  intro q hq
  have hs := flat_of_before _ hg
  have h1 : (Cond.exactly (.string RX6 q.1) "java/lang/String").before #[Value.ref b] s = true := by
    simp only [xSt, List.mem_cons, List.not_mem_nil, or_false] at hq
    rcases hq with rfl | rfl | rfl | rfl | rfl | rfl | rfl | rfl | rfl | rfl | rfl | rfl | rfl | rfl | rfl | rfl | rfl | rfl | rfl | rfl | rfl <;> exact hs _ (by decide +kernel)
  obtain ⟨a, c, cell, k, e, -⟩ := Cond.exactly_spec h1
  exact ⟨a, vk_R.of (hts _ (e_xTin q hq)) e⟩
theorem e_hF (hg : (Jvm.Cond.and given_1 narrow_1).before #[Value.ref b] s = true) : hF s := by
  have hs := flat_of_before _ hg
  exact ⟨va_Nc.of (hs _ (by decide +kernel)), va_Nc.of (hs _ (by decide +kernel)), va_Nc.of (hs _ (by decide +kernel))⟩
theorem e_xF (hts : ∀ w ∈ lw_tbl, w.before #[Value.ref b] s = true) (hg : (Jvm.Cond.and given_1 narrow_1).before #[Value.ref b] s = true) : xF (lA0 s) s s.heap := by
  have hs := flat_of_before _ hg
  exact ⟨vx_Zqof (hts _ (by decide +kernel)) (hts _ (by decide +kernel)) (hs _ (by decide +kernel)) e_hA, vx_Zqof (hts _ (by decide +kernel)) (hts _ (by decide +kernel)) (hs _ (by decide +kernel)) e_hA⟩
theorem e_empty {n : String} (hl : (Cond.laysStatic RJx4a65c n rOa).before #[Value.ref b] s = true) (hini : (Cond.initialized RJx4a65c).before #[Value.ref b] s = true) (h1 : (Cond.exactly (.static RJx4a65c n rOa) rOa).before #[Value.ref b] s = true) (h2 : (Cond.arrayOf (.static RJx4a65c n rOa) (.object "java/lang/Object")).before #[Value.ref b] s = true) (h3 : (Cond.eq (.length (.static RJx4a65c n rOa)) (.int 0)).before #[Value.ref b] s = true) :
    ∃ t : Nat, (Term.static RJx4a65c n rOa).eval #[Value.ref b] s none [] s = some (.ref t) ∧ va_Z RJx4a65c n rOa (.ref t) (lA0 s) s s.heap ∧ va_T (.object "java/lang/Object") t 0 (fun _ => .null) (lA0 s) s s.heap ∧ ∃ k0 : Cell, s.heap[t]? = some k0 ∧ k0.vm.isStatics = false ∧ s.vm.findClass rOa = some k0.cls := by
  obtain ⟨a, c, cell, k, e, f1, f2, f3, f4, f5, -⟩ := Cond.exactly_spec h1
  obtain ⟨t, e2, hT⟩ := va_Tof (N := 0) (f := fun _ => .null) (by decide) h2 (va_eqv h3 rfl) (fun j h => absurd h (Nat.not_lt_zero j)) e_hA
  obtain rfl : t = a := by have := e2.symm.trans e; cases this; rfl
  exact ⟨t, e, va_Zref hl hini e e_hA, hT, cell, f2, f4, by rw [f5]; exact f1⟩
theorem e_rE (hts : ∀ w ∈ lw_tbl, w.before #[Value.ref b] s = true) (hg : (Jvm.Cond.and given_1 narrow_1).before #[Value.ref b] s = true) : ∃ E : rEn, rE E (lA0 s) s s.heap ∧ rS E s := by
  have hs := flat_of_before _ hg
  obtain ⟨t1, e1, z1, T1, k1⟩ := e_empty (b := b) (s := s) (n := "DEFAULTCAPACITY_EMPTY_ELEMENTDATA") (hts _ (by decide +kernel)) (hts _ (by decide +kernel)) (hs _ (by decide +kernel)) (hs _ (by decide +kernel)) (hs _ (by decide +kernel))
  obtain ⟨t2, e2, z2, T2, k2⟩ := e_empty (b := b) (s := s) (n := "EMPTY_ELEMENTDATA") (hts _ (by decide +kernel)) (hts _ (by decide +kernel)) (hs _ (by decide +kernel)) (hs _ (by decide +kernel)) (hs _ (by decide +kernel))
  have hne : t1 ≠ t2 := by
    first
    | exact va_neR (hs (.not (.eq (.static RJx4a65c "DEFAULTCAPACITY_EMPTY_ELEMENTDATA" rOa) (.static RJx4a65c "EMPTY_ELEMENTDATA" rOa))) (by decide +kernel)) e1 e2
    | exact (va_neR (hs (.not (.eq (.static RJx4a65c "EMPTY_ELEMENTDATA" rOa) (.static RJx4a65c "DEFAULTCAPACITY_EMPTY_ELEMENTDATA" rOa))) (by decide +kernel)) e2 e1).symm
  have hlen : (Term.length (.static "java/lang/Integer$IntegerCache" "cache" "[Ljava/lang/Integer;")).eval #[Value.ref b] s none [] s = some (.int (Int32.ofNat 256)) := va_eqv (hs (.eq (.length (.static "java/lang/Integer$IntegerCache" "cache" "[Ljava/lang/Integer;")) (.int 256)) (by decide +kernel)) rfl
  obtain ⟨ad, hC, hel⟩ := vb_Cof (st := .static "java/lang/Integer$IntegerCache" "cache" "[Ljava/lang/Integer;") (A := lA0 s) rfl hlen (hs _ (by decide +kernel)) e_hA
  obtain ⟨t3, e3, T3⟩ := va_Tof (N := 256) (f := fun j => .ref (ad j)) (ty := .object "java/lang/Integer") (by decide) (hs (.arrayOf (.static "java/lang/Integer$IntegerCache" "cache" "[Ljava/lang/Integer;") (.object "java/lang/Integer")) (by decide +kernel)) hlen hel (e_hA (s := s))
  obtain ⟨mi, hmi⟩ := va_Mi.of (hs (.isRef (.mirror rOa)) (by decide +kernel))
  refine ⟨(t1, t2, ad, t3, mi), ⟨⟨z1, z2, T1, T2⟩, ⟨va_Zof (hts _ (by decide +kernel)) (hts _ (by decide +kernel)) (va_eqv (hs (.eq (.static "java/lang/Integer$IntegerCache" "high" "I") (.int 127)) (by decide +kernel)) rfl) e_hA, va_Zref (hts _ (by decide +kernel)) (hts _ (by decide +kernel)) e3 e_hA, T3, hC⟩, k1, k2, hne⟩, ?_⟩
  exact ⟨⟨hmi, va_Dc.of (hts _ (by decide +kernel)), va_AO.of (hts _ (by decide +kernel))⟩, ⟨va_Nw.of rfl (hts _ (by decide +kernel)), va_Nw.of rfl (hts _ (by decide +kernel)), va_Nw.of rfl (hts _ (by decide +kernel)), va_Nw.of rfl (hts _ (by decide +kernel))⟩, ⟨va_Nw.of rfl (hts _ (by decide +kernel)), va_Nw.of rfl (hts _ (by decide +kernel))⟩, va_Fw.of (hts _ (by decide +kernel)) (hts _ (by decide +kernel)) (hts _ (by decide +kernel)) (hts _ (by decide +kernel)) (hts _ (by decide +kernel))⟩
end EG
