set_option maxHeartbeats 400000 in
set_option maxRecDepth 100000 in
/-- grow(1) of a new list -/
theorem k_AL_grow1D (l : Launch) (D : va_G) (E : rEn) (cy : rC) (X : va_W) (A : Nat → Prop) (a : Nat) (mo : Int32) : rMr l yJx4a65c_grow_92f84 wsJx4a65c_grow_92f84 { frames := 1, cells := 1, slots := 10, locals := 24 } D E cy X [(a, .inr (1, [.int mo, .ref E.1, .int 0]))] A [.ref a, .int 1] (fun (q : Nat) => q) (fun (q : Nat) => [(a, .inr (1, [.int mo, .ref q, .int 0])), rAr cy q 10 (fun _ => none)]) (fun _ => True) 1 10 := by
  refine r_entry (cc := cJx4a65c_grow_92f84) (maxL := 4) (ret := (some (.array (.object "java/lang/Object")))) (by decide +kernel) rfl (Nat.le_of_ble_eq_true rfl) ?_
  intro p e s m args below meth c ls B
  obtain ⟨S, hr, hlocks, hmi, h, hl⟩ := B
  have hx := S.1
  have hb := S.2.1
  have hts := S.2.2.2.2
  have inJx4a65c : ∀ w ∈ wsJx4a65c0, w ∈ wsJx4a65c_grow_92f84 := by decide +kernel
  have hl : lv_has ls 4 [(0, .ref a), (1, .int 1)] := hl
  refine lv_aload_n hx hb dJx4a65c_grow_92f84_0 rfl (lv_at hl 0 rfl) ?_
  sorry
