set_option maxHeartbeats 4000000 in
set_option maxRecDepth 100000 in
/-- thrown() -/
theorem k_thrown (l : Launch) (D : va_G) (E : rEn) (cy : rC) (X : va_W) (A : Nat → Prop) (km ks kp : Nat) (th : Int32) : rMi l yX10_thrown wsX10_thrown { frames := 0, cells := 0, slots := 0, locals := 0 } D E cy X [(km, .inr (12, [.int th, .ref ks, .ref kp]))] A [.ref km] th (fun (_ : Unit) => [(km, .inr (12, [.int th, .ref ks, .ref kp]))]) (fun _ => True) 0 0 := by
  refine r_entry (cc := cX10_thrown) (maxL := 1) (ret := (some .int)) (by decide +kernel) rfl (Nat.le_of_ble_eq_true rfl) ?_
  intro p e s m args below meth c ls B
  obtain ⟨S, hr, hlocks, hmi, h, hl⟩ := B
  have hx := S.1
  have hb := S.2.1
  have hts := S.2.2.2.2
  have inX10 : ∀ w ∈ wsX100, w ∈ wsX10_thrown := by decide +kernel
  have hl : lv_has ls 1 [(0, .ref km)] := hl
  refine lv_aload_n hx hb dX10_thrown_0 rfl (lv_at hl 0 rfl) ?_
  refine r_get S h 0 inX10 (ref := "BobbinPoolModel") rfl rfl (k := 0) (by decide) (by decide +kernel) (fun _ h9 => h9) rfl dX10_thrown_1 ?_
  exact r_reti S h () rfl trivial hr hlocks rfl (rfl) ⟨Nat.le_of_ble_eq_true rfl, Nat.le_of_ble_eq_true rfl⟩ dX10_thrown_4
