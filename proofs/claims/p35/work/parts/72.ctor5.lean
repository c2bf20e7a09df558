/-! BobbinPool(): its 164 cells, in their order. -/
def cl_L (a bk ar b0 b1 b2 : Nat) (sa sc sn : Nat → Nat) (u1 u2 : Nat → Nat) : Nat → Nat := fun i => if i = 0 then a else if i = 1 then bk else if i = 2 then ar else if i = 3 then b0 else if i = 4 then b1 else if i = 5 then b2 else if i < 30 then (if (i - 6) % 3 = 0 then sa ((i - 6) / 3) else if (i - 6) % 3 = 1 then sc ((i - 6) / 3) else sn ((i - 6) / 3)) else if i < 97 then u1 i else u2 (i - 67)
def cl_s (sp : gSt) : gSt := fun i => if i < 30 then (fun _ => 0) else if i < 97 then sp i else sp (i - 67)
abbrev cl_u : Type := Nat × Nat × Nat × Nat × Nat × (Nat → Nat) × (Nat → Nat) × (Nat → Nat) × (Nat → Nat) × (Nat → Nat)
theorem cl_a2 (a bk ar b0 b1 b2 : Nat) (sa sc sn u1 u2 : Nat → Nat) (j : Nat) (hj : j < 8) : bk_f 8 sa j = some (cl_L a bk ar b0 b1 b2 sa sc sn u1 u2 (6 + 3 * j)) := by
  unfold bk_f cl_L
  rw [if_pos hj]
  repeat rw [if_neg (by omega)]
  rw [if_pos (by omega), if_pos (by omega)]
  congr 2
  omega
theorem cl_a31 (a bk ar b0 b1 b2 : Nat) (sa sc sn u1 u2 : Nat → Nat) (p1 p2 : Nat) (j : Nat) (hj : j < 24) : (some (cl_v u1 bk p1 (30 + 1 + 12 + j)) : Option Nat) = some (cl_L a bk ar b0 b1 b2 sa sc sn (cl_v u1 bk p1) (cl_v u2 bk p2) (31 + 12 + j)) := by
  have e : cl_L a bk ar b0 b1 b2 sa sc sn (cl_v u1 bk p1) (cl_v u2 bk p2) (31 + 12 + j) = cl_v u1 bk p1 (31 + 12 + j) := by
    unfold cl_L
    repeat rw [if_neg (by omega)]
    rw [if_pos (by omega)]
  exact congrArg some e.symm
theorem cl_a33 (a bk ar b0 b1 b2 : Nat) (sa sc sn u1 u2 : Nat → Nat) (p1 p2 : Nat) (j : Nat) (hj : j < 5) : (some (cl_v u1 bk p1 (30 + 3 + 34 + 6 * j)) : Option Nat) = some (cl_L a bk ar b0 b1 b2 sa sc sn (cl_v u1 bk p1) (cl_v u2 bk p2) (33 + 34 + 6 * j)) := by
  have e : cl_L a bk ar b0 b1 b2 sa sc sn (cl_v u1 bk p1) (cl_v u2 bk p2) (33 + 34 + 6 * j) = cl_v u1 bk p1 (33 + 34 + 6 * j) := by
    unfold cl_L
    repeat rw [if_neg (by omega)]
    rw [if_pos (by omega)]
  exact congrArg some e.symm
theorem cl_a98 (a bk ar b0 b1 b2 : Nat) (sa sc sn u1 u2 : Nat → Nat) (p1 p2 : Nat) (j : Nat) (hj : j < 24) : (some (cl_v u2 bk p2 (30 + 1 + 12 + j)) : Option Nat) = some (cl_L a bk ar b0 b1 b2 sa sc sn (cl_v u1 bk p1) (cl_v u2 bk p2) (98 + 12 + j)) := by
  have e : cl_L a bk ar b0 b1 b2 sa sc sn (cl_v u1 bk p1) (cl_v u2 bk p2) (98 + 12 + j) = cl_v u2 bk p2 (31 + 12 + j) := by
    unfold cl_L
    repeat rw [if_neg (by omega)]
    congr 1
    omega
  exact congrArg some e.symm
theorem cl_a100 (a bk ar b0 b1 b2 : Nat) (sa sc sn u1 u2 : Nat → Nat) (p1 p2 : Nat) (j : Nat) (hj : j < 5) : (some (cl_v u2 bk p2 (30 + 3 + 34 + 6 * j)) : Option Nat) = some (cl_L a bk ar b0 b1 b2 sa sc sn (cl_v u1 bk p1) (cl_v u2 bk p2) (100 + 34 + 6 * j)) := by
  have e : cl_L a bk ar b0 b1 b2 sa sc sn (cl_v u1 bk p1) (cl_v u2 bk p2) (100 + 34 + 6 * j) = cl_v u2 bk p2 (33 + 34 + 6 * j) := by
    unfold cl_L
    repeat rw [if_neg (by omega)]
    congr 1
    omega
  exact congrArg some e.symm
def cl_w (cy : Nat → ClassId) (sp : gSt) (a bk ar b0 b1 b2 : Nat) (sa sc sn u1 u2 : Nat → Nat) (p1 p2 : Nat) : va_W :=
  (([(a, .inr (6, [.ref bk, .ref p1, .ref p2]))] ++ bk_w cy bk ar b0 b1 b2 8 sa sc sn) ++ kW (cl_v u1 bk p1) cy sp) ++ kW (cl_v u2 bk p2) cy sp
set_option maxRecDepth 100000 in
set_option maxHeartbeats 8000000 in
theorem cl_eq (cy : Nat → ClassId) (sp : gSt) (a bk ar b0 b1 b2 : Nat) (sa sc sn u1 u2 : Nat → Nat) (p1 p2 : Nat) :
    ((((((cl_w cy sp a bk ar b0 b1 b2 sa sc sn u1 u2 p1 p2).set 2 (ar, .inl (cy 1, 8, .inr (.inr (.inr (.inr (fun j => some (cl_L a bk ar b0 b1 b2 sa sc sn (cl_v u1 bk p1) (cl_v u2 bk p2) (6 + 3 * j))))))))).set 31 (u1 31, .inl (cy 2, 24, .inr (.inr (.inr (.inr (fun j => some (cl_L a bk ar b0 b1 b2 sa sc sn (cl_v u1 bk p1) (cl_v u2 bk p2) (31 + 12 + j))))))))).set 33 (u1 33, .inl (cy 3, 5, .inr (.inr (.inr (.inr (fun j => some (cl_L a bk ar b0 b1 b2 sa sc sn (cl_v u1 bk p1) (cl_v u2 bk p2) (33 + 34 + 6 * j))))))))).set 98 (u2 31, .inl (cy 2, 24, .inr (.inr (.inr (.inr (fun j => some (cl_L a bk ar b0 b1 b2 sa sc sn (cl_v u1 bk p1) (cl_v u2 bk p2) (98 + 12 + j))))))))).set 100 (u2 33, .inl (cy 3, 5, .inr (.inr (.inr (.inr (fun j => some (cl_L a bk ar b0 b1 b2 sa sc sn (cl_v u1 bk p1) (cl_v u2 bk p2) (100 + 34 + 6 * j))))))))) = gW (cl_L a bk ar b0 b1 b2 sa sc sn (cl_v u1 bk p1) (cl_v u2 bk p2)) cy (cl_s sp) := by
  rfl
set_option maxRecDepth 100000 in
theorem cl_P {D : va_G} {A : Nat → Prop} {X : va_W} {H : Heap} {cy : Nat → ClassId} {sp : gSt} {a bk ar b0 b1 b2 : Nat} {sa sc sn u1 u2 : Nat → Nat} {p1 p2 : Nat} (h : va_P D vwCl (X ++ cl_w cy sp a bk ar b0 b1 b2 sa sc sn u1 u2 p1 p2) H) (hD : va_D A (X ++ cl_w cy sp a bk ar b0 b1 b2 sa sc sn u1 u2 p1 p2)) :
    va_P D vwCl (X ++ gW (cl_L a bk ar b0 b1 b2 sa sc sn (cl_v u1 bk p1) (cl_v u2 bk p2)) cy (cl_s sp)) H ∧ va_D A (X ++ gW (cl_L a bk ar b0 b1 b2 sa sc sn (cl_v u1 bk p1) (cl_v u2 bk p2)) cy (cl_s sp)) := by
  obtain ⟨h1, hD1⟩ := n_arr (k0 := X.length + 2) (a := ar) h hD (by rw [n_at]; rfl) (cl_a2 a bk ar b0 b1 b2 sa sc sn (cl_v u1 bk p1) (cl_v u2 bk p2))
  rw [n_set] at h1 hD1
  obtain ⟨h2, hD2⟩ := n_arr (k0 := X.length + 31) (a := u1 31) h1 hD1 (by rw [n_at]; rfl) (cl_a31 a bk ar b0 b1 b2 sa sc sn u1 u2 p1 p2)
  rw [n_set] at h2 hD2
  obtain ⟨h3, hD3⟩ := n_arr (k0 := X.length + 33) (a := u1 33) h2 hD2 (by rw [n_at]; rfl) (cl_a33 a bk ar b0 b1 b2 sa sc sn u1 u2 p1 p2)
  rw [n_set] at h3 hD3
  obtain ⟨h4, hD4⟩ := n_arr (k0 := X.length + 98) (a := u2 31) h3 hD3 (by rw [n_at]; rfl) (cl_a98 a bk ar b0 b1 b2 sa sc sn u1 u2 p1 p2)
  rw [n_set] at h4 hD4
  obtain ⟨h5, hD5⟩ := n_arr (k0 := X.length + 100) (a := u2 33) h4 hD4 (by rw [n_at]; rfl) (cl_a100 a bk ar b0 b1 b2 sa sc sn u1 u2 p1 p2)
  rw [n_set] at h5 hD5
  have e := cl_eq cy sp a bk ar b0 b1 b2 sa sc sn u1 u2 p1 p2
  exact ⟨by rw [← e]; exact h5, by rw [← e]; exact hD5⟩
set_option maxHeartbeats 8000000 in
set_option maxRecDepth 100000 in
/-- BobbinPool() -/
theorem n_X6_init (l : Launch) (D : va_G) (cy : Nat → ClassId) (X : va_W) (A : Nat → Prop) (sz a : Nat) (hA : ∀ q, sz ≤ q → A q) (hD : va_D A (X ++ [(a, .inr (6, [.null, .null, .null]))])) : nM l yX6_init wsX6_init { frames := 7, cells := 163, slots := 1886, locals := 200 } D cy X [(a, .inr (6, [.null, .null, .null]))] A sz [.ref a] (fun u : cl_u => gW (cl_L a u.1 u.2.1 u.2.2.1 u.2.2.2.1 u.2.2.2.2.1 u.2.2.2.2.2.1 u.2.2.2.2.2.2.1 u.2.2.2.2.2.2.2.1 u.2.2.2.2.2.2.2.2.1 u.2.2.2.2.2.2.2.2.2) cy (cl_s (f_X1_clear pl_s 30))) 163 1886 := by
  refine n_entry hA hD (cc := cX6_init) (maxL := 1) (by decide +kernel) rfl rfl (Nat.le_of_ble_eq_true rfl) ?_
  intro p e s m args below meth c ls B
  obtain ⟨S, hr, hlocks, hmi, h, hl⟩ := B
  have hx := S.1
  have hb := S.2.1
  have hts := S.2.2.2.2
  have hl : lv_has ls 1 [(0, .ref a)] := hl
  have in6 : ∀ w ∈ wsX60, w ∈ wsX6_init := by decide +kernel
  have in0 : ∀ w ∈ wsX00, w ∈ wsX6_init := by decide +kernel
  have in1 : ∀ w ∈ wsX10, w ∈ wsX6_init := by decide +kernel
  refine lv_aload_n hx hb dX6_init_0 rfl (lv_at hl 0 rfl) ?_
  refine W.objInit hx hb S.2.2.2.1 (hts (.methodLink RX6 1 objectInit) (by decide +kernel)) (hts (.instanceMethod objectInit) (by decide +kernel)) (hts (.code objectInit ⟨#[0xb1]⟩ 1 none) (by decide +kernel)) rfl (by rw [S.2.2.1]; exact hl.1) rfl dX6_init_1 (Nat.le_of_ble_eq_true rfl) (Nat.le_of_ble_eq_true rfl) ?_
  refine W.eq (g2 := F0 m 4 ls []) rfl ?_
  refine lv_aload_n hx hb dX6_init_4 rfl (lv_at hl 0 rfl) ?_
  refine n_new S h (ci := 0) (fs := [.null, .null, .int 0]) tyX0 tyX0_ok in0 (by decide +kernel) (by decide +kernel) (by decide +kernel) rfl (fun j hj => by rcases (show j = 0 ∨ j = 1 ∨ j = 2 by omega) with rfl | rfl | rfl <;> rfl) (Nat.le_of_ble_eq_true rfl) (Nat.le_of_ble_eq_true rfl) dX6_init_5 (fun bk H h => ?_)
  refine lv_dup hx hb dX6_init_8 rfl ?_
  refine n_callI S h (fun hA hD => n_X0_init l D cy _ A _ _ hA hD) ⟨callB_of 0 hts gX6_init_X0_init rfl rfl rfl (hts _ (show Cond.initialized RX0 ∈ wsX6_init by decide +kernel)) (hts _ (show Cond.methodLink RX6 9 yX0_init ∈ wsX6_init by decide +kernel)) (by decide +kernel) ⟨(Nat.le_of_ble_eq_true rfl), (Nat.le_of_ble_eq_true rfl)⟩, rfl, hts _ (show Cond.instanceMethod yX0_init ∈ wsX6_init by decide +kernel)⟩ rfl hl.1 rfl (Nat.le_of_ble_eq_true rfl) dX6_init_9 ⟨(Nat.le_of_ble_eq_true rfl), (Nat.le_of_ble_eq_true rfl)⟩ (fun u H locs h => ?_)
  obtain ⟨ar, b0, b1, b2, sa, sc, sn⟩ := u
  refine n_putF S h 0 tyX6 tyX6_ok nmX6 in6 rfl rfl (k := 0) (by decide) (by decide +kernel) rfl hmi rfl (ty := .object RX0) rfl rfl rfl (Nat.le_of_ble_eq_true rfl) dX6_init_12 (fun H locs h => ?_)
  have h : nH D cy X ([(a, .inr (6, [.ref bk, .null, .null]))] ++ bk_w cy bk ar b0 b1 b2 8 sa sc sn) A s H locs := h
  refine lv_aload_n hx hb dX6_init_15 rfl (lv_at hl 0 rfl) ?_
  refine n_new S h (ci := 1) (fs := [.null, .null, .null, .int 0, .null, .null, .int 0, .null, .null, .int 0, .int 0, .int 0]) tyX1 tyX1_ok in1 (by decide +kernel) (by decide +kernel) (by decide +kernel) rfl (fun j hj => by rcases (show j = 0 ∨ j = 1 ∨ j = 2 ∨ j = 3 ∨ j = 4 ∨ j = 5 ∨ j = 6 ∨ j = 7 ∨ j = 8 ∨ j = 9 ∨ j = 10 ∨ j = 11 by omega) with rfl | rfl | rfl | rfl | rfl | rfl | rfl | rfl | rfl | rfl | rfl | rfl <;> rfl) (Nat.le_of_ble_eq_true rfl) (Nat.le_of_ble_eq_true rfl) dX6_init_16 (fun p1 H h => ?_)
  refine lv_dup hx hb dX6_init_19 rfl ?_
  refine lv_aload_n hx hb dX6_init_20 rfl (lv_at hl 0 rfl) ?_
  refine n_get S h 0 in6 (show _ = some (a, _) from rfl) rfl (k := 0) (by decide) (by decide +kernel) rfl dX6_init_21 ?_
  refine n_callI S h (fun hA hD => n_X1_init l D cy _ A _ _ bk hA hD) ⟨callB_of 1 hts gX6_init_X1_init rfl rfl rfl (hts _ (show Cond.initialized RX1 ∈ wsX6_init by decide +kernel)) (hts _ (show Cond.methodLink RX6 18 yX1_init ∈ wsX6_init by decide +kernel)) (by decide +kernel) ⟨(Nat.le_of_ble_eq_true rfl), (Nat.le_of_ble_eq_true rfl)⟩, rfl, hts _ (show Cond.instanceMethod yX1_init ∈ wsX6_init by decide +kernel)⟩ rfl hl.1 rfl (Nat.le_of_ble_eq_true rfl) dX6_init_24 ⟨(Nat.le_of_ble_eq_true rfl), (Nat.le_of_ble_eq_true rfl)⟩ (fun u1 H locs h => ?_)
  refine n_putF S h 0 tyX6 tyX6_ok nmX6 in6 (show _ = some (a, _) from rfl) rfl (k := 1) (by decide) (by decide +kernel) rfl hmi rfl (ty := .object RX1) rfl rfl rfl (Nat.le_of_ble_eq_true rfl) dX6_init_27 (fun H locs h => ?_)
  have h : nH D cy X (([(a, .inr (6, [.ref bk, .ref p1, .null]))] ++ bk_w cy bk ar b0 b1 b2 8 sa sc sn) ++ kW (cl_v u1 bk p1) cy (f_X1_clear pl_s 30)) A s H locs := h
  refine lv_aload_n hx hb dX6_init_30 rfl (lv_at hl 0 rfl) ?_
  refine n_new S h (ci := 1) (fs := [.null, .null, .null, .int 0, .null, .null, .int 0, .null, .null, .int 0, .int 0, .int 0]) tyX1 tyX1_ok in1 (by decide +kernel) (by decide +kernel) (by decide +kernel) rfl (fun j hj => by rcases (show j = 0 ∨ j = 1 ∨ j = 2 ∨ j = 3 ∨ j = 4 ∨ j = 5 ∨ j = 6 ∨ j = 7 ∨ j = 8 ∨ j = 9 ∨ j = 10 ∨ j = 11 by omega) with rfl | rfl | rfl | rfl | rfl | rfl | rfl | rfl | rfl | rfl | rfl | rfl <;> rfl) (Nat.le_of_ble_eq_true rfl) (Nat.le_of_ble_eq_true rfl) dX6_init_31 (fun p2 H h => ?_)
  refine lv_dup hx hb dX6_init_34 rfl ?_
  refine lv_aload_n hx hb dX6_init_35 rfl (lv_at hl 0 rfl) ?_
  refine n_get S h 0 in6 (show _ = some (a, _) from rfl) rfl (k := 0) (by decide) (by decide +kernel) rfl dX6_init_36 ?_
  refine n_callI S h (fun hA hD => n_X1_init l D cy _ A _ _ bk hA hD) ⟨callB_of 1 hts gX6_init_X1_init rfl rfl rfl (hts _ (show Cond.initialized RX1 ∈ wsX6_init by decide +kernel)) (hts _ (show Cond.methodLink RX6 18 yX1_init ∈ wsX6_init by decide +kernel)) (by decide +kernel) ⟨(Nat.le_of_ble_eq_true rfl), (Nat.le_of_ble_eq_true rfl)⟩, rfl, hts _ (show Cond.instanceMethod yX1_init ∈ wsX6_init by decide +kernel)⟩ rfl hl.1 rfl (Nat.le_of_ble_eq_true rfl) dX6_init_39 ⟨(Nat.le_of_ble_eq_true rfl), (Nat.le_of_ble_eq_true rfl)⟩ (fun u2 H locs h => ?_)
  refine n_putF S h 0 tyX6 tyX6_ok nmX6 in6 (show _ = some (a, _) from rfl) rfl (k := 2) (by decide) (by decide +kernel) rfl hmi rfl (ty := .object RX1) rfl rfl rfl (Nat.le_of_ble_eq_true rfl) dX6_init_42 (fun H locs h => ?_)
  have h : nH D cy X (cl_w cy (f_X1_clear pl_s 30) a bk ar b0 b1 b2 sa sc sn u1 u2 p1 p2) A s H locs := h
  obtain ⟨hP, hS, hK, hN, hD2, hA2⟩ := h
  have hc := cl_P hP hD2
  exact n_ret S ⟨hc.1, hS, hK, hN, hc.2, hA2⟩ hr hlocks (bk, ar, b0, b1, b2, sa, sc, sn, cl_v u1 bk p1, cl_v u2 bk p2) rfl dX6_init_45
