/-! THE POOL's CELLS, IN THEIR ORDER: what its constructor has made is the world of indices 30 .. 96. -/
theorem n_arr {D : va_G} {cl : List vw_C} {A : Nat → Prop} {ws : va_W} {H : Heap} {k0 a n : Nat} {cA : ClassId} {f g : Nat → Option Nat} (h : va_P D cl ws H) (hD : va_D A ws) (he : ws[k0]? = some (a, .inl (cA, n, .inr (.inr (.inr (.inr f)))))) (hfg : ∀ j, j < n → f j = g j) :
    va_P D cl (ws.set k0 (a, .inl (cA, n, .inr (.inr (.inr (.inr g)))))) H ∧ va_D A (ws.set k0 (a, .inl (cA, n, .inr (.inr (.inr (.inr g)))))) := by
  refine ⟨h.set hD he ?_ (fun _ _ => rfl), hD.set he⟩
  have h1 : H[a]? = some (vp_cell cA (n, .inr (.inr (.inr (.inr f))))) := h k0 _ he
  show H[a]? = some (vp_cell cA (n, .inr (.inr (.inr (.inr g)))))
  rw [h1]
  congr 1
  rw [vp_cell_q, vp_cell_q]
  unfold arrV
  congr 2
  funext j
  show va_rf (f j.val) = va_rf (g j.val)
  rw [hfg j.val j.isLt]
def pl_s : gSt := fun i => if i = 32 then (fun k => if k = 0 then -1 else 0) else if 43 ≤ i ∧ i < 67 then (fun k => if k = 0 then nI (i - 43) else 0) else (fun _ => 0)
def pl_L (a bk ta bt wa w0 w1 w2 w3 w4 w5 co cn pr : Nat) (at_ : Nat → Nat) (wd : Nat → Nat → Nat) : Nat → Nat := fun i =>
  if i = 1 then bk else if i = 30 then a else if i = 31 then ta else if i = 32 then bt else if i = 33 then wa else if i = 34 then w0 else if i = 35 then w1 else if i = 36 then w2 else if i = 37 then w3 else if i = 38 then w4 else if i = 39 then w5 else if i = 40 then co else if i = 41 then cn else if i = 42 then pr else if i < 67 then at_ (i - 43) else wd ((i - 67) / 6) ((i - 67) % 6)
set_option maxRecDepth 100000 in
set_option maxHeartbeats 8000000 in
theorem pl_kW (cy : Nat → ClassId) (a bk ta bt wa w0 w1 w2 w3 w4 w5 co cn pr : Nat) (at_ : Nat → Nat) (wd : Nat → Nat → Nat) :
    ((pl_w cy a bk ta bt wa w0 w1 w2 w3 w4 w5 co cn pr 24 5 at_ wd).set 1 (ta, .inl (cy 2, 24, .inr (.inr (.inr (.inr (fun j => some (pl_L a bk ta bt wa w0 w1 w2 w3 w4 w5 co cn pr at_ wd (31 + 12 + j))))))))).set 3 (wa, .inl (cy 3, 5, .inr (.inr (.inr (.inr (fun j => some (pl_L a bk ta bt wa w0 w1 w2 w3 w4 w5 co cn pr at_ wd (33 + 34 + 6 * j))))))))
      = kW (pl_L a bk ta bt wa w0 w1 w2 w3 w4 w5 co cn pr at_ wd) cy pl_s := by
  rfl
theorem pl_at (a bk ta bt wa w0 w1 w2 w3 w4 w5 co cn pr : Nat) (at_ : Nat → Nat) (wd : Nat → Nat → Nat) (j : Nat) (hj : j < 24) : pl_f 24 at_ j = some (pl_L a bk ta bt wa w0 w1 w2 w3 w4 w5 co cn pr at_ wd (31 + 12 + j)) := by
  unfold pl_f pl_L
  rw [if_pos hj]
  repeat rw [if_neg (by omega)]
  rw [if_pos (by omega)]
  congr 2
  omega
theorem pl_wd (a bk ta bt wa w0 w1 w2 w3 w4 w5 co cn pr : Nat) (at_ : Nat → Nat) (wd : Nat → Nat → Nat) (j : Nat) (hj : j < 5) : pl_f 5 (fun w => wd w 0) j = some (pl_L a bk ta bt wa w0 w1 w2 w3 w4 w5 co cn pr at_ wd (33 + 34 + 6 * j)) := by
  unfold pl_f pl_L
  rw [if_pos hj]
  repeat rw [if_neg (by omega)]
  show some (wd j 0) = some (wd ((33 + 34 + 6 * j - 67) / 6) ((33 + 34 + 6 * j - 67) % 6))
  rw [show (33 + 34 + 6 * j - 67) / 6 = j by omega, show (33 + 34 + 6 * j - 67) % 6 = 0 by omega]
theorem pl_P {D : va_G} {A : Nat → Prop} {X : va_W} {H : Heap} {cy : Nat → ClassId} {a bk ta bt wa w0 w1 w2 w3 w4 w5 co cn pr : Nat} {at_ : Nat → Nat} {wd : Nat → Nat → Nat} (h : va_P D vwCl (X ++ pl_w cy a bk ta bt wa w0 w1 w2 w3 w4 w5 co cn pr 24 5 at_ wd) H) (hD : va_D A (X ++ pl_w cy a bk ta bt wa w0 w1 w2 w3 w4 w5 co cn pr 24 5 at_ wd)) :
    va_P D vwCl (X ++ kW (pl_L a bk ta bt wa w0 w1 w2 w3 w4 w5 co cn pr at_ wd) cy pl_s) H ∧ va_D A (X ++ kW (pl_L a bk ta bt wa w0 w1 w2 w3 w4 w5 co cn pr at_ wd) cy pl_s) := by
  obtain ⟨h1, hD1⟩ := n_arr (k0 := X.length + 1) h hD (by rw [n_at]; rfl) (pl_at a bk ta bt wa w0 w1 w2 w3 w4 w5 co cn pr at_ wd)
  rw [n_set] at h1 hD1
  obtain ⟨h2, hD2⟩ := n_arr (k0 := X.length + 3) h1 hD1 (by rw [n_at]; rfl) (pl_wd a bk ta bt wa w0 w1 w2 w3 w4 w5 co cn pr at_ wd)
  rw [n_set] at h2 hD2
  rw [pl_kW] at h2 hD2
  exact ⟨h2, hD2⟩
def cl_v (u : Nat → Nat) (bk a : Nat) : Nat → Nat := va_up (va_up u 1 bk) 30 a
theorem pl_up (a bk ta bt wa w0 w1 w2 w3 w4 w5 co cn pr : Nat) (at_ : Nat → Nat) (wd : Nat → Nat → Nat) : cl_v (pl_L a bk ta bt wa w0 w1 w2 w3 w4 w5 co cn pr at_ wd) bk a = pl_L a bk ta bt wa w0 w1 w2 w3 w4 w5 co cn pr at_ wd := by
  funext i
  unfold cl_v va_up
  by_cases h : i = 30
  · subst h; simp [pl_L]
  · rw [if_neg h]
    by_cases h1 : i = 1
    · subst h1; simp [pl_L]
    · rw [if_neg h1]
section PE
variable {p : Program} {l : Launch} {e : Env} {s : State} {m : MethodId} {args : Array Value} {below : List Frame} {meth : Method} {c : Code} {H : Heap} {locs : List Loc}
variable {D : va_G} {cy : Nat → ClassId} {X : va_W} {A : Nat → Prop} {ls : Array Slot}
/-- the end of the pool's constructor: clear(), return -/
theorem pl_end {a bk ta bt wa w0 w1 w2 w3 w4 w5 co cn pr fr lo : Nat} {at_ : Nat → Nat} {wd : Nat → Nat → Nat} (S : CallFix p m c cX1_init 3 s args wsX1_init RX1) (h : nH D cy X (pl_w cy a bk ta bt wa w0 w1 w2 w3 w4 w5 co cn pr 24 5 at_ wd) A s H locs) (hr : meth.sig.returnType = none) (hlocks : meth.locks = false) (hsize : ls.size = 3) (hfr : 4 ≤ fr) (hlo : 8 + (1 + 11) + 65 ≤ lo)
    (hd1 : decode cX1_init 123 = .ok (.invokevirtual 50, 3)) (hd2 : decode cX1_init 126 = .ok (.return_, 1)) :
    W p l e { frames := fr, cells := 66, slots := 804, locals := lo } s m args below meth c H locs (36 + 6 * 5) (414 + 78 * 5) (MQ below (va_Qv (fun (_ : Nat → Nat) => True) (fun u t => va_P D vwCl (X ++ kW (cl_v u bk a) cy (f_X1_clear pl_s 30)) t.heap ∧ va_D A (X ++ kW (cl_v u bk a) cy (f_X1_clear pl_s 30))) A) args s 66 804 A) (F0 m 123 ls [.ref a]) := by
  obtain ⟨hP, hS, hK, hN, hD, hA⟩ := h
  obtain ⟨hP2, hD2⟩ := pl_P hP hD
  have hk : kH D (pl_L a bk ta bt wa w0 w1 w2 w3 w4 w5 co cn pr at_ wd) cy X A pl_s s H locs := ⟨hP2, hS, hK, hN.1, fun st' => kW_D hD2 st'⟩
  have h30 : kkd 30 = 5 := by decide +kernel
  have hts := S.2.2.2.2
  refine k_callv (i := 30) (rest := []) S hk (ck_X1_clear l D _ cy X A _ hD2 h30) (cwV 0 hts gX1_init_X1_clear rfl rfl rfl (by decide +kernel) ⟨hfr, hlo⟩) (k_pre hk h30 (by decide) rfl rfl _) rfl hsize rfl (Nat.le_of_ble_eq_true rfl) hd1 ⟨Nat.le_of_ble_eq_true rfl, Nat.le_of_ble_eq_true rfl⟩ (fun H locs h => ?_)
  obtain ⟨hx, hb, -, -, -⟩ := S
  obtain ⟨hP3, hS3, -, -, hD3⟩ := h
  exact W.vret hx hb hr (fun t ht hW => ⟨⟨pl_L a bk ta bt wa w0 w1 w2 w3 w4 w5 co cn pr at_ wd, rfl, trivial, by show va_P D vwCl (X ++ kW (cl_v (pl_L a bk ta bt wa w0 w1 w2 w3 w4 w5 co cn pr at_ wd) bk a) cy (f_X1_clear pl_s 30)) t.heap; rw [ht, pl_up]; exact hP3, by show va_D A (X ++ kW (cl_v (pl_L a bk ta bt wa w0 w1 w2 w3 w4 w5 co cn pr at_ wd) bk a) cy (f_X1_clear pl_s 30)); rw [pl_up]; exact hD3 _⟩, hS3.F ht⟩) hS3.2.2 hd2 hlocks
end PE
