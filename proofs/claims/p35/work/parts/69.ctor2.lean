theorem n_len3 {k : Nat} {f : Nat → va_W} (h : ∀ t, (f t).length = 3) : ((List.range k).flatMap f).length = 3 * k := by
  induction k with
  | zero => rfl
  | succ k ih => rw [List.range_succ, List.flatMap_append, List.length_append, ih]; simp [h]; omega
theorem n_fm {k : Nat} {f g : Nat → va_W} (h : ∀ t, t < k → f t = g t) : (List.range k).flatMap f = (List.range k).flatMap g := by
  induction k with
  | zero => rfl
  | succ k ih => rw [List.range_succ, List.flatMap_append, List.flatMap_append, ih (fun t ht => h t (by omega))]; simp [h k (by omega)]
theorem n_fs {k : Nat} {f : Nat → va_W} : (List.range (k + 1)).flatMap f = (List.range k).flatMap f ++ f k := by
  rw [List.range_succ, List.flatMap_append]; simp
/-- the book while its scripts are made: k of them are there -/
def bk_f (k : Nat) (sa : Nat → Nat) : Nat → Option Nat := fun t => if t < k then some (sa t) else none
def bk_w (cy : Nat → ClassId) (a ar b0 b1 b2 k : Nat) (sa sc sn : Nat → Nat) : va_W :=
  [(a, .inr (0, [.ref ar, .ref b0, .int 0])), (ar, .inl (cy 1, 8, .inr (.inr (.inr (.inr (bk_f k sa)))))), (b0, .inr (3, [.ref b1, .ref b2, .int 0])), (b1, .inl (cy 0, 12, .inl (fun _ => 0))), (b2, .inl (cy 0, 12, .inl (fun _ => 0)))] ++ (List.range k).flatMap (fun t => n_script cy (sa t) (sc t) (sn t))
theorem bk_f_up {k : Nat} {sa : Nat → Nat} {q : Nat} : va_up (bk_f k sa) k (some q) = bk_f (k + 1) (va_up sa k q) := by
  funext t
  unfold bk_f va_up
  by_cases h : t = k
  · subst h; simp
  · by_cases h2 : t < k
    · simp [h, h2, Nat.lt_succ_of_lt h2]
    · have h3 : ¬ t < k + 1 := by omega
      simp [h, h2, h3]
theorem bk_len {cy : Nat → ClassId} {a ar b0 b1 b2 k : Nat} {sa sc sn : Nat → Nat} : (bk_w cy a ar b0 b1 b2 k sa sc sn).length = 5 + 3 * k := by
  unfold bk_w
  rw [List.length_append, n_len3 (fun _ => rfl)]
  rfl
theorem bk_step {cy : Nat → ClassId} {a ar b0 b1 b2 k : Nat} {sa sc sn : Nat → Nat} {q c d : Nat} :
    (bk_w cy a ar b0 b1 b2 k sa sc sn ++ n_script cy q c d).set 1 (ar, .inl (cy 1, 8, .inr (.inr (.inr (.inr (va_up (bk_f k sa) k (some q))))))) = bk_w cy a ar b0 b1 b2 (k + 1) (va_up sa k q) (va_up sc k c) (va_up sn k d) := by
  rw [bk_f_up]
  have e : (List.range k).flatMap (fun t => n_script cy (va_up sa k q t) (va_up sc k c t) (va_up sn k d t)) = (List.range k).flatMap (fun t => n_script cy (sa t) (sc t) (sn t)) := n_fm (fun t ht => by
    have h : t ≠ k := by omega
    simp only [va_up, if_neg h])
  have e2 : n_script cy (va_up sa k q k) (va_up sc k c k) (va_up sn k d k) = n_script cy q c d := by simp [va_up]
  unfold bk_w
  rw [n_fs, e2, e, List.append_assoc]
  rfl
theorem bk_at1 {cy : Nat → ClassId} {a ar b0 b1 b2 k : Nat} {sa sc sn : Nat → Nat} {w : va_W} : (bk_w cy a ar b0 b1 b2 k sa sc sn ++ w)[1]? = some (ar, .inl (cy 1, 8, .inr (.inr (.inr (.inr (bk_f k sa)))))) := rfl
theorem bk_at0 {cy : Nat → ClassId} {a ar b0 b1 b2 k : Nat} {sa sc sn : Nat → Nat} : (bk_w cy a ar b0 b1 b2 k sa sc sn)[0]? = some (a, .inr (0, [.ref ar, .ref b0, .int 0])) := rfl
theorem n_last {ws w : va_W} {c : Nat × va_E} (h : w[0]? = some c) : (ws ++ w)[ws.length]? = some c := by
  rw [List.getElem?_append_right (Nat.le_refl _), Nat.sub_self]; exact h
set_option maxHeartbeats 8000000 in
set_option maxRecDepth 100000 in
/-- Book() -/
theorem n_X0_init (l : Launch) (D : va_G) (cy : Nat → ClassId) (X : va_W) (A : Nat → Prop) (sz a : Nat)  (hA : ∀ q, sz ≤ q → A q) (hD : va_D A (X ++ [(a, .inr (0, [.null, .null, .int 0]))])) : nM l yX0_init wsX0_init { frames := 2, cells := 28, slots := 251, locals := 32 } D cy X [(a, .inr (0, [.null, .null, .int 0]))] A sz [.ref a] (fun u : Nat × Nat × Nat × Nat × (Nat → Nat) × (Nat → Nat) × (Nat → Nat) => bk_w cy a u.1 u.2.1 u.2.2.1 u.2.2.2.1 8 u.2.2.2.2.1 u.2.2.2.2.2.1 u.2.2.2.2.2.2) 28 251 := by
  refine n_entry hA hD (cc := cX0_init) (maxL := 2) (by decide +kernel) rfl rfl (Nat.le_of_ble_eq_true rfl) ?_
  intro p e s m args below meth c ls B
  obtain ⟨S, hr, hlocks, hmi, h, hl⟩ := B
  have hx := S.1
  have hb := S.2.1
  have hts := S.2.2.2.2
  have hl : lv_has ls 2 [(0, .ref a)] := hl
  have in0 : ∀ w ∈ wsX00, w ∈ wsX0_init := by decide +kernel
  have in3 : ∀ w ∈ wsX30, w ∈ wsX0_init := by decide +kernel
  refine lv_aload_n hx hb dX0_init_0 rfl (lv_at hl 0 rfl) ?_
  refine W.objInit hx hb S.2.2.2.1 (hts (.methodLink RX0 3 objectInit) (by decide +kernel)) (hts (.instanceMethod objectInit) (by decide +kernel)) (hts (.code objectInit ⟨#[0xb1]⟩ 1 none) (by decide +kernel)) rfl (by rw [S.2.2.1]; exact hl.1) rfl dX0_init_1 (Nat.le_of_ble_eq_true rfl) (Nat.le_of_ble_eq_true rfl) ?_
  refine W.eq (g2 := F0 m 4 ls []) rfl ?_
  refine lv_aload_n hx hb dX0_init_4 rfl (lv_at hl 0 rfl) ?_
  refine lv_bipush (v := 8) hx hb dX0_init_5 (by decide) ?_
  refine n_newq S h (t0 := 1) h.2.2.2.1.2.2.1 rfl (by decide +kernel) (by decide) rfl (by decide) (Nat.le_of_ble_eq_true rfl) (Nat.le_of_ble_eq_true rfl) dX0_init_7 (fun ar H h => ?_)
  refine n_putF S h 0 tyX0 tyX0_ok nmX0 in0 rfl rfl (k := 0) (by decide) (by decide +kernel) rfl hmi rfl (ty := .array (.object RX3)) rfl rfl rfl (Nat.le_of_ble_eq_true rfl) dX0_init_10 (fun H locs h => ?_)
  refine lv_aload_n hx hb dX0_init_13 rfl (lv_at hl 0 rfl) ?_
  refine n_new S h (ci := 3) (fs := [.null, .null, .int 0]) tyX3 tyX3_ok in3 (by decide +kernel) (by decide +kernel) (by decide +kernel) rfl (fun j hj => by rcases (show j = 0 ∨ j = 1 ∨ j = 2 by omega) with rfl | rfl | rfl <;> rfl) (Nat.le_of_ble_eq_true rfl) (Nat.le_of_ble_eq_true rfl) dX0_init_14 (fun b0 H h => ?_)
  refine lv_dup hx hb dX0_init_17 rfl ?_
  refine n_callN S h (fun hA hD => n_X3_init l D cy _ A _ _ hA hD) ⟨va_cnB 0 hts gX0_init_X3_init_n17 rfl rfl rfl h.2.2.2.1.2.1.1 (hts _ (show Cond.initialized RX3 ∈ wsX0_init by decide +kernel)) (by decide +kernel) ⟨(Nat.le_of_ble_eq_true rfl), (Nat.le_of_ble_eq_true rfl)⟩, rfl, hts _ (show Cond.instanceMethod yX3_init ∈ wsX0_init by decide +kernel)⟩ rfl hl.1 rfl (Nat.le_of_ble_eq_true rfl) dX0_init_18 ⟨(Nat.le_of_ble_eq_true rfl), (Nat.le_of_ble_eq_true rfl)⟩ (fun u H locs h => ?_)
  obtain ⟨b1, b2⟩ := u
  refine n_putF S h 0 tyX0 tyX0_ok nmX0 in0 rfl rfl (k := 1) (by decide) (by decide +kernel) rfl hmi rfl (ty := .object RX3) rfl rfl rfl (Nat.le_of_ble_eq_true rfl) dX0_init_21 (fun H locs h => ?_)
  have h : nH D cy X (bk_w cy a ar b0 b1 b2 0 (fun _ => 0) (fun _ => 0) (fun _ => 0)) A s H locs := h
  refine lv_iconst (v := 0) hx hb dX0_init_24 (by decide) ?_
  refine lv_istore_n (lv' := [(1, .int 0), (0, .ref a)]) hx hb dX0_init_25 rfl hl (by decide) rfl (fun ls hl => ?_)
  have loop : ∀ (n k : Nat) (x : Int32) (sa sc sn : Nat → Nat), k ≤ 8 → 8 < k + n → x = nI k → ∀ (H : Heap) (locs : List Loc) (ls : Array Slot), nH D cy X (bk_w cy a ar b0 b1 b2 k sa sc sn) A s H locs → lv_has ls 2 [(1, .int x), (0, .ref a)] → W p l e { frames := 2, cells := 28, slots := 251, locals := 32 } s m args below meth c H locs (4 + 3 * k) (35 + 27 * k) (MQ below (va_Qv (fun (_ : Nat × Nat × Nat × Nat × (Nat → Nat) × (Nat → Nat) × (Nat → Nat)) => True) (fun u t => va_P D vwCl (X ++ bk_w cy a u.1 u.2.1 u.2.2.1 u.2.2.2.1 8 u.2.2.2.2.1 u.2.2.2.2.2.1 u.2.2.2.2.2.2) t.heap ∧ va_D A (X ++ bk_w cy a u.1 u.2.1 u.2.2.1 u.2.2.2.1 8 u.2.2.2.2.1 u.2.2.2.2.2.1 u.2.2.2.2.2.2)) A) args s 28 251 A) (F0 m 26 ls []) := by
    intro n
    induction n with
    | zero => intros; omega
    | succ n ih =>
      intro k x sa sc sn hk hn ex H locs ls h hl
      refine lv_iload_n hx hb dX0_init_26 rfl (lv_at hl 0 rfl) ?_
      refine lv_bipush (v := 8) hx hb dX0_init_27 (by decide) ?_
      refine lv_icmp_ge (tgt := 51) hx hb dX0_init_29 (by decide) (fun c1 => ?_) (fun c1 => ?_)
      · have q := g_ge ex (M := 8) (n := 8) rfl (by omega) (by omega) c1
        obtain rfl : k = 8 := (by omega)
        exact n_ret S h hr hlocks (ar, b0, b1, b2, sa, sc, sn) rfl dX0_init_51
      · have hlt := g_lt ex (M := 8) (n := 8) rfl (by omega) (by omega) c1
        refine lv_aload_n hx hb dX0_init_32 rfl (lv_at hl 1 rfl) ?_
        refine n_get S h 0 in0 bk_at0 rfl (k := 0) (by decide) (by decide +kernel) rfl dX0_init_33 ?_
        refine lv_iload_n hx hb dX0_init_36 rfl (lv_at hl 0 rfl) ?_
        refine n_new S h (ci := 3) (fs := [.null, .null, .int 0]) tyX3 tyX3_ok in3 (by decide +kernel) (by decide +kernel) (by decide +kernel) rfl (fun j hj => by rcases (show j = 0 ∨ j = 1 ∨ j = 2 by omega) with rfl | rfl | rfl <;> rfl) (by show 4 + 3 * k + 1 ≤ 28; omega) (by show 35 + 27 * k + 3 ≤ 251; omega) dX0_init_37 (fun q H h => ?_)
        refine lv_dup hx hb dX0_init_40 rfl ?_
        refine n_callN S h (fun hA hD => n_X3_init l D cy _ A _ _ hA hD) ⟨va_cnB 0 hts gX0_init_X3_init_n17 rfl rfl rfl h.2.2.2.1.2.1.1 (hts _ (show Cond.initialized RX3 ∈ wsX0_init by decide +kernel)) (by decide +kernel) ⟨(Nat.le_of_ble_eq_true rfl), (Nat.le_of_ble_eq_true rfl)⟩, rfl, hts _ (show Cond.instanceMethod yX3_init ∈ wsX0_init by decide +kernel)⟩ rfl hl.1 rfl (Nat.le_of_ble_eq_true rfl) dX0_init_41 ⟨by show 4 + 3 * k + 1 + 2 ≤ 28; omega, by show 35 + 27 * k + 3 + 24 ≤ 251; omega⟩ (fun u H locs h => ?_)
        obtain ⟨c0, d0⟩ := u
        refine n_astq S h 1 (bk_w cy a ar b0 b1 b2 k sa sc sn).length bk_at1 (n_last rfl) rfl rfl (g_in ex hlt (by omega)) dX0_init_44 (fun H locs h => ?_)
        rw [g_cl ex (by omega), bk_step] at h
        obtain ⟨x2, ex2⟩ : ∃ zz : Int32, zz = x + 1 := ⟨_, rfl⟩
        refine lv_iinc (v := x2) (lv' := [(1, .int x2), (0, .ref a)]) hx hb dX0_init_45 hl (k := 0) rfl (by rw [ex2]; rfl) (by decide) rfl (fun ls hl => ?_)
        refine lv_goto (tgt := 26) hx hb dX0_init_48 (by decide) ?_
        refine W.widen (k := 4 + 3 * (k + 1)) (n := 35 + 27 * (k + 1)) (by omega) (by omega) ?_
        exact ih (k + 1) x2 _ _ _ (by omega) (by omega) (g_s1 ex2 ex) _ _ ls h hl
  exact loop 9 0 0 _ _ _ (by omega) (by omega) rfl _ _ ls h hl
/-- a pool while its tasks and workers are made: k tasks, j workers are there -/
def pl_f (k : Nat) (at_ : Nat → Nat) : Nat → Option Nat := fun t => if t < k then some (at_ t) else none
def pl_w (cy : Nat → ClassId) (a bk ta bt wa w0 w1 w2 w3 w4 w5 co cn pr k j : Nat) (at_ : Nat → Nat) (wd : Nat → Nat → Nat) : va_W :=
  [(a, .inr (1, [.ref bk, .ref ta, .ref bt, .int 0, .ref wa, .ref w0, .int 0, .ref co, .ref pr, .int 0, .int 0, .int 0])), (ta, .inl (cy 2, 24, .inr (.inr (.inr (.inr (pl_f k at_)))))), (bt, .inr (4, [.int (-1), .int 0, .int 0, .int 0, .int 0, .int 0, .int 0, .int 0, .int 0, .int 0, .int 0])), (wa, .inl (cy 3, 5, .inr (.inr (.inr (.inr (pl_f j (fun w => wd w 0)))))))] ++ n_worker cy w0 w1 w2 w3 w4 w5 ++ n_row cy co cn ++ [(pr, .inl (cy 0, 6, .inl (fun _ => 0)))] ++ (List.range k).flatMap (fun t => n_task (at_ t) (nI t)) ++ (List.range j).flatMap (fun w => n_worker cy (wd w 0) (wd w 1) (wd w 2) (wd w 3) (wd w 4) (wd w 5))
theorem pl_f_up {k : Nat} {f : Nat → Nat} {q : Nat} : va_up (pl_f k f) k (some q) = pl_f (k + 1) (va_up f k q) := bk_f_up
theorem pl_t {cy : Nat → ClassId} {a bk ta bt wa w0 w1 w2 w3 w4 w5 co cn pr k : Nat} {at_ : Nat → Nat} {wd : Nat → Nat → Nat} {q : Nat} :
    (pl_w cy a bk ta bt wa w0 w1 w2 w3 w4 w5 co cn pr k 0 at_ wd ++ n_task q (nI k)).set 1 (ta, .inl (cy 2, 24, .inr (.inr (.inr (.inr (va_up (pl_f k at_) k (some q))))))) = pl_w cy a bk ta bt wa w0 w1 w2 w3 w4 w5 co cn pr (k + 1) 0 (va_up at_ k q) wd := by
  rw [pl_f_up]
  have e : (List.range k).flatMap (fun t => n_task (va_up at_ k q t) (nI t)) = (List.range k).flatMap (fun t => n_task (at_ t) (nI t)) := n_fm (fun t ht => by
    have h : t ≠ k := by omega
    simp only [va_up, if_neg h])
  have e2 : n_task (va_up at_ k q k) (nI k) = n_task q (nI k) := by simp [va_up]
  have z : ∀ f : Nat → va_W, (List.range 0).flatMap f = [] := fun _ => rfl
  unfold pl_w
  rw [n_fs, e2, e]
  simp only [z, List.append_nil, List.append_assoc]
  rfl
theorem pl_wk {cy : Nat → ClassId} {a bk ta bt wa w0 w1 w2 w3 w4 w5 co cn pr j : Nat} {at_ : Nat → Nat} {wd : Nat → Nat → Nat} {q0 q1 q2 q3 q4 q5 : Nat} :
    (pl_w cy a bk ta bt wa w0 w1 w2 w3 w4 w5 co cn pr 24 j at_ wd ++ n_worker cy q0 q1 q2 q3 q4 q5).set 3 (wa, .inl (cy 3, 5, .inr (.inr (.inr (.inr (va_up (pl_f j (fun w => wd w 0)) j (some q0))))))) = pl_w cy a bk ta bt wa w0 w1 w2 w3 w4 w5 co cn pr 24 (j + 1) at_ (va_up wd j (fun i => if i = 0 then q0 else if i = 1 then q1 else if i = 2 then q2 else if i = 3 then q3 else if i = 4 then q4 else q5)) := by
  have e : va_up (pl_f j (fun w => wd w 0)) j (some q0) = pl_f (j + 1) (fun w => va_up wd j (fun i => if i = 0 then q0 else if i = 1 then q1 else if i = 2 then q2 else if i = 3 then q3 else if i = 4 then q4 else q5) w 0) := by
    rw [pl_f_up]
    congr 1
    funext w
    unfold va_up
    by_cases h : w = j
    · simp [h]
    · simp [h]
  have e3 : (List.range j).flatMap (fun w => n_worker cy (va_up wd j (fun i => if i = 0 then q0 else if i = 1 then q1 else if i = 2 then q2 else if i = 3 then q3 else if i = 4 then q4 else q5) w 0) (va_up wd j (fun i => if i = 0 then q0 else if i = 1 then q1 else if i = 2 then q2 else if i = 3 then q3 else if i = 4 then q4 else q5) w 1) (va_up wd j (fun i => if i = 0 then q0 else if i = 1 then q1 else if i = 2 then q2 else if i = 3 then q3 else if i = 4 then q4 else q5) w 2) (va_up wd j (fun i => if i = 0 then q0 else if i = 1 then q1 else if i = 2 then q2 else if i = 3 then q3 else if i = 4 then q4 else q5) w 3) (va_up wd j (fun i => if i = 0 then q0 else if i = 1 then q1 else if i = 2 then q2 else if i = 3 then q3 else if i = 4 then q4 else q5) w 4) (va_up wd j (fun i => if i = 0 then q0 else if i = 1 then q1 else if i = 2 then q2 else if i = 3 then q3 else if i = 4 then q4 else q5) w 5)) = (List.range j).flatMap (fun w => n_worker cy (wd w 0) (wd w 1) (wd w 2) (wd w 3) (wd w 4) (wd w 5)) := n_fm (fun t ht => by
    have h : t ≠ j := by omega
    simp only [va_up, if_neg h])
  have e2 : n_worker cy (va_up wd j (fun i => if i = 0 then q0 else if i = 1 then q1 else if i = 2 then q2 else if i = 3 then q3 else if i = 4 then q4 else q5) j 0) (va_up wd j (fun i => if i = 0 then q0 else if i = 1 then q1 else if i = 2 then q2 else if i = 3 then q3 else if i = 4 then q4 else q5) j 1) (va_up wd j (fun i => if i = 0 then q0 else if i = 1 then q1 else if i = 2 then q2 else if i = 3 then q3 else if i = 4 then q4 else q5) j 2) (va_up wd j (fun i => if i = 0 then q0 else if i = 1 then q1 else if i = 2 then q2 else if i = 3 then q3 else if i = 4 then q4 else q5) j 3) (va_up wd j (fun i => if i = 0 then q0 else if i = 1 then q1 else if i = 2 then q2 else if i = 3 then q3 else if i = 4 then q4 else q5) j 4) (va_up wd j (fun i => if i = 0 then q0 else if i = 1 then q1 else if i = 2 then q2 else if i = 3 then q3 else if i = 4 then q4 else q5) j 5) = n_worker cy q0 q1 q2 q3 q4 q5 := by simp [va_up]
  rw [e]
  unfold pl_w
  rw [n_fs (k := j), e2, e3]
  simp only [List.append_assoc]
  rfl
