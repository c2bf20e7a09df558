/-! THE LAW'S CASES on the two new objects. -/
theorem l_ok {f : Nat → Int64} {r v : Int32} (h : r = v) : vp_updL f 0 r.toInt64 0 = v.toInt64 := by subst h; simp [vp_updL]
theorem l_tick {x : Int32} (h0 : ¬ x < 1) (h1 : ¬ 40 < x) : (f_X6_tick xs0 x).1 = 0 := by
  obtain ⟨r, a, b, rfl⟩ := r_of1 (M := 40) (by decide) h0 h1
  exact z_tick r (by omega) a
theorem l_haltsIn {x : Int32} (h0 : ¬ x < 1) (h1 : ¬ 60 < x) : (f_X6_haltsIn xs0 x).1 = -1 := by
  obtain ⟨r, a, b, rfl⟩ := r_of1 (M := 60) (by decide) h0 h1
  exact z_haltsIn r (by omega) a
theorem l_promise {x : Int32} (h0 : ¬ x < 0) (h1 : ¬ 5 < x) : f_X6_promise xs0 x = -1000000 := by
  obtain ⟨r, b, rfl⟩ := r_of0 (M := 5) (by decide) h0 h1
  exact z_promise r (by omega)
theorem l_told {x : Int32} (h0 : ¬ x < 0) (h1 : ¬ 2 < x) : f_X6_told xs0 0 x = 0 := by
  obtain ⟨r, b, rfl⟩ := r_of0 (M := 2) (by decide) h0 h1
  exact z_told r (by omega)
theorem l_ran {x : Int32} (h0 : ¬ x < 1) (h1 : ¬ 20 < x) : f_X6_ran xs0 0 x = -2 := by
  obtain ⟨r, a, b, rfl⟩ := r_of1 (M := 20) (by decide) h0 h1
  exact z_ran r (by omega) a
theorem l_keep {x y : Int32} (h0 : ¬ x < 0) (h1 : ¬ 5 < x) (h2 : ¬ y < (-999)) (h3 : ¬ 999 < y) : (f_X6_keep xs0 x y).1 = 1 := by
  obtain ⟨r, b, rfl⟩ := r_of0 (M := 5) (by decide) h0 h1
  exact z_keep (by omega) h2 h3
theorem l_not2 {x a b : Int32} (h0 : ¬ x < a) (h1 : ¬ b < x) : ¬ (x < a ∨ b < x) := fun q => q.elim h0 h1
theorem l_zero {x : Int32} (h0 : ¬ x < 0) (h1 : ¬ 0 < x) : x = 0 := Int32.toInt_inj.mp (by
  have a : ¬ x.toInt < (0 : Int32).toInt := fun q => h0 (Int32.lt_iff_toInt_lt.mpr q)
  have b : ¬ (0 : Int32).toInt < x.toInt := fun q => h1 (Int32.lt_iff_toInt_lt.mpr q)
  omega)
theorem l_ge {w : Int32} (h : ¬ w < 0) : (0 : Int32) ≤ w := Int32.not_lt.mp h
theorem l_row {x : Int32} (h : ¬ x = -1) (h0 : ¬ x = 0) : x < (-1) ∨ 0 < x := by
  rcases Int.lt_trichotomy x.toInt (-1) with q | q | q
  · exact Or.inl (Int32.lt_iff_toInt_lt.mpr q)
  · exact absurd (Int32.toInt_inj.mp q) h
  · refine Or.inr (Int32.lt_iff_toInt_lt.mpr ?_)
    have e0 : (0 : Int32).toInt = 0 := rfl
    have e : x.toInt ≠ 0 := fun q1 => h0 (Int32.toInt_inj.mp q1)
    omega
theorem l_row2 {x : Int32} (h : x < (-1) ∨ 0 < x) : x < 0 ∨ 0 < x := h.imp (fun q => Int32.lt_iff_toInt_lt.mpr (Int.lt_trans (Int32.lt_iff_toInt_lt.mp q) (by decide))) id
theorem z_inR0 : xs0 (f_row 30 0) 1 = 0 := by decide +kernel
theorem z_inRC : xs0 (f_row 30 (-1)) 1 = 0 := by decide +kernel
section LS
variable {p : Program} {l : Launch} {e : Env} {R : Room} {s : State} {m : MethodId} {args : Array Value} {below : List Frame} {meth : Method} {c : Code} {H : Heap} {locs : List Loc} {Q : State → Prop}
variable {D : va_G} {E : rEn} {L : Nat → Nat} {cg : Nat → ClassId} {cr : rC} {cl : ClassId} {o b : Nat} {xs : Nat → Int32} {f : Nat → Int64} {ls : Array Slot} {km ks kp kt kw kc kpr kwk kq kst ko kr kd : Nat}
set_option maxHeartbeats 4000000 in
set_option maxRecDepth 100000 in
theorem s_addJob (hl0 : l.stackTraces = false) (S : CallFix p m c cL_law 9 s args wsL_law RL) (hR : lR R) (hX : va_X b 4 xs s s.heap ∧ b < s.heap.size) (h : lH D E L cg cr cl o f xs0 (rW0 E cr km ks kp kt kw kc kpr kwk kq kst ko kr kd) s H locs) (hl : lv_has ls 9 [(4, .int 0), (3, .ref o), (2, .ref km), (1, .ref (L 0)), (0, .ref b)]) (K : lK p l e R s m args below meth c b Q) : W p l e R s m args below meth c H locs 1000 10000 Q (F0 m 180 ls []) := by
  have hD := h.2.2.2.2.2
  exact t_addJob S hR hX h hl (h_addJob l D L cg cl _ o _ f xs0 hD  _ _ (c_X6_addJob l D L cg _ _ xs0 hD z_addJob0)) ⟨rfl, rfl, Nat.le_of_ble_eq_true rfl, Nat.le_of_ble_eq_true rfl, Nat.le_of_ble_eq_true rfl, Nat.le_of_ble_eq_true rfl⟩ (k_addJob l D E cr _ _ km ks kp kt kw kc kpr kwk kq kst ko kr kd ) ⟨rfl, rfl, Nat.le_of_ble_eq_true rfl, Nat.le_of_ble_eq_true rfl, Nat.le_of_ble_eq_true rfl, Nat.le_of_ble_eq_true rfl⟩ (fun _ => l_ok z_addJob) K
set_option maxHeartbeats 4000000 in
set_option maxRecDepth 100000 in
theorem s_addStep (hl0 : l.stackTraces = false) (S : CallFix p m c cL_law 9 s args wsL_law RL) (hR : lR R) (hX : va_X b 4 xs s s.heap ∧ b < s.heap.size) (h : lH D E L cg cr cl o f xs0 (rW0 E cr km ks kp kt kw kc kpr kwk kq kst ko kr kd) s H locs) (hl : lv_has ls 9 [(4, .int 0), (3, .ref o), (2, .ref km), (1, .ref (L 0)), (0, .ref b)]) (K : lK p l e R s m args below meth c b Q) : W p l e R s m args below meth c H locs 1000 10000 Q (F0 m 224 ls []) := by
  have hD := h.2.2.2.2.2
  exact t_addStep S hR hX h hl (h_addStep_x1 l D L cg cl _ o _ f xs0 hD _ _ _ (x_addStep l hl0 D L cg _ _ xs0 hD _ _ _ (z_job _))) ⟨rfl, rfl, Nat.le_of_ble_eq_true rfl, Nat.le_of_ble_eq_true rfl, Nat.le_of_ble_eq_true rfl, Nat.le_of_ble_eq_true rfl⟩ (k_addStep l D E cr _ _ km ks kp kt kw kc kpr kwk kq kst ko kr kd _ _ _) ⟨rfl, rfl, Nat.le_of_ble_eq_true rfl, Nat.le_of_ble_eq_true rfl, Nat.le_of_ble_eq_true rfl, Nat.le_of_ble_eq_true rfl⟩ (fun c9 => absurd c9 (by decide)) K
set_option maxHeartbeats 4000000 in
set_option maxRecDepth 100000 in
theorem s_submit (hl0 : l.stackTraces = false) (S : CallFix p m c cL_law 9 s args wsL_law RL) (hR : lR R) (hX : va_X b 4 xs s s.heap ∧ b < s.heap.size) (h : lH D E L cg cr cl o f xs0 (rW0 E cr km ks kp kt kw kc kpr kwk kq kst ko kr kd) s H locs) (hl : lv_has ls 9 [(4, .int 0), (3, .ref o), (2, .ref km), (1, .ref (L 0)), (0, .ref b)]) (K : lK p l e R s m args below meth c b Q) : W p l e R s m args below meth c H locs 1000 10000 Q (F0 m 428 ls []) := by
  have hD := h.2.2.2.2.2
  exact t_submit S hR hX h hl (h_submit_x1 l D L cg cl _ o _ f xs0 hD _ (x_submit l hl0 D L cg _ _ xs0 hD _ (z_job _))) ⟨rfl, rfl, Nat.le_of_ble_eq_true rfl, Nat.le_of_ble_eq_true rfl, Nat.le_of_ble_eq_true rfl, Nat.le_of_ble_eq_true rfl⟩ (k_submit l D E cr _ _ km ks kp kt kw kc kpr kwk kq kst ko kr kd _) ⟨rfl, rfl, Nat.le_of_ble_eq_true rfl, Nat.le_of_ble_eq_true rfl, Nat.le_of_ble_eq_true rfl, Nat.le_of_ble_eq_true rfl⟩ (fun c9 => absurd c9 (by decide)) K
set_option maxHeartbeats 4000000 in
set_option maxRecDepth 100000 in
theorem s_alone (hl0 : l.stackTraces = false) (S : CallFix p m c cL_law 9 s args wsL_law RL) (hR : lR R) (hX : va_X b 4 xs s s.heap ∧ b < s.heap.size) (h : lH D E L cg cr cl o f xs0 (rW0 E cr km ks kp kt kw kc kpr kwk kq kst ko kr kd) s H locs) (hl : lv_has ls 9 [(4, .int 0), (3, .ref o), (2, .ref km), (1, .ref (L 0)), (0, .ref b)]) (K : lK p l e R s m args below meth c b Q) : W p l e R s m args below meth c H locs 1000 10000 Q (F0 m 1776 ls []) := by
  have hD := h.2.2.2.2.2
  exact t_alone S hR hX h hl (h_alone_x1 l D L cg cl _ o _ f xs0 hD _ _ _ (x_alone l hl0 D L cg _ _ xs0 hD _ _ _ (z_job _))) ⟨rfl, rfl, Nat.le_of_ble_eq_true rfl, Nat.le_of_ble_eq_true rfl, Nat.le_of_ble_eq_true rfl, Nat.le_of_ble_eq_true rfl⟩ (k_alone l D E cr _ _ km ks kp kt kw kc kpr kwk kq kst ko kr kd _ _ _) ⟨rfl, rfl, Nat.le_of_ble_eq_true rfl, Nat.le_of_ble_eq_true rfl, Nat.le_of_ble_eq_true rfl, Nat.le_of_ble_eq_true rfl⟩ (fun c9 => absurd c9 (by decide)) K
set_option maxHeartbeats 4000000 in
set_option maxRecDepth 100000 in
theorem s_cancel (hl0 : l.stackTraces = false) (S : CallFix p m c cL_law 9 s args wsL_law RL) (hR : lR R) (hX : va_X b 4 xs s s.heap ∧ b < s.heap.size) (h : lH D E L cg cr cl o f xs0 (rW0 E cr km ks kp kt kw kc kpr kwk kq kst ko kr kd) s H locs) (hl : lv_has ls 9 [(4, .int 0), (3, .ref o), (2, .ref km), (1, .ref (L 0)), (0, .ref b)]) (K : lK p l e R s m args below meth c b Q) : W p l e R s m args below meth c H locs 1000 10000 Q (F0 m 484 ls []) := by
  have hD := h.2.2.2.2.2
  exact t_cancel S hR hX h hl (h_cancel_x1 l D L cg cl _ o _ f xs0 hD _ (x_cancel l hl0 D L cg _ _ xs0 hD _ (z_task _))) ⟨rfl, rfl, Nat.le_of_ble_eq_true rfl, Nat.le_of_ble_eq_true rfl, Nat.le_of_ble_eq_true rfl, Nat.le_of_ble_eq_true rfl⟩ (k_cancel l D E cr _ _ km ks kp kt kw kc kpr kwk kq kst ko kr kd _) ⟨rfl, rfl, Nat.le_of_ble_eq_true rfl, Nat.le_of_ble_eq_true rfl, Nat.le_of_ble_eq_true rfl, Nat.le_of_ble_eq_true rfl⟩ (fun c9 => absurd c9 (by decide)) K
set_option maxHeartbeats 4000000 in
set_option maxRecDepth 100000 in
theorem s_stateOf (hl0 : l.stackTraces = false) (S : CallFix p m c cL_law 9 s args wsL_law RL) (hR : lR R) (hX : va_X b 4 xs s s.heap ∧ b < s.heap.size) (h : lH D E L cg cr cl o f xs0 (rW0 E cr km ks kp kt kw kc kpr kwk kq kst ko kr kd) s H locs) (hl : lv_has ls 9 [(4, .int 0), (3, .ref o), (2, .ref km), (1, .ref (L 0)), (0, .ref b)]) (K : lK p l e R s m args below meth c b Q) : W p l e R s m args below meth c H locs 1000 10000 Q (F0 m 697 ls []) := by
  have hD := h.2.2.2.2.2
  exact t_stateOf S hR hX h hl (h_stateOf_x1 l D L cg cl _ o _ f xs0 hD _ (x_stateOf l hl0 D L cg _ _ xs0 hD _ (z_task _))) ⟨rfl, rfl, Nat.le_of_ble_eq_true rfl, Nat.le_of_ble_eq_true rfl, Nat.le_of_ble_eq_true rfl, Nat.le_of_ble_eq_true rfl⟩ (k_stateOf l D E cr _ _ km ks kp kt kw kc kpr kwk kq kst ko kr kd _) ⟨rfl, rfl, Nat.le_of_ble_eq_true rfl, Nat.le_of_ble_eq_true rfl, Nat.le_of_ble_eq_true rfl, Nat.le_of_ble_eq_true rfl⟩ (fun c9 => absurd c9 (by decide)) K
set_option maxHeartbeats 4000000 in
set_option maxRecDepth 100000 in
theorem s_valueOf (hl0 : l.stackTraces = false) (S : CallFix p m c cL_law 9 s args wsL_law RL) (hR : lR R) (hX : va_X b 4 xs s s.heap ∧ b < s.heap.size) (h : lH D E L cg cr cl o f xs0 (rW0 E cr km ks kp kt kw kc kpr kwk kq kst ko kr kd) s H locs) (hl : lv_has ls 9 [(4, .int 0), (3, .ref o), (2, .ref km), (1, .ref (L 0)), (0, .ref b)]) (K : lK p l e R s m args below meth c b Q) : W p l e R s m args below meth c H locs 1000 10000 Q (F0 m 753 ls []) := by
  have hD := h.2.2.2.2.2
  exact t_valueOf S hR hX h hl (h_valueOf_x1 l D L cg cl _ o _ f xs0 hD _ (x_valueOf l hl0 D L cg _ _ xs0 hD _ (z_task _))) ⟨rfl, rfl, Nat.le_of_ble_eq_true rfl, Nat.le_of_ble_eq_true rfl, Nat.le_of_ble_eq_true rfl, Nat.le_of_ble_eq_true rfl⟩ (k_valueOf l D E cr _ _ km ks kp kt kw kc kpr kwk kq kst ko kr kd _) ⟨rfl, rfl, Nat.le_of_ble_eq_true rfl, Nat.le_of_ble_eq_true rfl, Nat.le_of_ble_eq_true rfl, Nat.le_of_ble_eq_true rfl⟩ (fun c9 => absurd c9 (by decide)) K
set_option maxHeartbeats 4000000 in
set_option maxRecDepth 100000 in
theorem s_stepOf (hl0 : l.stackTraces = false) (S : CallFix p m c cL_law 9 s args wsL_law RL) (hR : lR R) (hX : va_X b 4 xs s s.heap ∧ b < s.heap.size) (h : lH D E L cg cr cl o f xs0 (rW0 E cr km ks kp kt kw kc kpr kwk kq kst ko kr kd) s H locs) (hl : lv_has ls 9 [(4, .int 0), (3, .ref o), (2, .ref km), (1, .ref (L 0)), (0, .ref b)]) (K : lK p l e R s m args below meth c b Q) : W p l e R s m args below meth c H locs 1000 10000 Q (F0 m 809 ls []) := by
  have hD := h.2.2.2.2.2
  exact t_stepOf S hR hX h hl (h_stepOf_x1 l D L cg cl _ o _ f xs0 hD _ (x_stepOf l hl0 D L cg _ _ xs0 hD _ (z_task _))) ⟨rfl, rfl, Nat.le_of_ble_eq_true rfl, Nat.le_of_ble_eq_true rfl, Nat.le_of_ble_eq_true rfl, Nat.le_of_ble_eq_true rfl⟩ (k_stepOf l D E cr _ _ km ks kp kt kw kc kpr kwk kq kst ko kr kd _) ⟨rfl, rfl, Nat.le_of_ble_eq_true rfl, Nat.le_of_ble_eq_true rfl, Nat.le_of_ble_eq_true rfl, Nat.le_of_ble_eq_true rfl⟩ (fun c9 => absurd c9 (by decide)) K
set_option maxHeartbeats 4000000 in
set_option maxRecDepth 100000 in
theorem s_parentOf (hl0 : l.stackTraces = false) (S : CallFix p m c cL_law 9 s args wsL_law RL) (hR : lR R) (hX : va_X b 4 xs s s.heap ∧ b < s.heap.size) (h : lH D E L cg cr cl o f xs0 (rW0 E cr km ks kp kt kw kc kpr kwk kq kst ko kr kd) s H locs) (hl : lv_has ls 9 [(4, .int 0), (3, .ref o), (2, .ref km), (1, .ref (L 0)), (0, .ref b)]) (K : lK p l e R s m args below meth c b Q) : W p l e R s m args below meth c H locs 1000 10000 Q (F0 m 865 ls []) := by
  have hD := h.2.2.2.2.2
  exact t_parentOf S hR hX h hl (h_parentOf_x1 l D L cg cl _ o _ f xs0 hD _ (x_parentOf l hl0 D L cg _ _ xs0 hD _ (z_task _))) ⟨rfl, rfl, Nat.le_of_ble_eq_true rfl, Nat.le_of_ble_eq_true rfl, Nat.le_of_ble_eq_true rfl, Nat.le_of_ble_eq_true rfl⟩ (k_parentOf l D E cr _ _ km ks kp kt kw kc kpr kwk kq kst ko kr kd _) ⟨rfl, rfl, Nat.le_of_ble_eq_true rfl, Nat.le_of_ble_eq_true rfl, Nat.le_of_ble_eq_true rfl, Nat.le_of_ble_eq_true rfl⟩ (fun c9 => absurd c9 (by decide)) K
set_option maxHeartbeats 4000000 in
set_option maxRecDepth 100000 in
theorem s_childrenOf (hl0 : l.stackTraces = false) (S : CallFix p m c cL_law 9 s args wsL_law RL) (hR : lR R) (hX : va_X b 4 xs s s.heap ∧ b < s.heap.size) (h : lH D E L cg cr cl o f xs0 (rW0 E cr km ks kp kt kw kc kpr kwk kq kst ko kr kd) s H locs) (hl : lv_has ls 9 [(4, .int 0), (3, .ref o), (2, .ref km), (1, .ref (L 0)), (0, .ref b)]) (K : lK p l e R s m args below meth c b Q) : W p l e R s m args below meth c H locs 1000 10000 Q (F0 m 921 ls []) := by
  have hD := h.2.2.2.2.2
  exact t_childrenOf S hR hX h hl (h_childrenOf_x1 l D L cg cl _ o _ f xs0 hD _ (x_childrenOf l hl0 D L cg _ _ xs0 hD _ (z_task _))) ⟨rfl, rfl, Nat.le_of_ble_eq_true rfl, Nat.le_of_ble_eq_true rfl, Nat.le_of_ble_eq_true rfl, Nat.le_of_ble_eq_true rfl⟩ (k_childrenOf l D E cr _ _ km ks kp kt kw kc kpr kwk kq kst ko kr kd _) ⟨rfl, rfl, Nat.le_of_ble_eq_true rfl, Nat.le_of_ble_eq_true rfl, Nat.le_of_ble_eq_true rfl, Nat.le_of_ble_eq_true rfl⟩ (fun c9 => absurd c9 (by decide)) K
set_option maxHeartbeats 4000000 in
set_option maxRecDepth 100000 in
theorem s_workOf (hl0 : l.stackTraces = false) (S : CallFix p m c cL_law 9 s args wsL_law RL) (hR : lR R) (hX : va_X b 4 xs s s.heap ∧ b < s.heap.size) (h : lH D E L cg cr cl o f xs0 (rW0 E cr km ks kp kt kw kc kpr kwk kq kst ko kr kd) s H locs) (hl : lv_has ls 9 [(4, .int 0), (3, .ref o), (2, .ref km), (1, .ref (L 0)), (0, .ref b)]) (K : lK p l e R s m args below meth c b Q) : W p l e R s m args below meth c H locs 1000 10000 Q (F0 m 977 ls []) := by
  have hD := h.2.2.2.2.2
  exact t_workOf S hR hX h hl (h_workOf_x1 l D L cg cl _ o _ f xs0 hD _ (x_workOf l hl0 D L cg _ _ xs0 hD _ (z_task _))) ⟨rfl, rfl, Nat.le_of_ble_eq_true rfl, Nat.le_of_ble_eq_true rfl, Nat.le_of_ble_eq_true rfl, Nat.le_of_ble_eq_true rfl⟩ (k_workOf l D E cr _ _ km ks kp kt kw kc kpr kwk kq kst ko kr kd _) ⟨rfl, rfl, Nat.le_of_ble_eq_true rfl, Nat.le_of_ble_eq_true rfl, Nat.le_of_ble_eq_true rfl, Nat.le_of_ble_eq_true rfl⟩ (fun c9 => absurd c9 (by decide)) K
set_option maxHeartbeats 4000000 in
set_option maxRecDepth 100000 in
theorem s_overAt (hl0 : l.stackTraces = false) (S : CallFix p m c cL_law 9 s args wsL_law RL) (hR : lR R) (hX : va_X b 4 xs s s.heap ∧ b < s.heap.size) (h : lH D E L cg cr cl o f xs0 (rW0 E cr km ks kp kt kw kc kpr kwk kq kst ko kr kd) s H locs) (hl : lv_has ls 9 [(4, .int 0), (3, .ref o), (2, .ref km), (1, .ref (L 0)), (0, .ref b)]) (K : lK p l e R s m args below meth c b Q) : W p l e R s m args below meth c H locs 1000 10000 Q (F0 m 1033 ls []) := by
  have hD := h.2.2.2.2.2
  exact t_overAt S hR hX h hl (h_overAt_x1 l D L cg cl _ o _ f xs0 hD _ (x_overAt l hl0 D L cg _ _ xs0 hD _ (z_task _))) ⟨rfl, rfl, Nat.le_of_ble_eq_true rfl, Nat.le_of_ble_eq_true rfl, Nat.le_of_ble_eq_true rfl, Nat.le_of_ble_eq_true rfl⟩ (k_overAt l D E cr _ _ km ks kp kt kw kc kpr kwk kq kst ko kr kd _) ⟨rfl, rfl, Nat.le_of_ble_eq_true rfl, Nat.le_of_ble_eq_true rfl, Nat.le_of_ble_eq_true rfl, Nat.le_of_ble_eq_true rfl⟩ (fun c9 => absurd c9 (by decide)) K
set_option maxHeartbeats 4000000 in
set_option maxRecDepth 100000 in
theorem s_overIn (hl0 : l.stackTraces = false) (S : CallFix p m c cL_law 9 s args wsL_law RL) (hR : lR R) (hX : va_X b 4 xs s s.heap ∧ b < s.heap.size) (h : lH D E L cg cr cl o f xs0 (rW0 E cr km ks kp kt kw kc kpr kwk kq kst ko kr kd) s H locs) (hl : lv_has ls 9 [(4, .int 0), (3, .ref o), (2, .ref km), (1, .ref (L 0)), (0, .ref b)]) (K : lK p l e R s m args below meth c b Q) : W p l e R s m args below meth c H locs 1000 10000 Q (F0 m 1584 ls []) := by
  have hD := h.2.2.2.2.2
  exact t_overIn S hR hX h hl (h_overIn_x1 l D L cg cl _ o _ f xs0 hD _ _ (x_overIn l hl0 D L cg _ _ xs0 hD _ _ (z_task _))) ⟨rfl, rfl, Nat.le_of_ble_eq_true rfl, Nat.le_of_ble_eq_true rfl, Nat.le_of_ble_eq_true rfl, Nat.le_of_ble_eq_true rfl⟩ (k_overIn l D E cr _ _ km ks kp kt kw kc kpr kwk kq kst ko kr kd _ _) ⟨rfl, rfl, Nat.le_of_ble_eq_true rfl, Nat.le_of_ble_eq_true rfl, Nat.le_of_ble_eq_true rfl, Nat.le_of_ble_eq_true rfl⟩ (fun c9 => absurd c9 (by decide)) K
set_option maxHeartbeats 4000000 in
set_option maxRecDepth 100000 in
theorem s_valueIn (hl0 : l.stackTraces = false) (S : CallFix p m c cL_law 9 s args wsL_law RL) (hR : lR R) (hX : va_X b 4 xs s s.heap ∧ b < s.heap.size) (h : lH D E L cg cr cl o f xs0 (rW0 E cr km ks kp kt kw kc kpr kwk kq kst ko kr kd) s H locs) (hl : lv_has ls 9 [(4, .int 0), (3, .ref o), (2, .ref km), (1, .ref (L 0)), (0, .ref b)]) (K : lK p l e R s m args below meth c b Q) : W p l e R s m args below meth c H locs 1000 10000 Q (F0 m 1652 ls []) := by
  have hD := h.2.2.2.2.2
  exact t_valueIn S hR hX h hl (h_valueIn_x1 l D L cg cl _ o _ f xs0 hD _ _ (x_valueIn l hl0 D L cg _ _ xs0 hD _ _ (z_task _))) ⟨rfl, rfl, Nat.le_of_ble_eq_true rfl, Nat.le_of_ble_eq_true rfl, Nat.le_of_ble_eq_true rfl, Nat.le_of_ble_eq_true rfl⟩ (k_valueIn l D E cr _ _ km ks kp kt kw kc kpr kwk kq kst ko kr kd _ _) ⟨rfl, rfl, Nat.le_of_ble_eq_true rfl, Nat.le_of_ble_eq_true rfl, Nat.le_of_ble_eq_true rfl, Nat.le_of_ble_eq_true rfl⟩ (fun c9 => absurd c9 (by decide)) K
set_option maxHeartbeats 4000000 in
set_option maxRecDepth 100000 in
theorem s_tick (hl0 : l.stackTraces = false) (S : CallFix p m c cL_law 9 s args wsL_law RL) (hR : lR R) (hX : va_X b 4 xs s s.heap ∧ b < s.heap.size) (h : lH D E L cg cr cl o f xs0 (rW0 E cr km ks kp kt kw kc kpr kwk kq kst ko kr kd) s H locs) (hl : lv_has ls 9 [(4, .int 0), (3, .ref o), (2, .ref km), (1, .ref (L 0)), (0, .ref b)]) (K : lK p l e R s m args below meth c b Q) : W p l e R s m args below meth c H locs 1000 10000 Q (F0 m 615 ls []) := by
  have hD := h.2.2.2.2.2
  by_cases hz : xs 1 < 1 ∨ 40 < xs 1
  · exact t_tick S hR hX h hl (h_tick_x1 l D L cg cl _ o _ f xs0 hD _ (x_tick l hl0 D L cg _ _ xs0 hD _ hz)) ⟨rfl, rfl, Nat.le_of_ble_eq_true rfl, Nat.le_of_ble_eq_true rfl, Nat.le_of_ble_eq_true rfl, Nat.le_of_ble_eq_true rfl⟩ (k_tick1 l D E cr _ _ km ks kp kt kw kc kpr kwk kq kst ko kr kd _ hz) ⟨rfl, rfl, Nat.le_of_ble_eq_true rfl, Nat.le_of_ble_eq_true rfl, Nat.le_of_ble_eq_true rfl, Nat.le_of_ble_eq_true rfl⟩ (fun c9 => absurd c9 (by decide)) K
  · have z0 : ¬ xs 1 < 1 := fun q => hz (Or.inl q)
    have z1 : ¬ (40 : Int32) < xs 1 := fun q => hz (Or.inr q)
    exact t_tick S hR hX h hl (h_tick l D L cg cl _ o _ f xs0 hD _ _ _ (c_X6_tick l D L cg _ _ xs0 hD _ z0 (Int32.not_lt.mp z1))) ⟨rfl, rfl, Nat.le_of_ble_eq_true rfl, Nat.le_of_ble_eq_true rfl, Nat.le_of_ble_eq_true rfl, Nat.le_of_ble_eq_true rfl⟩ (k_tick0 l D E cr _ _ km ks kp kt kw kc kpr kwk kq kst ko kr kd _ z0 z1) ⟨rfl, rfl, Nat.le_of_ble_eq_true rfl, Nat.le_of_ble_eq_true rfl, Nat.le_of_ble_eq_true rfl, Nat.le_of_ble_eq_true rfl⟩ (fun _ => l_ok (l_tick z0 z1)) K
set_option maxHeartbeats 4000000 in
set_option maxRecDepth 100000 in
theorem s_haltsIn (hl0 : l.stackTraces = false) (S : CallFix p m c cL_law 9 s args wsL_law RL) (hR : lR R) (hX : va_X b 4 xs s s.heap ∧ b < s.heap.size) (h : lH D E L cg cr cl o f xs0 (rW0 E cr km ks kp kt kw kc kpr kwk kq kst ko kr kd) s H locs) (hl : lv_has ls 9 [(4, .int 0), (3, .ref o), (2, .ref km), (1, .ref (L 0)), (0, .ref b)]) (K : lK p l e R s m args below meth c b Q) : W p l e R s m args below meth c H locs 1000 10000 Q (F0 m 1720 ls []) := by
  have hD := h.2.2.2.2.2
  by_cases hz : xs 1 < 1 ∨ 60 < xs 1
  · exact t_haltsIn S hR hX h hl (h_haltsIn_x1 l D L cg cl _ o _ f xs0 hD _ (x_haltsIn l hl0 D L cg _ _ xs0 hD _ hz)) ⟨rfl, rfl, Nat.le_of_ble_eq_true rfl, Nat.le_of_ble_eq_true rfl, Nat.le_of_ble_eq_true rfl, Nat.le_of_ble_eq_true rfl⟩ (k_haltsIn1 l D E cr _ _ km ks kp kt kw kc kpr kwk kq kst ko kr kd _ hz) ⟨rfl, rfl, Nat.le_of_ble_eq_true rfl, Nat.le_of_ble_eq_true rfl, Nat.le_of_ble_eq_true rfl, Nat.le_of_ble_eq_true rfl⟩ (fun c9 => absurd c9 (by decide)) K
  · have z0 : ¬ xs 1 < 1 := fun q => hz (Or.inl q)
    have z1 : ¬ (60 : Int32) < xs 1 := fun q => hz (Or.inr q)
    exact t_haltsIn S hR hX h hl (h_haltsIn l D L cg cl _ o _ f xs0 hD _ _ _ (c_X6_haltsIn l D L cg _ _ xs0 hD _ z0 (Int32.not_lt.mp z1))) ⟨rfl, rfl, Nat.le_of_ble_eq_true rfl, Nat.le_of_ble_eq_true rfl, Nat.le_of_ble_eq_true rfl, Nat.le_of_ble_eq_true rfl⟩ (k_haltsIn0 l D E cr _ _ km ks kp kt kw kc kpr kwk kq kst ko kr kd _ z0 z1) ⟨rfl, rfl, Nat.le_of_ble_eq_true rfl, Nat.le_of_ble_eq_true rfl, Nat.le_of_ble_eq_true rfl, Nat.le_of_ble_eq_true rfl⟩ (fun _ => l_ok (l_haltsIn z0 z1)) K
set_option maxHeartbeats 4000000 in
set_option maxRecDepth 100000 in
theorem s_promise (hl0 : l.stackTraces = false) (S : CallFix p m c cL_law 9 s args wsL_law RL) (hR : lR R) (hX : va_X b 4 xs s s.heap ∧ b < s.heap.size) (h : lH D E L cg cr cl o f xs0 (rW0 E cr km ks kp kt kw kc kpr kwk kq kst ko kr kd) s H locs) (hl : lv_has ls 9 [(4, .int 0), (3, .ref o), (2, .ref km), (1, .ref (L 0)), (0, .ref b)]) (K : lK p l e R s m args below meth c b Q) : W p l e R s m args below meth c H locs 1000 10000 Q (F0 m 1089 ls []) := by
  have hD := h.2.2.2.2.2
  by_cases hz : xs 1 < 0 ∨ 5 < xs 1
  · exact t_promise S hR hX h hl (h_promise_x1 l D L cg cl _ o _ f xs0 hD _ (x_promise l hl0 D L cg _ _ xs0 hD _ (z_prom0 hz))) ⟨rfl, rfl, Nat.le_of_ble_eq_true rfl, Nat.le_of_ble_eq_true rfl, Nat.le_of_ble_eq_true rfl, Nat.le_of_ble_eq_true rfl⟩ (k_promise1 l D E cr _ _ km ks kp kt kw kc kpr kwk kq kst ko kr kd _ hz) ⟨rfl, rfl, Nat.le_of_ble_eq_true rfl, Nat.le_of_ble_eq_true rfl, Nat.le_of_ble_eq_true rfl, Nat.le_of_ble_eq_true rfl⟩ (fun c9 => absurd c9 (by decide)) K
  · have z0 : ¬ xs 1 < 0 := fun q => hz (Or.inl q)
    have z1 : ¬ (5 : Int32) < xs 1 := fun q => hz (Or.inr q)
    exact t_promise S hR hX h hl (h_promise l D L cg cl _ o _ f xs0 hD _ _ _ (c_X6_promise l D L cg _ _ xs0 hD _ (z_prom1 z0 z1))) ⟨rfl, rfl, Nat.le_of_ble_eq_true rfl, Nat.le_of_ble_eq_true rfl, Nat.le_of_ble_eq_true rfl, Nat.le_of_ble_eq_true rfl⟩ (k_promise0 l D E cr _ _ km ks kp kt kw kc kpr kwk kq kst ko kr kd _ z0 z1) ⟨rfl, rfl, Nat.le_of_ble_eq_true rfl, Nat.le_of_ble_eq_true rfl, Nat.le_of_ble_eq_true rfl, Nat.le_of_ble_eq_true rfl⟩ (fun _ => l_ok (l_promise z0 z1)) K
set_option maxHeartbeats 4000000 in
set_option maxRecDepth 100000 in
theorem s_top (hl0 : l.stackTraces = false) (S : CallFix p m c cL_law 9 s args wsL_law RL) (hR : lR R) (hX : va_X b 4 xs s s.heap ∧ b < s.heap.size) (h : lH D E L cg cr cl o f xs0 (rW0 E cr km ks kp kt kw kc kpr kwk kq kst ko kr kd) s H locs) (hl : lv_has ls 9 [(4, .int 0), (3, .ref o), (2, .ref km), (1, .ref (L 0)), (0, .ref b)]) (K : lK p l e R s m args below meth c b Q) : W p l e R s m args below meth c H locs 1000 10000 Q (F0 m 1158 ls []) := by
  have hD := h.2.2.2.2.2
  by_cases hz : xs 1 < 0 ∨ 0 < xs 1
  · exact t_top S hR hX h hl (h_top_x1 l D L cg cl _ o _ f xs0 hD _ (x_top l hl0 D L cg _ _ xs0 hD _ (z_worker hz))) ⟨rfl, rfl, Nat.le_of_ble_eq_true rfl, Nat.le_of_ble_eq_true rfl, Nat.le_of_ble_eq_true rfl, Nat.le_of_ble_eq_true rfl⟩ (k_top1 l D E cr _ _ km ks kp kt kw kc kpr kwk kq kst ko kr kd _ hz) ⟨rfl, rfl, Nat.le_of_ble_eq_true rfl, Nat.le_of_ble_eq_true rfl, Nat.le_of_ble_eq_true rfl, Nat.le_of_ble_eq_true rfl⟩ (fun c9 => absurd c9 (by decide)) K
  · have z0 : xs 1 = 0 := l_zero (fun q => hz (Or.inl q)) (fun q => hz (Or.inr q))
    refine t_top S hR hX h hl (h_top l D L cg cl _ o _ f xs0 hD _ (f_X6_top xs0 0) xs0 ?_) ⟨rfl, rfl, Nat.le_of_ble_eq_true rfl, Nat.le_of_ble_eq_true rfl, Nat.le_of_ble_eq_true rfl, Nat.le_of_ble_eq_true rfl⟩ (g := vp_updL f 0 (f_X6_top xs0 0).toInt64) (k := 0) (v := -1) (by rw [z0]; exact k_top0 l D E cr _ _ km ks kp kt kw kc kpr kwk kq kst ko kr kd) (by exact ⟨rfl, rfl, Nat.le_of_ble_eq_true rfl, Nat.le_of_ble_eq_true rfl, Nat.le_of_ble_eq_true rfl, Nat.le_of_ble_eq_true rfl⟩) (fun _ => l_ok z_top) K
    · rw [z0]; exact c_X6_top l D L cg _ _ xs0 hD _ (by decide) (by rw [z_workers]; decide)
set_option maxHeartbeats 4000000 in
set_option maxRecDepth 100000 in
theorem s_stack (hl0 : l.stackTraces = false) (S : CallFix p m c cL_law 9 s args wsL_law RL) (hR : lR R) (hX : va_X b 4 xs s s.heap ∧ b < s.heap.size) (h : lH D E L cg cr cl o f xs0 (rW0 E cr km ks kp kt kw kc kpr kwk kq kst ko kr kd) s H locs) (hl : lv_has ls 9 [(4, .int 0), (3, .ref o), (2, .ref km), (1, .ref (L 0)), (0, .ref b)]) (K : lK p l e R s m args below meth c b Q) : W p l e R s m args below meth c H locs 1000 10000 Q (F0 m 1214 ls []) := by
  have hD := h.2.2.2.2.2
  by_cases hz : xs 1 < 0 ∨ 0 < xs 1
  · exact t_stack S hR hX h hl (h_stack_x1 l D L cg cl _ o _ f xs0 hD _ (x_stack l hl0 D L cg _ _ xs0 hD _ (z_worker hz))) ⟨rfl, rfl, Nat.le_of_ble_eq_true rfl, Nat.le_of_ble_eq_true rfl, Nat.le_of_ble_eq_true rfl, Nat.le_of_ble_eq_true rfl⟩ (k_stack1 l D E cr _ _ km ks kp kt kw kc kpr kwk kq kst ko kr kd _ hz) ⟨rfl, rfl, Nat.le_of_ble_eq_true rfl, Nat.le_of_ble_eq_true rfl, Nat.le_of_ble_eq_true rfl, Nat.le_of_ble_eq_true rfl⟩ (fun c9 => absurd c9 (by decide)) K
  · have z0 : xs 1 = 0 := l_zero (fun q => hz (Or.inl q)) (fun q => hz (Or.inr q))
    refine t_stack S hR hX h hl (h_stack l D L cg cl _ o _ f xs0 hD _ (f_X6_stack xs0 0) xs0 ?_) ⟨rfl, rfl, Nat.le_of_ble_eq_true rfl, Nat.le_of_ble_eq_true rfl, Nat.le_of_ble_eq_true rfl, Nat.le_of_ble_eq_true rfl⟩ (g := vp_updL f 0 (f_X6_stack xs0 0).toInt64) (k := 0) (v := 0) (by rw [z0]; exact k_stack0 l D E cr _ _ km ks kp kt kw kc kpr kwk kq kst ko kr kd) (by exact ⟨rfl, rfl, Nat.le_of_ble_eq_true rfl, Nat.le_of_ble_eq_true rfl, Nat.le_of_ble_eq_true rfl, Nat.le_of_ble_eq_true rfl⟩) (fun _ => l_ok z_stack) K
    · rw [z0]; exact c_X6_stack l D L cg _ _ xs0 hD _ (by decide) (by rw [z_workers]; decide)
set_option maxHeartbeats 4000000 in
set_option maxRecDepth 100000 in
theorem s_row (hl0 : l.stackTraces = false) (S : CallFix p m c cL_law 9 s args wsL_law RL) (hR : lR R) (hX : va_X b 4 xs s s.heap ∧ b < s.heap.size) (h : lH D E L cg cr cl o f xs0 (rW0 E cr km ks kp kt kw kc kpr kwk kq kst ko kr kd) s H locs) (hl : lv_has ls 9 [(4, .int 0), (3, .ref o), (2, .ref km), (1, .ref (L 0)), (0, .ref b)]) (K : lK p l e R s m args below meth c b Q) : W p l e R s m args below meth c H locs 1000 10000 Q (F0 m 1270 ls []) := by
  have hD := h.2.2.2.2.2
  by_cases hC : xs 1 = -1
  · refine t_row S hR hX h hl (h_row l D L cg cl _ o _ f xs0 hD _ (f_X6_row xs0 (-1)) xs0 ?_) ⟨rfl, rfl, Nat.le_of_ble_eq_true rfl, Nat.le_of_ble_eq_true rfl, Nat.le_of_ble_eq_true rfl, Nat.le_of_ble_eq_true rfl⟩ (g := vp_updL f 0 (f_X6_row xs0 (-1)).toInt64) (k := 0) (v := 0) (by rw [hC]; exact k_rowC l D E cr _ _ km ks kp kt kw kc kpr kwk kq kst ko kr kd) (by exact ⟨rfl, rfl, Nat.le_of_ble_eq_true rfl, Nat.le_of_ble_eq_true rfl, Nat.le_of_ble_eq_true rfl, Nat.le_of_ble_eq_true rfl⟩) (fun _ => l_ok z_rowC) K
    · rw [hC]; exact c_X6_row l D L cg _ _ xs0 hD _ (fun q => absurd rfl q) (fun q => absurd rfl q)
  · by_cases h0 : xs 1 = 0
    · refine t_row S hR hX h hl (h_row l D L cg cl _ o _ f xs0 hD _ (f_X6_row xs0 0) xs0 ?_) ⟨rfl, rfl, Nat.le_of_ble_eq_true rfl, Nat.le_of_ble_eq_true rfl, Nat.le_of_ble_eq_true rfl, Nat.le_of_ble_eq_true rfl⟩ (g := vp_updL f 0 (f_X6_row xs0 0).toInt64) (k := 0) (v := 0) (by rw [h0]; exact k_row0 l D E cr _ _ km ks kp kt kw kc kpr kwk kq kst ko kr kd) (by exact ⟨rfl, rfl, Nat.le_of_ble_eq_true rfl, Nat.le_of_ble_eq_true rfl, Nat.le_of_ble_eq_true rfl, Nat.le_of_ble_eq_true rfl⟩) (fun _ => l_ok z_row0) K
      · rw [h0]; exact c_X6_row l D L cg _ _ xs0 hD _ (fun _ => by decide) (fun _ => by rw [z_workers]; decide)
    · have hz := l_row hC h0
      exact t_row S hR hX h hl (h_row_x1 l D L cg cl _ o _ f xs0 hD _ (x_row l hl0 D L cg _ _ xs0 hD _ hC (z_worker (l_row2 hz)))) ⟨rfl, rfl, Nat.le_of_ble_eq_true rfl, Nat.le_of_ble_eq_true rfl, Nat.le_of_ble_eq_true rfl, Nat.le_of_ble_eq_true rfl⟩ (k_row1 l D E cr _ _ km ks kp kt kw kc kpr kwk kq kst ko kr kd _ hz) ⟨rfl, rfl, Nat.le_of_ble_eq_true rfl, Nat.le_of_ble_eq_true rfl, Nat.le_of_ble_eq_true rfl, Nat.le_of_ble_eq_true rfl⟩ (fun c9 => absurd c9 (by decide)) K
set_option maxHeartbeats 4000000 in
set_option maxRecDepth 100000 in
theorem s_inRow (hl0 : l.stackTraces = false) (S : CallFix p m c cL_law 9 s args wsL_law RL) (hR : lR R) (hX : va_X b 4 xs s s.heap ∧ b < s.heap.size) (h : lH D E L cg cr cl o f xs0 (rW0 E cr km ks kp kt kw kc kpr kwk kq kst ko kr kd) s H locs) (hl : lv_has ls 9 [(4, .int 0), (3, .ref o), (2, .ref km), (1, .ref (L 0)), (0, .ref b)]) (K : lK p l e R s m args below meth c b Q) : W p l e R s m args below meth c H locs 1000 10000 Q (F0 m 1326 ls []) := by
  have hD := h.2.2.2.2.2
  by_cases hC : xs 1 = -1
  · refine t_inRow S hR hX h hl (h_inRow_x1 l D L cg cl _ o _ f xs0 hD _ _ ?_) ⟨rfl, rfl, Nat.le_of_ble_eq_true rfl, Nat.le_of_ble_eq_true rfl, Nat.le_of_ble_eq_true rfl, Nat.le_of_ble_eq_true rfl⟩ (g := f) (k := 1) (v := 0) (by rw [hC]; exact k_inRowC l D E cr _ _ km ks kp kt kw kc kpr kwk kq kst ko kr kd _) (by exact ⟨rfl, rfl, Nat.le_of_ble_eq_true rfl, Nat.le_of_ble_eq_true rfl, Nat.le_of_ble_eq_true rfl, Nat.le_of_ble_eq_true rfl⟩) (fun c9 => absurd c9 (by decide)) K
    · rw [hC]; exact x_inRow2 l hl0 D L cg _ _ xs0 hD _ _ (fun q => absurd rfl q) (fun q => absurd rfl q) (by rw [z_inRC]; by_cases q : xs 2 < 0; exact Or.inl q; exact Or.inr (l_ge q))
  · by_cases h0 : xs 1 = 0
    · refine t_inRow S hR hX h hl (h_inRow_x1 l D L cg cl _ o _ f xs0 hD _ _ ?_) ⟨rfl, rfl, Nat.le_of_ble_eq_true rfl, Nat.le_of_ble_eq_true rfl, Nat.le_of_ble_eq_true rfl, Nat.le_of_ble_eq_true rfl⟩ (g := f) (k := 1) (v := 0) (by rw [h0]; exact k_inRow0 l D E cr _ _ km ks kp kt kw kc kpr kwk kq kst ko kr kd _) (by exact ⟨rfl, rfl, Nat.le_of_ble_eq_true rfl, Nat.le_of_ble_eq_true rfl, Nat.le_of_ble_eq_true rfl, Nat.le_of_ble_eq_true rfl⟩) (fun c9 => absurd c9 (by decide)) K
      · rw [h0]; exact x_inRow2 l hl0 D L cg _ _ xs0 hD _ _ (fun _ => by decide) (fun _ => by rw [z_workers]; decide) (by rw [z_inR0]; by_cases q : xs 2 < 0; exact Or.inl q; exact Or.inr (l_ge q))
    · have hz := l_row hC h0
      exact t_inRow S hR hX h hl (h_inRow_x1 l D L cg cl _ o _ f xs0 hD _ _ (x_inRow l hl0 D L cg _ _ xs0 hD _ _ hC (z_worker (l_row2 hz)))) ⟨rfl, rfl, Nat.le_of_ble_eq_true rfl, Nat.le_of_ble_eq_true rfl, Nat.le_of_ble_eq_true rfl, Nat.le_of_ble_eq_true rfl⟩ (k_inRow1 l D E cr _ _ km ks kp kt kw kc kpr kwk kq kst ko kr kd _ _ hz) ⟨rfl, rfl, Nat.le_of_ble_eq_true rfl, Nat.le_of_ble_eq_true rfl, Nat.le_of_ble_eq_true rfl, Nat.le_of_ble_eq_true rfl⟩ (fun c9 => absurd c9 (by decide)) K
set_option maxHeartbeats 4000000 in
set_option maxRecDepth 100000 in
theorem s_told (hl0 : l.stackTraces = false) (S : CallFix p m c cL_law 9 s args wsL_law RL) (hR : lR R) (hX : va_X b 4 xs s s.heap ∧ b < s.heap.size) (h : lH D E L cg cr cl o f xs0 (rW0 E cr km ks kp kt kw kc kpr kwk kq kst ko kr kd) s H locs) (hl : lv_has ls 9 [(4, .int 0), (3, .ref o), (2, .ref km), (1, .ref (L 0)), (0, .ref b)]) (K : lK p l e R s m args below meth c b Q) : W p l e R s m args below meth c H locs 1000 10000 Q (F0 m 1394 ls []) := by
  have hD := h.2.2.2.2.2
  by_cases hz : xs 1 < 0 ∨ 0 < xs 1
  · exact t_told S hR hX h hl (h_told_x1 l D L cg cl _ o _ f xs0 hD _ _ (x_told l hl0 D L cg _ _ xs0 hD _ _ (z_worker hz))) ⟨rfl, rfl, Nat.le_of_ble_eq_true rfl, Nat.le_of_ble_eq_true rfl, Nat.le_of_ble_eq_true rfl, Nat.le_of_ble_eq_true rfl⟩ (k_told1 l D E cr _ _ km ks kp kt kw kc kpr kwk kq kst ko kr kd _ _ hz) ⟨rfl, rfl, Nat.le_of_ble_eq_true rfl, Nat.le_of_ble_eq_true rfl, Nat.le_of_ble_eq_true rfl, Nat.le_of_ble_eq_true rfl⟩ (fun c9 => absurd c9 (by decide)) K
  · have z0 : xs 1 = 0 := l_zero (fun q => hz (Or.inl q)) (fun q => hz (Or.inr q))
    by_cases hy : xs 2 < 0 ∨ 2 < xs 2
    · refine t_told S hR hX h hl (h_told_x2 l D L cg cl _ o _ f xs0 hD _ _ ?_) ⟨rfl, rfl, Nat.le_of_ble_eq_true rfl, Nat.le_of_ble_eq_true rfl, Nat.le_of_ble_eq_true rfl, Nat.le_of_ble_eq_true rfl⟩ (g := f) (k := 2) (v := 0) (by rw [z0]; exact k_told2 l D E cr _ _ km ks kp kt kw kc kpr kwk kq kst ko kr kd _ hy) (by exact ⟨rfl, rfl, Nat.le_of_ble_eq_true rfl, Nat.le_of_ble_eq_true rfl, Nat.le_of_ble_eq_true rfl, Nat.le_of_ble_eq_true rfl⟩) (fun c9 => absurd c9 (by decide)) K
      · rw [z0]; exact x_told2 l hl0 D L cg _ _ xs0 hD _ _ (by decide) (by rw [z_workers]; decide) hy
    · have y0 : ¬ xs 2 < 0 := fun q => hy (Or.inl q)
      have y1 : ¬ (2 : Int32) < xs 2 := fun q => hy (Or.inr q)
      refine t_told S hR hX h hl (h_told l D L cg cl _ o _ f xs0 hD _ _ (f_X6_told xs0 0 (xs 2)) xs0 ?_) ⟨rfl, rfl, Nat.le_of_ble_eq_true rfl, Nat.le_of_ble_eq_true rfl, Nat.le_of_ble_eq_true rfl, Nat.le_of_ble_eq_true rfl⟩ (g := vp_updL f 0 (f_X6_told xs0 0 (xs 2)).toInt64) (k := 0) (v := 0) (by rw [z0]; exact k_told0 l D E cr _ _ km ks kp kt kw kc kpr kwk kq kst ko kr kd _ y0 y1) (by exact ⟨rfl, rfl, Nat.le_of_ble_eq_true rfl, Nat.le_of_ble_eq_true rfl, Nat.le_of_ble_eq_true rfl, Nat.le_of_ble_eq_true rfl⟩) (fun _ => l_ok (l_told y0 y1)) K
      · rw [z0]; exact c_X6_told l D L cg _ _ xs0 hD _ _ (by decide) (by rw [z_workers]; decide) y0 (Int32.not_lt.mp y1)
set_option maxHeartbeats 4000000 in
set_option maxRecDepth 100000 in
theorem s_ran (hl0 : l.stackTraces = false) (S : CallFix p m c cL_law 9 s args wsL_law RL) (hR : lR R) (hX : va_X b 4 xs s s.heap ∧ b < s.heap.size) (h : lH D E L cg cr cl o f xs0 (rW0 E cr km ks kp kt kw kc kpr kwk kq kst ko kr kd) s H locs) (hl : lv_has ls 9 [(4, .int 0), (3, .ref o), (2, .ref km), (1, .ref (L 0)), (0, .ref b)]) (K : lK p l e R s m args below meth c b Q) : W p l e R s m args below meth c H locs 1000 10000 Q (F0 m 1462 ls []) := by
  have hD := h.2.2.2.2.2
  by_cases hz : xs 1 < 0 ∨ 0 < xs 1
  · exact t_ran S hR hX h hl (h_ran_x1 l D L cg cl _ o _ f xs0 hD _ _ (x_ran l hl0 D L cg _ _ xs0 hD _ _ (z_worker hz))) ⟨rfl, rfl, Nat.le_of_ble_eq_true rfl, Nat.le_of_ble_eq_true rfl, Nat.le_of_ble_eq_true rfl, Nat.le_of_ble_eq_true rfl⟩ (k_ran1 l D E cr _ _ km ks kp kt kw kc kpr kwk kq kst ko kr kd _ _ hz) ⟨rfl, rfl, Nat.le_of_ble_eq_true rfl, Nat.le_of_ble_eq_true rfl, Nat.le_of_ble_eq_true rfl, Nat.le_of_ble_eq_true rfl⟩ (fun c9 => absurd c9 (by decide)) K
  · have z0 : xs 1 = 0 := l_zero (fun q => hz (Or.inl q)) (fun q => hz (Or.inr q))
    by_cases hy : xs 2 < 1 ∨ 20 < xs 2
    · refine t_ran S hR hX h hl (h_ran_x2 l D L cg cl _ o _ f xs0 hD _ _ ?_) ⟨rfl, rfl, Nat.le_of_ble_eq_true rfl, Nat.le_of_ble_eq_true rfl, Nat.le_of_ble_eq_true rfl, Nat.le_of_ble_eq_true rfl⟩ (g := f) (k := 2) (v := 0) (by rw [z0]; exact k_ran2 l D E cr _ _ km ks kp kt kw kc kpr kwk kq kst ko kr kd _ hy) (by exact ⟨rfl, rfl, Nat.le_of_ble_eq_true rfl, Nat.le_of_ble_eq_true rfl, Nat.le_of_ble_eq_true rfl, Nat.le_of_ble_eq_true rfl⟩) (fun c9 => absurd c9 (by decide)) K
      · rw [z0]; exact x_ran2 l hl0 D L cg _ _ xs0 hD _ _ (by decide) (by rw [z_workers]; decide) hy
    · have y0 : ¬ xs 2 < 1 := fun q => hy (Or.inl q)
      have y1 : ¬ (20 : Int32) < xs 2 := fun q => hy (Or.inr q)
      refine t_ran S hR hX h hl (h_ran l D L cg cl _ o _ f xs0 hD _ _ (f_X6_ran xs0 0 (xs 2)) xs0 ?_) ⟨rfl, rfl, Nat.le_of_ble_eq_true rfl, Nat.le_of_ble_eq_true rfl, Nat.le_of_ble_eq_true rfl, Nat.le_of_ble_eq_true rfl⟩ (g := vp_updL f 0 (f_X6_ran xs0 0 (xs 2)).toInt64) (k := 0) (v := -2) (by rw [z0]; exact k_ran0 l D E cr _ _ km ks kp kt kw kc kpr kwk kq kst ko kr kd _ y0 y1 (Int32.lt_iff_toInt_lt.mpr (by have q := Int32.le_iff_toInt_le.mp (Int32.not_lt.mp y0); have e0 : (0 : Int32).toInt = 0 := rfl; have e1 : (1 : Int32).toInt = 1 := rfl; omega))) (by exact ⟨rfl, rfl, Nat.le_of_ble_eq_true rfl, Nat.le_of_ble_eq_true rfl, Nat.le_of_ble_eq_true rfl, Nat.le_of_ble_eq_true rfl⟩) (fun _ => l_ok (l_ran y0 y1)) K
      · rw [z0]; exact c_X6_ran l D L cg _ _ xs0 hD _ _ (by decide) (by rw [z_workers]; decide) y0 (Int32.not_lt.mp y1)
set_option maxHeartbeats 4000000 in
set_option maxRecDepth 100000 in
theorem s_keep (hl0 : l.stackTraces = false) (S : CallFix p m c cL_law 9 s args wsL_law RL) (hR : lR R) (hX : va_X b 4 xs s s.heap ∧ b < s.heap.size) (h : lH D E L cg cr cl o f xs0 (rW0 E cr km ks kp kt kw kc kpr kwk kq kst ko kr kd) s H locs) (hl : lv_has ls 9 [(4, .int 0), (3, .ref o), (2, .ref km), (1, .ref (L 0)), (0, .ref b)]) (K : lK p l e R s m args below meth c b Q) : W p l e R s m args below meth c H locs 1000 10000 Q (F0 m 540 ls []) := by
  have hD := h.2.2.2.2.2
  by_cases hz : xs 1 < 0 ∨ 5 < xs 1
  · exact t_keep S hR hX h hl (h_keep_x1 l D L cg cl _ o _ f xs0 hD _ _ (x_keep l hl0 D L cg _ _ xs0 hD _ _ (z_prom0 hz))) ⟨rfl, rfl, Nat.le_of_ble_eq_true rfl, Nat.le_of_ble_eq_true rfl, Nat.le_of_ble_eq_true rfl, Nat.le_of_ble_eq_true rfl⟩ (k_keep1 l D E cr _ _ km ks kp kt kw kc kpr kwk kq kst ko kr kd _ _ hz) ⟨rfl, rfl, Nat.le_of_ble_eq_true rfl, Nat.le_of_ble_eq_true rfl, Nat.le_of_ble_eq_true rfl, Nat.le_of_ble_eq_true rfl⟩ (fun c9 => absurd c9 (by decide)) K
  · have z0 : ¬ xs 1 < 0 := fun q => hz (Or.inl q)
    have z1 : ¬ (5 : Int32) < xs 1 := fun q => hz (Or.inr q)
    by_cases hy : xs 2 < (-999) ∨ 999 < xs 2
    · exact t_keep S hR hX h hl (h_keep_x2 l D L cg cl _ o _ f xs0 hD _ _ (x_keep2 l hl0 D L cg _ _ xs0 hD _ _ (z_prom1 z0 z1) hy)) ⟨rfl, rfl, Nat.le_of_ble_eq_true rfl, Nat.le_of_ble_eq_true rfl, Nat.le_of_ble_eq_true rfl, Nat.le_of_ble_eq_true rfl⟩ (k_keep2 l D E cr _ _ km ks kp kt kw kc kpr kwk kq kst ko kr kd _ _ z0 z1 hy) ⟨rfl, rfl, Nat.le_of_ble_eq_true rfl, Nat.le_of_ble_eq_true rfl, Nat.le_of_ble_eq_true rfl, Nat.le_of_ble_eq_true rfl⟩ (fun c9 => absurd c9 (by decide)) K
    · have y0 : ¬ xs 2 < (-999) := fun q => hy (Or.inl q)
      have y1 : ¬ (999 : Int32) < xs 2 := fun q => hy (Or.inr q)
      have e := l_keep z0 z1 y0 y1
      have hC := c_X6_keep l D L cg _ _ xs0 hD (xs 1) (xs 2) (z_prom1 z0 z1) y0 (Int32.not_lt.mp y1)
      rw [e] at hC
      exact t_keep S hR hX h hl (h_keep l D L cg cl _ o _ f xs0 hD _ _ _ hC) ⟨rfl, rfl, Nat.le_of_ble_eq_true rfl, Nat.le_of_ble_eq_true rfl, Nat.le_of_ble_eq_true rfl, Nat.le_of_ble_eq_true rfl⟩ (k_keep0 l D E cr _ _ km ks kp kt kw kc kpr kwk kq kst ko kr kd _ _ z0 z1 y0 y1) ⟨rfl, rfl, Nat.le_of_ble_eq_true rfl, Nat.le_of_ble_eq_true rfl, Nat.le_of_ble_eq_true rfl, Nat.le_of_ble_eq_true rfl⟩ (fun _ => ⟨rfl, by simp [vp_updL]⟩) K
set_option maxHeartbeats 4000000 in
set_option maxRecDepth 100000 in
theorem s_setWay (hl0 : l.stackTraces = false) (S : CallFix p m c cL_law 9 s args wsL_law RL) (hR : lR R) (hX : va_X b 4 xs s s.heap ∧ b < s.heap.size) (h : lH D E L cg cr cl o f xs0 (rW0 E cr km ks kp kt kw kc kpr kwk kq kst ko kr kd) s H locs) (hl : lv_has ls 9 [(4, .int 0), (3, .ref o), (2, .ref km), (1, .ref (L 0)), (0, .ref b)]) (K : lK p l e R s m args below meth c b Q) : W p l e R s m args below meth c H locs 1000 10000 Q (F0 m 360 ls []) := by
  have hD := h.2.2.2.2.2
  by_cases hz : xs 1 < 0 ∨ 2 < xs 1
  · exact t_setWay S hR hX h hl (h_setWay_x1 l D L cg cl _ o _ f xs0 hD _ _ (x_setWay l hl0 D L cg _ _ xs0 hD _ _ hz)) ⟨rfl, rfl, Nat.le_of_ble_eq_true rfl, Nat.le_of_ble_eq_true rfl, Nat.le_of_ble_eq_true rfl, Nat.le_of_ble_eq_true rfl⟩ (k_setWay1 l D E cr _ _ km ks kp kt kw kc kpr kwk kq kst ko kr kd _ _ hz) ⟨rfl, rfl, Nat.le_of_ble_eq_true rfl, Nat.le_of_ble_eq_true rfl, Nat.le_of_ble_eq_true rfl, Nat.le_of_ble_eq_true rfl⟩ (fun c9 => absurd c9 (by decide)) K
  · have z0 : ¬ xs 1 < 0 := fun q => hz (Or.inl q)
    have z1 : ¬ (2 : Int32) < xs 1 := fun q => hz (Or.inr q)
    by_cases hy : xs 2 < 0 ∨ 2 < xs 2
    · exact t_setWay S hR hX h hl (h_setWay_x1 l D L cg cl _ o _ f xs0 hD _ _ (x_setWay2 l hl0 D L cg _ _ xs0 hD _ _ z0 (Int32.not_lt.mp z1) hy)) ⟨rfl, rfl, Nat.le_of_ble_eq_true rfl, Nat.le_of_ble_eq_true rfl, Nat.le_of_ble_eq_true rfl, Nat.le_of_ble_eq_true rfl⟩ (k_setWay2 l D E cr _ _ km ks kp kt kw kc kpr kwk kq kst ko kr kd _ _ z0 z1 hy) ⟨rfl, rfl, Nat.le_of_ble_eq_true rfl, Nat.le_of_ble_eq_true rfl, Nat.le_of_ble_eq_true rfl, Nat.le_of_ble_eq_true rfl⟩ (fun c9 => absurd c9 (by decide)) K
    · have y0 : ¬ xs 2 < 0 := fun q => hy (Or.inl q)
      have y1 : ¬ (2 : Int32) < xs 2 := fun q => hy (Or.inr q)
      exact t_setWay S hR hX h hl (h_setWay l D L cg cl _ o _ f xs0 hD _ _ _ _ (c_X6_setWay l D L cg _ _ xs0 hD _ _ z0 (Int32.not_lt.mp z1) y0 z_stacked (Int32.not_lt.mp y1))) ⟨rfl, rfl, Nat.le_of_ble_eq_true rfl, Nat.le_of_ble_eq_true rfl, Nat.le_of_ble_eq_true rfl, Nat.le_of_ble_eq_true rfl⟩ (k_setWay0 l D E cr _ _ km ks kp kt kw kc kpr kwk kq kst ko kr kd _ _ z0 z1 y0 y1) ⟨rfl, rfl, Nat.le_of_ble_eq_true rfl, Nat.le_of_ble_eq_true rfl, Nat.le_of_ble_eq_true rfl, Nat.le_of_ble_eq_true rfl⟩ (fun _ => l_ok (z_setWay y0 (Int32.not_lt.mp y1))) K
set_option maxHeartbeats 4000000 in
set_option maxRecDepth 100000 in
theorem s_setWorkers (hl0 : l.stackTraces = false) (S : CallFix p m c cL_law 9 s args wsL_law RL) (hR : lR R) (hX : va_X b 4 xs s s.heap ∧ b < s.heap.size) (h : lH D E L cg cr cl o f xs0 (rW0 E cr km ks kp kt kw kc kpr kwk kq kst ko kr kd) s H locs) (hl : lv_has ls 9 [(4, .int 0), (3, .ref o), (2, .ref km), (1, .ref (L 0)), (0, .ref b)]) (K : lK p l e R s m args below meth c b Q) : W p l e R s m args below meth c H locs 1000 10000 Q (F0 m 304 ls []) := by
  have hD := h.2.2.2.2.2
  by_cases hz : xs 1 < 1 ∨ 5 < xs 1
  · exact t_setWorkers S hR hX h hl (h_setWorkers_x1 l D L cg cl _ o _ f xs0 hD _ (x_setWorkers l hl0 D L cg _ _ xs0 hD _ hz)) ⟨rfl, rfl, Nat.le_of_ble_eq_true rfl, Nat.le_of_ble_eq_true rfl, Nat.le_of_ble_eq_true rfl, Nat.le_of_ble_eq_true rfl⟩ (k_setWorkers1 l D E cr _ _ km ks kp kt kw kc kpr kwk kq kst ko kr kd _ hz) ⟨rfl, rfl, Nat.le_of_ble_eq_true rfl, Nat.le_of_ble_eq_true rfl, Nat.le_of_ble_eq_true rfl, Nat.le_of_ble_eq_true rfl⟩ (fun c9 => absurd c9 (by decide)) K
  · have z0 : ¬ xs 1 < 1 := fun q => hz (Or.inl q)
    have z1 : ¬ (5 : Int32) < xs 1 := fun q => hz (Or.inr q)
    obtain ⟨r, a, b, er⟩ := r_of1 (M := 5) (by decide) z0 z1
    obtain ⟨w0, w1⟩ := z_setWorkers r (by omega) a
    rw [← er] at w0 w1
    have hC := c_X6_setWorkers l D L cg _ _ xs0 hD (xs 1) z0 (Int32.not_lt.mp z1) w0
    rcases (show r = 1 ∨ r = 2 ∨ r = 3 ∨ r = 4 ∨ r = 5 by omega) with e | e | e | e | e
    · have ex : xs 1 = 1 := by rw [er, e]; rfl
      refine t_setWorkers S hR hX h hl (h_setWorkers l D L cg cl _ o _ f xs0 hD _ _ _ hC) ⟨rfl, rfl, Nat.le_of_ble_eq_true rfl, Nat.le_of_ble_eq_true rfl, Nat.le_of_ble_eq_true rfl, Nat.le_of_ble_eq_true rfl⟩ (v := 1) (by rw [ex]; exact k_setWorkersN1 l D E cr _ _ km ks kp kt kw kc kpr kwk kq kst ko kr kd) (by exact ⟨rfl, rfl, Nat.le_of_ble_eq_true rfl, Nat.le_of_ble_eq_true rfl, Nat.le_of_ble_eq_true rfl, Nat.le_of_ble_eq_true rfl⟩) (fun _ => l_ok w1) K
    · have ex : xs 1 = 2 := by rw [er, e]; rfl
      refine t_setWorkers S hR hX h hl (h_setWorkers l D L cg cl _ o _ f xs0 hD _ _ _ hC) ⟨rfl, rfl, Nat.le_of_ble_eq_true rfl, Nat.le_of_ble_eq_true rfl, Nat.le_of_ble_eq_true rfl, Nat.le_of_ble_eq_true rfl⟩ (v := 1) (by rw [ex]; exact k_setWorkersN2 l D E cr _ _ km ks kp kt kw kc kpr kwk kq kst ko kr kd) (by exact ⟨rfl, rfl, Nat.le_of_ble_eq_true rfl, Nat.le_of_ble_eq_true rfl, Nat.le_of_ble_eq_true rfl, Nat.le_of_ble_eq_true rfl⟩) (fun _ => l_ok w1) K
    · have ex : xs 1 = 3 := by rw [er, e]; rfl
      refine t_setWorkers S hR hX h hl (h_setWorkers l D L cg cl _ o _ f xs0 hD _ _ _ hC) ⟨rfl, rfl, Nat.le_of_ble_eq_true rfl, Nat.le_of_ble_eq_true rfl, Nat.le_of_ble_eq_true rfl, Nat.le_of_ble_eq_true rfl⟩ (v := 1) (by rw [ex]; exact k_setWorkersN3 l D E cr _ _ km ks kp kt kw kc kpr kwk kq kst ko kr kd) (by exact ⟨rfl, rfl, Nat.le_of_ble_eq_true rfl, Nat.le_of_ble_eq_true rfl, Nat.le_of_ble_eq_true rfl, Nat.le_of_ble_eq_true rfl⟩) (fun _ => l_ok w1) K
    · have ex : xs 1 = 4 := by rw [er, e]; rfl
      refine t_setWorkers S hR hX h hl (h_setWorkers l D L cg cl _ o _ f xs0 hD _ _ _ hC) ⟨rfl, rfl, Nat.le_of_ble_eq_true rfl, Nat.le_of_ble_eq_true rfl, Nat.le_of_ble_eq_true rfl, Nat.le_of_ble_eq_true rfl⟩ (v := 1) (by rw [ex]; exact k_setWorkersN4 l D E cr _ _ km ks kp kt kw kc kpr kwk kq kst ko kr kd) (by exact ⟨rfl, rfl, Nat.le_of_ble_eq_true rfl, Nat.le_of_ble_eq_true rfl, Nat.le_of_ble_eq_true rfl, Nat.le_of_ble_eq_true rfl⟩) (fun _ => l_ok w1) K
    · have ex : xs 1 = 5 := by rw [er, e]; rfl
      refine t_setWorkers S hR hX h hl (h_setWorkers l D L cg cl _ o _ f xs0 hD _ _ _ hC) ⟨rfl, rfl, Nat.le_of_ble_eq_true rfl, Nat.le_of_ble_eq_true rfl, Nat.le_of_ble_eq_true rfl, Nat.le_of_ble_eq_true rfl⟩ (v := 1) (by rw [ex]; exact k_setWorkersN5 l D E cr _ _ km ks kp kt kw kc kpr kwk kq kst ko kr kd) (by exact ⟨rfl, rfl, Nat.le_of_ble_eq_true rfl, Nat.le_of_ble_eq_true rfl, Nat.le_of_ble_eq_true rfl, Nat.le_of_ble_eq_true rfl⟩) (fun _ => l_ok w1) K
set_option maxHeartbeats 4000000 in
set_option maxRecDepth 100000 in
theorem s_clock (hl0 : l.stackTraces = false) (S : CallFix p m c cL_law 9 s args wsL_law RL) (hR : lR R) (hX : va_X b 4 xs s s.heap ∧ b < s.heap.size) (h : lH D E L cg cr cl o f xs0 (rW0 E cr km ks kp kt kw kc kpr kwk kq kst ko kr kd) s H locs) (hl : lv_has ls 9 [(4, .int 0), (3, .ref o), (2, .ref km), (1, .ref (L 0)), (0, .ref b)]) (K : lK p l e R s m args below meth c b Q) : W p l e R s m args below meth c H locs 1000 10000 Q (F0 m 671 ls []) := by
  have hD := h.2.2.2.2.2
  exact t_clock S hR hX h hl (by decide +kernel) (k_clock l D E cr _ _ km ks kp kt kw kc kpr kwk kq kst ko kr kd ) ⟨rfl, rfl, Nat.le_of_ble_eq_true rfl, Nat.le_of_ble_eq_true rfl, Nat.le_of_ble_eq_true rfl, Nat.le_of_ble_eq_true rfl⟩ K
set_option maxHeartbeats 4000000 in
set_option maxRecDepth 100000 in
theorem s_tasks (hl0 : l.stackTraces = false) (S : CallFix p m c cL_law 9 s args wsL_law RL) (hR : lR R) (hX : va_X b 4 xs s s.heap ∧ b < s.heap.size) (h : lH D E L cg cr cl o f xs0 (rW0 E cr km ks kp kt kw kc kpr kwk kq kst ko kr kd) s H locs) (hl : lv_has ls 9 [(4, .int 0), (3, .ref o), (2, .ref km), (1, .ref (L 0)), (0, .ref b)]) (K : lK p l e R s m args below meth c b Q) : W p l e R s m args below meth c H locs 1000 10000 Q (F0 m 684 ls []) := by
  have hD := h.2.2.2.2.2
  exact t_tasks S hR hX h hl (by decide +kernel) (k_tasks l D E cr _ _ km ks kp kt kw kc kpr kwk kq kst ko kr kd ) ⟨rfl, rfl, Nat.le_of_ble_eq_true rfl, Nat.le_of_ble_eq_true rfl, Nat.le_of_ble_eq_true rfl, Nat.le_of_ble_eq_true rfl⟩ K
set_option maxHeartbeats 4000000 in
set_option maxRecDepth 100000 in
theorem s_workers (hl0 : l.stackTraces = false) (S : CallFix p m c cL_law 9 s args wsL_law RL) (hR : lR R) (hX : va_X b 4 xs s s.heap ∧ b < s.heap.size) (h : lH D E L cg cr cl o f xs0 (rW0 E cr km ks kp kt kw kc kpr kwk kq kst ko kr kd) s H locs) (hl : lv_has ls 9 [(4, .int 0), (3, .ref o), (2, .ref km), (1, .ref (L 0)), (0, .ref b)]) (K : lK p l e R s m args below meth c b Q) : W p l e R s m args below meth c H locs 1000 10000 Q (F0 m 1145 ls []) := by
  have hD := h.2.2.2.2.2
  exact t_workers S hR hX h hl (by decide +kernel) (k_workers l D E cr _ _ km ks kp kt kw kc kpr kwk kq kst ko kr kd ) ⟨rfl, rfl, Nat.le_of_ble_eq_true rfl, Nat.le_of_ble_eq_true rfl, Nat.le_of_ble_eq_true rfl, Nat.le_of_ble_eq_true rfl⟩ K
set_option maxHeartbeats 4000000 in
set_option maxRecDepth 100000 in
theorem s_halted (hl0 : l.stackTraces = false) (S : CallFix p m c cL_law 9 s args wsL_law RL) (hR : lR R) (hX : va_X b 4 xs s s.heap ∧ b < s.heap.size) (h : lH D E L cg cr cl o f xs0 (rW0 E cr km ks kp kt kw kc kpr kwk kq kst ko kr kd) s H locs) (hl : lv_has ls 9 [(4, .int 0), (3, .ref o), (2, .ref km), (1, .ref (L 0)), (0, .ref b)]) (K : lK p l e R s m args below meth c b Q) : W p l e R s m args below meth c H locs 1000 10000 Q (F0 m 1530 ls []) := by
  have hD := h.2.2.2.2.2
  exact t_halted S hR hX h hl (by decide +kernel) (k_halted l D E cr _ _ km ks kp kt kw kc kpr kwk kq kst ko kr kd ) ⟨rfl, rfl, Nat.le_of_ble_eq_true rfl, Nat.le_of_ble_eq_true rfl, Nat.le_of_ble_eq_true rfl, Nat.le_of_ble_eq_true rfl⟩ K
set_option maxHeartbeats 4000000 in
set_option maxRecDepth 100000 in
theorem s_digest (hl0 : l.stackTraces = false) (S : CallFix p m c cL_law 9 s args wsL_law RL) (hR : lR R) (hX : va_X b 4 xs s s.heap ∧ b < s.heap.size) (h : lH D E L cg cr cl o f xs0 (rW0 E cr km ks kp kt kw kc kpr kwk kq kst ko kr kd) s H locs) (hl : lv_has ls 9 [(4, .int 0), (3, .ref o), (2, .ref km), (1, .ref (L 0)), (0, .ref b)]) (K : lK p l e R s m args below meth c b Q) : W p l e R s m args below meth c H locs 1000 10000 Q (F0 m 1856 ls []) := by
  have hD := h.2.2.2.2.2
  exact t_digest S hR hX h hl z_digest (k_digest l D E cr _ _ km ks kp kt kw kc kpr kwk kq kst ko kr kd ) ⟨rfl, rfl, Nat.le_of_ble_eq_true rfl, Nat.le_of_ble_eq_true rfl, Nat.le_of_ble_eq_true rfl, Nat.le_of_ble_eq_true rfl⟩ K
set_option maxHeartbeats 4000000 in
set_option maxRecDepth 100000 in
theorem s_load (hl0 : l.stackTraces = false) (S : CallFix p m c cL_law 9 s args wsL_law RL) (hR : lR R) (hX : va_X b 4 xs s s.heap ∧ b < s.heap.size) (h : lH D E L cg cr cl o f xs0 (rW0 E cr km ks kp kt kw kc kpr kwk kq kst ko kr kd) s H locs) (hl : lv_has ls 9 [(4, .int 0), (3, .ref o), (2, .ref km), (1, .ref (L 0)), (0, .ref b)]) (K : lK p l e R s m args below meth c b Q) : W p l e R s m args below meth c H locs 1000 10000 Q (F0 m 1543 ls []) := by
  have hD := h.2.2.2.2.2
  exact t_load S hR hX h hl (c_X6_load0 l D L cg _ _ xs0 hD z_l6.1 z_l6.2.1 z_l6.2.2) (k_load l D E cr _ _ km ks kp kt kw kc kpr kwk kq kst ko kr kd ) ⟨rfl, rfl, Nat.le_of_ble_eq_true rfl, Nat.le_of_ble_eq_true rfl, Nat.le_of_ble_eq_true rfl, Nat.le_of_ble_eq_true rfl⟩ K
theorem l_and31 (x : Int32) : ∃ r : Nat, r < 32 ∧ x &&& 31 = Int32.ofNat r := by
  refine ⟨(x &&& 31).toBitVec.toNat, ?_, ?_⟩
  · have e : (x &&& 31).toBitVec = x.toBitVec &&& (31 : Int32).toBitVec := Int32.toBitVec_and x 31
    rw [e, BitVec.toNat_and]
    have e2 : (31 : Int32).toBitVec.toNat = 31 := by decide
    rw [e2]
    exact Nat.lt_of_le_of_lt Nat.and_le_right (by decide)
  · apply Int32.toBitVec_inj.mp
    simp
set_option maxHeartbeats 8000000 in
set_option maxRecDepth 100000 in
theorem l_switch (hl0 : l.stackTraces = false) (S : CallFix p m c cL_law 9 s args wsL_law RL) (hR : lR R) (hX : va_X b 4 xs s s.heap ∧ b < s.heap.size) (h : lH D E L cg cr cl o f xs0 (rW0 E cr km ks kp kt kw kc kpr kwk kq kst ko kr kd) s H locs) (hl : lv_has ls 9 [(4, .int 0), (3, .ref o), (2, .ref km), (1, .ref (L 0)), (0, .ref b)]) (K : lK p l e R s m args below meth c b Q) : W p l e R s m args below meth c H locs 1000 10000 Q (F0 m 39 ls [.int (xs 0 &&& 31)]) := by
  have hx := S.1
  have hb := S.2.1
  obtain ⟨r, hr, e⟩ := l_and31 (xs 0)
  rw [e]
  match r, hr with
  | 0, _ => exact lv_tableIn (off := 141) (tgt := 180) hx hb dL_law_39 (by decide) (by decide) rfl (by decide) (s_addJob hl0 S hR hX h hl K)
  | 1, _ => exact lv_tableIn (off := 185) (tgt := 224) hx hb dL_law_39 (by decide) (by decide) rfl (by decide) (s_addStep hl0 S hR hX h hl K)
  | 2, _ => exact lv_tableIn (off := 265) (tgt := 304) hx hb dL_law_39 (by decide) (by decide) rfl (by decide) (s_setWorkers hl0 S hR hX h hl K)
  | 3, _ => exact lv_tableIn (off := 321) (tgt := 360) hx hb dL_law_39 (by decide) (by decide) rfl (by decide) (s_setWay hl0 S hR hX h hl K)
  | 4, _ => exact lv_tableIn (off := 389) (tgt := 428) hx hb dL_law_39 (by decide) (by decide) rfl (by decide) (s_submit hl0 S hR hX h hl K)
  | 5, _ => exact lv_tableIn (off := 445) (tgt := 484) hx hb dL_law_39 (by decide) (by decide) rfl (by decide) (s_cancel hl0 S hR hX h hl K)
  | 6, _ => exact lv_tableIn (off := 501) (tgt := 540) hx hb dL_law_39 (by decide) (by decide) rfl (by decide) (s_keep hl0 S hR hX h hl K)
  | 7, _ => exact lv_tableIn (off := 576) (tgt := 615) hx hb dL_law_39 (by decide) (by decide) rfl (by decide) (s_tick hl0 S hR hX h hl K)
  | 8, _ => exact lv_tableIn (off := 632) (tgt := 671) hx hb dL_law_39 (by decide) (by decide) rfl (by decide) (s_clock hl0 S hR hX h hl K)
  | 9, _ => exact lv_tableIn (off := 645) (tgt := 684) hx hb dL_law_39 (by decide) (by decide) rfl (by decide) (s_tasks hl0 S hR hX h hl K)
  | 10, _ => exact lv_tableIn (off := 658) (tgt := 697) hx hb dL_law_39 (by decide) (by decide) rfl (by decide) (s_stateOf hl0 S hR hX h hl K)
  | 11, _ => exact lv_tableIn (off := 714) (tgt := 753) hx hb dL_law_39 (by decide) (by decide) rfl (by decide) (s_valueOf hl0 S hR hX h hl K)
  | 12, _ => exact lv_tableIn (off := 770) (tgt := 809) hx hb dL_law_39 (by decide) (by decide) rfl (by decide) (s_stepOf hl0 S hR hX h hl K)
  | 13, _ => exact lv_tableIn (off := 826) (tgt := 865) hx hb dL_law_39 (by decide) (by decide) rfl (by decide) (s_parentOf hl0 S hR hX h hl K)
  | 14, _ => exact lv_tableIn (off := 882) (tgt := 921) hx hb dL_law_39 (by decide) (by decide) rfl (by decide) (s_childrenOf hl0 S hR hX h hl K)
  | 15, _ => exact lv_tableIn (off := 938) (tgt := 977) hx hb dL_law_39 (by decide) (by decide) rfl (by decide) (s_workOf hl0 S hR hX h hl K)
  | 16, _ => exact lv_tableIn (off := 994) (tgt := 1033) hx hb dL_law_39 (by decide) (by decide) rfl (by decide) (s_overAt hl0 S hR hX h hl K)
  | 17, _ => exact lv_tableIn (off := 1050) (tgt := 1089) hx hb dL_law_39 (by decide) (by decide) rfl (by decide) (s_promise hl0 S hR hX h hl K)
  | 18, _ => exact lv_tableIn (off := 1106) (tgt := 1145) hx hb dL_law_39 (by decide) (by decide) rfl (by decide) (s_workers hl0 S hR hX h hl K)
  | 19, _ => exact lv_tableIn (off := 1119) (tgt := 1158) hx hb dL_law_39 (by decide) (by decide) rfl (by decide) (s_top hl0 S hR hX h hl K)
  | 20, _ => exact lv_tableIn (off := 1175) (tgt := 1214) hx hb dL_law_39 (by decide) (by decide) rfl (by decide) (s_stack hl0 S hR hX h hl K)
  | 21, _ => exact lv_tableIn (off := 1231) (tgt := 1270) hx hb dL_law_39 (by decide) (by decide) rfl (by decide) (s_row hl0 S hR hX h hl K)
  | 22, _ => exact lv_tableIn (off := 1287) (tgt := 1326) hx hb dL_law_39 (by decide) (by decide) rfl (by decide) (s_inRow hl0 S hR hX h hl K)
  | 23, _ => exact lv_tableIn (off := 1355) (tgt := 1394) hx hb dL_law_39 (by decide) (by decide) rfl (by decide) (s_told hl0 S hR hX h hl K)
  | 24, _ => exact lv_tableIn (off := 1423) (tgt := 1462) hx hb dL_law_39 (by decide) (by decide) rfl (by decide) (s_ran hl0 S hR hX h hl K)
  | 25, _ => exact lv_tableIn (off := 1491) (tgt := 1530) hx hb dL_law_39 (by decide) (by decide) rfl (by decide) (s_halted hl0 S hR hX h hl K)
  | 26, _ => exact lv_tableIn (off := 1504) (tgt := 1543) hx hb dL_law_39 (by decide) (by decide) rfl (by decide) (s_load hl0 S hR hX h hl K)
  | 27, _ => exact lv_tableIn (off := 1545) (tgt := 1584) hx hb dL_law_39 (by decide) (by decide) rfl (by decide) (s_overIn hl0 S hR hX h hl K)
  | 28, _ => exact lv_tableIn (off := 1613) (tgt := 1652) hx hb dL_law_39 (by decide) (by decide) rfl (by decide) (s_valueIn hl0 S hR hX h hl K)
  | 29, _ => exact lv_tableIn (off := 1681) (tgt := 1720) hx hb dL_law_39 (by decide) (by decide) rfl (by decide) (s_haltsIn hl0 S hR hX h hl K)
  | 30, _ => exact lv_tableIn (off := 1737) (tgt := 1776) hx hb dL_law_39 (by decide) (by decide) rfl (by decide) (s_alone hl0 S hR hX h hl K)
  | 31, _ => exact lv_tableIn (off := 1817) (tgt := 1856) hx hb dL_law_39 (by decide) (by decide) rfl (by decide) (s_digest hl0 S hR hX h hl K)
  | n + 32, hr => omega
end LS
