/-! THE LAW, from its entry. -/
theorem l_flags {l : Launch} (h : l.flags = flags0) : l.stackTraces = false := by
  unfold Launch.stackTraces
  rw [h]
  decide +kernel
theorem l_end {p : Program} {l : Launch} {e : Env} {s : State} {m : MethodId} {b : Nat} {below : List Frame} {meth : Method} {c : Code} {H : Heap} {locs : List Loc} {ls : Array Slot} (hx : p.tables.exec = Jvm.exec) (hb : c.code = cL_law) (hr : meth.sig.returnType = ret) (hlocks : meth.locks = false) (hS : va_S (lA0 s) s.heap H locs) : W p l e room_1 s m #[Value.ref b] below meth c H locs 3000 50000 (lw_Z below #[Value.ref b] s) (F0 m 1876 ls []) := by
  refine lv_iconst (v := 1) hx hb dL_law_1876 (by decide) ?_
  refine va_forget (fun q hq => hS.2.2 q hq) ?_
  refine W.widen (k := 600002) (n := 7302232) (by omega) (by omega) ?_
  exact lw_ret (d0 := s.drawn) (Drawn.sameBut.refl s.drawn lw_cs) hx hb hr hlocks dL_law_1877
/-- behind the one call: the loop is over -/
theorem l_K {p : Program} {l : Launch} {e : Env} {s : State} {m : MethodId} {b : Nat} {xs : Nat → Int32} {below : List Frame} {meth : Method} {c : Code} (hx : p.tables.exec = Jvm.exec) (hb : c.code = cL_law) (hr : meth.sig.returnType = ret) (hlocks : meth.locks = false) (hX : va_X b 4 xs s s.heap ∧ b < s.heap.size) : lK p l e room_1 s m #[Value.ref b] below meth c b (lw_Z below #[Value.ref b] s) := by
  intro H locs ls hS hl
  refine lv_iinc (v := 4) (lv' := [(4, .int 4), (0, .ref b)]) hx hb dL_law_1870 hl (k := 0) rfl (by decide) (by decide) rfl (fun ls hl => ?_)
  refine lv_goto (tgt := 23) hx hb dL_law_1873 (by decide) ?_
  refine lv_iload hx hb dL_law_23 (lv_at hl 0 rfl) ?_
  refine lv_aload_n hx hb dL_law_25 rfl (lv_at hl 1 rfl) ?_
  refine va_slen hx hb hX.1 hX.2 (Nat.not_le.mpr hX.2) hS dL_law_26 ?_
  refine lv_iconst (v := 4) hx hb dL_law_27 (by decide) ?_
  refine lv_isub hx hb dL_law_28 ?_
  refine lv_icmp_gt (tgt := 1876) hx hb dL_law_29 (by decide) (fun _ => ?_) (fun c1 => absurd (by decide) c1)
  exact l_end hx hb hr hlocks hS
theorem l_in {D : va_G} {E : rEn} {L : Nat → Nat} {cg : Nat → ClassId} {cr : rC} {cl : ClassId} {o : Nat} {f : Nat → Int64} {st : gSt} {rw0 : va_W} {s : State} {H : Heap} {locs : List Loc} (hP : va_P D vwCl (gW L cg st ++ (rw0 ++ [lA cl o f])) H) (hS : va_S (lA0 s) s.heap H locs) (hK : va_K D vwCl (gty cg) s ∧ va_K D vwCl (rty cr) s ∧ va_K D vwCl [(cl, .long)] s) (hN : gN s ∧ xF (lA0 s) s s.heap ∧ xN s ∧ xT s ∧ hF s) (hE : rE E (lA0 s) s s.heap ∧ rS E s) (hD : va_D (lA0 s) (gW L cg st ++ (rw0 ++ [lA cl o f]))) : lH D E L cg cr cl o f st rw0 s H locs :=
  ⟨va_P.swap (a := []) (b := gW L cg st) (c := rw0 ++ [lA cl o f]) hP, hS, hK, hN, hE, va_D.swap (a := []) (b := gW L cg st) (c := rw0 ++ [lA cl o f]) hD⟩
/-- the answer's row is made -/
theorem l_newa {p : Program} {l : Launch} {e : Env} {s : State} {m : MethodId} {args : Array Value} {below : List Frame} {meth : Method} {c : Code} {H : Heap} {locs : List Loc} {cells slots : Nat} {Q : State → Prop} {D : va_G} {ls : Array Slot} {ws : va_W} (hx : p.tables.exec = Jvm.exec) (hb : c.code = cL_law) (hw : (Cond.arrayClass .long).before args s = true) (hK : va_K D vwCl [] s) (hP : va_P D vwCl ws H) (hD : va_D (lA0 s) ws) (hS : va_S (lA0 s) s.heap H locs) (hc : cells + 1 ≤ room_1.cells) (hs : slots + 1 ≤ room_1.slots)
    (kk : ∀ (o : Nat) (cl : ClassId) (H1 : Heap), va_K D vwCl [(cl, .long)] s → va_P D vwCl (ws ++ [lA cl o (fun _ => 0)]) H1 → va_D (lA0 s) (ws ++ [lA cl o (fun _ => 0)]) → va_S (lA0 s) s.heap H1 locs → W p l e room_1 s m args below meth c H1 locs (cells + 1) (slots + 1) Q (F0 m 19 ls [.ref o])) : W p l e room_1 s m args below meth c H locs cells slots Q (F0 m 17 ls [.int 1]) := by
  refine va_newa (tys := []) (atype := .long) (ty := .long) (N' := 1) (a0 := (1, .inr (.inl (fun _ => 0)))) hx hb hw rfl hK hP hD hS (fun q h => h) (fun cA => rfl) (by decide) (by decide) (by decide) hc hs dL_law_17 (fun o cl H1 hKl hP1 hD1 hS1 => ?_)
  exact kk o cl H1 hKl hP1 hD1 hS1
theorem l_mkrow {p : Program} {l : Launch} {e : Env} {s : State} {m : MethodId} {args : Array Value} {below : List Frame} {meth : Method} {c : Code} {H : Heap} {locs : List Loc} {cells slots : Nat} {Q : State → Prop} {D : va_G} {ls : Array Slot} {E : rEn} {L : Nat → Nat} {cg : Nat → ClassId} {cr : rC} {st : gSt} {rw0 : va_W} {km a1 b : Nat} (hx : p.tables.exec = Jvm.exec) (hb : c.code = cL_law) (hw : (Cond.arrayClass .long).before args s = true) (hK : va_K D vwCl [] s) (hKg : va_K D vwCl (gty cg) s) (hKr : va_K D vwCl (rty cr) s) (hN : gN s ∧ xF (lA0 s) s s.heap ∧ xN s ∧ xT s ∧ hF s) (h : rH D E cr (gW L cg st) rw0 (lA0 s) s H locs) (hl : lv_has ls 9 [(2, .ref km), (1, .ref a1), (0, .ref b)]) (hc : cells + 1 ≤ room_1.cells) (hs : slots + 1 ≤ room_1.slots)
    (kk : ∀ (o : Nat) (cl : ClassId) (H1 : Heap) (ls1 : Array Slot), lH D E L cg cr cl o (fun _ => 0) st rw0 s H1 locs → lv_has ls1 9 [(4, .int 0), (3, .ref o), (2, .ref km), (1, .ref a1), (0, .ref b)] → W p l e room_1 s m args below meth c H1 locs (cells + 1) (slots + 1) Q (F0 m 23 ls1 [])) : W p l e room_1 s m args below meth c H locs cells slots Q (F0 m 16 ls []) := by
  obtain ⟨hP, hS, -, hE, hD, -⟩ := h
  refine lv_iconst (v := 1) hx hb dL_law_16 (by decide) ?_
  refine l_newa hx hb hw hK hP hD hS hc hs (fun o cl H1 hKl hP1 hD1 hS1 => ?_)
  rw [List.append_assoc] at hP1 hD1
  have h2 : lH D E L cg cr cl o (fun _ => 0) st rw0 s H1 locs := l_in hP1 hS1 ⟨hKg, hKr, hKl⟩ hN hE hD1
  refine lv_astore_n (lv' := [(3, .ref o), (2, .ref km), (1, .ref a1), (0, .ref b)]) hx hb dL_law_19 rfl hl (by decide) rfl (fun ls hl => ?_)
  refine lv_iconst (v := 0) hx hb dL_law_20 (by decide) ?_
  refine lv_istore (lv' := [(4, .int 0), (3, .ref o), (2, .ref km), (1, .ref a1), (0, .ref b)]) hx hb dL_law_21 hl (by decide) rfl (fun ls hl => ?_)
  exact kk o cl H1 ls h2 hl
set_option maxHeartbeats 4000000 in
/-- the loop's head -/
theorem l_head {p : Program} {l : Launch} {e : Env} {s : State} {m : MethodId} {below : List Frame} {meth : Method} {c : Code} {H : Heap} {locs : List Loc} {D : va_G} {ls : Array Slot} {E : rEn} {L : Nat → Nat} {cg : Nat → ClassId} {cr : rC} {cl : ClassId} {o b n km ks kp kt kw kc kpr kwk kq kst ko kr kd : Nat} {xs : Nat → Int32} (hn : n ≤ 4) (hl0 : l.stackTraces = false) (S : CallFix p m c cL_law 9 s #[Value.ref b] wsL_law RL) (hr : meth.sig.returnType = ret) (hlocks : meth.locks = false) (hR : lR room_1) (hX : va_X b n xs s s.heap) (hbl : b < s.heap.size) (h : lH D E L cg cr cl o (fun _ => 0) xs0 (rW0 E cr km ks kp kt kw kc kpr kwk kq kst ko kr kd) s H locs) (hl : lv_has ls 9 [(4, .int 0), (3, .ref o), (2, .ref km), (1, .ref (L 0)), (0, .ref b)]) : W p l e room_1 s m #[Value.ref b] below meth c H locs 1000 10000 (lw_Z below #[Value.ref b] s) (F0 m 23 ls []) := by
  have hx := S.1
  have hb := S.2.1
  have hS := h.2.1
  refine lv_iload hx hb dL_law_23 (lv_at hl 0 rfl) ?_
  refine lv_aload_n hx hb dL_law_25 rfl (lv_at hl 4 rfl) ?_
  refine va_slen hx hb hX hbl (Nat.not_le.mpr hbl) hS dL_law_26 ?_
  refine lv_iconst (v := 4) hx hb dL_law_27 (by decide) ?_
  refine lv_isub hx hb dL_law_28 ?_
  rcases Nat.lt_or_ge n 4 with q | q
  · have c0 : Int32.ofNat n - 4 < 0 := co_dec (N := 4) (P := fun n => Int32.ofNat n - 4 < 0) (by decide +kernel) q
    refine lv_icmp_gt (tgt := 1876) hx hb dL_law_29 (by decide) (fun _ => ?_) (fun c1 => absurd c0 c1)
    refine W.widen (k := 3000) (n := 50000) (by decide) (by decide) ?_
    exact l_end hx hb hr hlocks hS
  · obtain rfl : n = 4 := Nat.le_antisymm hn q
    refine lv_icmp_gt (tgt := 1876) hx hb dL_law_29 (by decide) (fun c1 => absurd c1 (by decide)) (fun _ => ?_)
    refine lv_aload_n hx hb dL_law_32 rfl (lv_at hl 4 rfl) ?_
    refine lv_iload hx hb dL_law_33 (lv_at hl 0 rfl) ?_
    refine l_el 0 hx hb ⟨hX, hbl⟩ hS (fun q => absurd q (by decide)) (by decide) dL_law_35 ?_
    refine lv_bipush (v := 31) hx hb dL_law_36 (by decide) ?_
    refine lv_iand hx hb dL_law_38 ?_
    exact l_switch hl0 S hR ⟨hX, hbl⟩ h hl (l_K hx hb hr hlocks ⟨hX, hbl⟩)
set_option maxHeartbeats 8000000 in
set_option maxRecDepth 100000 in
/-- from the entry, for every script of at most 4 ints, the law comes to its end with true -/
theorem whole_start {p : Program} {e : Env} {s : State} {m : MethodId} {below : List Frame} {meth : Method} {c : Code} (l : Launch) (hflags : l.flags = flags0) {b L : Nat} {xs : Nat → Int32} (hL : L ≤ 4) (C0 : lw_At p s m meth c b L xs) : W p l e room_1 s m #[Value.ref b] below meth c s.heap [] 0 0 (lw_Z below #[Value.ref b] s) (entryFrame m ([Value.ref b] : List Value).toArray 9) := by
  obtain ⟨hx, hb, hr, hml, hown, hts, hX, hbl, hlocks, hgv⟩ := id C0
  have hb : c.code = cL_law := hb
  have hl0 := l_flags hflags
  obtain ⟨D, hDk⟩ := e_D hts
  obtain ⟨cg, cr, hKg, hKr⟩ := e_cg hDk hts
  obtain ⟨E, hE, hES⟩ := e_rE hts hgv
  have hR : lR room_1 := ⟨Nat.le_of_ble_eq_true rfl, Nat.le_of_ble_eq_true rfl, Nat.le_of_ble_eq_true rfl, Nat.le_of_ble_eq_true rfl⟩
  have S : CallFix p m c cL_law 9 s #[Value.ref b] wsL_law RL := ⟨hx, hb, hml, hown, fun w h => hts w (wsL_law_in w h)⟩
  have h : nH D cg [] [] (lA0 s) s s.heap [] := ⟨fun k q h => by simp at h, va_S.rf, hKg, e_gS2 hts, ⟨fun i j p q h => by simp at h, fun k q h => by simp at h⟩, fun q h => h⟩
  have hl := lv_entry ([.ref b]) (n := 9) (Nat.le_of_ble_eq_true rfl)
  rw [lg_entry_eq]
  generalize (lg_sl ([.ref b]) ++ List.replicate (9 - (lg_sl ([.ref b])).length) Slot.unset).toArray = ls at hl ⊢
  have hl : lv_has ls 9 [(0, .ref b)] := hl
  refine n_new S h (ci := 8) (C := RX6) (T := TX6) (N := 3) (fs := [.null, .null, .null]) tyX6 tyX6_ok inlX6 (by decide +kernel) (by decide +kernel) (by decide +kernel) rfl (fun j hj => by rcases (show j = 0 ∨ j = 1 ∨ j = 2 by omega) with rfl | rfl | rfl <;> rfl) (Nat.le_of_ble_eq_true rfl) (Nat.le_of_ble_eq_true rfl) dL_law_0 (fun a H h => ?_)
  refine lv_dup hx hb dL_law_3 rfl ?_
  refine n_callI S h (fun hA hD => n_X6_init l D cg _ (lA0 s) _ a hA hD) ⟨callB_of 0 S.2.2.2.2 gL_law_X6_init rfl rfl rfl (S.2.2.2.2 _ (show Cond.initialized RX6 ∈ wsL_law by decide +kernel)) (S.2.2.2.2 _ (show Cond.methodLink RL 98 yX6_init ∈ wsL_law by decide +kernel)) (by decide +kernel) ⟨(Nat.le_of_ble_eq_true rfl), (Nat.le_of_ble_eq_true rfl)⟩, rfl, S.2.2.2.2 _ (show Cond.instanceMethod yX6_init ∈ wsL_law by decide +kernel)⟩ rfl hl.1 rfl (Nat.le_of_ble_eq_true rfl) dL_law_4 ⟨(Nat.le_of_ble_eq_true rfl), (Nat.le_of_ble_eq_true rfl)⟩ (fun u H locs h => ?_)
  refine lv_astore_n (lv' := [(1, .ref a), (0, .ref b)]) hx hb dL_law_7 rfl hl (by decide) rfl (fun ls hl => ?_)
  obtain ⟨L1, hL1⟩ : ∃ L1 : Nat → Nat, L1 = cl_L a u.1 u.2.1 u.2.2.1 u.2.2.2.1 u.2.2.2.2.1 u.2.2.2.2.2.1 u.2.2.2.2.2.2.1 u.2.2.2.2.2.2.2.1 u.2.2.2.2.2.2.2.2.1 u.2.2.2.2.2.2.2.2.2 := ⟨_, rfl⟩
  have ea : a = L1 0 := by rw [hL1]; rfl
  have h : nH D cg [] (gW L1 cg xs0) (lA0 s) s H locs := by rw [hL1]; exact h
  rw [ea] at hl
  have h : rH D E cr (gW L1 cg xs0) [] (lA0 s) s H locs := ⟨by rw [List.append_nil]; exact h.1, h.2.1, hKr, ⟨hE, hES⟩, by rw [List.append_nil]; exact h.2.2.2.2.1, fun q h => h⟩
  refine r_new S h (ci := 12) (C := RX10) (T := TX10) (N := 3) (fs := [.int 0, .null, .null]) tyX10 tyX10_ok inlX10 (by decide +kernel) (by decide +kernel) (by decide +kernel) rfl (fun j hj => by rcases (show j = 0 ∨ j = 1 ∨ j = 2 by omega) with rfl | rfl | rfl <;> rfl) (Nat.le_of_ble_eq_true rfl) (Nat.le_of_ble_eq_true rfl) dL_law_8 (fun km H h => ?_)
  refine lv_dup hx hb dL_law_11 rfl ?_
  refine r_callI S h (k_X10_init l D E cr _ (lA0 s) km) ⟨callB_of 0 S.2.2.2.2 gL_law_X10_init rfl rfl rfl (S.2.2.2.2 _ (show Cond.initialized RX10 ∈ wsL_law by decide +kernel)) (S.2.2.2.2 _ (show Cond.methodLink RL 101 yX10_init ∈ wsL_law by decide +kernel)) (by decide +kernel) ⟨(Nat.le_of_ble_eq_true rfl), (Nat.le_of_ble_eq_true rfl)⟩, rfl, S.2.2.2.2 _ (show Cond.instanceMethod yX10_init ∈ wsL_law by decide +kernel)⟩ (r_preS h [] [0] (wr := []) (wc := [(km, .inr (12, [.int 0, .null, .null]))]) rfl rfl rfl _) rfl hl.1 rfl (Nat.le_of_ble_eq_true rfl) dL_law_12 ⟨(Nat.le_of_ble_eq_true rfl), (Nat.le_of_ble_eq_true rfl)⟩ (fun z H locs _ h => ?_)
  refine lv_astore_n (lv' := [(2, .ref km), (1, .ref (L1 0)), (0, .ref b)]) hx hb dL_law_15 rfl hl (by decide) rfl (fun ls hl => ?_)
  have hw : (Cond.arrayClass .long).before #[Value.ref b] s = true := S.2.2.2.2 _ (show Cond.arrayClass .long ∈ wsL_law by decide +kernel)
  have hN : gN s ∧ xF (lA0 s) s s.heap ∧ xN s ∧ xT s ∧ hF s := ⟨e_gN hts, e_xF hts hgv, e_xN hts, e_xT hts hgv, e_hF hgv⟩
  refine l_mkrow (L := L1) (st := xs0) (rw0 := rW0 E cr km z.1 z.2.1 z.2.2.1 z.2.2.2.2.2.2.2.2.2.2.1 z.2.2.2.1 z.2.2.2.2.1 z.2.2.2.2.2.1 z.2.2.2.2.2.2.1 z.2.2.2.2.2.2.2.1 z.2.2.2.2.2.2.2.2.1 z.2.2.2.2.2.2.2.2.2.1 z.2.2.2.2.2.2.2.2.2.2.2) hx hb hw ⟨hDk, fun k q h => by simp at h⟩ hKg hKr hN h hl (Nat.le_of_ble_eq_true rfl) (Nat.le_of_ble_eq_true rfl) (fun o cl H ls h hl => ?_)
  refine W.widen (k := 1000) (n := 10000) (by decide) (by decide) ?_
  exact l_head hL hl0 S hr hlocks hR hX hbl h hl
