/-! doubles -/
def rMd (l : Launch) (y : MethodName) (wy : List Cond) (rm : Room) (D : va_G) (E : rEn) (cy : rC) (X ws : va_W) (A : Nat → Prop) (av : List Value) (r : UInt64) {S : Type} (out : S → va_W) (ok : S → Prop) (mc ms : Nat) : Prop :=
  Met l y wy rm (rPc D E cy X ws A av) (va_Qd (fun (q : UInt64) (u : S) => q = r ∧ ok u) (fun u t => va_P D vwCl (X ++ out u) t.heap ∧ va_D A (X ++ out u)) A) mc ms A
section RW2
variable {p : Program} {l : Launch} {e : Env} {R : Room} {s : State} {m : MethodId} {args : Array Value} {below : List Frame} {meth : Method} {c : Code} {H : Heap} {locs : List Loc} {cells slots : Nat} {Q : State → Prop}
variable {cc : ByteArray} {nL : Nat} {Ts : List Cond} {own : String} {D : va_G} {E : rEn} {cy : rC} {X ws : va_W} {A : Nat → Prop} {pc : Nat} {ls : Array Slot} {rest : List Value}
theorem r_retd (S : CallFix p m c cc nL s args Ts own) (h : rH D E cy X ws A s H locs) {v r : UInt64} {S0 : Type} {out : S0 → va_W} {ok : S0 → Prop} {mc ms : Nat} (u : S0) (hu : out u = ws) (hok : ok u) (hr : meth.sig.returnType = some .double) (hlocks : meth.locks = false) (hv : v = r) (hm : cells ≤ mc ∧ slots ≤ ms) (hdg : decode cc pc = .ok (.dreturn, 1)) :
    W p l e R s m args below meth c H locs cells slots (MQ below (va_Qd (fun (q : UInt64) (u : S0) => q = r ∧ ok u) (fun u t => va_P D vwCl (X ++ out u) t.heap ∧ va_D A (X ++ out u)) A) args s mc ms A) (F0 m pc ls [.double v]) := by
  obtain ⟨hx, hb, -, hown, hts⟩ := S
  obtain ⟨hP, hS, hK, -, hD, -⟩ := h
  subst hu
  refine W.widen (k := mc) (n := ms) hm.1 hm.2 ?_
  exact W.dret hx hb hr (fun t ht hW => ⟨⟨v, u, rfl, ⟨hv, hok⟩, by rw [ht]; exact hP, hD⟩, hS.F ht⟩) hS.2.2 hdg hlocks
end RW2
set_option maxHeartbeats 4000000 in
set_option maxRecDepth 100000 in
/-- AbstractCollection() -/
theorem k_AC_init (l : Launch) (D : va_G) (E : rEn) (cy : rC) (X : va_W) (A : Nat → Prop) (a : Nat) : rMv l yJxa1e45_init_da8c8 wsJxa1e45_init_da8c8 { frames := 1, cells := 0, slots := 0, locals := 12 } D E cy X [] A [.ref a] (fun (_ : Unit) => []) (fun _ => True) 0 0 := by
  refine r_entry (cc := cJxa1e45_init_da8c8) (maxL := 1) (ret := none) (by decide +kernel) rfl (Nat.le_of_ble_eq_true rfl) ?_
  intro p e s m args below meth c ls B
  obtain ⟨S, hr, hlocks, hmi, h, hl⟩ := B
  have hx := S.1
  have hb := S.2.1
  have hts := S.2.2.2.2
  have hl : lv_has ls 1 [(0, .ref a)] := hl
  refine lv_aload_n hx hb dJxa1e45_init_da8c8_0 rfl (lv_at hl 0 rfl) ?_
  refine W.objInit hx hb S.2.2.2.1 (hts (.methodLink RJxa1e45 1 objectInit) (by decide +kernel)) (hts (.instanceMethod objectInit) (by decide +kernel)) (hts (.code objectInit ⟨#[0xb1]⟩ 1 none) (by decide +kernel)) rfl (by rw [S.2.2.1]; exact hl.1) rfl dJxa1e45_init_da8c8_1 (Nat.le_of_ble_eq_true rfl) (Nat.le_of_ble_eq_true rfl) ?_
  refine W.eq (g2 := F0 m 4 ls []) rfl ?_
  exact r_retv S h () rfl trivial hr hlocks ⟨Nat.le_of_ble_eq_true rfl, Nat.le_of_ble_eq_true rfl⟩ dJxa1e45_init_da8c8_4
set_option maxHeartbeats 4000000 in
set_option maxRecDepth 100000 in
/-- AbstractList() -/
theorem k_ALs_init (l : Launch) (D : va_G) (E : rEn) (cy : rC) (X : va_W) (A : Nat → Prop) (a : Nat) : rMv l yJxc12de_init_da8c8 wsJxc12de_init_da8c8 { frames := 2, cells := 0, slots := 0, locals := 32 } D E cy X [(a, .inr (1, [.int 0, .null, .int 0]))] A [.ref a] (fun (_ : Unit) => [(a, .inr (1, [.int 0, .null, .int 0]))]) (fun _ => True) 0 0 := by
  refine r_entry (cc := cJxc12de_init_da8c8) (maxL := 1) (ret := none) (by decide +kernel) rfl (Nat.le_of_ble_eq_true rfl) ?_
  intro p e s m args below meth c ls B
  obtain ⟨S, hr, hlocks, hmi, h, hl⟩ := B
  have hx := S.1
  have hb := S.2.1
  have hts := S.2.2.2.2
  have inJx4a65c : ∀ w ∈ wsJx4a65c0, w ∈ wsJxc12de_init_da8c8 := by decide +kernel
  have hl : lv_has ls 1 [(0, .ref a)] := hl
  refine lv_aload_n hx hb dJxc12de_init_da8c8_0 rfl (lv_at hl 0 rfl) ?_
  refine r_callI S h (k_AC_init l D E cy _ A a) (cwI 0 hts gJxc12de_init_da8c8_Jxa1e45_init_da8c8 rfl rfl rfl (hts (.initialized RJxa1e45) (by decide +kernel)) (hts (.methodLink RJxc12de 1 yJxa1e45_init_da8c8) (by decide +kernel)) (hts (.instanceMethod yJxa1e45_init_da8c8) (by decide +kernel)) rfl (by decide +kernel) ⟨Nat.le_of_ble_eq_true rfl, Nat.le_of_ble_eq_true rfl⟩) (r_preS h [0] [] (wr := [(a, .inr (1, [.int 0, .null, .int 0]))]) (wc := []) rfl rfl rfl _) rfl hl.1 rfl (Nat.le_of_ble_eq_true rfl) dJxc12de_init_da8c8_1 ⟨Nat.le_of_ble_eq_true rfl, Nat.le_of_ble_eq_true rfl⟩ (fun u1 H locs k2 h => ?_)
  have h : rH D E cy X [(a, .inr (1, [.int 0, .null, .int 0]))] A s H _ := h
  refine lv_aload_n hx hb dJxc12de_init_da8c8_4 rfl (lv_at hl 0 rfl) ?_
  refine lv_iconst (v := 0) hx hb dJxc12de_init_da8c8_5 (by decide) ?_
  refine r_put S h 0 tyJx4a65c tyJx4a65c_ok nmJx4a65c inJx4a65c (ref := "java/util/AbstractList") rfl rfl (k := 0) (by decide) (by decide +kernel) (fun _ h9 => h9) rfl rfl rfl rfl (Nat.le_of_ble_eq_true rfl) dJxc12de_init_da8c8_6 (fun H locs h => ?_)
  have h : rH D E cy X [(a, .inr (1, [.int 0, .null, .int 0]))] A s H _ := h
  exact r_retv S h () rfl trivial hr hlocks ⟨Nat.le_of_ble_eq_true rfl, Nat.le_of_ble_eq_true rfl⟩ dJxc12de_init_da8c8_9
set_option maxHeartbeats 4000000 in
set_option maxRecDepth 100000 in
/-- ArrayList() -/
theorem k_AL_init (l : Launch) (D : va_G) (E : rEn) (cy : rC) (X : va_W) (A : Nat → Prop) (a : Nat) : rMv l yJx4a65c_init_da8c8 wsJx4a65c_init_da8c8 { frames := 3, cells := 0, slots := 0, locals := 52 } D E cy X [(a, .inr (1, [.int 0, .null, .int 0]))] A [.ref a] (fun (_ : Unit) => [(a, .inr (1, [.int 0, .ref E.1, .int 0]))]) (fun _ => True) 0 0 := by
  refine r_entry (cc := cJx4a65c_init_da8c8) (maxL := 1) (ret := none) (by decide +kernel) rfl (Nat.le_of_ble_eq_true rfl) ?_
  intro p e s m args below meth c ls B
  obtain ⟨S, hr, hlocks, hmi, h, hl⟩ := B
  have hx := S.1
  have hb := S.2.1
  have hts := S.2.2.2.2
  have inJx4a65c : ∀ w ∈ wsJx4a65c0, w ∈ wsJx4a65c_init_da8c8 := by decide +kernel
  have hl : lv_has ls 1 [(0, .ref a)] := hl
  refine lv_aload_n hx hb dJx4a65c_init_da8c8_0 rfl (lv_at hl 0 rfl) ?_
  refine r_callI S h (k_ALs_init l D E cy _ A a) (cwI 0 hts gJx4a65c_init_da8c8_Jxc12de_init_da8c8 rfl rfl rfl (hts (.initialized RJxc12de) (by decide +kernel)) (hts (.methodLink RJx4a65c 1 yJxc12de_init_da8c8) (by decide +kernel)) (hts (.instanceMethod yJxc12de_init_da8c8) (by decide +kernel)) rfl (by decide +kernel) ⟨Nat.le_of_ble_eq_true rfl, Nat.le_of_ble_eq_true rfl⟩) (r_preS h [] [0] (wr := []) (wc := [(a, .inr (1, [.int 0, .null, .int 0]))]) rfl rfl rfl _) rfl hl.1 rfl (Nat.le_of_ble_eq_true rfl) dJx4a65c_init_da8c8_1 ⟨Nat.le_of_ble_eq_true rfl, Nat.le_of_ble_eq_true rfl⟩ (fun u1 H locs k2 h => ?_)
  have h : rH D E cy X [(a, .inr (1, [.int 0, .null, .int 0]))] A s H _ := h
  refine lv_aload_n hx hb dJx4a65c_init_da8c8_4 rfl (lv_at hl 0 rfl) ?_
  refine r_gets0 S h (by decide +kernel) dJx4a65c_init_da8c8_5 ?_
  refine r_put S h 0 tyJx4a65c tyJx4a65c_ok nmJx4a65c inJx4a65c (ref := "java/util/ArrayList") rfl rfl (k := 1) (by decide) (by decide +kernel) (fun _ h9 => h9) rfl rfl rfl rfl (Nat.le_of_ble_eq_true rfl) dJx4a65c_init_da8c8_8 (fun H locs h => ?_)
  have h : rH D E cy X [(a, .inr (1, [.int 0, .ref E.1, .int 0]))] A s H _ := h
  exact r_retv S h () rfl trivial hr hlocks ⟨Nat.le_of_ble_eq_true rfl, Nat.le_of_ble_eq_true rfl⟩ dJx4a65c_init_da8c8_11
set_option maxHeartbeats 4000000 in
set_option maxRecDepth 100000 in
/-- size() -/
theorem k_AL_size (l : Launch) (D : va_G) (E : rEn) (cy : rC) (X : va_W) (A : Nat → Prop) (a d : Nat) (mo n : Int32) : rMi l yJx4a65c_size_8abf5 wsJx4a65c_size_8abf5 { frames := 0, cells := 0, slots := 0, locals := 0 } D E cy X [(a, .inr (1, [.int mo, .ref d, .int n]))] A [.ref a] n (fun (_ : Unit) => [(a, .inr (1, [.int mo, .ref d, .int n]))]) (fun _ => True) 0 0 := by
  refine r_entry (cc := cJx4a65c_size_8abf5) (maxL := 1) (ret := (some .int)) (by decide +kernel) rfl (Nat.le_of_ble_eq_true rfl) ?_
  intro p e s m args below meth c ls B
  obtain ⟨S, hr, hlocks, hmi, h, hl⟩ := B
  have hx := S.1
  have hb := S.2.1
  have hts := S.2.2.2.2
  have inJx4a65c : ∀ w ∈ wsJx4a65c0, w ∈ wsJx4a65c_size_8abf5 := by decide +kernel
  have hl : lv_has ls 1 [(0, .ref a)] := hl
  refine lv_aload_n hx hb dJx4a65c_size_8abf5_0 rfl (lv_at hl 0 rfl) ?_
  refine r_get S h 0 inJx4a65c (ref := "java/util/ArrayList") rfl rfl (k := 2) (by decide) (by decide +kernel) (fun _ h9 => h9) rfl dJx4a65c_size_8abf5_1 ?_
  exact r_reti S h () rfl trivial hr hlocks rfl (rfl) ⟨Nat.le_of_ble_eq_true rfl, Nat.le_of_ble_eq_true rfl⟩ dJx4a65c_size_8abf5_4
set_option maxHeartbeats 4000000 in
set_option maxRecDepth 100000 in
/-- isEmpty() of an empty list -/
theorem k_AL_isEmpty (l : Launch) (D : va_G) (E : rEn) (cy : rC) (X : va_W) (A : Nat → Prop) (a d : Nat) (mo : Int32) : rMi l yJx4a65c_isEmpty_aae02 wsJx4a65c_isEmpty_aae02 { frames := 0, cells := 0, slots := 0, locals := 0 } D E cy X [(a, .inr (1, [.int mo, .ref d, .int 0]))] A [.ref a] 1 (fun (_ : Unit) => [(a, .inr (1, [.int mo, .ref d, .int 0]))]) (fun _ => True) 0 0 := by
  refine r_entry (cc := cJx4a65c_isEmpty_aae02) (maxL := 1) (ret := (some .boolean)) (by decide +kernel) rfl (Nat.le_of_ble_eq_true rfl) ?_
  intro p e s m args below meth c ls B
  obtain ⟨S, hr, hlocks, hmi, h, hl⟩ := B
  have hx := S.1
  have hb := S.2.1
  have hts := S.2.2.2.2
  have inJx4a65c : ∀ w ∈ wsJx4a65c0, w ∈ wsJx4a65c_isEmpty_aae02 := by decide +kernel
  have hl : lv_has ls 1 [(0, .ref a)] := hl
  refine lv_aload_n hx hb dJx4a65c_isEmpty_aae02_0 rfl (lv_at hl 0 rfl) ?_
  refine r_get S h 0 inJx4a65c (ref := "java/util/ArrayList") rfl rfl (k := 2) (by decide) (by decide +kernel) (fun _ h9 => h9) rfl dJx4a65c_isEmpty_aae02_1 ?_
  refine lv_if_ne (tgt := 11) hx hb dJx4a65c_isEmpty_aae02_4 (by decide) (fun c1 => absurd (by decide) c1) (fun c1 => ?_)
  refine lv_iconst (v := 1) hx hb dJx4a65c_isEmpty_aae02_7 (by decide) ?_
  refine lv_goto (tgt := 12) hx hb dJx4a65c_isEmpty_aae02_8 (by decide) ?_
  exact r_reti S h () rfl trivial hr hlocks rfl (rfl) ⟨Nat.le_of_ble_eq_true rfl, Nat.le_of_ble_eq_true rfl⟩ dJx4a65c_isEmpty_aae02_12
set_option maxHeartbeats 4000000 in
set_option maxRecDepth 100000 in
/-- elementData(0) -/
theorem k_AL_elem0 (l : Launch) (D : va_G) (E : rEn) (cy : rC) (X : va_W) (A : Nat → Prop) (a d q : Nat) (mo n : Int32) : rMr l yJx4a65c_elementData_915e3 wsJx4a65c_elementData_915e3 { frames := 0, cells := 0, slots := 0, locals := 0 } D E cy X [(a, .inr (1, [.int mo, .ref d, .int n])), rAr cy d 10 (va_up (fun _ => none) 0 (some q))] A [.ref a, .int 0] (fun (_ : Unit) => q) (fun (_ : Unit) => [(a, .inr (1, [.int mo, .ref d, .int n])), rAr cy d 10 (va_up (fun _ => none) 0 (some q))]) (fun _ => True) 0 0 := by
  refine r_entry (cc := cJx4a65c_elementData_915e3) (maxL := 2) (ret := (some (.object "java/lang/Object"))) (by decide +kernel) rfl (Nat.le_of_ble_eq_true rfl) ?_
  intro p e s m args below meth c ls B
  obtain ⟨S, hr, hlocks, hmi, h, hl⟩ := B
  have hx := S.1
  have hb := S.2.1
  have hts := S.2.2.2.2
  have inJx4a65c : ∀ w ∈ wsJx4a65c0, w ∈ wsJx4a65c_elementData_915e3 := by decide +kernel
  have hl : lv_has ls 2 [(0, .ref a), (1, .int 0)] := hl
  refine lv_aload_n hx hb dJx4a65c_elementData_915e3_0 rfl (lv_at hl 0 rfl) ?_
  refine r_get S h 0 inJx4a65c (ref := "java/util/ArrayList") rfl rfl (k := 1) (by decide) (by decide +kernel) (fun _ h9 => h9) rfl dJx4a65c_elementData_915e3_1 ?_
  refine lv_iload_n hx hb dJx4a65c_elementData_915e3_4 rfl (lv_at hl 1 rfl) ?_
  refine r_aaldS S h (q := q) 1 rfl (by unfold vp_in; decide) rfl dJx4a65c_elementData_915e3_5 ?_
  exact r_retr S h (Or.inl ⟨_, rfl⟩) () rfl trivial hr hlocks rfl ⟨Nat.le_of_ble_eq_true rfl, Nat.le_of_ble_eq_true rfl⟩ dJx4a65c_elementData_915e3_6
set_option maxHeartbeats 4000000 in
set_option maxRecDepth 100000 in
/-- Preconditions.checkIndex -/
theorem k_chk3 (l : Launch) (D : va_G) (E : rEn) (cy : rC) (X : va_W) (A : Nat → Prop) (i n : Int32) (h0 : ¬ i < 0) (h1 : i < n) : rMi l yJ3_checkIndex_8e157 wsJ3_checkIndex_8e157 { frames := 0, cells := 0, slots := 0, locals := 0 } D E cy X [] A [.int i, .int n, .null] i (fun (_ : Unit) => []) (fun _ => True) 0 0 := by
  refine r_entry (cc := cJ3_checkIndex_8e157) (maxL := 3) (ret := (some .int)) (by decide +kernel) rfl (Nat.le_of_ble_eq_true rfl) ?_
  intro p e s m args below meth c ls B
  obtain ⟨S, hr, hlocks, hmi, h, hl⟩ := B
  have hx := S.1
  have hb := S.2.1
  have hts := S.2.2.2.2
  have hl : lv_has ls 3 [(0, .int i), (1, .int n), (2, .null)] := hl
  refine lv_iload_n hx hb dJ3_checkIndex_8e157_0 rfl (lv_at hl 0 rfl) ?_
  refine lv_if_lt (tgt := 9) hx hb dJ3_checkIndex_8e157_1 (by decide) (fun c1 => absurd c1 h0) (fun c1 => ?_)
  refine lv_iload_n hx hb dJ3_checkIndex_8e157_4 rfl (lv_at hl 0 rfl) ?_
  refine lv_iload_n hx hb dJ3_checkIndex_8e157_5 rfl (lv_at hl 1 rfl) ?_
  refine lv_icmp_lt (tgt := 16) hx hb dJ3_checkIndex_8e157_6 (by decide) (fun c2 => ?_) (fun c2 => absurd h1 c2)
  refine lv_iload_n hx hb dJ3_checkIndex_8e157_16 rfl (lv_at hl 0 rfl) ?_
  exact r_reti S h () rfl trivial hr hlocks rfl (rfl) ⟨Nat.le_of_ble_eq_true rfl, Nat.le_of_ble_eq_true rfl⟩ dJ3_checkIndex_8e157_17
set_option maxHeartbeats 4000000 in
set_option maxRecDepth 100000 in
/-- Objects.checkIndex -/
theorem k_chk (l : Launch) (D : va_G) (E : rEn) (cy : rC) (X : va_W) (A : Nat → Prop) (i n : Int32) (h0 : ¬ i < 0) (h1 : i < n) : rMi l yJ15_checkIndex_7cf53 wsJ15_checkIndex_7cf53 { frames := 1, cells := 0, slots := 0, locals := 22 } D E cy X [] A [.int i, .int n] i (fun (_ : Unit) => []) (fun _ => True) 0 0 := by
  refine r_entry (cc := cJ15_checkIndex_7cf53) (maxL := 2) (ret := (some .int)) (by decide +kernel) rfl (Nat.le_of_ble_eq_true rfl) ?_
  intro p e s m args below meth c ls B
  obtain ⟨S, hr, hlocks, hmi, h, hl⟩ := B
  have hx := S.1
  have hb := S.2.1
  have hts := S.2.2.2.2
  have hl : lv_has ls 2 [(0, .int i), (1, .int n)] := hl
  refine lv_iload_n hx hb dJ15_checkIndex_7cf53_0 rfl (lv_at hl 0 rfl) ?_
  refine lv_iload_n hx hb dJ15_checkIndex_7cf53_1 rfl (lv_at hl 1 rfl) ?_
  refine lv_null hx hb dJ15_checkIndex_7cf53_2 ?_
  refine r_calliS S h (k_chk3 l D E cy _ A i n h0 h1) (va_cwS 3 hts gJ15_checkIndex_7cf53_J3_checkIndex_8e157 rfl rfl rfl (by decide +kernel) ⟨Nat.le_of_ble_eq_true rfl, Nat.le_of_ble_eq_true rfl⟩) (r_preS h [] [] (wr := []) (wc := []) rfl rfl rfl _) rfl hl.1 rfl (Nat.le_of_ble_eq_true rfl) dJ15_checkIndex_7cf53_3 ⟨Nat.le_of_ble_eq_true rfl, Nat.le_of_ble_eq_true rfl⟩ (fun u1 H locs k2 h => ?_)
  have h : rH D E cy X [] A s H _ := h
  exact r_reti S h () rfl trivial hr hlocks rfl (rfl) ⟨Nat.le_of_ble_eq_true rfl, Nat.le_of_ble_eq_true rfl⟩ dJ15_checkIndex_7cf53_6
set_option maxHeartbeats 4000000 in
set_option maxRecDepth 100000 in
/-- get(0) of a list of one -/
theorem k_AL_get0 (l : Launch) (D : va_G) (E : rEn) (cy : rC) (X : va_W) (A : Nat → Prop) (a d q : Nat) (mo : Int32) : rMr l yJx4a65c_get_915e3 wsJx4a65c_get_915e3 { frames := 2, cells := 0, slots := 0, locals := 43 } D E cy X [(a, .inr (1, [.int mo, .ref d, .int 1])), rAr cy d 10 (va_up (fun _ => none) 0 (some q))] A [.ref a, .int 0] (fun (_ : Unit) => q) (fun (_ : Unit) => [(a, .inr (1, [.int mo, .ref d, .int 1])), rAr cy d 10 (va_up (fun _ => none) 0 (some q))]) (fun _ => True) 0 0 := by
  refine r_entry (cc := cJx4a65c_get_915e3) (maxL := 2) (ret := (some (.object "java/lang/Object"))) (by decide +kernel) rfl (Nat.le_of_ble_eq_true rfl) ?_
  intro p e s m args below meth c ls B
  obtain ⟨S, hr, hlocks, hmi, h, hl⟩ := B
  have hx := S.1
  have hb := S.2.1
  have hts := S.2.2.2.2
  have inJx4a65c : ∀ w ∈ wsJx4a65c0, w ∈ wsJx4a65c_get_915e3 := by decide +kernel
  have hl : lv_has ls 2 [(0, .ref a), (1, .int 0)] := hl
  refine lv_iload_n hx hb dJx4a65c_get_915e3_0 rfl (lv_at hl 1 rfl) ?_
  refine lv_aload_n hx hb dJx4a65c_get_915e3_1 rfl (lv_at hl 0 rfl) ?_
  refine r_get S h 0 inJx4a65c (ref := "java/util/ArrayList") rfl rfl (k := 2) (by decide) (by decide +kernel) (fun _ h9 => h9) rfl dJx4a65c_get_915e3_2 ?_
  refine r_calliS S h (k_chk l D E cy _ A 0 1 (by decide) (by decide)) (va_cwS 2 hts gJx4a65c_get_915e3_J15_checkIndex_7cf53 rfl rfl rfl (by decide +kernel) ⟨Nat.le_of_ble_eq_true rfl, Nat.le_of_ble_eq_true rfl⟩) (r_preS h [0, 1] [] (wr := [(a, .inr (1, [.int mo, .ref d, .int 1])), rAr cy d 10 (va_up (fun _ => none) 0 (some q))]) (wc := []) rfl rfl rfl _) rfl hl.1 rfl (Nat.le_of_ble_eq_true rfl) dJx4a65c_get_915e3_5 ⟨Nat.le_of_ble_eq_true rfl, Nat.le_of_ble_eq_true rfl⟩ (fun u1 H locs k2 h => ?_)
  have h : rH D E cy X [(a, .inr (1, [.int mo, .ref d, .int 1])), rAr cy d 10 (va_up (fun _ => none) 0 (some q))] A s H _ := h
  refine lv_pop hx hb dJx4a65c_get_915e3_8 rfl ?_
  refine lv_aload_n hx hb dJx4a65c_get_915e3_9 rfl (lv_at hl 0 rfl) ?_
  refine lv_iload_n hx hb dJx4a65c_get_915e3_10 rfl (lv_at hl 1 rfl) ?_
  refine r_callr S h (k_AL_elem0 l D E cy _ A a d q mo 1) (cwV 1 hts gJx4a65c_get_915e3_Jx4a65c_elementData_915e3 rfl rfl rfl (by decide +kernel) ⟨Nat.le_of_ble_eq_true rfl, Nat.le_of_ble_eq_true rfl⟩) (r_preV h [] [0, 1] (wr := []) (wc := [(a, .inr (1, [.int mo, .ref d, .int 1])), rAr cy d 10 (va_up (fun _ => none) 0 (some q))]) rfl rfl rfl 0 rfl rfl _) rfl hl.1 rfl (Nat.le_of_ble_eq_true rfl) dJx4a65c_get_915e3_11 ⟨Nat.le_of_ble_eq_true rfl, Nat.le_of_ble_eq_true rfl⟩ (fun u3 H locs k4 h => ?_)
  have h : rH D E cy X [(a, .inr (1, [.int mo, .ref d, .int 1])), rAr cy d 10 (va_up (fun _ => none) 0 (some q))] A s H _ := h
  exact r_retr S h (Or.inl ⟨_, rfl⟩) () rfl trivial hr hlocks rfl ⟨Nat.le_of_ble_eq_true rfl, Nat.le_of_ble_eq_true rfl⟩ dJx4a65c_get_915e3_14
