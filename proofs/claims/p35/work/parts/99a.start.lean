/-! THE LAW, from its entry. -/
def lA (s : State) : Nat → Prop := fun q => s.heap.size ≤ q
theorem l_end {p : Program} {l : Launch} {e : Env} {s : State} {m : MethodId} {b : Nat} {below : List Frame} {meth : Method} {c : Code} {H : Heap} {locs : List Loc} {ls : Array Slot} (hx : p.tables.exec = Jvm.exec) (hb : c.code = cL_law) (hr : meth.sig.returnType = ret) (hlocks : meth.locks = false) (hS : va_S (lA s) s.heap H locs) : W p l e room_1 s m #[Value.ref b] below meth c H locs 1000 10000 (lw_Z below #[Value.ref b] s) (F0 m 597 ls []) := by
  refine lv_iconst (v := 1) hx hb dL_law_597 (by decide) ?_
  refine va_forget (fun q hq => hS.2.2 q hq) ?_
  refine W.widen (k := 600130) (n := 7301080) (by omega) (by omega) ?_
  exact lw_ret hx hb hr hlocks dL_law_598
theorem xs0_P1 : P1 xs0 xs0 0 := ⟨fun _ _ _ => rfl, x0_a.2.2.2.2.2.2, x0_j⟩
theorem whole_start {p : Program} {e : Env} {s : State} {m : MethodId} {below : List Frame} {meth : Method} {c : Code} (l : Launch) (hflags : l.flags = flags0) {b L : Nat} {xs : Nat → Int32} (hL : L ≤ 260) (C0 : lw_At p s m meth c b L xs) : W p l e room_1 s m #[Value.ref b] below meth c s.heap [] 0 0 (lw_Z below #[Value.ref b] s) (entryFrame m ([Value.ref b] : List Value).toArray 17) := by
  obtain ⟨hx, hb, hr, hml, hown, hts, hX, hbl, hlocks, hgv⟩ := id C0
  have hb : c.code = cL_law := hb
  obtain ⟨D, hDk⟩ := e_D hts
  obtain ⟨cg, hKg⟩ := e_cg hDk hts
  have S : CallFix p m c cL_law 17 s #[Value.ref b] wsL_law RL := ⟨hx, hb, hml, hown, fun w h => hts w (wsL_law_in w h)⟩
  have h : nH D cg [] [] (lA s) s s.heap [] := ⟨fun k q h => by simp at h, va_S.rf, hKg, e_gS2 hts, ⟨fun i j p q h => by simp at h, fun k q h => by simp at h⟩, fun q h => h⟩
  have hl := lv_entry ([.ref b]) (n := 17) (Nat.le_of_ble_eq_true rfl)
  rw [lg_entry_eq]
  generalize (lg_sl ([.ref b]) ++ List.replicate (17 - (lg_sl ([.ref b])).length) Slot.unset).toArray = ls at hl ⊢
  have hl : lv_has ls 17 [(0, .ref b)] := hl
  refine n_new S h (ci := 6) (C := RX6) (T := TX6) (N := 3) (fs := [.null, .null, .null]) tyX6 tyX6_ok inlX6 (by decide +kernel) (by decide +kernel) (by decide +kernel) rfl (fun j hj => by rcases (show j = 0 ∨ j = 1 ∨ j = 2 by omega) with rfl | rfl | rfl <;> rfl) (Nat.le_of_ble_eq_true rfl) (Nat.le_of_ble_eq_true rfl) dL_law_0 (fun a H h => ?_)
  refine lv_dup hx hb dL_law_3 rfl ?_
  refine n_callI S h (fun hA hD => n_X6_init l D cg _ (lA s) _ a hA hD) ⟨callB_of 0 S.2.2.2.2 gL_law_X6_init rfl rfl rfl (S.2.2.2.2 _ (show Cond.initialized RX6 ∈ wsL_law by decide +kernel)) (S.2.2.2.2 _ (show Cond.methodLink RL 75 yX6_init ∈ wsL_law by decide +kernel)) (by decide +kernel) ⟨(Nat.le_of_ble_eq_true rfl), (Nat.le_of_ble_eq_true rfl)⟩, rfl, S.2.2.2.2 _ (show Cond.instanceMethod yX6_init ∈ wsL_law by decide +kernel)⟩ rfl hl.1 rfl (Nat.le_of_ble_eq_true rfl) dL_law_4 ⟨(Nat.le_of_ble_eq_true rfl), (Nat.le_of_ble_eq_true rfl)⟩ (fun u H locs h => ?_)
  refine lv_astore_n (lv' := [(1, .ref a), (0, .ref b)]) hx hb dL_law_7 rfl hl (by decide) rfl (fun ls hl => ?_)
  obtain ⟨L1, hL1⟩ : ∃ L1 : Nat → Nat, L1 = cl_L a u.1 u.2.1 u.2.2.1 u.2.2.2.1 u.2.2.2.2.1 u.2.2.2.2.2.1 u.2.2.2.2.2.2.1 u.2.2.2.2.2.2.2.1 u.2.2.2.2.2.2.2.2.1 u.2.2.2.2.2.2.2.2.2 := ⟨_, rfl⟩
  have ea : a = L1 0 := by rw [hL1]; rfl
  have h : nH D cg [] (gW L1 cg xs0) (lA s) s H locs := by rw [hL1]; exact h
  rw [ea] at hl
  have h : gH D L1 cg [] (lA s) xs0 s H locs := ⟨h.1, h.2.1, h.2.2.1, h.2.2.2.1.1, gW_D h.2.2.2.2.1⟩
  exact l_start S (fun q h => h) ⟨hX, hbl, Nat.not_le.mpr hbl⟩ (e_jX hts) hL (fun _ _ _ => rfl) xs0_P1 (fun st H locs ls h => l_end hx hb hr hlocks h.2.1) h hl
