-- ===== PART A: goes FIRST, ahead of the names: the tables' words, and 'selects' of the private methods out of them =====
/-- a private method of a class that the tables say can be made, by its rows of tables_1 -/
def lw_okq (q : MethodName × Nat) : Prop := (q.1.cls ≠ "java/lang/invoke/MethodHandle" ∧ q.1.cls ≠ "java/lang/invoke/VarHandle") ∧ Cond.instantiable q.1.cls q.2 ∈ tables_1 ∧ Cond.privateMethod q.1 ∈ tables_1 ∧ Cond.instanceMethod q.1 ∈ tables_1
theorem lw_p0 : lw_okq (⟨"java/lang/Throwable", "fillInStackTrace", "(I)Ljava/lang/Throwable;"⟩, 6) := ⟨⟨by decide +kernel, by decide +kernel⟩, List.mem_of_getElem? (i := 302) (by decide +kernel), List.mem_of_getElem? (i := 300) (by decide +kernel), List.mem_of_getElem? (i := 301) (by decide +kernel)⟩
theorem lw_p1 : lw_okq (⟨"BobbinPool", "needJob", "(I)V"⟩, 3) := ⟨⟨by decide +kernel, by decide +kernel⟩, List.mem_of_getElem? (i := 18) (by decide +kernel), List.mem_of_getElem? (i := 379) (by decide +kernel), List.mem_of_getElem? (i := 380) (by decide +kernel)⟩
theorem lw_p2 : lw_okq (⟨"BobbinPool", "isJob", "(I)Z"⟩, 3) := ⟨⟨by decide +kernel, by decide +kernel⟩, List.mem_of_getElem? (i := 18) (by decide +kernel), List.mem_of_getElem? (i := 383) (by decide +kernel), List.mem_of_getElem? (i := 384) (by decide +kernel)⟩
theorem lw_p3 : lw_okq (⟨"BobbinPool$Pool", "newTask", "(II)LBobbinPool$Task;"⟩, 12) := ⟨⟨by decide +kernel, by decide +kernel⟩, List.mem_of_getElem? (i := 63) (by decide +kernel), List.mem_of_getElem? (i := 408) (by decide +kernel), List.mem_of_getElem? (i := 409) (by decide +kernel)⟩
theorem lw_p4 : lw_okq (⟨"BobbinPool", "needTask", "(I)V"⟩, 3) := ⟨⟨by decide +kernel, by decide +kernel⟩, List.mem_of_getElem? (i := 18) (by decide +kernel), List.mem_of_getElem? (i := 424) (by decide +kernel), List.mem_of_getElem? (i := 425) (by decide +kernel)⟩
theorem lw_p5 : lw_okq (⟨"BobbinPool$Pool", "free", "(LBobbinPool$Task;)V"⟩, 12) := ⟨⟨by decide +kernel, by decide +kernel⟩, List.mem_of_getElem? (i := 63) (by decide +kernel), List.mem_of_getElem? (i := 459) (by decide +kernel), List.mem_of_getElem? (i := 460) (by decide +kernel)⟩
theorem lw_p6 : lw_okq (⟨"BobbinPool$Pool", "act", "(I)Z"⟩, 12) := ⟨⟨by decide +kernel, by decide +kernel⟩, List.mem_of_getElem? (i := 63) (by decide +kernel), List.mem_of_getElem? (i := 509) (by decide +kernel), List.mem_of_getElem? (i := 510) (by decide +kernel)⟩
theorem lw_p7 : lw_okq (⟨"BobbinPool$Pool", "wantsTask", "(LBobbinPool$Worker;)Z"⟩, 12) := ⟨⟨by decide +kernel, by decide +kernel⟩, List.mem_of_getElem? (i := 63) (by decide +kernel), List.mem_of_getElem? (i := 513) (by decide +kernel), List.mem_of_getElem? (i := 514) (by decide +kernel)⟩
theorem lw_p8 : lw_okq (⟨"BobbinPool$Pool", "take", "(ILBobbinPool$Worker;)Z"⟩, 12) := ⟨⟨by decide +kernel, by decide +kernel⟩, List.mem_of_getElem? (i := 63) (by decide +kernel), List.mem_of_getElem? (i := 525) (by decide +kernel), List.mem_of_getElem? (i := 526) (by decide +kernel)⟩
theorem lw_p9 : lw_okq (⟨"BobbinPool$Pool", "sourceFor", "(I)I"⟩, 12) := ⟨⟨by decide +kernel, by decide +kernel⟩, List.mem_of_getElem? (i := 63) (by decide +kernel), List.mem_of_getElem? (i := 529) (by decide +kernel), List.mem_of_getElem? (i := 530) (by decide +kernel)⟩
theorem lw_p10 : lw_okq (⟨"BobbinPool$Pool", "nextWithTasks", "(I)I"⟩, 12) := ⟨⟨by decide +kernel, by decide +kernel⟩, List.mem_of_getElem? (i := 63) (by decide +kernel), List.mem_of_getElem? (i := 537) (by decide +kernel), List.mem_of_getElem? (i := 538) (by decide +kernel)⟩
theorem lw_p11 : lw_okq (⟨"BobbinPool$Pool", "firstWithMostTasks", "()I"⟩, 12) := ⟨⟨by decide +kernel, by decide +kernel⟩, List.mem_of_getElem? (i := 63) (by decide +kernel), List.mem_of_getElem? (i := 541) (by decide +kernel), List.mem_of_getElem? (i := 542) (by decide +kernel)⟩
theorem lw_p12 : lw_okq (⟨"BobbinPool$Pool", "goOn", "(ILBobbinPool$Task;)Z"⟩, 12) := ⟨⟨by decide +kernel, by decide +kernel⟩, List.mem_of_getElem? (i := 63) (by decide +kernel), List.mem_of_getElem? (i := 546) (by decide +kernel), List.mem_of_getElem? (i := 547) (by decide +kernel)⟩
theorem lw_p13 : lw_okq (⟨"BobbinPool$Pool", "work", "(ILBobbinPool$Task;I)Z"⟩, 12) := ⟨⟨by decide +kernel, by decide +kernel⟩, List.mem_of_getElem? (i := 63) (by decide +kernel), List.mem_of_getElem? (i := 554) (by decide +kernel), List.mem_of_getElem? (i := 555) (by decide +kernel)⟩
theorem lw_p14 : lw_okq (⟨"BobbinPool$Pool", "fork", "(ILBobbinPool$Task;I)V"⟩, 12) := ⟨⟨by decide +kernel, by decide +kernel⟩, List.mem_of_getElem? (i := 63) (by decide +kernel), List.mem_of_getElem? (i := 558) (by decide +kernel), List.mem_of_getElem? (i := 559) (by decide +kernel)⟩
theorem lw_p15 : lw_okq (⟨"BobbinPool$Pool", "join", "(ILBobbinPool$Task;I)Z"⟩, 12) := ⟨⟨by decide +kernel, by decide +kernel⟩, List.mem_of_getElem? (i := 63) (by decide +kernel), List.mem_of_getElem? (i := 562) (by decide +kernel), List.mem_of_getElem? (i := 563) (by decide +kernel)⟩
def lw_privs_1 : List (MethodName × Nat) := [(⟨"java/lang/Throwable", "fillInStackTrace", "(I)Ljava/lang/Throwable;"⟩, 6), (⟨"BobbinPool", "needJob", "(I)V"⟩, 3), (⟨"BobbinPool", "isJob", "(I)Z"⟩, 3), (⟨"BobbinPool$Pool", "newTask", "(II)LBobbinPool$Task;"⟩, 12), (⟨"BobbinPool", "needTask", "(I)V"⟩, 3), (⟨"BobbinPool$Pool", "free", "(LBobbinPool$Task;)V"⟩, 12), (⟨"BobbinPool$Pool", "act", "(I)Z"⟩, 12), (⟨"BobbinPool$Pool", "wantsTask", "(LBobbinPool$Worker;)Z"⟩, 12), (⟨"BobbinPool$Pool", "take", "(ILBobbinPool$Worker;)Z"⟩, 12), (⟨"BobbinPool$Pool", "sourceFor", "(I)I"⟩, 12), (⟨"BobbinPool$Pool", "nextWithTasks", "(I)I"⟩, 12), (⟨"BobbinPool$Pool", "firstWithMostTasks", "()I"⟩, 12), (⟨"BobbinPool$Pool", "goOn", "(ILBobbinPool$Task;)Z"⟩, 12), (⟨"BobbinPool$Pool", "work", "(ILBobbinPool$Task;I)Z"⟩, 12), (⟨"BobbinPool$Pool", "fork", "(ILBobbinPool$Task;I)V"⟩, 12), (⟨"BobbinPool$Pool", "join", "(ILBobbinPool$Task;I)Z"⟩, 12)]
theorem lw_r1 : ∀ q ∈ lw_privs_1, lw_okq q := List.forall_mem_cons.mpr ⟨lw_p0, List.forall_mem_cons.mpr ⟨lw_p1, List.forall_mem_cons.mpr ⟨lw_p2, List.forall_mem_cons.mpr ⟨lw_p3, List.forall_mem_cons.mpr ⟨lw_p4, List.forall_mem_cons.mpr ⟨lw_p5, List.forall_mem_cons.mpr ⟨lw_p6, List.forall_mem_cons.mpr ⟨lw_p7, List.forall_mem_cons.mpr ⟨lw_p8, List.forall_mem_cons.mpr ⟨lw_p9, List.forall_mem_cons.mpr ⟨lw_p10, List.forall_mem_cons.mpr ⟨lw_p11, List.forall_mem_cons.mpr ⟨lw_p12, List.forall_mem_cons.mpr ⟨lw_p13, List.forall_mem_cons.mpr ⟨lw_p14, List.forall_mem_cons.mpr ⟨lw_p15, fun _ h => absurd h List.not_mem_nil⟩⟩⟩⟩⟩⟩⟩⟩⟩⟩⟩⟩⟩⟩⟩⟩
theorem lw_p16 : lw_okq (⟨"BobbinPool$Pool", "block", "(ILBobbinPool$Task;I)V"⟩, 12) := ⟨⟨by decide +kernel, by decide +kernel⟩, List.mem_of_getElem? (i := 63) (by decide +kernel), List.mem_of_getElem? (i := 566) (by decide +kernel), List.mem_of_getElem? (i := 567) (by decide +kernel)⟩
theorem lw_p17 : lw_okq (⟨"BobbinPool$Pool", "await", "(ILBobbinPool$Task;I)Z"⟩, 12) := ⟨⟨by decide +kernel, by decide +kernel⟩, List.mem_of_getElem? (i := 63) (by decide +kernel), List.mem_of_getElem? (i := 583) (by decide +kernel), List.mem_of_getElem? (i := 584) (by decide +kernel)⟩
theorem lw_p18 : lw_okq (⟨"BobbinPool$Pool", "advance", "(LBobbinPool$Task;I)V"⟩, 12) := ⟨⟨by decide +kernel, by decide +kernel⟩, List.mem_of_getElem? (i := 63) (by decide +kernel), List.mem_of_getElem? (i := 592) (by decide +kernel), List.mem_of_getElem? (i := 593) (by decide +kernel)⟩
theorem lw_p19 : lw_okq (⟨"BobbinPool$Pool", "wouldAct", "(I)Z"⟩, 12) := ⟨⟨by decide +kernel, by decide +kernel⟩, List.mem_of_getElem? (i := 63) (by decide +kernel), List.mem_of_getElem? (i := 635) (by decide +kernel), List.mem_of_getElem? (i := 636) (by decide +kernel)⟩
theorem lw_p20 : lw_okq (⟨"BobbinPool", "withTask", "(JI)J"⟩, 3) := ⟨⟨by decide +kernel, by decide +kernel⟩, List.mem_of_getElem? (i := 18) (by decide +kernel), List.mem_of_getElem? (i := 689) (by decide +kernel), List.mem_of_getElem? (i := 690) (by decide +kernel)⟩
theorem lw_p21 : lw_okq (⟨"BobbinPool", "withRow", "(JI)J"⟩, 3) := ⟨⟨by decide +kernel, by decide +kernel⟩, List.mem_of_getElem? (i := 18) (by decide +kernel), List.mem_of_getElem? (i := 717) (by decide +kernel), List.mem_of_getElem? (i := 718) (by decide +kernel)⟩
theorem lw_p22 : lw_okq (⟨"BobbinPool", "needRow", "(I)V"⟩, 3) := ⟨⟨by decide +kernel, by decide +kernel⟩, List.mem_of_getElem? (i := 18) (by decide +kernel), List.mem_of_getElem? (i := 725) (by decide +kernel), List.mem_of_getElem? (i := 726) (by decide +kernel)⟩
theorem lw_p23 : lw_okq (⟨"BobbinPool", "needWorker", "(I)V"⟩, 3) := ⟨⟨by decide +kernel, by decide +kernel⟩, List.mem_of_getElem? (i := 18) (by decide +kernel), List.mem_of_getElem? (i := 729) (by decide +kernel), List.mem_of_getElem? (i := 730) (by decide +kernel)⟩
theorem lw_p24 : lw_okq (⟨"BobbinPool", "withWorker", "(JI)J"⟩, 3) := ⟨⟨by decide +kernel, by decide +kernel⟩, List.mem_of_getElem? (i := 18) (by decide +kernel), List.mem_of_getElem? (i := 741) (by decide +kernel), List.mem_of_getElem? (i := 742) (by decide +kernel)⟩
theorem lw_p25 : lw_okq (⟨"BobbinPool", "isStep", "(II)Z"⟩, 3) := ⟨⟨by decide +kernel, by decide +kernel⟩, List.mem_of_getElem? (i := 18) (by decide +kernel), List.mem_of_getElem? (i := 797) (by decide +kernel), List.mem_of_getElem? (i := 798) (by decide +kernel)⟩
def lw_privs_2 : List (MethodName × Nat) := [(⟨"BobbinPool$Pool", "block", "(ILBobbinPool$Task;I)V"⟩, 12), (⟨"BobbinPool$Pool", "await", "(ILBobbinPool$Task;I)Z"⟩, 12), (⟨"BobbinPool$Pool", "advance", "(LBobbinPool$Task;I)V"⟩, 12), (⟨"BobbinPool$Pool", "wouldAct", "(I)Z"⟩, 12), (⟨"BobbinPool", "withTask", "(JI)J"⟩, 3), (⟨"BobbinPool", "withRow", "(JI)J"⟩, 3), (⟨"BobbinPool", "needRow", "(I)V"⟩, 3), (⟨"BobbinPool", "needWorker", "(I)V"⟩, 3), (⟨"BobbinPool", "withWorker", "(JI)J"⟩, 3), (⟨"BobbinPool", "isStep", "(II)Z"⟩, 3)]
theorem lw_r2 : ∀ q ∈ lw_privs_2, lw_okq q := List.forall_mem_cons.mpr ⟨lw_p16, List.forall_mem_cons.mpr ⟨lw_p17, List.forall_mem_cons.mpr ⟨lw_p18, List.forall_mem_cons.mpr ⟨lw_p19, List.forall_mem_cons.mpr ⟨lw_p20, List.forall_mem_cons.mpr ⟨lw_p21, List.forall_mem_cons.mpr ⟨lw_p22, List.forall_mem_cons.mpr ⟨lw_p23, List.forall_mem_cons.mpr ⟨lw_p24, List.forall_mem_cons.mpr ⟨lw_p25, fun _ h => absurd h List.not_mem_nil⟩⟩⟩⟩⟩⟩⟩⟩⟩⟩
def lw_privs : List (MethodName × Nat) := lw_privs_1 ++ (lw_privs_2)
def lw_tbl : List Cond := k2_sels lw_privs ++ tables_1
theorem lw_privs_ok : ∀ q ∈ lw_privs, lw_okq q := by
  show ∀ q ∈ lw_privs_1 ++ (lw_privs_2), lw_okq q
  exact List.forall_mem_append.mpr ⟨lw_r1, lw_r2⟩
-- ===== end of PART A; then your names; then what follows =====
/-- the tables as a list of lists, a word by its two places -/
def lw_tc : List (List Cond) := [k2_sels lw_privs, tables_1_1, tables_1_2, tables_1_3, tables_1_4]
theorem lw_tcin : ∀ w ∈ lw_tc.flatten, w ∈ lw_tbl := by
  intro w h
  have e : lw_tc.flatten = lw_tbl := by
    simp only [lw_tc, lw_tbl, tables_1, List.flatten_cons, List.flatten_nil, List.append_assoc, List.append_nil]
  rw [← e]
  exact h
theorem lw_in2 (ws : List Cond) (ps : List (Nat × Nat)) (hp : ws = ps.filterMap (fun q => (lw_tc[q.1]?).bind (fun c => c[q.2]?))) : ∀ w ∈ ws, w ∈ lw_tbl := by
  intro w hw
  rw [hp] at hw
  obtain ⟨q, -, hq⟩ := List.mem_filterMap.mp hw
  obtain ⟨c, hc, hj⟩ := Option.bind_eq_some_iff.mp hq
  exact lw_tcin w (List.mem_flatten.mpr ⟨c, List.mem_of_getElem? hc, List.mem_of_getElem? hj⟩)
set_option maxRecDepth 20000 in
theorem lwi_wsL_law0_r1 : ∀ w ∈ wsL_law0_r1, w ∈ lw_tbl := lw_in2 _ [(1, 17), (1, 18), (1, 1), (4, 105), (1, 19), (1, 20), (1, 21), (1, 22), (1, 23), (1, 24), (1, 25), (1, 26), (1, 2), (2, 6), (1, 62), (1, 63), (1, 4), (2, 7), (2, 8), (1, 27), (1, 28), (1, 29), (1, 30), (1, 31)] (by decide +kernel)
set_option maxRecDepth 20000 in
theorem lwi_wsL_law0_r2 : ∀ w ∈ wsL_law0_r2, w ∈ lw_tbl := lw_in2 _ [(1, 51), (1, 33), (1, 3), (1, 52), (1, 35), (1, 36), (1, 37), (1, 50), (1, 38), (1, 39), (1, 64), (1, 65), (1, 66), (1, 67), (1, 68), (1, 205), (1, 70), (1, 5), (1, 206), (1, 126), (1, 209), (1, 128), (1, 6), (1, 210)] (by decide +kernel)
set_option maxRecDepth 20000 in
theorem lwi_wsL_law0_r3 : ∀ w ∈ wsL_law0_r3, w ∈ lw_tbl := lw_in2 _ [(1, 176), (1, 134), (1, 7), (1, 213), (1, 214), (1, 204), (1, 71), (1, 72), (1, 73), (1, 74), (1, 75), (1, 130), (1, 131), (1, 132), (1, 133), (1, 148), (1, 150), (1, 162), (1, 136), (1, 137), (1, 138), (1, 139), (1, 178), (1, 179)] (by decide +kernel)
set_option maxRecDepth 20000 in
theorem lwi_wsL_law0_r4 : ∀ w ∈ wsL_law0_r4, w ∈ lw_tbl := lw_in2 _ [(1, 180), (1, 181), (1, 207), (1, 211), (1, 202), (1, 215), (1, 217), (1, 219), (1, 182), (1, 183), (1, 184), (1, 185), (1, 186), (1, 187), (1, 188), (1, 189), (1, 190), (1, 191), (1, 192), (1, 193), (1, 153), (1, 156), (1, 159), (1, 194)] (by decide +kernel)
set_option maxRecDepth 20000 in
theorem lwi_wsL_law0_r5 : ∀ w ∈ wsL_law0_r5, w ∈ lw_tbl := lw_in2 _ [(1, 195), (1, 196), (1, 197), (1, 140), (1, 198), (1, 199), (1, 8), (1, 200), (1, 201), (1, 203), (4, 52), (4, 53), (1, 0), (4, 54), (4, 55), (4, 48), (4, 49), (4, 50), (4, 51), (4, 56), (4, 57), (4, 58), (4, 70), (4, 61)] (by decide +kernel)
set_option maxRecDepth 20000 in
theorem lwi_wsL_law0_r6 : ∀ w ∈ wsL_law0_r6, w ∈ lw_tbl := lw_in2 _ [(4, 62), (4, 63), (4, 64), (2, 103), (1, 12), (4, 66), (4, 67), (4, 68), (4, 69), (1, 53), (4, 72), (4, 73), (4, 74), (4, 75), (2, 23), (1, 14), (2, 138), (2, 140), (0, 1), (2, 141), (2, 146), (1, 13), (2, 142), (2, 144)] (by decide +kernel)
set_option maxRecDepth 20000 in
theorem lwi_wsL_law0_r7 : ∀ w ∈ wsL_law0_r7, w ∈ lw_tbl := lw_in2 _ [(0, 2), (2, 145), (4, 76), (4, 78), (0, 25), (4, 79), (2, 234), (2, 235), (2, 236), (4, 81), (3, 4), (3, 5), (3, 6), (4, 83), (4, 84), (4, 85), (4, 86), (2, 95), (2, 96), (2, 97), (2, 98), (4, 88), (4, 89), (4, 90)] (by decide +kernel)
set_option maxRecDepth 20000 in
theorem lwi_wsL_law0_r8 : ∀ w ∈ wsL_law0_r8, w ∈ lw_tbl := lw_in2 _ [(4, 91), (1, 40), (2, 16), (2, 17), (2, 18), (2, 19), (2, 20), (2, 21), (2, 22), (2, 91), (2, 92), (2, 93), (2, 94), (2, 99), (2, 100), (2, 101), (2, 102), (1, 79), (2, 119), (2, 120), (2, 121), (2, 122), (2, 123), (2, 124)] (by decide +kernel)
set_option maxRecDepth 20000 in
theorem lwi_wsL_law0_r9 : ∀ w ∈ wsL_law0_r9, w ∈ lw_tbl := lw_in2 _ [(2, 125), (2, 126), (2, 129), (2, 130), (2, 131), (2, 132), (3, 195), (3, 196), (3, 197), (3, 198), (3, 199), (3, 200), (3, 201), (3, 121), (3, 122), (3, 123), (3, 202), (3, 125), (3, 126), (3, 127), (3, 203), (3, 204), (3, 205), (3, 206)] (by decide +kernel)
set_option maxRecDepth 20000 in
theorem lwi_wsL_law0_r10 : ∀ w ∈ wsL_law0_r10, w ∈ lw_tbl := lw_in2 _ [(3, 207), (3, 146), (3, 147), (3, 148), (3, 149), (3, 150), (3, 151), (3, 152), (3, 153), (3, 117), (3, 118), (3, 119), (2, 201), (2, 190), (2, 191), (2, 192), (3, 154), (3, 156), (0, 19), (3, 157), (3, 32), (3, 34), (0, 7), (3, 35)] (by decide +kernel)
set_option maxRecDepth 20000 in
theorem lwi_wsL_law0_r11 : ∀ w ∈ wsL_law0_r11, w ∈ lw_tbl := lw_in2 _ [(3, 36), (3, 37), (3, 38), (3, 39), (3, 40), (3, 41), (3, 42), (3, 43), (3, 48), (3, 50), (0, 9), (3, 51), (3, 52), (3, 53), (3, 54), (3, 55), (3, 56), (3, 58), (0, 10), (3, 59), (3, 60), (3, 62), (0, 11), (3, 63)] (by decide +kernel)
set_option maxRecDepth 20000 in
theorem lwi_wsL_law0_r12 : ∀ w ∈ wsL_law0_r12, w ∈ lw_tbl := lw_in2 _ [(3, 158), (3, 159), (3, 160), (3, 161), (3, 208), (3, 210), (0, 20), (3, 211), (3, 212), (3, 129), (3, 130), (3, 131), (2, 183), (2, 185), (0, 4), (2, 186), (2, 188), (3, 213), (3, 133), (3, 134), (3, 135), (3, 214), (3, 215), (3, 216)] (by decide +kernel)
set_option maxRecDepth 20000 in
theorem lwi_wsL_law0_r13 : ∀ w ∈ wsL_law0_r13, w ∈ lw_tbl := lw_in2 _ [(3, 217), (3, 218), (3, 219), (3, 220), (3, 221), (3, 222), (3, 223), (3, 224), (3, 225), (3, 226), (3, 227), (3, 228), (3, 229), (3, 230), (3, 231), (3, 232), (3, 233), (2, 198), (2, 199), (2, 200), (3, 234), (3, 137), (3, 138), (3, 139)] (by decide +kernel)
set_option maxRecDepth 20000 in
theorem lwi_wsL_law0_r14 : ∀ w ∈ wsL_law0_r14, w ∈ lw_tbl := lw_in2 _ [(3, 235), (3, 141), (3, 142), (3, 143), (2, 231), (2, 232), (2, 233), (3, 144), (3, 107), (3, 108), (3, 109), (3, 236), (3, 238), (0, 21), (3, 239), (4, 0), (4, 1), (4, 2), (4, 3), (4, 4), (4, 6), (0, 22), (4, 7), (4, 8)] (by decide +kernel)
set_option maxRecDepth 20000 in
theorem lwi_wsL_law0_r15 : ∀ w ∈ wsL_law0_r15, w ∈ lw_tbl := lw_in2 _ [(4, 10), (0, 23), (4, 11), (4, 13), (4, 14), (4, 15), (4, 16), (4, 17), (4, 19), (4, 20), (4, 22), (0, 24), (4, 23), (4, 24), (4, 25), (4, 26), (4, 27), (4, 28), (4, 29), (4, 30), (4, 31), (4, 32), (4, 33), (4, 34)] (by decide +kernel)
set_option maxRecDepth 20000 in
theorem lwi_wsL_law0_r16 : ∀ w ∈ wsL_law0_r16, w ∈ lw_tbl := lw_in2 _ [(4, 35), (4, 36), (4, 37), (4, 39), (4, 40), (4, 41), (4, 42), (4, 44), (4, 45), (4, 46), (4, 47), (3, 24), (3, 25), (1, 15), (3, 26), (3, 145), (3, 191), (3, 192), (3, 193), (3, 194), (3, 166), (3, 167), (3, 168), (3, 170)] (by decide +kernel)
