def lw_ch : List (List Cond) := [wsL_law0_r1, wsL_law0_r2, wsL_law0_r3, wsL_law0_r4, wsL_law0_r5, wsL_law0_r6, wsL_law0_r7, wsL_law0_r8, wsL_law0_r9, wsL_law0_r10, wsL_law0_r11, wsL_law0_r12, wsL_law0_r13, wsL_law0_r14, wsL_law0_r15, wsL_law0_r16, wsL_law0_r17, wsL_law0_r18, wsL_law0_r19, wsL_law0_r20, wsL_law0_r21, wsL_law0_r22, wsL_law0_r23, wsL_law0_r24, wsX60, wsX00, wsX10, wsX30, wsX40, wsX50, wsX20]
theorem lw_chok : ∀ c ∈ lw_ch, ∀ w ∈ c, w ∈ lw_tbl := List.forall_mem_cons.mpr ⟨lwi_wsL_law0_r1, List.forall_mem_cons.mpr ⟨lwi_wsL_law0_r2, List.forall_mem_cons.mpr ⟨lwi_wsL_law0_r3, List.forall_mem_cons.mpr ⟨lwi_wsL_law0_r4, List.forall_mem_cons.mpr ⟨lwi_wsL_law0_r5, List.forall_mem_cons.mpr ⟨lwi_wsL_law0_r6, List.forall_mem_cons.mpr ⟨lwi_wsL_law0_r7, List.forall_mem_cons.mpr ⟨lwi_wsL_law0_r8, List.forall_mem_cons.mpr ⟨lwi_wsL_law0_r9, List.forall_mem_cons.mpr ⟨lwi_wsL_law0_r10, List.forall_mem_cons.mpr ⟨lwi_wsL_law0_r11, List.forall_mem_cons.mpr ⟨lwi_wsL_law0_r12, List.forall_mem_cons.mpr ⟨lwi_wsL_law0_r13, List.forall_mem_cons.mpr ⟨lwi_wsL_law0_r14, List.forall_mem_cons.mpr ⟨lwi_wsL_law0_r15, List.forall_mem_cons.mpr ⟨lwi_wsL_law0_r16, List.forall_mem_cons.mpr ⟨lwi_wsL_law0_r17, List.forall_mem_cons.mpr ⟨lwi_wsL_law0_r18, List.forall_mem_cons.mpr ⟨lwi_wsL_law0_r19, List.forall_mem_cons.mpr ⟨lwi_wsL_law0_r20, List.forall_mem_cons.mpr ⟨lwi_wsL_law0_r21, List.forall_mem_cons.mpr ⟨lwi_wsL_law0_r22, List.forall_mem_cons.mpr ⟨lwi_wsL_law0_r23, List.forall_mem_cons.mpr ⟨lwi_wsL_law0_r24, List.forall_mem_cons.mpr ⟨lwi_wsX60, List.forall_mem_cons.mpr ⟨lwi_wsX00, List.forall_mem_cons.mpr ⟨lwi_wsX10, List.forall_mem_cons.mpr ⟨lwi_wsX30, List.forall_mem_cons.mpr ⟨lwi_wsX40, List.forall_mem_cons.mpr ⟨lwi_wsX50, List.forall_mem_cons.mpr ⟨lwi_wsX20, fun _ h => absurd h List.not_mem_nil⟩⟩⟩⟩⟩⟩⟩⟩⟩⟩⟩⟩⟩⟩⟩⟩⟩⟩⟩⟩⟩⟩⟩⟩⟩⟩⟩⟩⟩⟩⟩
theorem wsL_law_in0 : ∀ w ∈ wsL_law0, w ∈ lw_tbl := by
  intro w h
  have e : lw_ch.flatten = wsL_law0 := by
    simp only [lw_ch, wsL_law0, List.flatten_cons, List.flatten_nil, List.append_assoc, List.append_nil]
  rw [← e] at h
  obtain ⟨c, hc, hw⟩ := List.mem_flatten.mp h
  exact lw_chok c hc w hw
theorem wsL_law_in : ∀ w ∈ wsL_law, w ∈ lw_tbl := fun w h => (List.mem_append.mp h).elim (fun h => (List.mem_append.mp h).elim (fun h => (List.mem_append.mp h).elim (fun h => wsL_law_in0 w h) (fun h => wsL_law_x0 w h)) (fun h => wsL_law_x1 w h)) (fun h => wsL_law_x2 w h)
theorem inlX0 : ∀ w ∈ wsX00, w ∈ wsL_law := fun _ h => List.mem_append_left _ (List.mem_append_left _ (List.mem_append_left _ (List.mem_append_left _ (List.mem_append_left _ (List.mem_append_left _ (List.mem_append_left _ (List.mem_append_left _ (List.mem_append_left _ (List.mem_append_right _ h)))))))))
theorem inX0 : ∀ w ∈ wsX00, w ∈ lw_tbl := fun w h => wsL_law_in w (inlX0 w h)
theorem inlX1 : ∀ w ∈ wsX10, w ∈ wsL_law := fun _ h => List.mem_append_left _ (List.mem_append_left _ (List.mem_append_left _ (List.mem_append_left _ (List.mem_append_left _ (List.mem_append_left _ (List.mem_append_left _ (List.mem_append_left _ (List.mem_append_right _ h))))))))
theorem inX1 : ∀ w ∈ wsX10, w ∈ lw_tbl := fun w h => wsL_law_in w (inlX1 w h)
theorem inlX2 : ∀ w ∈ wsX20, w ∈ wsL_law := fun _ h => List.mem_append_left _ (List.mem_append_left _ (List.mem_append_left _ (List.mem_append_left _ (List.mem_append_right _ h))))
theorem inX2 : ∀ w ∈ wsX20, w ∈ lw_tbl := fun w h => wsL_law_in w (inlX2 w h)
theorem inlX3 : ∀ w ∈ wsX30, w ∈ wsL_law := fun _ h => List.mem_append_left _ (List.mem_append_left _ (List.mem_append_left _ (List.mem_append_left _ (List.mem_append_left _ (List.mem_append_left _ (List.mem_append_left _ (List.mem_append_right _ h)))))))
theorem inX3 : ∀ w ∈ wsX30, w ∈ lw_tbl := fun w h => wsL_law_in w (inlX3 w h)
theorem inlX4 : ∀ w ∈ wsX40, w ∈ wsL_law := fun _ h => List.mem_append_left _ (List.mem_append_left _ (List.mem_append_left _ (List.mem_append_left _ (List.mem_append_left _ (List.mem_append_left _ (List.mem_append_right _ h))))))
theorem inX4 : ∀ w ∈ wsX40, w ∈ lw_tbl := fun w h => wsL_law_in w (inlX4 w h)
theorem inlX5 : ∀ w ∈ wsX50, w ∈ wsL_law := fun _ h => List.mem_append_left _ (List.mem_append_left _ (List.mem_append_left _ (List.mem_append_left _ (List.mem_append_left _ (List.mem_append_right _ h)))))
theorem inX5 : ∀ w ∈ wsX50, w ∈ lw_tbl := fun w h => wsL_law_in w (inlX5 w h)
theorem inlX6 : ∀ w ∈ wsX60, w ∈ wsL_law := fun _ h => List.mem_append_left _ (List.mem_append_left _ (List.mem_append_left _ (List.mem_append_left _ (List.mem_append_left _ (List.mem_append_left _ (List.mem_append_left _ (List.mem_append_left _ (List.mem_append_left _ (List.mem_append_left _ (List.mem_append_right _ h))))))))))
theorem inX6 : ∀ w ∈ wsX60, w ∈ lw_tbl := fun w h => wsL_law_in w (inlX6 w h)
