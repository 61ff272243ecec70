set_option maxRecDepth 20000 in
theorem wsL_law_in_wsX40 : ∀ w ∈ wsX40, w ∈ lw_tbl := by decide +kernel
set_option maxRecDepth 20000 in
theorem wsL_law_in_wsX50 : ∀ w ∈ wsX50, w ∈ lw_tbl := by decide +kernel
set_option maxRecDepth 20000 in
theorem wsL_law_in_wsX00 : ∀ w ∈ wsX00, w ∈ lw_tbl := by decide +kernel
set_option maxRecDepth 20000 in
theorem wsL_law_in_wsX20 : ∀ w ∈ wsX20, w ∈ lw_tbl := by decide +kernel
set_option maxRecDepth 20000 in
theorem wsL_law_in_wsX10 : ∀ w ∈ wsX10, w ∈ lw_tbl := by decide +kernel
set_option maxRecDepth 20000 in
theorem wsL_law_in_wsX30 : ∀ w ∈ wsX30, w ∈ lw_tbl := by decide +kernel
set_option maxRecDepth 20000 in
theorem wsL_law_in0 : ∀ w ∈ wsL_law0, w ∈ lw_tbl := fun w h => (List.mem_append.mp h).elim (fun h => (List.mem_append.mp h).elim (fun h => (List.mem_append.mp h).elim (fun h => (List.mem_append.mp h).elim (fun h => (List.mem_append.mp h).elim (fun h => (List.mem_append.mp h).elim (fun h => (List.mem_append.mp h).elim (fun h => (List.mem_append.mp h).elim (fun h => wsL_law_in_r1 w h) (fun h => (List.mem_append.mp h).elim (fun h => wsL_law_in_r2 w h) (fun h => (List.mem_append.mp h).elim (fun h => wsL_law_in_r3 w h) (fun h => (List.mem_append.mp h).elim (fun h => wsL_law_in_r4 w h) (fun h => (List.mem_append.mp h).elim (fun h => wsL_law_in_r5 w h) (fun h => (List.mem_append.mp h).elim (fun h => wsL_law_in_r6 w h) (fun h => (List.mem_append.mp h).elim (fun h => wsL_law_in_r7 w h) (fun h => (List.mem_append.mp h).elim (fun h => wsL_law_in_r8 w h) (fun h => (List.mem_append.mp h).elim (fun h => wsL_law_in_r9 w h) (fun h => (List.mem_append.mp h).elim (fun h => wsL_law_in_r10 w h) (fun h => (List.mem_append.mp h).elim (fun h => wsL_law_in_r11 w h) (fun h => (List.mem_append.mp h).elim (fun h => wsL_law_in_r12 w h) (fun h => (List.mem_append.mp h).elim (fun h => wsL_law_in_r13 w h) (fun h => (List.mem_append.mp h).elim (fun h => wsL_law_in_r14 w h) (fun h => (List.mem_append.mp h).elim (fun h => wsL_law_in_r15 w h) (fun h => (List.mem_append.mp h).elim (fun h => wsL_law_in_r16 w h) (fun h => (List.mem_append.mp h).elim (fun h => wsL_law_in_r17 w h) (fun h => (List.mem_append.mp h).elim (fun h => wsL_law_in_r18 w h) (fun h => (List.mem_append.mp h).elim (fun h => wsL_law_in_r19 w h) (fun h => (List.mem_append.mp h).elim (fun h => wsL_law_in_r20 w h) (fun h => (List.mem_append.mp h).elim (fun h => wsL_law_in_r21 w h) (fun h => (List.mem_append.mp h).elim (fun h => wsL_law_in_r22 w h) (fun h => (List.mem_append.mp h).elim (fun h => wsL_law_in_r23 w h) (fun h => wsL_law_in_r24 w h)))))))))))))))))))))))) (fun h => wsL_law_in_wsX40 w h)) (fun h => wsL_law_in_wsX50 w h)) (fun h => wsL_law_in_wsX00 w h)) (fun h => wsL_law_in_wsX20 w h)) (fun h => wsL_law_in_wsX10 w h)) (fun h => wsL_law_in_wsX30 w h)) (fun h => nomatch h)
theorem wsL_law_x0 : ∀ w ∈ (vx_atS RX4 27 "java/lang/IllegalArgumentException" ["java/lang/RuntimeException", "java/lang/Exception"]).filter goodWord, w ∈ lw_tbl := by decide +kernel
theorem wsL_law_x1 : ∀ w ∈ (vx_atS RX4 38 "java/lang/IllegalStateException" ["java/lang/RuntimeException", "java/lang/Exception"]).filter goodWord, w ∈ lw_tbl := by decide +kernel
theorem wsL_law_x2 : ∀ w ∈ (vx_atS RX4 277 "java/lang/IndexOutOfBoundsException" ["java/lang/RuntimeException", "java/lang/Exception"]).filter goodWord, w ∈ lw_tbl := by decide +kernel
theorem wsL_law_in : ∀ w ∈ wsL_law, w ∈ lw_tbl := fun w h => (List.mem_append.mp h).elim (fun h => (List.mem_append.mp h).elim (fun h => (List.mem_append.mp h).elim (fun h => wsL_law_in0 w h) (fun h => wsL_law_x0 w h)) (fun h => wsL_law_x1 w h)) (fun h => wsL_law_x2 w h)
theorem inlX0 : ∀ w ∈ wsX00, w ∈ wsL_law := fun _ h => List.mem_append_left _ (List.mem_append_left _ (List.mem_append_left _ (List.mem_append_left _ (List.mem_append_left _ (List.mem_append_left _ (List.mem_append_left _ (List.mem_append_right _ h)))))))
theorem inX0 : ∀ w ∈ wsX00, w ∈ lw_tbl := fun w h => wsL_law_in w (inlX0 w h)
theorem inlX1 : ∀ w ∈ wsX10, w ∈ wsL_law := fun _ h => List.mem_append_left _ (List.mem_append_left _ (List.mem_append_left _ (List.mem_append_left _ (List.mem_append_left _ (List.mem_append_right _ h)))))
theorem inX1 : ∀ w ∈ wsX10, w ∈ lw_tbl := fun w h => wsL_law_in w (inlX1 w h)
theorem inlX2 : ∀ w ∈ wsX20, w ∈ wsL_law := fun _ h => List.mem_append_left _ (List.mem_append_left _ (List.mem_append_left _ (List.mem_append_left _ (List.mem_append_left _ (List.mem_append_left _ (List.mem_append_right _ h))))))
theorem inX2 : ∀ w ∈ wsX20, w ∈ lw_tbl := fun w h => wsL_law_in w (inlX2 w h)
theorem inlX3 : ∀ w ∈ wsX30, w ∈ wsL_law := fun _ h => List.mem_append_left _ (List.mem_append_left _ (List.mem_append_left _ (List.mem_append_left _ (List.mem_append_right _ h))))
theorem inX3 : ∀ w ∈ wsX30, w ∈ lw_tbl := fun w h => wsL_law_in w (inlX3 w h)
theorem inlX4 : ∀ w ∈ wsX40, w ∈ wsL_law := fun _ h => List.mem_append_left _ (List.mem_append_left _ (List.mem_append_left _ (List.mem_append_left _ (List.mem_append_left _ (List.mem_append_left _ (List.mem_append_left _ (List.mem_append_left _ (List.mem_append_left _ (List.mem_append_right _ h)))))))))
theorem inX4 : ∀ w ∈ wsX40, w ∈ lw_tbl := fun w h => wsL_law_in w (inlX4 w h)
theorem inlX5 : ∀ w ∈ wsX50, w ∈ wsL_law := fun _ h => List.mem_append_left _ (List.mem_append_left _ (List.mem_append_left _ (List.mem_append_left _ (List.mem_append_left _ (List.mem_append_left _ (List.mem_append_left _ (List.mem_append_left _ (List.mem_append_right _ h))))))))
theorem inX5 : ∀ w ∈ wsX50, w ∈ lw_tbl := fun w h => wsL_law_in w (inlX5 w h)
