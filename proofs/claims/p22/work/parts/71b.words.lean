/-! The words of the law are the tables'. -/
set_option maxRecDepth 20000 in
theorem in_wsL_law0_r1 : ∀ w ∈ wsL_law0_r1, w ∈ lw_tbl := by decide +kernel
set_option maxRecDepth 20000 in
theorem in_wsL_law0_r2 : ∀ w ∈ wsL_law0_r2, w ∈ lw_tbl := by decide +kernel
set_option maxRecDepth 20000 in
theorem in_wsL_law0_r3 : ∀ w ∈ wsL_law0_r3, w ∈ lw_tbl := by decide +kernel
set_option maxRecDepth 100000 in
theorem in_wsL_law0_r4 : ∀ w ∈ wsL_law0_r4, w ∈ lw_tbl := (List.forall_mem_cons.mpr ⟨(by decide +kernel), (List.forall_mem_cons.mpr ⟨(by decide +kernel), (List.forall_mem_cons.mpr ⟨(by decide +kernel), (List.forall_mem_cons.mpr ⟨(by decide +kernel), (List.forall_mem_cons.mpr ⟨(by decide +kernel), (List.forall_mem_cons.mpr ⟨(by decide +kernel), (List.forall_mem_cons.mpr ⟨(by decide +kernel), (List.forall_mem_cons.mpr ⟨(by decide +kernel), (List.forall_mem_cons.mpr ⟨(by decide +kernel), (List.forall_mem_cons.mpr ⟨(by decide +kernel), (List.forall_mem_cons.mpr ⟨(by decide +kernel), (List.forall_mem_cons.mpr ⟨(by decide +kernel), (List.forall_mem_cons.mpr ⟨List.mem_append_right _ (List.mem_of_getElem? (i := 662) rfl), (List.forall_mem_cons.mpr ⟨(by decide +kernel), (List.forall_mem_cons.mpr ⟨(by decide +kernel), (List.forall_mem_cons.mpr ⟨(by decide +kernel), (List.forall_mem_cons.mpr ⟨(by decide +kernel), (List.forall_mem_cons.mpr ⟨(by decide +kernel), (List.forall_mem_cons.mpr ⟨(by decide +kernel), (List.forall_mem_cons.mpr ⟨(by decide +kernel), (List.forall_mem_cons.mpr ⟨(by decide +kernel), (List.forall_mem_cons.mpr ⟨(by decide +kernel), (List.forall_mem_cons.mpr ⟨(by decide +kernel), (List.forall_mem_cons.mpr ⟨(by decide +kernel), (fun _ h => absurd h List.not_mem_nil)⟩)⟩)⟩)⟩)⟩)⟩)⟩)⟩)⟩)⟩)⟩)⟩)⟩)⟩)⟩)⟩)⟩)⟩)⟩)⟩)⟩)⟩)⟩)⟩)
set_option maxRecDepth 100000 in
theorem in_wsL_law0_r5 : ∀ w ∈ wsL_law0_r5, w ∈ lw_tbl := (List.forall_mem_cons.mpr ⟨(by decide +kernel), (List.forall_mem_cons.mpr ⟨(by decide +kernel), (List.forall_mem_cons.mpr ⟨(by decide +kernel), (List.forall_mem_cons.mpr ⟨(by decide +kernel), (List.forall_mem_cons.mpr ⟨(by decide +kernel), (List.forall_mem_cons.mpr ⟨(by decide +kernel), (List.forall_mem_cons.mpr ⟨(by decide +kernel), (List.forall_mem_cons.mpr ⟨(by decide +kernel), (List.forall_mem_cons.mpr ⟨List.mem_append_right _ (List.mem_of_getElem? (i := 564) rfl), (List.forall_mem_cons.mpr ⟨(by decide +kernel), (List.forall_mem_cons.mpr ⟨(by decide +kernel), (List.forall_mem_cons.mpr ⟨(by decide +kernel), (List.forall_mem_cons.mpr ⟨(by decide +kernel), (List.forall_mem_cons.mpr ⟨(by decide +kernel), (List.forall_mem_cons.mpr ⟨(by decide +kernel), (List.forall_mem_cons.mpr ⟨(by decide +kernel), (List.forall_mem_cons.mpr ⟨(by decide +kernel), (List.forall_mem_cons.mpr ⟨(by decide +kernel), (List.forall_mem_cons.mpr ⟨(by decide +kernel), (List.forall_mem_cons.mpr ⟨(by decide +kernel), (List.forall_mem_cons.mpr ⟨(by decide +kernel), (List.forall_mem_cons.mpr ⟨(by decide +kernel), (List.forall_mem_cons.mpr ⟨(by decide +kernel), (List.forall_mem_cons.mpr ⟨(by decide +kernel), (fun _ h => absurd h List.not_mem_nil)⟩)⟩)⟩)⟩)⟩)⟩)⟩)⟩)⟩)⟩)⟩)⟩)⟩)⟩)⟩)⟩)⟩)⟩)⟩)⟩)⟩)⟩)⟩)⟩)
set_option maxRecDepth 20000 in
theorem in_wsL_law0_r6 : ∀ w ∈ wsL_law0_r6, w ∈ lw_tbl := by decide +kernel
set_option maxRecDepth 20000 in
theorem in_wsL_law0_r7 : ∀ w ∈ wsL_law0_r7, w ∈ lw_tbl := by decide +kernel
set_option maxRecDepth 20000 in
theorem in_wsL_law0_r8 : ∀ w ∈ wsL_law0_r8, w ∈ lw_tbl := by decide +kernel
set_option maxRecDepth 20000 in
theorem in_wsL_law0_r9 : ∀ w ∈ wsL_law0_r9, w ∈ lw_tbl := by decide +kernel
set_option maxRecDepth 20000 in
theorem in_wsL_law0_r10 : ∀ w ∈ wsL_law0_r10, w ∈ lw_tbl := by decide +kernel
set_option maxRecDepth 20000 in
theorem in_wsL_law0_r11 : ∀ w ∈ wsL_law0_r11, w ∈ lw_tbl := by decide +kernel
set_option maxRecDepth 20000 in
theorem in_wsL_law0_r12 : ∀ w ∈ wsL_law0_r12, w ∈ lw_tbl := by decide +kernel
set_option maxRecDepth 20000 in
theorem in_wsL_law0_r13 : ∀ w ∈ wsL_law0_r13, w ∈ lw_tbl := by decide +kernel
set_option maxRecDepth 20000 in
theorem in_wsL_law0_r14 : ∀ w ∈ wsL_law0_r14, w ∈ lw_tbl := by decide +kernel
set_option maxRecDepth 100000 in
theorem in_wsL_law0_r15 : ∀ w ∈ wsL_law0_r15, w ∈ lw_tbl := (List.forall_mem_cons.mpr ⟨(by decide +kernel), (List.forall_mem_cons.mpr ⟨(by decide +kernel), (List.forall_mem_cons.mpr ⟨(by decide +kernel), (List.forall_mem_cons.mpr ⟨(by decide +kernel), (List.forall_mem_cons.mpr ⟨(by decide +kernel), (List.forall_mem_cons.mpr ⟨(by decide +kernel), (List.forall_mem_cons.mpr ⟨(by decide +kernel), (List.forall_mem_cons.mpr ⟨(by decide +kernel), (List.forall_mem_cons.mpr ⟨(by decide +kernel), (List.forall_mem_cons.mpr ⟨(by decide +kernel), (List.forall_mem_cons.mpr ⟨(by decide +kernel), (List.forall_mem_cons.mpr ⟨(by decide +kernel), (List.forall_mem_cons.mpr ⟨(by decide +kernel), (List.forall_mem_cons.mpr ⟨(by decide +kernel), (List.forall_mem_cons.mpr ⟨(by decide +kernel), (List.forall_mem_cons.mpr ⟨(by decide +kernel), (List.forall_mem_cons.mpr ⟨(by decide +kernel), (List.forall_mem_cons.mpr ⟨(by decide +kernel), (List.forall_mem_cons.mpr ⟨(by decide +kernel), (List.forall_mem_cons.mpr ⟨(by decide +kernel), (List.forall_mem_cons.mpr ⟨(by decide +kernel), (List.forall_mem_cons.mpr ⟨(by decide +kernel), (List.forall_mem_cons.mpr ⟨List.mem_append_right _ (List.mem_of_getElem? (i := 464) rfl), (List.forall_mem_cons.mpr ⟨(by decide +kernel), (fun _ h => absurd h List.not_mem_nil)⟩)⟩)⟩)⟩)⟩)⟩)⟩)⟩)⟩)⟩)⟩)⟩)⟩)⟩)⟩)⟩)⟩)⟩)⟩)⟩)⟩)⟩)⟩)⟩)
set_option maxRecDepth 20000 in
theorem in_wsL_law0_r16 : ∀ w ∈ wsL_law0_r16, w ∈ lw_tbl := by decide +kernel
set_option maxRecDepth 20000 in
theorem in_wsL_law0_r17 : ∀ w ∈ wsL_law0_r17, w ∈ lw_tbl := by decide +kernel
set_option maxRecDepth 20000 in
theorem in_wsL_law0_r18 : ∀ w ∈ wsL_law0_r18, w ∈ lw_tbl := by decide +kernel
set_option maxRecDepth 100000 in
theorem in_wsL_law0_r19 : ∀ w ∈ wsL_law0_r19, w ∈ lw_tbl := (List.forall_mem_cons.mpr ⟨(by decide +kernel), (List.forall_mem_cons.mpr ⟨(by decide +kernel), (List.forall_mem_cons.mpr ⟨(by decide +kernel), (List.forall_mem_cons.mpr ⟨(by decide +kernel), (List.forall_mem_cons.mpr ⟨(by decide +kernel), (List.forall_mem_cons.mpr ⟨(by decide +kernel), (List.forall_mem_cons.mpr ⟨(by decide +kernel), (List.forall_mem_cons.mpr ⟨(by decide +kernel), (List.forall_mem_cons.mpr ⟨(by decide +kernel), (List.forall_mem_cons.mpr ⟨(by decide +kernel), (List.forall_mem_cons.mpr ⟨(by decide +kernel), (List.forall_mem_cons.mpr ⟨(by decide +kernel), (List.forall_mem_cons.mpr ⟨(by decide +kernel), (List.forall_mem_cons.mpr ⟨(by decide +kernel), (List.forall_mem_cons.mpr ⟨(by decide +kernel), (List.forall_mem_cons.mpr ⟨(by decide +kernel), (List.forall_mem_cons.mpr ⟨(by decide +kernel), (List.forall_mem_cons.mpr ⟨(by decide +kernel), (List.forall_mem_cons.mpr ⟨(by decide +kernel), (List.forall_mem_cons.mpr ⟨(by decide +kernel), (List.forall_mem_cons.mpr ⟨(by decide +kernel), (List.forall_mem_cons.mpr ⟨(by decide +kernel), (List.forall_mem_cons.mpr ⟨List.mem_append_right _ (List.mem_of_getElem? (i := 499) rfl), (List.forall_mem_cons.mpr ⟨(by decide +kernel), (fun _ h => absurd h List.not_mem_nil)⟩)⟩)⟩)⟩)⟩)⟩)⟩)⟩)⟩)⟩)⟩)⟩)⟩)⟩)⟩)⟩)⟩)⟩)⟩)⟩)⟩)⟩)⟩)⟩)
set_option maxRecDepth 20000 in
theorem in_wsL_law0_r20 : ∀ w ∈ wsL_law0_r20, w ∈ lw_tbl := by decide +kernel
set_option maxRecDepth 20000 in
theorem in_wsL_law0_r21 : ∀ w ∈ wsL_law0_r21, w ∈ lw_tbl := by decide +kernel
set_option maxRecDepth 20000 in
theorem in_wsX50 : ∀ w ∈ wsX50, w ∈ lw_tbl := by decide +kernel
set_option maxRecDepth 20000 in
theorem in_wsX60 : ∀ w ∈ wsX60, w ∈ lw_tbl := by decide +kernel
set_option maxRecDepth 20000 in
theorem in_wsX20 : ∀ w ∈ wsX20, w ∈ lw_tbl := by decide +kernel
set_option maxRecDepth 20000 in
theorem in_wsX30 : ∀ w ∈ wsX30, w ∈ lw_tbl := by decide +kernel
set_option maxRecDepth 20000 in
theorem in_wsX00 : ∀ w ∈ wsX00, w ∈ lw_tbl := by decide +kernel
set_option maxRecDepth 20000 in
theorem in_wsX10 : ∀ w ∈ wsX10, w ∈ lw_tbl := by decide +kernel
set_option maxRecDepth 20000 in
theorem in_wsX40 : ∀ w ∈ wsX40, w ∈ lw_tbl := by decide +kernel
set_option maxRecDepth 20000 in
theorem in_wsX70 : ∀ w ∈ wsX70, w ∈ lw_tbl := by decide +kernel
theorem in_app {A B L : List Cond} (h1 : ∀ w ∈ A, w ∈ L) (h2 : ∀ w ∈ B, w ∈ L) : ∀ w ∈ A ++ B, w ∈ L := List.forall_mem_append.mpr ⟨h1, h2⟩
theorem wsL_law_in0 : ∀ w ∈ wsL_law0, w ∈ lw_tbl := in_app (in_app (in_app (in_app (in_app (in_app (in_app (in_app (in_app (in_app in_wsL_law0_r1 (in_app in_wsL_law0_r2 (in_app in_wsL_law0_r3 (in_app in_wsL_law0_r4 (in_app in_wsL_law0_r5 (in_app in_wsL_law0_r6 (in_app in_wsL_law0_r7 (in_app in_wsL_law0_r8 (in_app in_wsL_law0_r9 (in_app in_wsL_law0_r10 (in_app in_wsL_law0_r11 (in_app in_wsL_law0_r12 (in_app in_wsL_law0_r13 (in_app in_wsL_law0_r14 (in_app in_wsL_law0_r15 (in_app in_wsL_law0_r16 (in_app in_wsL_law0_r17 (in_app in_wsL_law0_r18 (in_app in_wsL_law0_r19 (in_app in_wsL_law0_r20 in_wsL_law0_r21)))))))))))))))))))) in_wsX50) in_wsX60) in_wsX20) in_wsX30) in_wsX00) in_wsX10) in_wsX40) in_wsX70) (fun w h => absurd h List.not_mem_nil)
set_option maxRecDepth 20000 in
theorem wsL_law_x0 : ∀ w ∈ (vx_atS RX5 41 "java/lang/IllegalArgumentException" ["java/lang/RuntimeException", "java/lang/Exception"]).filter goodWord, w ∈ lw_tbl := by decide +kernel
set_option maxRecDepth 20000 in
theorem wsL_law_x1 : ∀ w ∈ (vx_atS RX5 62 "java/lang/IllegalStateException" ["java/lang/RuntimeException", "java/lang/Exception"]).filter goodWord, w ∈ lw_tbl := by decide +kernel
set_option maxRecDepth 20000 in
theorem wsL_law_x2 : ∀ w ∈ (vx_atS RX5 34 "java/lang/IndexOutOfBoundsException" ["java/lang/RuntimeException", "java/lang/Exception"]).filter goodWord, w ∈ lw_tbl := by decide +kernel
theorem wsL_law_in : ∀ w ∈ wsL_law, w ∈ lw_tbl := in_app (in_app (in_app wsL_law_in0 wsL_law_x0) wsL_law_x1) wsL_law_x2
