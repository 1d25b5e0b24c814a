theorem ap2 {a b c : List Cond} (h1 : ∀ w ∈ a, w ∈ c) (h2 : ∀ w ∈ b, w ∈ c) : ∀ w ∈ a ++ b, w ∈ c := fun w h => (List.mem_append.mp h).elim (h1 w) (h2 w)
theorem li_NIL : ∀ w ∈ ([] : List Cond), w ∈ lw_tbl := fun _ h => nomatch h
set_option maxRecDepth 20000 in
theorem li_wsL_law0_r1 : ∀ w ∈ wsL_law0_r1, w ∈ lw_tbl := by decide +kernel
set_option maxRecDepth 20000 in
theorem li_wsL_law0_r2 : ∀ w ∈ wsL_law0_r2, w ∈ lw_tbl := by decide +kernel
set_option maxRecDepth 20000 in
theorem li_wsL_law0_r3 : ∀ w ∈ wsL_law0_r3, w ∈ lw_tbl := by decide +kernel
set_option maxRecDepth 20000 in
theorem li_wsL_law0_r4 : ∀ w ∈ wsL_law0_r4, w ∈ lw_tbl := by decide +kernel
set_option maxRecDepth 20000 in
theorem li_wsL_law0_r5 : ∀ w ∈ wsL_law0_r5, w ∈ lw_tbl := by decide +kernel
set_option maxRecDepth 20000 in
theorem li_wsL_law0_r6 : ∀ w ∈ wsL_law0_r6, w ∈ lw_tbl := by decide +kernel
set_option maxRecDepth 20000 in
theorem li_wsL_law0_r7 : ∀ w ∈ wsL_law0_r7, w ∈ lw_tbl := by decide +kernel
set_option maxRecDepth 20000 in
theorem li_wsL_law0_r8 : ∀ w ∈ wsL_law0_r8, w ∈ lw_tbl := by decide +kernel
set_option maxRecDepth 20000 in
theorem li_wsL_law0_r9 : ∀ w ∈ wsL_law0_r9, w ∈ lw_tbl := by decide +kernel
set_option maxRecDepth 20000 in
theorem li_wsL_law0_r10 : ∀ w ∈ wsL_law0_r10, w ∈ lw_tbl := by decide +kernel
set_option maxRecDepth 20000 in
theorem li_wsL_law0_r11 : ∀ w ∈ wsL_law0_r11, w ∈ lw_tbl := by decide +kernel
set_option maxRecDepth 20000 in
theorem li_wsL_law0_r12 : ∀ w ∈ wsL_law0_r12, w ∈ lw_tbl := by decide +kernel
set_option maxRecDepth 20000 in
theorem li_wsL_law0_r13 : ∀ w ∈ wsL_law0_r13, w ∈ lw_tbl := by decide +kernel
set_option maxRecDepth 20000 in
theorem li_wsL_law0_r14 : ∀ w ∈ wsL_law0_r14, w ∈ lw_tbl := by decide +kernel
set_option maxRecDepth 20000 in
theorem li_wsL_law0_r15 : ∀ w ∈ wsL_law0_r15, w ∈ lw_tbl := by decide +kernel
set_option maxRecDepth 20000 in
theorem li_wsL_law0_r16 : ∀ w ∈ wsL_law0_r16, w ∈ lw_tbl := by decide +kernel
set_option maxRecDepth 20000 in
theorem li_wsL_law0_r17 : ∀ w ∈ wsL_law0_r17, w ∈ lw_tbl := by decide +kernel
set_option maxRecDepth 20000 in
theorem li_wsL_law0_r18 : ∀ w ∈ wsL_law0_r18, w ∈ lw_tbl := by decide +kernel
set_option maxRecDepth 20000 in
theorem li_wsL_law0_r19 : ∀ w ∈ wsL_law0_r19, w ∈ lw_tbl := by decide +kernel
set_option maxRecDepth 20000 in
theorem li_wsL_law0_r20 : ∀ w ∈ wsL_law0_r20, w ∈ lw_tbl := by decide +kernel
set_option maxRecDepth 20000 in
theorem li_wsL_law0_r21 : ∀ w ∈ wsL_law0_r21, w ∈ lw_tbl := by decide +kernel
set_option maxRecDepth 20000 in
theorem li_wsL_law0_r22 : ∀ w ∈ wsL_law0_r22, w ∈ lw_tbl := by decide +kernel
set_option maxRecDepth 20000 in
theorem li_wsL_law0_r23 : ∀ w ∈ wsL_law0_r23, w ∈ lw_tbl := by decide +kernel
set_option maxRecDepth 20000 in
theorem li_wsL_law0_r24 : ∀ w ∈ wsL_law0_r24, w ∈ lw_tbl := by decide +kernel
set_option maxRecDepth 20000 in
theorem li_wsL_law0_r25 : ∀ w ∈ wsL_law0_r25, w ∈ lw_tbl := by decide +kernel
set_option maxRecDepth 20000 in
theorem li_wsL_law0_r26 : ∀ w ∈ wsL_law0_r26, w ∈ lw_tbl := by decide +kernel
set_option maxRecDepth 20000 in
theorem li_wsL_law0_r28 : ∀ w ∈ wsL_law0_r28, w ∈ lw_tbl := by decide +kernel
set_option maxRecDepth 20000 in
theorem li_wsL_law0_r30 : ∀ w ∈ wsL_law0_r30, w ∈ lw_tbl := by decide +kernel
set_option maxRecDepth 20000 in
theorem li_wsL_law0_r31 : ∀ w ∈ wsL_law0_r31, w ∈ lw_tbl := by decide +kernel
set_option maxRecDepth 20000 in
theorem li_wsL_law0_r32 : ∀ w ∈ wsL_law0_r32, w ∈ lw_tbl := by decide +kernel
set_option maxRecDepth 20000 in
theorem li_wsL_law0_r33 : ∀ w ∈ wsL_law0_r33, w ∈ lw_tbl := by decide +kernel
set_option maxRecDepth 20000 in
theorem li_wsL_law0_r34 : ∀ w ∈ wsL_law0_r34, w ∈ lw_tbl := by decide +kernel
set_option maxRecDepth 20000 in
theorem li_wsL_law0_r35 : ∀ w ∈ wsL_law0_r35, w ∈ lw_tbl := by decide +kernel
set_option maxRecDepth 20000 in
theorem li_wsX90 : ∀ w ∈ wsX90, w ∈ lw_tbl := by decide +kernel
set_option maxRecDepth 20000 in
theorem li_wsX100 : ∀ w ∈ wsX100, w ∈ lw_tbl := by decide +kernel
set_option maxRecDepth 20000 in
theorem li_wsX30 : ∀ w ∈ wsX30, w ∈ lw_tbl := by decide +kernel
set_option maxRecDepth 20000 in
theorem li_wsX00 : ∀ w ∈ wsX00, w ∈ lw_tbl := by decide +kernel
set_option maxRecDepth 20000 in
theorem li_wsX60 : ∀ w ∈ wsX60, w ∈ lw_tbl := by decide +kernel
set_option maxRecDepth 20000 in
theorem li_wsX50 : ∀ w ∈ wsX50, w ∈ lw_tbl := by decide +kernel
set_option maxRecDepth 20000 in
theorem li_wsX10 : ∀ w ∈ wsX10, w ∈ lw_tbl := by decide +kernel
set_option maxRecDepth 20000 in
theorem li_wsX70 : ∀ w ∈ wsX70, w ∈ lw_tbl := by decide +kernel
theorem li_x : ∀ w ∈ (vx_atS RX9 203 "java/lang/ArithmeticException" ["java/lang/RuntimeException", "java/lang/Exception"]).filter goodWord, w ∈ lw_tbl := by decide +kernel
