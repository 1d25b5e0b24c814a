theorem ap2 {a b c : List Cond} (h1 : ∀ w ∈ a, w ∈ c) (h2 : ∀ w ∈ b, w ∈ c) : ∀ w ∈ a ++ b, w ∈ c := fun w h => (List.mem_append.mp h).elim (h1 w) (h2 w)
theorem li_NIL : ∀ w ∈ ([] : List Cond), w ∈ lw_tbl := fun _ h => nomatch h
set_option maxRecDepth 20000 in
theorem li_wsL_law0_r1 : ∀ w ∈ wsL_law0_r1, w ∈ lw_tbl := by decide +kernel
set_option maxRecDepth 20000 in
theorem li_wsL_law0_r2 : ∀ w ∈ wsL_law0_r2, w ∈ lw_tbl := by decide +kernel
set_option maxRecDepth 20000 in
theorem li_wsL_law0_r3 : ∀ w ∈ wsL_law0_r3, w ∈ lw_tbl := by decide +kernel
set_option maxRecDepth 20000 in
theorem li_wsL_law0_r4 : ∀ w ∈ wsL_law0_r4, w ∈ lw_tbl := by decide +kernel
set_option maxRecDepth 20000 in
theorem li_wsL_law0_r5 : ∀ w ∈ wsL_law0_r5, w ∈ lw_tbl := by decide +kernel
set_option maxRecDepth 20000 in
theorem li_wsL_law0_r6 : ∀ w ∈ wsL_law0_r6, w ∈ lw_tbl := by decide +kernel
set_option maxRecDepth 20000 in
theorem li_wsL_law0_r7 : ∀ w ∈ wsL_law0_r7, w ∈ lw_tbl := by decide +kernel
set_option maxRecDepth 20000 in
theorem li_wsL_law0_r8 : ∀ w ∈ wsL_law0_r8, w ∈ lw_tbl := by decide +kernel
set_option maxRecDepth 20000 in
theorem li_wsL_law0_r9 : ∀ w ∈ wsL_law0_r9, w ∈ lw_tbl := by decide +kernel
set_option maxRecDepth 20000 in
theorem li_wsL_law0_r10 : ∀ w ∈ wsL_law0_r10, w ∈ lw_tbl := by decide +kernel
set_option maxRecDepth 20000 in
theorem li_wsL_law0_r11 : ∀ w ∈ wsL_law0_r11, w ∈ lw_tbl := by decide +kernel
set_option maxRecDepth 20000 in
theorem li_wsL_law0_r12 : ∀ w ∈ wsL_law0_r12, w ∈ lw_tbl := by decide +kernel
set_option maxRecDepth 20000 in
theorem li_wsL_law0_r13 : ∀ w ∈ wsL_law0_r13, w ∈ lw_tbl := by decide +kernel
set_option maxRecDepth 20000 in
theorem li_wsL_law0_r14 : ∀ w ∈ wsL_law0_r14, w ∈ lw_tbl := by decide +kernel
set_option maxRecDepth 20000 in
theorem li_wsL_law0_r15 : ∀ w ∈ wsL_law0_r15, w ∈ lw_tbl := by decide +kernel
set_option maxRecDepth 20000 in
theorem li_wsL_law0_r16 : ∀ w ∈ wsL_law0_r16, w ∈ lw_tbl := by decide +kernel
set_option maxRecDepth 20000 in
theorem li_wsL_law0_r17 : ∀ w ∈ wsL_law0_r17, w ∈ lw_tbl := by decide +kernel
set_option maxRecDepth 20000 in
theorem li_wsL_law0_r18 : ∀ w ∈ wsL_law0_r18, w ∈ lw_tbl := by decide +kernel
set_option maxRecDepth 20000 in
theorem li_wsL_law0_r19 : ∀ w ∈ wsL_law0_r19, w ∈ lw_tbl := by decide +kernel
set_option maxRecDepth 20000 in
theorem li_wsL_law0_r20 : ∀ w ∈ wsL_law0_r20, w ∈ lw_tbl := by decide +kernel
set_option maxRecDepth 20000 in
theorem li_wsL_law0_r21 : ∀ w ∈ wsL_law0_r21, w ∈ lw_tbl := by decide +kernel
set_option maxRecDepth 20000 in
theorem li_wsL_law0_r22 : ∀ w ∈ wsL_law0_r22, w ∈ lw_tbl := by decide +kernel
set_option maxRecDepth 20000 in
theorem li_wsL_law0_r23 : ∀ w ∈ wsL_law0_r23, w ∈ lw_tbl := by decide +kernel
set_option maxRecDepth 20000 in
theorem li_wsL_law0_r24 : ∀ w ∈ wsL_law0_r24, w ∈ lw_tbl := by decide +kernel
set_option maxRecDepth 20000 in
theorem li_wsL_law0_r25 : ∀ w ∈ wsL_law0_r25, w ∈ lw_tbl := by decide +kernel
set_option maxRecDepth 20000 in
theorem li_wsL_law0_r26 : ∀ w ∈ wsL_law0_r26, w ∈ lw_tbl := by decide +kernel
set_option maxRecDepth 20000 in
theorem li_wsL_law0_r27 : ∀ w ∈ wsL_law0_r27, w ∈ lw_tbl := by decide +kernel
set_option maxRecDepth 20000 in
theorem li_wsL_law0_r28 : ∀ w ∈ wsL_law0_r28, w ∈ lw_tbl := by decide +kernel
set_option maxRecDepth 20000 in
theorem li_wsL_law0_r29 : ∀ w ∈ wsL_law0_r29, w ∈ lw_tbl := by decide +kernel
set_option maxRecDepth 20000 in
theorem li_wsL_law0_r30 : ∀ w ∈ wsL_law0_r30, w ∈ lw_tbl := by decide +kernel
set_option maxRecDepth 20000 in
theorem li_wsL_law0_r31 : ∀ w ∈ wsL_law0_r31, w ∈ lw_tbl := by decide +kernel
set_option maxRecDepth 20000 in
theorem li_wsL_law0_r32 : ∀ w ∈ wsL_law0_r32, w ∈ lw_tbl := by decide +kernel
set_option maxRecDepth 20000 in
theorem li_wsL_law0_r33 : ∀ w ∈ wsL_law0_r33, w ∈ lw_tbl := by decide +kernel
set_option maxRecDepth 20000 in
theorem li_wsL_law0_r34 : ∀ w ∈ wsL_law0_r34, w ∈ lw_tbl := by decide +kernel
set_option maxRecDepth 20000 in
theorem li_wsL_law0_r35 : ∀ w ∈ wsL_law0_r35, w ∈ lw_tbl := by decide +kernel
set_option maxRecDepth 20000 in
theorem li_wsX90 : ∀ w ∈ wsX90, w ∈ lw_tbl := by decide +kernel
set_option maxRecDepth 20000 in
theorem li_wsX100 : ∀ w ∈ wsX100, w ∈ lw_tbl := by decide +kernel
set_option maxRecDepth 20000 in
theorem li_wsX30 : ∀ w ∈ wsX30, w ∈ lw_tbl := by decide +kernel
set_option maxRecDepth 20000 in
theorem li_wsX00 : ∀ w ∈ wsX00, w ∈ lw_tbl := by decide +kernel
set_option maxRecDepth 20000 in
theorem li_wsX60 : ∀ w ∈ wsX60, w ∈ lw_tbl := by decide +kernel
set_option maxRecDepth 20000 in
theorem li_wsX50 : ∀ w ∈ wsX50, w ∈ lw_tbl := by decide +kernel
set_option maxRecDepth 20000 in
theorem li_wsX10 : ∀ w ∈ wsX10, w ∈ lw_tbl := by decide +kernel
set_option maxRecDepth 20000 in
theorem li_wsX70 : ∀ w ∈ wsX70, w ∈ lw_tbl := by decide +kernel
theorem li_x : ∀ w ∈ (vx_atS RX9 203 "java/lang/ArithmeticException" ["java/lang/RuntimeException", "java/lang/Exception"]).filter goodWord, w ∈ lw_tbl := by decide +kernel
theorem wsL_law_in : ∀ w ∈ wsL_law, w ∈ lw_tbl := ap2 (ap2 (ap2 (ap2 (ap2 (ap2 (ap2 (ap2 (ap2 (ap2 (ap2 li_wsL_law0_r1 (ap2 li_wsL_law0_r2 (ap2 li_wsL_law0_r3 (ap2 li_wsL_law0_r4 (ap2 li_wsL_law0_r5 (ap2 li_wsL_law0_r6 (ap2 li_wsL_law0_r7 (ap2 li_wsL_law0_r8 (ap2 li_wsL_law0_r9 (ap2 li_wsL_law0_r10 (ap2 li_wsL_law0_r11 (ap2 li_wsL_law0_r12 (ap2 li_wsL_law0_r13 (ap2 li_wsL_law0_r14 (ap2 li_wsL_law0_r15 (ap2 li_wsL_law0_r16 (ap2 li_wsL_law0_r17 (ap2 li_wsL_law0_r18 (ap2 li_wsL_law0_r19 (ap2 li_wsL_law0_r20 (ap2 li_wsL_law0_r21 (ap2 li_wsL_law0_r22 (ap2 li_wsL_law0_r23 (ap2 li_wsL_law0_r24 (ap2 li_wsL_law0_r25 (ap2 li_wsL_law0_r26 (ap2 li_wsL_law0_r27 (ap2 li_wsL_law0_r28 (ap2 li_wsL_law0_r29 (ap2 li_wsL_law0_r30 (ap2 li_wsL_law0_r31 (ap2 li_wsL_law0_r32 (ap2 li_wsL_law0_r33 (ap2 li_wsL_law0_r34 li_wsL_law0_r35)))))))))))))))))))))))))))))))))) li_wsX90) li_wsX100) li_wsX30) li_wsX00) li_wsX60) li_wsX50) li_wsX10) li_wsX70) li_NIL) li_x
