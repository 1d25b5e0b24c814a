/-- a private method is its own selection, whatever class the object has -/
theorem sel_priv {C : String} {y : MethodName} {s : State} {args : Array Value} {n n2 : Nat} (hy : y.cls ≠ "java/lang/invoke/MethodHandle" ∧ y.cls ≠ "java/lang/invoke/VarHandle")
    (hC : (Cond.instantiable C n2).before args s = true) (hins : (Cond.instantiable y.cls n).before args s = true) (hpriv : (Cond.privateMethod y).before args s = true) (hinst : (Cond.instanceMethod y).before args s = true) :
    (Cond.selects C y y).before args s = true := by
  obtain ⟨c, k, hc, hk, -, hniab, -, -⟩ := Cond.instantiable_spec hins
  obtain ⟨c2, k2, hc2, hk2, -, -, -, -⟩ := Cond.instantiable_spec hC
  have hni : k.isInterface = false := (Bool.or_eq_false_iff.mp hniab).1
  obtain ⟨mk, methM, hnamed, hmethM, -, -⟩ := Cond.instanceMethod_spec hinst
  have hfound : s.methodFound? y.cls y.name y.desc = some mk := State.methodFound?_of_named hnamed hy
  have hcls : mk.cls = c := Option.some.inj ((findClass_of_methodNamed hnamed).symm.trans hc)
  have hsel : selectMethod {} s.vm c2 mk = .method mk := selectMethod_private hmethM (Cond.privateMethod_at hpriv mk methM hnamed hmethM)
  simp only [Cond.before, Cond.holds, Cond.value, hc2, hfound, hnamed, hsel, hcls, hk]
  simp; exact hni
def sel5 : List Cond := [Cond.selects RX1 yX7_lookFor yX7_lookFor, Cond.selects RX1 yX7_firstSlot yX7_firstSlot, Cond.selects RX1 yX7_nextSlot yX7_nextSlot, Cond.selects RX1 yX7_grow yX7_grow, Cond.selects RX1 yX7_freeSlotFor yX7_freeSlotFor]
set_option maxRecDepth 20000 in
theorem l5_wsL_law0_r27 : ∀ w ∈ wsL_law0_r27, w ∈ sel5 ++ lw_tbl := by decide +kernel
set_option maxRecDepth 20000 in
theorem l5_wsL_law0_r29 : ∀ w ∈ wsL_law0_r29, w ∈ sel5 ++ lw_tbl := by decide +kernel
theorem up5 {a : List Cond} (h : ∀ w ∈ a, w ∈ lw_tbl) : ∀ w ∈ a, w ∈ sel5 ++ lw_tbl := fun w hw => List.mem_append_right _ (h w hw)
theorem wsL_law_in5 : ∀ w ∈ wsL_law, w ∈ sel5 ++ lw_tbl := ap2 (ap2 (ap2 (ap2 (ap2 (ap2 (ap2 (ap2 (ap2 (ap2 (ap2 (up5 li_wsL_law0_r1) (ap2 (up5 li_wsL_law0_r2) (ap2 (up5 li_wsL_law0_r3) (ap2 (up5 li_wsL_law0_r4) (ap2 (up5 li_wsL_law0_r5) (ap2 (up5 li_wsL_law0_r6) (ap2 (up5 li_wsL_law0_r7) (ap2 (up5 li_wsL_law0_r8) (ap2 (up5 li_wsL_law0_r9) (ap2 (up5 li_wsL_law0_r10) (ap2 (up5 li_wsL_law0_r11) (ap2 (up5 li_wsL_law0_r12) (ap2 (up5 li_wsL_law0_r13) (ap2 (up5 li_wsL_law0_r14) (ap2 (up5 li_wsL_law0_r15) (ap2 (up5 li_wsL_law0_r16) (ap2 (up5 li_wsL_law0_r17) (ap2 (up5 li_wsL_law0_r18) (ap2 (up5 li_wsL_law0_r19) (ap2 (up5 li_wsL_law0_r20) (ap2 (up5 li_wsL_law0_r21) (ap2 (up5 li_wsL_law0_r22) (ap2 (up5 li_wsL_law0_r23) (ap2 (up5 li_wsL_law0_r24) (ap2 (up5 li_wsL_law0_r25) (ap2 (up5 li_wsL_law0_r26) (ap2 l5_wsL_law0_r27 (ap2 (up5 li_wsL_law0_r28) (ap2 l5_wsL_law0_r29 (ap2 (up5 li_wsL_law0_r30) (ap2 (up5 li_wsL_law0_r31) (ap2 (up5 li_wsL_law0_r32) (ap2 (up5 li_wsL_law0_r33) (ap2 (up5 li_wsL_law0_r34) (up5 li_wsL_law0_r35))))))))))))))))))))))))))))))))))) (up5 li_wsX90)) (up5 li_wsX100)) (up5 li_wsX30)) (up5 li_wsX00)) (up5 li_wsX60)) (up5 li_wsX50)) (up5 li_wsX10)) (up5 li_wsX70)) (up5 li_NIL)) (up5 li_x)
theorem s5_lookFor {args : Array Value} {s : State} (h : ∀ w ∈ lw_tbl, w.before args s = true) : (Cond.selects RX1 yX7_lookFor yX7_lookFor).before args s = true := sel_priv (n := 5) (n2 := 6) (by decide) (h _ (by decide +kernel)) (h _ (by decide +kernel)) (h _ (by decide +kernel)) (h _ (by decide +kernel))
theorem s5_firstSlot {args : Array Value} {s : State} (h : ∀ w ∈ lw_tbl, w.before args s = true) : (Cond.selects RX1 yX7_firstSlot yX7_firstSlot).before args s = true := sel_priv (n := 5) (n2 := 6) (by decide) (h _ (by decide +kernel)) (h _ (by decide +kernel)) (h _ (by decide +kernel)) (h _ (by decide +kernel))
theorem s5_nextSlot {args : Array Value} {s : State} (h : ∀ w ∈ lw_tbl, w.before args s = true) : (Cond.selects RX1 yX7_nextSlot yX7_nextSlot).before args s = true := sel_priv (n := 5) (n2 := 6) (by decide) (h _ (by decide +kernel)) (h _ (by decide +kernel)) (h _ (by decide +kernel)) (h _ (by decide +kernel))
theorem s5_grow {args : Array Value} {s : State} (h : ∀ w ∈ lw_tbl, w.before args s = true) : (Cond.selects RX1 yX7_grow yX7_grow).before args s = true := sel_priv (n := 5) (n2 := 6) (by decide) (h _ (by decide +kernel)) (h _ (by decide +kernel)) (h _ (by decide +kernel)) (h _ (by decide +kernel))
theorem s5_freeSlotFor {args : Array Value} {s : State} (h : ∀ w ∈ lw_tbl, w.before args s = true) : (Cond.selects RX1 yX7_freeSlotFor yX7_freeSlotFor).before args s = true := sel_priv (n := 5) (n2 := 6) (by decide) (h _ (by decide +kernel)) (h _ (by decide +kernel)) (h _ (by decide +kernel)) (h _ (by decide +kernel))
theorem wsL_law_hts {args : Array Value} {s : State} (h : ∀ w ∈ lw_tbl, w.before args s = true) : ∀ w ∈ wsL_law, w.before args s = true := fun w hw => (List.mem_append.mp (wsL_law_in5 w hw)).elim (fun h5 => vx_c (s5_lookFor h) (vx_c (s5_firstSlot h) (vx_c (s5_nextSlot h) (vx_c (s5_grow h) (vx_c (s5_freeSlotFor h) vx_n)))) w h5) (h w)
