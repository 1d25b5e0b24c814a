theorem dX9_mayBeCast_5 : decode cX9_mayBeCast 5 = .ok (.iload_n 1, 1) := by decide +kernel
theorem dX9_mayBeCast_6 : decode cX9_mayBeCast 6 = .ok (.invokestatic 61, 3) := by decide +kernel
theorem dX9_mayBeCast_9 : decode cX9_mayBeCast 9 = .ok (.ifCond .eq 7, 3) := by decide +kernel
theorem dX9_mayBeCast_12 : decode cX9_mayBeCast 12 = .ok (.iconst 1, 1) := by decide +kernel
theorem dX9_mayBeCast_13 : decode cX9_mayBeCast 13 = .ok (.goto 4, 3) := by decide +kernel
theorem dX9_mayBeCast_16 : decode cX9_mayBeCast 16 = .ok (.iconst 0, 1) := by decide +kernel
theorem dX9_mayBeCast_17 : decode cX9_mayBeCast 17 = .ok (.ireturn, 1) := by decide +kernel
theorem dX9_asRow_0 : decode cX9_asRow 0 = .ok (.aload_n 0, 1) := by decide +kernel
theorem dX9_asRow_1 : decode cX9_asRow 1 = .ok (.instanceof 73, 3) := by decide +kernel
theorem dX9_asRow_4 : decode cX9_asRow 4 = .ok (.ifCond .eq 10, 3) := by decide +kernel
theorem dX9_asRow_7 : decode cX9_asRow 7 = .ok (.aload_n 0, 1) := by decide +kernel
theorem dX9_asRow_8 : decode cX9_asRow 8 = .ok (.checkcast 73, 3) := by decide +kernel
theorem dX9_asRow_11 : decode cX9_asRow 11 = .ok (.goto 4, 3) := by decide +kernel
theorem dX9_asRow_14 : decode cX9_asRow 14 = .ok (.aconst_null, 1) := by decide +kernel
theorem dX9_asRow_15 : decode cX9_asRow 15 = .ok (.areturn, 1) := by decide +kernel
theorem dX9_asNumbers_0 : decode cX9_asNumbers 0 = .ok (.aload_n 0, 1) := by decide +kernel
theorem dX9_asNumbers_1 : decode cX9_asNumbers 1 = .ok (.instanceof 96, 3) := by decide +kernel
theorem dX9_asNumbers_4 : decode cX9_asNumbers 4 = .ok (.ifCond .eq 10, 3) := by decide +kernel
theorem dX9_asNumbers_7 : decode cX9_asNumbers 7 = .ok (.aload_n 0, 1) := by decide +kernel
theorem dX9_asNumbers_8 : decode cX9_asNumbers 8 = .ok (.checkcast 96, 3) := by decide +kernel
theorem dX9_asNumbers_11 : decode cX9_asNumbers 11 = .ok (.goto 4, 3) := by decide +kernel
theorem dX9_asNumbers_14 : decode cX9_asNumbers 14 = .ok (.aconst_null, 1) := by decide +kernel
theorem dX9_asNumbers_15 : decode cX9_asNumbers 15 = .ok (.areturn, 1) := by decide +kernel
theorem dX9_asBytes_0 : decode cX9_asBytes 0 = .ok (.aload_n 0, 1) := by decide +kernel
theorem dX9_asBytes_1 : decode cX9_asBytes 1 = .ok (.instanceof 119, 3) := by decide +kernel
theorem dX9_asBytes_4 : decode cX9_asBytes 4 = .ok (.ifCond .eq 10, 3) := by decide +kernel
theorem dX9_asBytes_7 : decode cX9_asBytes 7 = .ok (.aload_n 0, 1) := by decide +kernel
theorem dX9_asBytes_8 : decode cX9_asBytes 8 = .ok (.checkcast 119, 3) := by decide +kernel
theorem dX9_asBytes_11 : decode cX9_asBytes 11 = .ok (.goto 4, 3) := by decide +kernel
theorem dX9_asBytes_14 : decode cX9_asBytes 14 = .ok (.aconst_null, 1) := by decide +kernel
theorem dX9_asBytes_15 : decode cX9_asBytes 15 = .ok (.areturn, 1) := by decide +kernel
theorem dX9_asRows_0 : decode cX9_asRows 0 = .ok (.aload_n 0, 1) := by decide +kernel
theorem dX9_asRows_1 : decode cX9_asRows 1 = .ok (.instanceof 109, 3) := by decide +kernel
theorem dX9_asRows_4 : decode cX9_asRows 4 = .ok (.ifCond .eq 10, 3) := by decide +kernel
theorem dX9_asRows_7 : decode cX9_asRows 7 = .ok (.aload_n 0, 1) := by decide +kernel
theorem dX9_asRows_8 : decode cX9_asRows 8 = .ok (.checkcast 109, 3) := by decide +kernel
theorem dX9_asRows_11 : decode cX9_asRows 11 = .ok (.goto 4, 3) := by decide +kernel
theorem dX9_asRows_14 : decode cX9_asRows 14 = .ok (.aconst_null, 1) := by decide +kernel
theorem dX9_asRows_15 : decode cX9_asRows 15 = .ok (.areturn, 1) := by decide +kernel
theorem dX9_asTable_0 : decode cX9_asTable 0 = .ok (.aload_n 0, 1) := by decide +kernel
theorem dX9_asTable_1 : decode cX9_asTable 1 = .ok (.instanceof 52, 3) := by decide +kernel
theorem dX9_asTable_4 : decode cX9_asTable 4 = .ok (.ifCond .eq 10, 3) := by decide +kernel
theorem dX9_asTable_7 : decode cX9_asTable 7 = .ok (.aload_n 0, 1) := by decide +kernel
theorem dX9_asTable_8 : decode cX9_asTable 8 = .ok (.checkcast 52, 3) := by decide +kernel
theorem dX9_asTable_11 : decode cX9_asTable 11 = .ok (.goto 4, 3) := by decide +kernel
theorem dX9_asTable_14 : decode cX9_asTable 14 = .ok (.aconst_null, 1) := by decide +kernel
theorem dX9_asTable_15 : decode cX9_asTable 15 = .ok (.areturn, 1) := by decide +kernel
theorem dX9_failed_0 : decode cX9_failed 0 = .ok (.aload_n 0, 1) := by decide +kernel
theorem dX9_failed_1 : decode cX9_failed 1 = .ok (.iload_n 1, 1) := by decide +kernel
theorem dX9_failed_2 : decode cX9_failed 2 = .ok (.putfield 28, 3) := by decide +kernel
theorem dX9_failed_5 : decode cX9_failed 5 = .ok (.bipush (-10), 2) := by decide +kernel
theorem dX9_failed_7 : decode cX9_failed 7 = .ok (.iload_n 1, 1) := by decide +kernel
theorem dX9_failed_8 : decode cX9_failed 8 = .ok (.isub, 1) := by decide +kernel
theorem dX9_failed_9 : decode cX9_failed 9 = .ok (.ireturn, 1) := by decide +kernel
theorem dX9_failedLong_0 : decode cX9_failedLong 0 = .ok (.aload_n 0, 1) := by decide +kernel
theorem dX9_failedLong_1 : decode cX9_failedLong 1 = .ok (.iload_n 1, 1) := by decide +kernel
theorem dX9_failedLong_2 : decode cX9_failedLong 2 = .ok (.putfield 28, 3) := by decide +kernel
theorem dX9_failedLong_5 : decode cX9_failedLong 5 = .ok (.ldc2_w 81, 3) := by decide +kernel
theorem dX9_failedLong_8 : decode cX9_failedLong 8 = .ok (.lreturn, 1) := by decide +kernel
set_option maxRecDepth 20000 in
theorem ggX9_cellFault_X9_mayBeCast : GoodIn wsX9_cellFault wsX9_mayBeCast := goodIn_r _ [4, 5, 6, 3, 7, 8, 9, 10, 11, 12, 13, 14, 15, 16, 17, 18, 19, 20, 21, 22, 23, 24, 25, 26, 27, 28, 29, 30, 31, 32] (by decide +kernel) (by decide +kernel)
set_option maxRecDepth 20000 in
theorem gX9_cellFault_X9_mayBeCast : GoodIn wsX9_cellFault (va_wsS RX9 65 yX9_mayBeCast wsX9_mayBeCast) := goodIn_app (goodIn_of _ (by decide +kernel)) ggX9_cellFault_X9_mayBeCast
set_option maxRecDepth 20000 in
theorem ggX9_cellFault_X9_asRow : GoodIn wsX9_cellFault wsX9_asRow := goodIn_r _ [35, 36] (by decide +kernel) (by decide +kernel)
set_option maxRecDepth 20000 in
theorem gX9_cellFault_X9_asRow : GoodIn wsX9_cellFault (va_wsS RX9 68 yX9_asRow wsX9_asRow) := goodIn_app (goodIn_of _ (by decide +kernel)) ggX9_cellFault_X9_asRow
set_option maxRecDepth 20000 in
theorem ggX9_cellFault_X4_hasCell : GoodIn wsX9_cellFault wsX4_hasCell := goodIn_r _ [42, 43, 44, 45, 46, 15, 47, 48, 49, 50, 23, 51, 52, 53, 54, 27, 55, 56, 59, 60, 61] (by decide +kernel) (by decide +kernel)
set_option maxRecDepth 20000 in
theorem gX9_cellFault_X4_hasCell_u210X0 : GoodIn wsX9_cellFault (va_wsU RX9 210 RX0 "KeptTerms$Row" ⟨"KeptTerms$Row", "hasCell", "(I)Z"⟩ yX4_hasCell wsX4_hasCell) := goodIn_app (goodIn_of _ (by decide +kernel)) ggX9_cellFault_X4_hasCell
set_option maxRecDepth 20000 in
theorem gX9_cellFault_X4_hasCell_u210X5 : GoodIn wsX9_cellFault (va_wsU RX9 210 RX5 "KeptTerms$Row" ⟨"KeptTerms$Row", "hasCell", "(I)Z"⟩ yX4_hasCell wsX4_hasCell) := goodIn_app (goodIn_of _ (by decide +kernel)) ggX9_cellFault_X4_hasCell
set_option maxRecDepth 20000 in
theorem gX9_cellFault_X4_hasCell_u210X6 : GoodIn wsX9_cellFault (va_wsU RX9 210 RX6 "KeptTerms$Row" ⟨"KeptTerms$Row", "hasCell", "(I)Z"⟩ yX4_hasCell wsX4_hasCell) := goodIn_app (goodIn_of _ (by decide +kernel)) ggX9_cellFault_X4_hasCell
theorem dX9_cellFault_0 : decode cX9_cellFault 0 = .ok (.aload_n 0, 1) := by decide +kernel
theorem dX9_cellFault_1 : decode cX9_cellFault 1 = .ok (.iload_n 1, 1) := by decide +kernel
theorem dX9_cellFault_2 : decode cX9_cellFault 2 = .ok (.invokestatic 65, 3) := by decide +kernel
theorem dX9_cellFault_5 : decode cX9_cellFault 5 = .ok (.ifCond .ne 5, 3) := by decide +kernel
theorem dX9_cellFault_8 : decode cX9_cellFault 8 = .ok (.iconst 2, 1) := by decide +kernel
theorem dX9_cellFault_9 : decode cX9_cellFault 9 = .ok (.ireturn, 1) := by decide +kernel
theorem dX9_cellFault_10 : decode cX9_cellFault 10 = .ok (.aload_n 0, 1) := by decide +kernel
theorem dX9_cellFault_11 : decode cX9_cellFault 11 = .ok (.invokestatic 68, 3) := by decide +kernel
theorem dX9_cellFault_14 : decode cX9_cellFault 14 = .ok (.astore_n 3, 1) := by decide +kernel
theorem dX9_cellFault_15 : decode cX9_cellFault 15 = .ok (.aload_n 3, 1) := by decide +kernel
theorem dX9_cellFault_16 : decode cX9_cellFault 16 = .ok (.ifnonnull 5, 3) := by decide +kernel
theorem dX9_cellFault_19 : decode cX9_cellFault 19 = .ok (.iconst 1, 1) := by decide +kernel
theorem dX9_cellFault_20 : decode cX9_cellFault 20 = .ok (.ireturn, 1) := by decide +kernel
theorem dX9_cellFault_21 : decode cX9_cellFault 21 = .ok (.aload_n 3, 1) := by decide +kernel
theorem dX9_cellFault_22 : decode cX9_cellFault 22 = .ok (.iload_n 2, 1) := by decide +kernel
theorem dX9_cellFault_23 : decode cX9_cellFault 23 = .ok (.invokevirtual 210, 3) := by decide +kernel
theorem dX9_cellFault_26 : decode cX9_cellFault 26 = .ok (.ifCond .eq 7, 3) := by decide +kernel
theorem dX9_cellFault_29 : decode cX9_cellFault 29 = .ok (.iconst 0, 1) := by decide +kernel
theorem dX9_cellFault_30 : decode cX9_cellFault 30 = .ok (.goto 4, 3) := by decide +kernel
theorem dX9_cellFault_33 : decode cX9_cellFault 33 = .ok (.iconst 3, 1) := by decide +kernel
theorem dX9_cellFault_34 : decode cX9_cellFault 34 = .ok (.ireturn, 1) := by decide +kernel
set_option maxRecDepth 20000 in
theorem ggX9_tableFault_X9_mayBeCast : GoodIn wsX9_tableFault wsX9_mayBeCast := goodIn_r _ [4, 5, 6, 3, 7, 8, 9, 10, 11, 12, 13, 14, 15, 16, 17, 18, 19, 20, 21, 22, 23, 24, 25, 26, 27, 28, 29, 30, 31, 32] (by decide +kernel) (by decide +kernel)
set_option maxRecDepth 20000 in
theorem gX9_tableFault_X9_mayBeCast : GoodIn wsX9_tableFault (va_wsS RX9 65 yX9_mayBeCast wsX9_mayBeCast) := goodIn_app (goodIn_of _ (by decide +kernel)) ggX9_tableFault_X9_mayBeCast
theorem dX9_tableFault_0 : decode cX9_tableFault 0 = .ok (.aload_n 0, 1) := by decide +kernel
theorem dX9_tableFault_1 : decode cX9_tableFault 1 = .ok (.iconst 4, 1) := by decide +kernel
theorem dX9_tableFault_2 : decode cX9_tableFault 2 = .ok (.invokestatic 65, 3) := by decide +kernel
theorem dX9_tableFault_5 : decode cX9_tableFault 5 = .ok (.ifCond .ne 5, 3) := by decide +kernel
theorem dX9_tableFault_8 : decode cX9_tableFault 8 = .ok (.iconst 2, 1) := by decide +kernel
theorem dX9_tableFault_9 : decode cX9_tableFault 9 = .ok (.ireturn, 1) := by decide +kernel
theorem dX9_tableFault_10 : decode cX9_tableFault 10 = .ok (.aload_n 0, 1) := by decide +kernel
theorem dX9_tableFault_11 : decode cX9_tableFault 11 = .ok (.ifnonnull 7, 3) := by decide +kernel
theorem dX9_tableFault_14 : decode cX9_tableFault 14 = .ok (.iconst 1, 1) := by decide +kernel
theorem dX9_tableFault_15 : decode cX9_tableFault 15 = .ok (.goto 4, 3) := by decide +kernel
theorem dX9_tableFault_18 : decode cX9_tableFault 18 = .ok (.iconst 0, 1) := by decide +kernel
theorem dX9_tableFault_19 : decode cX9_tableFault 19 = .ok (.ireturn, 1) := by decide +kernel
set_option maxRecDepth 20000 in
theorem ggX9_lookFault_X9_mayBeCast : GoodIn wsX9_lookFault wsX9_mayBeCast := goodIn_r _ [4, 5, 6, 3, 7, 8, 9, 10, 11, 12, 13, 14, 15, 16, 17, 18, 19, 20, 21, 22, 23, 24, 25, 26, 27, 28, 29, 30, 31, 32] (by decide +kernel) (by decide +kernel)
set_option maxRecDepth 20000 in
theorem gX9_lookFault_X9_mayBeCast : GoodIn wsX9_lookFault (va_wsS RX9 65 yX9_mayBeCast wsX9_mayBeCast) := goodIn_app (goodIn_of _ (by decide +kernel)) ggX9_lookFault_X9_mayBeCast
theorem dX9_lookFault_0 : decode cX9_lookFault 0 = .ok (.aload_n 0, 1) := by decide +kernel
theorem dX9_lookFault_1 : decode cX9_lookFault 1 = .ok (.iconst 4, 1) := by decide +kernel
theorem dX9_lookFault_2 : decode cX9_lookFault 2 = .ok (.invokestatic 65, 3) := by decide +kernel
theorem dX9_lookFault_5 : decode cX9_lookFault 5 = .ok (.ifCond .eq 11, 3) := by decide +kernel
theorem dX9_lookFault_8 : decode cX9_lookFault 8 = .ok (.aload_n 1, 1) := by decide +kernel
theorem dX9_lookFault_9 : decode cX9_lookFault 9 = .ok (.iconst 1, 1) := by decide +kernel
theorem dX9_lookFault_10 : decode cX9_lookFault 10 = .ok (.invokestatic 65, 3) := by decide +kernel
theorem dX9_lookFault_13 : decode cX9_lookFault 13 = .ok (.ifCond .ne 5, 3) := by decide +kernel
theorem dX9_lookFault_16 : decode cX9_lookFault 16 = .ok (.iconst 2, 1) := by decide +kernel
theorem dX9_lookFault_17 : decode cX9_lookFault 17 = .ok (.ireturn, 1) := by decide +kernel
theorem dX9_lookFault_18 : decode cX9_lookFault 18 = .ok (.aload_n 0, 1) := by decide +kernel
theorem dX9_lookFault_19 : decode cX9_lookFault 19 = .ok (.ifnull 7, 3) := by decide +kernel
theorem dX9_lookFault_22 : decode cX9_lookFault 22 = .ok (.aload_n 1, 1) := by decide +kernel
theorem dX9_lookFault_23 : decode cX9_lookFault 23 = .ok (.ifnonnull 7, 3) := by decide +kernel
theorem dX9_lookFault_26 : decode cX9_lookFault 26 = .ok (.iconst 1, 1) := by decide +kernel
theorem dX9_lookFault_27 : decode cX9_lookFault 27 = .ok (.goto 4, 3) := by decide +kernel
theorem dX9_lookFault_30 : decode cX9_lookFault 30 = .ok (.iconst 0, 1) := by decide +kernel
theorem dX9_lookFault_31 : decode cX9_lookFault 31 = .ok (.ireturn, 1) := by decide +kernel
set_option maxRecDepth 20000 in
theorem ggX9_newRow_X0_init : GoodIn wsX9_newRow wsX0_init := goodIn_r _ [14, 15, 16, 17, 18, 19, 20, 21, 22, 23, 24, 25, 26, 27, 36] (by decide +kernel) (by decide +kernel)
set_option maxRecDepth 20000 in
theorem gX9_newRow_X0_init : GoodIn wsX9_newRow (wsX0_init) := ggX9_newRow_X0_init
set_option maxRecDepth 20000 in
theorem ggX9_newRow_X6_init : GoodIn wsX9_newRow wsX6_init := goodIn_r _ [30, 31, 16, 17, 18, 19, 20, 21, 22, 23, 24, 25, 26, 27, 37] (by decide +kernel) (by decide +kernel)
set_option maxRecDepth 20000 in
theorem gX9_newRow_X6_init : GoodIn wsX9_newRow (wsX6_init) := ggX9_newRow_X6_init
set_option maxRecDepth 20000 in
theorem ggX9_newRow_X5_init : GoodIn wsX9_newRow wsX5_init := goodIn_r _ [34, 35, 19, 20, 21, 22, 23, 24, 25, 26, 27, 38] (by decide +kernel) (by decide +kernel)
set_option maxRecDepth 20000 in
theorem gX9_newRow_X5_init : GoodIn wsX9_newRow (wsX5_init) := ggX9_newRow_X5_init
theorem dX9_newRow_0 : decode cX9_newRow 0 = .ok (.iload_n 0, 1) := by decide +kernel
theorem dX9_newRow_1 : decode cX9_newRow 1 = .ok (.iconst 1, 1) := by decide +kernel
theorem dX9_newRow_2 : decode cX9_newRow 2 = .ok (.if_icmp .ne 14, 3) := by decide +kernel
theorem dX9_newRow_5 : decode cX9_newRow 5 = .ok (.new 119, 3) := by decide +kernel
theorem dX9_newRow_8 : decode cX9_newRow 8 = .ok (.dup, 1) := by decide +kernel
theorem dX9_newRow_9 : decode cX9_newRow 9 = .ok (.iload_n 1, 1) := by decide +kernel
theorem dX9_newRow_10 : decode cX9_newRow 10 = .ok (.newarray .byte, 2) := by decide +kernel
theorem dX9_newRow_12 : decode cX9_newRow 12 = .ok (.invokespecial 211, 3) := by decide +kernel
theorem dX9_newRow_15 : decode cX9_newRow 15 = .ok (.areturn, 1) := by decide +kernel
theorem dX9_newRow_16 : decode cX9_newRow 16 = .ok (.iload_n 0, 1) := by decide +kernel
theorem dX9_newRow_17 : decode cX9_newRow 17 = .ok (.iconst 2, 1) := by decide +kernel
theorem dX9_newRow_18 : decode cX9_newRow 18 = .ok (.if_icmp .ne 14, 3) := by decide +kernel
theorem dX9_newRow_21 : decode cX9_newRow 21 = .ok (.new 214, 3) := by decide +kernel
theorem dX9_newRow_24 : decode cX9_newRow 24 = .ok (.dup, 1) := by decide +kernel
theorem dX9_newRow_25 : decode cX9_newRow 25 = .ok (.iload_n 1, 1) := by decide +kernel
theorem dX9_newRow_26 : decode cX9_newRow 26 = .ok (.newarray .char, 2) := by decide +kernel
theorem dX9_newRow_28 : decode cX9_newRow 28 = .ok (.invokespecial 216, 3) := by decide +kernel
theorem dX9_newRow_31 : decode cX9_newRow 31 = .ok (.areturn, 1) := by decide +kernel
theorem dX9_newRow_32 : decode cX9_newRow 32 = .ok (.new 109, 3) := by decide +kernel
theorem dX9_newRow_35 : decode cX9_newRow 35 = .ok (.dup, 1) := by decide +kernel
theorem dX9_newRow_36 : decode cX9_newRow 36 = .ok (.iload_n 1, 1) := by decide +kernel
theorem dX9_newRow_37 : decode cX9_newRow 37 = .ok (.anewarray 119, 3) := by decide +kernel
theorem dX9_newRow_40 : decode cX9_newRow 40 = .ok (.invokespecial 219, 3) := by decide +kernel
theorem dX9_newRow_43 : decode cX9_newRow 43 = .ok (.areturn, 1) := by decide +kernel
theorem dX9_slotsFor_0 : decode cX9_slotsFor 0 = .ok (.iconst 4, 1) := by decide +kernel
theorem dX9_slotsFor_1 : decode cX9_slotsFor 1 = .ok (.istore_n 1, 1) := by decide +kernel
theorem dX9_slotsFor_2 : decode cX9_slotsFor 2 = .ok (.iload_n 1, 1) := by decide +kernel
theorem dX9_slotsFor_3 : decode cX9_slotsFor 3 = .ok (.iload_n 0, 1) := by decide +kernel
theorem dX9_slotsFor_4 : decode cX9_slotsFor 4 = .ok (.if_icmp .ge 16, 3) := by decide +kernel
theorem dX9_slotsFor_7 : decode cX9_slotsFor 7 = .ok (.iload_n 1, 1) := by decide +kernel
theorem dX9_slotsFor_8 : decode cX9_slotsFor 8 = .ok (.bipush 64, 2) := by decide +kernel
theorem dX9_slotsFor_10 : decode cX9_slotsFor 10 = .ok (.if_icmp .ge 10, 3) := by decide +kernel
theorem dX9_slotsFor_13 : decode cX9_slotsFor 13 = .ok (.iload_n 1, 1) := by decide +kernel
theorem dX9_slotsFor_14 : decode cX9_slotsFor 14 = .ok (.iconst 2, 1) := by decide +kernel
theorem dX9_slotsFor_15 : decode cX9_slotsFor 15 = .ok (.imul, 1) := by decide +kernel
theorem dX9_slotsFor_16 : decode cX9_slotsFor 16 = .ok (.istore_n 1, 1) := by decide +kernel
theorem dX9_slotsFor_17 : decode cX9_slotsFor 17 = .ok (.goto (-15), 3) := by decide +kernel
theorem dX9_slotsFor_20 : decode cX9_slotsFor 20 = .ok (.iload_n 1, 1) := by decide +kernel
theorem dX9_slotsFor_21 : decode cX9_slotsFor 21 = .ok (.ireturn, 1) := by decide +kernel
set_option maxRecDepth 20000 in
theorem ggX9_nameOf_X9_nameText : GoodIn wsX9_nameOf wsX9_nameText := goodIn_r _ [4] (by decide +kernel) (by decide +kernel)
set_option maxRecDepth 20000 in
theorem gX9_nameOf_X9_nameText : GoodIn wsX9_nameOf (va_wsS RX9 222 yX9_nameText wsX9_nameText) := goodIn_app (goodIn_of _ (by decide +kernel)) ggX9_nameOf_X9_nameText
set_option maxRecDepth 20000 in
theorem ggX9_nameOf_X2_spells : GoodIn wsX9_nameOf wsX2_spells := goodIn_r _ [10, 11, 12, 13, 14, 15, 16, 17, 18, 19, 20, 21, 22, 23, 24, 25, 26, 27, 28, 29, 30, 31, 32, 33, 34, 35, 36, 37, 38, 39, 40, 41, 42, 43, 44, 45, 46, 47, 48, 49, 50, 51, 52, 53, 54, 55, 56, 57, 58, 59, 60, 61, 62, 63, 64, 65, 66, 67, 68, 69, 70, 71, 72, 73, 74, 75, 76, 77, 78, 79, 81, 82] (by decide +kernel) (by decide +kernel)
set_option maxRecDepth 20000 in
theorem gX9_nameOf_X2_spells_u226X0 : GoodIn wsX9_nameOf (va_wsU RX9 226 RX0 "KeptTerms$Numbers" ⟨"KeptTerms$Numbers", "spells", "(Ljava/lang/String;)Z"⟩ yX2_spells wsX2_spells) := goodIn_app (goodIn_of _ (by decide +kernel)) ggX9_nameOf_X2_spells
set_option maxRecDepth 20000 in
theorem gX9_nameOf_X2_spells_u226X6 : GoodIn wsX9_nameOf (va_wsU RX9 226 RX6 "KeptTerms$Numbers" ⟨"KeptTerms$Numbers", "spells", "(Ljava/lang/String;)Z"⟩ yX2_spells wsX2_spells) := goodIn_app (goodIn_of _ (by decide +kernel)) ggX9_nameOf_X2_spells
theorem dX9_nameOf_0 : decode cX9_nameOf 0 = .ok (.iconst 1, 1) := by decide +kernel
theorem dX9_nameOf_1 : decode cX9_nameOf 1 = .ok (.istore_n 1, 1) := by decide +kernel
theorem dX9_nameOf_2 : decode cX9_nameOf 2 = .ok (.iload_n 1, 1) := by decide +kernel
theorem dX9_nameOf_3 : decode cX9_nameOf 3 = .ok (.bipush 8, 2) := by decide +kernel
theorem dX9_nameOf_5 : decode cX9_nameOf 5 = .ok (.if_icmp .gt 22, 3) := by decide +kernel
theorem dX9_nameOf_8 : decode cX9_nameOf 8 = .ok (.aload_n 0, 1) := by decide +kernel
theorem dX9_nameOf_9 : decode cX9_nameOf 9 = .ok (.iload_n 1, 1) := by decide +kernel
theorem dX9_nameOf_10 : decode cX9_nameOf 10 = .ok (.invokestatic 222, 3) := by decide +kernel
theorem dX9_nameOf_13 : decode cX9_nameOf 13 = .ok (.invokevirtual 226, 3) := by decide +kernel
theorem dX9_nameOf_16 : decode cX9_nameOf 16 = .ok (.ifCond .eq 5, 3) := by decide +kernel
theorem dX9_nameOf_19 : decode cX9_nameOf 19 = .ok (.iload_n 1, 1) := by decide +kernel
theorem dX9_nameOf_20 : decode cX9_nameOf 20 = .ok (.ireturn, 1) := by decide +kernel
theorem dX9_nameOf_21 : decode cX9_nameOf 21 = .ok (.iinc 1 1, 3) := by decide +kernel
theorem dX9_nameOf_24 : decode cX9_nameOf 24 = .ok (.goto (-22), 3) := by decide +kernel
theorem dX9_nameOf_27 : decode cX9_nameOf 27 = .ok (.iconst 0, 1) := by decide +kernel
theorem dX9_nameOf_28 : decode cX9_nameOf 28 = .ok (.ireturn, 1) := by decide +kernel
theorem dX9_nameText_0 : decode cX9_nameText 0 = .ok (.iload_n 0, 1) := by decide +kernel
theorem dX9_nameText_1 : decode cX9_nameText 1 = .ok (.tableswitch 64 1 7 #[43, 46, 49, 52, 55, 58, 61], 43) := by decide +kernel
theorem dX9_nameText_44 : decode cX9_nameText 44 = .ok (.ldc 230, 2) := by decide +kernel
theorem dX9_nameText_46 : decode cX9_nameText 46 = .ok (.areturn, 1) := by decide +kernel
theorem dX9_nameText_47 : decode cX9_nameText 47 = .ok (.ldc 232, 2) := by decide +kernel
theorem dX9_nameText_49 : decode cX9_nameText 49 = .ok (.areturn, 1) := by decide +kernel
theorem dX9_nameText_50 : decode cX9_nameText 50 = .ok (.ldc 234, 2) := by decide +kernel
theorem dX9_nameText_52 : decode cX9_nameText 52 = .ok (.areturn, 1) := by decide +kernel
theorem dX9_nameText_53 : decode cX9_nameText 53 = .ok (.ldc 236, 2) := by decide +kernel
theorem dX9_nameText_55 : decode cX9_nameText 55 = .ok (.areturn, 1) := by decide +kernel
theorem dX9_nameText_56 : decode cX9_nameText 56 = .ok (.ldc 238, 2) := by decide +kernel
theorem dX9_nameText_58 : decode cX9_nameText 58 = .ok (.areturn, 1) := by decide +kernel
theorem dX9_nameText_59 : decode cX9_nameText 59 = .ok (.ldc 240, 2) := by decide +kernel
theorem dX9_nameText_61 : decode cX9_nameText 61 = .ok (.areturn, 1) := by decide +kernel
theorem dX9_nameText_62 : decode cX9_nameText 62 = .ok (.ldc 242, 2) := by decide +kernel
theorem dX9_nameText_64 : decode cX9_nameText 64 = .ok (.areturn, 1) := by decide +kernel
theorem dX9_nameText_65 : decode cX9_nameText 65 = .ok (.ldc 244, 2) := by decide +kernel
theorem dX9_nameText_67 : decode cX9_nameText 67 = .ok (.areturn, 1) := by decide +kernel
theorem dX9_counted_0 : decode cX9_counted 0 = .ok (.aload_n 0, 1) := by decide +kernel
theorem dX9_counted_1 : decode cX9_counted 1 = .ok (.dup, 1) := by decide +kernel
theorem dX9_counted_2 : decode cX9_counted 2 = .ok (.getfield 206, 3) := by decide +kernel
theorem dX9_counted_5 : decode cX9_counted 5 = .ok (.aload_n 1, 1) := by decide +kernel
theorem dX9_counted_6 : decode cX9_counted 6 = .ok (.getfield 246, 3) := by decide +kernel
theorem dX9_counted_9 : decode cX9_counted 9 = .ok (.i2l, 1) := by decide +kernel
theorem dX9_counted_10 : decode cX9_counted 10 = .ok (.ladd, 1) := by decide +kernel
theorem dX9_counted_11 : decode cX9_counted 11 = .ok (.putfield 206, 3) := by decide +kernel
theorem dX9_counted_14 : decode cX9_counted 14 = .ok (.aload_n 0, 1) := by decide +kernel
theorem dX9_counted_15 : decode cX9_counted 15 = .ok (.dup, 1) := by decide +kernel
theorem dX9_counted_16 : decode cX9_counted 16 = .ok (.getfield 195, 3) := by decide +kernel
theorem dX9_counted_19 : decode cX9_counted 19 = .ok (.lconst 1, 1) := by decide +kernel
theorem dX9_counted_20 : decode cX9_counted 20 = .ok (.ladd, 1) := by decide +kernel
theorem dX9_counted_21 : decode cX9_counted 21 = .ok (.putfield 195, 3) := by decide +kernel
theorem dX9_counted_24 : decode cX9_counted 24 = .ok (.iload_n 2, 1) := by decide +kernel
theorem dX9_counted_25 : decode cX9_counted 25 = .ok (.ireturn, 1) := by decide +kernel
theorem dX10_init_0 : decode cX10_init 0 = .ok (.aload_n 0, 1) := by decide +kernel
theorem dX10_init_1 : decode cX10_init 1 = .ok (.invokespecial 1, 3) := by decide +kernel
theorem dX10_init_4 : decode cX10_init 4 = .ok (.aload_n 0, 1) := by decide +kernel
theorem dX10_init_5 : decode cX10_init 5 = .ok (.bipush 10, 2) := by decide +kernel
theorem dX10_init_7 : decode cX10_init 7 = .ok (.newarray .int, 2) := by decide +kernel
theorem dX10_init_9 : decode cX10_init 9 = .ok (.putfield 7, 3) := by decide +kernel
theorem dX10_init_12 : decode cX10_init 12 = .ok (.aload_n 0, 1) := by decide +kernel
theorem dX10_init_13 : decode cX10_init 13 = .ok (.bipush 10, 2) := by decide +kernel
theorem dX10_init_15 : decode cX10_init 15 = .ok (.newarray .int, 2) := by decide +kernel
theorem dX10_init_17 : decode cX10_init 17 = .ok (.putfield 13, 3) := by decide +kernel
theorem dX10_init_20 : decode cX10_init 20 = .ok (.aload_n 0, 1) := by decide +kernel
theorem dX10_init_21 : decode cX10_init 21 = .ok (.ldc 16, 2) := by decide +kernel
theorem dX10_init_23 : decode cX10_init 23 = .ok (.newarray .int, 2) := by decide +kernel
theorem dX10_init_25 : decode cX10_init 25 = .ok (.putfield 17, 3) := by decide +kernel
theorem dX10_init_28 : decode cX10_init 28 = .ok (.aload_n 0, 1) := by decide +kernel
theorem dX10_init_29 : decode cX10_init 29 = .ok (.ldc 20, 2) := by decide +kernel
theorem dX10_init_31 : decode cX10_init 31 = .ok (.newarray .int, 2) := by decide +kernel
theorem dX10_init_33 : decode cX10_init 33 = .ok (.putfield 21, 3) := by decide +kernel
theorem dX10_init_36 : decode cX10_init 36 = .ok (.aload_n 0, 1) := by decide +kernel
theorem dX10_init_37 : decode cX10_init 37 = .ok (.sipush 600, 3) := by decide +kernel
theorem dX10_init_40 : decode cX10_init 40 = .ok (.newarray .int, 2) := by decide +kernel
theorem dX10_init_42 : decode cX10_init 42 = .ok (.putfield 24, 3) := by decide +kernel
theorem dX10_init_45 : decode cX10_init 45 = .ok (.aload_n 0, 1) := by decide +kernel
theorem dX10_init_46 : decode cX10_init 46 = .ok (.sipush 9600, 3) := by decide +kernel
theorem dX10_init_49 : decode cX10_init 49 = .ok (.newarray .int, 2) := by decide +kernel
theorem dX10_init_51 : decode cX10_init 51 = .ok (.putfield 27, 3) := by decide +kernel
theorem dX10_init_54 : decode cX10_init 54 = .ok (.aload_n 0, 1) := by decide +kernel
theorem dX10_init_55 : decode cX10_init 55 = .ok (.sipush 600, 3) := by decide +kernel
theorem dX10_init_58 : decode cX10_init 58 = .ok (.newarray .int, 2) := by decide +kernel
theorem dX10_init_60 : decode cX10_init 60 = .ok (.putfield 30, 3) := by decide +kernel
theorem dX10_init_63 : decode cX10_init 63 = .ok (.aload_n 0, 1) := by decide +kernel
theorem dX10_init_64 : decode cX10_init 64 = .ok (.sipush 9600, 3) := by decide +kernel
theorem dX10_init_67 : decode cX10_init 67 = .ok (.newarray .int, 2) := by decide +kernel
theorem dX10_init_69 : decode cX10_init 69 = .ok (.putfield 33, 3) := by decide +kernel
theorem dX10_init_72 : decode cX10_init 72 = .ok (.aload_n 0, 1) := by decide +kernel
theorem dX10_init_73 : decode cX10_init 73 = .ok (.sipush 520, 3) := by decide +kernel
theorem dX10_init_76 : decode cX10_init 76 = .ok (.newarray .boolean, 2) := by decide +kernel
theorem dX10_init_78 : decode cX10_init 78 = .ok (.putfield 36, 3) := by decide +kernel
theorem dX10_init_81 : decode cX10_init 81 = .ok (.aload_n 0, 1) := by decide +kernel
theorem dX10_init_82 : decode cX10_init 82 = .ok (.sipush 520, 3) := by decide +kernel
theorem dX10_init_85 : decode cX10_init 85 = .ok (.newarray .int, 2) := by decide +kernel
theorem dX10_init_87 : decode cX10_init 87 = .ok (.putfield 40, 3) := by decide +kernel
theorem dX10_init_90 : decode cX10_init 90 = .ok (.aload_n 0, 1) := by decide +kernel
theorem dX10_init_91 : decode cX10_init 91 = .ok (.sipush 520, 3) := by decide +kernel
theorem dX10_init_94 : decode cX10_init 94 = .ok (.newarray .int, 2) := by decide +kernel
theorem dX10_init_96 : decode cX10_init 96 = .ok (.putfield 43, 3) := by decide +kernel
theorem dX10_init_99 : decode cX10_init 99 = .ok (.aload_n 0, 1) := by decide +kernel
theorem dX10_init_100 : decode cX10_init 100 = .ok (.sipush 520, 3) := by decide +kernel
theorem dX10_init_103 : decode cX10_init 103 = .ok (.newarray .int, 2) := by decide +kernel
theorem dX10_init_105 : decode cX10_init 105 = .ok (.putfield 46, 3) := by decide +kernel
theorem dX10_init_108 : decode cX10_init 108 = .ok (.aload_n 0, 1) := by decide +kernel
theorem dX10_init_109 : decode cX10_init 109 = .ok (.sipush 520, 3) := by decide +kernel
theorem dX10_init_112 : decode cX10_init 112 = .ok (.newarray .int, 2) := by decide +kernel
theorem dX10_init_114 : decode cX10_init 114 = .ok (.putfield 49, 3) := by decide +kernel
theorem dX10_init_117 : decode cX10_init 117 = .ok (.aload_n 0, 1) := by decide +kernel
theorem dX10_init_118 : decode cX10_init 118 = .ok (.ldc 52, 2) := by decide +kernel
theorem dX10_init_120 : decode cX10_init 120 = .ok (.newarray .int, 2) := by decide +kernel
theorem dX10_init_122 : decode cX10_init 122 = .ok (.putfield 53, 3) := by decide +kernel
theorem dX10_init_125 : decode cX10_init 125 = .ok (.aload_n 0, 1) := by decide +kernel
theorem dX10_init_126 : decode cX10_init 126 = .ok (.ldc 56, 2) := by decide +kernel
theorem dX10_init_128 : decode cX10_init 128 = .ok (.newarray .int, 2) := by decide +kernel
theorem dX10_init_130 : decode cX10_init 130 = .ok (.putfield 57, 3) := by decide +kernel
theorem dX10_init_133 : decode cX10_init 133 = .ok (.aload_n 0, 1) := by decide +kernel
theorem dX10_init_134 : decode cX10_init 134 = .ok (.ldc 16, 2) := by decide +kernel
theorem dX10_init_136 : decode cX10_init 136 = .ok (.newarray .int, 2) := by decide +kernel
theorem dX10_init_138 : decode cX10_init 138 = .ok (.putfield 60, 3) := by decide +kernel
theorem dX10_init_141 : decode cX10_init 141 = .ok (.aload_n 0, 1) := by decide +kernel
theorem dX10_init_142 : decode cX10_init 142 = .ok (.bipush 16, 2) := by decide +kernel
theorem dX10_init_144 : decode cX10_init 144 = .ok (.newarray .int, 2) := by decide +kernel
theorem dX10_init_146 : decode cX10_init 146 = .ok (.putfield 63, 3) := by decide +kernel
theorem dX10_init_149 : decode cX10_init 149 = .ok (.return_, 1) := by decide +kernel
theorem dX10_thrown_0 : decode cX10_thrown 0 = .ok (.aload_n 0, 1) := by decide +kernel
theorem dX10_thrown_1 : decode cX10_thrown 1 = .ok (.getfield 66, 3) := by decide +kernel
theorem dX10_thrown_4 : decode cX10_thrown 4 = .ok (.ireturn, 1) := by decide +kernel
theorem dX10_in_0 : decode cX10_in 0 = .ok (.iload_n 0, 1) := by decide +kernel
theorem dX10_in_1 : decode cX10_in 1 = .ok (.iload_n 1, 1) := by decide +kernel
theorem dX10_in_2 : decode cX10_in 2 = .ok (.if_icmp .lt 12, 3) := by decide +kernel
theorem dX10_in_5 : decode cX10_in 5 = .ok (.iload_n 0, 1) := by decide +kernel
theorem dX10_in_6 : decode cX10_in 6 = .ok (.iload_n 2, 1) := by decide +kernel
theorem dX10_in_7 : decode cX10_in 7 = .ok (.if_icmp .gt 7, 3) := by decide +kernel
theorem dX10_in_10 : decode cX10_in 10 = .ok (.iconst 1, 1) := by decide +kernel
theorem dX10_in_11 : decode cX10_in 11 = .ok (.goto 4, 3) := by decide +kernel
theorem dX10_in_14 : decode cX10_in 14 = .ok (.iconst 0, 1) := by decide +kernel
theorem dX10_in_15 : decode cX10_in 15 = .ok (.ireturn, 1) := by decide +kernel
set_option maxRecDepth 20000 in
theorem ggX10_isPlace_X10_in : GoodIn wsX10_isPlace wsX10_in := goodIn_r _ [4] (by decide +kernel) (by decide +kernel)
set_option maxRecDepth 20000 in
theorem gX10_isPlace_X10_in : GoodIn wsX10_isPlace (va_wsS RX10 70 yX10_in wsX10_in) := goodIn_app (goodIn_of _ (by decide +kernel)) ggX10_isPlace_X10_in
theorem dX10_isPlace_0 : decode cX10_isPlace 0 = .ok (.iload_n 0, 1) := by decide +kernel
theorem dX10_isPlace_1 : decode cX10_isPlace 1 = .ok (.iconst 0, 1) := by decide +kernel
theorem dX10_isPlace_2 : decode cX10_isPlace 2 = .ok (.bipush 9, 2) := by decide +kernel
theorem dX10_isPlace_4 : decode cX10_isPlace 4 = .ok (.invokestatic 70, 3) := by decide +kernel
theorem dX10_isPlace_7 : decode cX10_isPlace 7 = .ok (.ireturn, 1) := by decide +kernel
theorem dX10_fails_0 : decode cX10_fails 0 = .ok (.aload_n 0, 1) := by decide +kernel
theorem dX10_fails_1 : decode cX10_fails 1 = .ok (.iload_n 1, 1) := by decide +kernel
theorem dX10_fails_2 : decode cX10_fails 2 = .ok (.putfield 74, 3) := by decide +kernel
theorem dX10_fails_5 : decode cX10_fails 5 = .ok (.bipush (-10), 2) := by decide +kernel
theorem dX10_fails_7 : decode cX10_fails 7 = .ok (.iload_n 1, 1) := by decide +kernel
theorem dX10_fails_8 : decode cX10_fails 8 = .ok (.isub, 1) := by decide +kernel
theorem dX10_fails_9 : decode cX10_fails 9 = .ok (.ireturn, 1) := by decide +kernel
theorem dX10_failsLong_0 : decode cX10_failsLong 0 = .ok (.aload_n 0, 1) := by decide +kernel
theorem dX10_failsLong_1 : decode cX10_failsLong 1 = .ok (.iload_n 1, 1) := by decide +kernel
theorem dX10_failsLong_2 : decode cX10_failsLong 2 = .ok (.putfield 74, 3) := by decide +kernel
theorem dX10_failsLong_5 : decode cX10_failsLong 5 = .ok (.ldc2_w 77, 3) := by decide +kernel
theorem dX10_failsLong_8 : decode cX10_failsLong 8 = .ok (.lreturn, 1) := by decide +kernel
theorem dX10_fault_0 : decode cX10_fault 0 = .ok (.aload_n 0, 1) := by decide +kernel
theorem dX10_fault_1 : decode cX10_fault 1 = .ok (.iconst 0, 1) := by decide +kernel
theorem dX10_fault_2 : decode cX10_fault 2 = .ok (.putfield 66, 3) := by decide +kernel
theorem dX10_fault_5 : decode cX10_fault 5 = .ok (.aload_n 0, 1) := by decide +kernel
theorem dX10_fault_6 : decode cX10_fault 6 = .ok (.getfield 74, 3) := by decide +kernel
theorem dX10_fault_9 : decode cX10_fault 9 = .ok (.ireturn, 1) := by decide +kernel
theorem dX10_newBytes_0 : decode cX10_newBytes 0 = .ok (.aload_n 0, 1) := by decide +kernel
theorem dX10_newBytes_1 : decode cX10_newBytes 1 = .ok (.getfield 17, 3) := by decide +kernel
theorem dX10_newBytes_4 : decode cX10_newBytes 4 = .ok (.aload_n 0, 1) := by decide +kernel
theorem dX10_newBytes_5 : decode cX10_newBytes 5 = .ok (.getfield 79, 3) := by decide +kernel
theorem dX10_newBytes_8 : decode cX10_newBytes 8 = .ok (.iload_n 1, 1) := by decide +kernel
theorem dX10_newBytes_9 : decode cX10_newBytes 9 = .ok (.iastore, 1) := by decide +kernel
theorem dX10_newBytes_10 : decode cX10_newBytes 10 = .ok (.iconst 0, 1) := by decide +kernel
theorem dX10_newBytes_11 : decode cX10_newBytes 11 = .ok (.istore_n 2, 1) := by decide +kernel
theorem dX10_newBytes_12 : decode cX10_newBytes 12 = .ok (.iload_n 2, 1) := by decide +kernel
theorem dX10_newBytes_13 : decode cX10_newBytes 13 = .ok (.bipush 16, 2) := by decide +kernel
theorem dX10_newBytes_15 : decode cX10_newBytes 15 = .ok (.if_icmp .ge 24, 3) := by decide +kernel
theorem dX10_newBytes_18 : decode cX10_newBytes 18 = .ok (.aload_n 0, 1) := by decide +kernel
theorem dX10_newBytes_19 : decode cX10_newBytes 19 = .ok (.getfield 21, 3) := by decide +kernel
theorem dX10_newBytes_22 : decode cX10_newBytes 22 = .ok (.bipush 16, 2) := by decide +kernel
theorem dX10_newBytes_24 : decode cX10_newBytes 24 = .ok (.aload_n 0, 1) := by decide +kernel
theorem dX10_newBytes_25 : decode cX10_newBytes 25 = .ok (.getfield 79, 3) := by decide +kernel
theorem dX10_newBytes_28 : decode cX10_newBytes 28 = .ok (.imul, 1) := by decide +kernel
theorem dX10_newBytes_29 : decode cX10_newBytes 29 = .ok (.iload_n 2, 1) := by decide +kernel
theorem dX10_newBytes_30 : decode cX10_newBytes 30 = .ok (.iadd, 1) := by decide +kernel
theorem dX10_newBytes_31 : decode cX10_newBytes 31 = .ok (.iconst 0, 1) := by decide +kernel
theorem dX10_newBytes_32 : decode cX10_newBytes 32 = .ok (.iastore, 1) := by decide +kernel
theorem dX10_newBytes_33 : decode cX10_newBytes 33 = .ok (.iinc 2 1, 3) := by decide +kernel
theorem dX10_newBytes_36 : decode cX10_newBytes 36 = .ok (.goto (-24), 3) := by decide +kernel
theorem dX10_newBytes_39 : decode cX10_newBytes 39 = .ok (.aload_n 0, 1) := by decide +kernel
theorem dX10_newBytes_40 : decode cX10_newBytes 40 = .ok (.dup, 1) := by decide +kernel
theorem dX10_newBytes_41 : decode cX10_newBytes 41 = .ok (.getfield 79, 3) := by decide +kernel
theorem dX10_newBytes_44 : decode cX10_newBytes 44 = .ok (.iconst 1, 1) := by decide +kernel
theorem dX10_newBytes_45 : decode cX10_newBytes 45 = .ok (.iadd, 1) := by decide +kernel
theorem dX10_newBytes_46 : decode cX10_newBytes 46 = .ok (.putfield 79, 3) := by decide +kernel
theorem dX10_newBytes_49 : decode cX10_newBytes 49 = .ok (.aload_n 0, 1) := by decide +kernel
theorem dX10_newBytes_50 : decode cX10_newBytes 50 = .ok (.getfield 79, 3) := by decide +kernel
theorem dX10_newBytes_53 : decode cX10_newBytes 53 = .ok (.iconst 1, 1) := by decide +kernel
theorem dX10_newBytes_54 : decode cX10_newBytes 54 = .ok (.isub, 1) := by decide +kernel
theorem dX10_newBytes_55 : decode cX10_newBytes 55 = .ok (.ireturn, 1) := by decide +kernel
set_option maxRecDepth 20000 in
theorem ggX10_twinOf_X10_newBytes : GoodIn wsX10_twinOf wsX10_newBytes := goodIn_r _ [7, 1, 8, 2, 9, 10, 11, 12, 13, 14, 15, 16, 17, 18, 19, 20, 21, 22, 23, 24, 25, 26, 27, 28, 29, 30, 31, 32, 33, 34] (by decide +kernel) (by decide +kernel)
set_option maxRecDepth 20000 in
theorem gX10_twinOf_X10_newBytes : GoodIn wsX10_twinOf (wsV RX10 82 RX10 yX10_newBytes wsX10_newBytes) := goodIn_app (goodIn_of _ (by decide +kernel)) ggX10_twinOf_X10_newBytes
theorem dX10_twinOf_0 : decode cX10_twinOf 0 = .ok (.aload_n 0, 1) := by decide +kernel
theorem dX10_twinOf_1 : decode cX10_twinOf 1 = .ok (.aload_n 0, 1) := by decide +kernel
theorem dX10_twinOf_2 : decode cX10_twinOf 2 = .ok (.getfield 17, 3) := by decide +kernel
theorem dX10_twinOf_5 : decode cX10_twinOf 5 = .ok (.iload_n 1, 1) := by decide +kernel
theorem dX10_twinOf_6 : decode cX10_twinOf 6 = .ok (.iaload, 1) := by decide +kernel
theorem dX10_twinOf_7 : decode cX10_twinOf 7 = .ok (.invokevirtual 82, 3) := by decide +kernel
theorem dX10_twinOf_10 : decode cX10_twinOf 10 = .ok (.istore_n 2, 1) := by decide +kernel
theorem dX10_twinOf_11 : decode cX10_twinOf 11 = .ok (.iconst 0, 1) := by decide +kernel
theorem dX10_twinOf_12 : decode cX10_twinOf 12 = .ok (.istore_n 3, 1) := by decide +kernel
theorem dX10_twinOf_13 : decode cX10_twinOf 13 = .ok (.iload_n 3, 1) := by decide +kernel
theorem dX10_twinOf_14 : decode cX10_twinOf 14 = .ok (.bipush 16, 2) := by decide +kernel
theorem dX10_twinOf_16 : decode cX10_twinOf 16 = .ok (.if_icmp .ge 31, 3) := by decide +kernel
theorem dX10_twinOf_19 : decode cX10_twinOf 19 = .ok (.aload_n 0, 1) := by decide +kernel
theorem dX10_twinOf_20 : decode cX10_twinOf 20 = .ok (.getfield 21, 3) := by decide +kernel
theorem dX10_twinOf_23 : decode cX10_twinOf 23 = .ok (.bipush 16, 2) := by decide +kernel
theorem dX10_twinOf_25 : decode cX10_twinOf 25 = .ok (.iload_n 2, 1) := by decide +kernel
theorem dX10_twinOf_26 : decode cX10_twinOf 26 = .ok (.imul, 1) := by decide +kernel
theorem dX10_twinOf_27 : decode cX10_twinOf 27 = .ok (.iload_n 3, 1) := by decide +kernel
theorem dX10_twinOf_28 : decode cX10_twinOf 28 = .ok (.iadd, 1) := by decide +kernel
theorem dX10_twinOf_29 : decode cX10_twinOf 29 = .ok (.aload_n 0, 1) := by decide +kernel
theorem dX10_twinOf_30 : decode cX10_twinOf 30 = .ok (.getfield 21, 3) := by decide +kernel
theorem dX10_twinOf_33 : decode cX10_twinOf 33 = .ok (.bipush 16, 2) := by decide +kernel
theorem dX10_twinOf_35 : decode cX10_twinOf 35 = .ok (.iload_n 1, 1) := by decide +kernel
theorem dX10_twinOf_36 : decode cX10_twinOf 36 = .ok (.imul, 1) := by decide +kernel
theorem dX10_twinOf_37 : decode cX10_twinOf 37 = .ok (.iload_n 3, 1) := by decide +kernel
theorem dX10_twinOf_38 : decode cX10_twinOf 38 = .ok (.iadd, 1) := by decide +kernel
theorem dX10_twinOf_39 : decode cX10_twinOf 39 = .ok (.iaload, 1) := by decide +kernel
theorem dX10_twinOf_40 : decode cX10_twinOf 40 = .ok (.iastore, 1) := by decide +kernel
theorem dX10_twinOf_41 : decode cX10_twinOf 41 = .ok (.iinc 3 1, 3) := by decide +kernel
theorem dX10_twinOf_44 : decode cX10_twinOf 44 = .ok (.goto (-31), 3) := by decide +kernel
theorem dX10_twinOf_47 : decode cX10_twinOf 47 = .ok (.iload_n 2, 1) := by decide +kernel
theorem dX10_twinOf_48 : decode cX10_twinOf 48 = .ok (.ireturn, 1) := by decide +kernel
theorem dX10_hold_0 : decode cX10_hold 0 = .ok (.aload_n 0, 1) := by decide +kernel
theorem dX10_hold_1 : decode cX10_hold 1 = .ok (.getfield 7, 3) := by decide +kernel
theorem dX10_hold_4 : decode cX10_hold 4 = .ok (.iload_n 1, 1) := by decide +kernel
theorem dX10_hold_5 : decode cX10_hold 5 = .ok (.iload_n 2, 1) := by decide +kernel
theorem dX10_hold_6 : decode cX10_hold 6 = .ok (.iastore, 1) := by decide +kernel
theorem dX10_hold_7 : decode cX10_hold 7 = .ok (.aload_n 0, 1) := by decide +kernel
theorem dX10_hold_8 : decode cX10_hold 8 = .ok (.getfield 13, 3) := by decide +kernel
theorem dX10_hold_11 : decode cX10_hold 11 = .ok (.iload_n 1, 1) := by decide +kernel
theorem dX10_hold_12 : decode cX10_hold 12 = .ok (.iload_n 3, 1) := by decide +kernel
theorem dX10_hold_13 : decode cX10_hold 13 = .ok (.iastore, 1) := by decide +kernel
theorem dX10_hold_14 : decode cX10_hold 14 = .ok (.return_, 1) := by decide +kernel
set_option maxRecDepth 20000 in
theorem ggX10_make_X10_isPlace : GoodIn wsX10_make wsX10_isPlace := goodIn_r _ [11, 12, 13, 10, 14] (by decide +kernel) (by decide +kernel)
set_option maxRecDepth 20000 in
theorem gX10_make_X10_isPlace : GoodIn wsX10_make (va_wsS RX10 86 yX10_isPlace wsX10_isPlace) := goodIn_app (goodIn_of _ (by decide +kernel)) ggX10_make_X10_isPlace
set_option maxRecDepth 20000 in
theorem ggX10_make_X10_in : GoodIn wsX10_make wsX10_in := goodIn_r _ [14] (by decide +kernel) (by decide +kernel)
set_option maxRecDepth 20000 in
theorem gX10_make_X10_in : GoodIn wsX10_make (va_wsS RX10 70 yX10_in wsX10_in) := goodIn_app (goodIn_of _ (by decide +kernel)) ggX10_make_X10_in
set_option maxRecDepth 20000 in
theorem ggX10_make_X10_fails : GoodIn wsX10_make wsX10_fails := goodIn_r _ [18, 19, 33, 34, 35, 36, 37, 38, 39, 40, 41, 42, 43, 44, 45, 46, 47, 48, 49, 50, 51, 52, 53, 54, 55, 56, 57, 58] (by decide +kernel) (by decide +kernel)
set_option maxRecDepth 20000 in
theorem gX10_make_X10_fails : GoodIn wsX10_make (wsV RX10 90 RX10 yX10_fails wsX10_fails) := goodIn_app (goodIn_of _ (by decide +kernel)) ggX10_make_X10_fails
set_option maxRecDepth 20000 in
theorem ggX10_make_X10_newBytes : GoodIn wsX10_make wsX10_newBytes := goodIn_r _ [23, 24, 25, 26, 33, 34, 35, 36, 37, 38, 39, 40, 41, 42, 43, 44, 45, 46, 47, 48, 49, 50, 51, 52, 53, 54, 55, 56, 57, 58] (by decide +kernel) (by decide +kernel)
set_option maxRecDepth 20000 in
theorem gX10_make_X10_newBytes : GoodIn wsX10_make (wsV RX10 82 RX10 yX10_newBytes wsX10_newBytes) := goodIn_app (goodIn_of _ (by decide +kernel)) ggX10_make_X10_newBytes
set_option maxRecDepth 20000 in
theorem ggX10_make_X10_hold : GoodIn wsX10_make wsX10_hold := goodIn_r _ [30, 31, 32, 33, 34, 35, 36, 37, 38, 39, 40, 41, 42, 43, 44, 45, 46, 47, 48, 49, 50, 51, 52, 53, 54, 55, 56, 57, 58] (by decide +kernel) (by decide +kernel)
set_option maxRecDepth 20000 in
theorem gX10_make_X10_hold : GoodIn wsX10_make (wsV RX10 93 RX10 yX10_hold wsX10_hold) := goodIn_app (goodIn_of _ (by decide +kernel)) ggX10_make_X10_hold
theorem dX10_make_0 : decode cX10_make 0 = .ok (.aload_n 0, 1) := by decide +kernel
theorem dX10_make_1 : decode cX10_make 1 = .ok (.iconst 0, 1) := by decide +kernel
theorem dX10_make_2 : decode cX10_make 2 = .ok (.putfield 66, 3) := by decide +kernel
theorem dX10_make_5 : decode cX10_make 5 = .ok (.iload_n 1, 1) := by decide +kernel
theorem dX10_make_6 : decode cX10_make 6 = .ok (.invokestatic 86, 3) := by decide +kernel
theorem dX10_make_9 : decode cX10_make 9 = .ok (.ifCond .ne 5, 3) := by decide +kernel
theorem dX10_make_12 : decode cX10_make 12 = .ok (.iconst (-1), 1) := by decide +kernel
theorem dX10_make_13 : decode cX10_make 13 = .ok (.ireturn, 1) := by decide +kernel
theorem dX10_make_14 : decode cX10_make 14 = .ok (.iload_n 2, 1) := by decide +kernel
theorem dX10_make_15 : decode cX10_make 15 = .ok (.iconst 1, 1) := by decide +kernel
theorem dX10_make_16 : decode cX10_make 16 = .ok (.iconst 3, 1) := by decide +kernel
theorem dX10_make_17 : decode cX10_make 17 = .ok (.invokestatic 70, 3) := by decide +kernel
theorem dX10_make_20 : decode cX10_make 20 = .ok (.ifCond .eq 9, 3) := by decide +kernel
theorem dX10_make_23 : decode cX10_make 23 = .ok (.iload_n 3, 1) := by decide +kernel
theorem dX10_make_24 : decode cX10_make 24 = .ok (.bipush 16, 2) := by decide +kernel
theorem dX10_make_26 : decode cX10_make 26 = .ok (.if_icmp .le 6, 3) := by decide +kernel
theorem dX10_make_29 : decode cX10_make 29 = .ok (.bipush (-2), 2) := by decide +kernel
theorem dX10_make_31 : decode cX10_make 31 = .ok (.ireturn, 1) := by decide +kernel
theorem dX10_make_32 : decode cX10_make 32 = .ok (.iload_n 3, 1) := by decide +kernel
theorem dX10_make_33 : decode cX10_make 33 = .ok (.ifCond .ge 9, 3) := by decide +kernel
theorem dX10_make_36 : decode cX10_make 36 = .ok (.aload_n 0, 1) := by decide +kernel
theorem dX10_make_37 : decode cX10_make 37 = .ok (.iconst 5, 1) := by decide +kernel
theorem dX10_make_38 : decode cX10_make 38 = .ok (.invokevirtual 90, 3) := by decide +kernel
theorem dX10_make_41 : decode cX10_make 41 = .ok (.ireturn, 1) := by decide +kernel
theorem dX10_make_42 : decode cX10_make 42 = .ok (.iload_n 2, 1) := by decide +kernel
theorem dX10_make_43 : decode cX10_make 43 = .ok (.iconst 1, 1) := by decide +kernel
theorem dX10_make_44 : decode cX10_make 44 = .ok (.if_icmp .ne 17, 3) := by decide +kernel
theorem dX10_make_47 : decode cX10_make 47 = .ok (.aload_n 0, 1) := by decide +kernel
theorem dX10_make_48 : decode cX10_make 48 = .ok (.iload_n 1, 1) := by decide +kernel
theorem dX10_make_49 : decode cX10_make 49 = .ok (.iconst 1, 1) := by decide +kernel
theorem dX10_make_50 : decode cX10_make 50 = .ok (.aload_n 0, 1) := by decide +kernel
theorem dX10_make_51 : decode cX10_make 51 = .ok (.iload_n 3, 1) := by decide +kernel
theorem dX10_make_52 : decode cX10_make 52 = .ok (.invokevirtual 82, 3) := by decide +kernel
theorem dX10_make_55 : decode cX10_make 55 = .ok (.invokevirtual 93, 3) := by decide +kernel
theorem dX10_make_58 : decode cX10_make 58 = .ok (.goto 135, 3) := by decide +kernel
theorem dX10_make_61 : decode cX10_make 61 = .ok (.iload_n 2, 1) := by decide +kernel
theorem dX10_make_62 : decode cX10_make 62 = .ok (.iconst 2, 1) := by decide +kernel
theorem dX10_make_63 : decode cX10_make 63 = .ok (.if_icmp .ne 68, 3) := by decide +kernel
theorem dX10_make_66 : decode cX10_make 66 = .ok (.aload_n 0, 1) := by decide +kernel
theorem dX10_make_67 : decode cX10_make 67 = .ok (.getfield 24, 3) := by decide +kernel
theorem dX10_make_70 : decode cX10_make 70 = .ok (.aload_n 0, 1) := by decide +kernel
theorem dX10_make_71 : decode cX10_make 71 = .ok (.getfield 97, 3) := by decide +kernel
theorem dX10_make_74 : decode cX10_make 74 = .ok (.iload_n 3, 1) := by decide +kernel
theorem dX10_make_75 : decode cX10_make 75 = .ok (.iastore, 1) := by decide +kernel
theorem dX10_make_76 : decode cX10_make 76 = .ok (.iconst 0, 1) := by decide +kernel
theorem dX10_make_77 : decode cX10_make 77 = .ok (.istore 4, 2) := by decide +kernel
theorem dX10_make_79 : decode cX10_make 79 = .ok (.iload 4, 2) := by decide +kernel
theorem dX10_make_81 : decode cX10_make 81 = .ok (.bipush 16, 2) := by decide +kernel
theorem dX10_make_83 : decode cX10_make 83 = .ok (.if_icmp .ge 25, 3) := by decide +kernel
theorem dX10_make_86 : decode cX10_make 86 = .ok (.aload_n 0, 1) := by decide +kernel
theorem dX10_make_87 : decode cX10_make 87 = .ok (.getfield 27, 3) := by decide +kernel
theorem dX10_make_90 : decode cX10_make 90 = .ok (.bipush 16, 2) := by decide +kernel
theorem dX10_make_92 : decode cX10_make 92 = .ok (.aload_n 0, 1) := by decide +kernel
theorem dX10_make_93 : decode cX10_make 93 = .ok (.getfield 97, 3) := by decide +kernel
theorem dX10_make_96 : decode cX10_make 96 = .ok (.imul, 1) := by decide +kernel
theorem dX10_make_97 : decode cX10_make 97 = .ok (.iload 4, 2) := by decide +kernel
theorem dX10_make_99 : decode cX10_make 99 = .ok (.iadd, 1) := by decide +kernel
theorem dX10_make_100 : decode cX10_make 100 = .ok (.iconst 0, 1) := by decide +kernel
theorem dX10_make_101 : decode cX10_make 101 = .ok (.iastore, 1) := by decide +kernel
theorem dX10_make_102 : decode cX10_make 102 = .ok (.iinc 4 1, 3) := by decide +kernel
theorem dX10_make_105 : decode cX10_make 105 = .ok (.goto (-26), 3) := by decide +kernel
theorem dX10_make_108 : decode cX10_make 108 = .ok (.aload_n 0, 1) := by decide +kernel
theorem dX10_make_109 : decode cX10_make 109 = .ok (.iload_n 1, 1) := by decide +kernel
theorem dX10_make_110 : decode cX10_make 110 = .ok (.iconst 2, 1) := by decide +kernel
theorem dX10_make_111 : decode cX10_make 111 = .ok (.aload_n 0, 1) := by decide +kernel
theorem dX10_make_112 : decode cX10_make 112 = .ok (.getfield 97, 3) := by decide +kernel
theorem dX10_make_115 : decode cX10_make 115 = .ok (.invokevirtual 93, 3) := by decide +kernel
theorem dX10_make_118 : decode cX10_make 118 = .ok (.aload_n 0, 1) := by decide +kernel
theorem dX10_make_119 : decode cX10_make 119 = .ok (.dup, 1) := by decide +kernel
theorem dX10_make_120 : decode cX10_make 120 = .ok (.getfield 97, 3) := by decide +kernel
theorem dX10_make_123 : decode cX10_make 123 = .ok (.iconst 1, 1) := by decide +kernel
theorem dX10_make_124 : decode cX10_make 124 = .ok (.iadd, 1) := by decide +kernel
theorem dX10_make_125 : decode cX10_make 125 = .ok (.putfield 97, 3) := by decide +kernel
theorem dX10_make_128 : decode cX10_make 128 = .ok (.goto 65, 3) := by decide +kernel
theorem dX10_make_131 : decode cX10_make 131 = .ok (.aload_n 0, 1) := by decide +kernel
theorem dX10_make_132 : decode cX10_make 132 = .ok (.getfield 30, 3) := by decide +kernel
theorem dX10_make_135 : decode cX10_make 135 = .ok (.aload_n 0, 1) := by decide +kernel
theorem dX10_make_136 : decode cX10_make 136 = .ok (.getfield 100, 3) := by decide +kernel
theorem dX10_make_139 : decode cX10_make 139 = .ok (.iload_n 3, 1) := by decide +kernel
theorem dX10_make_140 : decode cX10_make 140 = .ok (.iastore, 1) := by decide +kernel
theorem dX10_make_141 : decode cX10_make 141 = .ok (.iconst 0, 1) := by decide +kernel
theorem dX10_make_142 : decode cX10_make 142 = .ok (.istore 4, 2) := by decide +kernel
theorem dX10_make_144 : decode cX10_make 144 = .ok (.iload 4, 2) := by decide +kernel
theorem dX10_make_146 : decode cX10_make 146 = .ok (.bipush 16, 2) := by decide +kernel
theorem dX10_make_148 : decode cX10_make 148 = .ok (.if_icmp .ge 25, 3) := by decide +kernel
theorem dX10_make_151 : decode cX10_make 151 = .ok (.aload_n 0, 1) := by decide +kernel
theorem dX10_make_152 : decode cX10_make 152 = .ok (.getfield 33, 3) := by decide +kernel
theorem dX10_make_155 : decode cX10_make 155 = .ok (.bipush 16, 2) := by decide +kernel
theorem dX10_make_157 : decode cX10_make 157 = .ok (.aload_n 0, 1) := by decide +kernel
theorem dX10_make_158 : decode cX10_make 158 = .ok (.getfield 100, 3) := by decide +kernel
theorem dX10_make_161 : decode cX10_make 161 = .ok (.imul, 1) := by decide +kernel
theorem dX10_make_162 : decode cX10_make 162 = .ok (.iload 4, 2) := by decide +kernel
theorem dX10_make_164 : decode cX10_make 164 = .ok (.iadd, 1) := by decide +kernel
theorem dX10_make_165 : decode cX10_make 165 = .ok (.iconst 0, 1) := by decide +kernel
theorem dX10_make_166 : decode cX10_make 166 = .ok (.iastore, 1) := by decide +kernel
theorem dX10_make_167 : decode cX10_make 167 = .ok (.iinc 4 1, 3) := by decide +kernel
theorem dX10_make_170 : decode cX10_make 170 = .ok (.goto (-26), 3) := by decide +kernel
theorem dX10_make_173 : decode cX10_make 173 = .ok (.aload_n 0, 1) := by decide +kernel
theorem dX10_make_174 : decode cX10_make 174 = .ok (.iload_n 1, 1) := by decide +kernel
theorem dX10_make_175 : decode cX10_make 175 = .ok (.iconst 3, 1) := by decide +kernel
theorem dX10_make_176 : decode cX10_make 176 = .ok (.aload_n 0, 1) := by decide +kernel
theorem dX10_make_177 : decode cX10_make 177 = .ok (.getfield 100, 3) := by decide +kernel
theorem dX10_make_180 : decode cX10_make 180 = .ok (.invokevirtual 93, 3) := by decide +kernel
theorem dX10_make_183 : decode cX10_make 183 = .ok (.aload_n 0, 1) := by decide +kernel
theorem dX10_make_184 : decode cX10_make 184 = .ok (.dup, 1) := by decide +kernel
theorem dX10_make_185 : decode cX10_make 185 = .ok (.getfield 100, 3) := by decide +kernel
theorem dX10_make_188 : decode cX10_make 188 = .ok (.iconst 1, 1) := by decide +kernel
theorem dX10_make_189 : decode cX10_make 189 = .ok (.iadd, 1) := by decide +kernel
theorem dX10_make_190 : decode cX10_make 190 = .ok (.putfield 100, 3) := by decide +kernel
theorem dX10_make_193 : decode cX10_make 193 = .ok (.iconst 1, 1) := by decide +kernel
theorem dX10_make_194 : decode cX10_make 194 = .ok (.ireturn, 1) := by decide +kernel
set_option maxRecDepth 20000 in
theorem ggX10_table_X10_isPlace : GoodIn wsX10_table wsX10_isPlace := goodIn_r _ [12, 13, 14, 11, 15] (by decide +kernel) (by decide +kernel)
set_option maxRecDepth 20000 in
theorem gX10_table_X10_isPlace : GoodIn wsX10_table (va_wsS RX10 86 yX10_isPlace wsX10_isPlace) := goodIn_app (goodIn_of _ (by decide +kernel)) ggX10_table_X10_isPlace
set_option maxRecDepth 20000 in
theorem ggX10_table_X10_in : GoodIn wsX10_table wsX10_in := goodIn_r _ [15] (by decide +kernel) (by decide +kernel)
set_option maxRecDepth 20000 in
theorem gX10_table_X10_in : GoodIn wsX10_table (va_wsS RX10 70 yX10_in wsX10_in) := goodIn_app (goodIn_of _ (by decide +kernel)) ggX10_table_X10_in
set_option maxRecDepth 20000 in
theorem ggX10_table_X10_hold : GoodIn wsX10_table wsX10_hold := goodIn_r _ [19, 20, 21, 22, 23, 24, 25, 26, 27, 28, 29, 30, 31, 32, 33, 34, 35, 36, 37, 38, 39, 40, 41, 42, 43, 44, 45, 46, 47] (by decide +kernel) (by decide +kernel)
set_option maxRecDepth 20000 in
theorem gX10_table_X10_hold : GoodIn wsX10_table (wsV RX10 93 RX10 yX10_hold wsX10_hold) := goodIn_app (goodIn_of _ (by decide +kernel)) ggX10_table_X10_hold
theorem dX10_table_0 : decode cX10_table 0 = .ok (.aload_n 0, 1) := by decide +kernel
theorem dX10_table_1 : decode cX10_table 1 = .ok (.iconst 0, 1) := by decide +kernel
theorem dX10_table_2 : decode cX10_table 2 = .ok (.putfield 66, 3) := by decide +kernel
theorem dX10_table_5 : decode cX10_table 5 = .ok (.iload_n 1, 1) := by decide +kernel
theorem dX10_table_6 : decode cX10_table 6 = .ok (.invokestatic 86, 3) := by decide +kernel
theorem dX10_table_9 : decode cX10_table 9 = .ok (.ifCond .ne 5, 3) := by decide +kernel
theorem dX10_table_12 : decode cX10_table 12 = .ok (.iconst (-1), 1) := by decide +kernel
theorem dX10_table_13 : decode cX10_table 13 = .ok (.ireturn, 1) := by decide +kernel
theorem dX10_table_14 : decode cX10_table 14 = .ok (.iload_n 3, 1) := by decide +kernel
theorem dX10_table_15 : decode cX10_table 15 = .ok (.iconst 1, 1) := by decide +kernel
theorem dX10_table_16 : decode cX10_table 16 = .ok (.bipush 64, 2) := by decide +kernel
theorem dX10_table_18 : decode cX10_table 18 = .ok (.invokestatic 70, 3) := by decide +kernel
theorem dX10_table_21 : decode cX10_table 21 = .ok (.ifCond .ne 6, 3) := by decide +kernel
theorem dX10_table_24 : decode cX10_table 24 = .ok (.bipush (-2), 2) := by decide +kernel
theorem dX10_table_26 : decode cX10_table 26 = .ok (.ireturn, 1) := by decide +kernel
theorem dX10_table_27 : decode cX10_table 27 = .ok (.iconst 4, 1) := by decide +kernel
theorem dX10_table_28 : decode cX10_table 28 = .ok (.istore 4, 2) := by decide +kernel
theorem dX10_table_30 : decode cX10_table 30 = .ok (.iload 4, 2) := by decide +kernel
theorem dX10_table_32 : decode cX10_table 32 = .ok (.iload_n 3, 1) := by decide +kernel
theorem dX10_table_33 : decode cX10_table 33 = .ok (.if_icmp .ge 12, 3) := by decide +kernel
theorem dX10_table_36 : decode cX10_table 36 = .ok (.iload 4, 2) := by decide +kernel
theorem dX10_table_38 : decode cX10_table 38 = .ok (.iconst 2, 1) := by decide +kernel
theorem dX10_table_39 : decode cX10_table 39 = .ok (.imul, 1) := by decide +kernel
theorem dX10_table_40 : decode cX10_table 40 = .ok (.istore 4, 2) := by decide +kernel
theorem dX10_table_42 : decode cX10_table 42 = .ok (.goto (-12), 3) := by decide +kernel
theorem dX10_table_45 : decode cX10_table 45 = .ok (.aload_n 0, 1) := by decide +kernel
theorem dX10_table_46 : decode cX10_table 46 = .ok (.getfield 103, 3) := by decide +kernel
theorem dX10_table_49 : decode cX10_table 49 = .ok (.istore 5, 2) := by decide +kernel
theorem dX10_table_51 : decode cX10_table 51 = .ok (.aload_n 0, 1) := by decide +kernel
theorem dX10_table_52 : decode cX10_table 52 = .ok (.dup, 1) := by decide +kernel
theorem dX10_table_53 : decode cX10_table 53 = .ok (.getfield 103, 3) := by decide +kernel
theorem dX10_table_56 : decode cX10_table 56 = .ok (.iconst 1, 1) := by decide +kernel
theorem dX10_table_57 : decode cX10_table 57 = .ok (.iadd, 1) := by decide +kernel
theorem dX10_table_58 : decode cX10_table 58 = .ok (.putfield 103, 3) := by decide +kernel
theorem dX10_table_61 : decode cX10_table 61 = .ok (.aload_n 0, 1) := by decide +kernel
theorem dX10_table_62 : decode cX10_table 62 = .ok (.getfield 36, 3) := by decide +kernel
theorem dX10_table_65 : decode cX10_table 65 = .ok (.iload 5, 2) := by decide +kernel
theorem dX10_table_67 : decode cX10_table 67 = .ok (.iload_n 2, 1) := by decide +kernel
theorem dX10_table_68 : decode cX10_table 68 = .ok (.bastore, 1) := by decide +kernel
theorem dX10_table_69 : decode cX10_table 69 = .ok (.aload_n 0, 1) := by decide +kernel
theorem dX10_table_70 : decode cX10_table 70 = .ok (.getfield 40, 3) := by decide +kernel
theorem dX10_table_73 : decode cX10_table 73 = .ok (.iload 5, 2) := by decide +kernel
theorem dX10_table_75 : decode cX10_table 75 = .ok (.iload 4, 2) := by decide +kernel
theorem dX10_table_77 : decode cX10_table 77 = .ok (.iastore, 1) := by decide +kernel
theorem dX10_table_78 : decode cX10_table 78 = .ok (.aload_n 0, 1) := by decide +kernel
theorem dX10_table_79 : decode cX10_table 79 = .ok (.getfield 43, 3) := by decide +kernel
theorem dX10_table_82 : decode cX10_table 82 = .ok (.iload 5, 2) := by decide +kernel
theorem dX10_table_84 : decode cX10_table 84 = .ok (.iconst 0, 1) := by decide +kernel
theorem dX10_table_85 : decode cX10_table 85 = .ok (.iastore, 1) := by decide +kernel
theorem dX10_table_86 : decode cX10_table 86 = .ok (.aload_n 0, 1) := by decide +kernel
theorem dX10_table_87 : decode cX10_table 87 = .ok (.getfield 46, 3) := by decide +kernel
theorem dX10_table_90 : decode cX10_table 90 = .ok (.iload 5, 2) := by decide +kernel
theorem dX10_table_92 : decode cX10_table 92 = .ok (.iconst 0, 1) := by decide +kernel
theorem dX10_table_93 : decode cX10_table 93 = .ok (.iastore, 1) := by decide +kernel
theorem dX10_table_94 : decode cX10_table 94 = .ok (.aload_n 0, 1) := by decide +kernel
theorem dX10_table_95 : decode cX10_table 95 = .ok (.getfield 49, 3) := by decide +kernel
theorem dX10_table_98 : decode cX10_table 98 = .ok (.iload 5, 2) := by decide +kernel
theorem dX10_table_100 : decode cX10_table 100 = .ok (.iconst 0, 1) := by decide +kernel
theorem dX10_table_101 : decode cX10_table 101 = .ok (.iastore, 1) := by decide +kernel
theorem dX10_table_102 : decode cX10_table 102 = .ok (.iconst 0, 1) := by decide +kernel
theorem dX10_table_103 : decode cX10_table 103 = .ok (.istore 6, 2) := by decide +kernel
theorem dX10_table_105 : decode cX10_table 105 = .ok (.iload 6, 2) := by decide +kernel
theorem dX10_table_107 : decode cX10_table 107 = .ok (.sipush 256, 3) := by decide +kernel
theorem dX10_table_110 : decode cX10_table 110 = .ok (.if_icmp .ge 24, 3) := by decide +kernel
theorem dX10_table_113 : decode cX10_table 113 = .ok (.aload_n 0, 1) := by decide +kernel
theorem dX10_table_114 : decode cX10_table 114 = .ok (.getfield 53, 3) := by decide +kernel
theorem dX10_table_117 : decode cX10_table 117 = .ok (.sipush 256, 3) := by decide +kernel
theorem dX10_table_120 : decode cX10_table 120 = .ok (.iload 5, 2) := by decide +kernel
theorem dX10_table_122 : decode cX10_table 122 = .ok (.imul, 1) := by decide +kernel
theorem dX10_table_123 : decode cX10_table 123 = .ok (.iload 6, 2) := by decide +kernel
theorem dX10_table_125 : decode cX10_table 125 = .ok (.iadd, 1) := by decide +kernel
theorem dX10_table_126 : decode cX10_table 126 = .ok (.iconst 0, 1) := by decide +kernel
theorem dX10_table_127 : decode cX10_table 127 = .ok (.iastore, 1) := by decide +kernel
theorem dX10_table_128 : decode cX10_table 128 = .ok (.iinc 6 1, 3) := by decide +kernel
theorem dX10_table_131 : decode cX10_table 131 = .ok (.goto (-26), 3) := by decide +kernel
theorem dX10_table_134 : decode cX10_table 134 = .ok (.aload_n 0, 1) := by decide +kernel
theorem dX10_table_135 : decode cX10_table 135 = .ok (.iload_n 1, 1) := by decide +kernel
theorem dX10_table_136 : decode cX10_table 136 = .ok (.iload_n 2, 1) := by decide +kernel
theorem dX10_table_137 : decode cX10_table 137 = .ok (.ifCond .eq 7, 3) := by decide +kernel
theorem dX10_table_140 : decode cX10_table 140 = .ok (.iconst 5, 1) := by decide +kernel
theorem dX10_table_141 : decode cX10_table 141 = .ok (.goto 4, 3) := by decide +kernel
theorem dX10_table_144 : decode cX10_table 144 = .ok (.iconst 4, 1) := by decide +kernel
theorem dX10_table_145 : decode cX10_table 145 = .ok (.iload 5, 2) := by decide +kernel
theorem dX10_table_147 : decode cX10_table 147 = .ok (.invokevirtual 93, 3) := by decide +kernel
theorem dX10_table_150 : decode cX10_table 150 = .ok (.iload 4, 2) := by decide +kernel
theorem dX10_table_152 : decode cX10_table 152 = .ok (.ireturn, 1) := by decide +kernel
set_option maxRecDepth 20000 in
theorem ggX10_move_X10_isPlace : GoodIn wsX10_move wsX10_isPlace := goodIn_r _ [7, 8, 9, 6, 10] (by decide +kernel) (by decide +kernel)
set_option maxRecDepth 20000 in
theorem gX10_move_X10_isPlace : GoodIn wsX10_move (va_wsS RX10 86 yX10_isPlace wsX10_isPlace) := goodIn_app (goodIn_of _ (by decide +kernel)) ggX10_move_X10_isPlace
set_option maxRecDepth 20000 in
theorem ggX10_move_X10_hold : GoodIn wsX10_move wsX10_hold := goodIn_r _ [14, 2, 3, 15, 16, 17, 18, 19, 20, 21, 22, 23, 24, 25, 26, 27, 28, 29, 30, 31, 32, 33, 34, 35, 36, 37, 38, 39, 40] (by decide +kernel) (by decide +kernel)
set_option maxRecDepth 20000 in
theorem gX10_move_X10_hold : GoodIn wsX10_move (wsV RX10 93 RX10 yX10_hold wsX10_hold) := goodIn_app (goodIn_of _ (by decide +kernel)) ggX10_move_X10_hold
theorem dX10_move_0 : decode cX10_move 0 = .ok (.aload_n 0, 1) := by decide +kernel
theorem dX10_move_1 : decode cX10_move 1 = .ok (.iconst 0, 1) := by decide +kernel
theorem dX10_move_2 : decode cX10_move 2 = .ok (.putfield 66, 3) := by decide +kernel
theorem dX10_move_5 : decode cX10_move 5 = .ok (.iload_n 1, 1) := by decide +kernel
theorem dX10_move_6 : decode cX10_move 6 = .ok (.invokestatic 86, 3) := by decide +kernel
theorem dX10_move_9 : decode cX10_move 9 = .ok (.ifCond .eq 15, 3) := by decide +kernel
theorem dX10_move_12 : decode cX10_move 12 = .ok (.iload_n 2, 1) := by decide +kernel
theorem dX10_move_13 : decode cX10_move 13 = .ok (.iconst (-1), 1) := by decide +kernel
theorem dX10_move_14 : decode cX10_move 14 = .ok (.if_icmp .eq 12, 3) := by decide +kernel
theorem dX10_move_17 : decode cX10_move 17 = .ok (.iload_n 2, 1) := by decide +kernel
theorem dX10_move_18 : decode cX10_move 18 = .ok (.invokestatic 86, 3) := by decide +kernel
theorem dX10_move_21 : decode cX10_move 21 = .ok (.ifCond .ne 5, 3) := by decide +kernel
theorem dX10_move_24 : decode cX10_move 24 = .ok (.iconst (-1), 1) := by decide +kernel
theorem dX10_move_25 : decode cX10_move 25 = .ok (.ireturn, 1) := by decide +kernel
theorem dX10_move_26 : decode cX10_move 26 = .ok (.iload_n 2, 1) := by decide +kernel
theorem dX10_move_27 : decode cX10_move 27 = .ok (.iconst (-1), 1) := by decide +kernel
theorem dX10_move_28 : decode cX10_move 28 = .ok (.if_icmp .ne 13, 3) := by decide +kernel
theorem dX10_move_31 : decode cX10_move 31 = .ok (.aload_n 0, 1) := by decide +kernel
theorem dX10_move_32 : decode cX10_move 32 = .ok (.iload_n 1, 1) := by decide +kernel
theorem dX10_move_33 : decode cX10_move 33 = .ok (.iconst 0, 1) := by decide +kernel
theorem dX10_move_34 : decode cX10_move 34 = .ok (.iconst 0, 1) := by decide +kernel
theorem dX10_move_35 : decode cX10_move 35 = .ok (.invokevirtual 93, 3) := by decide +kernel
theorem dX10_move_38 : decode cX10_move 38 = .ok (.goto 20, 3) := by decide +kernel
theorem dX10_move_41 : decode cX10_move 41 = .ok (.aload_n 0, 1) := by decide +kernel
theorem dX10_move_42 : decode cX10_move 42 = .ok (.iload_n 1, 1) := by decide +kernel
theorem dX10_move_43 : decode cX10_move 43 = .ok (.aload_n 0, 1) := by decide +kernel
theorem dX10_move_44 : decode cX10_move 44 = .ok (.getfield 7, 3) := by decide +kernel
theorem dX10_move_47 : decode cX10_move 47 = .ok (.iload_n 2, 1) := by decide +kernel
theorem dX10_move_48 : decode cX10_move 48 = .ok (.iaload, 1) := by decide +kernel
theorem dX10_move_49 : decode cX10_move 49 = .ok (.aload_n 0, 1) := by decide +kernel
theorem dX10_move_50 : decode cX10_move 50 = .ok (.getfield 13, 3) := by decide +kernel
theorem dX10_move_53 : decode cX10_move 53 = .ok (.iload_n 2, 1) := by decide +kernel
theorem dX10_move_54 : decode cX10_move 54 = .ok (.iaload, 1) := by decide +kernel
theorem dX10_move_55 : decode cX10_move 55 = .ok (.invokevirtual 93, 3) := by decide +kernel
theorem dX10_move_58 : decode cX10_move 58 = .ok (.aload_n 0, 1) := by decide +kernel
theorem dX10_move_59 : decode cX10_move 59 = .ok (.getfield 7, 3) := by decide +kernel
theorem dX10_move_62 : decode cX10_move 62 = .ok (.iload_n 1, 1) := by decide +kernel
theorem dX10_move_63 : decode cX10_move 63 = .ok (.iaload, 1) := by decide +kernel
theorem dX10_move_64 : decode cX10_move 64 = .ok (.ireturn, 1) := by decide +kernel
theorem dX10_isOf_0 : decode cX10_isOf 0 = .ok (.iload_n 2, 1) := by decide +kernel
theorem dX10_isOf_1 : decode cX10_isOf 1 = .ok (.iconst 4, 1) := by decide +kernel
theorem dX10_isOf_2 : decode cX10_isOf 2 = .ok (.if_icmp .ne 21, 3) := by decide +kernel
theorem dX10_isOf_5 : decode cX10_isOf 5 = .ok (.aload_n 0, 1) := by decide +kernel
theorem dX10_isOf_6 : decode cX10_isOf 6 = .ok (.getfield 7, 3) := by decide +kernel
theorem dX10_isOf_9 : decode cX10_isOf 9 = .ok (.iload_n 1, 1) := by decide +kernel
theorem dX10_isOf_10 : decode cX10_isOf 10 = .ok (.iaload, 1) := by decide +kernel
theorem dX10_isOf_11 : decode cX10_isOf 11 = .ok (.iconst 3, 1) := by decide +kernel
theorem dX10_isOf_12 : decode cX10_isOf 12 = .ok (.if_icmp .le 7, 3) := by decide +kernel
theorem dX10_isOf_15 : decode cX10_isOf 15 = .ok (.iconst 1, 1) := by decide +kernel
theorem dX10_isOf_16 : decode cX10_isOf 16 = .ok (.goto 22, 3) := by decide +kernel
theorem dX10_isOf_19 : decode cX10_isOf 19 = .ok (.iconst 0, 1) := by decide +kernel
theorem dX10_isOf_20 : decode cX10_isOf 20 = .ok (.goto 18, 3) := by decide +kernel
theorem dX10_isOf_23 : decode cX10_isOf 23 = .ok (.aload_n 0, 1) := by decide +kernel
theorem dX10_isOf_24 : decode cX10_isOf 24 = .ok (.getfield 7, 3) := by decide +kernel
theorem dX10_isOf_27 : decode cX10_isOf 27 = .ok (.iload_n 1, 1) := by decide +kernel
theorem dX10_isOf_28 : decode cX10_isOf 28 = .ok (.iaload, 1) := by decide +kernel
theorem dX10_isOf_29 : decode cX10_isOf 29 = .ok (.iload_n 2, 1) := by decide +kernel
theorem dX10_isOf_30 : decode cX10_isOf 30 = .ok (.if_icmp .ne 7, 3) := by decide +kernel
theorem dX10_isOf_33 : decode cX10_isOf 33 = .ok (.iconst 1, 1) := by decide +kernel
theorem dX10_isOf_34 : decode cX10_isOf 34 = .ok (.goto 4, 3) := by decide +kernel
theorem dX10_isOf_37 : decode cX10_isOf 37 = .ok (.iconst 0, 1) := by decide +kernel
theorem dX10_isOf_38 : decode cX10_isOf 38 = .ok (.ireturn, 1) := by decide +kernel
set_option maxRecDepth 20000 in
theorem ggX10_held_X10_isPlace : GoodIn wsX10_held wsX10_isPlace := goodIn_r _ [6, 7, 8, 5, 9] (by decide +kernel) (by decide +kernel)
set_option maxRecDepth 20000 in
theorem gX10_held_X10_isPlace : GoodIn wsX10_held (va_wsS RX10 86 yX10_isPlace wsX10_isPlace) := goodIn_app (goodIn_of _ (by decide +kernel)) ggX10_held_X10_isPlace
set_option maxRecDepth 20000 in
theorem ggX10_held_X10_in : GoodIn wsX10_held wsX10_in := goodIn_r _ [9] (by decide +kernel) (by decide +kernel)
set_option maxRecDepth 20000 in
theorem gX10_held_X10_in : GoodIn wsX10_held (va_wsS RX10 70 yX10_in wsX10_in) := goodIn_app (goodIn_of _ (by decide +kernel)) ggX10_held_X10_in
set_option maxRecDepth 20000 in
theorem ggX10_held_X10_isOf : GoodIn wsX10_held wsX10_isOf := goodIn_r _ [13, 2, 14, 15, 16, 17, 18, 19, 20, 21, 22, 23, 24, 25, 26, 27, 28, 29, 30, 31, 32, 33, 34, 35, 36, 37, 38, 39] (by decide +kernel) (by decide +kernel)
set_option maxRecDepth 20000 in
theorem gX10_held_X10_isOf : GoodIn wsX10_held (wsV RX10 106 RX10 yX10_isOf wsX10_isOf) := goodIn_app (goodIn_of _ (by decide +kernel)) ggX10_held_X10_isOf
theorem dX10_held_0 : decode cX10_held 0 = .ok (.aload_n 0, 1) := by decide +kernel
theorem dX10_held_1 : decode cX10_held 1 = .ok (.iconst 0, 1) := by decide +kernel
theorem dX10_held_2 : decode cX10_held 2 = .ok (.putfield 66, 3) := by decide +kernel
theorem dX10_held_5 : decode cX10_held 5 = .ok (.iload_n 1, 1) := by decide +kernel
theorem dX10_held_6 : decode cX10_held 6 = .ok (.invokestatic 86, 3) := by decide +kernel
theorem dX10_held_9 : decode cX10_held 9 = .ok (.ifCond .ne 5, 3) := by decide +kernel
theorem dX10_held_12 : decode cX10_held 12 = .ok (.iconst (-1), 1) := by decide +kernel
theorem dX10_held_13 : decode cX10_held 13 = .ok (.ireturn, 1) := by decide +kernel
theorem dX10_held_14 : decode cX10_held 14 = .ok (.iload_n 2, 1) := by decide +kernel
theorem dX10_held_15 : decode cX10_held 15 = .ok (.iconst 0, 1) := by decide +kernel
theorem dX10_held_16 : decode cX10_held 16 = .ok (.iconst 5, 1) := by decide +kernel
theorem dX10_held_17 : decode cX10_held 17 = .ok (.invokestatic 70, 3) := by decide +kernel
theorem dX10_held_20 : decode cX10_held 20 = .ok (.ifCond .ne 6, 3) := by decide +kernel
theorem dX10_held_23 : decode cX10_held 23 = .ok (.bipush (-2), 2) := by decide +kernel
theorem dX10_held_25 : decode cX10_held 25 = .ok (.ireturn, 1) := by decide +kernel
theorem dX10_held_26 : decode cX10_held 26 = .ok (.iload_n 2, 1) := by decide +kernel
theorem dX10_held_27 : decode cX10_held 27 = .ok (.ifCond .ne 12, 3) := by decide +kernel
theorem dX10_held_30 : decode cX10_held 30 = .ok (.aload_n 0, 1) := by decide +kernel
theorem dX10_held_31 : decode cX10_held 31 = .ok (.getfield 7, 3) := by decide +kernel
theorem dX10_held_34 : decode cX10_held 34 = .ok (.iload_n 1, 1) := by decide +kernel
theorem dX10_held_35 : decode cX10_held 35 = .ok (.iaload, 1) := by decide +kernel
theorem dX10_held_36 : decode cX10_held 36 = .ok (.goto 17, 3) := by decide +kernel
theorem dX10_held_39 : decode cX10_held 39 = .ok (.aload_n 0, 1) := by decide +kernel
theorem dX10_held_40 : decode cX10_held 40 = .ok (.iload_n 1, 1) := by decide +kernel
theorem dX10_held_41 : decode cX10_held 41 = .ok (.iload_n 2, 1) := by decide +kernel
theorem dX10_held_42 : decode cX10_held 42 = .ok (.invokevirtual 106, 3) := by decide +kernel
theorem dX10_held_45 : decode cX10_held 45 = .ok (.ifCond .eq 7, 3) := by decide +kernel
theorem dX10_held_48 : decode cX10_held 48 = .ok (.iconst 1, 1) := by decide +kernel
theorem dX10_held_49 : decode cX10_held 49 = .ok (.goto 4, 3) := by decide +kernel
theorem dX10_held_52 : decode cX10_held 52 = .ok (.iconst 0, 1) := by decide +kernel
theorem dX10_held_53 : decode cX10_held 53 = .ok (.ireturn, 1) := by decide +kernel
set_option maxRecDepth 20000 in
theorem ggX10_same_X10_isPlace : GoodIn wsX10_same wsX10_isPlace := goodIn_r _ [7, 8, 9, 6, 10] (by decide +kernel) (by decide +kernel)
set_option maxRecDepth 20000 in
theorem gX10_same_X10_isPlace : GoodIn wsX10_same (va_wsS RX10 86 yX10_isPlace wsX10_isPlace) := goodIn_app (goodIn_of _ (by decide +kernel)) ggX10_same_X10_isPlace
theorem dX10_same_0 : decode cX10_same 0 = .ok (.aload_n 0, 1) := by decide +kernel
theorem dX10_same_1 : decode cX10_same 1 = .ok (.iconst 0, 1) := by decide +kernel
theorem dX10_same_2 : decode cX10_same 2 = .ok (.putfield 66, 3) := by decide +kernel
theorem dX10_same_5 : decode cX10_same 5 = .ok (.iload_n 1, 1) := by decide +kernel
theorem dX10_same_6 : decode cX10_same 6 = .ok (.invokestatic 86, 3) := by decide +kernel
theorem dX10_same_9 : decode cX10_same 9 = .ok (.ifCond .eq 10, 3) := by decide +kernel
theorem dX10_same_12 : decode cX10_same 12 = .ok (.iload_n 2, 1) := by decide +kernel
theorem dX10_same_13 : decode cX10_same 13 = .ok (.invokestatic 86, 3) := by decide +kernel
theorem dX10_same_16 : decode cX10_same 16 = .ok (.ifCond .ne 5, 3) := by decide +kernel
theorem dX10_same_19 : decode cX10_same 19 = .ok (.iconst (-1), 1) := by decide +kernel
theorem dX10_same_20 : decode cX10_same 20 = .ok (.ireturn, 1) := by decide +kernel
theorem dX10_same_21 : decode cX10_same 21 = .ok (.aload_n 0, 1) := by decide +kernel
theorem dX10_same_22 : decode cX10_same 22 = .ok (.getfield 7, 3) := by decide +kernel
theorem dX10_same_25 : decode cX10_same 25 = .ok (.iload_n 1, 1) := by decide +kernel
theorem dX10_same_26 : decode cX10_same 26 = .ok (.iaload, 1) := by decide +kernel
theorem dX10_same_27 : decode cX10_same 27 = .ok (.istore_n 3, 1) := by decide +kernel
theorem dX10_same_28 : decode cX10_same 28 = .ok (.iload_n 3, 1) := by decide +kernel
theorem dX10_same_29 : decode cX10_same 29 = .ok (.aload_n 0, 1) := by decide +kernel
theorem dX10_same_30 : decode cX10_same 30 = .ok (.getfield 7, 3) := by decide +kernel
theorem dX10_same_33 : decode cX10_same 33 = .ok (.iload_n 2, 1) := by decide +kernel
theorem dX10_same_34 : decode cX10_same 34 = .ok (.iaload, 1) := by decide +kernel
theorem dX10_same_35 : decode cX10_same 35 = .ok (.if_icmp .ne 26, 3) := by decide +kernel
theorem dX10_same_38 : decode cX10_same 38 = .ok (.iload_n 3, 1) := by decide +kernel
theorem dX10_same_39 : decode cX10_same 39 = .ok (.ifCond .eq 18, 3) := by decide +kernel
theorem dX10_same_42 : decode cX10_same 42 = .ok (.aload_n 0, 1) := by decide +kernel
theorem dX10_same_43 : decode cX10_same 43 = .ok (.getfield 13, 3) := by decide +kernel
theorem dX10_same_46 : decode cX10_same 46 = .ok (.iload_n 1, 1) := by decide +kernel
theorem dX10_same_47 : decode cX10_same 47 = .ok (.iaload, 1) := by decide +kernel
theorem dX10_same_48 : decode cX10_same 48 = .ok (.aload_n 0, 1) := by decide +kernel
theorem dX10_same_49 : decode cX10_same 49 = .ok (.getfield 13, 3) := by decide +kernel
theorem dX10_same_52 : decode cX10_same 52 = .ok (.iload_n 2, 1) := by decide +kernel
theorem dX10_same_53 : decode cX10_same 53 = .ok (.iaload, 1) := by decide +kernel
theorem dX10_same_54 : decode cX10_same 54 = .ok (.if_icmp .ne 7, 3) := by decide +kernel
theorem dX10_same_57 : decode cX10_same 57 = .ok (.iconst 1, 1) := by decide +kernel
theorem dX10_same_58 : decode cX10_same 58 = .ok (.goto 4, 3) := by decide +kernel
theorem dX10_same_61 : decode cX10_same 61 = .ok (.iconst 0, 1) := by decide +kernel
theorem dX10_same_62 : decode cX10_same 62 = .ok (.ireturn, 1) := by decide +kernel
set_option maxRecDepth 20000 in
theorem ggX10_castFault_X10_isOf : GoodIn wsX10_castFault wsX10_isOf := goodIn_r _ [6, 1, 7, 8, 9, 10, 11, 12, 13, 14, 15, 16, 17, 18, 19, 20, 21, 22, 23, 24, 25, 26, 27, 28, 29, 30, 31, 32] (by decide +kernel) (by decide +kernel)
set_option maxRecDepth 20000 in
theorem gX10_castFault_X10_isOf : GoodIn wsX10_castFault (wsV RX10 106 RX10 yX10_isOf wsX10_isOf) := goodIn_app (goodIn_of _ (by decide +kernel)) ggX10_castFault_X10_isOf
theorem dX10_castFault_0 : decode cX10_castFault 0 = .ok (.aload_n 0, 1) := by decide +kernel
theorem dX10_castFault_1 : decode cX10_castFault 1 = .ok (.getfield 7, 3) := by decide +kernel
theorem dX10_castFault_4 : decode cX10_castFault 4 = .ok (.iload_n 1, 1) := by decide +kernel
theorem dX10_castFault_5 : decode cX10_castFault 5 = .ok (.iaload, 1) := by decide +kernel
theorem dX10_castFault_6 : decode cX10_castFault 6 = .ok (.ifCond .ne 7, 3) := by decide +kernel
theorem dX10_castFault_9 : decode cX10_castFault 9 = .ok (.iconst 1, 1) := by decide +kernel
theorem dX10_castFault_10 : decode cX10_castFault 10 = .ok (.goto 17, 3) := by decide +kernel
theorem dX10_castFault_13 : decode cX10_castFault 13 = .ok (.aload_n 0, 1) := by decide +kernel
theorem dX10_castFault_14 : decode cX10_castFault 14 = .ok (.iload_n 1, 1) := by decide +kernel
theorem dX10_castFault_15 : decode cX10_castFault 15 = .ok (.iload_n 2, 1) := by decide +kernel
theorem dX10_castFault_16 : decode cX10_castFault 16 = .ok (.invokevirtual 106, 3) := by decide +kernel
theorem dX10_castFault_19 : decode cX10_castFault 19 = .ok (.ifCond .eq 7, 3) := by decide +kernel
theorem dX10_castFault_22 : decode cX10_castFault 22 = .ok (.iconst 0, 1) := by decide +kernel
theorem dX10_castFault_23 : decode cX10_castFault 23 = .ok (.goto 4, 3) := by decide +kernel
theorem dX10_castFault_26 : decode cX10_castFault 26 = .ok (.iconst 2, 1) := by decide +kernel
theorem dX10_castFault_27 : decode cX10_castFault 27 = .ok (.ireturn, 1) := by decide +kernel
theorem dX10_longOf_0 : decode cX10_longOf 0 = .ok (.aload_n 0, 1) := by decide +kernel
theorem dX10_longOf_1 : decode cX10_longOf 1 = .ok (.getfield 13, 3) := by decide +kernel
theorem dX10_longOf_4 : decode cX10_longOf 4 = .ok (.iload_n 1, 1) := by decide +kernel
theorem dX10_longOf_5 : decode cX10_longOf 5 = .ok (.iaload, 1) := by decide +kernel
theorem dX10_longOf_6 : decode cX10_longOf 6 = .ok (.istore_n 2, 1) := by decide +kernel
theorem dX10_longOf_7 : decode cX10_longOf 7 = .ok (.aload_n 0, 1) := by decide +kernel
theorem dX10_longOf_8 : decode cX10_longOf 8 = .ok (.getfield 7, 3) := by decide +kernel
theorem dX10_longOf_11 : decode cX10_longOf 11 = .ok (.iload_n 1, 1) := by decide +kernel
theorem dX10_longOf_12 : decode cX10_longOf 12 = .ok (.iaload, 1) := by decide +kernel
theorem dX10_longOf_13 : decode cX10_longOf 13 = .ok (.iconst 1, 1) := by decide +kernel
theorem dX10_longOf_14 : decode cX10_longOf 14 = .ok (.if_icmp .ne 12, 3) := by decide +kernel
theorem dX10_longOf_17 : decode cX10_longOf 17 = .ok (.aload_n 0, 1) := by decide +kernel
theorem dX10_longOf_18 : decode cX10_longOf 18 = .ok (.getfield 17, 3) := by decide +kernel
theorem dX10_longOf_21 : decode cX10_longOf 21 = .ok (.iload_n 2, 1) := by decide +kernel
theorem dX10_longOf_22 : decode cX10_longOf 22 = .ok (.iaload, 1) := by decide +kernel
theorem dX10_longOf_23 : decode cX10_longOf 23 = .ok (.goto 28, 3) := by decide +kernel
theorem dX10_longOf_26 : decode cX10_longOf 26 = .ok (.aload_n 0, 1) := by decide +kernel
theorem dX10_longOf_27 : decode cX10_longOf 27 = .ok (.getfield 7, 3) := by decide +kernel
theorem dX10_longOf_30 : decode cX10_longOf 30 = .ok (.iload_n 1, 1) := by decide +kernel
theorem dX10_longOf_31 : decode cX10_longOf 31 = .ok (.iaload, 1) := by decide +kernel
theorem dX10_longOf_32 : decode cX10_longOf 32 = .ok (.iconst 2, 1) := by decide +kernel
theorem dX10_longOf_33 : decode cX10_longOf 33 = .ok (.if_icmp .ne 12, 3) := by decide +kernel
theorem dX10_longOf_36 : decode cX10_longOf 36 = .ok (.aload_n 0, 1) := by decide +kernel
theorem dX10_longOf_37 : decode cX10_longOf 37 = .ok (.getfield 24, 3) := by decide +kernel
theorem dX10_longOf_40 : decode cX10_longOf 40 = .ok (.iload_n 2, 1) := by decide +kernel
theorem dX10_longOf_41 : decode cX10_longOf 41 = .ok (.iaload, 1) := by decide +kernel
theorem dX10_longOf_42 : decode cX10_longOf 42 = .ok (.goto 9, 3) := by decide +kernel
theorem dX10_longOf_45 : decode cX10_longOf 45 = .ok (.aload_n 0, 1) := by decide +kernel
theorem dX10_longOf_46 : decode cX10_longOf 46 = .ok (.getfield 30, 3) := by decide +kernel
theorem dX10_longOf_49 : decode cX10_longOf 49 = .ok (.iload_n 2, 1) := by decide +kernel
theorem dX10_longOf_50 : decode cX10_longOf 50 = .ok (.iaload, 1) := by decide +kernel
theorem dX10_longOf_51 : decode cX10_longOf 51 = .ok (.ireturn, 1) := by decide +kernel
theorem dX10_at_0 : decode cX10_at 0 = .ok (.bipush 16, 2) := by decide +kernel
theorem dX10_at_2 : decode cX10_at 2 = .ok (.aload_n 0, 1) := by decide +kernel
theorem dX10_at_3 : decode cX10_at 3 = .ok (.getfield 13, 3) := by decide +kernel
theorem dX10_at_6 : decode cX10_at 6 = .ok (.iload_n 1, 1) := by decide +kernel
theorem dX10_at_7 : decode cX10_at 7 = .ok (.iaload, 1) := by decide +kernel
theorem dX10_at_8 : decode cX10_at 8 = .ok (.imul, 1) := by decide +kernel
theorem dX10_at_9 : decode cX10_at 9 = .ok (.iload_n 2, 1) := by decide +kernel
theorem dX10_at_10 : decode cX10_at 10 = .ok (.iadd, 1) := by decide +kernel
theorem dX10_at_11 : decode cX10_at 11 = .ok (.istore_n 3, 1) := by decide +kernel
theorem dX10_at_12 : decode cX10_at 12 = .ok (.aload_n 0, 1) := by decide +kernel
theorem dX10_at_13 : decode cX10_at 13 = .ok (.getfield 7, 3) := by decide +kernel
theorem dX10_at_16 : decode cX10_at 16 = .ok (.iload_n 1, 1) := by decide +kernel
theorem dX10_at_17 : decode cX10_at 17 = .ok (.iaload, 1) := by decide +kernel
theorem dX10_at_18 : decode cX10_at 18 = .ok (.iconst 1, 1) := by decide +kernel
theorem dX10_at_19 : decode cX10_at 19 = .ok (.if_icmp .ne 12, 3) := by decide +kernel
theorem dX10_at_22 : decode cX10_at 22 = .ok (.aload_n 0, 1) := by decide +kernel
theorem dX10_at_23 : decode cX10_at 23 = .ok (.getfield 21, 3) := by decide +kernel
theorem dX10_at_26 : decode cX10_at 26 = .ok (.iload_n 3, 1) := by decide +kernel
theorem dX10_at_27 : decode cX10_at 27 = .ok (.iaload, 1) := by decide +kernel
theorem dX10_at_28 : decode cX10_at 28 = .ok (.goto 28, 3) := by decide +kernel
theorem dX10_at_31 : decode cX10_at 31 = .ok (.aload_n 0, 1) := by decide +kernel
theorem dX10_at_32 : decode cX10_at 32 = .ok (.getfield 7, 3) := by decide +kernel
theorem dX10_at_35 : decode cX10_at 35 = .ok (.iload_n 1, 1) := by decide +kernel
theorem dX10_at_36 : decode cX10_at 36 = .ok (.iaload, 1) := by decide +kernel
theorem dX10_at_37 : decode cX10_at 37 = .ok (.iconst 2, 1) := by decide +kernel
theorem dX10_at_38 : decode cX10_at 38 = .ok (.if_icmp .ne 12, 3) := by decide +kernel
theorem dX10_at_41 : decode cX10_at 41 = .ok (.aload_n 0, 1) := by decide +kernel
theorem dX10_at_42 : decode cX10_at 42 = .ok (.getfield 27, 3) := by decide +kernel
