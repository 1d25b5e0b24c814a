set_option maxRecDepth 20000 in
theorem gX7_lookFor_X7_nextSlot_u76X1 : GoodIn wsX7_lookFor (va_wsU RX7 76 RX1 "KeptTerms$Table" ⟨"KeptTerms$Table", "nextSlot", "(I)I"⟩ yX7_nextSlot wsX7_nextSlot) := goodIn_app (goodIn_of _ (by decide +kernel)) ggX7_lookFor_X7_nextSlot
set_option maxRecDepth 20000 in
theorem gX7_lookFor_X7_nextSlot : GoodIn wsX7_lookFor (wsV RX7 76 RX7 yX7_nextSlot wsX7_nextSlot) := goodIn_app (goodIn_of _ (by decide +kernel)) ggX7_lookFor_X7_nextSlot
theorem dX7_lookFor_0 : decode cX7_lookFor 0 = .ok (.aload_n 0, 1) := by decide +kernel
theorem dX7_lookFor_1 : decode cX7_lookFor 1 = .ok (.aload_n 1, 1) := by decide +kernel
theorem dX7_lookFor_2 : decode cX7_lookFor 2 = .ok (.invokevirtual 69, 3) := by decide +kernel
theorem dX7_lookFor_5 : decode cX7_lookFor 5 = .ok (.istore_n 2, 1) := by decide +kernel
theorem dX7_lookFor_6 : decode cX7_lookFor 6 = .ok (.aload_n 0, 1) := by decide +kernel
theorem dX7_lookFor_7 : decode cX7_lookFor 7 = .ok (.iconst 1, 1) := by decide +kernel
theorem dX7_lookFor_8 : decode cX7_lookFor 8 = .ok (.putfield 33, 3) := by decide +kernel
theorem dX7_lookFor_11 : decode cX7_lookFor 11 = .ok (.aload_n 0, 1) := by decide +kernel
theorem dX7_lookFor_12 : decode cX7_lookFor 12 = .ok (.getfield 33, 3) := by decide +kernel
theorem dX7_lookFor_15 : decode cX7_lookFor 15 = .ok (.aload_n 0, 1) := by decide +kernel
theorem dX7_lookFor_16 : decode cX7_lookFor 16 = .ok (.getfield 21, 3) := by decide +kernel
theorem dX7_lookFor_19 : decode cX7_lookFor 19 = .ok (.arraylength, 1) := by decide +kernel
theorem dX7_lookFor_20 : decode cX7_lookFor 20 = .ok (.if_icmp .ge 53, 3) := by decide +kernel
theorem dX7_lookFor_23 : decode cX7_lookFor 23 = .ok (.aload_n 0, 1) := by decide +kernel
theorem dX7_lookFor_24 : decode cX7_lookFor 24 = .ok (.getfield 21, 3) := by decide +kernel
theorem dX7_lookFor_27 : decode cX7_lookFor 27 = .ok (.iload_n 2, 1) := by decide +kernel
theorem dX7_lookFor_28 : decode cX7_lookFor 28 = .ok (.iaload, 1) := by decide +kernel
theorem dX7_lookFor_29 : decode cX7_lookFor 29 = .ok (.bipush (-3), 2) := by decide +kernel
theorem dX7_lookFor_31 : decode cX7_lookFor 31 = .ok (.if_icmp .eq 21, 3) := by decide +kernel
theorem dX7_lookFor_34 : decode cX7_lookFor 34 = .ok (.aload_n 0, 1) := by decide +kernel
theorem dX7_lookFor_35 : decode cX7_lookFor 35 = .ok (.getfield 11, 3) := by decide +kernel
theorem dX7_lookFor_38 : decode cX7_lookFor 38 = .ok (.aload_n 0, 1) := by decide +kernel
theorem dX7_lookFor_39 : decode cX7_lookFor 39 = .ok (.getfield 21, 3) := by decide +kernel
theorem dX7_lookFor_42 : decode cX7_lookFor 42 = .ok (.iload_n 2, 1) := by decide +kernel
theorem dX7_lookFor_43 : decode cX7_lookFor 43 = .ok (.iaload, 1) := by decide +kernel
theorem dX7_lookFor_44 : decode cX7_lookFor 44 = .ok (.aaload, 1) := by decide +kernel
theorem dX7_lookFor_45 : decode cX7_lookFor 45 = .ok (.aload_n 1, 1) := by decide +kernel
theorem dX7_lookFor_46 : decode cX7_lookFor 46 = .ok (.invokevirtual 72, 3) := by decide +kernel
theorem dX7_lookFor_49 : decode cX7_lookFor 49 = .ok (.ifCond .eq 5, 3) := by decide +kernel
theorem dX7_lookFor_52 : decode cX7_lookFor 52 = .ok (.iload_n 2, 1) := by decide +kernel
theorem dX7_lookFor_53 : decode cX7_lookFor 53 = .ok (.ireturn, 1) := by decide +kernel
theorem dX7_lookFor_54 : decode cX7_lookFor 54 = .ok (.aload_n 0, 1) := by decide +kernel
theorem dX7_lookFor_55 : decode cX7_lookFor 55 = .ok (.iload_n 2, 1) := by decide +kernel
theorem dX7_lookFor_56 : decode cX7_lookFor 56 = .ok (.invokevirtual 76, 3) := by decide +kernel
theorem dX7_lookFor_59 : decode cX7_lookFor 59 = .ok (.istore_n 2, 1) := by decide +kernel
theorem dX7_lookFor_60 : decode cX7_lookFor 60 = .ok (.aload_n 0, 1) := by decide +kernel
theorem dX7_lookFor_61 : decode cX7_lookFor 61 = .ok (.dup, 1) := by decide +kernel
theorem dX7_lookFor_62 : decode cX7_lookFor 62 = .ok (.getfield 33, 3) := by decide +kernel
theorem dX7_lookFor_65 : decode cX7_lookFor 65 = .ok (.iconst 1, 1) := by decide +kernel
theorem dX7_lookFor_66 : decode cX7_lookFor 66 = .ok (.iadd, 1) := by decide +kernel
theorem dX7_lookFor_67 : decode cX7_lookFor 67 = .ok (.putfield 33, 3) := by decide +kernel
theorem dX7_lookFor_70 : decode cX7_lookFor 70 = .ok (.goto (-59), 3) := by decide +kernel
theorem dX7_lookFor_73 : decode cX7_lookFor 73 = .ok (.iload_n 2, 1) := by decide +kernel
theorem dX7_lookFor_74 : decode cX7_lookFor 74 = .ok (.ireturn, 1) := by decide +kernel
set_option maxRecDepth 20000 in
theorem ggX7_grow_X7_emptySlots : GoodIn wsX7_grow wsX7_emptySlots := goodIn_r _ [8, 9, 10, 11, 12, 13] (by decide +kernel) (by decide +kernel)
set_option maxRecDepth 20000 in
theorem gX7_grow_X7_emptySlots : GoodIn wsX7_grow (va_wsS RX7 17 yX7_emptySlots wsX7_emptySlots) := goodIn_app (goodIn_of _ (by decide +kernel)) ggX7_grow_X7_emptySlots
set_option maxRecDepth 20000 in
theorem ggX7_grow_X7_freeSlotFor : GoodIn wsX7_grow wsX7_freeSlotFor := goodIn_r _ [18, 1, 19, 20, 21, 22, 7, 23, 24, 25, 26, 27, 28, 29, 30, 31, 32, 33, 34, 35, 36, 37, 38, 39, 40, 41, 42, 43, 44, 45, 46, 47, 48, 49, 50, 51, 52, 53, 54, 55, 56, 57, 58, 61, 62, 63, 64, 65, 66, 67, 68, 69, 70, 71, 72, 73] (by decide +kernel) (by decide +kernel)
set_option maxRecDepth 20000 in
theorem gX7_grow_X7_freeSlotFor_u80X1 : GoodIn wsX7_grow (va_wsU RX7 80 RX1 "KeptTerms$Table" ⟨"KeptTerms$Table", "freeSlotFor", "(LKeptTerms$Bytes;)I"⟩ yX7_freeSlotFor wsX7_freeSlotFor) := goodIn_app (goodIn_of _ (by decide +kernel)) ggX7_grow_X7_freeSlotFor
set_option maxRecDepth 20000 in
theorem gX7_grow_X7_freeSlotFor : GoodIn wsX7_grow (wsV RX7 80 RX7 yX7_freeSlotFor wsX7_freeSlotFor) := goodIn_app (goodIn_of _ (by decide +kernel)) ggX7_grow_X7_freeSlotFor
theorem dX7_grow_0 : decode cX7_grow 0 = .ok (.aload_n 0, 1) := by decide +kernel
theorem dX7_grow_1 : decode cX7_grow 1 = .ok (.iconst 2, 1) := by decide +kernel
theorem dX7_grow_2 : decode cX7_grow 2 = .ok (.aload_n 0, 1) := by decide +kernel
theorem dX7_grow_3 : decode cX7_grow 3 = .ok (.getfield 21, 3) := by decide +kernel
theorem dX7_grow_6 : decode cX7_grow 6 = .ok (.arraylength, 1) := by decide +kernel
theorem dX7_grow_7 : decode cX7_grow 7 = .ok (.imul, 1) := by decide +kernel
theorem dX7_grow_8 : decode cX7_grow 8 = .ok (.invokestatic 17, 3) := by decide +kernel
theorem dX7_grow_11 : decode cX7_grow 11 = .ok (.putfield 21, 3) := by decide +kernel
theorem dX7_grow_14 : decode cX7_grow 14 = .ok (.aload_n 0, 1) := by decide +kernel
theorem dX7_grow_15 : decode cX7_grow 15 = .ok (.dup, 1) := by decide +kernel
theorem dX7_grow_16 : decode cX7_grow 16 = .ok (.getfield 36, 3) := by decide +kernel
theorem dX7_grow_19 : decode cX7_grow 19 = .ok (.iconst 1, 1) := by decide +kernel
theorem dX7_grow_20 : decode cX7_grow 20 = .ok (.iadd, 1) := by decide +kernel
theorem dX7_grow_21 : decode cX7_grow 21 = .ok (.putfield 36, 3) := by decide +kernel
theorem dX7_grow_24 : decode cX7_grow 24 = .ok (.iconst 0, 1) := by decide +kernel
theorem dX7_grow_25 : decode cX7_grow 25 = .ok (.istore_n 1, 1) := by decide +kernel
theorem dX7_grow_26 : decode cX7_grow 26 = .ok (.iload_n 1, 1) := by decide +kernel
theorem dX7_grow_27 : decode cX7_grow 27 = .ok (.aload_n 0, 1) := by decide +kernel
theorem dX7_grow_28 : decode cX7_grow 28 = .ok (.getfield 29, 3) := by decide +kernel
theorem dX7_grow_31 : decode cX7_grow 31 = .ok (.if_icmp .ge 25, 3) := by decide +kernel
theorem dX7_grow_34 : decode cX7_grow 34 = .ok (.aload_n 0, 1) := by decide +kernel
theorem dX7_grow_35 : decode cX7_grow 35 = .ok (.getfield 21, 3) := by decide +kernel
theorem dX7_grow_38 : decode cX7_grow 38 = .ok (.aload_n 0, 1) := by decide +kernel
theorem dX7_grow_39 : decode cX7_grow 39 = .ok (.aload_n 0, 1) := by decide +kernel
theorem dX7_grow_40 : decode cX7_grow 40 = .ok (.getfield 11, 3) := by decide +kernel
theorem dX7_grow_43 : decode cX7_grow 43 = .ok (.iload_n 1, 1) := by decide +kernel
theorem dX7_grow_44 : decode cX7_grow 44 = .ok (.aaload, 1) := by decide +kernel
theorem dX7_grow_45 : decode cX7_grow 45 = .ok (.invokevirtual 80, 3) := by decide +kernel
theorem dX7_grow_48 : decode cX7_grow 48 = .ok (.iload_n 1, 1) := by decide +kernel
theorem dX7_grow_49 : decode cX7_grow 49 = .ok (.iastore, 1) := by decide +kernel
theorem dX7_grow_50 : decode cX7_grow 50 = .ok (.iinc 1 1, 3) := by decide +kernel
theorem dX7_grow_53 : decode cX7_grow 53 = .ok (.goto (-27), 3) := by decide +kernel
theorem dX7_grow_56 : decode cX7_grow 56 = .ok (.return_, 1) := by decide +kernel
set_option maxRecDepth 20000 in
theorem ggX7_freeSlotFor_X7_firstSlot : GoodIn wsX7_freeSlotFor wsX7_firstSlot := goodIn_r _ [7, 1, 8, 9, 10, 11, 12, 13, 14, 15, 16, 17, 18, 19, 20, 21, 22, 23, 24, 25, 26, 27, 28, 29, 30, 31, 32, 33, 43, 44, 45, 46, 47, 48, 49, 50, 51, 52, 53, 54, 55] (by decide +kernel) (by decide +kernel)
set_option maxRecDepth 20000 in
theorem gX7_freeSlotFor_X7_firstSlot_u69X1 : GoodIn wsX7_freeSlotFor (va_wsU RX7 69 RX1 "KeptTerms$Table" ⟨"KeptTerms$Table", "firstSlot", "(LKeptTerms$Bytes;)I"⟩ yX7_firstSlot wsX7_firstSlot) := goodIn_app (goodIn_of _ (by decide +kernel)) ggX7_freeSlotFor_X7_firstSlot
set_option maxRecDepth 20000 in
theorem gX7_freeSlotFor_X7_firstSlot : GoodIn wsX7_freeSlotFor (wsV RX7 69 RX7 yX7_firstSlot wsX7_firstSlot) := goodIn_app (goodIn_of _ (by decide +kernel)) ggX7_freeSlotFor_X7_firstSlot
set_option maxRecDepth 20000 in
theorem ggX7_freeSlotFor_X7_nextSlot : GoodIn wsX7_freeSlotFor wsX7_nextSlot := goodIn_r _ [40, 1, 43, 44, 45, 46, 47, 48, 49, 50, 51, 52, 53] (by decide +kernel) (by decide +kernel)
set_option maxRecDepth 20000 in
theorem gX7_freeSlotFor_X7_nextSlot_u76X1 : GoodIn wsX7_freeSlotFor (va_wsU RX7 76 RX1 "KeptTerms$Table" ⟨"KeptTerms$Table", "nextSlot", "(I)I"⟩ yX7_nextSlot wsX7_nextSlot) := goodIn_app (goodIn_of _ (by decide +kernel)) ggX7_freeSlotFor_X7_nextSlot
set_option maxRecDepth 20000 in
theorem gX7_freeSlotFor_X7_nextSlot : GoodIn wsX7_freeSlotFor (wsV RX7 76 RX7 yX7_nextSlot wsX7_nextSlot) := goodIn_app (goodIn_of _ (by decide +kernel)) ggX7_freeSlotFor_X7_nextSlot
theorem dX7_freeSlotFor_0 : decode cX7_freeSlotFor 0 = .ok (.aload_n 0, 1) := by decide +kernel
theorem dX7_freeSlotFor_1 : decode cX7_freeSlotFor 1 = .ok (.aload_n 1, 1) := by decide +kernel
theorem dX7_freeSlotFor_2 : decode cX7_freeSlotFor 2 = .ok (.invokevirtual 69, 3) := by decide +kernel
theorem dX7_freeSlotFor_5 : decode cX7_freeSlotFor 5 = .ok (.istore_n 2, 1) := by decide +kernel
theorem dX7_freeSlotFor_6 : decode cX7_freeSlotFor 6 = .ok (.iconst 1, 1) := by decide +kernel
theorem dX7_freeSlotFor_7 : decode cX7_freeSlotFor 7 = .ok (.istore_n 3, 1) := by decide +kernel
theorem dX7_freeSlotFor_8 : decode cX7_freeSlotFor 8 = .ok (.iload_n 3, 1) := by decide +kernel
theorem dX7_freeSlotFor_9 : decode cX7_freeSlotFor 9 = .ok (.aload_n 0, 1) := by decide +kernel
theorem dX7_freeSlotFor_10 : decode cX7_freeSlotFor 10 = .ok (.getfield 21, 3) := by decide +kernel
theorem dX7_freeSlotFor_13 : decode cX7_freeSlotFor 13 = .ok (.arraylength, 1) := by decide +kernel
theorem dX7_freeSlotFor_14 : decode cX7_freeSlotFor 14 = .ok (.if_icmp .ge 26, 3) := by decide +kernel
theorem dX7_freeSlotFor_17 : decode cX7_freeSlotFor 17 = .ok (.aload_n 0, 1) := by decide +kernel
theorem dX7_freeSlotFor_18 : decode cX7_freeSlotFor 18 = .ok (.getfield 21, 3) := by decide +kernel
theorem dX7_freeSlotFor_21 : decode cX7_freeSlotFor 21 = .ok (.iload_n 2, 1) := by decide +kernel
theorem dX7_freeSlotFor_22 : decode cX7_freeSlotFor 22 = .ok (.iaload, 1) := by decide +kernel
theorem dX7_freeSlotFor_23 : decode cX7_freeSlotFor 23 = .ok (.bipush (-3), 2) := by decide +kernel
theorem dX7_freeSlotFor_25 : decode cX7_freeSlotFor 25 = .ok (.if_icmp .eq 15, 3) := by decide +kernel
theorem dX7_freeSlotFor_28 : decode cX7_freeSlotFor 28 = .ok (.aload_n 0, 1) := by decide +kernel
theorem dX7_freeSlotFor_29 : decode cX7_freeSlotFor 29 = .ok (.iload_n 2, 1) := by decide +kernel
theorem dX7_freeSlotFor_30 : decode cX7_freeSlotFor 30 = .ok (.invokevirtual 76, 3) := by decide +kernel
theorem dX7_freeSlotFor_33 : decode cX7_freeSlotFor 33 = .ok (.istore_n 2, 1) := by decide +kernel
theorem dX7_freeSlotFor_34 : decode cX7_freeSlotFor 34 = .ok (.iinc 3 1, 3) := by decide +kernel
theorem dX7_freeSlotFor_37 : decode cX7_freeSlotFor 37 = .ok (.goto (-29), 3) := by decide +kernel
theorem dX7_freeSlotFor_40 : decode cX7_freeSlotFor 40 = .ok (.iload_n 2, 1) := by decide +kernel
theorem dX7_freeSlotFor_41 : decode cX7_freeSlotFor 41 = .ok (.ireturn, 1) := by decide +kernel
theorem dX8_init_0 : decode cX8_init 0 = .ok (.aload_n 0, 1) := by decide +kernel
theorem dX8_init_1 : decode cX8_init 1 = .ok (.invokespecial 1, 3) := by decide +kernel
theorem dX8_init_4 : decode cX8_init 4 = .ok (.return_, 1) := by decide +kernel
set_option maxRecDepth 20000 in
theorem ggX9_init_X3_init : GoodIn wsX9_init wsX3_init := goodIn_r _ [14, 15, 2, 3, 16, 17, 24, 25] (by decide +kernel) (by decide +kernel)
set_option maxRecDepth 20000 in
theorem gX9_init_X3_init : GoodIn wsX9_init (wsX3_init) := ggX9_init_X3_init
theorem dX9_init_0 : decode cX9_init 0 = .ok (.aload_n 0, 1) := by decide +kernel
theorem dX9_init_1 : decode cX9_init 1 = .ok (.invokespecial 3, 3) := by decide +kernel
theorem dX9_init_4 : decode cX9_init 4 = .ok (.aload_n 0, 1) := by decide +kernel
theorem dX9_init_5 : decode cX9_init 5 = .ok (.bipush 10, 2) := by decide +kernel
theorem dX9_init_7 : decode cX9_init 7 = .ok (.anewarray 11, 3) := by decide +kernel
theorem dX9_init_10 : decode cX9_init 10 = .ok (.putfield 13, 3) := by decide +kernel
theorem dX9_init_13 : decode cX9_init 13 = .ok (.aload_n 0, 1) := by decide +kernel
theorem dX9_init_14 : decode cX9_init 14 = .ok (.new 17, 3) := by decide +kernel
theorem dX9_init_17 : decode cX9_init 17 = .ok (.dup, 1) := by decide +kernel
theorem dX9_init_18 : decode cX9_init 18 = .ok (.invokespecial 19, 3) := by decide +kernel
theorem dX9_init_21 : decode cX9_init 21 = .ok (.putfield 20, 3) := by decide +kernel
theorem dX9_init_24 : decode cX9_init 24 = .ok (.aload_n 0, 1) := by decide +kernel
theorem dX9_init_25 : decode cX9_init 25 = .ok (.bipush 100, 2) := by decide +kernel
theorem dX9_init_27 : decode cX9_init 27 = .ok (.newarray .int, 2) := by decide +kernel
theorem dX9_init_29 : decode cX9_init 29 = .ok (.putfield 24, 3) := by decide +kernel
theorem dX9_init_32 : decode cX9_init 32 = .ok (.return_, 1) := by decide +kernel
theorem dX9_fault_0 : decode cX9_fault 0 = .ok (.aload_n 0, 1) := by decide +kernel
theorem dX9_fault_1 : decode cX9_fault 1 = .ok (.getfield 28, 3) := by decide +kernel
theorem dX9_fault_4 : decode cX9_fault 4 = .ok (.ireturn, 1) := by decide +kernel
set_option maxRecDepth 20000 in
theorem ggX9_make_X9_isPlace : GoodIn wsX9_make wsX9_isPlace := goodIn_r _ [5] (by decide +kernel) (by decide +kernel)
set_option maxRecDepth 20000 in
theorem gX9_make_X9_isPlace : GoodIn wsX9_make (va_wsS RX9 32 yX9_isPlace wsX9_isPlace) := goodIn_app (goodIn_of _ (by decide +kernel)) ggX9_make_X9_isPlace
set_option maxRecDepth 20000 in
theorem ggX9_make_X9_failed : GoodIn wsX9_make wsX9_failed := goodIn_r _ [9, 10, 49, 50, 51, 52, 53, 54] (by decide +kernel) (by decide +kernel)
set_option maxRecDepth 20000 in
theorem gX9_make_X9_failed : GoodIn wsX9_make (wsV RX9 36 RX9 yX9_failed wsX9_failed) := goodIn_app (goodIn_of _ (by decide +kernel)) ggX9_make_X9_failed
set_option maxRecDepth 20000 in
theorem ggX9_make_X9_newRow : GoodIn wsX9_make wsX9_newRow := goodIn_r _ [13, 14, 15, 16, 17, 18, 19, 20, 21, 22, 23, 24, 25, 26, 27, 28, 29, 30, 31, 32, 33, 34, 35, 36, 37, 38, 39, 40, 41, 42, 43, 44, 45, 46, 47, 48, 55, 56, 57] (by decide +kernel) (by decide +kernel)
set_option maxRecDepth 20000 in
theorem gX9_make_X9_newRow : GoodIn wsX9_make (va_wsS RX9 40 yX9_newRow wsX9_newRow) := goodIn_app (goodIn_of _ (by decide +kernel)) ggX9_make_X9_newRow
theorem dX9_make_0 : decode cX9_make 0 = .ok (.iload_n 1, 1) := by decide +kernel
theorem dX9_make_1 : decode cX9_make 1 = .ok (.invokestatic 32, 3) := by decide +kernel
theorem dX9_make_4 : decode cX9_make 4 = .ok (.ifCond .ne 5, 3) := by decide +kernel
theorem dX9_make_7 : decode cX9_make 7 = .ok (.iconst (-1), 1) := by decide +kernel
theorem dX9_make_8 : decode cX9_make 8 = .ok (.ireturn, 1) := by decide +kernel
theorem dX9_make_9 : decode cX9_make 9 = .ok (.iload_n 2, 1) := by decide +kernel
theorem dX9_make_10 : decode cX9_make 10 = .ok (.iconst 1, 1) := by decide +kernel
theorem dX9_make_11 : decode cX9_make 11 = .ok (.if_icmp .lt 14, 3) := by decide +kernel
theorem dX9_make_14 : decode cX9_make 14 = .ok (.iload_n 2, 1) := by decide +kernel
theorem dX9_make_15 : decode cX9_make 15 = .ok (.iconst 3, 1) := by decide +kernel
theorem dX9_make_16 : decode cX9_make 16 = .ok (.if_icmp .gt 9, 3) := by decide +kernel
theorem dX9_make_19 : decode cX9_make 19 = .ok (.iload_n 3, 1) := by decide +kernel
theorem dX9_make_20 : decode cX9_make 20 = .ok (.bipush 16, 2) := by decide +kernel
theorem dX9_make_22 : decode cX9_make 22 = .ok (.if_icmp .le 6, 3) := by decide +kernel
theorem dX9_make_25 : decode cX9_make 25 = .ok (.bipush (-2), 2) := by decide +kernel
theorem dX9_make_27 : decode cX9_make 27 = .ok (.ireturn, 1) := by decide +kernel
theorem dX9_make_28 : decode cX9_make 28 = .ok (.iload_n 3, 1) := by decide +kernel
theorem dX9_make_29 : decode cX9_make 29 = .ok (.ifCond .ge 9, 3) := by decide +kernel
theorem dX9_make_32 : decode cX9_make 32 = .ok (.aload_n 0, 1) := by decide +kernel
theorem dX9_make_33 : decode cX9_make 33 = .ok (.iconst 5, 1) := by decide +kernel
theorem dX9_make_34 : decode cX9_make 34 = .ok (.invokevirtual 36, 3) := by decide +kernel
theorem dX9_make_37 : decode cX9_make 37 = .ok (.ireturn, 1) := by decide +kernel
theorem dX9_make_38 : decode cX9_make 38 = .ok (.aload_n 0, 1) := by decide +kernel
theorem dX9_make_39 : decode cX9_make 39 = .ok (.getfield 13, 3) := by decide +kernel
theorem dX9_make_42 : decode cX9_make 42 = .ok (.iload_n 1, 1) := by decide +kernel
theorem dX9_make_43 : decode cX9_make 43 = .ok (.iload_n 2, 1) := by decide +kernel
theorem dX9_make_44 : decode cX9_make 44 = .ok (.iload_n 3, 1) := by decide +kernel
theorem dX9_make_45 : decode cX9_make 45 = .ok (.invokestatic 40, 3) := by decide +kernel
theorem dX9_make_48 : decode cX9_make 48 = .ok (.aastore, 1) := by decide +kernel
theorem dX9_make_49 : decode cX9_make 49 = .ok (.iconst 1, 1) := by decide +kernel
theorem dX9_make_50 : decode cX9_make 50 = .ok (.ireturn, 1) := by decide +kernel
set_option maxRecDepth 20000 in
theorem ggX9_table_X9_isPlace : GoodIn wsX9_table wsX9_isPlace := goodIn_r _ [12] (by decide +kernel) (by decide +kernel)
set_option maxRecDepth 20000 in
theorem gX9_table_X9_isPlace : GoodIn wsX9_table (va_wsS RX9 32 yX9_isPlace wsX9_isPlace) := goodIn_app (goodIn_of _ (by decide +kernel)) ggX9_table_X9_isPlace
set_option maxRecDepth 20000 in
theorem ggX9_table_X9_slotsFor : GoodIn wsX9_table wsX9_slotsFor := goodIn_r _ [15] (by decide +kernel) (by decide +kernel)
set_option maxRecDepth 20000 in
theorem gX9_table_X9_slotsFor : GoodIn wsX9_table (va_wsS RX9 44 yX9_slotsFor wsX9_slotsFor) := goodIn_app (goodIn_of _ (by decide +kernel)) ggX9_table_X9_slotsFor
set_option maxRecDepth 20000 in
theorem ggX9_table_X1_init : GoodIn wsX9_table wsX1_init := goodIn_r _ [18, 19, 20, 21, 8, 22, 23, 24, 25, 26, 27, 28, 29, 30, 31, 32, 33, 34, 35, 36, 37, 38, 39, 47, 48, 49, 50, 51, 52, 53, 54, 55, 56, 57] (by decide +kernel) (by decide +kernel)
set_option maxRecDepth 20000 in
theorem gX9_table_X1_init : GoodIn wsX9_table (wsX1_init) := ggX9_table_X1_init
set_option maxRecDepth 20000 in
theorem ggX9_table_X7_init : GoodIn wsX9_table wsX7_init := goodIn_r _ [22, 23, 24, 25, 26, 27, 28, 29, 30, 31, 32, 33, 8, 34, 35, 36, 37, 38, 39, 47, 48, 49, 50, 51, 52, 53, 54, 55, 56, 57] (by decide +kernel) (by decide +kernel)
set_option maxRecDepth 20000 in
theorem gX9_table_X7_init : GoodIn wsX9_table (wsX7_init) := ggX9_table_X7_init
theorem dX9_table_0 : decode cX9_table 0 = .ok (.iload_n 1, 1) := by decide +kernel
theorem dX9_table_1 : decode cX9_table 1 = .ok (.invokestatic 32, 3) := by decide +kernel
theorem dX9_table_4 : decode cX9_table 4 = .ok (.ifCond .ne 5, 3) := by decide +kernel
theorem dX9_table_7 : decode cX9_table 7 = .ok (.iconst (-1), 1) := by decide +kernel
theorem dX9_table_8 : decode cX9_table 8 = .ok (.ireturn, 1) := by decide +kernel
theorem dX9_table_9 : decode cX9_table 9 = .ok (.iload_n 3, 1) := by decide +kernel
theorem dX9_table_10 : decode cX9_table 10 = .ok (.iconst 1, 1) := by decide +kernel
theorem dX9_table_11 : decode cX9_table 11 = .ok (.if_icmp .lt 9, 3) := by decide +kernel
theorem dX9_table_14 : decode cX9_table 14 = .ok (.iload_n 3, 1) := by decide +kernel
theorem dX9_table_15 : decode cX9_table 15 = .ok (.bipush 64, 2) := by decide +kernel
theorem dX9_table_17 : decode cX9_table 17 = .ok (.if_icmp .le 6, 3) := by decide +kernel
theorem dX9_table_20 : decode cX9_table 20 = .ok (.bipush (-2), 2) := by decide +kernel
theorem dX9_table_22 : decode cX9_table 22 = .ok (.ireturn, 1) := by decide +kernel
theorem dX9_table_23 : decode cX9_table 23 = .ok (.iload_n 3, 1) := by decide +kernel
theorem dX9_table_24 : decode cX9_table 24 = .ok (.invokestatic 44, 3) := by decide +kernel
theorem dX9_table_27 : decode cX9_table 27 = .ok (.istore 4, 2) := by decide +kernel
theorem dX9_table_29 : decode cX9_table 29 = .ok (.aload_n 0, 1) := by decide +kernel
theorem dX9_table_30 : decode cX9_table 30 = .ok (.getfield 13, 3) := by decide +kernel
theorem dX9_table_33 : decode cX9_table 33 = .ok (.iload_n 1, 1) := by decide +kernel
theorem dX9_table_34 : decode cX9_table 34 = .ok (.iload_n 2, 1) := by decide +kernel
theorem dX9_table_35 : decode cX9_table 35 = .ok (.ifCond .eq 19, 3) := by decide +kernel
theorem dX9_table_38 : decode cX9_table 38 = .ok (.new 47, 3) := by decide +kernel
theorem dX9_table_41 : decode cX9_table 41 = .ok (.dup, 1) := by decide +kernel
theorem dX9_table_42 : decode cX9_table 42 = .ok (.iload 4, 2) := by decide +kernel
theorem dX9_table_44 : decode cX9_table 44 = .ok (.aload_n 0, 1) := by decide +kernel
theorem dX9_table_45 : decode cX9_table 45 = .ok (.getfield 20, 3) := by decide +kernel
theorem dX9_table_48 : decode cX9_table 48 = .ok (.invokespecial 49, 3) := by decide +kernel
theorem dX9_table_51 : decode cX9_table 51 = .ok (.goto 12, 3) := by decide +kernel
theorem dX9_table_54 : decode cX9_table 54 = .ok (.new 52, 3) := by decide +kernel
theorem dX9_table_57 : decode cX9_table 57 = .ok (.dup, 1) := by decide +kernel
theorem dX9_table_58 : decode cX9_table 58 = .ok (.iload 4, 2) := by decide +kernel
theorem dX9_table_60 : decode cX9_table 60 = .ok (.invokespecial 54, 3) := by decide +kernel
theorem dX9_table_63 : decode cX9_table 63 = .ok (.aastore, 1) := by decide +kernel
theorem dX9_table_64 : decode cX9_table 64 = .ok (.iload 4, 2) := by decide +kernel
theorem dX9_table_66 : decode cX9_table 66 = .ok (.ireturn, 1) := by decide +kernel
set_option maxRecDepth 20000 in
theorem ggX9_move_X9_isPlace : GoodIn wsX9_move wsX9_isPlace := goodIn_r _ [5] (by decide +kernel) (by decide +kernel)
set_option maxRecDepth 20000 in
theorem gX9_move_X9_isPlace : GoodIn wsX9_move (va_wsS RX9 32 yX9_isPlace wsX9_isPlace) := goodIn_app (goodIn_of _ (by decide +kernel)) ggX9_move_X9_isPlace
set_option maxRecDepth 20000 in
theorem ggX9_move_X9_kindOf : GoodIn wsX9_move wsX9_kindOf := goodIn_r _ [8, 9, 10, 11, 12, 13, 14, 15, 16, 17, 18, 19, 20, 21, 22, 23, 24, 25, 26, 27, 28, 29, 30] (by decide +kernel) (by decide +kernel)
set_option maxRecDepth 20000 in
theorem gX9_move_X9_kindOf : GoodIn wsX9_move (va_wsS RX9 57 yX9_kindOf wsX9_kindOf) := goodIn_app (goodIn_of _ (by decide +kernel)) ggX9_move_X9_kindOf
theorem dX9_move_0 : decode cX9_move 0 = .ok (.iload_n 1, 1) := by decide +kernel
theorem dX9_move_1 : decode cX9_move 1 = .ok (.invokestatic 32, 3) := by decide +kernel
theorem dX9_move_4 : decode cX9_move 4 = .ok (.ifCond .eq 15, 3) := by decide +kernel
theorem dX9_move_7 : decode cX9_move 7 = .ok (.iload_n 2, 1) := by decide +kernel
theorem dX9_move_8 : decode cX9_move 8 = .ok (.iconst (-1), 1) := by decide +kernel
theorem dX9_move_9 : decode cX9_move 9 = .ok (.if_icmp .eq 12, 3) := by decide +kernel
theorem dX9_move_12 : decode cX9_move 12 = .ok (.iload_n 2, 1) := by decide +kernel
theorem dX9_move_13 : decode cX9_move 13 = .ok (.invokestatic 32, 3) := by decide +kernel
theorem dX9_move_16 : decode cX9_move 16 = .ok (.ifCond .ne 5, 3) := by decide +kernel
theorem dX9_move_19 : decode cX9_move 19 = .ok (.iconst (-1), 1) := by decide +kernel
theorem dX9_move_20 : decode cX9_move 20 = .ok (.ireturn, 1) := by decide +kernel
theorem dX9_move_21 : decode cX9_move 21 = .ok (.aload_n 0, 1) := by decide +kernel
theorem dX9_move_22 : decode cX9_move 22 = .ok (.getfield 13, 3) := by decide +kernel
theorem dX9_move_25 : decode cX9_move 25 = .ok (.iload_n 1, 1) := by decide +kernel
theorem dX9_move_26 : decode cX9_move 26 = .ok (.iload_n 2, 1) := by decide +kernel
theorem dX9_move_27 : decode cX9_move 27 = .ok (.iconst (-1), 1) := by decide +kernel
theorem dX9_move_28 : decode cX9_move 28 = .ok (.if_icmp .ne 7, 3) := by decide +kernel
theorem dX9_move_31 : decode cX9_move 31 = .ok (.aconst_null, 1) := by decide +kernel
theorem dX9_move_32 : decode cX9_move 32 = .ok (.goto 9, 3) := by decide +kernel
theorem dX9_move_35 : decode cX9_move 35 = .ok (.aload_n 0, 1) := by decide +kernel
theorem dX9_move_36 : decode cX9_move 36 = .ok (.getfield 13, 3) := by decide +kernel
theorem dX9_move_39 : decode cX9_move 39 = .ok (.iload_n 2, 1) := by decide +kernel
theorem dX9_move_40 : decode cX9_move 40 = .ok (.aaload, 1) := by decide +kernel
theorem dX9_move_41 : decode cX9_move 41 = .ok (.aastore, 1) := by decide +kernel
theorem dX9_move_42 : decode cX9_move 42 = .ok (.aload_n 0, 1) := by decide +kernel
theorem dX9_move_43 : decode cX9_move 43 = .ok (.getfield 13, 3) := by decide +kernel
theorem dX9_move_46 : decode cX9_move 46 = .ok (.iload_n 1, 1) := by decide +kernel
theorem dX9_move_47 : decode cX9_move 47 = .ok (.aaload, 1) := by decide +kernel
theorem dX9_move_48 : decode cX9_move 48 = .ok (.invokestatic 57, 3) := by decide +kernel
theorem dX9_move_51 : decode cX9_move 51 = .ok (.ireturn, 1) := by decide +kernel
set_option maxRecDepth 20000 in
theorem ggX9_held_X9_isPlace : GoodIn wsX9_held wsX9_isPlace := goodIn_r _ [5] (by decide +kernel) (by decide +kernel)
set_option maxRecDepth 20000 in
theorem gX9_held_X9_isPlace : GoodIn wsX9_held (va_wsS RX9 32 yX9_isPlace wsX9_isPlace) := goodIn_app (goodIn_of _ (by decide +kernel)) ggX9_held_X9_isPlace
set_option maxRecDepth 20000 in
theorem ggX9_held_X9_kindOf : GoodIn wsX9_held wsX9_kindOf := goodIn_r _ [8, 9, 10, 11, 12, 13, 14, 15, 16, 17, 18, 19, 20, 21, 22, 23, 24, 25, 26, 27, 28, 29, 30] (by decide +kernel) (by decide +kernel)
set_option maxRecDepth 20000 in
theorem gX9_held_X9_kindOf : GoodIn wsX9_held (va_wsS RX9 57 yX9_kindOf wsX9_kindOf) := goodIn_app (goodIn_of _ (by decide +kernel)) ggX9_held_X9_kindOf
set_option maxRecDepth 20000 in
theorem ggX9_held_X9_isOfType : GoodIn wsX9_held wsX9_isOfType := goodIn_r _ [33, 6, 7, 4, 8, 9, 10, 11, 12, 13, 14, 15, 16, 17, 18, 19, 20, 21, 22, 23, 24, 25, 26, 27, 28, 29, 30] (by decide +kernel) (by decide +kernel)
set_option maxRecDepth 20000 in
theorem gX9_held_X9_isOfType : GoodIn wsX9_held (va_wsS RX9 61 yX9_isOfType wsX9_isOfType) := goodIn_app (goodIn_of _ (by decide +kernel)) ggX9_held_X9_isOfType
theorem dX9_held_0 : decode cX9_held 0 = .ok (.iload_n 1, 1) := by decide +kernel
theorem dX9_held_1 : decode cX9_held 1 = .ok (.invokestatic 32, 3) := by decide +kernel
theorem dX9_held_4 : decode cX9_held 4 = .ok (.ifCond .ne 5, 3) := by decide +kernel
theorem dX9_held_7 : decode cX9_held 7 = .ok (.iconst (-1), 1) := by decide +kernel
theorem dX9_held_8 : decode cX9_held 8 = .ok (.ireturn, 1) := by decide +kernel
theorem dX9_held_9 : decode cX9_held 9 = .ok (.iload_n 2, 1) := by decide +kernel
theorem dX9_held_10 : decode cX9_held 10 = .ok (.ifCond .lt 8, 3) := by decide +kernel
theorem dX9_held_13 : decode cX9_held 13 = .ok (.iload_n 2, 1) := by decide +kernel
theorem dX9_held_14 : decode cX9_held 14 = .ok (.iconst 5, 1) := by decide +kernel
theorem dX9_held_15 : decode cX9_held 15 = .ok (.if_icmp .le 6, 3) := by decide +kernel
theorem dX9_held_18 : decode cX9_held 18 = .ok (.bipush (-2), 2) := by decide +kernel
theorem dX9_held_20 : decode cX9_held 20 = .ok (.ireturn, 1) := by decide +kernel
theorem dX9_held_21 : decode cX9_held 21 = .ok (.iload_n 2, 1) := by decide +kernel
theorem dX9_held_22 : decode cX9_held 22 = .ok (.ifCond .ne 13, 3) := by decide +kernel
theorem dX9_held_25 : decode cX9_held 25 = .ok (.aload_n 0, 1) := by decide +kernel
theorem dX9_held_26 : decode cX9_held 26 = .ok (.getfield 13, 3) := by decide +kernel
theorem dX9_held_29 : decode cX9_held 29 = .ok (.iload_n 1, 1) := by decide +kernel
theorem dX9_held_30 : decode cX9_held 30 = .ok (.aaload, 1) := by decide +kernel
theorem dX9_held_31 : decode cX9_held 31 = .ok (.invokestatic 57, 3) := by decide +kernel
theorem dX9_held_34 : decode cX9_held 34 = .ok (.ireturn, 1) := by decide +kernel
theorem dX9_held_35 : decode cX9_held 35 = .ok (.aload_n 0, 1) := by decide +kernel
theorem dX9_held_36 : decode cX9_held 36 = .ok (.getfield 13, 3) := by decide +kernel
theorem dX9_held_39 : decode cX9_held 39 = .ok (.iload_n 1, 1) := by decide +kernel
theorem dX9_held_40 : decode cX9_held 40 = .ok (.aaload, 1) := by decide +kernel
theorem dX9_held_41 : decode cX9_held 41 = .ok (.iload_n 2, 1) := by decide +kernel
theorem dX9_held_42 : decode cX9_held 42 = .ok (.invokestatic 61, 3) := by decide +kernel
theorem dX9_held_45 : decode cX9_held 45 = .ok (.ifCond .eq 7, 3) := by decide +kernel
theorem dX9_held_48 : decode cX9_held 48 = .ok (.iconst 1, 1) := by decide +kernel
theorem dX9_held_49 : decode cX9_held 49 = .ok (.goto 4, 3) := by decide +kernel
theorem dX9_held_52 : decode cX9_held 52 = .ok (.iconst 0, 1) := by decide +kernel
theorem dX9_held_53 : decode cX9_held 53 = .ok (.ireturn, 1) := by decide +kernel
set_option maxRecDepth 20000 in
theorem ggX9_same_X9_isPlace : GoodIn wsX9_same wsX9_isPlace := goodIn_r _ [5] (by decide +kernel) (by decide +kernel)
set_option maxRecDepth 20000 in
theorem gX9_same_X9_isPlace : GoodIn wsX9_same (va_wsS RX9 32 yX9_isPlace wsX9_isPlace) := goodIn_app (goodIn_of _ (by decide +kernel)) ggX9_same_X9_isPlace
theorem dX9_same_0 : decode cX9_same 0 = .ok (.iload_n 1, 1) := by decide +kernel
theorem dX9_same_1 : decode cX9_same 1 = .ok (.invokestatic 32, 3) := by decide +kernel
theorem dX9_same_4 : decode cX9_same 4 = .ok (.ifCond .eq 10, 3) := by decide +kernel
theorem dX9_same_7 : decode cX9_same 7 = .ok (.iload_n 2, 1) := by decide +kernel
theorem dX9_same_8 : decode cX9_same 8 = .ok (.invokestatic 32, 3) := by decide +kernel
theorem dX9_same_11 : decode cX9_same 11 = .ok (.ifCond .ne 5, 3) := by decide +kernel
theorem dX9_same_14 : decode cX9_same 14 = .ok (.iconst (-1), 1) := by decide +kernel
theorem dX9_same_15 : decode cX9_same 15 = .ok (.ireturn, 1) := by decide +kernel
theorem dX9_same_16 : decode cX9_same 16 = .ok (.aload_n 0, 1) := by decide +kernel
theorem dX9_same_17 : decode cX9_same 17 = .ok (.getfield 13, 3) := by decide +kernel
theorem dX9_same_20 : decode cX9_same 20 = .ok (.iload_n 1, 1) := by decide +kernel
theorem dX9_same_21 : decode cX9_same 21 = .ok (.aaload, 1) := by decide +kernel
theorem dX9_same_22 : decode cX9_same 22 = .ok (.aload_n 0, 1) := by decide +kernel
theorem dX9_same_23 : decode cX9_same 23 = .ok (.getfield 13, 3) := by decide +kernel
theorem dX9_same_26 : decode cX9_same 26 = .ok (.iload_n 2, 1) := by decide +kernel
theorem dX9_same_27 : decode cX9_same 27 = .ok (.aaload, 1) := by decide +kernel
theorem dX9_same_28 : decode cX9_same 28 = .ok (.if_acmp .ne 7, 3) := by decide +kernel
theorem dX9_same_31 : decode cX9_same 31 = .ok (.iconst 1, 1) := by decide +kernel
theorem dX9_same_32 : decode cX9_same 32 = .ok (.goto 4, 3) := by decide +kernel
theorem dX9_same_35 : decode cX9_same 35 = .ok (.iconst 0, 1) := by decide +kernel
theorem dX9_same_36 : decode cX9_same 36 = .ok (.ireturn, 1) := by decide +kernel
set_option maxRecDepth 20000 in
theorem ggX9_length_X9_isPlace : GoodIn wsX9_length wsX9_isPlace := goodIn_r _ [5] (by decide +kernel) (by decide +kernel)
set_option maxRecDepth 20000 in
theorem gX9_length_X9_isPlace : GoodIn wsX9_length (va_wsS RX9 32 yX9_isPlace wsX9_isPlace) := goodIn_app (goodIn_of _ (by decide +kernel)) ggX9_length_X9_isPlace
set_option maxRecDepth 20000 in
theorem ggX9_length_X9_mayBeCast : GoodIn wsX9_length wsX9_mayBeCast := goodIn_r _ [8, 9, 10, 4, 11, 12, 13, 14, 15, 16, 17, 18, 19, 20, 21, 22, 23, 24, 25, 26, 27, 28, 29, 30, 31, 32, 33, 34, 35, 36] (by decide +kernel) (by decide +kernel)
set_option maxRecDepth 20000 in
theorem gX9_length_X9_mayBeCast : GoodIn wsX9_length (va_wsS RX9 65 yX9_mayBeCast wsX9_mayBeCast) := goodIn_app (goodIn_of _ (by decide +kernel)) ggX9_length_X9_mayBeCast
set_option maxRecDepth 20000 in
theorem ggX9_length_X9_failed : GoodIn wsX9_length wsX9_failed := goodIn_r _ [40, 41, 60, 61, 62, 63, 64, 65] (by decide +kernel) (by decide +kernel)
set_option maxRecDepth 20000 in
theorem gX9_length_X9_failed : GoodIn wsX9_length (wsV RX9 36 RX9 yX9_failed wsX9_failed) := goodIn_app (goodIn_of _ (by decide +kernel)) ggX9_length_X9_failed
set_option maxRecDepth 20000 in
theorem ggX9_length_X9_asRow : GoodIn wsX9_length wsX9_asRow := goodIn_r _ [44, 45] (by decide +kernel) (by decide +kernel)
set_option maxRecDepth 20000 in
theorem gX9_length_X9_asRow : GoodIn wsX9_length (va_wsS RX9 68 yX9_asRow wsX9_asRow) := goodIn_app (goodIn_of _ (by decide +kernel)) ggX9_length_X9_asRow
set_option maxRecDepth 20000 in
theorem ggX9_length_X0_cellCount : GoodIn wsX9_length wsX0_cellCount := goodIn_r _ [50, 51, 66] (by decide +kernel) (by decide +kernel)
set_option maxRecDepth 20000 in
theorem gX9_length_X0_cellCount_u72X0 : GoodIn wsX9_length (va_wsU RX9 72 RX0 "KeptTerms$Row" ⟨"KeptTerms$Row", "cellCount", "()I"⟩ yX0_cellCount wsX0_cellCount) := goodIn_app (goodIn_of _ (by decide +kernel)) ggX9_length_X0_cellCount
set_option maxRecDepth 20000 in
theorem ggX9_length_X5_cellCount : GoodIn wsX9_length wsX5_cellCount := goodIn_r _ [54, 55, 67] (by decide +kernel) (by decide +kernel)
set_option maxRecDepth 20000 in
theorem gX9_length_X5_cellCount_u72X5 : GoodIn wsX9_length (va_wsU RX9 72 RX5 "KeptTerms$Row" ⟨"KeptTerms$Row", "cellCount", "()I"⟩ yX5_cellCount wsX5_cellCount) := goodIn_app (goodIn_of _ (by decide +kernel)) ggX9_length_X5_cellCount
set_option maxRecDepth 20000 in
theorem ggX9_length_X6_cellCount : GoodIn wsX9_length wsX6_cellCount := goodIn_r _ [58, 59, 68] (by decide +kernel) (by decide +kernel)
set_option maxRecDepth 20000 in
theorem gX9_length_X6_cellCount_u72X6 : GoodIn wsX9_length (va_wsU RX9 72 RX6 "KeptTerms$Row" ⟨"KeptTerms$Row", "cellCount", "()I"⟩ yX6_cellCount wsX6_cellCount) := goodIn_app (goodIn_of _ (by decide +kernel)) ggX9_length_X6_cellCount
theorem dX9_length_0 : decode cX9_length 0 = .ok (.iload_n 1, 1) := by decide +kernel
theorem dX9_length_1 : decode cX9_length 1 = .ok (.invokestatic 32, 3) := by decide +kernel
theorem dX9_length_4 : decode cX9_length 4 = .ok (.ifCond .ne 5, 3) := by decide +kernel
theorem dX9_length_7 : decode cX9_length 7 = .ok (.iconst (-1), 1) := by decide +kernel
theorem dX9_length_8 : decode cX9_length 8 = .ok (.ireturn, 1) := by decide +kernel
theorem dX9_length_9 : decode cX9_length 9 = .ok (.iload_n 2, 1) := by decide +kernel
theorem dX9_length_10 : decode cX9_length 10 = .ok (.iconst 1, 1) := by decide +kernel
theorem dX9_length_11 : decode cX9_length 11 = .ok (.if_icmp .lt 8, 3) := by decide +kernel
theorem dX9_length_14 : decode cX9_length 14 = .ok (.iload_n 2, 1) := by decide +kernel
theorem dX9_length_15 : decode cX9_length 15 = .ok (.iconst 3, 1) := by decide +kernel
theorem dX9_length_16 : decode cX9_length 16 = .ok (.if_icmp .le 6, 3) := by decide +kernel
theorem dX9_length_19 : decode cX9_length 19 = .ok (.bipush (-2), 2) := by decide +kernel
theorem dX9_length_21 : decode cX9_length 21 = .ok (.ireturn, 1) := by decide +kernel
theorem dX9_length_22 : decode cX9_length 22 = .ok (.aload_n 0, 1) := by decide +kernel
theorem dX9_length_23 : decode cX9_length 23 = .ok (.getfield 13, 3) := by decide +kernel
theorem dX9_length_26 : decode cX9_length 26 = .ok (.iload_n 1, 1) := by decide +kernel
theorem dX9_length_27 : decode cX9_length 27 = .ok (.aaload, 1) := by decide +kernel
theorem dX9_length_28 : decode cX9_length 28 = .ok (.iload_n 2, 1) := by decide +kernel
theorem dX9_length_29 : decode cX9_length 29 = .ok (.invokestatic 65, 3) := by decide +kernel
theorem dX9_length_32 : decode cX9_length 32 = .ok (.ifCond .ne 9, 3) := by decide +kernel
theorem dX9_length_35 : decode cX9_length 35 = .ok (.aload_n 0, 1) := by decide +kernel
theorem dX9_length_36 : decode cX9_length 36 = .ok (.iconst 2, 1) := by decide +kernel
theorem dX9_length_37 : decode cX9_length 37 = .ok (.invokevirtual 36, 3) := by decide +kernel
theorem dX9_length_40 : decode cX9_length 40 = .ok (.ireturn, 1) := by decide +kernel
theorem dX9_length_41 : decode cX9_length 41 = .ok (.aload_n 0, 1) := by decide +kernel
theorem dX9_length_42 : decode cX9_length 42 = .ok (.getfield 13, 3) := by decide +kernel
theorem dX9_length_45 : decode cX9_length 45 = .ok (.iload_n 1, 1) := by decide +kernel
theorem dX9_length_46 : decode cX9_length 46 = .ok (.aaload, 1) := by decide +kernel
theorem dX9_length_47 : decode cX9_length 47 = .ok (.invokestatic 68, 3) := by decide +kernel
theorem dX9_length_50 : decode cX9_length 50 = .ok (.astore_n 3, 1) := by decide +kernel
theorem dX9_length_51 : decode cX9_length 51 = .ok (.aload_n 3, 1) := by decide +kernel
theorem dX9_length_52 : decode cX9_length 52 = .ok (.ifnonnull 11, 3) := by decide +kernel
theorem dX9_length_55 : decode cX9_length 55 = .ok (.aload_n 0, 1) := by decide +kernel
theorem dX9_length_56 : decode cX9_length 56 = .ok (.iconst 1, 1) := by decide +kernel
theorem dX9_length_57 : decode cX9_length 57 = .ok (.invokevirtual 36, 3) := by decide +kernel
theorem dX9_length_60 : decode cX9_length 60 = .ok (.goto 7, 3) := by decide +kernel
theorem dX9_length_63 : decode cX9_length 63 = .ok (.aload_n 3, 1) := by decide +kernel
theorem dX9_length_64 : decode cX9_length 64 = .ok (.invokevirtual 72, 3) := by decide +kernel
theorem dX9_length_67 : decode cX9_length 67 = .ok (.ireturn, 1) := by decide +kernel
set_option maxRecDepth 20000 in
theorem ggX9_get_X9_isPlace : GoodIn wsX9_get wsX9_isPlace := goodIn_r _ [6] (by decide +kernel) (by decide +kernel)
set_option maxRecDepth 20000 in
theorem gX9_get_X9_isPlace : GoodIn wsX9_get (va_wsS RX9 32 yX9_isPlace wsX9_isPlace) := goodIn_app (goodIn_of _ (by decide +kernel)) ggX9_get_X9_isPlace
set_option maxRecDepth 20000 in
theorem ggX9_get_X9_isNumbersType : GoodIn wsX9_get wsX9_isNumbersType := goodIn_r _ [9] (by decide +kernel) (by decide +kernel)
set_option maxRecDepth 20000 in
theorem gX9_get_X9_isNumbersType : GoodIn wsX9_get (va_wsS RX9 78 yX9_isNumbersType wsX9_isNumbersType) := goodIn_app (goodIn_of _ (by decide +kernel)) ggX9_get_X9_isNumbersType
set_option maxRecDepth 20000 in
theorem ggX9_get_X9_cellFault : GoodIn wsX9_get wsX9_cellFault := goodIn_r _ [12, 13, 14, 5, 15, 16, 17, 18, 19, 20, 21, 22, 23, 24, 25, 26, 27, 28, 29, 30, 31, 32, 33, 34, 35, 36, 37, 38, 39, 40, 41, 42, 43, 44, 45, 46, 47, 48, 49, 50, 51, 52, 53, 54, 55, 56, 57, 58, 59, 60, 61, 62, 63, 64, 65, 66, 67, 68, 69, 93, 94, 95] (by decide +kernel) (by decide +kernel)
set_option maxRecDepth 20000 in
theorem gX9_get_X9_cellFault : GoodIn wsX9_get (va_wsS RX9 83 yX9_cellFault wsX9_cellFault) := goodIn_app (goodIn_of _ (by decide +kernel)) ggX9_get_X9_cellFault
set_option maxRecDepth 20000 in
theorem ggX9_get_X9_asNumbers : GoodIn wsX9_get wsX9_asNumbers := goodIn_r _ [72, 73] (by decide +kernel) (by decide +kernel)
set_option maxRecDepth 20000 in
theorem gX9_get_X9_asNumbers : GoodIn wsX9_get (va_wsS RX9 87 yX9_asNumbers wsX9_asNumbers) := goodIn_app (goodIn_of _ (by decide +kernel)) ggX9_get_X9_asNumbers
set_option maxRecDepth 20000 in
theorem ggX9_get_X9_failedLong : GoodIn wsX9_get wsX9_failedLong := goodIn_r _ [77, 78, 1, 87, 88, 89, 90, 91, 92] (by decide +kernel) (by decide +kernel)
set_option maxRecDepth 20000 in
theorem gX9_get_X9_failedLong : GoodIn wsX9_get (wsV RX9 91 RX9 yX9_failedLong wsX9_failedLong) := goodIn_app (goodIn_of _ (by decide +kernel)) ggX9_get_X9_failedLong
set_option maxRecDepth 20000 in
theorem ggX9_get_X0_number : GoodIn wsX9_get wsX0_number := goodIn_r _ [83, 59, 93] (by decide +kernel) (by decide +kernel)
set_option maxRecDepth 20000 in
theorem gX9_get_X0_number_u95X0 : GoodIn wsX9_get (va_wsU RX9 95 RX0 "KeptTerms$Numbers" ⟨"KeptTerms$Numbers", "number", "(I)I"⟩ yX0_number wsX0_number) := goodIn_app (goodIn_of _ (by decide +kernel)) ggX9_get_X0_number
set_option maxRecDepth 20000 in
theorem ggX9_get_X6_number : GoodIn wsX9_get wsX6_number := goodIn_r _ [86, 67, 95] (by decide +kernel) (by decide +kernel)
set_option maxRecDepth 20000 in
theorem gX9_get_X6_number_u95X6 : GoodIn wsX9_get (va_wsU RX9 95 RX6 "KeptTerms$Numbers" ⟨"KeptTerms$Numbers", "number", "(I)I"⟩ yX6_number wsX6_number) := goodIn_app (goodIn_of _ (by decide +kernel)) ggX9_get_X6_number
theorem dX9_get_0 : decode cX9_get 0 = .ok (.iload_n 1, 1) := by decide +kernel
theorem dX9_get_1 : decode cX9_get 1 = .ok (.invokestatic 32, 3) := by decide +kernel
theorem dX9_get_4 : decode cX9_get 4 = .ok (.ifCond .eq 10, 3) := by decide +kernel
theorem dX9_get_7 : decode cX9_get 7 = .ok (.iload_n 2, 1) := by decide +kernel
theorem dX9_get_8 : decode cX9_get 8 = .ok (.invokestatic 78, 3) := by decide +kernel
theorem dX9_get_11 : decode cX9_get 11 = .ok (.ifCond .ne 7, 3) := by decide +kernel
theorem dX9_get_14 : decode cX9_get 14 = .ok (.ldc2_w 81, 3) := by decide +kernel
theorem dX9_get_17 : decode cX9_get 17 = .ok (.lreturn, 1) := by decide +kernel
theorem dX9_get_18 : decode cX9_get 18 = .ok (.aload_n 0, 1) := by decide +kernel
theorem dX9_get_19 : decode cX9_get 19 = .ok (.getfield 13, 3) := by decide +kernel
theorem dX9_get_22 : decode cX9_get 22 = .ok (.iload_n 1, 1) := by decide +kernel
theorem dX9_get_23 : decode cX9_get 23 = .ok (.aaload, 1) := by decide +kernel
theorem dX9_get_24 : decode cX9_get 24 = .ok (.iload_n 2, 1) := by decide +kernel
theorem dX9_get_25 : decode cX9_get 25 = .ok (.iload_n 3, 1) := by decide +kernel
theorem dX9_get_26 : decode cX9_get 26 = .ok (.invokestatic 83, 3) := by decide +kernel
theorem dX9_get_29 : decode cX9_get 29 = .ok (.istore 4, 2) := by decide +kernel
theorem dX9_get_31 : decode cX9_get 31 = .ok (.aload_n 0, 1) := by decide +kernel
theorem dX9_get_32 : decode cX9_get 32 = .ok (.getfield 13, 3) := by decide +kernel
theorem dX9_get_35 : decode cX9_get 35 = .ok (.iload_n 1, 1) := by decide +kernel
theorem dX9_get_36 : decode cX9_get 36 = .ok (.aaload, 1) := by decide +kernel
theorem dX9_get_37 : decode cX9_get 37 = .ok (.invokestatic 87, 3) := by decide +kernel
theorem dX9_get_40 : decode cX9_get 40 = .ok (.astore 5, 2) := by decide +kernel
theorem dX9_get_42 : decode cX9_get 42 = .ok (.iload 4, 2) := by decide +kernel
theorem dX9_get_44 : decode cX9_get 44 = .ok (.ifCond .ne 8, 3) := by decide +kernel
theorem dX9_get_47 : decode cX9_get 47 = .ok (.aload 5, 2) := by decide +kernel
theorem dX9_get_49 : decode cX9_get 49 = .ok (.ifnonnull 10, 3) := by decide +kernel
theorem dX9_get_52 : decode cX9_get 52 = .ok (.aload_n 0, 1) := by decide +kernel
theorem dX9_get_53 : decode cX9_get 53 = .ok (.iload 4, 2) := by decide +kernel
theorem dX9_get_55 : decode cX9_get 55 = .ok (.invokevirtual 91, 3) := by decide +kernel
theorem dX9_get_58 : decode cX9_get 58 = .ok (.lreturn, 1) := by decide +kernel
theorem dX9_get_59 : decode cX9_get 59 = .ok (.aload 5, 2) := by decide +kernel
theorem dX9_get_61 : decode cX9_get 61 = .ok (.iload_n 3, 1) := by decide +kernel
theorem dX9_get_62 : decode cX9_get 62 = .ok (.invokevirtual 95, 3) := by decide +kernel
theorem dX9_get_65 : decode cX9_get 65 = .ok (.i2l, 1) := by decide +kernel
theorem dX9_get_66 : decode cX9_get 66 = .ok (.lreturn, 1) := by decide +kernel
set_option maxRecDepth 20000 in
theorem ggX9_set_X9_isPlace : GoodIn wsX9_set wsX9_isPlace := goodIn_r _ [5] (by decide +kernel) (by decide +kernel)
set_option maxRecDepth 20000 in
theorem gX9_set_X9_isPlace : GoodIn wsX9_set (va_wsS RX9 32 yX9_isPlace wsX9_isPlace) := goodIn_app (goodIn_of _ (by decide +kernel)) ggX9_set_X9_isPlace
set_option maxRecDepth 20000 in
theorem ggX9_set_X9_isNumbersType : GoodIn wsX9_set wsX9_isNumbersType := goodIn_r _ [8] (by decide +kernel) (by decide +kernel)
set_option maxRecDepth 20000 in
theorem gX9_set_X9_isNumbersType : GoodIn wsX9_set (va_wsS RX9 78 yX9_isNumbersType wsX9_isNumbersType) := goodIn_app (goodIn_of _ (by decide +kernel)) ggX9_set_X9_isNumbersType
set_option maxRecDepth 20000 in
theorem ggX9_set_X9_cellFault : GoodIn wsX9_set wsX9_cellFault := goodIn_r _ [11, 12, 13, 4, 14, 15, 16, 17, 18, 19, 20, 21, 22, 23, 24, 25, 26, 27, 28, 29, 30, 31, 32, 33, 34, 35, 36, 37, 38, 39, 40, 41, 42, 43, 44, 45, 46, 47, 48, 49, 50, 51, 52, 53, 54, 55, 56, 57, 58, 59, 60, 61, 62, 63, 64, 65, 66, 67, 68, 92, 93, 94] (by decide +kernel) (by decide +kernel)
set_option maxRecDepth 20000 in
theorem gX9_set_X9_cellFault : GoodIn wsX9_set (va_wsS RX9 83 yX9_cellFault wsX9_cellFault) := goodIn_app (goodIn_of _ (by decide +kernel)) ggX9_set_X9_cellFault
set_option maxRecDepth 20000 in
theorem ggX9_set_X9_asNumbers : GoodIn wsX9_set wsX9_asNumbers := goodIn_r _ [71, 72] (by decide +kernel) (by decide +kernel)
set_option maxRecDepth 20000 in
theorem gX9_set_X9_asNumbers : GoodIn wsX9_set (va_wsS RX9 87 yX9_asNumbers wsX9_asNumbers) := goodIn_app (goodIn_of _ (by decide +kernel)) ggX9_set_X9_asNumbers
set_option maxRecDepth 20000 in
theorem ggX9_set_X9_failed : GoodIn wsX9_set wsX9_failed := goodIn_r _ [76, 77, 86, 87, 88, 89, 90, 91] (by decide +kernel) (by decide +kernel)
set_option maxRecDepth 20000 in
theorem gX9_set_X9_failed : GoodIn wsX9_set (wsV RX9 36 RX9 yX9_failed wsX9_failed) := goodIn_app (goodIn_of _ (by decide +kernel)) ggX9_set_X9_failed
set_option maxRecDepth 20000 in
theorem ggX9_set_X0_putNumber : GoodIn wsX9_set wsX0_putNumber := goodIn_r _ [82, 58, 92] (by decide +kernel) (by decide +kernel)
set_option maxRecDepth 20000 in
theorem gX9_set_X0_putNumber_u100X0 : GoodIn wsX9_set (va_wsU RX9 100 RX0 "KeptTerms$Numbers" ⟨"KeptTerms$Numbers", "putNumber", "(II)V"⟩ yX0_putNumber wsX0_putNumber) := goodIn_app (goodIn_of _ (by decide +kernel)) ggX9_set_X0_putNumber
set_option maxRecDepth 20000 in
theorem ggX9_set_X6_putNumber : GoodIn wsX9_set wsX6_putNumber := goodIn_r _ [85, 66, 94] (by decide +kernel) (by decide +kernel)
set_option maxRecDepth 20000 in
theorem gX9_set_X6_putNumber_u100X6 : GoodIn wsX9_set (va_wsU RX9 100 RX6 "KeptTerms$Numbers" ⟨"KeptTerms$Numbers", "putNumber", "(II)V"⟩ yX6_putNumber wsX6_putNumber) := goodIn_app (goodIn_of _ (by decide +kernel)) ggX9_set_X6_putNumber
theorem dX9_set_0 : decode cX9_set 0 = .ok (.iload_n 1, 1) := by decide +kernel
theorem dX9_set_1 : decode cX9_set 1 = .ok (.invokestatic 32, 3) := by decide +kernel
theorem dX9_set_4 : decode cX9_set 4 = .ok (.ifCond .ne 5, 3) := by decide +kernel
theorem dX9_set_7 : decode cX9_set 7 = .ok (.iconst (-1), 1) := by decide +kernel
theorem dX9_set_8 : decode cX9_set 8 = .ok (.ireturn, 1) := by decide +kernel
theorem dX9_set_9 : decode cX9_set 9 = .ok (.iload_n 2, 1) := by decide +kernel
theorem dX9_set_10 : decode cX9_set 10 = .ok (.invokestatic 78, 3) := by decide +kernel
theorem dX9_set_13 : decode cX9_set 13 = .ok (.ifCond .ne 6, 3) := by decide +kernel
theorem dX9_set_16 : decode cX9_set 16 = .ok (.bipush (-2), 2) := by decide +kernel
theorem dX9_set_18 : decode cX9_set 18 = .ok (.ireturn, 1) := by decide +kernel
theorem dX9_set_19 : decode cX9_set 19 = .ok (.aload_n 0, 1) := by decide +kernel
theorem dX9_set_20 : decode cX9_set 20 = .ok (.getfield 13, 3) := by decide +kernel
theorem dX9_set_23 : decode cX9_set 23 = .ok (.iload_n 1, 1) := by decide +kernel
theorem dX9_set_24 : decode cX9_set 24 = .ok (.aaload, 1) := by decide +kernel
theorem dX9_set_25 : decode cX9_set 25 = .ok (.iload_n 2, 1) := by decide +kernel
theorem dX9_set_26 : decode cX9_set 26 = .ok (.iload_n 3, 1) := by decide +kernel
theorem dX9_set_27 : decode cX9_set 27 = .ok (.invokestatic 83, 3) := by decide +kernel
theorem dX9_set_30 : decode cX9_set 30 = .ok (.istore 5, 2) := by decide +kernel
theorem dX9_set_32 : decode cX9_set 32 = .ok (.aload_n 0, 1) := by decide +kernel
theorem dX9_set_33 : decode cX9_set 33 = .ok (.getfield 13, 3) := by decide +kernel
theorem dX9_set_36 : decode cX9_set 36 = .ok (.iload_n 1, 1) := by decide +kernel
theorem dX9_set_37 : decode cX9_set 37 = .ok (.aaload, 1) := by decide +kernel
theorem dX9_set_38 : decode cX9_set 38 = .ok (.invokestatic 87, 3) := by decide +kernel
theorem dX9_set_41 : decode cX9_set 41 = .ok (.astore 6, 2) := by decide +kernel
theorem dX9_set_43 : decode cX9_set 43 = .ok (.iload 5, 2) := by decide +kernel
theorem dX9_set_45 : decode cX9_set 45 = .ok (.ifCond .ne 8, 3) := by decide +kernel
theorem dX9_set_48 : decode cX9_set 48 = .ok (.aload 6, 2) := by decide +kernel
theorem dX9_set_50 : decode cX9_set 50 = .ok (.ifnonnull 10, 3) := by decide +kernel
theorem dX9_set_53 : decode cX9_set 53 = .ok (.aload_n 0, 1) := by decide +kernel
theorem dX9_set_54 : decode cX9_set 54 = .ok (.iload 5, 2) := by decide +kernel
theorem dX9_set_56 : decode cX9_set 56 = .ok (.invokevirtual 36, 3) := by decide +kernel
theorem dX9_set_59 : decode cX9_set 59 = .ok (.ireturn, 1) := by decide +kernel
theorem dX9_set_60 : decode cX9_set 60 = .ok (.aload 6, 2) := by decide +kernel
theorem dX9_set_62 : decode cX9_set 62 = .ok (.iload_n 3, 1) := by decide +kernel
theorem dX9_set_63 : decode cX9_set 63 = .ok (.iload 4, 2) := by decide +kernel
theorem dX9_set_65 : decode cX9_set 65 = .ok (.invokevirtual 100, 3) := by decide +kernel
theorem dX9_set_68 : decode cX9_set 68 = .ok (.iconst 1, 1) := by decide +kernel
theorem dX9_set_69 : decode cX9_set 69 = .ok (.ireturn, 1) := by decide +kernel
set_option maxRecDepth 20000 in
theorem ggX9_lay_X9_isPlace : GoodIn wsX9_lay wsX9_isPlace := goodIn_r _ [5] (by decide +kernel) (by decide +kernel)
set_option maxRecDepth 20000 in
theorem gX9_lay_X9_isPlace : GoodIn wsX9_lay (va_wsS RX9 32 yX9_isPlace wsX9_isPlace) := goodIn_app (goodIn_of _ (by decide +kernel)) ggX9_lay_X9_isPlace
set_option maxRecDepth 20000 in
theorem ggX9_lay_X9_mayBeCast : GoodIn wsX9_lay wsX9_mayBeCast := goodIn_r _ [8, 9, 10, 4, 11, 12, 13, 14, 15, 16, 17, 18, 19, 20, 21, 22, 23, 24, 25, 26, 27, 28, 29, 30, 31, 32, 33, 34, 35, 36] (by decide +kernel) (by decide +kernel)
set_option maxRecDepth 20000 in
theorem gX9_lay_X9_mayBeCast : GoodIn wsX9_lay (va_wsS RX9 65 yX9_mayBeCast wsX9_mayBeCast) := goodIn_app (goodIn_of _ (by decide +kernel)) ggX9_lay_X9_mayBeCast
set_option maxRecDepth 20000 in
theorem ggX9_lay_X9_failed : GoodIn wsX9_lay wsX9_failed := goodIn_r _ [40, 41, 79, 80, 81, 82, 83, 84] (by decide +kernel) (by decide +kernel)
set_option maxRecDepth 20000 in
theorem gX9_lay_X9_failed : GoodIn wsX9_lay (wsV RX9 36 RX9 yX9_failed wsX9_failed) := goodIn_app (goodIn_of _ (by decide +kernel)) ggX9_lay_X9_failed
set_option maxRecDepth 20000 in
theorem ggX9_lay_X9_cellFault : GoodIn wsX9_lay wsX9_cellFault := goodIn_r _ [44, 6, 7, 4, 8, 9, 10, 11, 12, 13, 14, 15, 16, 17, 18, 19, 20, 21, 22, 23, 24, 25, 26, 27, 28, 29, 30, 31, 32, 33, 34, 35, 36, 45, 46, 47, 48, 49, 50, 51, 52, 53, 54, 55, 56, 57, 58, 59, 60, 61, 62, 63, 64, 65, 66, 67, 68, 69, 70, 86, 85, 87] (by decide +kernel) (by decide +kernel)
set_option maxRecDepth 20000 in
theorem gX9_lay_X9_cellFault : GoodIn wsX9_lay (va_wsS RX9 83 yX9_cellFault wsX9_cellFault) := goodIn_app (goodIn_of _ (by decide +kernel)) ggX9_lay_X9_cellFault
set_option maxRecDepth 20000 in
theorem ggX9_lay_X9_asRows : GoodIn wsX9_lay wsX9_asRows := goodIn_r _ [73, 74] (by decide +kernel) (by decide +kernel)
set_option maxRecDepth 20000 in
theorem gX9_lay_X9_asRows : GoodIn wsX9_lay (va_wsS RX9 104 yX9_asRows wsX9_asRows) := goodIn_app (goodIn_of _ (by decide +kernel)) ggX9_lay_X9_asRows
set_option maxRecDepth 20000 in
theorem ggX9_lay_X9_asBytes : GoodIn wsX9_lay wsX9_asBytes := goodIn_r _ [77, 78] (by decide +kernel) (by decide +kernel)
set_option maxRecDepth 20000 in
theorem gX9_lay_X9_asBytes : GoodIn wsX9_lay (va_wsS RX9 114 yX9_asBytes wsX9_asBytes) := goodIn_app (goodIn_of _ (by decide +kernel)) ggX9_lay_X9_asBytes
theorem dX9_lay_0 : decode cX9_lay 0 = .ok (.iload_n 1, 1) := by decide +kernel
theorem dX9_lay_1 : decode cX9_lay 1 = .ok (.invokestatic 32, 3) := by decide +kernel
theorem dX9_lay_4 : decode cX9_lay 4 = .ok (.ifCond .eq 10, 3) := by decide +kernel
theorem dX9_lay_7 : decode cX9_lay 7 = .ok (.iload_n 3, 1) := by decide +kernel
theorem dX9_lay_8 : decode cX9_lay 8 = .ok (.invokestatic 32, 3) := by decide +kernel
theorem dX9_lay_11 : decode cX9_lay 11 = .ok (.ifCond .ne 5, 3) := by decide +kernel
theorem dX9_lay_14 : decode cX9_lay 14 = .ok (.iconst (-1), 1) := by decide +kernel
theorem dX9_lay_15 : decode cX9_lay 15 = .ok (.ireturn, 1) := by decide +kernel
theorem dX9_lay_16 : decode cX9_lay 16 = .ok (.aload_n 0, 1) := by decide +kernel
theorem dX9_lay_17 : decode cX9_lay 17 = .ok (.getfield 13, 3) := by decide +kernel
theorem dX9_lay_20 : decode cX9_lay 20 = .ok (.iload_n 1, 1) := by decide +kernel
theorem dX9_lay_21 : decode cX9_lay 21 = .ok (.aaload, 1) := by decide +kernel
theorem dX9_lay_22 : decode cX9_lay 22 = .ok (.iconst 3, 1) := by decide +kernel
theorem dX9_lay_23 : decode cX9_lay 23 = .ok (.invokestatic 65, 3) := by decide +kernel
theorem dX9_lay_26 : decode cX9_lay 26 = .ok (.ifCond .eq 16, 3) := by decide +kernel
theorem dX9_lay_29 : decode cX9_lay 29 = .ok (.aload_n 0, 1) := by decide +kernel
theorem dX9_lay_30 : decode cX9_lay 30 = .ok (.getfield 13, 3) := by decide +kernel
theorem dX9_lay_33 : decode cX9_lay 33 = .ok (.iload_n 3, 1) := by decide +kernel
theorem dX9_lay_34 : decode cX9_lay 34 = .ok (.aaload, 1) := by decide +kernel
theorem dX9_lay_35 : decode cX9_lay 35 = .ok (.iconst 1, 1) := by decide +kernel
theorem dX9_lay_36 : decode cX9_lay 36 = .ok (.invokestatic 65, 3) := by decide +kernel
theorem dX9_lay_39 : decode cX9_lay 39 = .ok (.ifCond .ne 9, 3) := by decide +kernel
theorem dX9_lay_42 : decode cX9_lay 42 = .ok (.aload_n 0, 1) := by decide +kernel
theorem dX9_lay_43 : decode cX9_lay 43 = .ok (.iconst 2, 1) := by decide +kernel
theorem dX9_lay_44 : decode cX9_lay 44 = .ok (.invokevirtual 36, 3) := by decide +kernel
theorem dX9_lay_47 : decode cX9_lay 47 = .ok (.ireturn, 1) := by decide +kernel
theorem dX9_lay_48 : decode cX9_lay 48 = .ok (.aload_n 0, 1) := by decide +kernel
theorem dX9_lay_49 : decode cX9_lay 49 = .ok (.getfield 13, 3) := by decide +kernel
theorem dX9_lay_52 : decode cX9_lay 52 = .ok (.iload_n 1, 1) := by decide +kernel
theorem dX9_lay_53 : decode cX9_lay 53 = .ok (.aaload, 1) := by decide +kernel
theorem dX9_lay_54 : decode cX9_lay 54 = .ok (.iconst 3, 1) := by decide +kernel
theorem dX9_lay_55 : decode cX9_lay 55 = .ok (.iload_n 2, 1) := by decide +kernel
theorem dX9_lay_56 : decode cX9_lay 56 = .ok (.invokestatic 83, 3) := by decide +kernel
theorem dX9_lay_59 : decode cX9_lay 59 = .ok (.istore 4, 2) := by decide +kernel
theorem dX9_lay_61 : decode cX9_lay 61 = .ok (.aload_n 0, 1) := by decide +kernel
theorem dX9_lay_62 : decode cX9_lay 62 = .ok (.getfield 13, 3) := by decide +kernel
theorem dX9_lay_65 : decode cX9_lay 65 = .ok (.iload_n 1, 1) := by decide +kernel
theorem dX9_lay_66 : decode cX9_lay 66 = .ok (.aaload, 1) := by decide +kernel
theorem dX9_lay_67 : decode cX9_lay 67 = .ok (.invokestatic 104, 3) := by decide +kernel
theorem dX9_lay_70 : decode cX9_lay 70 = .ok (.astore 5, 2) := by decide +kernel
theorem dX9_lay_72 : decode cX9_lay 72 = .ok (.iload 4, 2) := by decide +kernel
theorem dX9_lay_74 : decode cX9_lay 74 = .ok (.ifCond .ne 8, 3) := by decide +kernel
theorem dX9_lay_77 : decode cX9_lay 77 = .ok (.aload 5, 2) := by decide +kernel
theorem dX9_lay_79 : decode cX9_lay 79 = .ok (.ifnonnull 10, 3) := by decide +kernel
theorem dX9_lay_82 : decode cX9_lay 82 = .ok (.aload_n 0, 1) := by decide +kernel
theorem dX9_lay_83 : decode cX9_lay 83 = .ok (.iload 4, 2) := by decide +kernel
theorem dX9_lay_85 : decode cX9_lay 85 = .ok (.invokevirtual 36, 3) := by decide +kernel
theorem dX9_lay_88 : decode cX9_lay 88 = .ok (.ireturn, 1) := by decide +kernel
theorem dX9_lay_89 : decode cX9_lay 89 = .ok (.aload 5, 2) := by decide +kernel
theorem dX9_lay_91 : decode cX9_lay 91 = .ok (.getfield 108, 3) := by decide +kernel
theorem dX9_lay_94 : decode cX9_lay 94 = .ok (.iload_n 2, 1) := by decide +kernel
theorem dX9_lay_95 : decode cX9_lay 95 = .ok (.aload_n 0, 1) := by decide +kernel
theorem dX9_lay_96 : decode cX9_lay 96 = .ok (.getfield 13, 3) := by decide +kernel
theorem dX9_lay_99 : decode cX9_lay 99 = .ok (.iload_n 3, 1) := by decide +kernel
theorem dX9_lay_100 : decode cX9_lay 100 = .ok (.aaload, 1) := by decide +kernel
theorem dX9_lay_101 : decode cX9_lay 101 = .ok (.invokestatic 114, 3) := by decide +kernel
theorem dX9_lay_104 : decode cX9_lay 104 = .ok (.aastore, 1) := by decide +kernel
theorem dX9_lay_105 : decode cX9_lay 105 = .ok (.iconst 1, 1) := by decide +kernel
theorem dX9_lay_106 : decode cX9_lay 106 = .ok (.ireturn, 1) := by decide +kernel
set_option maxRecDepth 20000 in
theorem ggX9_take_X9_isPlace : GoodIn wsX9_take wsX9_isPlace := goodIn_r _ [5] (by decide +kernel) (by decide +kernel)
set_option maxRecDepth 20000 in
theorem gX9_take_X9_isPlace : GoodIn wsX9_take (va_wsS RX9 32 yX9_isPlace wsX9_isPlace) := goodIn_app (goodIn_of _ (by decide +kernel)) ggX9_take_X9_isPlace
set_option maxRecDepth 20000 in
theorem ggX9_take_X9_cellFault : GoodIn wsX9_take wsX9_cellFault := goodIn_r _ [8, 9, 10, 4, 11, 12, 13, 14, 15, 16, 17, 18, 19, 20, 21, 22, 23, 24, 25, 26, 27, 28, 29, 30, 31, 32, 33, 34, 35, 36, 37, 38, 39, 40, 41, 42, 43, 44, 45, 46, 47, 48, 49, 50, 51, 52, 53, 54, 55, 56, 57, 58, 59, 60, 61, 62, 63, 64, 65, 84, 83, 85] (by decide +kernel) (by decide +kernel)
set_option maxRecDepth 20000 in
theorem gX9_take_X9_cellFault : GoodIn wsX9_take (va_wsS RX9 83 yX9_cellFault wsX9_cellFault) := goodIn_app (goodIn_of _ (by decide +kernel)) ggX9_take_X9_cellFault
set_option maxRecDepth 20000 in
theorem ggX9_take_X9_asRows : GoodIn wsX9_take wsX9_asRows := goodIn_r _ [68, 69] (by decide +kernel) (by decide +kernel)
set_option maxRecDepth 20000 in
theorem gX9_take_X9_asRows : GoodIn wsX9_take (va_wsS RX9 104 yX9_asRows wsX9_asRows) := goodIn_app (goodIn_of _ (by decide +kernel)) ggX9_take_X9_asRows
set_option maxRecDepth 20000 in
theorem ggX9_take_X9_failed : GoodIn wsX9_take wsX9_failed := goodIn_r _ [73, 74, 77, 78, 79, 80, 81, 82] (by decide +kernel) (by decide +kernel)
set_option maxRecDepth 20000 in
theorem gX9_take_X9_failed : GoodIn wsX9_take (wsV RX9 36 RX9 yX9_failed wsX9_failed) := goodIn_app (goodIn_of _ (by decide +kernel)) ggX9_take_X9_failed
set_option maxRecDepth 20000 in
theorem ggX9_take_X0_cellCount : GoodIn wsX9_take wsX0_cellCount := goodIn_r _ [54, 55, 84] (by decide +kernel) (by decide +kernel)
set_option maxRecDepth 20000 in
theorem gX9_take_X0_cellCount : GoodIn wsX9_take (wsV RX9 118 RX0 yX0_cellCount wsX0_cellCount) := goodIn_app (goodIn_of _ (by decide +kernel)) ggX9_take_X0_cellCount
theorem dX9_take_0 : decode cX9_take 0 = .ok (.iload_n 1, 1) := by decide +kernel
theorem dX9_take_1 : decode cX9_take 1 = .ok (.invokestatic 32, 3) := by decide +kernel
theorem dX9_take_4 : decode cX9_take 4 = .ok (.ifCond .eq 10, 3) := by decide +kernel
theorem dX9_take_7 : decode cX9_take 7 = .ok (.iload_n 2, 1) := by decide +kernel
theorem dX9_take_8 : decode cX9_take 8 = .ok (.invokestatic 32, 3) := by decide +kernel
theorem dX9_take_11 : decode cX9_take 11 = .ok (.ifCond .ne 5, 3) := by decide +kernel
theorem dX9_take_14 : decode cX9_take 14 = .ok (.iconst (-1), 1) := by decide +kernel
theorem dX9_take_15 : decode cX9_take 15 = .ok (.ireturn, 1) := by decide +kernel
theorem dX9_take_16 : decode cX9_take 16 = .ok (.aload_n 0, 1) := by decide +kernel
theorem dX9_take_17 : decode cX9_take 17 = .ok (.getfield 13, 3) := by decide +kernel
theorem dX9_take_20 : decode cX9_take 20 = .ok (.iload_n 2, 1) := by decide +kernel
theorem dX9_take_21 : decode cX9_take 21 = .ok (.aaload, 1) := by decide +kernel
theorem dX9_take_22 : decode cX9_take 22 = .ok (.iconst 3, 1) := by decide +kernel
theorem dX9_take_23 : decode cX9_take 23 = .ok (.iload_n 3, 1) := by decide +kernel
theorem dX9_take_24 : decode cX9_take 24 = .ok (.invokestatic 83, 3) := by decide +kernel
theorem dX9_take_27 : decode cX9_take 27 = .ok (.istore 4, 2) := by decide +kernel
theorem dX9_take_29 : decode cX9_take 29 = .ok (.aload_n 0, 1) := by decide +kernel
theorem dX9_take_30 : decode cX9_take 30 = .ok (.getfield 13, 3) := by decide +kernel
theorem dX9_take_33 : decode cX9_take 33 = .ok (.iload_n 2, 1) := by decide +kernel
theorem dX9_take_34 : decode cX9_take 34 = .ok (.aaload, 1) := by decide +kernel
theorem dX9_take_35 : decode cX9_take 35 = .ok (.invokestatic 104, 3) := by decide +kernel
theorem dX9_take_38 : decode cX9_take 38 = .ok (.astore 5, 2) := by decide +kernel
theorem dX9_take_40 : decode cX9_take 40 = .ok (.iload 4, 2) := by decide +kernel
theorem dX9_take_42 : decode cX9_take 42 = .ok (.ifCond .ne 8, 3) := by decide +kernel
theorem dX9_take_45 : decode cX9_take 45 = .ok (.aload 5, 2) := by decide +kernel
theorem dX9_take_47 : decode cX9_take 47 = .ok (.ifnonnull 10, 3) := by decide +kernel
theorem dX9_take_50 : decode cX9_take 50 = .ok (.aload_n 0, 1) := by decide +kernel
theorem dX9_take_51 : decode cX9_take 51 = .ok (.iload 4, 2) := by decide +kernel
theorem dX9_take_53 : decode cX9_take 53 = .ok (.invokevirtual 36, 3) := by decide +kernel
theorem dX9_take_56 : decode cX9_take 56 = .ok (.ireturn, 1) := by decide +kernel
theorem dX9_take_57 : decode cX9_take 57 = .ok (.aload 5, 2) := by decide +kernel
theorem dX9_take_59 : decode cX9_take 59 = .ok (.getfield 108, 3) := by decide +kernel
theorem dX9_take_62 : decode cX9_take 62 = .ok (.iload_n 3, 1) := by decide +kernel
theorem dX9_take_63 : decode cX9_take 63 = .ok (.aaload, 1) := by decide +kernel
theorem dX9_take_64 : decode cX9_take 64 = .ok (.astore 6, 2) := by decide +kernel
theorem dX9_take_66 : decode cX9_take 66 = .ok (.aload_n 0, 1) := by decide +kernel
theorem dX9_take_67 : decode cX9_take 67 = .ok (.getfield 13, 3) := by decide +kernel
theorem dX9_take_70 : decode cX9_take 70 = .ok (.iload_n 1, 1) := by decide +kernel
theorem dX9_take_71 : decode cX9_take 71 = .ok (.aload 6, 2) := by decide +kernel
theorem dX9_take_73 : decode cX9_take 73 = .ok (.aastore, 1) := by decide +kernel
theorem dX9_take_74 : decode cX9_take 74 = .ok (.aload 6, 2) := by decide +kernel
theorem dX9_take_76 : decode cX9_take 76 = .ok (.ifnonnull 8, 3) := by decide +kernel
theorem dX9_take_79 : decode cX9_take 79 = .ok (.bipush (-3), 2) := by decide +kernel
theorem dX9_take_81 : decode cX9_take 81 = .ok (.goto 8, 3) := by decide +kernel
theorem dX9_take_84 : decode cX9_take 84 = .ok (.aload 6, 2) := by decide +kernel
theorem dX9_take_86 : decode cX9_take 86 = .ok (.invokevirtual 118, 3) := by decide +kernel
theorem dX9_take_89 : decode cX9_take 89 = .ok (.ireturn, 1) := by decide +kernel
set_option maxRecDepth 20000 in
theorem ggX9_cell_X9_isPlace : GoodIn wsX9_cell wsX9_isPlace := goodIn_r _ [6] (by decide +kernel) (by decide +kernel)
set_option maxRecDepth 20000 in
theorem gX9_cell_X9_isPlace : GoodIn wsX9_cell (va_wsS RX9 32 yX9_isPlace wsX9_isPlace) := goodIn_app (goodIn_of _ (by decide +kernel)) ggX9_cell_X9_isPlace
set_option maxRecDepth 20000 in
theorem ggX9_cell_X9_cellFault : GoodIn wsX9_cell wsX9_cellFault := goodIn_r _ [9, 10, 11, 5, 12, 13, 14, 15, 16, 17, 18, 19, 20, 21, 22, 23, 24, 25, 26, 27, 28, 29, 30, 31, 32, 33, 34, 35, 36, 37, 38, 39, 40, 41, 42, 43, 44, 45, 46, 47, 48, 49, 50, 51, 52, 53, 54, 55, 56, 57, 58, 59, 60, 61, 62, 63, 64, 65, 66, 90, 89, 91] (by decide +kernel) (by decide +kernel)
set_option maxRecDepth 20000 in
theorem gX9_cell_X9_cellFault : GoodIn wsX9_cell (va_wsS RX9 83 yX9_cellFault wsX9_cellFault) := goodIn_app (goodIn_of _ (by decide +kernel)) ggX9_cell_X9_cellFault
set_option maxRecDepth 20000 in
theorem ggX9_cell_X9_asRows : GoodIn wsX9_cell wsX9_asRows := goodIn_r _ [69, 70] (by decide +kernel) (by decide +kernel)
set_option maxRecDepth 20000 in
theorem gX9_cell_X9_asRows : GoodIn wsX9_cell (va_wsS RX9 104 yX9_asRows wsX9_asRows) := goodIn_app (goodIn_of _ (by decide +kernel)) ggX9_cell_X9_asRows
set_option maxRecDepth 20000 in
theorem ggX9_cell_X9_failedLong : GoodIn wsX9_cell wsX9_failedLong := goodIn_r _ [74, 75, 1, 83, 84, 85, 86, 87, 88] (by decide +kernel) (by decide +kernel)
set_option maxRecDepth 20000 in
theorem gX9_cell_X9_failedLong : GoodIn wsX9_cell (wsV RX9 91 RX9 yX9_failedLong wsX9_failedLong) := goodIn_app (goodIn_of _ (by decide +kernel)) ggX9_cell_X9_failedLong
set_option maxRecDepth 20000 in
theorem ggX9_cell_X4_hasCell : GoodIn wsX9_cell wsX4_hasCell := goodIn_r _ [50, 51, 52, 53, 54, 23, 55, 56, 57, 58, 31, 59, 60, 61, 62, 35, 63, 64, 90, 89, 91] (by decide +kernel) (by decide +kernel)
set_option maxRecDepth 20000 in
theorem gX9_cell_X4_hasCell_u121X0 : GoodIn wsX9_cell (va_wsU RX9 121 RX0 "KeptTerms$Row" ⟨"KeptTerms$Bytes", "hasCell", "(I)Z"⟩ yX4_hasCell wsX4_hasCell) := goodIn_app (goodIn_of _ (by decide +kernel)) ggX9_cell_X4_hasCell
set_option maxRecDepth 20000 in
theorem ggX9_cell_X0_number : GoodIn wsX9_cell wsX0_number := goodIn_r _ [82, 56, 90] (by decide +kernel) (by decide +kernel)
set_option maxRecDepth 20000 in
theorem gX9_cell_X0_number : GoodIn wsX9_cell (wsV RX9 124 RX0 yX0_number wsX0_number) := goodIn_app (goodIn_of _ (by decide +kernel)) ggX9_cell_X0_number
theorem dX9_cell_0 : decode cX9_cell 0 = .ok (.iload_n 1, 1) := by decide +kernel
theorem dX9_cell_1 : decode cX9_cell 1 = .ok (.invokestatic 32, 3) := by decide +kernel
theorem dX9_cell_4 : decode cX9_cell 4 = .ok (.ifCond .ne 7, 3) := by decide +kernel
theorem dX9_cell_7 : decode cX9_cell 7 = .ok (.ldc2_w 81, 3) := by decide +kernel
theorem dX9_cell_10 : decode cX9_cell 10 = .ok (.lreturn, 1) := by decide +kernel
theorem dX9_cell_11 : decode cX9_cell 11 = .ok (.aload_n 0, 1) := by decide +kernel
theorem dX9_cell_12 : decode cX9_cell 12 = .ok (.getfield 13, 3) := by decide +kernel
theorem dX9_cell_15 : decode cX9_cell 15 = .ok (.iload_n 1, 1) := by decide +kernel
theorem dX9_cell_16 : decode cX9_cell 16 = .ok (.aaload, 1) := by decide +kernel
theorem dX9_cell_17 : decode cX9_cell 17 = .ok (.iconst 3, 1) := by decide +kernel
theorem dX9_cell_18 : decode cX9_cell 18 = .ok (.iload_n 2, 1) := by decide +kernel
theorem dX9_cell_19 : decode cX9_cell 19 = .ok (.invokestatic 83, 3) := by decide +kernel
theorem dX9_cell_22 : decode cX9_cell 22 = .ok (.istore 4, 2) := by decide +kernel
theorem dX9_cell_24 : decode cX9_cell 24 = .ok (.aload_n 0, 1) := by decide +kernel
theorem dX9_cell_25 : decode cX9_cell 25 = .ok (.getfield 13, 3) := by decide +kernel
theorem dX9_cell_28 : decode cX9_cell 28 = .ok (.iload_n 1, 1) := by decide +kernel
theorem dX9_cell_29 : decode cX9_cell 29 = .ok (.aaload, 1) := by decide +kernel
theorem dX9_cell_30 : decode cX9_cell 30 = .ok (.invokestatic 104, 3) := by decide +kernel
theorem dX9_cell_33 : decode cX9_cell 33 = .ok (.astore 5, 2) := by decide +kernel
theorem dX9_cell_35 : decode cX9_cell 35 = .ok (.iload 4, 2) := by decide +kernel
theorem dX9_cell_37 : decode cX9_cell 37 = .ok (.ifCond .ne 8, 3) := by decide +kernel
theorem dX9_cell_40 : decode cX9_cell 40 = .ok (.aload 5, 2) := by decide +kernel
theorem dX9_cell_42 : decode cX9_cell 42 = .ok (.ifnonnull 10, 3) := by decide +kernel
theorem dX9_cell_45 : decode cX9_cell 45 = .ok (.aload_n 0, 1) := by decide +kernel
theorem dX9_cell_46 : decode cX9_cell 46 = .ok (.iload 4, 2) := by decide +kernel
theorem dX9_cell_48 : decode cX9_cell 48 = .ok (.invokevirtual 91, 3) := by decide +kernel
theorem dX9_cell_51 : decode cX9_cell 51 = .ok (.lreturn, 1) := by decide +kernel
theorem dX9_cell_52 : decode cX9_cell 52 = .ok (.aload 5, 2) := by decide +kernel
theorem dX9_cell_54 : decode cX9_cell 54 = .ok (.getfield 108, 3) := by decide +kernel
theorem dX9_cell_57 : decode cX9_cell 57 = .ok (.iload_n 2, 1) := by decide +kernel
theorem dX9_cell_58 : decode cX9_cell 58 = .ok (.aaload, 1) := by decide +kernel
theorem dX9_cell_59 : decode cX9_cell 59 = .ok (.astore 6, 2) := by decide +kernel
theorem dX9_cell_61 : decode cX9_cell 61 = .ok (.aload 6, 2) := by decide +kernel
theorem dX9_cell_63 : decode cX9_cell 63 = .ok (.ifnonnull 9, 3) := by decide +kernel
theorem dX9_cell_66 : decode cX9_cell 66 = .ok (.aload_n 0, 1) := by decide +kernel
theorem dX9_cell_67 : decode cX9_cell 67 = .ok (.iconst 1, 1) := by decide +kernel
theorem dX9_cell_68 : decode cX9_cell 68 = .ok (.invokevirtual 91, 3) := by decide +kernel
theorem dX9_cell_71 : decode cX9_cell 71 = .ok (.lreturn, 1) := by decide +kernel
theorem dX9_cell_72 : decode cX9_cell 72 = .ok (.aload 6, 2) := by decide +kernel
theorem dX9_cell_74 : decode cX9_cell 74 = .ok (.iload_n 3, 1) := by decide +kernel
theorem dX9_cell_75 : decode cX9_cell 75 = .ok (.invokevirtual 121, 3) := by decide +kernel
theorem dX9_cell_78 : decode cX9_cell 78 = .ok (.ifCond .eq 13, 3) := by decide +kernel
theorem dX9_cell_81 : decode cX9_cell 81 = .ok (.aload 6, 2) := by decide +kernel
theorem dX9_cell_83 : decode cX9_cell 83 = .ok (.iload_n 3, 1) := by decide +kernel
theorem dX9_cell_84 : decode cX9_cell 84 = .ok (.invokevirtual 124, 3) := by decide +kernel
theorem dX9_cell_87 : decode cX9_cell 87 = .ok (.i2l, 1) := by decide +kernel
theorem dX9_cell_88 : decode cX9_cell 88 = .ok (.goto 8, 3) := by decide +kernel
theorem dX9_cell_91 : decode cX9_cell 91 = .ok (.aload_n 0, 1) := by decide +kernel
theorem dX9_cell_92 : decode cX9_cell 92 = .ok (.iconst 3, 1) := by decide +kernel
theorem dX9_cell_93 : decode cX9_cell 93 = .ok (.invokevirtual 91, 3) := by decide +kernel
theorem dX9_cell_96 : decode cX9_cell 96 = .ok (.lreturn, 1) := by decide +kernel
set_option maxRecDepth 20000 in
theorem ggX9_copy_X9_isPlace : GoodIn wsX9_copy wsX9_isPlace := goodIn_r _ [5] (by decide +kernel) (by decide +kernel)
set_option maxRecDepth 20000 in
theorem gX9_copy_X9_isPlace : GoodIn wsX9_copy (va_wsS RX9 32 yX9_isPlace wsX9_isPlace) := goodIn_app (goodIn_of _ (by decide +kernel)) ggX9_copy_X9_isPlace
set_option maxRecDepth 20000 in
theorem ggX9_copy_X9_failed : GoodIn wsX9_copy wsX9_failed := goodIn_r _ [9, 10, 71, 72, 73, 74, 75, 76] (by decide +kernel) (by decide +kernel)
set_option maxRecDepth 20000 in
theorem gX9_copy_X9_failed : GoodIn wsX9_copy (wsV RX9 36 RX9 yX9_failed wsX9_failed) := goodIn_app (goodIn_of _ (by decide +kernel)) ggX9_copy_X9_failed
set_option maxRecDepth 20000 in
theorem ggX9_copy_X9_asRow : GoodIn wsX9_copy wsX9_asRow := goodIn_r _ [13, 14] (by decide +kernel) (by decide +kernel)
set_option maxRecDepth 20000 in
theorem gX9_copy_X9_asRow : GoodIn wsX9_copy (va_wsS RX9 68 yX9_asRow wsX9_asRow) := goodIn_app (goodIn_of _ (by decide +kernel)) ggX9_copy_X9_asRow
set_option maxRecDepth 20000 in
theorem ggX9_copy_X0_kind : GoodIn wsX9_copy wsX0_kind := goodIn_r _ [20] (by decide +kernel) (by decide +kernel)
set_option maxRecDepth 20000 in
theorem gX9_copy_X0_kind_u125X0 : GoodIn wsX9_copy (va_wsU RX9 125 RX0 "KeptTerms$Thing" ⟨"KeptTerms$Row", "kind", "()I"⟩ yX0_kind wsX0_kind) := goodIn_app (goodIn_of _ (by decide +kernel)) ggX9_copy_X0_kind
set_option maxRecDepth 20000 in
theorem ggX9_copy_X5_kind : GoodIn wsX9_copy wsX5_kind := goodIn_r _ [24] (by decide +kernel) (by decide +kernel)
set_option maxRecDepth 20000 in
theorem gX9_copy_X5_kind_u125X5 : GoodIn wsX9_copy (va_wsU RX9 125 RX5 "KeptTerms$Thing" ⟨"KeptTerms$Row", "kind", "()I"⟩ yX5_kind wsX5_kind) := goodIn_app (goodIn_of _ (by decide +kernel)) ggX9_copy_X5_kind
set_option maxRecDepth 20000 in
theorem ggX9_copy_X6_kind : GoodIn wsX9_copy wsX6_kind := goodIn_r _ [28] (by decide +kernel) (by decide +kernel)
set_option maxRecDepth 20000 in
theorem gX9_copy_X6_kind_u125X6 : GoodIn wsX9_copy (va_wsU RX9 125 RX6 "KeptTerms$Thing" ⟨"KeptTerms$Row", "kind", "()I"⟩ yX6_kind wsX6_kind) := goodIn_app (goodIn_of _ (by decide +kernel)) ggX9_copy_X6_kind
set_option maxRecDepth 20000 in
theorem ggX9_copy_X4_hasCells : GoodIn wsX9_copy wsX4_hasCells := goodIn_r _ [34, 35, 36, 37, 38, 19, 39, 40, 41, 42, 23, 43, 44, 45, 46, 27, 47, 48, 77, 78, 79] (by decide +kernel) (by decide +kernel)
set_option maxRecDepth 20000 in
theorem gX9_copy_X4_hasCells_u128X0 : GoodIn wsX9_copy (va_wsU RX9 128 RX0 "KeptTerms$Row" ⟨"KeptTerms$Row", "hasCells", "(II)Z"⟩ yX4_hasCells wsX4_hasCells) := goodIn_app (goodIn_of _ (by decide +kernel)) ggX9_copy_X4_hasCells
set_option maxRecDepth 20000 in
theorem gX9_copy_X4_hasCells_u128X5 : GoodIn wsX9_copy (va_wsU RX9 128 RX5 "KeptTerms$Row" ⟨"KeptTerms$Row", "hasCells", "(II)Z"⟩ yX4_hasCells wsX4_hasCells) := goodIn_app (goodIn_of _ (by decide +kernel)) ggX9_copy_X4_hasCells
set_option maxRecDepth 20000 in
theorem gX9_copy_X4_hasCells_u128X6 : GoodIn wsX9_copy (va_wsU RX9 128 RX6 "KeptTerms$Row" ⟨"KeptTerms$Row", "hasCells", "(II)Z"⟩ yX4_hasCells wsX4_hasCells) := goodIn_app (goodIn_of _ (by decide +kernel)) ggX9_copy_X4_hasCells
set_option maxRecDepth 20000 in
theorem ggX9_copy_X0_passTo : GoodIn wsX9_copy wsX0_passTo := goodIn_r _ [55, 56, 40, 57, 58, 59, 60, 77] (by decide +kernel) (by decide +kernel)
set_option maxRecDepth 20000 in
theorem gX9_copy_X0_passTo_u132X0 : GoodIn wsX9_copy (va_wsU RX9 132 RX0 "KeptTerms$Row" ⟨"KeptTerms$Row", "passTo", "(LKeptTerms$Row;III)V"⟩ yX0_passTo wsX0_passTo) := goodIn_app (goodIn_of _ (by decide +kernel)) ggX9_copy_X0_passTo
set_option maxRecDepth 20000 in
theorem ggX9_copy_X5_passTo : GoodIn wsX9_copy wsX5_passTo := goodIn_r _ [63, 64, 65, 44, 78] (by decide +kernel) (by decide +kernel)
set_option maxRecDepth 20000 in
theorem gX9_copy_X5_passTo_u132X5 : GoodIn wsX9_copy (va_wsU RX9 132 RX5 "KeptTerms$Row" ⟨"KeptTerms$Row", "passTo", "(LKeptTerms$Row;III)V"⟩ yX5_passTo wsX5_passTo) := goodIn_app (goodIn_of _ (by decide +kernel)) ggX9_copy_X5_passTo
set_option maxRecDepth 20000 in
theorem ggX9_copy_X6_passTo : GoodIn wsX9_copy wsX6_passTo := goodIn_r _ [68, 69, 48, 70, 58, 59, 60, 79] (by decide +kernel) (by decide +kernel)
set_option maxRecDepth 20000 in
theorem gX9_copy_X6_passTo_u132X6 : GoodIn wsX9_copy (va_wsU RX9 132 RX6 "KeptTerms$Row" ⟨"KeptTerms$Row", "passTo", "(LKeptTerms$Row;III)V"⟩ yX6_passTo wsX6_passTo) := goodIn_app (goodIn_of _ (by decide +kernel)) ggX9_copy_X6_passTo
theorem dX9_copy_0 : decode cX9_copy 0 = .ok (.iload_n 1, 1) := by decide +kernel
theorem dX9_copy_1 : decode cX9_copy 1 = .ok (.invokestatic 32, 3) := by decide +kernel
theorem dX9_copy_4 : decode cX9_copy 4 = .ok (.ifCond .eq 10, 3) := by decide +kernel
theorem dX9_copy_7 : decode cX9_copy 7 = .ok (.iload_n 3, 1) := by decide +kernel
theorem dX9_copy_8 : decode cX9_copy 8 = .ok (.invokestatic 32, 3) := by decide +kernel
theorem dX9_copy_11 : decode cX9_copy 11 = .ok (.ifCond .ne 5, 3) := by decide +kernel
theorem dX9_copy_14 : decode cX9_copy 14 = .ok (.iconst (-1), 1) := by decide +kernel
theorem dX9_copy_15 : decode cX9_copy 15 = .ok (.ireturn, 1) := by decide +kernel
theorem dX9_copy_16 : decode cX9_copy 16 = .ok (.aload_n 0, 1) := by decide +kernel
theorem dX9_copy_17 : decode cX9_copy 17 = .ok (.getfield 13, 3) := by decide +kernel
theorem dX9_copy_20 : decode cX9_copy 20 = .ok (.iload_n 1, 1) := by decide +kernel
theorem dX9_copy_21 : decode cX9_copy 21 = .ok (.aaload, 1) := by decide +kernel
theorem dX9_copy_22 : decode cX9_copy 22 = .ok (.ifnull 12, 3) := by decide +kernel
theorem dX9_copy_25 : decode cX9_copy 25 = .ok (.aload_n 0, 1) := by decide +kernel
theorem dX9_copy_26 : decode cX9_copy 26 = .ok (.getfield 13, 3) := by decide +kernel
theorem dX9_copy_29 : decode cX9_copy 29 = .ok (.iload_n 3, 1) := by decide +kernel
theorem dX9_copy_30 : decode cX9_copy 30 = .ok (.aaload, 1) := by decide +kernel
theorem dX9_copy_31 : decode cX9_copy 31 = .ok (.ifnonnull 9, 3) := by decide +kernel
theorem dX9_copy_34 : decode cX9_copy 34 = .ok (.aload_n 0, 1) := by decide +kernel
theorem dX9_copy_35 : decode cX9_copy 35 = .ok (.iconst 1, 1) := by decide +kernel
theorem dX9_copy_36 : decode cX9_copy 36 = .ok (.invokevirtual 36, 3) := by decide +kernel
theorem dX9_copy_39 : decode cX9_copy 39 = .ok (.ireturn, 1) := by decide +kernel
theorem dX9_copy_40 : decode cX9_copy 40 = .ok (.aload_n 0, 1) := by decide +kernel
theorem dX9_copy_41 : decode cX9_copy 41 = .ok (.getfield 13, 3) := by decide +kernel
theorem dX9_copy_44 : decode cX9_copy 44 = .ok (.iload_n 1, 1) := by decide +kernel
theorem dX9_copy_45 : decode cX9_copy 45 = .ok (.aaload, 1) := by decide +kernel
theorem dX9_copy_46 : decode cX9_copy 46 = .ok (.invokestatic 68, 3) := by decide +kernel
theorem dX9_copy_49 : decode cX9_copy 49 = .ok (.astore 6, 2) := by decide +kernel
theorem dX9_copy_51 : decode cX9_copy 51 = .ok (.aload_n 0, 1) := by decide +kernel
theorem dX9_copy_52 : decode cX9_copy 52 = .ok (.getfield 13, 3) := by decide +kernel
theorem dX9_copy_55 : decode cX9_copy 55 = .ok (.iload_n 3, 1) := by decide +kernel
theorem dX9_copy_56 : decode cX9_copy 56 = .ok (.aaload, 1) := by decide +kernel
theorem dX9_copy_57 : decode cX9_copy 57 = .ok (.invokestatic 68, 3) := by decide +kernel
theorem dX9_copy_60 : decode cX9_copy 60 = .ok (.astore 7, 2) := by decide +kernel
theorem dX9_copy_62 : decode cX9_copy 62 = .ok (.aload 6, 2) := by decide +kernel
theorem dX9_copy_64 : decode cX9_copy 64 = .ok (.ifnull 21, 3) := by decide +kernel
theorem dX9_copy_67 : decode cX9_copy 67 = .ok (.aload 7, 2) := by decide +kernel
theorem dX9_copy_69 : decode cX9_copy 69 = .ok (.ifnull 16, 3) := by decide +kernel
theorem dX9_copy_72 : decode cX9_copy 72 = .ok (.aload 6, 2) := by decide +kernel
theorem dX9_copy_74 : decode cX9_copy 74 = .ok (.invokevirtual 125, 3) := by decide +kernel
theorem dX9_copy_77 : decode cX9_copy 77 = .ok (.aload 7, 2) := by decide +kernel
theorem dX9_copy_79 : decode cX9_copy 79 = .ok (.invokevirtual 125, 3) := by decide +kernel
theorem dX9_copy_82 : decode cX9_copy 82 = .ok (.if_icmp .eq 9, 3) := by decide +kernel
theorem dX9_copy_85 : decode cX9_copy 85 = .ok (.aload_n 0, 1) := by decide +kernel
theorem dX9_copy_86 : decode cX9_copy 86 = .ok (.iconst 4, 1) := by decide +kernel
theorem dX9_copy_87 : decode cX9_copy 87 = .ok (.invokevirtual 36, 3) := by decide +kernel
theorem dX9_copy_90 : decode cX9_copy 90 = .ok (.ireturn, 1) := by decide +kernel
theorem dX9_copy_91 : decode cX9_copy 91 = .ok (.aload 6, 2) := by decide +kernel
theorem dX9_copy_93 : decode cX9_copy 93 = .ok (.iload_n 2, 1) := by decide +kernel
theorem dX9_copy_94 : decode cX9_copy 94 = .ok (.iload 5, 2) := by decide +kernel
theorem dX9_copy_96 : decode cX9_copy 96 = .ok (.invokevirtual 128, 3) := by decide +kernel
theorem dX9_copy_99 : decode cX9_copy 99 = .ok (.ifCond .eq 15, 3) := by decide +kernel
theorem dX9_copy_102 : decode cX9_copy 102 = .ok (.aload 7, 2) := by decide +kernel
theorem dX9_copy_104 : decode cX9_copy 104 = .ok (.iload 4, 2) := by decide +kernel
theorem dX9_copy_106 : decode cX9_copy 106 = .ok (.iload 5, 2) := by decide +kernel
theorem dX9_copy_108 : decode cX9_copy 108 = .ok (.invokevirtual 128, 3) := by decide +kernel
theorem dX9_copy_111 : decode cX9_copy 111 = .ok (.ifCond .ne 9, 3) := by decide +kernel
theorem dX9_copy_114 : decode cX9_copy 114 = .ok (.aload_n 0, 1) := by decide +kernel
theorem dX9_copy_115 : decode cX9_copy 115 = .ok (.iconst 3, 1) := by decide +kernel
theorem dX9_copy_116 : decode cX9_copy 116 = .ok (.invokevirtual 36, 3) := by decide +kernel
theorem dX9_copy_119 : decode cX9_copy 119 = .ok (.ireturn, 1) := by decide +kernel
theorem dX9_copy_120 : decode cX9_copy 120 = .ok (.aload 6, 2) := by decide +kernel
theorem dX9_copy_122 : decode cX9_copy 122 = .ok (.aload 7, 2) := by decide +kernel
theorem dX9_copy_124 : decode cX9_copy 124 = .ok (.iload_n 2, 1) := by decide +kernel
theorem dX9_copy_125 : decode cX9_copy 125 = .ok (.iload 4, 2) := by decide +kernel
theorem dX9_copy_127 : decode cX9_copy 127 = .ok (.iload 5, 2) := by decide +kernel
theorem dX9_copy_129 : decode cX9_copy 129 = .ok (.invokevirtual 132, 3) := by decide +kernel
theorem dX9_copy_132 : decode cX9_copy 132 = .ok (.iconst 1, 1) := by decide +kernel
theorem dX9_copy_133 : decode cX9_copy 133 = .ok (.ireturn, 1) := by decide +kernel
set_option maxRecDepth 20000 in
theorem ggX9_twin_X9_isPlace : GoodIn wsX9_twin wsX9_isPlace := goodIn_r _ [5] (by decide +kernel) (by decide +kernel)
set_option maxRecDepth 20000 in
theorem gX9_twin_X9_isPlace : GoodIn wsX9_twin (va_wsS RX9 32 yX9_isPlace wsX9_isPlace) := goodIn_app (goodIn_of _ (by decide +kernel)) ggX9_twin_X9_isPlace
set_option maxRecDepth 20000 in
theorem ggX9_twin_X9_failed : GoodIn wsX9_twin wsX9_failed := goodIn_r _ [9, 10, 98, 99, 100, 101, 102, 103] (by decide +kernel) (by decide +kernel)
set_option maxRecDepth 20000 in
theorem gX9_twin_X9_failed : GoodIn wsX9_twin (wsV RX9 36 RX9 yX9_failed wsX9_failed) := goodIn_app (goodIn_of _ (by decide +kernel)) ggX9_twin_X9_failed
set_option maxRecDepth 20000 in
theorem ggX9_twin_X9_asRow : GoodIn wsX9_twin wsX9_asRow := goodIn_r _ [13, 14] (by decide +kernel) (by decide +kernel)
set_option maxRecDepth 20000 in
theorem gX9_twin_X9_asRow : GoodIn wsX9_twin (va_wsS RX9 68 yX9_asRow wsX9_asRow) := goodIn_app (goodIn_of _ (by decide +kernel)) ggX9_twin_X9_asRow
