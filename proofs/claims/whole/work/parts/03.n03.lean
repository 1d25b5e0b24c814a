set_option maxRecDepth 20000 in
theorem ggX9_twin_X0_newTwin_ : GoodIn wsX9_twin wsX0_newTwin_ := goodIn_r _ [20, 21, 22, 23, 19, 24, 25, 26, 27, 28, 29, 30, 31, 32, 33, 34, 35, 36, 37, 38, 39, 40, 41, 42, 43, 44, 45, 46, 47, 48, 104] (by decide +kernel) (by decide +kernel)
set_option maxRecDepth 20000 in
theorem gX9_twin_X0_newTwin__u136X0 : GoodIn wsX9_twin (va_wsU RX9 136 RX0 "KeptTerms$Row" ⟨"KeptTerms$Row", "newTwin", "()LKeptTerms$Row;"⟩ yX0_newTwin_ wsX0_newTwin_) := goodIn_app (goodIn_of _ (by decide +kernel)) ggX9_twin_X0_newTwin_
set_option maxRecDepth 20000 in
theorem ggX9_twin_X5_newTwin_ : GoodIn wsX9_twin wsX5_newTwin_ := goodIn_r _ [52, 53, 54, 55, 51, 56, 57, 58, 59, 60, 61, 62, 63, 40, 41, 42, 43, 44, 45, 46, 47, 48, 64, 65, 66, 67, 68, 105] (by decide +kernel) (by decide +kernel)
set_option maxRecDepth 20000 in
theorem gX9_twin_X5_newTwin__u136X5 : GoodIn wsX9_twin (va_wsU RX9 136 RX5 "KeptTerms$Row" ⟨"KeptTerms$Row", "newTwin", "()LKeptTerms$Row;"⟩ yX5_newTwin_ wsX5_newTwin_) := goodIn_app (goodIn_of _ (by decide +kernel)) ggX9_twin_X5_newTwin_
set_option maxRecDepth 20000 in
theorem ggX9_twin_X6_newTwin_ : GoodIn wsX9_twin wsX6_newTwin_ := goodIn_r _ [72, 73, 74, 75, 71, 76, 77, 78, 79, 80, 81, 30, 31, 82, 83, 84, 85, 86, 37, 38, 39, 40, 41, 42, 43, 44, 45, 46, 47, 48, 106] (by decide +kernel) (by decide +kernel)
set_option maxRecDepth 20000 in
theorem gX9_twin_X6_newTwin__u136X6 : GoodIn wsX9_twin (va_wsU RX9 136 RX6 "KeptTerms$Row" ⟨"KeptTerms$Row", "newTwin", "()LKeptTerms$Row;"⟩ yX6_newTwin_ wsX6_newTwin_) := goodIn_app (goodIn_of _ (by decide +kernel)) ggX9_twin_X6_newTwin_
set_option maxRecDepth 20000 in
theorem ggX9_twin_X0_cellCount : GoodIn wsX9_twin wsX0_cellCount := goodIn_r _ [91, 27, 104] (by decide +kernel) (by decide +kernel)
set_option maxRecDepth 20000 in
theorem gX9_twin_X0_cellCount_u72X0 : GoodIn wsX9_twin (va_wsU RX9 72 RX0 "KeptTerms$Row" ⟨"KeptTerms$Row", "cellCount", "()I"⟩ yX0_cellCount wsX0_cellCount) := goodIn_app (goodIn_of _ (by decide +kernel)) ggX9_twin_X0_cellCount
set_option maxRecDepth 20000 in
theorem ggX9_twin_X5_cellCount : GoodIn wsX9_twin wsX5_cellCount := goodIn_r _ [94, 59, 105] (by decide +kernel) (by decide +kernel)
set_option maxRecDepth 20000 in
theorem gX9_twin_X5_cellCount_u72X5 : GoodIn wsX9_twin (va_wsU RX9 72 RX5 "KeptTerms$Row" ⟨"KeptTerms$Row", "cellCount", "()I"⟩ yX5_cellCount wsX5_cellCount) := goodIn_app (goodIn_of _ (by decide +kernel)) ggX9_twin_X5_cellCount
set_option maxRecDepth 20000 in
theorem ggX9_twin_X6_cellCount : GoodIn wsX9_twin wsX6_cellCount := goodIn_r _ [97, 79, 106] (by decide +kernel) (by decide +kernel)
set_option maxRecDepth 20000 in
theorem gX9_twin_X6_cellCount_u72X6 : GoodIn wsX9_twin (va_wsU RX9 72 RX6 "KeptTerms$Row" ⟨"KeptTerms$Row", "cellCount", "()I"⟩ yX6_cellCount wsX6_cellCount) := goodIn_app (goodIn_of _ (by decide +kernel)) ggX9_twin_X6_cellCount
theorem dX9_twin_0 : decode cX9_twin 0 = .ok (.iload_n 1, 1) := by decide +kernel
theorem dX9_twin_1 : decode cX9_twin 1 = .ok (.invokestatic 32, 3) := by decide +kernel
theorem dX9_twin_4 : decode cX9_twin 4 = .ok (.ifCond .eq 10, 3) := by decide +kernel
theorem dX9_twin_7 : decode cX9_twin 7 = .ok (.iload_n 2, 1) := by decide +kernel
theorem dX9_twin_8 : decode cX9_twin 8 = .ok (.invokestatic 32, 3) := by decide +kernel
theorem dX9_twin_11 : decode cX9_twin 11 = .ok (.ifCond .ne 5, 3) := by decide +kernel
theorem dX9_twin_14 : decode cX9_twin 14 = .ok (.iconst (-1), 1) := by decide +kernel
theorem dX9_twin_15 : decode cX9_twin 15 = .ok (.ireturn, 1) := by decide +kernel
theorem dX9_twin_16 : decode cX9_twin 16 = .ok (.aload_n 0, 1) := by decide +kernel
theorem dX9_twin_17 : decode cX9_twin 17 = .ok (.getfield 13, 3) := by decide +kernel
theorem dX9_twin_20 : decode cX9_twin 20 = .ok (.iload_n 2, 1) := by decide +kernel
theorem dX9_twin_21 : decode cX9_twin 21 = .ok (.aaload, 1) := by decide +kernel
theorem dX9_twin_22 : decode cX9_twin 22 = .ok (.ifnonnull 9, 3) := by decide +kernel
theorem dX9_twin_25 : decode cX9_twin 25 = .ok (.aload_n 0, 1) := by decide +kernel
theorem dX9_twin_26 : decode cX9_twin 26 = .ok (.iconst 1, 1) := by decide +kernel
theorem dX9_twin_27 : decode cX9_twin 27 = .ok (.invokevirtual 36, 3) := by decide +kernel
theorem dX9_twin_30 : decode cX9_twin 30 = .ok (.ireturn, 1) := by decide +kernel
theorem dX9_twin_31 : decode cX9_twin 31 = .ok (.aload_n 0, 1) := by decide +kernel
theorem dX9_twin_32 : decode cX9_twin 32 = .ok (.getfield 13, 3) := by decide +kernel
theorem dX9_twin_35 : decode cX9_twin 35 = .ok (.iload_n 2, 1) := by decide +kernel
theorem dX9_twin_36 : decode cX9_twin 36 = .ok (.aaload, 1) := by decide +kernel
theorem dX9_twin_37 : decode cX9_twin 37 = .ok (.invokestatic 68, 3) := by decide +kernel
theorem dX9_twin_40 : decode cX9_twin 40 = .ok (.astore_n 3, 1) := by decide +kernel
theorem dX9_twin_41 : decode cX9_twin 41 = .ok (.aload_n 3, 1) := by decide +kernel
theorem dX9_twin_42 : decode cX9_twin 42 = .ok (.ifnonnull 9, 3) := by decide +kernel
theorem dX9_twin_45 : decode cX9_twin 45 = .ok (.aload_n 0, 1) := by decide +kernel
theorem dX9_twin_46 : decode cX9_twin 46 = .ok (.iconst 2, 1) := by decide +kernel
theorem dX9_twin_47 : decode cX9_twin 47 = .ok (.invokevirtual 36, 3) := by decide +kernel
theorem dX9_twin_50 : decode cX9_twin 50 = .ok (.ireturn, 1) := by decide +kernel
theorem dX9_twin_51 : decode cX9_twin 51 = .ok (.aload_n 0, 1) := by decide +kernel
theorem dX9_twin_52 : decode cX9_twin 52 = .ok (.getfield 13, 3) := by decide +kernel
theorem dX9_twin_55 : decode cX9_twin 55 = .ok (.iload_n 1, 1) := by decide +kernel
theorem dX9_twin_56 : decode cX9_twin 56 = .ok (.aload_n 3, 1) := by decide +kernel
theorem dX9_twin_57 : decode cX9_twin 57 = .ok (.invokevirtual 136, 3) := by decide +kernel
theorem dX9_twin_60 : decode cX9_twin 60 = .ok (.aastore, 1) := by decide +kernel
theorem dX9_twin_61 : decode cX9_twin 61 = .ok (.aload_n 3, 1) := by decide +kernel
theorem dX9_twin_62 : decode cX9_twin 62 = .ok (.invokevirtual 72, 3) := by decide +kernel
theorem dX9_twin_65 : decode cX9_twin 65 = .ok (.ireturn, 1) := by decide +kernel
set_option maxRecDepth 20000 in
theorem ggX9_like_X9_isPlace : GoodIn wsX9_like wsX9_isPlace := goodIn_r _ [5] (by decide +kernel) (by decide +kernel)
set_option maxRecDepth 20000 in
theorem gX9_like_X9_isPlace : GoodIn wsX9_like (va_wsS RX9 32 yX9_isPlace wsX9_isPlace) := goodIn_app (goodIn_of _ (by decide +kernel)) ggX9_like_X9_isPlace
set_option maxRecDepth 20000 in
theorem ggX9_like_X9_failed : GoodIn wsX9_like wsX9_failed := goodIn_r _ [9, 10, 37, 38, 39, 40, 41, 42] (by decide +kernel) (by decide +kernel)
set_option maxRecDepth 20000 in
theorem gX9_like_X9_failed : GoodIn wsX9_like (wsV RX9 36 RX9 yX9_failed wsX9_failed) := goodIn_app (goodIn_of _ (by decide +kernel)) ggX9_like_X9_failed
set_option maxRecDepth 20000 in
theorem ggX9_like_X9_asNumbers : GoodIn wsX9_like wsX9_asNumbers := goodIn_r _ [13, 14] (by decide +kernel) (by decide +kernel)
set_option maxRecDepth 20000 in
theorem gX9_like_X9_asNumbers : GoodIn wsX9_like (va_wsS RX9 87 yX9_asNumbers wsX9_asNumbers) := goodIn_app (goodIn_of _ (by decide +kernel)) ggX9_like_X9_asNumbers
set_option maxRecDepth 20000 in
theorem ggX9_like_X0_isLike : GoodIn wsX9_like wsX0_isLike := goodIn_r _ [20, 21, 22, 23, 24, 25, 19, 26, 43] (by decide +kernel) (by decide +kernel)
set_option maxRecDepth 20000 in
theorem gX9_like_X0_isLike_u140X0 : GoodIn wsX9_like (va_wsU RX9 140 RX0 "KeptTerms$Numbers" ⟨"KeptTerms$Numbers", "isLike", "(LKeptTerms$Numbers;)Z"⟩ yX0_isLike wsX0_isLike) := goodIn_app (goodIn_of _ (by decide +kernel)) ggX9_like_X0_isLike
set_option maxRecDepth 20000 in
theorem ggX9_like_X6_isLike : GoodIn wsX9_like wsX6_isLike := goodIn_r _ [30, 31, 32, 33, 34, 35, 29, 36, 44] (by decide +kernel) (by decide +kernel)
set_option maxRecDepth 20000 in
theorem gX9_like_X6_isLike_u140X6 : GoodIn wsX9_like (va_wsU RX9 140 RX6 "KeptTerms$Numbers" ⟨"KeptTerms$Numbers", "isLike", "(LKeptTerms$Numbers;)Z"⟩ yX6_isLike wsX6_isLike) := goodIn_app (goodIn_of _ (by decide +kernel)) ggX9_like_X6_isLike
theorem dX9_like_0 : decode cX9_like 0 = .ok (.iload_n 1, 1) := by decide +kernel
theorem dX9_like_1 : decode cX9_like 1 = .ok (.invokestatic 32, 3) := by decide +kernel
theorem dX9_like_4 : decode cX9_like 4 = .ok (.ifCond .eq 10, 3) := by decide +kernel
theorem dX9_like_7 : decode cX9_like 7 = .ok (.iload_n 2, 1) := by decide +kernel
theorem dX9_like_8 : decode cX9_like 8 = .ok (.invokestatic 32, 3) := by decide +kernel
theorem dX9_like_11 : decode cX9_like 11 = .ok (.ifCond .ne 5, 3) := by decide +kernel
theorem dX9_like_14 : decode cX9_like 14 = .ok (.iconst (-1), 1) := by decide +kernel
theorem dX9_like_15 : decode cX9_like 15 = .ok (.ireturn, 1) := by decide +kernel
theorem dX9_like_16 : decode cX9_like 16 = .ok (.aload_n 0, 1) := by decide +kernel
theorem dX9_like_17 : decode cX9_like 17 = .ok (.getfield 13, 3) := by decide +kernel
theorem dX9_like_20 : decode cX9_like 20 = .ok (.iload_n 1, 1) := by decide +kernel
theorem dX9_like_21 : decode cX9_like 21 = .ok (.aaload, 1) := by decide +kernel
theorem dX9_like_22 : decode cX9_like 22 = .ok (.ifnull 12, 3) := by decide +kernel
theorem dX9_like_25 : decode cX9_like 25 = .ok (.aload_n 0, 1) := by decide +kernel
theorem dX9_like_26 : decode cX9_like 26 = .ok (.getfield 13, 3) := by decide +kernel
theorem dX9_like_29 : decode cX9_like 29 = .ok (.iload_n 2, 1) := by decide +kernel
theorem dX9_like_30 : decode cX9_like 30 = .ok (.aaload, 1) := by decide +kernel
theorem dX9_like_31 : decode cX9_like 31 = .ok (.ifnonnull 9, 3) := by decide +kernel
theorem dX9_like_34 : decode cX9_like 34 = .ok (.aload_n 0, 1) := by decide +kernel
theorem dX9_like_35 : decode cX9_like 35 = .ok (.iconst 1, 1) := by decide +kernel
theorem dX9_like_36 : decode cX9_like 36 = .ok (.invokevirtual 36, 3) := by decide +kernel
theorem dX9_like_39 : decode cX9_like 39 = .ok (.ireturn, 1) := by decide +kernel
theorem dX9_like_40 : decode cX9_like 40 = .ok (.aload_n 0, 1) := by decide +kernel
theorem dX9_like_41 : decode cX9_like 41 = .ok (.getfield 13, 3) := by decide +kernel
theorem dX9_like_44 : decode cX9_like 44 = .ok (.iload_n 1, 1) := by decide +kernel
theorem dX9_like_45 : decode cX9_like 45 = .ok (.aaload, 1) := by decide +kernel
theorem dX9_like_46 : decode cX9_like 46 = .ok (.invokestatic 87, 3) := by decide +kernel
theorem dX9_like_49 : decode cX9_like 49 = .ok (.astore_n 3, 1) := by decide +kernel
theorem dX9_like_50 : decode cX9_like 50 = .ok (.aload_n 0, 1) := by decide +kernel
theorem dX9_like_51 : decode cX9_like 51 = .ok (.getfield 13, 3) := by decide +kernel
theorem dX9_like_54 : decode cX9_like 54 = .ok (.iload_n 2, 1) := by decide +kernel
theorem dX9_like_55 : decode cX9_like 55 = .ok (.aaload, 1) := by decide +kernel
theorem dX9_like_56 : decode cX9_like 56 = .ok (.invokestatic 87, 3) := by decide +kernel
theorem dX9_like_59 : decode cX9_like 59 = .ok (.astore 4, 2) := by decide +kernel
theorem dX9_like_61 : decode cX9_like 61 = .ok (.aload_n 3, 1) := by decide +kernel
theorem dX9_like_62 : decode cX9_like 62 = .ok (.ifnull 8, 3) := by decide +kernel
theorem dX9_like_65 : decode cX9_like 65 = .ok (.aload 4, 2) := by decide +kernel
theorem dX9_like_67 : decode cX9_like 67 = .ok (.ifnonnull 9, 3) := by decide +kernel
theorem dX9_like_70 : decode cX9_like 70 = .ok (.aload_n 0, 1) := by decide +kernel
theorem dX9_like_71 : decode cX9_like 71 = .ok (.iconst 2, 1) := by decide +kernel
theorem dX9_like_72 : decode cX9_like 72 = .ok (.invokevirtual 36, 3) := by decide +kernel
theorem dX9_like_75 : decode cX9_like 75 = .ok (.ireturn, 1) := by decide +kernel
theorem dX9_like_76 : decode cX9_like 76 = .ok (.aload_n 3, 1) := by decide +kernel
theorem dX9_like_77 : decode cX9_like 77 = .ok (.aload 4, 2) := by decide +kernel
theorem dX9_like_79 : decode cX9_like 79 = .ok (.invokevirtual 140, 3) := by decide +kernel
theorem dX9_like_82 : decode cX9_like 82 = .ok (.ifCond .eq 7, 3) := by decide +kernel
theorem dX9_like_85 : decode cX9_like 85 = .ok (.iconst 1, 1) := by decide +kernel
theorem dX9_like_86 : decode cX9_like 86 = .ok (.goto 4, 3) := by decide +kernel
theorem dX9_like_89 : decode cX9_like 89 = .ok (.iconst 0, 1) := by decide +kernel
theorem dX9_like_90 : decode cX9_like 90 = .ok (.ireturn, 1) := by decide +kernel
set_option maxRecDepth 20000 in
theorem ggX9_hash_X9_isPlace : GoodIn wsX9_hash wsX9_isPlace := goodIn_r _ [6] (by decide +kernel) (by decide +kernel)
set_option maxRecDepth 20000 in
theorem gX9_hash_X9_isPlace : GoodIn wsX9_hash (va_wsS RX9 32 yX9_isPlace wsX9_isPlace) := goodIn_app (goodIn_of _ (by decide +kernel)) ggX9_hash_X9_isPlace
set_option maxRecDepth 20000 in
theorem ggX9_hash_X9_failedLong : GoodIn wsX9_hash wsX9_failedLong := goodIn_r _ [10, 11, 1, 43, 44, 45, 46, 47, 48] (by decide +kernel) (by decide +kernel)
set_option maxRecDepth 20000 in
theorem gX9_hash_X9_failedLong : GoodIn wsX9_hash (wsV RX9 91 RX9 yX9_failedLong wsX9_failedLong) := goodIn_app (goodIn_of _ (by decide +kernel)) ggX9_hash_X9_failedLong
set_option maxRecDepth 20000 in
theorem ggX9_hash_X9_asNumbers : GoodIn wsX9_hash wsX9_asNumbers := goodIn_r _ [14, 15] (by decide +kernel) (by decide +kernel)
set_option maxRecDepth 20000 in
theorem gX9_hash_X9_asNumbers : GoodIn wsX9_hash (va_wsS RX9 87 yX9_asNumbers wsX9_asNumbers) := goodIn_app (goodIn_of _ (by decide +kernel)) ggX9_hash_X9_asNumbers
set_option maxRecDepth 20000 in
theorem ggX9_hash_X2_contentHash : GoodIn wsX9_hash wsX2_contentHash := goodIn_r _ [21, 22, 23, 24, 25, 26, 27, 28, 29, 30, 31, 32, 33, 34, 35, 36, 37, 38, 39, 40, 41, 49, 50] (by decide +kernel) (by decide +kernel)
set_option maxRecDepth 20000 in
theorem gX9_hash_X2_contentHash_u144X0 : GoodIn wsX9_hash (va_wsU RX9 144 RX0 "KeptTerms$Numbers" ⟨"KeptTerms$Numbers", "contentHash", "()I"⟩ yX2_contentHash wsX2_contentHash) := goodIn_app (goodIn_of _ (by decide +kernel)) ggX9_hash_X2_contentHash
set_option maxRecDepth 20000 in
theorem gX9_hash_X2_contentHash_u144X6 : GoodIn wsX9_hash (va_wsU RX9 144 RX6 "KeptTerms$Numbers" ⟨"KeptTerms$Numbers", "contentHash", "()I"⟩ yX2_contentHash wsX2_contentHash) := goodIn_app (goodIn_of _ (by decide +kernel)) ggX9_hash_X2_contentHash
theorem dX9_hash_0 : decode cX9_hash 0 = .ok (.iload_n 1, 1) := by decide +kernel
theorem dX9_hash_1 : decode cX9_hash 1 = .ok (.invokestatic 32, 3) := by decide +kernel
theorem dX9_hash_4 : decode cX9_hash 4 = .ok (.ifCond .ne 7, 3) := by decide +kernel
theorem dX9_hash_7 : decode cX9_hash 7 = .ok (.ldc2_w 81, 3) := by decide +kernel
theorem dX9_hash_10 : decode cX9_hash 10 = .ok (.lreturn, 1) := by decide +kernel
theorem dX9_hash_11 : decode cX9_hash 11 = .ok (.aload_n 0, 1) := by decide +kernel
theorem dX9_hash_12 : decode cX9_hash 12 = .ok (.getfield 13, 3) := by decide +kernel
theorem dX9_hash_15 : decode cX9_hash 15 = .ok (.iload_n 1, 1) := by decide +kernel
theorem dX9_hash_16 : decode cX9_hash 16 = .ok (.aaload, 1) := by decide +kernel
theorem dX9_hash_17 : decode cX9_hash 17 = .ok (.ifnonnull 9, 3) := by decide +kernel
theorem dX9_hash_20 : decode cX9_hash 20 = .ok (.aload_n 0, 1) := by decide +kernel
theorem dX9_hash_21 : decode cX9_hash 21 = .ok (.iconst 1, 1) := by decide +kernel
theorem dX9_hash_22 : decode cX9_hash 22 = .ok (.invokevirtual 91, 3) := by decide +kernel
theorem dX9_hash_25 : decode cX9_hash 25 = .ok (.lreturn, 1) := by decide +kernel
theorem dX9_hash_26 : decode cX9_hash 26 = .ok (.aload_n 0, 1) := by decide +kernel
theorem dX9_hash_27 : decode cX9_hash 27 = .ok (.getfield 13, 3) := by decide +kernel
theorem dX9_hash_30 : decode cX9_hash 30 = .ok (.iload_n 1, 1) := by decide +kernel
theorem dX9_hash_31 : decode cX9_hash 31 = .ok (.aaload, 1) := by decide +kernel
theorem dX9_hash_32 : decode cX9_hash 32 = .ok (.invokestatic 87, 3) := by decide +kernel
theorem dX9_hash_35 : decode cX9_hash 35 = .ok (.astore_n 2, 1) := by decide +kernel
theorem dX9_hash_36 : decode cX9_hash 36 = .ok (.aload_n 2, 1) := by decide +kernel
theorem dX9_hash_37 : decode cX9_hash 37 = .ok (.ifnonnull 11, 3) := by decide +kernel
theorem dX9_hash_40 : decode cX9_hash 40 = .ok (.aload_n 0, 1) := by decide +kernel
theorem dX9_hash_41 : decode cX9_hash 41 = .ok (.iconst 2, 1) := by decide +kernel
theorem dX9_hash_42 : decode cX9_hash 42 = .ok (.invokevirtual 91, 3) := by decide +kernel
theorem dX9_hash_45 : decode cX9_hash 45 = .ok (.goto 8, 3) := by decide +kernel
theorem dX9_hash_48 : decode cX9_hash 48 = .ok (.aload_n 2, 1) := by decide +kernel
theorem dX9_hash_49 : decode cX9_hash 49 = .ok (.invokevirtual 144, 3) := by decide +kernel
theorem dX9_hash_52 : decode cX9_hash 52 = .ok (.i2l, 1) := by decide +kernel
theorem dX9_hash_53 : decode cX9_hash 53 = .ok (.lreturn, 1) := by decide +kernel
set_option maxRecDepth 20000 in
theorem ggX9_order_X9_isPlace : GoodIn wsX9_order wsX9_isPlace := goodIn_r _ [5] (by decide +kernel) (by decide +kernel)
set_option maxRecDepth 20000 in
theorem gX9_order_X9_isPlace : GoodIn wsX9_order (va_wsS RX9 32 yX9_isPlace wsX9_isPlace) := goodIn_app (goodIn_of _ (by decide +kernel)) ggX9_order_X9_isPlace
set_option maxRecDepth 20000 in
theorem ggX9_order_X9_mayBeCast : GoodIn wsX9_order wsX9_mayBeCast := goodIn_r _ [8, 9, 10, 4, 11, 12, 13, 14, 15, 16, 17, 18, 19, 20, 21, 22, 23, 24, 25, 26, 27, 28, 29, 30, 31, 32, 33, 34, 35, 36] (by decide +kernel) (by decide +kernel)
set_option maxRecDepth 20000 in
theorem gX9_order_X9_mayBeCast : GoodIn wsX9_order (va_wsS RX9 65 yX9_mayBeCast wsX9_mayBeCast) := goodIn_app (goodIn_of _ (by decide +kernel)) ggX9_order_X9_mayBeCast
set_option maxRecDepth 20000 in
theorem ggX9_order_X9_failed : GoodIn wsX9_order wsX9_failed := goodIn_r _ [40, 41, 59, 60, 61, 62, 63, 64] (by decide +kernel) (by decide +kernel)
set_option maxRecDepth 20000 in
theorem gX9_order_X9_failed : GoodIn wsX9_order (wsV RX9 36 RX9 yX9_failed wsX9_failed) := goodIn_app (goodIn_of _ (by decide +kernel)) ggX9_order_X9_failed
set_option maxRecDepth 20000 in
theorem ggX9_order_X9_asBytes : GoodIn wsX9_order wsX9_asBytes := goodIn_r _ [44, 45] (by decide +kernel) (by decide +kernel)
set_option maxRecDepth 20000 in
theorem gX9_order_X9_asBytes : GoodIn wsX9_order (va_wsS RX9 114 yX9_asBytes wsX9_asBytes) := goodIn_app (goodIn_of _ (by decide +kernel)) ggX9_order_X9_asBytes
set_option maxRecDepth 20000 in
theorem ggX9_order_X0_against : GoodIn wsX9_order wsX0_against := goodIn_r _ [49, 50, 51, 52, 53, 54, 55, 56, 57, 58, 65] (by decide +kernel) (by decide +kernel)
set_option maxRecDepth 20000 in
theorem gX9_order_X0_against : GoodIn wsX9_order (wsV RX9 147 RX0 yX0_against wsX0_against) := goodIn_app (goodIn_of _ (by decide +kernel)) ggX9_order_X0_against
theorem dX9_order_0 : decode cX9_order 0 = .ok (.iload_n 1, 1) := by decide +kernel
theorem dX9_order_1 : decode cX9_order 1 = .ok (.invokestatic 32, 3) := by decide +kernel
theorem dX9_order_4 : decode cX9_order 4 = .ok (.ifCond .eq 10, 3) := by decide +kernel
theorem dX9_order_7 : decode cX9_order 7 = .ok (.iload_n 2, 1) := by decide +kernel
theorem dX9_order_8 : decode cX9_order 8 = .ok (.invokestatic 32, 3) := by decide +kernel
theorem dX9_order_11 : decode cX9_order 11 = .ok (.ifCond .ne 5, 3) := by decide +kernel
theorem dX9_order_14 : decode cX9_order 14 = .ok (.iconst (-1), 1) := by decide +kernel
theorem dX9_order_15 : decode cX9_order 15 = .ok (.ireturn, 1) := by decide +kernel
theorem dX9_order_16 : decode cX9_order 16 = .ok (.aload_n 0, 1) := by decide +kernel
theorem dX9_order_17 : decode cX9_order 17 = .ok (.getfield 13, 3) := by decide +kernel
theorem dX9_order_20 : decode cX9_order 20 = .ok (.iload_n 1, 1) := by decide +kernel
theorem dX9_order_21 : decode cX9_order 21 = .ok (.aaload, 1) := by decide +kernel
theorem dX9_order_22 : decode cX9_order 22 = .ok (.iconst 1, 1) := by decide +kernel
theorem dX9_order_23 : decode cX9_order 23 = .ok (.invokestatic 65, 3) := by decide +kernel
theorem dX9_order_26 : decode cX9_order 26 = .ok (.ifCond .eq 16, 3) := by decide +kernel
theorem dX9_order_29 : decode cX9_order 29 = .ok (.aload_n 0, 1) := by decide +kernel
theorem dX9_order_30 : decode cX9_order 30 = .ok (.getfield 13, 3) := by decide +kernel
theorem dX9_order_33 : decode cX9_order 33 = .ok (.iload_n 2, 1) := by decide +kernel
theorem dX9_order_34 : decode cX9_order 34 = .ok (.aaload, 1) := by decide +kernel
theorem dX9_order_35 : decode cX9_order 35 = .ok (.iconst 1, 1) := by decide +kernel
theorem dX9_order_36 : decode cX9_order 36 = .ok (.invokestatic 65, 3) := by decide +kernel
theorem dX9_order_39 : decode cX9_order 39 = .ok (.ifCond .ne 9, 3) := by decide +kernel
theorem dX9_order_42 : decode cX9_order 42 = .ok (.aload_n 0, 1) := by decide +kernel
theorem dX9_order_43 : decode cX9_order 43 = .ok (.iconst 2, 1) := by decide +kernel
theorem dX9_order_44 : decode cX9_order 44 = .ok (.invokevirtual 36, 3) := by decide +kernel
theorem dX9_order_47 : decode cX9_order 47 = .ok (.ireturn, 1) := by decide +kernel
theorem dX9_order_48 : decode cX9_order 48 = .ok (.aload_n 0, 1) := by decide +kernel
theorem dX9_order_49 : decode cX9_order 49 = .ok (.getfield 13, 3) := by decide +kernel
theorem dX9_order_52 : decode cX9_order 52 = .ok (.iload_n 1, 1) := by decide +kernel
theorem dX9_order_53 : decode cX9_order 53 = .ok (.aaload, 1) := by decide +kernel
theorem dX9_order_54 : decode cX9_order 54 = .ok (.invokestatic 114, 3) := by decide +kernel
theorem dX9_order_57 : decode cX9_order 57 = .ok (.astore_n 3, 1) := by decide +kernel
theorem dX9_order_58 : decode cX9_order 58 = .ok (.aload_n 0, 1) := by decide +kernel
theorem dX9_order_59 : decode cX9_order 59 = .ok (.getfield 13, 3) := by decide +kernel
theorem dX9_order_62 : decode cX9_order 62 = .ok (.iload_n 2, 1) := by decide +kernel
theorem dX9_order_63 : decode cX9_order 63 = .ok (.aaload, 1) := by decide +kernel
theorem dX9_order_64 : decode cX9_order 64 = .ok (.invokestatic 114, 3) := by decide +kernel
theorem dX9_order_67 : decode cX9_order 67 = .ok (.astore 4, 2) := by decide +kernel
theorem dX9_order_69 : decode cX9_order 69 = .ok (.aload_n 3, 1) := by decide +kernel
theorem dX9_order_70 : decode cX9_order 70 = .ok (.ifnull 8, 3) := by decide +kernel
theorem dX9_order_73 : decode cX9_order 73 = .ok (.aload 4, 2) := by decide +kernel
theorem dX9_order_75 : decode cX9_order 75 = .ok (.ifnonnull 9, 3) := by decide +kernel
theorem dX9_order_78 : decode cX9_order 78 = .ok (.aload_n 0, 1) := by decide +kernel
theorem dX9_order_79 : decode cX9_order 79 = .ok (.iconst 1, 1) := by decide +kernel
theorem dX9_order_80 : decode cX9_order 80 = .ok (.invokevirtual 36, 3) := by decide +kernel
theorem dX9_order_83 : decode cX9_order 83 = .ok (.ireturn, 1) := by decide +kernel
theorem dX9_order_84 : decode cX9_order 84 = .ok (.bipush (-100), 2) := by decide +kernel
theorem dX9_order_86 : decode cX9_order 86 = .ok (.aload_n 3, 1) := by decide +kernel
theorem dX9_order_87 : decode cX9_order 87 = .ok (.aload 4, 2) := by decide +kernel
theorem dX9_order_89 : decode cX9_order 89 = .ok (.invokevirtual 147, 3) := by decide +kernel
theorem dX9_order_92 : decode cX9_order 92 = .ok (.iadd, 1) := by decide +kernel
theorem dX9_order_93 : decode cX9_order 93 = .ok (.ireturn, 1) := by decide +kernel
set_option maxRecDepth 20000 in
theorem ggX9_named_X9_isPlace : GoodIn wsX9_named wsX9_isPlace := goodIn_r _ [5] (by decide +kernel) (by decide +kernel)
set_option maxRecDepth 20000 in
theorem gX9_named_X9_isPlace : GoodIn wsX9_named (va_wsS RX9 32 yX9_isPlace wsX9_isPlace) := goodIn_app (goodIn_of _ (by decide +kernel)) ggX9_named_X9_isPlace
set_option maxRecDepth 20000 in
theorem ggX9_named_X9_failed : GoodIn wsX9_named wsX9_failed := goodIn_r _ [9, 10, 97, 98, 99, 100, 101, 102] (by decide +kernel) (by decide +kernel)
set_option maxRecDepth 20000 in
theorem gX9_named_X9_failed : GoodIn wsX9_named (wsV RX9 36 RX9 yX9_failed wsX9_failed) := goodIn_app (goodIn_of _ (by decide +kernel)) ggX9_named_X9_failed
set_option maxRecDepth 20000 in
theorem ggX9_named_X9_asNumbers : GoodIn wsX9_named wsX9_asNumbers := goodIn_r _ [13, 14] (by decide +kernel) (by decide +kernel)
set_option maxRecDepth 20000 in
theorem gX9_named_X9_asNumbers : GoodIn wsX9_named (va_wsS RX9 87 yX9_asNumbers wsX9_asNumbers) := goodIn_app (goodIn_of _ (by decide +kernel)) ggX9_named_X9_asNumbers
set_option maxRecDepth 20000 in
theorem ggX9_named_X9_nameOf : GoodIn wsX9_named wsX9_nameOf := goodIn_r _ [17, 18, 19, 4, 20, 21, 22, 23, 24, 25, 26, 27, 28, 29, 30, 31, 32, 33, 34, 35, 36, 37, 38, 39, 40, 41, 42, 43, 44, 45, 46, 47, 48, 49, 50, 51, 52, 53, 54, 55, 56, 57, 58, 59, 60, 61, 62, 63, 64, 65, 66, 67, 68, 69, 70, 71, 72, 73, 74, 75, 76, 77, 78, 79, 80, 81, 82, 83, 84, 85, 86, 87, 88, 89, 90, 91, 92, 93, 94, 95, 96, 103, 104] (by decide +kernel) (by decide +kernel)
set_option maxRecDepth 20000 in
theorem gX9_named_X9_nameOf : GoodIn wsX9_named (va_wsS RX9 151 yX9_nameOf wsX9_nameOf) := goodIn_app (goodIn_of _ (by decide +kernel)) ggX9_named_X9_nameOf
theorem dX9_named_0 : decode cX9_named 0 = .ok (.iload_n 1, 1) := by decide +kernel
theorem dX9_named_1 : decode cX9_named 1 = .ok (.invokestatic 32, 3) := by decide +kernel
theorem dX9_named_4 : decode cX9_named 4 = .ok (.ifCond .ne 5, 3) := by decide +kernel
theorem dX9_named_7 : decode cX9_named 7 = .ok (.iconst (-1), 1) := by decide +kernel
theorem dX9_named_8 : decode cX9_named 8 = .ok (.ireturn, 1) := by decide +kernel
theorem dX9_named_9 : decode cX9_named 9 = .ok (.aload_n 0, 1) := by decide +kernel
theorem dX9_named_10 : decode cX9_named 10 = .ok (.getfield 13, 3) := by decide +kernel
theorem dX9_named_13 : decode cX9_named 13 = .ok (.iload_n 1, 1) := by decide +kernel
theorem dX9_named_14 : decode cX9_named 14 = .ok (.aaload, 1) := by decide +kernel
theorem dX9_named_15 : decode cX9_named 15 = .ok (.ifnonnull 9, 3) := by decide +kernel
theorem dX9_named_18 : decode cX9_named 18 = .ok (.aload_n 0, 1) := by decide +kernel
theorem dX9_named_19 : decode cX9_named 19 = .ok (.iconst 1, 1) := by decide +kernel
theorem dX9_named_20 : decode cX9_named 20 = .ok (.invokevirtual 36, 3) := by decide +kernel
theorem dX9_named_23 : decode cX9_named 23 = .ok (.ireturn, 1) := by decide +kernel
theorem dX9_named_24 : decode cX9_named 24 = .ok (.aload_n 0, 1) := by decide +kernel
theorem dX9_named_25 : decode cX9_named 25 = .ok (.getfield 13, 3) := by decide +kernel
theorem dX9_named_28 : decode cX9_named 28 = .ok (.iload_n 1, 1) := by decide +kernel
theorem dX9_named_29 : decode cX9_named 29 = .ok (.aaload, 1) := by decide +kernel
theorem dX9_named_30 : decode cX9_named 30 = .ok (.invokestatic 87, 3) := by decide +kernel
theorem dX9_named_33 : decode cX9_named 33 = .ok (.astore_n 2, 1) := by decide +kernel
theorem dX9_named_34 : decode cX9_named 34 = .ok (.aload_n 2, 1) := by decide +kernel
theorem dX9_named_35 : decode cX9_named 35 = .ok (.ifnonnull 11, 3) := by decide +kernel
theorem dX9_named_38 : decode cX9_named 38 = .ok (.aload_n 0, 1) := by decide +kernel
theorem dX9_named_39 : decode cX9_named 39 = .ok (.iconst 2, 1) := by decide +kernel
theorem dX9_named_40 : decode cX9_named 40 = .ok (.invokevirtual 36, 3) := by decide +kernel
theorem dX9_named_43 : decode cX9_named 43 = .ok (.goto 7, 3) := by decide +kernel
theorem dX9_named_46 : decode cX9_named 46 = .ok (.aload_n 2, 1) := by decide +kernel
theorem dX9_named_47 : decode cX9_named 47 = .ok (.invokestatic 151, 3) := by decide +kernel
theorem dX9_named_50 : decode cX9_named 50 = .ok (.ireturn, 1) := by decide +kernel
set_option maxRecDepth 20000 in
theorem ggX9_add_X9_isPlace : GoodIn wsX9_add wsX9_isPlace := goodIn_r _ [5] (by decide +kernel) (by decide +kernel)
set_option maxRecDepth 20000 in
theorem gX9_add_X9_isPlace : GoodIn wsX9_add (va_wsS RX9 32 yX9_isPlace wsX9_isPlace) := goodIn_app (goodIn_of _ (by decide +kernel)) ggX9_add_X9_isPlace
set_option maxRecDepth 20000 in
theorem ggX9_add_X9_lookFault : GoodIn wsX9_add wsX9_lookFault := goodIn_r _ [8, 9, 10, 4, 11, 12, 13, 14, 15, 16, 17, 18, 19, 20, 21, 22, 23, 24, 25, 26, 27, 28, 29, 30, 31, 32, 33, 34, 35, 36, 37, 38, 39] (by decide +kernel) (by decide +kernel)
set_option maxRecDepth 20000 in
theorem gX9_add_X9_lookFault : GoodIn wsX9_add (va_wsS RX9 155 yX9_lookFault wsX9_lookFault) := goodIn_app (goodIn_of _ (by decide +kernel)) ggX9_add_X9_lookFault
set_option maxRecDepth 20000 in
theorem ggX9_add_X9_asTable : GoodIn wsX9_add wsX9_asTable := goodIn_r _ [42, 43] (by decide +kernel) (by decide +kernel)
set_option maxRecDepth 20000 in
theorem gX9_add_X9_asTable : GoodIn wsX9_add (va_wsS RX9 159 yX9_asTable wsX9_asTable) := goodIn_app (goodIn_of _ (by decide +kernel)) ggX9_add_X9_asTable
set_option maxRecDepth 20000 in
theorem ggX9_add_X9_asBytes : GoodIn wsX9_add wsX9_asBytes := goodIn_r _ [46, 47] (by decide +kernel) (by decide +kernel)
set_option maxRecDepth 20000 in
theorem gX9_add_X9_asBytes : GoodIn wsX9_add (va_wsS RX9 114 yX9_asBytes wsX9_asBytes) := goodIn_app (goodIn_of _ (by decide +kernel)) ggX9_add_X9_asBytes
set_option maxRecDepth 20000 in
theorem ggX9_add_X9_failed : GoodIn wsX9_add wsX9_failed := goodIn_r _ [51, 52, 202, 203, 204, 205, 206, 207] (by decide +kernel) (by decide +kernel)
set_option maxRecDepth 20000 in
theorem gX9_add_X9_failed : GoodIn wsX9_add (wsV RX9 36 RX9 yX9_failed wsX9_failed) := goodIn_app (goodIn_of _ (by decide +kernel)) ggX9_add_X9_failed
set_option maxRecDepth 20000 in
theorem ggX9_add_X7_admit : GoodIn wsX9_add wsX7_admit := goodIn_r _ [57, 58, 59, 60, 61, 62, 63, 64, 38, 65, 66, 67, 68, 69, 70, 71, 72, 73, 74, 75, 76, 77, 78, 79, 80, 81, 22, 82, 83, 84, 85, 34, 86, 87, 88, 89, 90, 91, 92, 93, 94, 95, 96, 97, 98, 99, 100, 101, 102, 103, 104, 105, 106, 107, 108, 109, 110, 111, 112, 113, 114, 115, 116, 117, 118, 119, 120, 26, 121, 122, 123, 124, 125, 126, 127, 128, 129, 130, 131, 132, 133, 134, 135, 136, 137, 138, 139, 140, 141, 142, 143, 144, 145, 146, 147, 148, 149, 150, 151, 152, 153, 154, 155, 156, 157, 158, 159, 160, 161, 162, 163, 164, 165, 166, 167, 168, 169, 170, 171, 172, 173, 174, 175, 176, 177, 178, 179, 180, 181, 182, 183, 184, 185, 186, 187, 188, 189, 190, 191, 192, 193, 208, 209, 210, 211, 212, 213, 214, 215, 216, 217, 218, 219, 220, 221, 222] (by decide +kernel) (by decide +kernel)
set_option maxRecDepth 20000 in
theorem gX9_add_X7_admit_u163X1 : GoodIn wsX9_add (va_wsU RX9 163 RX1 "KeptTerms$Table" ⟨"KeptTerms$Table", nmTab, "(LKeptTerms$Bytes;)I"⟩ yX7_admit wsX7_admit) := goodIn_app (goodIn_of _ (by decide +kernel)) ggX9_add_X7_admit
set_option maxRecDepth 20000 in
theorem gX9_add_X7_admit : GoodIn wsX9_add (wsV RX9 163 RX7 yX7_admit wsX7_admit) := goodIn_app (goodIn_of _ (by decide +kernel)) ggX9_add_X7_admit
set_option maxRecDepth 20000 in
theorem ggX9_add_X9_counted : GoodIn wsX9_add wsX9_counted := goodIn_r _ [199, 200, 201, 202, 203, 204, 205, 206, 207, 208, 209, 210, 211, 212, 213, 214, 215, 216, 217, 218] (by decide +kernel) (by decide +kernel)
set_option maxRecDepth 20000 in
theorem gX9_add_X9_counted : GoodIn wsX9_add (wsV RX9 166 RX9 yX9_counted wsX9_counted) := goodIn_app (goodIn_of _ (by decide +kernel)) ggX9_add_X9_counted
theorem dX9_add_0 : decode cX9_add 0 = .ok (.iload_n 1, 1) := by decide +kernel
theorem dX9_add_1 : decode cX9_add 1 = .ok (.invokestatic 32, 3) := by decide +kernel
theorem dX9_add_4 : decode cX9_add 4 = .ok (.ifCond .eq 10, 3) := by decide +kernel
theorem dX9_add_7 : decode cX9_add 7 = .ok (.iload_n 2, 1) := by decide +kernel
theorem dX9_add_8 : decode cX9_add 8 = .ok (.invokestatic 32, 3) := by decide +kernel
theorem dX9_add_11 : decode cX9_add 11 = .ok (.ifCond .ne 5, 3) := by decide +kernel
theorem dX9_add_14 : decode cX9_add 14 = .ok (.iconst (-1), 1) := by decide +kernel
theorem dX9_add_15 : decode cX9_add 15 = .ok (.ireturn, 1) := by decide +kernel
theorem dX9_add_16 : decode cX9_add 16 = .ok (.aload_n 0, 1) := by decide +kernel
theorem dX9_add_17 : decode cX9_add 17 = .ok (.getfield 13, 3) := by decide +kernel
theorem dX9_add_20 : decode cX9_add 20 = .ok (.iload_n 1, 1) := by decide +kernel
theorem dX9_add_21 : decode cX9_add 21 = .ok (.aaload, 1) := by decide +kernel
theorem dX9_add_22 : decode cX9_add 22 = .ok (.aload_n 0, 1) := by decide +kernel
theorem dX9_add_23 : decode cX9_add 23 = .ok (.getfield 13, 3) := by decide +kernel
theorem dX9_add_26 : decode cX9_add 26 = .ok (.iload_n 2, 1) := by decide +kernel
theorem dX9_add_27 : decode cX9_add 27 = .ok (.aaload, 1) := by decide +kernel
theorem dX9_add_28 : decode cX9_add 28 = .ok (.invokestatic 155, 3) := by decide +kernel
theorem dX9_add_31 : decode cX9_add 31 = .ok (.istore_n 3, 1) := by decide +kernel
theorem dX9_add_32 : decode cX9_add 32 = .ok (.aload_n 0, 1) := by decide +kernel
theorem dX9_add_33 : decode cX9_add 33 = .ok (.getfield 13, 3) := by decide +kernel
theorem dX9_add_36 : decode cX9_add 36 = .ok (.iload_n 1, 1) := by decide +kernel
theorem dX9_add_37 : decode cX9_add 37 = .ok (.aaload, 1) := by decide +kernel
theorem dX9_add_38 : decode cX9_add 38 = .ok (.invokestatic 159, 3) := by decide +kernel
theorem dX9_add_41 : decode cX9_add 41 = .ok (.astore 4, 2) := by decide +kernel
theorem dX9_add_43 : decode cX9_add 43 = .ok (.aload_n 0, 1) := by decide +kernel
theorem dX9_add_44 : decode cX9_add 44 = .ok (.getfield 13, 3) := by decide +kernel
theorem dX9_add_47 : decode cX9_add 47 = .ok (.iload_n 2, 1) := by decide +kernel
theorem dX9_add_48 : decode cX9_add 48 = .ok (.aaload, 1) := by decide +kernel
theorem dX9_add_49 : decode cX9_add 49 = .ok (.invokestatic 114, 3) := by decide +kernel
theorem dX9_add_52 : decode cX9_add 52 = .ok (.astore 5, 2) := by decide +kernel
theorem dX9_add_54 : decode cX9_add 54 = .ok (.iload_n 3, 1) := by decide +kernel
theorem dX9_add_55 : decode cX9_add 55 = .ok (.ifCond .ne 13, 3) := by decide +kernel
theorem dX9_add_58 : decode cX9_add 58 = .ok (.aload 4, 2) := by decide +kernel
theorem dX9_add_60 : decode cX9_add 60 = .ok (.ifnull 8, 3) := by decide +kernel
theorem dX9_add_63 : decode cX9_add 63 = .ok (.aload 5, 2) := by decide +kernel
theorem dX9_add_65 : decode cX9_add 65 = .ok (.ifnonnull 9, 3) := by decide +kernel
theorem dX9_add_68 : decode cX9_add 68 = .ok (.aload_n 0, 1) := by decide +kernel
theorem dX9_add_69 : decode cX9_add 69 = .ok (.iload_n 3, 1) := by decide +kernel
theorem dX9_add_70 : decode cX9_add 70 = .ok (.invokevirtual 36, 3) := by decide +kernel
theorem dX9_add_73 : decode cX9_add 73 = .ok (.ireturn, 1) := by decide +kernel
theorem dX9_add_74 : decode cX9_add 74 = .ok (.aload_n 0, 1) := by decide +kernel
theorem dX9_add_75 : decode cX9_add 75 = .ok (.aload 4, 2) := by decide +kernel
theorem dX9_add_77 : decode cX9_add 77 = .ok (.aload 4, 2) := by decide +kernel
theorem dX9_add_79 : decode cX9_add 79 = .ok (.aload 5, 2) := by decide +kernel
theorem dX9_add_81 : decode cX9_add 81 = .ok (.invokevirtual 163, 3) := by decide +kernel
theorem dX9_add_84 : decode cX9_add 84 = .ok (.invokevirtual 166, 3) := by decide +kernel
theorem dX9_add_87 : decode cX9_add 87 = .ok (.ireturn, 1) := by decide +kernel
set_option maxRecDepth 20000 in
theorem ggX9_find_X9_isPlace : GoodIn wsX9_find wsX9_isPlace := goodIn_r _ [5] (by decide +kernel) (by decide +kernel)
set_option maxRecDepth 20000 in
theorem gX9_find_X9_isPlace : GoodIn wsX9_find (va_wsS RX9 32 yX9_isPlace wsX9_isPlace) := goodIn_app (goodIn_of _ (by decide +kernel)) ggX9_find_X9_isPlace
set_option maxRecDepth 20000 in
theorem ggX9_find_X9_lookFault : GoodIn wsX9_find wsX9_lookFault := goodIn_r _ [8, 9, 10, 4, 11, 12, 13, 14, 15, 16, 17, 18, 19, 20, 21, 22, 23, 24, 25, 26, 27, 28, 29, 30, 31, 32, 33, 34, 35, 36, 37, 38, 39] (by decide +kernel) (by decide +kernel)
set_option maxRecDepth 20000 in
theorem gX9_find_X9_lookFault : GoodIn wsX9_find (va_wsS RX9 155 yX9_lookFault wsX9_lookFault) := goodIn_app (goodIn_of _ (by decide +kernel)) ggX9_find_X9_lookFault
set_option maxRecDepth 20000 in
theorem ggX9_find_X9_asTable : GoodIn wsX9_find wsX9_asTable := goodIn_r _ [42, 43] (by decide +kernel) (by decide +kernel)
set_option maxRecDepth 20000 in
theorem gX9_find_X9_asTable : GoodIn wsX9_find (va_wsS RX9 159 yX9_asTable wsX9_asTable) := goodIn_app (goodIn_of _ (by decide +kernel)) ggX9_find_X9_asTable
set_option maxRecDepth 20000 in
theorem ggX9_find_X9_asBytes : GoodIn wsX9_find wsX9_asBytes := goodIn_r _ [46, 47] (by decide +kernel) (by decide +kernel)
set_option maxRecDepth 20000 in
theorem gX9_find_X9_asBytes : GoodIn wsX9_find (va_wsS RX9 114 yX9_asBytes wsX9_asBytes) := goodIn_app (goodIn_of _ (by decide +kernel)) ggX9_find_X9_asBytes
set_option maxRecDepth 20000 in
theorem ggX9_find_X9_failed : GoodIn wsX9_find wsX9_failed := goodIn_r _ [51, 52, 123, 124, 125, 126, 127, 128] (by decide +kernel) (by decide +kernel)
set_option maxRecDepth 20000 in
theorem gX9_find_X9_failed : GoodIn wsX9_find (wsV RX9 36 RX9 yX9_failed wsX9_failed) := goodIn_app (goodIn_of _ (by decide +kernel)) ggX9_find_X9_failed
set_option maxRecDepth 20000 in
theorem ggX9_find_X7_numberOf : GoodIn wsX9_find wsX7_numberOf := goodIn_r _ [57, 58, 59, 60, 61, 62, 38, 63, 64, 65, 66, 67, 68, 69, 70, 71, 72, 73, 74, 75, 76, 77, 78, 79, 80, 22, 81, 82, 83, 84, 34, 85, 86, 87, 88, 89, 90, 91, 92, 93, 94, 95, 96, 97, 98, 99, 100, 101, 102, 103, 104, 105, 106, 107, 108, 109, 110, 111, 112, 113, 114, 129, 130, 131, 132, 133, 134, 135, 136, 137, 138, 139, 140, 141] (by decide +kernel) (by decide +kernel)
set_option maxRecDepth 20000 in
theorem gX9_find_X7_numberOf_u170X1 : GoodIn wsX9_find (va_wsU RX9 170 RX1 "KeptTerms$Table" ⟨"KeptTerms$Table", "numberOf", "(LKeptTerms$Bytes;)I"⟩ yX7_numberOf wsX7_numberOf) := goodIn_app (goodIn_of _ (by decide +kernel)) ggX9_find_X7_numberOf
set_option maxRecDepth 20000 in
theorem gX9_find_X7_numberOf : GoodIn wsX9_find (wsV RX9 170 RX7 yX7_numberOf wsX7_numberOf) := goodIn_app (goodIn_of _ (by decide +kernel)) ggX9_find_X7_numberOf
set_option maxRecDepth 20000 in
theorem ggX9_find_X9_counted : GoodIn wsX9_find wsX9_counted := goodIn_r _ [120, 121, 122, 123, 124, 125, 126, 127, 128, 129, 130, 131, 132, 133, 134, 135, 136, 137, 138, 139] (by decide +kernel) (by decide +kernel)
set_option maxRecDepth 20000 in
theorem gX9_find_X9_counted : GoodIn wsX9_find (wsV RX9 166 RX9 yX9_counted wsX9_counted) := goodIn_app (goodIn_of _ (by decide +kernel)) ggX9_find_X9_counted
theorem dX9_find_0 : decode cX9_find 0 = .ok (.iload_n 1, 1) := by decide +kernel
theorem dX9_find_1 : decode cX9_find 1 = .ok (.invokestatic 32, 3) := by decide +kernel
theorem dX9_find_4 : decode cX9_find 4 = .ok (.ifCond .eq 10, 3) := by decide +kernel
theorem dX9_find_7 : decode cX9_find 7 = .ok (.iload_n 2, 1) := by decide +kernel
theorem dX9_find_8 : decode cX9_find 8 = .ok (.invokestatic 32, 3) := by decide +kernel
theorem dX9_find_11 : decode cX9_find 11 = .ok (.ifCond .ne 5, 3) := by decide +kernel
theorem dX9_find_14 : decode cX9_find 14 = .ok (.iconst (-1), 1) := by decide +kernel
theorem dX9_find_15 : decode cX9_find 15 = .ok (.ireturn, 1) := by decide +kernel
theorem dX9_find_16 : decode cX9_find 16 = .ok (.aload_n 0, 1) := by decide +kernel
theorem dX9_find_17 : decode cX9_find 17 = .ok (.getfield 13, 3) := by decide +kernel
theorem dX9_find_20 : decode cX9_find 20 = .ok (.iload_n 1, 1) := by decide +kernel
theorem dX9_find_21 : decode cX9_find 21 = .ok (.aaload, 1) := by decide +kernel
theorem dX9_find_22 : decode cX9_find 22 = .ok (.aload_n 0, 1) := by decide +kernel
theorem dX9_find_23 : decode cX9_find 23 = .ok (.getfield 13, 3) := by decide +kernel
theorem dX9_find_26 : decode cX9_find 26 = .ok (.iload_n 2, 1) := by decide +kernel
theorem dX9_find_27 : decode cX9_find 27 = .ok (.aaload, 1) := by decide +kernel
theorem dX9_find_28 : decode cX9_find 28 = .ok (.invokestatic 155, 3) := by decide +kernel
theorem dX9_find_31 : decode cX9_find 31 = .ok (.istore_n 3, 1) := by decide +kernel
theorem dX9_find_32 : decode cX9_find 32 = .ok (.aload_n 0, 1) := by decide +kernel
theorem dX9_find_33 : decode cX9_find 33 = .ok (.getfield 13, 3) := by decide +kernel
theorem dX9_find_36 : decode cX9_find 36 = .ok (.iload_n 1, 1) := by decide +kernel
theorem dX9_find_37 : decode cX9_find 37 = .ok (.aaload, 1) := by decide +kernel
theorem dX9_find_38 : decode cX9_find 38 = .ok (.invokestatic 159, 3) := by decide +kernel
theorem dX9_find_41 : decode cX9_find 41 = .ok (.astore 4, 2) := by decide +kernel
theorem dX9_find_43 : decode cX9_find 43 = .ok (.aload_n 0, 1) := by decide +kernel
theorem dX9_find_44 : decode cX9_find 44 = .ok (.getfield 13, 3) := by decide +kernel
theorem dX9_find_47 : decode cX9_find 47 = .ok (.iload_n 2, 1) := by decide +kernel
theorem dX9_find_48 : decode cX9_find 48 = .ok (.aaload, 1) := by decide +kernel
theorem dX9_find_49 : decode cX9_find 49 = .ok (.invokestatic 114, 3) := by decide +kernel
theorem dX9_find_52 : decode cX9_find 52 = .ok (.astore 5, 2) := by decide +kernel
theorem dX9_find_54 : decode cX9_find 54 = .ok (.iload_n 3, 1) := by decide +kernel
theorem dX9_find_55 : decode cX9_find 55 = .ok (.ifCond .ne 13, 3) := by decide +kernel
theorem dX9_find_58 : decode cX9_find 58 = .ok (.aload 4, 2) := by decide +kernel
theorem dX9_find_60 : decode cX9_find 60 = .ok (.ifnull 8, 3) := by decide +kernel
theorem dX9_find_63 : decode cX9_find 63 = .ok (.aload 5, 2) := by decide +kernel
theorem dX9_find_65 : decode cX9_find 65 = .ok (.ifnonnull 9, 3) := by decide +kernel
theorem dX9_find_68 : decode cX9_find 68 = .ok (.aload_n 0, 1) := by decide +kernel
theorem dX9_find_69 : decode cX9_find 69 = .ok (.iload_n 3, 1) := by decide +kernel
theorem dX9_find_70 : decode cX9_find 70 = .ok (.invokevirtual 36, 3) := by decide +kernel
theorem dX9_find_73 : decode cX9_find 73 = .ok (.ireturn, 1) := by decide +kernel
theorem dX9_find_74 : decode cX9_find 74 = .ok (.aload_n 0, 1) := by decide +kernel
theorem dX9_find_75 : decode cX9_find 75 = .ok (.aload 4, 2) := by decide +kernel
theorem dX9_find_77 : decode cX9_find 77 = .ok (.aload 4, 2) := by decide +kernel
theorem dX9_find_79 : decode cX9_find 79 = .ok (.aload 5, 2) := by decide +kernel
theorem dX9_find_81 : decode cX9_find 81 = .ok (.invokevirtual 170, 3) := by decide +kernel
theorem dX9_find_84 : decode cX9_find 84 = .ok (.invokevirtual 166, 3) := by decide +kernel
theorem dX9_find_87 : decode cX9_find 87 = .ok (.ireturn, 1) := by decide +kernel
set_option maxRecDepth 20000 in
theorem ggX9_term_X9_isPlace : GoodIn wsX9_term wsX9_isPlace := goodIn_r _ [5] (by decide +kernel) (by decide +kernel)
set_option maxRecDepth 20000 in
theorem gX9_term_X9_isPlace : GoodIn wsX9_term (va_wsS RX9 32 yX9_isPlace wsX9_isPlace) := goodIn_app (goodIn_of _ (by decide +kernel)) ggX9_term_X9_isPlace
set_option maxRecDepth 20000 in
theorem ggX9_term_X9_tableFault : GoodIn wsX9_term wsX9_tableFault := goodIn_r _ [8, 9, 10, 4, 11, 12, 13, 14, 15, 16, 17, 18, 19, 20, 21, 22, 23, 24, 25, 26, 27, 28, 29, 30, 31, 32, 33, 34, 35, 36, 37, 38, 39] (by decide +kernel) (by decide +kernel)
set_option maxRecDepth 20000 in
theorem gX9_term_X9_tableFault : GoodIn wsX9_term (va_wsS RX9 173 yX9_tableFault wsX9_tableFault) := goodIn_app (goodIn_of _ (by decide +kernel)) ggX9_term_X9_tableFault
set_option maxRecDepth 20000 in
theorem ggX9_term_X9_asTable : GoodIn wsX9_term wsX9_asTable := goodIn_r _ [42, 43] (by decide +kernel) (by decide +kernel)
set_option maxRecDepth 20000 in
theorem gX9_term_X9_asTable : GoodIn wsX9_term (va_wsS RX9 159 yX9_asTable wsX9_asTable) := goodIn_app (goodIn_of _ (by decide +kernel)) ggX9_term_X9_asTable
set_option maxRecDepth 20000 in
theorem ggX9_term_X9_failed : GoodIn wsX9_term wsX9_failed := goodIn_r _ [47, 48, 54, 55, 56, 57, 58, 59] (by decide +kernel) (by decide +kernel)
set_option maxRecDepth 20000 in
theorem gX9_term_X9_failed : GoodIn wsX9_term (wsV RX9 36 RX9 yX9_failed wsX9_failed) := goodIn_app (goodIn_of _ (by decide +kernel)) ggX9_term_X9_failed
set_option maxRecDepth 20000 in
theorem ggX9_term_X0_cellCount : GoodIn wsX9_term wsX0_cellCount := goodIn_r _ [52, 53, 71] (by decide +kernel) (by decide +kernel)
set_option maxRecDepth 20000 in
theorem gX9_term_X0_cellCount : GoodIn wsX9_term (wsV RX9 118 RX0 yX0_cellCount wsX0_cellCount) := goodIn_app (goodIn_of _ (by decide +kernel)) ggX9_term_X0_cellCount
theorem dX9_term_0 : decode cX9_term 0 = .ok (.iload_n 1, 1) := by decide +kernel
theorem dX9_term_1 : decode cX9_term 1 = .ok (.invokestatic 32, 3) := by decide +kernel
theorem dX9_term_4 : decode cX9_term 4 = .ok (.ifCond .eq 10, 3) := by decide +kernel
theorem dX9_term_7 : decode cX9_term 7 = .ok (.iload_n 2, 1) := by decide +kernel
theorem dX9_term_8 : decode cX9_term 8 = .ok (.invokestatic 32, 3) := by decide +kernel
theorem dX9_term_11 : decode cX9_term 11 = .ok (.ifCond .ne 5, 3) := by decide +kernel
theorem dX9_term_14 : decode cX9_term 14 = .ok (.iconst (-1), 1) := by decide +kernel
theorem dX9_term_15 : decode cX9_term 15 = .ok (.ireturn, 1) := by decide +kernel
theorem dX9_term_16 : decode cX9_term 16 = .ok (.aload_n 0, 1) := by decide +kernel
theorem dX9_term_17 : decode cX9_term 17 = .ok (.getfield 13, 3) := by decide +kernel
theorem dX9_term_20 : decode cX9_term 20 = .ok (.iload_n 2, 1) := by decide +kernel
theorem dX9_term_21 : decode cX9_term 21 = .ok (.aaload, 1) := by decide +kernel
theorem dX9_term_22 : decode cX9_term 22 = .ok (.invokestatic 173, 3) := by decide +kernel
theorem dX9_term_25 : decode cX9_term 25 = .ok (.istore 4, 2) := by decide +kernel
theorem dX9_term_27 : decode cX9_term 27 = .ok (.aload_n 0, 1) := by decide +kernel
theorem dX9_term_28 : decode cX9_term 28 = .ok (.getfield 13, 3) := by decide +kernel
theorem dX9_term_31 : decode cX9_term 31 = .ok (.iload_n 2, 1) := by decide +kernel
theorem dX9_term_32 : decode cX9_term 32 = .ok (.aaload, 1) := by decide +kernel
theorem dX9_term_33 : decode cX9_term 33 = .ok (.invokestatic 159, 3) := by decide +kernel
theorem dX9_term_36 : decode cX9_term 36 = .ok (.astore 5, 2) := by decide +kernel
theorem dX9_term_38 : decode cX9_term 38 = .ok (.iload 4, 2) := by decide +kernel
theorem dX9_term_40 : decode cX9_term 40 = .ok (.ifCond .ne 8, 3) := by decide +kernel
theorem dX9_term_43 : decode cX9_term 43 = .ok (.aload 5, 2) := by decide +kernel
theorem dX9_term_45 : decode cX9_term 45 = .ok (.ifnonnull 10, 3) := by decide +kernel
theorem dX9_term_48 : decode cX9_term 48 = .ok (.aload_n 0, 1) := by decide +kernel
theorem dX9_term_49 : decode cX9_term 49 = .ok (.iload 4, 2) := by decide +kernel
theorem dX9_term_51 : decode cX9_term 51 = .ok (.invokevirtual 36, 3) := by decide +kernel
theorem dX9_term_54 : decode cX9_term 54 = .ok (.ireturn, 1) := by decide +kernel
theorem dX9_term_55 : decode cX9_term 55 = .ok (.iload_n 3, 1) := by decide +kernel
theorem dX9_term_56 : decode cX9_term 56 = .ok (.ifCond .lt 12, 3) := by decide +kernel
theorem dX9_term_59 : decode cX9_term 59 = .ok (.iload_n 3, 1) := by decide +kernel
theorem dX9_term_60 : decode cX9_term 60 = .ok (.aload 5, 2) := by decide +kernel
theorem dX9_term_62 : decode cX9_term 62 = .ok (.getfield 176, 3) := by decide +kernel
theorem dX9_term_65 : decode cX9_term 65 = .ok (.if_icmp .lt 9, 3) := by decide +kernel
theorem dX9_term_68 : decode cX9_term 68 = .ok (.aload_n 0, 1) := by decide +kernel
theorem dX9_term_69 : decode cX9_term 69 = .ok (.iconst 3, 1) := by decide +kernel
theorem dX9_term_70 : decode cX9_term 70 = .ok (.invokevirtual 36, 3) := by decide +kernel
theorem dX9_term_73 : decode cX9_term 73 = .ok (.ireturn, 1) := by decide +kernel
theorem dX9_term_74 : decode cX9_term 74 = .ok (.aload 5, 2) := by decide +kernel
theorem dX9_term_76 : decode cX9_term 76 = .ok (.getfield 179, 3) := by decide +kernel
theorem dX9_term_79 : decode cX9_term 79 = .ok (.iload_n 3, 1) := by decide +kernel
theorem dX9_term_80 : decode cX9_term 80 = .ok (.aaload, 1) := by decide +kernel
theorem dX9_term_81 : decode cX9_term 81 = .ok (.astore 6, 2) := by decide +kernel
theorem dX9_term_83 : decode cX9_term 83 = .ok (.aload_n 0, 1) := by decide +kernel
theorem dX9_term_84 : decode cX9_term 84 = .ok (.getfield 13, 3) := by decide +kernel
theorem dX9_term_87 : decode cX9_term 87 = .ok (.iload_n 1, 1) := by decide +kernel
theorem dX9_term_88 : decode cX9_term 88 = .ok (.aload 6, 2) := by decide +kernel
theorem dX9_term_90 : decode cX9_term 90 = .ok (.aastore, 1) := by decide +kernel
theorem dX9_term_91 : decode cX9_term 91 = .ok (.aload 6, 2) := by decide +kernel
theorem dX9_term_93 : decode cX9_term 93 = .ok (.invokevirtual 118, 3) := by decide +kernel
theorem dX9_term_96 : decode cX9_term 96 = .ok (.ireturn, 1) := by decide +kernel
set_option maxRecDepth 20000 in
theorem ggX9_told_X9_isPlace : GoodIn wsX9_told wsX9_isPlace := goodIn_r _ [5] (by decide +kernel) (by decide +kernel)
set_option maxRecDepth 20000 in
theorem gX9_told_X9_isPlace : GoodIn wsX9_told (va_wsS RX9 32 yX9_isPlace wsX9_isPlace) := goodIn_app (goodIn_of _ (by decide +kernel)) ggX9_told_X9_isPlace
set_option maxRecDepth 20000 in
theorem ggX9_told_X9_tableFault : GoodIn wsX9_told wsX9_tableFault := goodIn_r _ [8, 9, 10, 4, 11, 12, 13, 14, 15, 16, 17, 18, 19, 20, 21, 22, 23, 24, 25, 26, 27, 28, 29, 30, 31, 32, 33, 34, 35, 36, 37, 38, 39] (by decide +kernel) (by decide +kernel)
set_option maxRecDepth 20000 in
theorem gX9_told_X9_tableFault : GoodIn wsX9_told (va_wsS RX9 173 yX9_tableFault wsX9_tableFault) := goodIn_app (goodIn_of _ (by decide +kernel)) ggX9_told_X9_tableFault
set_option maxRecDepth 20000 in
theorem ggX9_told_X9_asTable : GoodIn wsX9_told wsX9_asTable := goodIn_r _ [42, 43] (by decide +kernel) (by decide +kernel)
set_option maxRecDepth 20000 in
theorem gX9_told_X9_asTable : GoodIn wsX9_told (va_wsS RX9 159 yX9_asTable wsX9_asTable) := goodIn_app (goodIn_of _ (by decide +kernel)) ggX9_told_X9_asTable
set_option maxRecDepth 20000 in
theorem ggX9_told_X9_failed : GoodIn wsX9_told wsX9_failed := goodIn_r _ [47, 48, 60, 61, 62, 63, 64, 65] (by decide +kernel) (by decide +kernel)
set_option maxRecDepth 20000 in
theorem gX9_told_X9_failed : GoodIn wsX9_told (wsV RX9 36 RX9 yX9_failed wsX9_failed) := goodIn_app (goodIn_of _ (by decide +kernel)) ggX9_told_X9_failed
set_option maxRecDepth 20000 in
theorem ggX9_told_X7_figure : GoodIn wsX9_told wsX7_figure := goodIn_r _ [53, 54, 55, 56, 57, 66, 67, 68, 69, 70, 71, 72, 73, 74, 75, 76] (by decide +kernel) (by decide +kernel)
set_option maxRecDepth 20000 in
theorem gX9_told_X7_figure_u182X1 : GoodIn wsX9_told (va_wsU RX9 182 RX1 "KeptTerms$Table" ⟨"KeptTerms$Table", "figure", "(I)I"⟩ yX7_figure wsX7_figure) := goodIn_app (goodIn_of _ (by decide +kernel)) ggX9_told_X7_figure
set_option maxRecDepth 20000 in
theorem gX9_told_X7_figure : GoodIn wsX9_told (wsV RX9 182 RX7 yX7_figure wsX7_figure) := goodIn_app (goodIn_of _ (by decide +kernel)) ggX9_told_X7_figure
theorem dX9_told_0 : decode cX9_told 0 = .ok (.iload_n 1, 1) := by decide +kernel
theorem dX9_told_1 : decode cX9_told 1 = .ok (.invokestatic 32, 3) := by decide +kernel
theorem dX9_told_4 : decode cX9_told 4 = .ok (.ifCond .ne 5, 3) := by decide +kernel
theorem dX9_told_7 : decode cX9_told 7 = .ok (.iconst (-1), 1) := by decide +kernel
theorem dX9_told_8 : decode cX9_told 8 = .ok (.ireturn, 1) := by decide +kernel
theorem dX9_told_9 : decode cX9_told 9 = .ok (.iload_n 2, 1) := by decide +kernel
theorem dX9_told_10 : decode cX9_told 10 = .ok (.ifCond .lt 8, 3) := by decide +kernel
theorem dX9_told_13 : decode cX9_told 13 = .ok (.iload_n 2, 1) := by decide +kernel
theorem dX9_told_14 : decode cX9_told 14 = .ok (.iconst 3, 1) := by decide +kernel
theorem dX9_told_15 : decode cX9_told 15 = .ok (.if_icmp .le 6, 3) := by decide +kernel
theorem dX9_told_18 : decode cX9_told 18 = .ok (.bipush (-2), 2) := by decide +kernel
theorem dX9_told_20 : decode cX9_told 20 = .ok (.ireturn, 1) := by decide +kernel
theorem dX9_told_21 : decode cX9_told 21 = .ok (.aload_n 0, 1) := by decide +kernel
theorem dX9_told_22 : decode cX9_told 22 = .ok (.getfield 13, 3) := by decide +kernel
theorem dX9_told_25 : decode cX9_told 25 = .ok (.iload_n 1, 1) := by decide +kernel
theorem dX9_told_26 : decode cX9_told 26 = .ok (.aaload, 1) := by decide +kernel
theorem dX9_told_27 : decode cX9_told 27 = .ok (.invokestatic 173, 3) := by decide +kernel
theorem dX9_told_30 : decode cX9_told 30 = .ok (.istore_n 3, 1) := by decide +kernel
theorem dX9_told_31 : decode cX9_told 31 = .ok (.aload_n 0, 1) := by decide +kernel
theorem dX9_told_32 : decode cX9_told 32 = .ok (.getfield 13, 3) := by decide +kernel
theorem dX9_told_35 : decode cX9_told 35 = .ok (.iload_n 1, 1) := by decide +kernel
theorem dX9_told_36 : decode cX9_told 36 = .ok (.aaload, 1) := by decide +kernel
theorem dX9_told_37 : decode cX9_told 37 = .ok (.invokestatic 159, 3) := by decide +kernel
theorem dX9_told_40 : decode cX9_told 40 = .ok (.astore 4, 2) := by decide +kernel
theorem dX9_told_42 : decode cX9_told 42 = .ok (.iload_n 3, 1) := by decide +kernel
theorem dX9_told_43 : decode cX9_told 43 = .ok (.ifCond .ne 8, 3) := by decide +kernel
theorem dX9_told_46 : decode cX9_told 46 = .ok (.aload 4, 2) := by decide +kernel
theorem dX9_told_48 : decode cX9_told 48 = .ok (.ifnonnull 9, 3) := by decide +kernel
theorem dX9_told_51 : decode cX9_told 51 = .ok (.aload_n 0, 1) := by decide +kernel
theorem dX9_told_52 : decode cX9_told 52 = .ok (.iload_n 3, 1) := by decide +kernel
theorem dX9_told_53 : decode cX9_told 53 = .ok (.invokevirtual 36, 3) := by decide +kernel
theorem dX9_told_56 : decode cX9_told 56 = .ok (.ireturn, 1) := by decide +kernel
theorem dX9_told_57 : decode cX9_told 57 = .ok (.aload 4, 2) := by decide +kernel
theorem dX9_told_59 : decode cX9_told 59 = .ok (.iload_n 2, 1) := by decide +kernel
theorem dX9_told_60 : decode cX9_told 60 = .ok (.invokevirtual 182, 3) := by decide +kernel
theorem dX9_told_63 : decode cX9_told 63 = .ok (.ireturn, 1) := by decide +kernel
set_option maxRecDepth 20000 in
theorem ggX9_slot_X9_isPlace : GoodIn wsX9_slot wsX9_isPlace := goodIn_r _ [5] (by decide +kernel) (by decide +kernel)
set_option maxRecDepth 20000 in
theorem gX9_slot_X9_isPlace : GoodIn wsX9_slot (va_wsS RX9 32 yX9_isPlace wsX9_isPlace) := goodIn_app (goodIn_of _ (by decide +kernel)) ggX9_slot_X9_isPlace
set_option maxRecDepth 20000 in
theorem ggX9_slot_X9_tableFault : GoodIn wsX9_slot wsX9_tableFault := goodIn_r _ [8, 9, 10, 4, 11, 12, 13, 14, 15, 16, 17, 18, 19, 20, 21, 22, 23, 24, 25, 26, 27, 28, 29, 30, 31, 32, 33, 34, 35, 36, 37, 38, 39] (by decide +kernel) (by decide +kernel)
set_option maxRecDepth 20000 in
theorem gX9_slot_X9_tableFault : GoodIn wsX9_slot (va_wsS RX9 173 yX9_tableFault wsX9_tableFault) := goodIn_app (goodIn_of _ (by decide +kernel)) ggX9_slot_X9_tableFault
set_option maxRecDepth 20000 in
theorem ggX9_slot_X9_asTable : GoodIn wsX9_slot wsX9_asTable := goodIn_r _ [42, 43] (by decide +kernel) (by decide +kernel)
set_option maxRecDepth 20000 in
theorem gX9_slot_X9_asTable : GoodIn wsX9_slot (va_wsS RX9 159 yX9_asTable wsX9_asTable) := goodIn_app (goodIn_of _ (by decide +kernel)) ggX9_slot_X9_asTable
set_option maxRecDepth 20000 in
theorem ggX9_slot_X9_failed : GoodIn wsX9_slot wsX9_failed := goodIn_r _ [47, 48, 49, 50, 51, 52, 53, 54] (by decide +kernel) (by decide +kernel)
set_option maxRecDepth 20000 in
theorem gX9_slot_X9_failed : GoodIn wsX9_slot (wsV RX9 36 RX9 yX9_failed wsX9_failed) := goodIn_app (goodIn_of _ (by decide +kernel)) ggX9_slot_X9_failed
theorem dX9_slot_0 : decode cX9_slot 0 = .ok (.iload_n 1, 1) := by decide +kernel
theorem dX9_slot_1 : decode cX9_slot 1 = .ok (.invokestatic 32, 3) := by decide +kernel
theorem dX9_slot_4 : decode cX9_slot 4 = .ok (.ifCond .ne 5, 3) := by decide +kernel
theorem dX9_slot_7 : decode cX9_slot 7 = .ok (.iconst (-1), 1) := by decide +kernel
theorem dX9_slot_8 : decode cX9_slot 8 = .ok (.ireturn, 1) := by decide +kernel
theorem dX9_slot_9 : decode cX9_slot 9 = .ok (.aload_n 0, 1) := by decide +kernel
theorem dX9_slot_10 : decode cX9_slot 10 = .ok (.getfield 13, 3) := by decide +kernel
theorem dX9_slot_13 : decode cX9_slot 13 = .ok (.iload_n 1, 1) := by decide +kernel
theorem dX9_slot_14 : decode cX9_slot 14 = .ok (.aaload, 1) := by decide +kernel
theorem dX9_slot_15 : decode cX9_slot 15 = .ok (.invokestatic 173, 3) := by decide +kernel
theorem dX9_slot_18 : decode cX9_slot 18 = .ok (.istore_n 3, 1) := by decide +kernel
theorem dX9_slot_19 : decode cX9_slot 19 = .ok (.aload_n 0, 1) := by decide +kernel
theorem dX9_slot_20 : decode cX9_slot 20 = .ok (.getfield 13, 3) := by decide +kernel
theorem dX9_slot_23 : decode cX9_slot 23 = .ok (.iload_n 1, 1) := by decide +kernel
theorem dX9_slot_24 : decode cX9_slot 24 = .ok (.aaload, 1) := by decide +kernel
theorem dX9_slot_25 : decode cX9_slot 25 = .ok (.invokestatic 159, 3) := by decide +kernel
theorem dX9_slot_28 : decode cX9_slot 28 = .ok (.astore 4, 2) := by decide +kernel
theorem dX9_slot_30 : decode cX9_slot 30 = .ok (.iload_n 3, 1) := by decide +kernel
theorem dX9_slot_31 : decode cX9_slot 31 = .ok (.ifCond .ne 8, 3) := by decide +kernel
theorem dX9_slot_34 : decode cX9_slot 34 = .ok (.aload 4, 2) := by decide +kernel
theorem dX9_slot_36 : decode cX9_slot 36 = .ok (.ifnonnull 9, 3) := by decide +kernel
theorem dX9_slot_39 : decode cX9_slot 39 = .ok (.aload_n 0, 1) := by decide +kernel
theorem dX9_slot_40 : decode cX9_slot 40 = .ok (.iload_n 3, 1) := by decide +kernel
theorem dX9_slot_41 : decode cX9_slot 41 = .ok (.invokevirtual 36, 3) := by decide +kernel
theorem dX9_slot_44 : decode cX9_slot 44 = .ok (.ireturn, 1) := by decide +kernel
theorem dX9_slot_45 : decode cX9_slot 45 = .ok (.iload_n 2, 1) := by decide +kernel
theorem dX9_slot_46 : decode cX9_slot 46 = .ok (.ifCond .lt 13, 3) := by decide +kernel
theorem dX9_slot_49 : decode cX9_slot 49 = .ok (.iload_n 2, 1) := by decide +kernel
theorem dX9_slot_50 : decode cX9_slot 50 = .ok (.aload 4, 2) := by decide +kernel
theorem dX9_slot_52 : decode cX9_slot 52 = .ok (.getfield 185, 3) := by decide +kernel
theorem dX9_slot_55 : decode cX9_slot 55 = .ok (.arraylength, 1) := by decide +kernel
theorem dX9_slot_56 : decode cX9_slot 56 = .ok (.if_icmp .lt 9, 3) := by decide +kernel
theorem dX9_slot_59 : decode cX9_slot 59 = .ok (.aload_n 0, 1) := by decide +kernel
theorem dX9_slot_60 : decode cX9_slot 60 = .ok (.iconst 3, 1) := by decide +kernel
theorem dX9_slot_61 : decode cX9_slot 61 = .ok (.invokevirtual 36, 3) := by decide +kernel
theorem dX9_slot_64 : decode cX9_slot 64 = .ok (.ireturn, 1) := by decide +kernel
theorem dX9_slot_65 : decode cX9_slot 65 = .ok (.aload 4, 2) := by decide +kernel
theorem dX9_slot_67 : decode cX9_slot 67 = .ok (.getfield 185, 3) := by decide +kernel
theorem dX9_slot_70 : decode cX9_slot 70 = .ok (.iload_n 2, 1) := by decide +kernel
theorem dX9_slot_71 : decode cX9_slot 71 = .ok (.iaload, 1) := by decide +kernel
theorem dX9_slot_72 : decode cX9_slot 72 = .ok (.ireturn, 1) := by decide +kernel
set_option maxRecDepth 20000 in
theorem ggX9_ranked_X9_isPlace : GoodIn wsX9_ranked wsX9_isPlace := goodIn_r _ [6] (by decide +kernel) (by decide +kernel)
set_option maxRecDepth 20000 in
theorem gX9_ranked_X9_isPlace : GoodIn wsX9_ranked (va_wsS RX9 32 yX9_isPlace wsX9_isPlace) := goodIn_app (goodIn_of _ (by decide +kernel)) ggX9_ranked_X9_isPlace
set_option maxRecDepth 20000 in
theorem ggX9_ranked_X9_tableFault : GoodIn wsX9_ranked wsX9_tableFault := goodIn_r _ [9, 10, 11, 5, 12, 13, 14, 15, 16, 17, 18, 19, 20, 21, 22, 23, 24, 25, 26, 27, 28, 29, 30, 31, 32, 33, 34, 35, 36, 37, 38, 39, 40] (by decide +kernel) (by decide +kernel)
set_option maxRecDepth 20000 in
theorem gX9_ranked_X9_tableFault : GoodIn wsX9_ranked (va_wsS RX9 173 yX9_tableFault wsX9_tableFault) := goodIn_app (goodIn_of _ (by decide +kernel)) ggX9_ranked_X9_tableFault
set_option maxRecDepth 20000 in
theorem ggX9_ranked_X9_asTable : GoodIn wsX9_ranked wsX9_asTable := goodIn_r _ [43, 44] (by decide +kernel) (by decide +kernel)
set_option maxRecDepth 20000 in
theorem gX9_ranked_X9_asTable : GoodIn wsX9_ranked (va_wsS RX9 159 yX9_asTable wsX9_asTable) := goodIn_app (goodIn_of _ (by decide +kernel)) ggX9_ranked_X9_asTable
set_option maxRecDepth 20000 in
theorem ggX9_ranked_X9_failed : GoodIn wsX9_ranked wsX9_failed := goodIn_r _ [48, 49, 76, 77, 78, 79, 80, 81] (by decide +kernel) (by decide +kernel)
set_option maxRecDepth 20000 in
theorem gX9_ranked_X9_failed : GoodIn wsX9_ranked (wsV RX9 36 RX9 yX9_failed wsX9_failed) := goodIn_app (goodIn_of _ (by decide +kernel)) ggX9_ranked_X9_failed
set_option maxRecDepth 20000 in
theorem ggX9_ranked_X7_rankInto : GoodIn wsX9_ranked wsX7_rankInto := goodIn_r _ [54, 55, 56, 57, 58, 59, 60, 61, 62, 63, 23, 64, 65, 66, 67, 68, 69, 70, 71, 72, 73, 82, 83, 84, 85, 86, 87, 88, 89, 90, 91, 92, 93] (by decide +kernel) (by decide +kernel)
set_option maxRecDepth 20000 in
theorem gX9_ranked_X7_rankInto_u188X1 : GoodIn wsX9_ranked (va_wsU RX9 188 RX1 "KeptTerms$Table" ⟨"KeptTerms$Table", "rankInto", "([I)V"⟩ yX7_rankInto wsX7_rankInto) := goodIn_app (goodIn_of _ (by decide +kernel)) ggX9_ranked_X7_rankInto
set_option maxRecDepth 20000 in
theorem gX9_ranked_X7_rankInto : GoodIn wsX9_ranked (wsV RX9 188 RX7 yX7_rankInto wsX7_rankInto) := goodIn_app (goodIn_of _ (by decide +kernel)) ggX9_ranked_X7_rankInto
theorem dX9_ranked_0 : decode cX9_ranked 0 = .ok (.iload_n 1, 1) := by decide +kernel
theorem dX9_ranked_1 : decode cX9_ranked 1 = .ok (.invokestatic 32, 3) := by decide +kernel
theorem dX9_ranked_4 : decode cX9_ranked 4 = .ok (.ifCond .ne 5, 3) := by decide +kernel
theorem dX9_ranked_7 : decode cX9_ranked 7 = .ok (.iconst (-1), 1) := by decide +kernel
theorem dX9_ranked_8 : decode cX9_ranked 8 = .ok (.ireturn, 1) := by decide +kernel
theorem dX9_ranked_9 : decode cX9_ranked 9 = .ok (.aload_n 0, 1) := by decide +kernel
theorem dX9_ranked_10 : decode cX9_ranked 10 = .ok (.getfield 13, 3) := by decide +kernel
theorem dX9_ranked_13 : decode cX9_ranked 13 = .ok (.iload_n 1, 1) := by decide +kernel
theorem dX9_ranked_14 : decode cX9_ranked 14 = .ok (.aaload, 1) := by decide +kernel
theorem dX9_ranked_15 : decode cX9_ranked 15 = .ok (.invokestatic 173, 3) := by decide +kernel
theorem dX9_ranked_18 : decode cX9_ranked 18 = .ok (.istore_n 3, 1) := by decide +kernel
theorem dX9_ranked_19 : decode cX9_ranked 19 = .ok (.aload_n 0, 1) := by decide +kernel
theorem dX9_ranked_20 : decode cX9_ranked 20 = .ok (.getfield 13, 3) := by decide +kernel
theorem dX9_ranked_23 : decode cX9_ranked 23 = .ok (.iload_n 1, 1) := by decide +kernel
theorem dX9_ranked_24 : decode cX9_ranked 24 = .ok (.aaload, 1) := by decide +kernel
theorem dX9_ranked_25 : decode cX9_ranked 25 = .ok (.invokestatic 159, 3) := by decide +kernel
theorem dX9_ranked_28 : decode cX9_ranked 28 = .ok (.astore 4, 2) := by decide +kernel
theorem dX9_ranked_30 : decode cX9_ranked 30 = .ok (.iload_n 3, 1) := by decide +kernel
theorem dX9_ranked_31 : decode cX9_ranked 31 = .ok (.ifCond .ne 8, 3) := by decide +kernel
theorem dX9_ranked_34 : decode cX9_ranked 34 = .ok (.aload 4, 2) := by decide +kernel
theorem dX9_ranked_36 : decode cX9_ranked 36 = .ok (.ifnonnull 9, 3) := by decide +kernel
theorem dX9_ranked_39 : decode cX9_ranked 39 = .ok (.aload_n 0, 1) := by decide +kernel
theorem dX9_ranked_40 : decode cX9_ranked 40 = .ok (.iload_n 3, 1) := by decide +kernel
theorem dX9_ranked_41 : decode cX9_ranked 41 = .ok (.invokevirtual 36, 3) := by decide +kernel
theorem dX9_ranked_44 : decode cX9_ranked 44 = .ok (.ireturn, 1) := by decide +kernel
theorem dX9_ranked_45 : decode cX9_ranked 45 = .ok (.iload_n 2, 1) := by decide +kernel
theorem dX9_ranked_46 : decode cX9_ranked 46 = .ok (.ifCond .lt 12, 3) := by decide +kernel
theorem dX9_ranked_49 : decode cX9_ranked 49 = .ok (.iload_n 2, 1) := by decide +kernel
theorem dX9_ranked_50 : decode cX9_ranked 50 = .ok (.aload 4, 2) := by decide +kernel
theorem dX9_ranked_52 : decode cX9_ranked 52 = .ok (.getfield 176, 3) := by decide +kernel
theorem dX9_ranked_55 : decode cX9_ranked 55 = .ok (.if_icmp .lt 9, 3) := by decide +kernel
theorem dX9_ranked_58 : decode cX9_ranked 58 = .ok (.aload_n 0, 1) := by decide +kernel
theorem dX9_ranked_59 : decode cX9_ranked 59 = .ok (.iconst 3, 1) := by decide +kernel
theorem dX9_ranked_60 : decode cX9_ranked 60 = .ok (.invokevirtual 36, 3) := by decide +kernel
theorem dX9_ranked_63 : decode cX9_ranked 63 = .ok (.ireturn, 1) := by decide +kernel
theorem dX9_ranked_64 : decode cX9_ranked 64 = .ok (.aload 4, 2) := by decide +kernel
theorem dX9_ranked_66 : decode cX9_ranked 66 = .ok (.aload_n 0, 1) := by decide +kernel
theorem dX9_ranked_67 : decode cX9_ranked 67 = .ok (.getfield 24, 3) := by decide +kernel
theorem dX9_ranked_70 : decode cX9_ranked 70 = .ok (.invokevirtual 188, 3) := by decide +kernel
theorem dX9_ranked_73 : decode cX9_ranked 73 = .ok (.aload_n 0, 1) := by decide +kernel
theorem dX9_ranked_74 : decode cX9_ranked 74 = .ok (.getfield 24, 3) := by decide +kernel
theorem dX9_ranked_77 : decode cX9_ranked 77 = .ok (.iload_n 2, 1) := by decide +kernel
theorem dX9_ranked_78 : decode cX9_ranked 78 = .ok (.iaload, 1) := by decide +kernel
theorem dX9_ranked_79 : decode cX9_ranked 79 = .ok (.ireturn, 1) := by decide +kernel
set_option maxRecDepth 20000 in
theorem ggX9_merge_X9_isPlace : GoodIn wsX9_merge wsX9_isPlace := goodIn_r _ [5] (by decide +kernel) (by decide +kernel)
set_option maxRecDepth 20000 in
theorem gX9_merge_X9_isPlace : GoodIn wsX9_merge (va_wsS RX9 32 yX9_isPlace wsX9_isPlace) := goodIn_app (goodIn_of _ (by decide +kernel)) ggX9_merge_X9_isPlace
set_option maxRecDepth 20000 in
theorem ggX9_merge_X9_mayBeCast : GoodIn wsX9_merge wsX9_mayBeCast := goodIn_r _ [8, 9, 10, 4, 11, 12, 13, 14, 15, 16, 17, 18, 19, 20, 21, 22, 23, 24, 25, 26, 27, 28, 29, 30, 31, 32, 33, 34, 35, 36] (by decide +kernel) (by decide +kernel)
set_option maxRecDepth 20000 in
theorem gX9_merge_X9_mayBeCast : GoodIn wsX9_merge (va_wsS RX9 65 yX9_mayBeCast wsX9_mayBeCast) := goodIn_app (goodIn_of _ (by decide +kernel)) ggX9_merge_X9_mayBeCast
set_option maxRecDepth 20000 in
theorem ggX9_merge_X9_failed : GoodIn wsX9_merge wsX9_failed := goodIn_r _ [40, 41, 195, 196, 197, 198, 199, 200] (by decide +kernel) (by decide +kernel)
set_option maxRecDepth 20000 in
theorem gX9_merge_X9_failed : GoodIn wsX9_merge (wsV RX9 36 RX9 yX9_failed wsX9_failed) := goodIn_app (goodIn_of _ (by decide +kernel)) ggX9_merge_X9_failed
set_option maxRecDepth 20000 in
theorem ggX9_merge_X9_asTable : GoodIn wsX9_merge wsX9_asTable := goodIn_r _ [44, 45] (by decide +kernel) (by decide +kernel)
set_option maxRecDepth 20000 in
theorem gX9_merge_X9_asTable : GoodIn wsX9_merge (va_wsS RX9 159 yX9_asTable wsX9_asTable) := goodIn_app (goodIn_of _ (by decide +kernel)) ggX9_merge_X9_asTable
set_option maxRecDepth 20000 in
theorem ggX9_merge_X7_admit : GoodIn wsX9_merge wsX7_admit := goodIn_r _ [50, 51, 52, 53, 54, 55, 56, 57, 35, 58, 59, 60, 61, 62, 63, 64, 65, 66, 67, 68, 69, 70, 71, 72, 73, 74, 19, 75, 76, 77, 78, 31, 79, 80, 81, 82, 83, 84, 85, 86, 87, 88, 89, 90, 91, 92, 93, 94, 95, 96, 97, 98, 99, 100, 101, 102, 103, 104, 105, 106, 107, 108, 109, 110, 111, 112, 113, 23, 114, 115, 116, 117, 118, 119, 120, 121, 122, 123, 124, 125, 126, 127, 128, 129, 130, 131, 132, 133, 134, 135, 136, 137, 138, 139, 140, 141, 142, 143, 144, 145, 146, 147, 148, 149, 150, 151, 152, 153, 154, 155, 156, 157, 158, 159, 160, 161, 162, 163, 164, 165, 166, 167, 168, 169, 170, 171, 172, 173, 174, 175, 176, 177, 178, 179, 180, 181, 182, 183, 184, 185, 186, 201, 202, 203, 204, 205, 206, 207, 208, 209, 210, 211, 212, 213, 214, 215] (by decide +kernel) (by decide +kernel)
set_option maxRecDepth 20000 in
theorem gX9_merge_X7_admit_u163X1 : GoodIn wsX9_merge (va_wsU RX9 163 RX1 "KeptTerms$Table" ⟨"KeptTerms$Table", nmTab, "(LKeptTerms$Bytes;)I"⟩ yX7_admit wsX7_admit) := goodIn_app (goodIn_of _ (by decide +kernel)) ggX9_merge_X7_admit
set_option maxRecDepth 20000 in
theorem gX9_merge_X7_admit : GoodIn wsX9_merge (wsV RX9 163 RX7 yX7_admit wsX7_admit) := goodIn_app (goodIn_of _ (by decide +kernel)) ggX9_merge_X7_admit
set_option maxRecDepth 20000 in
theorem ggX9_merge_X9_counted : GoodIn wsX9_merge wsX9_counted := goodIn_r _ [192, 193, 194, 195, 196, 197, 198, 199, 200, 201, 202, 203, 204, 205, 206, 207, 208, 209, 210, 211] (by decide +kernel) (by decide +kernel)
set_option maxRecDepth 20000 in
theorem gX9_merge_X9_counted : GoodIn wsX9_merge (wsV RX9 166 RX9 yX9_counted wsX9_counted) := goodIn_app (goodIn_of _ (by decide +kernel)) ggX9_merge_X9_counted
theorem dX9_merge_0 : decode cX9_merge 0 = .ok (.iload_n 1, 1) := by decide +kernel
theorem dX9_merge_1 : decode cX9_merge 1 = .ok (.invokestatic 32, 3) := by decide +kernel
theorem dX9_merge_4 : decode cX9_merge 4 = .ok (.ifCond .eq 10, 3) := by decide +kernel
theorem dX9_merge_7 : decode cX9_merge 7 = .ok (.iload_n 2, 1) := by decide +kernel
theorem dX9_merge_8 : decode cX9_merge 8 = .ok (.invokestatic 32, 3) := by decide +kernel
theorem dX9_merge_11 : decode cX9_merge 11 = .ok (.ifCond .ne 5, 3) := by decide +kernel
theorem dX9_merge_14 : decode cX9_merge 14 = .ok (.iconst (-1), 1) := by decide +kernel
theorem dX9_merge_15 : decode cX9_merge 15 = .ok (.ireturn, 1) := by decide +kernel
theorem dX9_merge_16 : decode cX9_merge 16 = .ok (.aload_n 0, 1) := by decide +kernel
theorem dX9_merge_17 : decode cX9_merge 17 = .ok (.getfield 13, 3) := by decide +kernel
theorem dX9_merge_20 : decode cX9_merge 20 = .ok (.iload_n 1, 1) := by decide +kernel
theorem dX9_merge_21 : decode cX9_merge 21 = .ok (.aaload, 1) := by decide +kernel
theorem dX9_merge_22 : decode cX9_merge 22 = .ok (.iconst 4, 1) := by decide +kernel
theorem dX9_merge_23 : decode cX9_merge 23 = .ok (.invokestatic 65, 3) := by decide +kernel
theorem dX9_merge_26 : decode cX9_merge 26 = .ok (.ifCond .eq 16, 3) := by decide +kernel
theorem dX9_merge_29 : decode cX9_merge 29 = .ok (.aload_n 0, 1) := by decide +kernel
theorem dX9_merge_30 : decode cX9_merge 30 = .ok (.getfield 13, 3) := by decide +kernel
theorem dX9_merge_33 : decode cX9_merge 33 = .ok (.iload_n 2, 1) := by decide +kernel
theorem dX9_merge_34 : decode cX9_merge 34 = .ok (.aaload, 1) := by decide +kernel
theorem dX9_merge_35 : decode cX9_merge 35 = .ok (.iconst 4, 1) := by decide +kernel
theorem dX9_merge_36 : decode cX9_merge 36 = .ok (.invokestatic 65, 3) := by decide +kernel
theorem dX9_merge_39 : decode cX9_merge 39 = .ok (.ifCond .ne 9, 3) := by decide +kernel
theorem dX9_merge_42 : decode cX9_merge 42 = .ok (.aload_n 0, 1) := by decide +kernel
theorem dX9_merge_43 : decode cX9_merge 43 = .ok (.iconst 2, 1) := by decide +kernel
theorem dX9_merge_44 : decode cX9_merge 44 = .ok (.invokevirtual 36, 3) := by decide +kernel
theorem dX9_merge_47 : decode cX9_merge 47 = .ok (.ireturn, 1) := by decide +kernel
theorem dX9_merge_48 : decode cX9_merge 48 = .ok (.aload_n 0, 1) := by decide +kernel
theorem dX9_merge_49 : decode cX9_merge 49 = .ok (.getfield 13, 3) := by decide +kernel
theorem dX9_merge_52 : decode cX9_merge 52 = .ok (.iload_n 1, 1) := by decide +kernel
theorem dX9_merge_53 : decode cX9_merge 53 = .ok (.aaload, 1) := by decide +kernel
theorem dX9_merge_54 : decode cX9_merge 54 = .ok (.invokestatic 159, 3) := by decide +kernel
theorem dX9_merge_57 : decode cX9_merge 57 = .ok (.astore_n 3, 1) := by decide +kernel
theorem dX9_merge_58 : decode cX9_merge 58 = .ok (.aload_n 0, 1) := by decide +kernel
theorem dX9_merge_59 : decode cX9_merge 59 = .ok (.getfield 13, 3) := by decide +kernel
theorem dX9_merge_62 : decode cX9_merge 62 = .ok (.iload_n 2, 1) := by decide +kernel
theorem dX9_merge_63 : decode cX9_merge 63 = .ok (.aaload, 1) := by decide +kernel
theorem dX9_merge_64 : decode cX9_merge 64 = .ok (.invokestatic 159, 3) := by decide +kernel
theorem dX9_merge_67 : decode cX9_merge 67 = .ok (.astore 4, 2) := by decide +kernel
theorem dX9_merge_69 : decode cX9_merge 69 = .ok (.aload_n 3, 1) := by decide +kernel
theorem dX9_merge_70 : decode cX9_merge 70 = .ok (.ifnull 8, 3) := by decide +kernel
theorem dX9_merge_73 : decode cX9_merge 73 = .ok (.aload 4, 2) := by decide +kernel
theorem dX9_merge_75 : decode cX9_merge 75 = .ok (.ifnonnull 9, 3) := by decide +kernel
theorem dX9_merge_78 : decode cX9_merge 78 = .ok (.aload_n 0, 1) := by decide +kernel
theorem dX9_merge_79 : decode cX9_merge 79 = .ok (.iconst 1, 1) := by decide +kernel
theorem dX9_merge_80 : decode cX9_merge 80 = .ok (.invokevirtual 36, 3) := by decide +kernel
theorem dX9_merge_83 : decode cX9_merge 83 = .ok (.ireturn, 1) := by decide +kernel
theorem dX9_merge_84 : decode cX9_merge 84 = .ok (.aload_n 3, 1) := by decide +kernel
theorem dX9_merge_85 : decode cX9_merge 85 = .ok (.getfield 176, 3) := by decide +kernel
theorem dX9_merge_88 : decode cX9_merge 88 = .ok (.istore 5, 2) := by decide +kernel
theorem dX9_merge_90 : decode cX9_merge 90 = .ok (.aload 4, 2) := by decide +kernel
theorem dX9_merge_92 : decode cX9_merge 92 = .ok (.getfield 176, 3) := by decide +kernel
theorem dX9_merge_95 : decode cX9_merge 95 = .ok (.istore 6, 2) := by decide +kernel
theorem dX9_merge_97 : decode cX9_merge 97 = .ok (.iconst 0, 1) := by decide +kernel
theorem dX9_merge_98 : decode cX9_merge 98 = .ok (.istore 7, 2) := by decide +kernel
theorem dX9_merge_100 : decode cX9_merge 100 = .ok (.iload 7, 2) := by decide +kernel
theorem dX9_merge_102 : decode cX9_merge 102 = .ok (.iload 6, 2) := by decide +kernel
theorem dX9_merge_104 : decode cX9_merge 104 = .ok (.if_icmp .ge 34, 3) := by decide +kernel
theorem dX9_merge_107 : decode cX9_merge 107 = .ok (.aload_n 0, 1) := by decide +kernel
theorem dX9_merge_108 : decode cX9_merge 108 = .ok (.aload_n 3, 1) := by decide +kernel
theorem dX9_merge_109 : decode cX9_merge 109 = .ok (.aload_n 3, 1) := by decide +kernel
theorem dX9_merge_110 : decode cX9_merge 110 = .ok (.aload 4, 2) := by decide +kernel
theorem dX9_merge_112 : decode cX9_merge 112 = .ok (.getfield 179, 3) := by decide +kernel
theorem dX9_merge_115 : decode cX9_merge 115 = .ok (.iload 7, 2) := by decide +kernel
theorem dX9_merge_117 : decode cX9_merge 117 = .ok (.aaload, 1) := by decide +kernel
theorem dX9_merge_118 : decode cX9_merge 118 = .ok (.invokevirtual 163, 3) := by decide +kernel
theorem dX9_merge_121 : decode cX9_merge 121 = .ok (.invokevirtual 166, 3) := by decide +kernel
theorem dX9_merge_124 : decode cX9_merge 124 = .ok (.bipush (-4), 2) := by decide +kernel
theorem dX9_merge_126 : decode cX9_merge 126 = .ok (.if_icmp .ne 6, 3) := by decide +kernel
theorem dX9_merge_129 : decode cX9_merge 129 = .ok (.bipush (-4), 2) := by decide +kernel
theorem dX9_merge_131 : decode cX9_merge 131 = .ok (.ireturn, 1) := by decide +kernel
theorem dX9_merge_132 : decode cX9_merge 132 = .ok (.iinc 7 1, 3) := by decide +kernel
theorem dX9_merge_135 : decode cX9_merge 135 = .ok (.goto (-35), 3) := by decide +kernel
theorem dX9_merge_138 : decode cX9_merge 138 = .ok (.aload_n 3, 1) := by decide +kernel
theorem dX9_merge_139 : decode cX9_merge 139 = .ok (.getfield 176, 3) := by decide +kernel
theorem dX9_merge_142 : decode cX9_merge 142 = .ok (.iload 5, 2) := by decide +kernel
theorem dX9_merge_144 : decode cX9_merge 144 = .ok (.isub, 1) := by decide +kernel
theorem dX9_merge_145 : decode cX9_merge 145 = .ok (.ireturn, 1) := by decide +kernel
theorem dX9_kept_0 : decode cX9_kept 0 = .ok (.aload_n 0, 1) := by decide +kernel
theorem dX9_kept_1 : decode cX9_kept 1 = .ok (.getfield 20, 3) := by decide +kernel
theorem dX9_kept_4 : decode cX9_kept 4 = .ok (.getfield 192, 3) := by decide +kernel
theorem dX9_kept_7 : decode cX9_kept 7 = .ok (.ireturn, 1) := by decide +kernel
theorem dX9_mean_0 : decode cX9_mean 0 = .ok (.aload_n 0, 1) := by decide +kernel
theorem dX9_mean_1 : decode cX9_mean 1 = .ok (.getfield 195, 3) := by decide +kernel
theorem dX9_mean_4 : decode cX9_mean 4 = .ok (.lconst 0, 1) := by decide +kernel
theorem dX9_mean_5 : decode cX9_mean 5 = .ok (.lcmp, 1) := by decide +kernel
theorem dX9_mean_6 : decode cX9_mean 6 = .ok (.ifCond .ne 13, 3) := by decide +kernel
theorem dX9_mean_9 : decode cX9_mean 9 = .ok (.new 199, 3) := by decide +kernel
theorem dX9_mean_12 : decode cX9_mean 12 = .ok (.dup, 1) := by decide +kernel
theorem dX9_mean_13 : decode cX9_mean 13 = .ok (.ldc 201, 2) := by decide +kernel
theorem dX9_mean_15 : decode cX9_mean 15 = .ok (.invokespecial 203, 3) := by decide +kernel
theorem dX9_mean_18 : decode cX9_mean 18 = .ok (.athrow, 1) := by decide +kernel
theorem dX9_mean_19 : decode cX9_mean 19 = .ok (.aload_n 0, 1) := by decide +kernel
theorem dX9_mean_20 : decode cX9_mean 20 = .ok (.getfield 206, 3) := by decide +kernel
theorem dX9_mean_23 : decode cX9_mean 23 = .ok (.aload_n 0, 1) := by decide +kernel
theorem dX9_mean_24 : decode cX9_mean 24 = .ok (.getfield 195, 3) := by decide +kernel
theorem dX9_mean_27 : decode cX9_mean 27 = .ok (.ldiv, 1) := by decide +kernel
theorem dX9_mean_28 : decode cX9_mean 28 = .ok (.l2i, 1) := by decide +kernel
theorem dX9_mean_29 : decode cX9_mean 29 = .ok (.ireturn, 1) := by decide +kernel
theorem dX9_isPlace_0 : decode cX9_isPlace 0 = .ok (.iload_n 0, 1) := by decide +kernel
theorem dX9_isPlace_1 : decode cX9_isPlace 1 = .ok (.ifCond .lt 13, 3) := by decide +kernel
theorem dX9_isPlace_4 : decode cX9_isPlace 4 = .ok (.iload_n 0, 1) := by decide +kernel
theorem dX9_isPlace_5 : decode cX9_isPlace 5 = .ok (.bipush 10, 2) := by decide +kernel
theorem dX9_isPlace_7 : decode cX9_isPlace 7 = .ok (.if_icmp .ge 7, 3) := by decide +kernel
theorem dX9_isPlace_10 : decode cX9_isPlace 10 = .ok (.iconst 1, 1) := by decide +kernel
theorem dX9_isPlace_11 : decode cX9_isPlace 11 = .ok (.goto 4, 3) := by decide +kernel
theorem dX9_isPlace_14 : decode cX9_isPlace 14 = .ok (.iconst 0, 1) := by decide +kernel
theorem dX9_isPlace_15 : decode cX9_isPlace 15 = .ok (.ireturn, 1) := by decide +kernel
theorem dX9_isNumbersType_0 : decode cX9_isNumbersType 0 = .ok (.iload_n 0, 1) := by decide +kernel
theorem dX9_isNumbersType_1 : decode cX9_isNumbersType 1 = .ok (.iconst 1, 1) := by decide +kernel
theorem dX9_isNumbersType_2 : decode cX9_isNumbersType 2 = .ok (.if_icmp .eq 8, 3) := by decide +kernel
theorem dX9_isNumbersType_5 : decode cX9_isNumbersType 5 = .ok (.iload_n 0, 1) := by decide +kernel
theorem dX9_isNumbersType_6 : decode cX9_isNumbersType 6 = .ok (.iconst 2, 1) := by decide +kernel
theorem dX9_isNumbersType_7 : decode cX9_isNumbersType 7 = .ok (.if_icmp .ne 7, 3) := by decide +kernel
theorem dX9_isNumbersType_10 : decode cX9_isNumbersType 10 = .ok (.iconst 1, 1) := by decide +kernel
theorem dX9_isNumbersType_11 : decode cX9_isNumbersType 11 = .ok (.goto 4, 3) := by decide +kernel
theorem dX9_isNumbersType_14 : decode cX9_isNumbersType 14 = .ok (.iconst 0, 1) := by decide +kernel
theorem dX9_isNumbersType_15 : decode cX9_isNumbersType 15 = .ok (.ireturn, 1) := by decide +kernel
set_option maxRecDepth 20000 in
theorem ggX9_kindOf_X0_kind : GoodIn wsX9_kindOf wsX0_kind := goodIn_r _ [6] (by decide +kernel) (by decide +kernel)
set_option maxRecDepth 20000 in
theorem gX9_kindOf_X0_kind_u209X0 : GoodIn wsX9_kindOf (va_wsU RX9 209 RX0 "KeptTerms$Thing" ⟨"KeptTerms$Thing", "kind", "()I"⟩ yX0_kind wsX0_kind) := goodIn_app (goodIn_of _ (by decide +kernel)) ggX9_kindOf_X0_kind
set_option maxRecDepth 20000 in
theorem ggX9_kindOf_X1_kind : GoodIn wsX9_kindOf wsX1_kind := goodIn_r _ [10] (by decide +kernel) (by decide +kernel)
set_option maxRecDepth 20000 in
theorem gX9_kindOf_X1_kind_u209X1 : GoodIn wsX9_kindOf (va_wsU RX9 209 RX1 "KeptTerms$Thing" ⟨"KeptTerms$Thing", "kind", "()I"⟩ yX1_kind wsX1_kind) := goodIn_app (goodIn_of _ (by decide +kernel)) ggX9_kindOf_X1_kind
set_option maxRecDepth 20000 in
theorem ggX9_kindOf_X5_kind : GoodIn wsX9_kindOf wsX5_kind := goodIn_r _ [14] (by decide +kernel) (by decide +kernel)
set_option maxRecDepth 20000 in
theorem gX9_kindOf_X5_kind_u209X5 : GoodIn wsX9_kindOf (va_wsU RX9 209 RX5 "KeptTerms$Thing" ⟨"KeptTerms$Thing", "kind", "()I"⟩ yX5_kind wsX5_kind) := goodIn_app (goodIn_of _ (by decide +kernel)) ggX9_kindOf_X5_kind
set_option maxRecDepth 20000 in
theorem ggX9_kindOf_X6_kind : GoodIn wsX9_kindOf wsX6_kind := goodIn_r _ [18] (by decide +kernel) (by decide +kernel)
set_option maxRecDepth 20000 in
theorem gX9_kindOf_X6_kind_u209X6 : GoodIn wsX9_kindOf (va_wsU RX9 209 RX6 "KeptTerms$Thing" ⟨"KeptTerms$Thing", "kind", "()I"⟩ yX6_kind wsX6_kind) := goodIn_app (goodIn_of _ (by decide +kernel)) ggX9_kindOf_X6_kind
set_option maxRecDepth 20000 in
theorem ggX9_kindOf_X7_kind : GoodIn wsX9_kindOf wsX7_kind := goodIn_r _ [22] (by decide +kernel) (by decide +kernel)
set_option maxRecDepth 20000 in
theorem gX9_kindOf_X7_kind_u209X7 : GoodIn wsX9_kindOf (va_wsU RX9 209 RX7 "KeptTerms$Thing" ⟨"KeptTerms$Thing", "kind", "()I"⟩ yX7_kind wsX7_kind) := goodIn_app (goodIn_of _ (by decide +kernel)) ggX9_kindOf_X7_kind
theorem dX9_kindOf_0 : decode cX9_kindOf 0 = .ok (.aload_n 0, 1) := by decide +kernel
theorem dX9_kindOf_1 : decode cX9_kindOf 1 = .ok (.ifnonnull 7, 3) := by decide +kernel
theorem dX9_kindOf_4 : decode cX9_kindOf 4 = .ok (.iconst 0, 1) := by decide +kernel
theorem dX9_kindOf_5 : decode cX9_kindOf 5 = .ok (.goto 7, 3) := by decide +kernel
theorem dX9_kindOf_8 : decode cX9_kindOf 8 = .ok (.aload_n 0, 1) := by decide +kernel
theorem dX9_kindOf_9 : decode cX9_kindOf 9 = .ok (.invokevirtual 209, 3) := by decide +kernel
theorem dX9_kindOf_12 : decode cX9_kindOf 12 = .ok (.ireturn, 1) := by decide +kernel
set_option maxRecDepth 20000 in
theorem ggX9_isOfType_X9_kindOf : GoodIn wsX9_isOfType wsX9_kindOf := goodIn_r _ [4, 5, 6, 7, 8, 9, 10, 11, 12, 13, 14, 15, 16, 17, 18, 19, 20, 21, 22, 23, 24, 25, 26] (by decide +kernel) (by decide +kernel)
set_option maxRecDepth 20000 in
theorem gX9_isOfType_X9_kindOf : GoodIn wsX9_isOfType (va_wsS RX9 57 yX9_kindOf wsX9_kindOf) := goodIn_app (goodIn_of _ (by decide +kernel)) ggX9_isOfType_X9_kindOf
theorem dX9_isOfType_0 : decode cX9_isOfType 0 = .ok (.aload_n 0, 1) := by decide +kernel
theorem dX9_isOfType_1 : decode cX9_isOfType 1 = .ok (.invokestatic 57, 3) := by decide +kernel
theorem dX9_isOfType_4 : decode cX9_isOfType 4 = .ok (.istore_n 2, 1) := by decide +kernel
theorem dX9_isOfType_5 : decode cX9_isOfType 5 = .ok (.iload_n 2, 1) := by decide +kernel
theorem dX9_isOfType_6 : decode cX9_isOfType 6 = .ok (.iload_n 1, 1) := by decide +kernel
theorem dX9_isOfType_7 : decode cX9_isOfType 7 = .ok (.if_icmp .eq 13, 3) := by decide +kernel
theorem dX9_isOfType_10 : decode cX9_isOfType 10 = .ok (.iload_n 2, 1) := by decide +kernel
theorem dX9_isOfType_11 : decode cX9_isOfType 11 = .ok (.iconst 5, 1) := by decide +kernel
theorem dX9_isOfType_12 : decode cX9_isOfType 12 = .ok (.if_icmp .ne 12, 3) := by decide +kernel
theorem dX9_isOfType_15 : decode cX9_isOfType 15 = .ok (.iload_n 1, 1) := by decide +kernel
theorem dX9_isOfType_16 : decode cX9_isOfType 16 = .ok (.iconst 4, 1) := by decide +kernel
theorem dX9_isOfType_17 : decode cX9_isOfType 17 = .ok (.if_icmp .ne 7, 3) := by decide +kernel
theorem dX9_isOfType_20 : decode cX9_isOfType 20 = .ok (.iconst 1, 1) := by decide +kernel
theorem dX9_isOfType_21 : decode cX9_isOfType 21 = .ok (.goto 4, 3) := by decide +kernel
theorem dX9_isOfType_24 : decode cX9_isOfType 24 = .ok (.iconst 0, 1) := by decide +kernel
theorem dX9_isOfType_25 : decode cX9_isOfType 25 = .ok (.ireturn, 1) := by decide +kernel
set_option maxRecDepth 20000 in
theorem ggX9_mayBeCast_X9_isOfType : GoodIn wsX9_mayBeCast wsX9_isOfType := goodIn_r _ [4, 5, 6, 3, 7, 8, 9, 10, 11, 12, 13, 14, 15, 16, 17, 18, 19, 20, 21, 22, 23, 24, 25, 26, 27, 28, 29] (by decide +kernel) (by decide +kernel)
set_option maxRecDepth 20000 in
theorem gX9_mayBeCast_X9_isOfType : GoodIn wsX9_mayBeCast (va_wsS RX9 61 yX9_isOfType wsX9_isOfType) := goodIn_app (goodIn_of _ (by decide +kernel)) ggX9_mayBeCast_X9_isOfType
theorem dX9_mayBeCast_0 : decode cX9_mayBeCast 0 = .ok (.aload_n 0, 1) := by decide +kernel
theorem dX9_mayBeCast_1 : decode cX9_mayBeCast 1 = .ok (.ifnull 11, 3) := by decide +kernel
theorem dX9_mayBeCast_4 : decode cX9_mayBeCast 4 = .ok (.aload_n 0, 1) := by decide +kernel
