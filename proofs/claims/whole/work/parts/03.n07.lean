set_option maxRecDepth 20000 in
theorem ggX10_find_X10_look : GoodIn wsX10_find wsX10_look := goodIn_r _ [32, 33, 3, 34, 35, 36, 37, 38, 39, 40, 6, 41, 42, 43, 44, 45, 46, 47, 48, 49, 50, 51, 52, 53, 54, 55, 56, 57, 58, 59, 60, 61, 62, 63, 64, 65, 66, 67, 68, 69, 70, 71, 72, 73] (by decide +kernel) (by decide +kernel)
set_option maxRecDepth 20000 in
theorem gX10_find_X10_look : GoodIn wsX10_find (wsV RX10 153 RX10 yX10_look wsX10_look) := goodIn_app (goodIn_of _ (by decide +kernel)) ggX10_find_X10_look
theorem dX10_find_0 : decode cX10_find 0 = .ok (.aload_n 0, 1) := by decide +kernel
theorem dX10_find_1 : decode cX10_find 1 = .ok (.iconst 0, 1) := by decide +kernel
theorem dX10_find_2 : decode cX10_find 2 = .ok (.putfield 66, 3) := by decide +kernel
theorem dX10_find_5 : decode cX10_find 5 = .ok (.iload_n 1, 1) := by decide +kernel
theorem dX10_find_6 : decode cX10_find 6 = .ok (.invokestatic 86, 3) := by decide +kernel
theorem dX10_find_9 : decode cX10_find 9 = .ok (.ifCond .eq 10, 3) := by decide +kernel
theorem dX10_find_12 : decode cX10_find 12 = .ok (.iload_n 2, 1) := by decide +kernel
theorem dX10_find_13 : decode cX10_find 13 = .ok (.invokestatic 86, 3) := by decide +kernel
theorem dX10_find_16 : decode cX10_find 16 = .ok (.ifCond .ne 5, 3) := by decide +kernel
theorem dX10_find_19 : decode cX10_find 19 = .ok (.iconst (-1), 1) := by decide +kernel
theorem dX10_find_20 : decode cX10_find 20 = .ok (.ireturn, 1) := by decide +kernel
theorem dX10_find_21 : decode cX10_find 21 = .ok (.aload_n 0, 1) := by decide +kernel
theorem dX10_find_22 : decode cX10_find 22 = .ok (.iload_n 1, 1) := by decide +kernel
theorem dX10_find_23 : decode cX10_find 23 = .ok (.iload_n 2, 1) := by decide +kernel
theorem dX10_find_24 : decode cX10_find 24 = .ok (.iconst 1, 1) := by decide +kernel
theorem dX10_find_25 : decode cX10_find 25 = .ok (.invokevirtual 163, 3) := by decide +kernel
theorem dX10_find_28 : decode cX10_find 28 = .ok (.istore_n 3, 1) := by decide +kernel
theorem dX10_find_29 : decode cX10_find 29 = .ok (.iload_n 3, 1) := by decide +kernel
theorem dX10_find_30 : decode cX10_find 30 = .ok (.ifCond .le 9, 3) := by decide +kernel
theorem dX10_find_33 : decode cX10_find 33 = .ok (.aload_n 0, 1) := by decide +kernel
theorem dX10_find_34 : decode cX10_find 34 = .ok (.iload_n 3, 1) := by decide +kernel
theorem dX10_find_35 : decode cX10_find 35 = .ok (.invokevirtual 90, 3) := by decide +kernel
theorem dX10_find_38 : decode cX10_find 38 = .ok (.ireturn, 1) := by decide +kernel
theorem dX10_find_39 : decode cX10_find 39 = .ok (.aload_n 0, 1) := by decide +kernel
theorem dX10_find_40 : decode cX10_find 40 = .ok (.getfield 13, 3) := by decide +kernel
theorem dX10_find_43 : decode cX10_find 43 = .ok (.iload_n 1, 1) := by decide +kernel
theorem dX10_find_44 : decode cX10_find 44 = .ok (.iaload, 1) := by decide +kernel
theorem dX10_find_45 : decode cX10_find 45 = .ok (.istore 4, 2) := by decide +kernel
theorem dX10_find_47 : decode cX10_find 47 = .ok (.aload_n 0, 1) := by decide +kernel
theorem dX10_find_48 : decode cX10_find 48 = .ok (.iload 4, 2) := by decide +kernel
theorem dX10_find_50 : decode cX10_find 50 = .ok (.aload_n 0, 1) := by decide +kernel
theorem dX10_find_51 : decode cX10_find 51 = .ok (.getfield 13, 3) := by decide +kernel
theorem dX10_find_54 : decode cX10_find 54 = .ok (.iload_n 2, 1) := by decide +kernel
theorem dX10_find_55 : decode cX10_find 55 = .ok (.iaload, 1) := by decide +kernel
theorem dX10_find_56 : decode cX10_find 56 = .ok (.invokevirtual 153, 3) := by decide +kernel
theorem dX10_find_59 : decode cX10_find 59 = .ok (.istore 5, 2) := by decide +kernel
theorem dX10_find_61 : decode cX10_find 61 = .ok (.aload_n 0, 1) := by decide +kernel
theorem dX10_find_62 : decode cX10_find 62 = .ok (.getfield 53, 3) := by decide +kernel
theorem dX10_find_65 : decode cX10_find 65 = .ok (.sipush 256, 3) := by decide +kernel
theorem dX10_find_68 : decode cX10_find 68 = .ok (.iload 4, 2) := by decide +kernel
theorem dX10_find_70 : decode cX10_find 70 = .ok (.imul, 1) := by decide +kernel
theorem dX10_find_71 : decode cX10_find 71 = .ok (.iload 5, 2) := by decide +kernel
theorem dX10_find_73 : decode cX10_find 73 = .ok (.iadd, 1) := by decide +kernel
theorem dX10_find_74 : decode cX10_find 74 = .ok (.iaload, 1) := by decide +kernel
theorem dX10_find_75 : decode cX10_find 75 = .ok (.ifCond .le 22, 3) := by decide +kernel
theorem dX10_find_78 : decode cX10_find 78 = .ok (.aload_n 0, 1) := by decide +kernel
theorem dX10_find_79 : decode cX10_find 79 = .ok (.getfield 53, 3) := by decide +kernel
theorem dX10_find_82 : decode cX10_find 82 = .ok (.sipush 256, 3) := by decide +kernel
theorem dX10_find_85 : decode cX10_find 85 = .ok (.iload 4, 2) := by decide +kernel
theorem dX10_find_87 : decode cX10_find 87 = .ok (.imul, 1) := by decide +kernel
theorem dX10_find_88 : decode cX10_find 88 = .ok (.iload 5, 2) := by decide +kernel
theorem dX10_find_90 : decode cX10_find 90 = .ok (.iadd, 1) := by decide +kernel
theorem dX10_find_91 : decode cX10_find 91 = .ok (.iaload, 1) := by decide +kernel
theorem dX10_find_92 : decode cX10_find 92 = .ok (.iconst 1, 1) := by decide +kernel
theorem dX10_find_93 : decode cX10_find 93 = .ok (.isub, 1) := by decide +kernel
theorem dX10_find_94 : decode cX10_find 94 = .ok (.goto 5, 3) := by decide +kernel
theorem dX10_find_97 : decode cX10_find 97 = .ok (.bipush (-3), 2) := by decide +kernel
theorem dX10_find_99 : decode cX10_find 99 = .ok (.ireturn, 1) := by decide +kernel
set_option maxRecDepth 20000 in
theorem ggX10_term_X10_isPlace : GoodIn wsX10_term wsX10_isPlace := goodIn_r _ [9, 10, 11, 8, 12] (by decide +kernel) (by decide +kernel)
set_option maxRecDepth 20000 in
theorem gX10_term_X10_isPlace : GoodIn wsX10_term (va_wsS RX10 86 yX10_isPlace wsX10_isPlace) := goodIn_app (goodIn_of _ (by decide +kernel)) ggX10_term_X10_isPlace
set_option maxRecDepth 20000 in
theorem ggX10_term_X10_castFault : GoodIn wsX10_term wsX10_castFault := goodIn_r _ [16, 17, 18, 19, 20, 8, 21, 31, 32, 33, 34, 35, 36, 37, 38, 39, 40, 41, 42, 43, 44, 45, 46, 47, 48, 49, 50, 51, 52, 53, 54, 55, 56] (by decide +kernel) (by decide +kernel)
set_option maxRecDepth 20000 in
theorem gX10_term_X10_castFault : GoodIn wsX10_term (wsV RX10 110 RX10 yX10_castFault wsX10_castFault) := goodIn_app (goodIn_of _ (by decide +kernel)) ggX10_term_X10_castFault
set_option maxRecDepth 20000 in
theorem ggX10_term_X10_in : GoodIn wsX10_term wsX10_in := goodIn_r _ [12] (by decide +kernel) (by decide +kernel)
set_option maxRecDepth 20000 in
theorem gX10_term_X10_in : GoodIn wsX10_term (va_wsS RX10 70 yX10_in wsX10_in) := goodIn_app (goodIn_of _ (by decide +kernel)) ggX10_term_X10_in
set_option maxRecDepth 20000 in
theorem ggX10_term_X10_fails : GoodIn wsX10_term wsX10_fails := goodIn_r _ [25, 26, 31, 32, 33, 34, 35, 36, 37, 38, 39, 40, 41, 42, 43, 44, 45, 46, 47, 48, 49, 50, 51, 52, 53, 54, 55, 56] (by decide +kernel) (by decide +kernel)
set_option maxRecDepth 20000 in
theorem gX10_term_X10_fails : GoodIn wsX10_term (wsV RX10 90 RX10 yX10_fails wsX10_fails) := goodIn_app (goodIn_of _ (by decide +kernel)) ggX10_term_X10_fails
set_option maxRecDepth 20000 in
theorem ggX10_term_X10_hold : GoodIn wsX10_term wsX10_hold := goodIn_r _ [30, 17, 2, 31, 32, 33, 34, 35, 36, 37, 38, 39, 40, 41, 42, 43, 44, 45, 46, 47, 48, 49, 50, 51, 52, 53, 54, 55, 56] (by decide +kernel) (by decide +kernel)
set_option maxRecDepth 20000 in
theorem gX10_term_X10_hold : GoodIn wsX10_term (wsV RX10 93 RX10 yX10_hold wsX10_hold) := goodIn_app (goodIn_of _ (by decide +kernel)) ggX10_term_X10_hold
theorem dX10_term_0 : decode cX10_term 0 = .ok (.aload_n 0, 1) := by decide +kernel
theorem dX10_term_1 : decode cX10_term 1 = .ok (.iconst 0, 1) := by decide +kernel
theorem dX10_term_2 : decode cX10_term 2 = .ok (.putfield 66, 3) := by decide +kernel
theorem dX10_term_5 : decode cX10_term 5 = .ok (.iload_n 1, 1) := by decide +kernel
theorem dX10_term_6 : decode cX10_term 6 = .ok (.invokestatic 86, 3) := by decide +kernel
theorem dX10_term_9 : decode cX10_term 9 = .ok (.ifCond .eq 10, 3) := by decide +kernel
theorem dX10_term_12 : decode cX10_term 12 = .ok (.iload_n 2, 1) := by decide +kernel
theorem dX10_term_13 : decode cX10_term 13 = .ok (.invokestatic 86, 3) := by decide +kernel
theorem dX10_term_16 : decode cX10_term 16 = .ok (.ifCond .ne 5, 3) := by decide +kernel
theorem dX10_term_19 : decode cX10_term 19 = .ok (.iconst (-1), 1) := by decide +kernel
theorem dX10_term_20 : decode cX10_term 20 = .ok (.ireturn, 1) := by decide +kernel
theorem dX10_term_21 : decode cX10_term 21 = .ok (.aload_n 0, 1) := by decide +kernel
theorem dX10_term_22 : decode cX10_term 22 = .ok (.iload_n 2, 1) := by decide +kernel
theorem dX10_term_23 : decode cX10_term 23 = .ok (.iconst 4, 1) := by decide +kernel
theorem dX10_term_24 : decode cX10_term 24 = .ok (.invokevirtual 110, 3) := by decide +kernel
theorem dX10_term_27 : decode cX10_term 27 = .ok (.istore 4, 2) := by decide +kernel
theorem dX10_term_29 : decode cX10_term 29 = .ok (.aload_n 0, 1) := by decide +kernel
theorem dX10_term_30 : decode cX10_term 30 = .ok (.getfield 13, 3) := by decide +kernel
theorem dX10_term_33 : decode cX10_term 33 = .ok (.iload_n 2, 1) := by decide +kernel
theorem dX10_term_34 : decode cX10_term 34 = .ok (.iaload, 1) := by decide +kernel
theorem dX10_term_35 : decode cX10_term 35 = .ok (.istore 5, 2) := by decide +kernel
theorem dX10_term_37 : decode cX10_term 37 = .ok (.iload 4, 2) := by decide +kernel
theorem dX10_term_39 : decode cX10_term 39 = .ok (.ifCond .gt 20, 3) := by decide +kernel
theorem dX10_term_42 : decode cX10_term 42 = .ok (.iload_n 3, 1) := by decide +kernel
theorem dX10_term_43 : decode cX10_term 43 = .ok (.iconst 0, 1) := by decide +kernel
theorem dX10_term_44 : decode cX10_term 44 = .ok (.aload_n 0, 1) := by decide +kernel
theorem dX10_term_45 : decode cX10_term 45 = .ok (.getfield 43, 3) := by decide +kernel
theorem dX10_term_48 : decode cX10_term 48 = .ok (.iload 5, 2) := by decide +kernel
theorem dX10_term_50 : decode cX10_term 50 = .ok (.iaload, 1) := by decide +kernel
theorem dX10_term_51 : decode cX10_term 51 = .ok (.iconst 1, 1) := by decide +kernel
theorem dX10_term_52 : decode cX10_term 52 = .ok (.isub, 1) := by decide +kernel
theorem dX10_term_53 : decode cX10_term 53 = .ok (.invokestatic 70, 3) := by decide +kernel
theorem dX10_term_56 : decode cX10_term 56 = .ok (.ifCond .ne 19, 3) := by decide +kernel
theorem dX10_term_59 : decode cX10_term 59 = .ok (.aload_n 0, 1) := by decide +kernel
theorem dX10_term_60 : decode cX10_term 60 = .ok (.iload 4, 2) := by decide +kernel
theorem dX10_term_62 : decode cX10_term 62 = .ok (.ifCond .le 8, 3) := by decide +kernel
theorem dX10_term_65 : decode cX10_term 65 = .ok (.iload 4, 2) := by decide +kernel
theorem dX10_term_67 : decode cX10_term 67 = .ok (.goto 4, 3) := by decide +kernel
theorem dX10_term_70 : decode cX10_term 70 = .ok (.iconst 3, 1) := by decide +kernel
theorem dX10_term_71 : decode cX10_term 71 = .ok (.invokevirtual 90, 3) := by decide +kernel
theorem dX10_term_74 : decode cX10_term 74 = .ok (.ireturn, 1) := by decide +kernel
theorem dX10_term_75 : decode cX10_term 75 = .ok (.aload_n 0, 1) := by decide +kernel
theorem dX10_term_76 : decode cX10_term 76 = .ok (.iload_n 1, 1) := by decide +kernel
theorem dX10_term_77 : decode cX10_term 77 = .ok (.iconst 1, 1) := by decide +kernel
theorem dX10_term_78 : decode cX10_term 78 = .ok (.aload_n 0, 1) := by decide +kernel
theorem dX10_term_79 : decode cX10_term 79 = .ok (.getfield 57, 3) := by decide +kernel
theorem dX10_term_82 : decode cX10_term 82 = .ok (.bipush 100, 2) := by decide +kernel
theorem dX10_term_84 : decode cX10_term 84 = .ok (.iload 5, 2) := by decide +kernel
theorem dX10_term_86 : decode cX10_term 86 = .ok (.imul, 1) := by decide +kernel
theorem dX10_term_87 : decode cX10_term 87 = .ok (.iload_n 3, 1) := by decide +kernel
theorem dX10_term_88 : decode cX10_term 88 = .ok (.iadd, 1) := by decide +kernel
theorem dX10_term_89 : decode cX10_term 89 = .ok (.iaload, 1) := by decide +kernel
theorem dX10_term_90 : decode cX10_term 90 = .ok (.invokevirtual 93, 3) := by decide +kernel
theorem dX10_term_93 : decode cX10_term 93 = .ok (.aload_n 0, 1) := by decide +kernel
theorem dX10_term_94 : decode cX10_term 94 = .ok (.getfield 17, 3) := by decide +kernel
theorem dX10_term_97 : decode cX10_term 97 = .ok (.aload_n 0, 1) := by decide +kernel
theorem dX10_term_98 : decode cX10_term 98 = .ok (.getfield 13, 3) := by decide +kernel
theorem dX10_term_101 : decode cX10_term 101 = .ok (.iload_n 1, 1) := by decide +kernel
theorem dX10_term_102 : decode cX10_term 102 = .ok (.iaload, 1) := by decide +kernel
theorem dX10_term_103 : decode cX10_term 103 = .ok (.iaload, 1) := by decide +kernel
theorem dX10_term_104 : decode cX10_term 104 = .ok (.ireturn, 1) := by decide +kernel
set_option maxRecDepth 20000 in
theorem ggX10_told_X10_isPlace : GoodIn wsX10_told wsX10_isPlace := goodIn_r _ [10, 11, 12, 9, 13] (by decide +kernel) (by decide +kernel)
set_option maxRecDepth 20000 in
theorem gX10_told_X10_isPlace : GoodIn wsX10_told (va_wsS RX10 86 yX10_isPlace wsX10_isPlace) := goodIn_app (goodIn_of _ (by decide +kernel)) ggX10_told_X10_isPlace
set_option maxRecDepth 20000 in
theorem ggX10_told_X10_in : GoodIn wsX10_told wsX10_in := goodIn_r _ [13] (by decide +kernel) (by decide +kernel)
set_option maxRecDepth 20000 in
theorem gX10_told_X10_in : GoodIn wsX10_told (va_wsS RX10 70 yX10_in wsX10_in) := goodIn_app (goodIn_of _ (by decide +kernel)) ggX10_told_X10_in
set_option maxRecDepth 20000 in
theorem ggX10_told_X10_castFault : GoodIn wsX10_told wsX10_castFault := goodIn_r _ [17, 18, 19, 20, 21, 9, 22, 28, 29, 30, 31, 32, 33, 34, 35, 36, 37, 38, 39, 40, 41, 42, 43, 44, 45, 46, 47, 48, 49, 50, 51, 52, 53] (by decide +kernel) (by decide +kernel)
set_option maxRecDepth 20000 in
theorem gX10_told_X10_castFault : GoodIn wsX10_told (wsV RX10 110 RX10 yX10_castFault wsX10_castFault) := goodIn_app (goodIn_of _ (by decide +kernel)) ggX10_told_X10_castFault
set_option maxRecDepth 20000 in
theorem ggX10_told_X10_fails : GoodIn wsX10_told wsX10_fails := goodIn_r _ [26, 27, 28, 29, 30, 31, 32, 33, 34, 35, 36, 37, 38, 39, 40, 41, 42, 43, 44, 45, 46, 47, 48, 49, 50, 51, 52, 53] (by decide +kernel) (by decide +kernel)
set_option maxRecDepth 20000 in
theorem gX10_told_X10_fails : GoodIn wsX10_told (wsV RX10 90 RX10 yX10_fails wsX10_fails) := goodIn_app (goodIn_of _ (by decide +kernel)) ggX10_told_X10_fails
theorem dX10_told_0 : decode cX10_told 0 = .ok (.aload_n 0, 1) := by decide +kernel
theorem dX10_told_1 : decode cX10_told 1 = .ok (.iconst 0, 1) := by decide +kernel
theorem dX10_told_2 : decode cX10_told 2 = .ok (.putfield 66, 3) := by decide +kernel
theorem dX10_told_5 : decode cX10_told 5 = .ok (.iload_n 1, 1) := by decide +kernel
theorem dX10_told_6 : decode cX10_told 6 = .ok (.invokestatic 86, 3) := by decide +kernel
theorem dX10_told_9 : decode cX10_told 9 = .ok (.ifCond .ne 5, 3) := by decide +kernel
theorem dX10_told_12 : decode cX10_told 12 = .ok (.iconst (-1), 1) := by decide +kernel
theorem dX10_told_13 : decode cX10_told 13 = .ok (.ireturn, 1) := by decide +kernel
theorem dX10_told_14 : decode cX10_told 14 = .ok (.iload_n 2, 1) := by decide +kernel
theorem dX10_told_15 : decode cX10_told 15 = .ok (.iconst 0, 1) := by decide +kernel
theorem dX10_told_16 : decode cX10_told 16 = .ok (.iconst 3, 1) := by decide +kernel
theorem dX10_told_17 : decode cX10_told 17 = .ok (.invokestatic 70, 3) := by decide +kernel
theorem dX10_told_20 : decode cX10_told 20 = .ok (.ifCond .ne 6, 3) := by decide +kernel
theorem dX10_told_23 : decode cX10_told 23 = .ok (.bipush (-2), 2) := by decide +kernel
theorem dX10_told_25 : decode cX10_told 25 = .ok (.ireturn, 1) := by decide +kernel
theorem dX10_told_26 : decode cX10_told 26 = .ok (.aload_n 0, 1) := by decide +kernel
theorem dX10_told_27 : decode cX10_told 27 = .ok (.iload_n 1, 1) := by decide +kernel
theorem dX10_told_28 : decode cX10_told 28 = .ok (.iconst 4, 1) := by decide +kernel
theorem dX10_told_29 : decode cX10_told 29 = .ok (.invokevirtual 110, 3) := by decide +kernel
theorem dX10_told_32 : decode cX10_told 32 = .ok (.istore_n 3, 1) := by decide +kernel
theorem dX10_told_33 : decode cX10_told 33 = .ok (.iload_n 3, 1) := by decide +kernel
theorem dX10_told_34 : decode cX10_told 34 = .ok (.ifCond .le 9, 3) := by decide +kernel
theorem dX10_told_37 : decode cX10_told 37 = .ok (.aload_n 0, 1) := by decide +kernel
theorem dX10_told_38 : decode cX10_told 38 = .ok (.iload_n 3, 1) := by decide +kernel
theorem dX10_told_39 : decode cX10_told 39 = .ok (.invokevirtual 90, 3) := by decide +kernel
theorem dX10_told_42 : decode cX10_told 42 = .ok (.ireturn, 1) := by decide +kernel
theorem dX10_told_43 : decode cX10_told 43 = .ok (.aload_n 0, 1) := by decide +kernel
theorem dX10_told_44 : decode cX10_told 44 = .ok (.getfield 13, 3) := by decide +kernel
theorem dX10_told_47 : decode cX10_told 47 = .ok (.iload_n 1, 1) := by decide +kernel
theorem dX10_told_48 : decode cX10_told 48 = .ok (.iaload, 1) := by decide +kernel
theorem dX10_told_49 : decode cX10_told 49 = .ok (.istore 4, 2) := by decide +kernel
theorem dX10_told_51 : decode cX10_told 51 = .ok (.iload_n 2, 1) := by decide +kernel
theorem dX10_told_52 : decode cX10_told 52 = .ok (.ifCond .ne 13, 3) := by decide +kernel
theorem dX10_told_55 : decode cX10_told 55 = .ok (.aload_n 0, 1) := by decide +kernel
theorem dX10_told_56 : decode cX10_told 56 = .ok (.getfield 43, 3) := by decide +kernel
theorem dX10_told_59 : decode cX10_told 59 = .ok (.iload 4, 2) := by decide +kernel
theorem dX10_told_61 : decode cX10_told 61 = .ok (.iaload, 1) := by decide +kernel
theorem dX10_told_62 : decode cX10_told 62 = .ok (.goto 40, 3) := by decide +kernel
theorem dX10_told_65 : decode cX10_told 65 = .ok (.iload_n 2, 1) := by decide +kernel
theorem dX10_told_66 : decode cX10_told 66 = .ok (.iconst 1, 1) := by decide +kernel
theorem dX10_told_67 : decode cX10_told 67 = .ok (.if_icmp .ne 13, 3) := by decide +kernel
theorem dX10_told_70 : decode cX10_told 70 = .ok (.aload_n 0, 1) := by decide +kernel
theorem dX10_told_71 : decode cX10_told 71 = .ok (.getfield 40, 3) := by decide +kernel
theorem dX10_told_74 : decode cX10_told 74 = .ok (.iload 4, 2) := by decide +kernel
theorem dX10_told_76 : decode cX10_told 76 = .ok (.iaload, 1) := by decide +kernel
theorem dX10_told_77 : decode cX10_told 77 = .ok (.goto 25, 3) := by decide +kernel
theorem dX10_told_80 : decode cX10_told 80 = .ok (.iload_n 2, 1) := by decide +kernel
theorem dX10_told_81 : decode cX10_told 81 = .ok (.iconst 2, 1) := by decide +kernel
theorem dX10_told_82 : decode cX10_told 82 = .ok (.if_icmp .ne 13, 3) := by decide +kernel
theorem dX10_told_85 : decode cX10_told 85 = .ok (.aload_n 0, 1) := by decide +kernel
theorem dX10_told_86 : decode cX10_told 86 = .ok (.getfield 46, 3) := by decide +kernel
theorem dX10_told_89 : decode cX10_told 89 = .ok (.iload 4, 2) := by decide +kernel
theorem dX10_told_91 : decode cX10_told 91 = .ok (.iaload, 1) := by decide +kernel
theorem dX10_told_92 : decode cX10_told 92 = .ok (.goto 10, 3) := by decide +kernel
theorem dX10_told_95 : decode cX10_told 95 = .ok (.aload_n 0, 1) := by decide +kernel
theorem dX10_told_96 : decode cX10_told 96 = .ok (.getfield 49, 3) := by decide +kernel
theorem dX10_told_99 : decode cX10_told 99 = .ok (.iload 4, 2) := by decide +kernel
theorem dX10_told_101 : decode cX10_told 101 = .ok (.iaload, 1) := by decide +kernel
theorem dX10_told_102 : decode cX10_told 102 = .ok (.ireturn, 1) := by decide +kernel
set_option maxRecDepth 20000 in
theorem ggX10_slot_X10_isPlace : GoodIn wsX10_slot wsX10_isPlace := goodIn_r _ [8, 9, 10, 7, 11] (by decide +kernel) (by decide +kernel)
set_option maxRecDepth 20000 in
theorem gX10_slot_X10_isPlace : GoodIn wsX10_slot (va_wsS RX10 86 yX10_isPlace wsX10_isPlace) := goodIn_app (goodIn_of _ (by decide +kernel)) ggX10_slot_X10_isPlace
set_option maxRecDepth 20000 in
theorem ggX10_slot_X10_castFault : GoodIn wsX10_slot wsX10_castFault := goodIn_r _ [15, 16, 17, 18, 19, 7, 20, 26, 27, 28, 29, 30, 31, 32, 33, 34, 35, 36, 37, 38, 39, 40, 41, 42, 43, 44, 45, 46, 47, 48, 49, 50, 51] (by decide +kernel) (by decide +kernel)
set_option maxRecDepth 20000 in
theorem gX10_slot_X10_castFault : GoodIn wsX10_slot (wsV RX10 110 RX10 yX10_castFault wsX10_castFault) := goodIn_app (goodIn_of _ (by decide +kernel)) ggX10_slot_X10_castFault
set_option maxRecDepth 20000 in
theorem ggX10_slot_X10_in : GoodIn wsX10_slot wsX10_in := goodIn_r _ [11] (by decide +kernel) (by decide +kernel)
set_option maxRecDepth 20000 in
theorem gX10_slot_X10_in : GoodIn wsX10_slot (va_wsS RX10 70 yX10_in wsX10_in) := goodIn_app (goodIn_of _ (by decide +kernel)) ggX10_slot_X10_in
set_option maxRecDepth 20000 in
theorem ggX10_slot_X10_fails : GoodIn wsX10_slot wsX10_fails := goodIn_r _ [24, 25, 26, 27, 28, 29, 30, 31, 32, 33, 34, 35, 36, 37, 38, 39, 40, 41, 42, 43, 44, 45, 46, 47, 48, 49, 50, 51] (by decide +kernel) (by decide +kernel)
set_option maxRecDepth 20000 in
theorem gX10_slot_X10_fails : GoodIn wsX10_slot (wsV RX10 90 RX10 yX10_fails wsX10_fails) := goodIn_app (goodIn_of _ (by decide +kernel)) ggX10_slot_X10_fails
theorem dX10_slot_0 : decode cX10_slot 0 = .ok (.aload_n 0, 1) := by decide +kernel
theorem dX10_slot_1 : decode cX10_slot 1 = .ok (.iconst 0, 1) := by decide +kernel
theorem dX10_slot_2 : decode cX10_slot 2 = .ok (.putfield 66, 3) := by decide +kernel
theorem dX10_slot_5 : decode cX10_slot 5 = .ok (.iload_n 1, 1) := by decide +kernel
theorem dX10_slot_6 : decode cX10_slot 6 = .ok (.invokestatic 86, 3) := by decide +kernel
theorem dX10_slot_9 : decode cX10_slot 9 = .ok (.ifCond .ne 5, 3) := by decide +kernel
theorem dX10_slot_12 : decode cX10_slot 12 = .ok (.iconst (-1), 1) := by decide +kernel
theorem dX10_slot_13 : decode cX10_slot 13 = .ok (.ireturn, 1) := by decide +kernel
theorem dX10_slot_14 : decode cX10_slot 14 = .ok (.aload_n 0, 1) := by decide +kernel
theorem dX10_slot_15 : decode cX10_slot 15 = .ok (.iload_n 1, 1) := by decide +kernel
theorem dX10_slot_16 : decode cX10_slot 16 = .ok (.iconst 4, 1) := by decide +kernel
theorem dX10_slot_17 : decode cX10_slot 17 = .ok (.invokevirtual 110, 3) := by decide +kernel
theorem dX10_slot_20 : decode cX10_slot 20 = .ok (.istore_n 3, 1) := by decide +kernel
theorem dX10_slot_21 : decode cX10_slot 21 = .ok (.aload_n 0, 1) := by decide +kernel
theorem dX10_slot_22 : decode cX10_slot 22 = .ok (.getfield 13, 3) := by decide +kernel
theorem dX10_slot_25 : decode cX10_slot 25 = .ok (.iload_n 1, 1) := by decide +kernel
theorem dX10_slot_26 : decode cX10_slot 26 = .ok (.iaload, 1) := by decide +kernel
theorem dX10_slot_27 : decode cX10_slot 27 = .ok (.istore 4, 2) := by decide +kernel
theorem dX10_slot_29 : decode cX10_slot 29 = .ok (.iload_n 3, 1) := by decide +kernel
theorem dX10_slot_30 : decode cX10_slot 30 = .ok (.ifCond .gt 20, 3) := by decide +kernel
theorem dX10_slot_33 : decode cX10_slot 33 = .ok (.iload_n 2, 1) := by decide +kernel
theorem dX10_slot_34 : decode cX10_slot 34 = .ok (.iconst 0, 1) := by decide +kernel
theorem dX10_slot_35 : decode cX10_slot 35 = .ok (.aload_n 0, 1) := by decide +kernel
theorem dX10_slot_36 : decode cX10_slot 36 = .ok (.getfield 40, 3) := by decide +kernel
theorem dX10_slot_39 : decode cX10_slot 39 = .ok (.iload 4, 2) := by decide +kernel
theorem dX10_slot_41 : decode cX10_slot 41 = .ok (.iaload, 1) := by decide +kernel
theorem dX10_slot_42 : decode cX10_slot 42 = .ok (.iconst 1, 1) := by decide +kernel
theorem dX10_slot_43 : decode cX10_slot 43 = .ok (.isub, 1) := by decide +kernel
theorem dX10_slot_44 : decode cX10_slot 44 = .ok (.invokestatic 70, 3) := by decide +kernel
theorem dX10_slot_47 : decode cX10_slot 47 = .ok (.ifCond .ne 17, 3) := by decide +kernel
theorem dX10_slot_50 : decode cX10_slot 50 = .ok (.aload_n 0, 1) := by decide +kernel
theorem dX10_slot_51 : decode cX10_slot 51 = .ok (.iload_n 3, 1) := by decide +kernel
theorem dX10_slot_52 : decode cX10_slot 52 = .ok (.ifCond .le 7, 3) := by decide +kernel
theorem dX10_slot_55 : decode cX10_slot 55 = .ok (.iload_n 3, 1) := by decide +kernel
theorem dX10_slot_56 : decode cX10_slot 56 = .ok (.goto 4, 3) := by decide +kernel
theorem dX10_slot_59 : decode cX10_slot 59 = .ok (.iconst 3, 1) := by decide +kernel
theorem dX10_slot_60 : decode cX10_slot 60 = .ok (.invokevirtual 90, 3) := by decide +kernel
theorem dX10_slot_63 : decode cX10_slot 63 = .ok (.ireturn, 1) := by decide +kernel
theorem dX10_slot_64 : decode cX10_slot 64 = .ok (.aload_n 0, 1) := by decide +kernel
theorem dX10_slot_65 : decode cX10_slot 65 = .ok (.getfield 53, 3) := by decide +kernel
theorem dX10_slot_68 : decode cX10_slot 68 = .ok (.sipush 256, 3) := by decide +kernel
theorem dX10_slot_71 : decode cX10_slot 71 = .ok (.iload 4, 2) := by decide +kernel
theorem dX10_slot_73 : decode cX10_slot 73 = .ok (.imul, 1) := by decide +kernel
theorem dX10_slot_74 : decode cX10_slot 74 = .ok (.iload_n 2, 1) := by decide +kernel
theorem dX10_slot_75 : decode cX10_slot 75 = .ok (.iadd, 1) := by decide +kernel
theorem dX10_slot_76 : decode cX10_slot 76 = .ok (.iaload, 1) := by decide +kernel
theorem dX10_slot_77 : decode cX10_slot 77 = .ok (.ifCond .ne 8, 3) := by decide +kernel
theorem dX10_slot_80 : decode cX10_slot 80 = .ok (.bipush (-3), 2) := by decide +kernel
theorem dX10_slot_82 : decode cX10_slot 82 = .ok (.goto 18, 3) := by decide +kernel
theorem dX10_slot_85 : decode cX10_slot 85 = .ok (.aload_n 0, 1) := by decide +kernel
theorem dX10_slot_86 : decode cX10_slot 86 = .ok (.getfield 53, 3) := by decide +kernel
theorem dX10_slot_89 : decode cX10_slot 89 = .ok (.sipush 256, 3) := by decide +kernel
theorem dX10_slot_92 : decode cX10_slot 92 = .ok (.iload 4, 2) := by decide +kernel
theorem dX10_slot_94 : decode cX10_slot 94 = .ok (.imul, 1) := by decide +kernel
theorem dX10_slot_95 : decode cX10_slot 95 = .ok (.iload_n 2, 1) := by decide +kernel
theorem dX10_slot_96 : decode cX10_slot 96 = .ok (.iadd, 1) := by decide +kernel
theorem dX10_slot_97 : decode cX10_slot 97 = .ok (.iaload, 1) := by decide +kernel
theorem dX10_slot_98 : decode cX10_slot 98 = .ok (.iconst 1, 1) := by decide +kernel
theorem dX10_slot_99 : decode cX10_slot 99 = .ok (.isub, 1) := by decide +kernel
theorem dX10_slot_100 : decode cX10_slot 100 = .ok (.ireturn, 1) := by decide +kernel
set_option maxRecDepth 20000 in
theorem ggX10_ranked_X10_isPlace : GoodIn wsX10_ranked wsX10_isPlace := goodIn_r _ [8, 9, 10, 7, 11] (by decide +kernel) (by decide +kernel)
set_option maxRecDepth 20000 in
theorem gX10_ranked_X10_isPlace : GoodIn wsX10_ranked (va_wsS RX10 86 yX10_isPlace wsX10_isPlace) := goodIn_app (goodIn_of _ (by decide +kernel)) ggX10_ranked_X10_isPlace
set_option maxRecDepth 20000 in
theorem ggX10_ranked_X10_castFault : GoodIn wsX10_ranked wsX10_castFault := goodIn_r _ [15, 16, 17, 18, 19, 7, 20, 32, 33, 34, 35, 36, 37, 38, 39, 40, 41, 42, 43, 44, 45, 46, 47, 48, 49, 50, 51, 52, 53, 54, 55, 56, 57] (by decide +kernel) (by decide +kernel)
set_option maxRecDepth 20000 in
theorem gX10_ranked_X10_castFault : GoodIn wsX10_ranked (wsV RX10 110 RX10 yX10_castFault wsX10_castFault) := goodIn_app (goodIn_of _ (by decide +kernel)) ggX10_ranked_X10_castFault
set_option maxRecDepth 20000 in
theorem ggX10_ranked_X10_in : GoodIn wsX10_ranked wsX10_in := goodIn_r _ [11] (by decide +kernel) (by decide +kernel)
set_option maxRecDepth 20000 in
theorem gX10_ranked_X10_in : GoodIn wsX10_ranked (va_wsS RX10 70 yX10_in wsX10_in) := goodIn_app (goodIn_of _ (by decide +kernel)) ggX10_ranked_X10_in
set_option maxRecDepth 20000 in
theorem ggX10_ranked_X10_fails : GoodIn wsX10_ranked wsX10_fails := goodIn_r _ [24, 25, 32, 33, 34, 35, 36, 37, 38, 39, 40, 41, 42, 43, 44, 45, 46, 47, 48, 49, 50, 51, 52, 53, 54, 55, 56, 57] (by decide +kernel) (by decide +kernel)
set_option maxRecDepth 20000 in
theorem gX10_ranked_X10_fails : GoodIn wsX10_ranked (wsV RX10 90 RX10 yX10_fails wsX10_fails) := goodIn_app (goodIn_of _ (by decide +kernel)) ggX10_ranked_X10_fails
set_option maxRecDepth 20000 in
theorem ggX10_ranked_X10_against : GoodIn wsX10_ranked wsX10_against := goodIn_r _ [29, 30, 31, 32, 33, 34, 35, 36, 37, 38, 39, 40, 41, 42, 43, 44, 45, 46, 47, 48, 49, 50, 51, 52, 53, 54, 55, 56, 57] (by decide +kernel) (by decide +kernel)
set_option maxRecDepth 20000 in
theorem gX10_ranked_X10_against : GoodIn wsX10_ranked (wsV RX10 131 RX10 yX10_against wsX10_against) := goodIn_app (goodIn_of _ (by decide +kernel)) ggX10_ranked_X10_against
theorem dX10_ranked_0 : decode cX10_ranked 0 = .ok (.aload_n 0, 1) := by decide +kernel
theorem dX10_ranked_1 : decode cX10_ranked 1 = .ok (.iconst 0, 1) := by decide +kernel
theorem dX10_ranked_2 : decode cX10_ranked 2 = .ok (.putfield 66, 3) := by decide +kernel
theorem dX10_ranked_5 : decode cX10_ranked 5 = .ok (.iload_n 1, 1) := by decide +kernel
theorem dX10_ranked_6 : decode cX10_ranked 6 = .ok (.invokestatic 86, 3) := by decide +kernel
theorem dX10_ranked_9 : decode cX10_ranked 9 = .ok (.ifCond .ne 5, 3) := by decide +kernel
theorem dX10_ranked_12 : decode cX10_ranked 12 = .ok (.iconst (-1), 1) := by decide +kernel
theorem dX10_ranked_13 : decode cX10_ranked 13 = .ok (.ireturn, 1) := by decide +kernel
theorem dX10_ranked_14 : decode cX10_ranked 14 = .ok (.aload_n 0, 1) := by decide +kernel
theorem dX10_ranked_15 : decode cX10_ranked 15 = .ok (.iload_n 1, 1) := by decide +kernel
theorem dX10_ranked_16 : decode cX10_ranked 16 = .ok (.iconst 4, 1) := by decide +kernel
theorem dX10_ranked_17 : decode cX10_ranked 17 = .ok (.invokevirtual 110, 3) := by decide +kernel
theorem dX10_ranked_20 : decode cX10_ranked 20 = .ok (.istore_n 3, 1) := by decide +kernel
theorem dX10_ranked_21 : decode cX10_ranked 21 = .ok (.aload_n 0, 1) := by decide +kernel
theorem dX10_ranked_22 : decode cX10_ranked 22 = .ok (.getfield 13, 3) := by decide +kernel
theorem dX10_ranked_25 : decode cX10_ranked 25 = .ok (.iload_n 1, 1) := by decide +kernel
theorem dX10_ranked_26 : decode cX10_ranked 26 = .ok (.iaload, 1) := by decide +kernel
theorem dX10_ranked_27 : decode cX10_ranked 27 = .ok (.istore 4, 2) := by decide +kernel
theorem dX10_ranked_29 : decode cX10_ranked 29 = .ok (.iload_n 3, 1) := by decide +kernel
theorem dX10_ranked_30 : decode cX10_ranked 30 = .ok (.ifCond .gt 20, 3) := by decide +kernel
theorem dX10_ranked_33 : decode cX10_ranked 33 = .ok (.iload_n 2, 1) := by decide +kernel
theorem dX10_ranked_34 : decode cX10_ranked 34 = .ok (.iconst 0, 1) := by decide +kernel
theorem dX10_ranked_35 : decode cX10_ranked 35 = .ok (.aload_n 0, 1) := by decide +kernel
theorem dX10_ranked_36 : decode cX10_ranked 36 = .ok (.getfield 43, 3) := by decide +kernel
theorem dX10_ranked_39 : decode cX10_ranked 39 = .ok (.iload 4, 2) := by decide +kernel
theorem dX10_ranked_41 : decode cX10_ranked 41 = .ok (.iaload, 1) := by decide +kernel
theorem dX10_ranked_42 : decode cX10_ranked 42 = .ok (.iconst 1, 1) := by decide +kernel
theorem dX10_ranked_43 : decode cX10_ranked 43 = .ok (.isub, 1) := by decide +kernel
theorem dX10_ranked_44 : decode cX10_ranked 44 = .ok (.invokestatic 70, 3) := by decide +kernel
theorem dX10_ranked_47 : decode cX10_ranked 47 = .ok (.ifCond .ne 17, 3) := by decide +kernel
theorem dX10_ranked_50 : decode cX10_ranked 50 = .ok (.aload_n 0, 1) := by decide +kernel
theorem dX10_ranked_51 : decode cX10_ranked 51 = .ok (.iload_n 3, 1) := by decide +kernel
theorem dX10_ranked_52 : decode cX10_ranked 52 = .ok (.ifCond .le 7, 3) := by decide +kernel
theorem dX10_ranked_55 : decode cX10_ranked 55 = .ok (.iload_n 3, 1) := by decide +kernel
theorem dX10_ranked_56 : decode cX10_ranked 56 = .ok (.goto 4, 3) := by decide +kernel
theorem dX10_ranked_59 : decode cX10_ranked 59 = .ok (.iconst 3, 1) := by decide +kernel
theorem dX10_ranked_60 : decode cX10_ranked 60 = .ok (.invokevirtual 90, 3) := by decide +kernel
theorem dX10_ranked_63 : decode cX10_ranked 63 = .ok (.ireturn, 1) := by decide +kernel
theorem dX10_ranked_64 : decode cX10_ranked 64 = .ok (.iconst (-1), 1) := by decide +kernel
theorem dX10_ranked_65 : decode cX10_ranked 65 = .ok (.istore 5, 2) := by decide +kernel
theorem dX10_ranked_67 : decode cX10_ranked 67 = .ok (.iconst 0, 1) := by decide +kernel
theorem dX10_ranked_68 : decode cX10_ranked 68 = .ok (.istore 6, 2) := by decide +kernel
theorem dX10_ranked_70 : decode cX10_ranked 70 = .ok (.iload 6, 2) := by decide +kernel
theorem dX10_ranked_72 : decode cX10_ranked 72 = .ok (.aload_n 0, 1) := by decide +kernel
theorem dX10_ranked_73 : decode cX10_ranked 73 = .ok (.getfield 43, 3) := by decide +kernel
theorem dX10_ranked_76 : decode cX10_ranked 76 = .ok (.iload 4, 2) := by decide +kernel
theorem dX10_ranked_78 : decode cX10_ranked 78 = .ok (.iaload, 1) := by decide +kernel
theorem dX10_ranked_79 : decode cX10_ranked 79 = .ok (.if_icmp .ge 107, 3) := by decide +kernel
theorem dX10_ranked_82 : decode cX10_ranked 82 = .ok (.iconst 0, 1) := by decide +kernel
theorem dX10_ranked_83 : decode cX10_ranked 83 = .ok (.istore 7, 2) := by decide +kernel
theorem dX10_ranked_85 : decode cX10_ranked 85 = .ok (.iconst 0, 1) := by decide +kernel
theorem dX10_ranked_86 : decode cX10_ranked 86 = .ok (.istore 8, 2) := by decide +kernel
theorem dX10_ranked_88 : decode cX10_ranked 88 = .ok (.iload 8, 2) := by decide +kernel
theorem dX10_ranked_90 : decode cX10_ranked 90 = .ok (.aload_n 0, 1) := by decide +kernel
theorem dX10_ranked_91 : decode cX10_ranked 91 = .ok (.getfield 43, 3) := by decide +kernel
theorem dX10_ranked_94 : decode cX10_ranked 94 = .ok (.iload 4, 2) := by decide +kernel
theorem dX10_ranked_96 : decode cX10_ranked 96 = .ok (.iaload, 1) := by decide +kernel
theorem dX10_ranked_97 : decode cX10_ranked 97 = .ok (.if_icmp .ge 68, 3) := by decide +kernel
theorem dX10_ranked_100 : decode cX10_ranked 100 = .ok (.aload_n 0, 1) := by decide +kernel
theorem dX10_ranked_101 : decode cX10_ranked 101 = .ok (.aload_n 0, 1) := by decide +kernel
theorem dX10_ranked_102 : decode cX10_ranked 102 = .ok (.getfield 57, 3) := by decide +kernel
theorem dX10_ranked_105 : decode cX10_ranked 105 = .ok (.bipush 100, 2) := by decide +kernel
theorem dX10_ranked_107 : decode cX10_ranked 107 = .ok (.iload 4, 2) := by decide +kernel
theorem dX10_ranked_109 : decode cX10_ranked 109 = .ok (.imul, 1) := by decide +kernel
theorem dX10_ranked_110 : decode cX10_ranked 110 = .ok (.iload 8, 2) := by decide +kernel
theorem dX10_ranked_112 : decode cX10_ranked 112 = .ok (.iadd, 1) := by decide +kernel
theorem dX10_ranked_113 : decode cX10_ranked 113 = .ok (.iaload, 1) := by decide +kernel
theorem dX10_ranked_114 : decode cX10_ranked 114 = .ok (.aload_n 0, 1) := by decide +kernel
theorem dX10_ranked_115 : decode cX10_ranked 115 = .ok (.getfield 57, 3) := by decide +kernel
theorem dX10_ranked_118 : decode cX10_ranked 118 = .ok (.bipush 100, 2) := by decide +kernel
theorem dX10_ranked_120 : decode cX10_ranked 120 = .ok (.iload 4, 2) := by decide +kernel
theorem dX10_ranked_122 : decode cX10_ranked 122 = .ok (.imul, 1) := by decide +kernel
theorem dX10_ranked_123 : decode cX10_ranked 123 = .ok (.iload 6, 2) := by decide +kernel
theorem dX10_ranked_125 : decode cX10_ranked 125 = .ok (.iadd, 1) := by decide +kernel
theorem dX10_ranked_126 : decode cX10_ranked 126 = .ok (.iaload, 1) := by decide +kernel
theorem dX10_ranked_127 : decode cX10_ranked 127 = .ok (.invokevirtual 131, 3) := by decide +kernel
theorem dX10_ranked_130 : decode cX10_ranked 130 = .ok (.istore 9, 2) := by decide +kernel
theorem dX10_ranked_132 : decode cX10_ranked 132 = .ok (.iload 7, 2) := by decide +kernel
theorem dX10_ranked_134 : decode cX10_ranked 134 = .ok (.iload 9, 2) := by decide +kernel
theorem dX10_ranked_136 : decode cX10_ranked 136 = .ok (.ifCond .lt 15, 3) := by decide +kernel
theorem dX10_ranked_139 : decode cX10_ranked 139 = .ok (.iload 9, 2) := by decide +kernel
theorem dX10_ranked_141 : decode cX10_ranked 141 = .ok (.ifCond .ne 14, 3) := by decide +kernel
theorem dX10_ranked_144 : decode cX10_ranked 144 = .ok (.iload 8, 2) := by decide +kernel
theorem dX10_ranked_146 : decode cX10_ranked 146 = .ok (.iload 6, 2) := by decide +kernel
theorem dX10_ranked_148 : decode cX10_ranked 148 = .ok (.if_icmp .ge 7, 3) := by decide +kernel
theorem dX10_ranked_151 : decode cX10_ranked 151 = .ok (.iconst 1, 1) := by decide +kernel
theorem dX10_ranked_152 : decode cX10_ranked 152 = .ok (.goto 4, 3) := by decide +kernel
theorem dX10_ranked_155 : decode cX10_ranked 155 = .ok (.iconst 0, 1) := by decide +kernel
theorem dX10_ranked_156 : decode cX10_ranked 156 = .ok (.iadd, 1) := by decide +kernel
theorem dX10_ranked_157 : decode cX10_ranked 157 = .ok (.istore 7, 2) := by decide +kernel
theorem dX10_ranked_159 : decode cX10_ranked 159 = .ok (.iinc 8 1, 3) := by decide +kernel
theorem dX10_ranked_162 : decode cX10_ranked 162 = .ok (.goto (-74), 3) := by decide +kernel
theorem dX10_ranked_165 : decode cX10_ranked 165 = .ok (.iload 7, 2) := by decide +kernel
theorem dX10_ranked_167 : decode cX10_ranked 167 = .ok (.iload_n 2, 1) := by decide +kernel
theorem dX10_ranked_168 : decode cX10_ranked 168 = .ok (.if_icmp .ne 8, 3) := by decide +kernel
theorem dX10_ranked_171 : decode cX10_ranked 171 = .ok (.iload 6, 2) := by decide +kernel
theorem dX10_ranked_173 : decode cX10_ranked 173 = .ok (.goto 5, 3) := by decide +kernel
theorem dX10_ranked_176 : decode cX10_ranked 176 = .ok (.iload 5, 2) := by decide +kernel
theorem dX10_ranked_178 : decode cX10_ranked 178 = .ok (.istore 5, 2) := by decide +kernel
theorem dX10_ranked_180 : decode cX10_ranked 180 = .ok (.iinc 6 1, 3) := by decide +kernel
theorem dX10_ranked_183 : decode cX10_ranked 183 = .ok (.goto (-113), 3) := by decide +kernel
theorem dX10_ranked_186 : decode cX10_ranked 186 = .ok (.iload 5, 2) := by decide +kernel
theorem dX10_ranked_188 : decode cX10_ranked 188 = .ok (.ireturn, 1) := by decide +kernel
set_option maxRecDepth 20000 in
theorem ggX10_merge_X10_isPlace : GoodIn wsX10_merge wsX10_isPlace := goodIn_r _ [8, 9, 10, 7, 11] (by decide +kernel) (by decide +kernel)
set_option maxRecDepth 20000 in
theorem gX10_merge_X10_isPlace : GoodIn wsX10_merge (va_wsS RX10 86 yX10_isPlace wsX10_isPlace) := goodIn_app (goodIn_of _ (by decide +kernel)) ggX10_merge_X10_isPlace
set_option maxRecDepth 20000 in
theorem ggX10_merge_X10_bothFault : GoodIn wsX10_merge wsX10_bothFault := goodIn_r _ [15, 16, 17, 18, 7, 19, 20, 21, 22, 23, 24, 74, 75, 76, 77, 78, 79, 80, 81, 82, 83, 84, 85, 86, 87, 88, 89, 90, 91, 92, 93, 94, 95, 96, 97, 98, 99] (by decide +kernel) (by decide +kernel)
set_option maxRecDepth 20000 in
theorem gX10_merge_X10_bothFault : GoodIn wsX10_merge (wsV RX10 163 RX10 yX10_bothFault wsX10_bothFault) := goodIn_app (goodIn_of _ (by decide +kernel)) ggX10_merge_X10_bothFault
set_option maxRecDepth 20000 in
theorem ggX10_merge_X10_fails : GoodIn wsX10_merge wsX10_fails := goodIn_r _ [28, 29, 74, 75, 76, 77, 78, 79, 80, 81, 82, 83, 84, 85, 86, 87, 88, 89, 90, 91, 92, 93, 94, 95, 96, 97, 98, 99] (by decide +kernel) (by decide +kernel)
set_option maxRecDepth 20000 in
theorem gX10_merge_X10_fails : GoodIn wsX10_merge (wsV RX10 90 RX10 yX10_fails wsX10_fails) := goodIn_app (goodIn_of _ (by decide +kernel)) ggX10_merge_X10_fails
set_option maxRecDepth 20000 in
theorem ggX10_merge_X10_comes : GoodIn wsX10_merge wsX10_comes := goodIn_r _ [33, 34, 3, 4, 35, 36, 37, 38, 39, 7, 40, 41, 42, 43, 44, 45, 46, 47, 48, 49, 50, 51, 52, 53, 54, 55, 56, 57, 58, 59, 60, 61, 62, 63, 64, 65, 66, 67, 68, 69, 70, 71, 72, 73, 74, 75, 76, 77, 78, 79, 80, 81, 82, 83, 84, 85, 86, 87, 88, 89, 90, 91, 92, 93, 94, 95, 96, 97, 98, 99] (by decide +kernel) (by decide +kernel)
set_option maxRecDepth 20000 in
theorem gX10_merge_X10_comes : GoodIn wsX10_merge (wsV RX10 167 RX10 yX10_comes wsX10_comes) := goodIn_app (goodIn_of _ (by decide +kernel)) ggX10_merge_X10_comes
theorem dX10_merge_0 : decode cX10_merge 0 = .ok (.aload_n 0, 1) := by decide +kernel
theorem dX10_merge_1 : decode cX10_merge 1 = .ok (.iconst 0, 1) := by decide +kernel
theorem dX10_merge_2 : decode cX10_merge 2 = .ok (.putfield 66, 3) := by decide +kernel
theorem dX10_merge_5 : decode cX10_merge 5 = .ok (.iload_n 1, 1) := by decide +kernel
theorem dX10_merge_6 : decode cX10_merge 6 = .ok (.invokestatic 86, 3) := by decide +kernel
theorem dX10_merge_9 : decode cX10_merge 9 = .ok (.ifCond .eq 10, 3) := by decide +kernel
theorem dX10_merge_12 : decode cX10_merge 12 = .ok (.iload_n 2, 1) := by decide +kernel
theorem dX10_merge_13 : decode cX10_merge 13 = .ok (.invokestatic 86, 3) := by decide +kernel
theorem dX10_merge_16 : decode cX10_merge 16 = .ok (.ifCond .ne 5, 3) := by decide +kernel
theorem dX10_merge_19 : decode cX10_merge 19 = .ok (.iconst (-1), 1) := by decide +kernel
theorem dX10_merge_20 : decode cX10_merge 20 = .ok (.ireturn, 1) := by decide +kernel
theorem dX10_merge_21 : decode cX10_merge 21 = .ok (.aload_n 0, 1) := by decide +kernel
theorem dX10_merge_22 : decode cX10_merge 22 = .ok (.iload_n 1, 1) := by decide +kernel
theorem dX10_merge_23 : decode cX10_merge 23 = .ok (.iload_n 2, 1) := by decide +kernel
theorem dX10_merge_24 : decode cX10_merge 24 = .ok (.iconst 4, 1) := by decide +kernel
theorem dX10_merge_25 : decode cX10_merge 25 = .ok (.invokevirtual 163, 3) := by decide +kernel
theorem dX10_merge_28 : decode cX10_merge 28 = .ok (.istore_n 3, 1) := by decide +kernel
theorem dX10_merge_29 : decode cX10_merge 29 = .ok (.iload_n 3, 1) := by decide +kernel
theorem dX10_merge_30 : decode cX10_merge 30 = .ok (.ifCond .le 9, 3) := by decide +kernel
theorem dX10_merge_33 : decode cX10_merge 33 = .ok (.aload_n 0, 1) := by decide +kernel
theorem dX10_merge_34 : decode cX10_merge 34 = .ok (.iload_n 3, 1) := by decide +kernel
theorem dX10_merge_35 : decode cX10_merge 35 = .ok (.invokevirtual 90, 3) := by decide +kernel
theorem dX10_merge_38 : decode cX10_merge 38 = .ok (.ireturn, 1) := by decide +kernel
theorem dX10_merge_39 : decode cX10_merge 39 = .ok (.aload_n 0, 1) := by decide +kernel
theorem dX10_merge_40 : decode cX10_merge 40 = .ok (.getfield 13, 3) := by decide +kernel
theorem dX10_merge_43 : decode cX10_merge 43 = .ok (.iload_n 1, 1) := by decide +kernel
theorem dX10_merge_44 : decode cX10_merge 44 = .ok (.iaload, 1) := by decide +kernel
theorem dX10_merge_45 : decode cX10_merge 45 = .ok (.istore 4, 2) := by decide +kernel
theorem dX10_merge_47 : decode cX10_merge 47 = .ok (.aload_n 0, 1) := by decide +kernel
theorem dX10_merge_48 : decode cX10_merge 48 = .ok (.getfield 13, 3) := by decide +kernel
theorem dX10_merge_51 : decode cX10_merge 51 = .ok (.iload_n 2, 1) := by decide +kernel
theorem dX10_merge_52 : decode cX10_merge 52 = .ok (.iaload, 1) := by decide +kernel
theorem dX10_merge_53 : decode cX10_merge 53 = .ok (.istore 5, 2) := by decide +kernel
theorem dX10_merge_55 : decode cX10_merge 55 = .ok (.iconst 0, 1) := by decide +kernel
theorem dX10_merge_56 : decode cX10_merge 56 = .ok (.istore 6, 2) := by decide +kernel
theorem dX10_merge_58 : decode cX10_merge 58 = .ok (.aload_n 0, 1) := by decide +kernel
theorem dX10_merge_59 : decode cX10_merge 59 = .ok (.getfield 43, 3) := by decide +kernel
theorem dX10_merge_62 : decode cX10_merge 62 = .ok (.iload 5, 2) := by decide +kernel
theorem dX10_merge_64 : decode cX10_merge 64 = .ok (.iaload, 1) := by decide +kernel
theorem dX10_merge_65 : decode cX10_merge 65 = .ok (.istore 7, 2) := by decide +kernel
theorem dX10_merge_67 : decode cX10_merge 67 = .ok (.iconst 0, 1) := by decide +kernel
theorem dX10_merge_68 : decode cX10_merge 68 = .ok (.istore 8, 2) := by decide +kernel
theorem dX10_merge_70 : decode cX10_merge 70 = .ok (.iload 8, 2) := by decide +kernel
theorem dX10_merge_72 : decode cX10_merge 72 = .ok (.iload 7, 2) := by decide +kernel
theorem dX10_merge_74 : decode cX10_merge 74 = .ok (.if_icmp .ge 60, 3) := by decide +kernel
theorem dX10_merge_77 : decode cX10_merge 77 = .ok (.aload_n 0, 1) := by decide +kernel
theorem dX10_merge_78 : decode cX10_merge 78 = .ok (.getfield 43, 3) := by decide +kernel
theorem dX10_merge_81 : decode cX10_merge 81 = .ok (.iload 4, 2) := by decide +kernel
theorem dX10_merge_83 : decode cX10_merge 83 = .ok (.iaload, 1) := by decide +kernel
theorem dX10_merge_84 : decode cX10_merge 84 = .ok (.istore 9, 2) := by decide +kernel
theorem dX10_merge_86 : decode cX10_merge 86 = .ok (.aload_n 0, 1) := by decide +kernel
theorem dX10_merge_87 : decode cX10_merge 87 = .ok (.iload 4, 2) := by decide +kernel
theorem dX10_merge_89 : decode cX10_merge 89 = .ok (.aload_n 0, 1) := by decide +kernel
theorem dX10_merge_90 : decode cX10_merge 90 = .ok (.getfield 57, 3) := by decide +kernel
theorem dX10_merge_93 : decode cX10_merge 93 = .ok (.bipush 100, 2) := by decide +kernel
theorem dX10_merge_95 : decode cX10_merge 95 = .ok (.iload 5, 2) := by decide +kernel
theorem dX10_merge_97 : decode cX10_merge 97 = .ok (.imul, 1) := by decide +kernel
theorem dX10_merge_98 : decode cX10_merge 98 = .ok (.iload 8, 2) := by decide +kernel
theorem dX10_merge_100 : decode cX10_merge 100 = .ok (.iadd, 1) := by decide +kernel
theorem dX10_merge_101 : decode cX10_merge 101 = .ok (.iaload, 1) := by decide +kernel
theorem dX10_merge_102 : decode cX10_merge 102 = .ok (.invokevirtual 167, 3) := by decide +kernel
theorem dX10_merge_105 : decode cX10_merge 105 = .ok (.bipush (-4), 2) := by decide +kernel
theorem dX10_merge_107 : decode cX10_merge 107 = .ok (.if_icmp .ne 6, 3) := by decide +kernel
theorem dX10_merge_110 : decode cX10_merge 110 = .ok (.bipush (-4), 2) := by decide +kernel
theorem dX10_merge_112 : decode cX10_merge 112 = .ok (.ireturn, 1) := by decide +kernel
theorem dX10_merge_113 : decode cX10_merge 113 = .ok (.iload 6, 2) := by decide +kernel
theorem dX10_merge_115 : decode cX10_merge 115 = .ok (.aload_n 0, 1) := by decide +kernel
theorem dX10_merge_116 : decode cX10_merge 116 = .ok (.getfield 43, 3) := by decide +kernel
theorem dX10_merge_119 : decode cX10_merge 119 = .ok (.iload 4, 2) := by decide +kernel
theorem dX10_merge_121 : decode cX10_merge 121 = .ok (.iaload, 1) := by decide +kernel
theorem dX10_merge_122 : decode cX10_merge 122 = .ok (.iload 9, 2) := by decide +kernel
theorem dX10_merge_124 : decode cX10_merge 124 = .ok (.isub, 1) := by decide +kernel
theorem dX10_merge_125 : decode cX10_merge 125 = .ok (.iadd, 1) := by decide +kernel
theorem dX10_merge_126 : decode cX10_merge 126 = .ok (.istore 6, 2) := by decide +kernel
theorem dX10_merge_128 : decode cX10_merge 128 = .ok (.iinc 8 1, 3) := by decide +kernel
theorem dX10_merge_131 : decode cX10_merge 131 = .ok (.goto (-61), 3) := by decide +kernel
theorem dX10_merge_134 : decode cX10_merge 134 = .ok (.iload 6, 2) := by decide +kernel
theorem dX10_merge_136 : decode cX10_merge 136 = .ok (.ireturn, 1) := by decide +kernel
theorem dX10_kept_0 : decode cX10_kept 0 = .ok (.aload_n 0, 1) := by decide +kernel
theorem dX10_kept_1 : decode cX10_kept 1 = .ok (.iconst 0, 1) := by decide +kernel
theorem dX10_kept_2 : decode cX10_kept 2 = .ok (.putfield 66, 3) := by decide +kernel
theorem dX10_kept_5 : decode cX10_kept 5 = .ok (.aload_n 0, 1) := by decide +kernel
theorem dX10_kept_6 : decode cX10_kept 6 = .ok (.getfield 150, 3) := by decide +kernel
theorem dX10_kept_9 : decode cX10_kept 9 = .ok (.ireturn, 1) := by decide +kernel
theorem dX10_mean_0 : decode cX10_mean 0 = .ok (.aload_n 0, 1) := by decide +kernel
theorem dX10_mean_1 : decode cX10_mean 1 = .ok (.iconst 0, 1) := by decide +kernel
theorem dX10_mean_2 : decode cX10_mean 2 = .ok (.putfield 66, 3) := by decide +kernel
theorem dX10_mean_5 : decode cX10_mean 5 = .ok (.aload_n 0, 1) := by decide +kernel
theorem dX10_mean_6 : decode cX10_mean 6 = .ok (.getfield 147, 3) := by decide +kernel
theorem dX10_mean_9 : decode cX10_mean 9 = .ok (.ifCond .ne 10, 3) := by decide +kernel
theorem dX10_mean_12 : decode cX10_mean 12 = .ok (.aload_n 0, 1) := by decide +kernel
theorem dX10_mean_13 : decode cX10_mean 13 = .ok (.iconst 1, 1) := by decide +kernel
theorem dX10_mean_14 : decode cX10_mean 14 = .ok (.putfield 66, 3) := by decide +kernel
theorem dX10_mean_17 : decode cX10_mean 17 = .ok (.iconst 0, 1) := by decide +kernel
theorem dX10_mean_18 : decode cX10_mean 18 = .ok (.ireturn, 1) := by decide +kernel
theorem dX10_mean_19 : decode cX10_mean 19 = .ok (.aload_n 0, 1) := by decide +kernel
theorem dX10_mean_20 : decode cX10_mean 20 = .ok (.getfield 143, 3) := by decide +kernel
theorem dX10_mean_23 : decode cX10_mean 23 = .ok (.aload_n 0, 1) := by decide +kernel
theorem dX10_mean_24 : decode cX10_mean 24 = .ok (.getfield 147, 3) := by decide +kernel
theorem dX10_mean_27 : decode cX10_mean 27 = .ok (.i2l, 1) := by decide +kernel
theorem dX10_mean_28 : decode cX10_mean 28 = .ok (.ldiv, 1) := by decide +kernel
theorem dX10_mean_29 : decode cX10_mean 29 = .ok (.l2i, 1) := by decide +kernel
theorem dX10_mean_30 : decode cX10_mean 30 = .ok (.ireturn, 1) := by decide +kernel
theorem dJ6_compare_7cf53_0 : decode cJ6_compare_7cf53 0 = .ok (.iload_n 0, 1) := by decide +kernel
theorem dJ6_compare_7cf53_1 : decode cJ6_compare_7cf53 1 = .ok (.iload_n 1, 1) := by decide +kernel
theorem dJ6_compare_7cf53_2 : decode cJ6_compare_7cf53 2 = .ok (.if_icmp .ge 7, 3) := by decide +kernel
theorem dJ6_compare_7cf53_5 : decode cJ6_compare_7cf53 5 = .ok (.iconst (-1), 1) := by decide +kernel
theorem dJ6_compare_7cf53_6 : decode cJ6_compare_7cf53 6 = .ok (.goto 13, 3) := by decide +kernel
theorem dJ6_compare_7cf53_9 : decode cJ6_compare_7cf53 9 = .ok (.iload_n 0, 1) := by decide +kernel
theorem dJ6_compare_7cf53_10 : decode cJ6_compare_7cf53 10 = .ok (.iload_n 1, 1) := by decide +kernel
theorem dJ6_compare_7cf53_11 : decode cJ6_compare_7cf53 11 = .ok (.if_icmp .ne 7, 3) := by decide +kernel
theorem dJ6_compare_7cf53_14 : decode cJ6_compare_7cf53 14 = .ok (.iconst 0, 1) := by decide +kernel
theorem dJ6_compare_7cf53_15 : decode cJ6_compare_7cf53 15 = .ok (.goto 4, 3) := by decide +kernel
theorem dJ6_compare_7cf53_18 : decode cJ6_compare_7cf53 18 = .ok (.iconst 1, 1) := by decide +kernel
theorem dJ6_compare_7cf53_19 : decode cJ6_compare_7cf53 19 = .ok (.ireturn, 1) := by decide +kernel
theorem dJ9_min_7cf53_0 : decode cJ9_min_7cf53 0 = .ok (.iload_n 0, 1) := by decide +kernel
theorem dJ9_min_7cf53_1 : decode cJ9_min_7cf53 1 = .ok (.iload_n 1, 1) := by decide +kernel
theorem dJ9_min_7cf53_2 : decode cJ9_min_7cf53 2 = .ok (.if_icmp .gt 7, 3) := by decide +kernel
theorem dJ9_min_7cf53_5 : decode cJ9_min_7cf53 5 = .ok (.iload_n 0, 1) := by decide +kernel
theorem dJ9_min_7cf53_6 : decode cJ9_min_7cf53 6 = .ok (.goto 4, 3) := by decide +kernel
theorem dJ9_min_7cf53_9 : decode cJ9_min_7cf53 9 = .ok (.iload_n 1, 1) := by decide +kernel
theorem dJ9_min_7cf53_10 : decode cJ9_min_7cf53 10 = .ok (.ireturn, 1) := by decide +kernel
set_option maxRecDepth 20000 in
theorem ggJ0_length_8abf5_J0_coder_7d493 : GoodIn wsJ0_length_8abf5 wsJ0_coder_7d493 := goodIn_r _ [6, 7, 8] (by decide +kernel) (by decide +kernel)
set_option maxRecDepth 20000 in
theorem gJ0_length_8abf5_J0_coder_7d493 : GoodIn wsJ0_length_8abf5 (wsV RJ0 335 RJ0 yJ0_coder_7d493 wsJ0_coder_7d493) := goodIn_app (goodIn_of _ (by decide +kernel)) ggJ0_length_8abf5_J0_coder_7d493
theorem dJ0_length_8abf5_0 : decode cJ0_length_8abf5 0 = .ok (.aload_n 0, 1) := by decide +kernel
theorem dJ0_length_8abf5_1 : decode cJ0_length_8abf5 1 = .ok (.getfield 9, 3) := by decide +kernel
theorem dJ0_length_8abf5_4 : decode cJ0_length_8abf5 4 = .ok (.arraylength, 1) := by decide +kernel
theorem dJ0_length_8abf5_5 : decode cJ0_length_8abf5 5 = .ok (.aload_n 0, 1) := by decide +kernel
theorem dJ0_length_8abf5_6 : decode cJ0_length_8abf5 6 = .ok (.invokevirtual 335, 3) := by decide +kernel
theorem dJ0_length_8abf5_9 : decode cJ0_length_8abf5 9 = .ok (.ishr, 1) := by decide +kernel
theorem dJ0_length_8abf5_10 : decode cJ0_length_8abf5 10 = .ok (.ireturn, 1) := by decide +kernel
set_option maxRecDepth 20000 in
theorem ggJ0_charAt_5068e_J0_isLatin1_aae02 : GoodIn wsJ0_charAt_5068e wsJ0_isLatin1_aae02 := goodIn_r _ [6, 7, 8] (by decide +kernel) (by decide +kernel)
set_option maxRecDepth 20000 in
theorem gJ0_charAt_5068e_J0_isLatin1_aae02 : GoodIn wsJ0_charAt_5068e (wsV RJ0 492 RJ0 yJ0_isLatin1_aae02 wsJ0_isLatin1_aae02) := goodIn_app (goodIn_of _ (by decide +kernel)) ggJ0_charAt_5068e_J0_isLatin1_aae02
set_option maxRecDepth 20000 in
theorem ggJ0_charAt_5068e_J1_charAt_3b067 : GoodIn wsJ0_charAt_5068e wsJ1_charAt_3b067 := goodIn_r _ [12, 13, 14, 5, 15, 16, 17, 18, 19, 20] (by decide +kernel) (by decide +kernel)
set_option maxRecDepth 20000 in
theorem gJ0_charAt_5068e_J1_charAt_3b067 : GoodIn wsJ0_charAt_5068e (va_wsS RJ0 495 yJ1_charAt_3b067 wsJ1_charAt_3b067) := goodIn_app (goodIn_of _ (by decide +kernel)) ggJ0_charAt_5068e_J1_charAt_3b067
set_option maxRecDepth 20000 in
theorem ggJ0_charAt_5068e_J2_charAt_3b067 : GoodIn wsJ0_charAt_5068e wsJ2_charAt_3b067 := goodIn_r _ [24, 25, 26, 23, 27, 28, 29, 30, 31, 14, 5, 15, 16, 17, 18, 19, 20, 32, 33, 34, 35, 36, 37] (by decide +kernel) (by decide +kernel)
set_option maxRecDepth 20000 in
theorem gJ0_charAt_5068e_J2_charAt_3b067 : GoodIn wsJ0_charAt_5068e (va_wsS RJ0 498 yJ2_charAt_3b067 wsJ2_charAt_3b067) := goodIn_app (goodIn_of _ (by decide +kernel)) ggJ0_charAt_5068e_J2_charAt_3b067
theorem dJ0_charAt_5068e_0 : decode cJ0_charAt_5068e 0 = .ok (.aload_n 0, 1) := by decide +kernel
theorem dJ0_charAt_5068e_1 : decode cJ0_charAt_5068e 1 = .ok (.invokevirtual 492, 3) := by decide +kernel
theorem dJ0_charAt_5068e_4 : decode cJ0_charAt_5068e 4 = .ok (.ifCond .eq 12, 3) := by decide +kernel
theorem dJ0_charAt_5068e_7 : decode cJ0_charAt_5068e 7 = .ok (.aload_n 0, 1) := by decide +kernel
theorem dJ0_charAt_5068e_8 : decode cJ0_charAt_5068e 8 = .ok (.getfield 9, 3) := by decide +kernel
theorem dJ0_charAt_5068e_11 : decode cJ0_charAt_5068e 11 = .ok (.iload_n 1, 1) := by decide +kernel
theorem dJ0_charAt_5068e_12 : decode cJ0_charAt_5068e 12 = .ok (.invokestatic 495, 3) := by decide +kernel
theorem dJ0_charAt_5068e_15 : decode cJ0_charAt_5068e 15 = .ok (.ireturn, 1) := by decide +kernel
theorem dJ0_charAt_5068e_16 : decode cJ0_charAt_5068e 16 = .ok (.aload_n 0, 1) := by decide +kernel
theorem dJ0_charAt_5068e_17 : decode cJ0_charAt_5068e 17 = .ok (.getfield 9, 3) := by decide +kernel
theorem dJ0_charAt_5068e_20 : decode cJ0_charAt_5068e 20 = .ok (.iload_n 1, 1) := by decide +kernel
theorem dJ0_charAt_5068e_21 : decode cJ0_charAt_5068e 21 = .ok (.invokestatic 498, 3) := by decide +kernel
theorem dJ0_charAt_5068e_24 : decode cJ0_charAt_5068e 24 = .ok (.ireturn, 1) := by decide +kernel
theorem dJ0_coder_7d493_0 : decode cJ0_coder_7d493 0 = .ok (.getstatic 38, 3) := by decide +kernel
theorem dJ0_coder_7d493_3 : decode cJ0_coder_7d493 3 = .ok (.ifCond .eq 10, 3) := by decide +kernel
theorem dJ0_coder_7d493_6 : decode cJ0_coder_7d493 6 = .ok (.aload_n 0, 1) := by decide +kernel
theorem dJ0_coder_7d493_7 : decode cJ0_coder_7d493 7 = .ok (.getfield 15, 3) := by decide +kernel
theorem dJ0_coder_7d493_10 : decode cJ0_coder_7d493 10 = .ok (.goto 4, 3) := by decide +kernel
theorem dJ0_coder_7d493_13 : decode cJ0_coder_7d493 13 = .ok (.iconst 1, 1) := by decide +kernel
theorem dJ0_coder_7d493_14 : decode cJ0_coder_7d493 14 = .ok (.ireturn, 1) := by decide +kernel
theorem dJ0_isLatin1_aae02_0 : decode cJ0_isLatin1_aae02 0 = .ok (.getstatic 38, 3) := by decide +kernel
theorem dJ0_isLatin1_aae02_3 : decode cJ0_isLatin1_aae02 3 = .ok (.ifCond .eq 14, 3) := by decide +kernel
theorem dJ0_isLatin1_aae02_6 : decode cJ0_isLatin1_aae02 6 = .ok (.aload_n 0, 1) := by decide +kernel
theorem dJ0_isLatin1_aae02_7 : decode cJ0_isLatin1_aae02 7 = .ok (.getfield 15, 3) := by decide +kernel
theorem dJ0_isLatin1_aae02_10 : decode cJ0_isLatin1_aae02 10 = .ok (.ifCond .ne 7, 3) := by decide +kernel
theorem dJ0_isLatin1_aae02_13 : decode cJ0_isLatin1_aae02 13 = .ok (.iconst 1, 1) := by decide +kernel
theorem dJ0_isLatin1_aae02_14 : decode cJ0_isLatin1_aae02 14 = .ok (.goto 4, 3) := by decide +kernel
theorem dJ0_isLatin1_aae02_17 : decode cJ0_isLatin1_aae02 17 = .ok (.iconst 0, 1) := by decide +kernel
theorem dJ0_isLatin1_aae02_18 : decode cJ0_isLatin1_aae02 18 = .ok (.ireturn, 1) := by decide +kernel
set_option maxRecDepth 20000 in
theorem ggJ0_checkIndex_df160_J3_checkIndex_8e157 : GoodIn wsJ0_checkIndex_df160 wsJ3_checkIndex_8e157 := goodIn_r _ [5] (by decide +kernel) (by decide +kernel)
set_option maxRecDepth 20000 in
theorem gJ0_checkIndex_df160_J3_checkIndex_8e157 : GoodIn wsJ0_checkIndex_df160 (va_wsS RJ0 1059 yJ3_checkIndex_8e157 wsJ3_checkIndex_8e157) := goodIn_app (goodIn_of _ (by decide +kernel)) ggJ0_checkIndex_df160_J3_checkIndex_8e157
theorem dJ0_checkIndex_df160_0 : decode cJ0_checkIndex_df160 0 = .ok (.iload_n 0, 1) := by decide +kernel
theorem dJ0_checkIndex_df160_1 : decode cJ0_checkIndex_df160 1 = .ok (.iload_n 1, 1) := by decide +kernel
theorem dJ0_checkIndex_df160_2 : decode cJ0_checkIndex_df160 2 = .ok (.getstatic 1053, 3) := by decide +kernel
theorem dJ0_checkIndex_df160_5 : decode cJ0_checkIndex_df160 5 = .ok (.invokestatic 1059, 3) := by decide +kernel
theorem dJ0_checkIndex_df160_8 : decode cJ0_checkIndex_df160 8 = .ok (.pop, 1) := by decide +kernel
theorem dJ0_checkIndex_df160_9 : decode cJ0_checkIndex_df160 9 = .ok (.return_, 1) := by decide +kernel
set_option maxRecDepth 20000 in
theorem ggJ1_charAt_3b067_J0_checkIndex_df160 : GoodIn wsJ1_charAt_3b067 wsJ0_checkIndex_df160 := goodIn_r _ [4, 5, 6, 7, 8, 9] (by decide +kernel) (by decide +kernel)
set_option maxRecDepth 20000 in
theorem gJ1_charAt_3b067_J0_checkIndex_df160 : GoodIn wsJ1_charAt_3b067 (va_wsS RJ1 9 yJ0_checkIndex_df160 wsJ0_checkIndex_df160) := goodIn_app (goodIn_of _ (by decide +kernel)) ggJ1_charAt_3b067_J0_checkIndex_df160
theorem dJ1_charAt_3b067_0 : decode cJ1_charAt_3b067 0 = .ok (.iload_n 1, 1) := by decide +kernel
theorem dJ1_charAt_3b067_1 : decode cJ1_charAt_3b067 1 = .ok (.aload_n 0, 1) := by decide +kernel
theorem dJ1_charAt_3b067_2 : decode cJ1_charAt_3b067 2 = .ok (.arraylength, 1) := by decide +kernel
theorem dJ1_charAt_3b067_3 : decode cJ1_charAt_3b067 3 = .ok (.invokestatic 9, 3) := by decide +kernel
theorem dJ1_charAt_3b067_6 : decode cJ1_charAt_3b067 6 = .ok (.aload_n 0, 1) := by decide +kernel
theorem dJ1_charAt_3b067_7 : decode cJ1_charAt_3b067 7 = .ok (.iload_n 1, 1) := by decide +kernel
theorem dJ1_charAt_3b067_8 : decode cJ1_charAt_3b067 8 = .ok (.baload, 1) := by decide +kernel
theorem dJ1_charAt_3b067_9 : decode cJ1_charAt_3b067 9 = .ok (.sipush 255, 3) := by decide +kernel
theorem dJ1_charAt_3b067_12 : decode cJ1_charAt_3b067 12 = .ok (.iand, 1) := by decide +kernel
theorem dJ1_charAt_3b067_13 : decode cJ1_charAt_3b067 13 = .ok (.i2c, 1) := by decide +kernel
theorem dJ1_charAt_3b067_14 : decode cJ1_charAt_3b067 14 = .ok (.ireturn, 1) := by decide +kernel
set_option maxRecDepth 20000 in
theorem ggJ2_getChar_3b067_J2_length_9d52b : GoodIn wsJ2_getChar_3b067 wsJ2_length_9d52b := goodIn_r _ [7] (by decide +kernel) (by decide +kernel)
set_option maxRecDepth 20000 in
theorem gJ2_getChar_3b067_J2_length_9d52b : GoodIn wsJ2_getChar_3b067 (va_wsS RJ2 48 yJ2_length_9d52b wsJ2_length_9d52b) := goodIn_app (goodIn_of _ (by decide +kernel)) ggJ2_getChar_3b067_J2_length_9d52b
theorem dJ2_getChar_3b067_0 : decode cJ2_getChar_3b067 0 = .ok (.getstatic 44, 3) := by decide +kernel
theorem dJ2_getChar_3b067_3 : decode cJ2_getChar_3b067 3 = .ok (.ifCond .ne 25, 3) := by decide +kernel
theorem dJ2_getChar_3b067_6 : decode cJ2_getChar_3b067 6 = .ok (.iload_n 1, 1) := by decide +kernel
theorem dJ2_getChar_3b067_7 : decode cJ2_getChar_3b067 7 = .ok (.ifCond .lt 11, 3) := by decide +kernel
theorem dJ2_getChar_3b067_10 : decode cJ2_getChar_3b067 10 = .ok (.iload_n 1, 1) := by decide +kernel
theorem dJ2_getChar_3b067_11 : decode cJ2_getChar_3b067 11 = .ok (.aload_n 0, 1) := by decide +kernel
theorem dJ2_getChar_3b067_12 : decode cJ2_getChar_3b067 12 = .ok (.invokestatic 48, 3) := by decide +kernel
theorem dJ2_getChar_3b067_15 : decode cJ2_getChar_3b067 15 = .ok (.if_icmp .lt 13, 3) := by decide +kernel
theorem dJ2_getChar_3b067_18 : decode cJ2_getChar_3b067 18 = .ok (.new 52, 3) := by decide +kernel
theorem dJ2_getChar_3b067_21 : decode cJ2_getChar_3b067 21 = .ok (.dup, 1) := by decide +kernel
theorem dJ2_getChar_3b067_22 : decode cJ2_getChar_3b067 22 = .ok (.ldc 54, 2) := by decide +kernel
theorem dJ2_getChar_3b067_24 : decode cJ2_getChar_3b067 24 = .ok (.invokespecial 56, 3) := by decide +kernel
theorem dJ2_getChar_3b067_27 : decode cJ2_getChar_3b067 27 = .ok (.athrow, 1) := by decide +kernel
theorem dJ2_getChar_3b067_28 : decode cJ2_getChar_3b067 28 = .ok (.iload_n 1, 1) := by decide +kernel
theorem dJ2_getChar_3b067_29 : decode cJ2_getChar_3b067 29 = .ok (.iconst 1, 1) := by decide +kernel
theorem dJ2_getChar_3b067_30 : decode cJ2_getChar_3b067 30 = .ok (.ishl, 1) := by decide +kernel
theorem dJ2_getChar_3b067_31 : decode cJ2_getChar_3b067 31 = .ok (.istore_n 1, 1) := by decide +kernel
theorem dJ2_getChar_3b067_32 : decode cJ2_getChar_3b067 32 = .ok (.aload_n 0, 1) := by decide +kernel
theorem dJ2_getChar_3b067_33 : decode cJ2_getChar_3b067 33 = .ok (.iload_n 1, 1) := by decide +kernel
theorem dJ2_getChar_3b067_34 : decode cJ2_getChar_3b067 34 = .ok (.iinc 1 1, 3) := by decide +kernel
theorem dJ2_getChar_3b067_37 : decode cJ2_getChar_3b067 37 = .ok (.baload, 1) := by decide +kernel
theorem dJ2_getChar_3b067_38 : decode cJ2_getChar_3b067 38 = .ok (.sipush 255, 3) := by decide +kernel
theorem dJ2_getChar_3b067_41 : decode cJ2_getChar_3b067 41 = .ok (.iand, 1) := by decide +kernel
theorem dJ2_getChar_3b067_42 : decode cJ2_getChar_3b067 42 = .ok (.getstatic 59, 3) := by decide +kernel
theorem dJ2_getChar_3b067_45 : decode cJ2_getChar_3b067 45 = .ok (.ishl, 1) := by decide +kernel
theorem dJ2_getChar_3b067_46 : decode cJ2_getChar_3b067 46 = .ok (.aload_n 0, 1) := by decide +kernel
theorem dJ2_getChar_3b067_47 : decode cJ2_getChar_3b067 47 = .ok (.iload_n 1, 1) := by decide +kernel
theorem dJ2_getChar_3b067_48 : decode cJ2_getChar_3b067 48 = .ok (.baload, 1) := by decide +kernel
theorem dJ2_getChar_3b067_49 : decode cJ2_getChar_3b067 49 = .ok (.sipush 255, 3) := by decide +kernel
theorem dJ2_getChar_3b067_52 : decode cJ2_getChar_3b067 52 = .ok (.iand, 1) := by decide +kernel
theorem dJ2_getChar_3b067_53 : decode cJ2_getChar_3b067 53 = .ok (.getstatic 63, 3) := by decide +kernel
theorem dJ2_getChar_3b067_56 : decode cJ2_getChar_3b067 56 = .ok (.ishl, 1) := by decide +kernel
theorem dJ2_getChar_3b067_57 : decode cJ2_getChar_3b067 57 = .ok (.ior, 1) := by decide +kernel
theorem dJ2_getChar_3b067_58 : decode cJ2_getChar_3b067 58 = .ok (.i2c, 1) := by decide +kernel
theorem dJ2_getChar_3b067_59 : decode cJ2_getChar_3b067 59 = .ok (.ireturn, 1) := by decide +kernel
theorem dJ2_length_9d52b_0 : decode cJ2_length_9d52b 0 = .ok (.aload_n 0, 1) := by decide +kernel
theorem dJ2_length_9d52b_1 : decode cJ2_length_9d52b 1 = .ok (.arraylength, 1) := by decide +kernel
theorem dJ2_length_9d52b_2 : decode cJ2_length_9d52b 2 = .ok (.iconst 1, 1) := by decide +kernel
theorem dJ2_length_9d52b_3 : decode cJ2_length_9d52b 3 = .ok (.ishr, 1) := by decide +kernel
theorem dJ2_length_9d52b_4 : decode cJ2_length_9d52b 4 = .ok (.ireturn, 1) := by decide +kernel
set_option maxRecDepth 20000 in
theorem ggJ2_charAt_3b067_J2_checkIndex_2214a : GoodIn wsJ2_charAt_3b067 wsJ2_checkIndex_2214a := goodIn_r _ [4, 5, 6, 3, 7, 8, 9, 10, 11, 12, 13, 14, 15, 16] (by decide +kernel) (by decide +kernel)
set_option maxRecDepth 20000 in
theorem gJ2_charAt_3b067_J2_checkIndex_2214a : GoodIn wsJ2_charAt_3b067 (va_wsS RJ2 67 yJ2_checkIndex_2214a wsJ2_checkIndex_2214a) := goodIn_app (goodIn_of _ (by decide +kernel)) ggJ2_charAt_3b067_J2_checkIndex_2214a
set_option maxRecDepth 20000 in
theorem ggJ2_charAt_3b067_J2_getChar_3b067 : GoodIn wsJ2_charAt_3b067 wsJ2_getChar_3b067 := goodIn_r _ [19, 20, 21, 22, 5, 6, 3, 7] (by decide +kernel) (by decide +kernel)
set_option maxRecDepth 20000 in
theorem gJ2_charAt_3b067_J2_getChar_3b067 : GoodIn wsJ2_charAt_3b067 (va_wsS RJ2 71 yJ2_getChar_3b067 wsJ2_getChar_3b067) := goodIn_app (goodIn_of _ (by decide +kernel)) ggJ2_charAt_3b067_J2_getChar_3b067
theorem dJ2_charAt_3b067_0 : decode cJ2_charAt_3b067 0 = .ok (.iload_n 1, 1) := by decide +kernel
theorem dJ2_charAt_3b067_1 : decode cJ2_charAt_3b067 1 = .ok (.aload_n 0, 1) := by decide +kernel
theorem dJ2_charAt_3b067_2 : decode cJ2_charAt_3b067 2 = .ok (.invokestatic 67, 3) := by decide +kernel
theorem dJ2_charAt_3b067_5 : decode cJ2_charAt_3b067 5 = .ok (.aload_n 0, 1) := by decide +kernel
theorem dJ2_charAt_3b067_6 : decode cJ2_charAt_3b067 6 = .ok (.iload_n 1, 1) := by decide +kernel
theorem dJ2_charAt_3b067_7 : decode cJ2_charAt_3b067 7 = .ok (.invokestatic 71, 3) := by decide +kernel
theorem dJ2_charAt_3b067_10 : decode cJ2_charAt_3b067 10 = .ok (.ireturn, 1) := by decide +kernel
set_option maxRecDepth 20000 in
theorem ggJ2_checkIndex_2214a_J2_length_9d52b : GoodIn wsJ2_checkIndex_2214a wsJ2_length_9d52b := goodIn_r _ [4] (by decide +kernel) (by decide +kernel)
set_option maxRecDepth 20000 in
theorem gJ2_checkIndex_2214a_J2_length_9d52b : GoodIn wsJ2_checkIndex_2214a (va_wsS RJ2 48 yJ2_length_9d52b wsJ2_length_9d52b) := goodIn_app (goodIn_of _ (by decide +kernel)) ggJ2_checkIndex_2214a_J2_length_9d52b
set_option maxRecDepth 20000 in
theorem ggJ2_checkIndex_2214a_J0_checkIndex_df160 : GoodIn wsJ2_checkIndex_2214a wsJ0_checkIndex_df160 := goodIn_r _ [8, 9, 10, 11, 12, 13] (by decide +kernel) (by decide +kernel)
set_option maxRecDepth 20000 in
theorem gJ2_checkIndex_2214a_J0_checkIndex_df160 : GoodIn wsJ2_checkIndex_2214a (va_wsS RJ2 414 yJ0_checkIndex_df160 wsJ0_checkIndex_df160) := goodIn_app (goodIn_of _ (by decide +kernel)) ggJ2_checkIndex_2214a_J0_checkIndex_df160
theorem dJ2_checkIndex_2214a_0 : decode cJ2_checkIndex_2214a 0 = .ok (.iload_n 0, 1) := by decide +kernel
theorem dJ2_checkIndex_2214a_1 : decode cJ2_checkIndex_2214a 1 = .ok (.aload_n 1, 1) := by decide +kernel
theorem dJ2_checkIndex_2214a_2 : decode cJ2_checkIndex_2214a 2 = .ok (.invokestatic 48, 3) := by decide +kernel
theorem dJ2_checkIndex_2214a_5 : decode cJ2_checkIndex_2214a 5 = .ok (.invokestatic 414, 3) := by decide +kernel
theorem dJ2_checkIndex_2214a_8 : decode cJ2_checkIndex_2214a 8 = .ok (.return_, 1) := by decide +kernel
theorem dJ7_fill_53178_0 : decode cJ7_fill_53178 0 = .ok (.iconst 0, 1) := by decide +kernel
theorem dJ7_fill_53178_1 : decode cJ7_fill_53178 1 = .ok (.istore_n 2, 1) := by decide +kernel
theorem dJ7_fill_53178_2 : decode cJ7_fill_53178 2 = .ok (.aload_n 0, 1) := by decide +kernel
theorem dJ7_fill_53178_3 : decode cJ7_fill_53178 3 = .ok (.arraylength, 1) := by decide +kernel
theorem dJ7_fill_53178_4 : decode cJ7_fill_53178 4 = .ok (.istore_n 3, 1) := by decide +kernel
theorem dJ7_fill_53178_5 : decode cJ7_fill_53178 5 = .ok (.iload_n 2, 1) := by decide +kernel
theorem dJ7_fill_53178_6 : decode cJ7_fill_53178 6 = .ok (.iload_n 3, 1) := by decide +kernel
theorem dJ7_fill_53178_7 : decode cJ7_fill_53178 7 = .ok (.if_icmp .ge 13, 3) := by decide +kernel
theorem dJ7_fill_53178_10 : decode cJ7_fill_53178 10 = .ok (.aload_n 0, 1) := by decide +kernel
theorem dJ7_fill_53178_11 : decode cJ7_fill_53178 11 = .ok (.iload_n 2, 1) := by decide +kernel
theorem dJ7_fill_53178_12 : decode cJ7_fill_53178 12 = .ok (.iload_n 1, 1) := by decide +kernel
theorem dJ7_fill_53178_13 : decode cJ7_fill_53178 13 = .ok (.iastore, 1) := by decide +kernel
theorem dJ7_fill_53178_14 : decode cJ7_fill_53178 14 = .ok (.iinc 2 1, 3) := by decide +kernel
theorem dJ7_fill_53178_17 : decode cJ7_fill_53178 17 = .ok (.goto (-12), 3) := by decide +kernel
theorem dJ7_fill_53178_20 : decode cJ7_fill_53178 20 = .ok (.return_, 1) := by decide +kernel
theorem dJ3_checkIndex_8e157_0 : decode cJ3_checkIndex_8e157 0 = .ok (.iload_n 0, 1) := by decide +kernel
theorem dJ3_checkIndex_8e157_1 : decode cJ3_checkIndex_8e157 1 = .ok (.ifCond .lt 8, 3) := by decide +kernel
theorem dJ3_checkIndex_8e157_4 : decode cJ3_checkIndex_8e157 4 = .ok (.iload_n 0, 1) := by decide +kernel
theorem dJ3_checkIndex_8e157_5 : decode cJ3_checkIndex_8e157 5 = .ok (.iload_n 1, 1) := by decide +kernel
theorem dJ3_checkIndex_8e157_6 : decode cJ3_checkIndex_8e157 6 = .ok (.if_icmp .lt 10, 3) := by decide +kernel
theorem dJ3_checkIndex_8e157_9 : decode cJ3_checkIndex_8e157 9 = .ok (.aload_n 2, 1) := by decide +kernel
theorem dJ3_checkIndex_8e157_10 : decode cJ3_checkIndex_8e157 10 = .ok (.iload_n 0, 1) := by decide +kernel
theorem dJ3_checkIndex_8e157_11 : decode cJ3_checkIndex_8e157 11 = .ok (.iload_n 1, 1) := by decide +kernel
theorem dJ3_checkIndex_8e157_12 : decode cJ3_checkIndex_8e157 12 = .ok (.invokestatic 95, 3) := by decide +kernel
theorem dJ3_checkIndex_8e157_15 : decode cJ3_checkIndex_8e157 15 = .ok (.athrow, 1) := by decide +kernel
theorem dJ3_checkIndex_8e157_16 : decode cJ3_checkIndex_8e157 16 = .ok (.iload_n 0, 1) := by decide +kernel
theorem dJ3_checkIndex_8e157_17 : decode cJ3_checkIndex_8e157 17 = .ok (.ireturn, 1) := by decide +kernel
set_option maxRecDepth 20000 in
theorem ggL_mean_X9_mean : GoodIn wsL_mean wsX9_mean := goodIn_ca (goodIn_r _ [6, 7, 8, 9, 10, 11, 12, 13, 14, 15, 16] (by decide +kernel) (by decide +kernel)) (goodIn_sub (fun _ h => List.mem_cons_of_mem _ (List.mem_append_right _ h)) (by decide +kernel))
set_option maxRecDepth 20000 in
theorem gL_mean_X9_mean : GoodIn wsL_mean (wsV RL 7 RX9 yX9_mean wsX9_mean) := goodIn_app (goodIn_of _ (by decide +kernel)) ggL_mean_X9_mean
theorem dL_mean_0 : decode cL_mean 0 = .ok (.aload_n 1, 1) := by decide +kernel
theorem dL_mean_1 : decode cL_mean 1 = .ok (.iconst 0, 1) := by decide +kernel
theorem dL_mean_2 : decode cL_mean 2 = .ok (.aload_n 0, 1) := by decide +kernel
theorem dL_mean_3 : decode cL_mean 3 = .ok (.invokevirtual 7, 3) := by decide +kernel
theorem dL_mean_6 : decode cL_mean 6 = .ok (.i2l, 1) := by decide +kernel
theorem dL_mean_7 : decode cL_mean 7 = .ok (.lastore, 1) := by decide +kernel
theorem dL_mean_8 : decode cL_mean 8 = .ok (.goto 6, 3) := by decide +kernel
theorem dL_mean_11 : decode cL_mean 11 = .ok (.astore_n 2, 1) := by decide +kernel
theorem dL_mean_12 : decode cL_mean 12 = .ok (.iconst 1, 1) := by decide +kernel
theorem dL_mean_13 : decode cL_mean 13 = .ok (.ireturn, 1) := by decide +kernel
theorem dL_mean_14 : decode cL_mean 14 = .ok (.iconst 0, 1) := by decide +kernel
theorem dL_mean_15 : decode cL_mean 15 = .ok (.ireturn, 1) := by decide +kernel
set_option maxRecDepth 20000 in
theorem ggL_law_X9_init : GoodIn wsL_law wsX9_init := goodIn_r _ [9, 10, 11, 12, 13, 14, 15, 16, 17, 18, 19, 20, 21, 22, 23, 24, 25, 26, 835, 836, 837, 838, 839, 840, 867, 868] (by decide +kernel) (by decide +kernel)
set_option maxRecDepth 20000 in
theorem gL_law_X9_init : GoodIn wsL_law (wsX9_init) := ggL_law_X9_init
set_option maxRecDepth 20000 in
theorem ggL_law_X10_init : GoodIn wsL_law wsX10_init := goodIn_r _ [29, 30, 11, 12, 19, 31, 32, 33, 34, 35, 36, 37, 38, 39, 40, 41, 42, 43, 44, 45, 46, 47, 48, 49, 50, 51, 52, 841, 842, 843, 844, 845, 846, 847, 848, 849, 850, 851, 852, 853, 854, 855, 856, 857, 858, 859, 860, 861, 862, 863, 864, 865, 866] (by decide +kernel) (by decide +kernel)
set_option maxRecDepth 20000 in
theorem gL_law_X10_init : GoodIn wsL_law (wsX10_init) := ggL_law_X10_init
set_option maxRecDepth 20000 in
theorem ggL_law_X9_fault : GoodIn wsL_law wsX9_fault := goodIn_r _ [56, 57, 835, 836, 837, 838, 839, 840] (by decide +kernel) (by decide +kernel)
set_option maxRecDepth 20000 in
theorem gL_law_X9_fault : GoodIn wsL_law (wsV RL 19 RX9 yX9_fault wsX9_fault) := goodIn_app (goodIn_of _ (by decide +kernel)) ggL_law_X9_fault
set_option maxRecDepth 20000 in
theorem ggL_law_X10_fault : GoodIn wsL_law wsX10_fault := goodIn_r _ [61, 62, 63, 841, 842, 843, 844, 845, 846, 847, 848, 849, 850, 851, 852, 853, 854, 855, 856, 857, 858, 859, 860, 861, 862, 863, 864, 865, 866] (by decide +kernel) (by decide +kernel)
set_option maxRecDepth 20000 in
theorem gL_law_X10_fault : GoodIn wsL_law (wsV RL 22 RX10 yX10_fault wsX10_fault) := goodIn_app (goodIn_of _ (by decide +kernel)) ggL_law_X10_fault
set_option maxRecDepth 20000 in
theorem ggL_law_X9_make : GoodIn wsL_law wsX9_make := goodIn_r _ [67, 14, 68, 69, 2, 70, 71, 72, 73, 74, 57, 75, 76, 77, 78, 79, 80, 81, 82, 83, 84, 85, 86, 87, 88, 89, 90, 91, 92, 93, 94, 95, 96, 97, 98, 99, 100, 101, 102, 11, 12, 103, 104, 105, 106, 107, 108, 109, 110, 835, 836, 837, 838, 839, 840, 869, 870, 871] (by decide +kernel) (by decide +kernel)
set_option maxRecDepth 20000 in
theorem gL_law_X9_make : GoodIn wsL_law (wsV RL 23 RX9 yX9_make wsX9_make) := goodIn_app (goodIn_of _ (by decide +kernel)) ggL_law_X9_make
set_option maxRecDepth 20000 in
theorem ggL_law_X10_make : GoodIn wsL_law wsX10_make := goodIn_r _ [114, 62, 37, 115, 38, 39, 116, 40, 117, 118, 5, 119, 120, 121, 122, 123, 124, 125, 126, 63, 127, 128, 129, 130, 34, 131, 36, 132, 133, 134, 135, 31, 32, 841, 842, 843, 844, 845, 846, 847, 848, 849, 850, 851, 852, 853, 854, 855, 856, 857, 858, 859, 860, 861, 862, 863, 864, 865, 866] (by decide +kernel) (by decide +kernel)
set_option maxRecDepth 20000 in
theorem gL_law_X10_make : GoodIn wsL_law (wsV RL 27 RX10 yX10_make wsX10_make) := goodIn_app (goodIn_of _ (by decide +kernel)) ggL_law_X10_make
set_option maxRecDepth 20000 in
theorem ggL_law_X9_table : GoodIn wsL_law wsX9_table := goodIn_r _ [139, 14, 140, 141, 142, 18, 143, 144, 145, 68, 69, 2, 70, 146, 147, 148, 149, 150, 151, 152, 153, 154, 155, 156, 157, 158, 99, 100, 101, 102, 11, 12, 159, 160, 161, 19, 162, 163, 164, 165, 166, 835, 836, 837, 838, 839, 840, 872, 873, 874, 875, 876, 877, 878, 879, 880, 881, 882] (by decide +kernel) (by decide +kernel)
set_option maxRecDepth 20000 in
theorem gL_law_X9_table : GoodIn wsL_law (wsV RL 28 RX9 yX9_table wsX9_table) := goodIn_app (goodIn_of _ (by decide +kernel)) ggL_law_X9_table
set_option maxRecDepth 20000 in
theorem ggL_law_X10_table : GoodIn wsL_law wsX10_table := goodIn_r _ [170, 62, 171, 42, 43, 44, 45, 46, 48, 117, 118, 5, 119, 120, 121, 122, 132, 133, 134, 135, 31, 32, 841, 842, 843, 844, 845, 846, 847, 848, 849, 850, 851, 852, 853, 854, 855, 856, 857, 858, 859, 860, 861, 862, 863, 864, 865, 866] (by decide +kernel) (by decide +kernel)
set_option maxRecDepth 20000 in
theorem gL_law_X10_table : GoodIn wsL_law (wsV RL 32 RX10 yX10_table wsX10_table) := goodIn_app (goodIn_of _ (by decide +kernel)) ggL_law_X10_table
set_option maxRecDepth 20000 in
theorem ggL_law_X9_move : GoodIn wsL_law wsX9_move := goodIn_r _ [175, 14, 68, 69, 2, 70, 176, 177, 178, 179, 180, 181, 182, 80, 183, 184, 185, 142, 186, 187, 188, 88, 189, 190, 191, 84, 192, 193, 194, 145, 195, 835, 836, 837, 838, 839, 840] (by decide +kernel) (by decide +kernel)
set_option maxRecDepth 20000 in
theorem gL_law_X9_move : GoodIn wsL_law (wsV RL 33 RX9 yX9_move wsX9_move) := goodIn_app (goodIn_of _ (by decide +kernel)) ggL_law_X9_move
set_option maxRecDepth 20000 in
theorem ggL_law_X10_move : GoodIn wsL_law wsX10_move := goodIn_r _ [199, 62, 31, 32, 117, 118, 5, 119, 120, 121, 122, 132, 133, 134, 135, 841, 842, 843, 844, 845, 846, 847, 848, 849, 850, 851, 852, 853, 854, 855, 856, 857, 858, 859, 860, 861, 862, 863, 864, 865, 866] (by decide +kernel) (by decide +kernel)
set_option maxRecDepth 20000 in
theorem gL_law_X10_move : GoodIn wsL_law (wsV RL 37 RX10 yX10_move wsX10_move) := goodIn_app (goodIn_of _ (by decide +kernel)) ggL_law_X10_move
set_option maxRecDepth 20000 in
theorem ggL_law_X9_held : GoodIn wsL_law wsX9_held := goodIn_r _ [203, 14, 68, 69, 2, 70, 176, 177, 178, 179, 180, 181, 182, 80, 183, 184, 185, 142, 186, 187, 188, 88, 189, 190, 191, 84, 192, 193, 194, 145, 195, 204, 205, 206, 835, 836, 837, 838, 839, 840] (by decide +kernel) (by decide +kernel)
set_option maxRecDepth 20000 in
theorem gL_law_X9_held : GoodIn wsL_law (wsV RL 38 RX9 yX9_held wsX9_held) := goodIn_app (goodIn_of _ (by decide +kernel)) ggL_law_X9_held
set_option maxRecDepth 20000 in
theorem ggL_law_X10_held : GoodIn wsL_law wsX10_held := goodIn_r _ [210, 62, 31, 117, 118, 5, 119, 120, 121, 122, 211, 212, 213, 214, 841, 842, 843, 844, 845, 846, 847, 848, 849, 850, 851, 852, 853, 854, 855, 856, 857, 858, 859, 860, 861, 862, 863, 864, 865, 866] (by decide +kernel) (by decide +kernel)
set_option maxRecDepth 20000 in
theorem gL_law_X10_held : GoodIn wsL_law (wsV RL 41 RX10 yX10_held wsX10_held) := goodIn_app (goodIn_of _ (by decide +kernel)) ggL_law_X10_held
set_option maxRecDepth 20000 in
theorem ggL_law_X9_same : GoodIn wsL_law wsX9_same := goodIn_r _ [218, 14, 68, 69, 2, 70, 835, 836, 837, 838, 839, 840] (by decide +kernel) (by decide +kernel)
set_option maxRecDepth 20000 in
theorem gL_law_X9_same : GoodIn wsL_law (wsV RL 42 RX9 yX9_same wsX9_same) := goodIn_app (goodIn_of _ (by decide +kernel)) ggL_law_X9_same
set_option maxRecDepth 20000 in
theorem ggL_law_X10_same : GoodIn wsL_law wsX10_same := goodIn_r _ [222, 62, 31, 32, 117, 118, 5, 119, 120, 121, 122, 841, 842, 843, 844, 845, 846, 847, 848, 849, 850, 851, 852, 853, 854, 855, 856, 857, 858, 859, 860, 861, 862, 863, 864, 865, 866] (by decide +kernel) (by decide +kernel)
set_option maxRecDepth 20000 in
theorem gL_law_X10_same : GoodIn wsL_law (wsV RL 45 RX10 yX10_same wsX10_same) := goodIn_app (goodIn_of _ (by decide +kernel)) ggL_law_X10_same
set_option maxRecDepth 20000 in
theorem ggL_law_X9_length : GoodIn wsL_law wsX9_length := goodIn_r _ [226, 14, 68, 69, 2, 70, 227, 228, 229, 204, 205, 206, 176, 177, 178, 179, 180, 181, 182, 80, 183, 184, 185, 142, 186, 187, 188, 88, 189, 190, 191, 84, 192, 193, 194, 145, 195, 71, 72, 73, 74, 57, 230, 231, 232, 233, 234, 235, 236, 237, 238, 92, 239, 240, 241, 110, 242, 243, 244, 106, 835, 836, 837, 838, 839, 840, 869, 871, 870] (by decide +kernel) (by decide +kernel)
set_option maxRecDepth 20000 in
theorem gL_law_X9_length : GoodIn wsL_law (wsV RL 46 RX9 yX9_length wsX9_length) := goodIn_app (goodIn_of _ (by decide +kernel)) ggL_law_X9_length
set_option maxRecDepth 20000 in
theorem ggL_law_X10_length : GoodIn wsL_law wsX10_length := goodIn_r _ [248, 62, 117, 118, 5, 119, 120, 121, 122, 249, 250, 251, 252, 31, 211, 212, 213, 214, 123, 124, 125, 126, 63, 253, 254, 255, 256, 32, 34, 37, 39, 841, 842, 843, 844, 845, 846, 847, 848, 849, 850, 851, 852, 853, 854, 855, 856, 857, 858, 859, 860, 861, 862, 863, 864, 865, 866] (by decide +kernel) (by decide +kernel)
set_option maxRecDepth 20000 in
theorem gL_law_X10_length : GoodIn wsL_law (wsV RL 49 RX10 yX10_length wsX10_length) := goodIn_app (goodIn_of _ (by decide +kernel)) ggL_law_X10_length
set_option maxRecDepth 20000 in
theorem ggL_law_X9_get : GoodIn wsL_law wsX9_get := goodIn_r _ [260, 261, 14, 68, 69, 2, 70, 262, 263, 264, 265, 266, 267, 227, 228, 229, 204, 205, 206, 176, 177, 178, 179, 180, 181, 182, 80, 183, 184, 185, 142, 186, 187, 188, 88, 189, 190, 191, 84, 192, 193, 194, 145, 195, 230, 231, 232, 233, 268, 269, 270, 271, 97, 272, 273, 235, 236, 237, 238, 92, 239, 240, 241, 110, 242, 243, 244, 106, 274, 275, 276, 277, 278, 279, 280, 281, 282, 283, 57, 284, 285, 286, 287, 288, 289, 290, 291, 835, 836, 837, 838, 839, 840, 869, 871, 870] (by decide +kernel) (by decide +kernel)
set_option maxRecDepth 20000 in
theorem gL_law_X9_get : GoodIn wsL_law (wsV RL 50 RX9 yX9_get wsX9_get) := goodIn_app (goodIn_of _ (by decide +kernel)) ggL_law_X9_get
set_option maxRecDepth 20000 in
theorem ggL_law_X10_get : GoodIn wsL_law wsX10_get := goodIn_r _ [295, 62, 296, 117, 118, 5, 119, 120, 121, 122, 249, 250, 251, 252, 31, 211, 212, 213, 214, 297, 298, 299, 300, 63, 253, 254, 255, 256, 32, 34, 37, 39, 301, 302, 303, 304, 36, 38, 40, 841, 842, 843, 844, 845, 846, 847, 848, 849, 850, 851, 852, 853, 854, 855, 856, 857, 858, 859, 860, 861, 862, 863, 864, 865, 866] (by decide +kernel) (by decide +kernel)
set_option maxRecDepth 20000 in
theorem gL_law_X10_get : GoodIn wsL_law (wsV RL 54 RX10 yX10_get wsX10_get) := goodIn_app (goodIn_of _ (by decide +kernel)) ggL_law_X10_get
set_option maxRecDepth 20000 in
theorem ggL_law_X9_set : GoodIn wsL_law wsX9_set := goodIn_r _ [308, 14, 68, 69, 2, 70, 262, 263, 264, 265, 266, 267, 227, 228, 229, 204, 205, 206, 176, 177, 178, 179, 180, 181, 182, 80, 183, 184, 185, 142, 186, 187, 188, 88, 189, 190, 191, 84, 192, 193, 194, 145, 195, 230, 231, 232, 233, 268, 269, 270, 271, 97, 272, 273, 235, 236, 237, 238, 92, 239, 240, 241, 110, 242, 243, 244, 106, 274, 275, 276, 277, 278, 279, 71, 72, 73, 74, 57, 309, 310, 311, 312, 313, 314, 315, 316, 835, 836, 837, 838, 839, 840, 869, 871, 870] (by decide +kernel) (by decide +kernel)
set_option maxRecDepth 20000 in
theorem gL_law_X9_set : GoodIn wsL_law (wsV RL 55 RX9 yX9_set wsX9_set) := goodIn_app (goodIn_of _ (by decide +kernel)) ggL_law_X9_set
set_option maxRecDepth 20000 in
theorem ggL_law_X10_set : GoodIn wsL_law wsX10_set := goodIn_r _ [320, 62, 36, 32, 38, 321, 117, 118, 5, 119, 120, 121, 122, 249, 250, 251, 252, 31, 211, 212, 213, 214, 253, 254, 255, 256, 34, 37, 39, 123, 124, 125, 126, 63, 841, 842, 843, 844, 845, 846, 847, 848, 849, 850, 851, 852, 853, 854, 855, 856, 857, 858, 859, 860, 861, 862, 863, 864, 865, 866] (by decide +kernel) (by decide +kernel)
set_option maxRecDepth 20000 in
theorem gL_law_X10_set : GoodIn wsL_law (wsV RL 59 RX10 yX10_set wsX10_set) := goodIn_app (goodIn_of _ (by decide +kernel)) ggL_law_X10_set
set_option maxRecDepth 20000 in
theorem ggL_law_X9_lay : GoodIn wsL_law wsX9_lay := goodIn_r _ [325, 14, 68, 69, 2, 70, 227, 228, 229, 204, 205, 206, 176, 177, 178, 179, 180, 181, 182, 80, 183, 184, 185, 142, 186, 187, 188, 88, 189, 190, 191, 84, 192, 193, 194, 145, 195, 71, 72, 73, 74, 57, 265, 266, 267, 230, 231, 232, 233, 268, 269, 270, 271, 97, 272, 273, 235, 236, 237, 238, 92, 239, 240, 241, 110, 242, 243, 244, 106, 274, 275, 326, 327, 328, 329, 330, 331, 332, 333, 835, 836, 837, 838, 839, 840, 871, 869, 870] (by decide +kernel) (by decide +kernel)
set_option maxRecDepth 20000 in
theorem gL_law_X9_lay : GoodIn wsL_law (wsV RL 60 RX9 yX9_lay wsX9_lay) := goodIn_app (goodIn_of _ (by decide +kernel)) ggL_law_X9_lay
set_option maxRecDepth 20000 in
theorem ggL_law_X10_lay : GoodIn wsL_law wsX10_lay := goodIn_r _ [337, 62, 40, 32, 31, 117, 118, 5, 119, 120, 121, 122, 249, 250, 251, 252, 211, 212, 213, 214, 123, 124, 125, 126, 63, 253, 254, 255, 256, 34, 37, 39, 841, 842, 843, 844, 845, 846, 847, 848, 849, 850, 851, 852, 853, 854, 855, 856, 857, 858, 859, 860, 861, 862, 863, 864, 865, 866] (by decide +kernel) (by decide +kernel)
set_option maxRecDepth 20000 in
theorem gL_law_X10_lay : GoodIn wsL_law (wsV RL 63 RX10 yX10_lay wsX10_lay) := goodIn_app (goodIn_of _ (by decide +kernel)) ggL_law_X10_lay
set_option maxRecDepth 20000 in
theorem ggL_law_X9_take : GoodIn wsL_law wsX9_take := goodIn_r _ [341, 14, 68, 69, 2, 70, 265, 266, 267, 227, 228, 229, 204, 205, 206, 176, 177, 178, 179, 180, 181, 182, 80, 183, 184, 185, 142, 186, 187, 188, 88, 189, 190, 191, 84, 192, 193, 194, 145, 195, 230, 231, 232, 233, 268, 269, 270, 271, 97, 272, 273, 235, 236, 237, 238, 92, 239, 240, 241, 110, 242, 243, 244, 106, 274, 275, 326, 327, 328, 329, 71, 72, 73, 74, 57, 342, 343, 835, 836, 837, 838, 839, 840, 871, 869, 870] (by decide +kernel) (by decide +kernel)
set_option maxRecDepth 20000 in
theorem gL_law_X9_take : GoodIn wsL_law (wsV RL 64 RX9 yX9_take wsX9_take) := goodIn_app (goodIn_of _ (by decide +kernel)) ggL_law_X9_take
set_option maxRecDepth 20000 in
theorem ggL_law_X10_take : GoodIn wsL_law wsX10_take := goodIn_r _ [347, 62, 34, 117, 118, 5, 119, 120, 121, 122, 249, 250, 251, 252, 31, 211, 212, 213, 214, 253, 254, 255, 256, 32, 37, 39, 123, 124, 125, 126, 63, 301, 302, 303, 304, 36, 38, 40, 132, 133, 134, 135, 841, 842, 843, 844, 845, 846, 847, 848, 849, 850, 851, 852, 853, 854, 855, 856, 857, 858, 859, 860, 861, 862, 863, 864, 865, 866] (by decide +kernel) (by decide +kernel)
set_option maxRecDepth 20000 in
theorem gL_law_X10_take : GoodIn wsL_law (wsV RL 67 RX10 yX10_take wsX10_take) := goodIn_app (goodIn_of _ (by decide +kernel)) ggL_law_X10_take
set_option maxRecDepth 20000 in
theorem ggL_law_X9_cell : GoodIn wsL_law wsX9_cell := goodIn_r _ [351, 261, 14, 68, 69, 2, 70, 265, 266, 267, 227, 228, 229, 204, 205, 206, 176, 177, 178, 179, 180, 181, 182, 80, 183, 184, 185, 142, 186, 187, 188, 88, 189, 190, 191, 84, 192, 193, 194, 145, 195, 230, 231, 232, 233, 268, 269, 270, 271, 97, 272, 273, 235, 236, 237, 238, 92, 239, 240, 241, 110, 242, 243, 244, 106, 274, 275, 326, 327, 328, 329, 280, 281, 282, 283, 57, 352, 353, 354, 355, 287, 356, 288, 835, 836, 837, 838, 839, 840, 871, 869, 870] (by decide +kernel) (by decide +kernel)
set_option maxRecDepth 20000 in
theorem gL_law_X9_cell : GoodIn wsL_law (wsV RL 68 RX9 yX9_cell wsX9_cell) := goodIn_app (goodIn_of _ (by decide +kernel)) ggL_law_X9_cell
set_option maxRecDepth 20000 in
theorem ggL_law_X10_cell : GoodIn wsL_law wsX10_cell := goodIn_r _ [360, 62, 296, 34, 36, 117, 118, 5, 119, 120, 121, 122, 249, 250, 251, 252, 31, 211, 212, 213, 214, 253, 254, 255, 256, 32, 37, 39, 297, 298, 299, 300, 63, 301, 302, 303, 304, 38, 40, 841, 842, 843, 844, 845, 846, 847, 848, 849, 850, 851, 852, 853, 854, 855, 856, 857, 858, 859, 860, 861, 862, 863, 864, 865, 866] (by decide +kernel) (by decide +kernel)
set_option maxRecDepth 20000 in
theorem gL_law_X10_cell : GoodIn wsL_law (wsV RL 71 RX10 yX10_cell wsX10_cell) := goodIn_app (goodIn_of _ (by decide +kernel)) ggL_law_X10_cell
set_option maxRecDepth 20000 in
theorem ggL_law_X9_copy : GoodIn wsL_law wsX9_copy := goodIn_r _ [364, 14, 68, 69, 2, 70, 71, 72, 73, 74, 57, 230, 231, 232, 233, 365, 366, 367, 182, 80, 183, 368, 188, 88, 189, 369, 191, 84, 192, 370, 371, 372, 373, 97, 374, 273, 235, 236, 237, 238, 92, 239, 240, 241, 110, 242, 243, 244, 106, 375, 376, 377, 378, 379, 380, 381, 382, 383, 384, 385, 386, 387, 388, 389, 390, 391, 392, 393, 394, 395, 396, 835, 836, 837, 838, 839, 840, 869, 871, 870] (by decide +kernel) (by decide +kernel)
set_option maxRecDepth 20000 in
theorem gL_law_X9_copy : GoodIn wsL_law (wsV RL 72 RX9 yX9_copy wsX9_copy) := goodIn_app (goodIn_of _ (by decide +kernel)) ggL_law_X9_copy
set_option maxRecDepth 20000 in
theorem ggL_law_X10_copy : GoodIn wsL_law wsX10_copy := goodIn_r _ [400, 62, 31, 52, 32, 36, 38, 40, 117, 118, 5, 119, 120, 121, 122, 123, 124, 125, 126, 63, 253, 254, 255, 256, 34, 37, 39, 301, 302, 303, 304, 841, 842, 843, 844, 845, 846, 847, 848, 849, 850, 851, 852, 853, 854, 855, 856, 857, 858, 859, 860, 861, 862, 863, 864, 865, 866] (by decide +kernel) (by decide +kernel)
set_option maxRecDepth 20000 in
theorem gL_law_X10_copy : GoodIn wsL_law (wsV RL 76 RX10 yX10_copy wsX10_copy) := goodIn_app (goodIn_of _ (by decide +kernel)) ggL_law_X10_copy
set_option maxRecDepth 20000 in
theorem ggL_law_X9_twin : GoodIn wsL_law wsX9_twin := goodIn_r _ [404, 14, 68, 69, 2, 70, 71, 72, 73, 74, 57, 230, 231, 232, 233, 405, 406, 407, 408, 80, 409, 410, 411, 412, 413, 414, 79, 92, 415, 416, 417, 418, 419, 420, 421, 90, 91, 93, 94, 95, 96, 97, 98, 99, 100, 101, 102, 11, 12, 422, 423, 88, 424, 425, 426, 427, 428, 429, 87, 110, 391, 430, 108, 109, 431, 388, 432, 389, 390, 433, 434, 84, 435, 436, 437, 438, 439, 440, 83, 106, 441, 442, 443, 444, 445, 104, 105, 234, 235, 236, 237, 238, 239, 240, 241, 242, 243, 244, 835, 836, 837, 838, 839, 840, 869, 871, 870] (by decide +kernel) (by decide +kernel)
set_option maxRecDepth 20000 in
theorem gL_law_X9_twin : GoodIn wsL_law (wsV RL 77 RX9 yX9_twin wsX9_twin) := goodIn_app (goodIn_of _ (by decide +kernel)) ggL_law_X9_twin
set_option maxRecDepth 20000 in
theorem ggL_law_X10_twin : GoodIn wsL_law wsX10_twin := goodIn_r _ [449, 62, 31, 32, 37, 115, 38, 39, 116, 40, 117, 118, 5, 119, 120, 121, 122, 123, 124, 125, 126, 63, 253, 254, 255, 256, 34, 450, 451, 452, 453, 36, 127, 128, 129, 130, 131, 132, 133, 134, 135, 841, 842, 843, 844, 845, 846, 847, 848, 849, 850, 851, 852, 853, 854, 855, 856, 857, 858, 859, 860, 861, 862, 863, 864, 865, 866] (by decide +kernel) (by decide +kernel)
set_option maxRecDepth 20000 in
theorem gL_law_X10_twin : GoodIn wsL_law (wsV RL 80 RX10 yX10_twin wsX10_twin) := goodIn_app (goodIn_of _ (by decide +kernel)) ggL_law_X10_twin
set_option maxRecDepth 20000 in
theorem ggL_law_X9_like : GoodIn wsL_law wsX9_like := goodIn_r _ [457, 14, 68, 69, 2, 70, 71, 72, 73, 74, 57, 276, 277, 278, 279, 458, 459, 460, 461, 80, 462, 382, 92, 463, 464, 465, 466, 467, 468, 84, 469, 395, 106, 470, 471, 472, 473, 835, 836, 837, 838, 839, 840, 869, 870] (by decide +kernel) (by decide +kernel)
set_option maxRecDepth 20000 in
theorem gL_law_X9_like : GoodIn wsL_law (wsV RL 81 RX9 yX9_like wsX9_like) := goodIn_app (goodIn_of _ (by decide +kernel)) ggL_law_X9_like
set_option maxRecDepth 20000 in
theorem ggL_law_X10_like : GoodIn wsL_law wsX10_like := goodIn_r _ [477, 62, 31, 117, 118, 5, 119, 120, 121, 122, 123, 124, 125, 126, 63, 478, 479, 480, 481, 253, 254, 255, 256, 32, 34, 37, 39, 301, 302, 303, 304, 36, 38, 40, 841, 842, 843, 844, 845, 846, 847, 848, 849, 850, 851, 852, 853, 854, 855, 856, 857, 858, 859, 860, 861, 862, 863, 864, 865, 866] (by decide +kernel) (by decide +kernel)
set_option maxRecDepth 20000 in
theorem gL_law_X10_like : GoodIn wsL_law (wsV RL 84 RX10 yX10_like wsX10_like) := goodIn_app (goodIn_of _ (by decide +kernel)) ggL_law_X10_like
set_option maxRecDepth 20000 in
theorem ggL_law_X9_hash : GoodIn wsL_law wsX9_hash := goodIn_r _ [485, 261, 14, 68, 69, 2, 70, 280, 281, 282, 283, 57, 276, 277, 278, 279, 486, 487, 488, 489, 94, 490, 491, 492, 493, 237, 80, 238, 92, 494, 243, 84, 244, 106, 495, 285, 286, 287, 288, 289, 290, 291, 496, 835, 836, 837, 838, 839, 840, 869, 870] (by decide +kernel) (by decide +kernel)
set_option maxRecDepth 20000 in
theorem gL_law_X9_hash : GoodIn wsL_law (wsV RL 85 RX9 yX9_hash wsX9_hash) := goodIn_app (goodIn_of _ (by decide +kernel)) ggL_law_X9_hash
set_option maxRecDepth 20000 in
theorem ggL_law_X10_hash : GoodIn wsL_law wsX10_hash := goodIn_r _ [500, 62, 296, 31, 117, 118, 5, 119, 120, 121, 122, 478, 479, 480, 481, 297, 298, 299, 300, 63, 253, 254, 255, 256, 32, 34, 37, 39, 301, 302, 303, 304, 36, 38, 40, 841, 842, 843, 844, 845, 846, 847, 848, 849, 850, 851, 852, 853, 854, 855, 856, 857, 858, 859, 860, 861, 862, 863, 864, 865, 866] (by decide +kernel) (by decide +kernel)
set_option maxRecDepth 20000 in
theorem gL_law_X10_hash : GoodIn wsL_law (wsV RL 89 RX10 yX10_hash wsX10_hash) := goodIn_app (goodIn_of _ (by decide +kernel)) ggL_law_X10_hash
set_option maxRecDepth 20000 in
theorem ggL_law_X9_order : GoodIn wsL_law wsX9_order := goodIn_r _ [504, 14, 68, 69, 2, 70, 227, 228, 229, 204, 205, 206, 176, 177, 178, 179, 180, 181, 182, 80, 183, 184, 185, 142, 186, 187, 188, 88, 189, 190, 191, 84, 192, 193, 194, 145, 195, 71, 72, 73, 74, 57, 330, 331, 332, 333, 505, 506, 507, 508, 92, 509, 510, 511, 512, 513, 514, 515, 516, 835, 836, 837, 838, 839, 840, 869] (by decide +kernel) (by decide +kernel)
set_option maxRecDepth 20000 in
theorem gL_law_X9_order : GoodIn wsL_law (wsV RL 90 RX9 yX9_order wsX9_order) := goodIn_app (goodIn_of _ (by decide +kernel)) ggL_law_X9_order
set_option maxRecDepth 20000 in
theorem ggL_law_X10_order : GoodIn wsL_law wsX10_order := goodIn_r _ [520, 62, 32, 117, 118, 5, 119, 120, 121, 122, 249, 250, 251, 252, 31, 211, 212, 213, 214, 123, 124, 125, 126, 63, 521, 522, 523, 524, 34, 36, 841, 842, 843, 844, 845, 846, 847, 848, 849, 850, 851, 852, 853, 854, 855, 856, 857, 858, 859, 860, 861, 862, 863, 864, 865, 866] (by decide +kernel) (by decide +kernel)
set_option maxRecDepth 20000 in
theorem gL_law_X10_order : GoodIn wsL_law (wsV RL 93 RX10 yX10_order wsX10_order) := goodIn_app (goodIn_of _ (by decide +kernel)) ggL_law_X10_order
set_option maxRecDepth 20000 in
theorem ggL_law_X9_named : GoodIn wsL_law wsX9_named := goodIn_r _ [528, 14, 68, 69, 2, 70, 71, 72, 73, 74, 57, 276, 277, 278, 279, 529, 530, 531, 532, 533, 534, 535, 536, 537, 538, 94, 539, 491, 492, 493, 237, 80, 238, 92, 494, 243, 84, 244, 106, 540, 541, 542, 543, 544, 545, 546, 547, 548, 549, 550, 551, 552, 553, 554, 555, 556, 557, 558, 559, 560, 561, 562, 563, 564, 565, 566, 567, 568, 569, 570, 571, 572, 573, 574, 575, 576, 577, 578, 579, 580, 581, 582, 583, 584, 585, 586, 587, 588, 589, 590, 591, 592, 593, 594, 595, 596, 597, 835, 836, 837, 838, 839, 840, 869, 870] (by decide +kernel) (by decide +kernel)
set_option maxRecDepth 20000 in
theorem gL_law_X9_named : GoodIn wsL_law (wsV RL 94 RX9 yX9_named wsX9_named) := goodIn_app (goodIn_of _ (by decide +kernel)) ggL_law_X9_named
set_option maxRecDepth 20000 in
theorem ggL_law_X10_named : GoodIn wsL_law wsX10_named := goodIn_r _ [601, 62, 31, 117, 118, 5, 119, 120, 121, 122, 478, 479, 480, 481, 123, 124, 125, 126, 63, 253, 254, 255, 256, 32, 34, 37, 39, 301, 302, 303, 304, 36, 38, 40, 602, 603, 604, 605, 841, 842, 843, 844, 845, 846, 847, 848, 849, 850, 851, 852, 853, 854, 855, 856, 857, 858, 859, 860, 861, 862, 863, 864, 865, 866] (by decide +kernel) (by decide +kernel)
set_option maxRecDepth 20000 in
theorem gL_law_X10_named : GoodIn wsL_law (wsV RL 98 RX10 yX10_named wsX10_named) := goodIn_app (goodIn_of _ (by decide +kernel)) ggL_law_X10_named
set_option maxRecDepth 20000 in
theorem ggL_law_X9_add : GoodIn wsL_law wsX9_add := goodIn_r _ [609, 14, 68, 69, 2, 70, 610, 611, 612, 227, 228, 229, 204, 205, 206, 176, 177, 178, 179, 180, 181, 182, 80, 183, 184, 185, 142, 186, 187, 188, 88, 189, 190, 191, 84, 192, 193, 194, 145, 195, 613, 614, 615, 616, 330, 331, 332, 333, 71, 72, 73, 74, 57, 617, 618, 619, 620, 621, 158, 622, 157, 623, 624, 625, 626, 627, 628, 629, 630, 631, 632, 633, 634, 635, 636, 489, 94, 490, 491, 492, 493, 237, 238, 92, 494, 243, 244, 106, 495, 285, 286, 287, 288, 289, 290, 291, 637, 638, 639, 461, 640, 462, 382, 463, 464, 465, 466, 641, 642, 643, 644, 645, 646, 647, 648, 649, 650, 651, 652, 653, 654, 655, 152, 656, 657, 658, 17, 659, 660, 26, 661, 662, 411, 412, 413, 414, 79, 415, 416, 417, 418, 419, 420, 421, 90, 91, 93, 95, 96, 97, 98, 99, 100, 101, 102, 11, 12, 663, 664, 665, 666, 667, 668, 669, 670, 25, 671, 672, 673, 674, 675, 676, 677, 678, 679, 680, 681, 159, 160, 161, 19, 162, 163, 164, 165, 682, 683, 684, 685, 686, 687, 688, 689, 690, 691, 692, 693, 694, 695, 696, 697, 698, 835, 836, 837, 838, 839, 840, 872, 873, 874, 875, 876, 877, 878, 879, 880, 881, 882, 869, 870, 867, 868] (by decide +kernel) (by decide +kernel)
