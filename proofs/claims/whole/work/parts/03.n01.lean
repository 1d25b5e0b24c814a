set_option maxRecDepth 20000 in
theorem ggX0_init_X2_init : GoodIn wsX0_init wsX2_init := goodIn_r _ [4, 5, 6, 7, 8, 9, 10, 11, 12, 13] (by decide +kernel) (by decide +kernel)
set_option maxRecDepth 20000 in
theorem gX0_init_X2_init_n3 : GoodIn wsX0_init (wsX2_init) := ggX0_init_X2_init
theorem dX0_init_0 : decode cX0_init 0 = .ok (.aload_n 0, 1) := by decide +kernel
theorem dX0_init_1 : decode cX0_init 1 = .ok (.invokespecial 3, 3) := by decide +kernel
theorem dX0_init_4 : decode cX0_init 4 = .ok (.aload_n 0, 1) := by decide +kernel
theorem dX0_init_5 : decode cX0_init 5 = .ok (.aload_n 1, 1) := by decide +kernel
theorem dX0_init_6 : decode cX0_init 6 = .ok (.putfield 9, 3) := by decide +kernel
theorem dX0_init_9 : decode cX0_init 9 = .ok (.return_, 1) := by decide +kernel
theorem dX0_kind_0 : decode cX0_kind 0 = .ok (.iconst 1, 1) := by decide +kernel
theorem dX0_kind_1 : decode cX0_kind 1 = .ok (.ireturn, 1) := by decide +kernel
theorem dX0_cellCount_0 : decode cX0_cellCount 0 = .ok (.aload_n 0, 1) := by decide +kernel
theorem dX0_cellCount_1 : decode cX0_cellCount 1 = .ok (.getfield 9, 3) := by decide +kernel
theorem dX0_cellCount_4 : decode cX0_cellCount 4 = .ok (.arraylength, 1) := by decide +kernel
theorem dX0_cellCount_5 : decode cX0_cellCount 5 = .ok (.ireturn, 1) := by decide +kernel
theorem dX0_number_0 : decode cX0_number 0 = .ok (.aload_n 0, 1) := by decide +kernel
theorem dX0_number_1 : decode cX0_number 1 = .ok (.getfield 9, 3) := by decide +kernel
theorem dX0_number_4 : decode cX0_number 4 = .ok (.iload_n 1, 1) := by decide +kernel
theorem dX0_number_5 : decode cX0_number 5 = .ok (.baload, 1) := by decide +kernel
theorem dX0_number_6 : decode cX0_number 6 = .ok (.ireturn, 1) := by decide +kernel
theorem dX0_numberWithoutSign_0 : decode cX0_numberWithoutSign 0 = .ok (.aload_n 0, 1) := by decide +kernel
theorem dX0_numberWithoutSign_1 : decode cX0_numberWithoutSign 1 = .ok (.getfield 9, 3) := by decide +kernel
theorem dX0_numberWithoutSign_4 : decode cX0_numberWithoutSign 4 = .ok (.iload_n 1, 1) := by decide +kernel
theorem dX0_numberWithoutSign_5 : decode cX0_numberWithoutSign 5 = .ok (.baload, 1) := by decide +kernel
theorem dX0_numberWithoutSign_6 : decode cX0_numberWithoutSign 6 = .ok (.sipush 255, 3) := by decide +kernel
theorem dX0_numberWithoutSign_9 : decode cX0_numberWithoutSign 9 = .ok (.iand, 1) := by decide +kernel
theorem dX0_numberWithoutSign_10 : decode cX0_numberWithoutSign 10 = .ok (.ireturn, 1) := by decide +kernel
theorem dX0_putNumber_0 : decode cX0_putNumber 0 = .ok (.aload_n 0, 1) := by decide +kernel
theorem dX0_putNumber_1 : decode cX0_putNumber 1 = .ok (.getfield 9, 3) := by decide +kernel
theorem dX0_putNumber_4 : decode cX0_putNumber 4 = .ok (.iload_n 1, 1) := by decide +kernel
theorem dX0_putNumber_5 : decode cX0_putNumber 5 = .ok (.iload_n 2, 1) := by decide +kernel
theorem dX0_putNumber_6 : decode cX0_putNumber 6 = .ok (.i2b, 1) := by decide +kernel
theorem dX0_putNumber_7 : decode cX0_putNumber 7 = .ok (.bastore, 1) := by decide +kernel
theorem dX0_putNumber_8 : decode cX0_putNumber 8 = .ok (.return_, 1) := by decide +kernel
set_option maxRecDepth 20000 in
theorem ggX0_isLike_X0_hasAll : GoodIn wsX0_isLike wsX0_hasAll := goodIn_r _ [7, 2, 8] (by decide +kernel) (by decide +kernel)
set_option maxRecDepth 20000 in
theorem gX0_isLike_X0_hasAll : GoodIn wsX0_isLike (wsV RX0 15 RX0 yX0_hasAll wsX0_hasAll) := goodIn_app (goodIn_of _ (by decide +kernel)) ggX0_isLike_X0_hasAll
theorem dX0_isLike_0 : decode cX0_isLike 0 = .ok (.aload_n 1, 1) := by decide +kernel
theorem dX0_isLike_1 : decode cX0_isLike 1 = .ok (.instanceof 10, 3) := by decide +kernel
theorem dX0_isLike_4 : decode cX0_isLike 4 = .ok (.ifCond .eq 21, 3) := by decide +kernel
theorem dX0_isLike_7 : decode cX0_isLike 7 = .ok (.aload_n 0, 1) := by decide +kernel
theorem dX0_isLike_8 : decode cX0_isLike 8 = .ok (.aload_n 1, 1) := by decide +kernel
theorem dX0_isLike_9 : decode cX0_isLike 9 = .ok (.checkcast 10, 3) := by decide +kernel
theorem dX0_isLike_12 : decode cX0_isLike 12 = .ok (.getfield 9, 3) := by decide +kernel
theorem dX0_isLike_15 : decode cX0_isLike 15 = .ok (.invokevirtual 15, 3) := by decide +kernel
theorem dX0_isLike_18 : decode cX0_isLike 18 = .ok (.ifCond .eq 7, 3) := by decide +kernel
theorem dX0_isLike_21 : decode cX0_isLike 21 = .ok (.iconst 1, 1) := by decide +kernel
theorem dX0_isLike_22 : decode cX0_isLike 22 = .ok (.goto 4, 3) := by decide +kernel
theorem dX0_isLike_25 : decode cX0_isLike 25 = .ok (.iconst 0, 1) := by decide +kernel
theorem dX0_isLike_26 : decode cX0_isLike 26 = .ok (.ireturn, 1) := by decide +kernel
theorem dX0_hasAll_0 : decode cX0_hasAll 0 = .ok (.aload_n 0, 1) := by decide +kernel
theorem dX0_hasAll_1 : decode cX0_hasAll 1 = .ok (.getfield 9, 3) := by decide +kernel
theorem dX0_hasAll_4 : decode cX0_hasAll 4 = .ok (.arraylength, 1) := by decide +kernel
theorem dX0_hasAll_5 : decode cX0_hasAll 5 = .ok (.aload_n 1, 1) := by decide +kernel
theorem dX0_hasAll_6 : decode cX0_hasAll 6 = .ok (.arraylength, 1) := by decide +kernel
theorem dX0_hasAll_7 : decode cX0_hasAll 7 = .ok (.if_icmp .eq 5, 3) := by decide +kernel
theorem dX0_hasAll_10 : decode cX0_hasAll 10 = .ok (.iconst 0, 1) := by decide +kernel
theorem dX0_hasAll_11 : decode cX0_hasAll 11 = .ok (.ireturn, 1) := by decide +kernel
theorem dX0_hasAll_12 : decode cX0_hasAll 12 = .ok (.iconst 0, 1) := by decide +kernel
theorem dX0_hasAll_13 : decode cX0_hasAll 13 = .ok (.istore_n 2, 1) := by decide +kernel
theorem dX0_hasAll_14 : decode cX0_hasAll 14 = .ok (.iload_n 2, 1) := by decide +kernel
theorem dX0_hasAll_15 : decode cX0_hasAll 15 = .ok (.aload_n 0, 1) := by decide +kernel
theorem dX0_hasAll_16 : decode cX0_hasAll 16 = .ok (.getfield 9, 3) := by decide +kernel
theorem dX0_hasAll_19 : decode cX0_hasAll 19 = .ok (.arraylength, 1) := by decide +kernel
theorem dX0_hasAll_20 : decode cX0_hasAll 20 = .ok (.if_icmp .ge 23, 3) := by decide +kernel
theorem dX0_hasAll_23 : decode cX0_hasAll 23 = .ok (.aload_n 0, 1) := by decide +kernel
theorem dX0_hasAll_24 : decode cX0_hasAll 24 = .ok (.getfield 9, 3) := by decide +kernel
theorem dX0_hasAll_27 : decode cX0_hasAll 27 = .ok (.iload_n 2, 1) := by decide +kernel
theorem dX0_hasAll_28 : decode cX0_hasAll 28 = .ok (.baload, 1) := by decide +kernel
theorem dX0_hasAll_29 : decode cX0_hasAll 29 = .ok (.aload_n 1, 1) := by decide +kernel
theorem dX0_hasAll_30 : decode cX0_hasAll 30 = .ok (.iload_n 2, 1) := by decide +kernel
theorem dX0_hasAll_31 : decode cX0_hasAll 31 = .ok (.baload, 1) := by decide +kernel
theorem dX0_hasAll_32 : decode cX0_hasAll 32 = .ok (.if_icmp .eq 5, 3) := by decide +kernel
theorem dX0_hasAll_35 : decode cX0_hasAll 35 = .ok (.iconst 0, 1) := by decide +kernel
theorem dX0_hasAll_36 : decode cX0_hasAll 36 = .ok (.ireturn, 1) := by decide +kernel
theorem dX0_hasAll_37 : decode cX0_hasAll 37 = .ok (.iinc 2 1, 3) := by decide +kernel
theorem dX0_hasAll_40 : decode cX0_hasAll 40 = .ok (.goto (-26), 3) := by decide +kernel
theorem dX0_hasAll_43 : decode cX0_hasAll 43 = .ok (.iconst 1, 1) := by decide +kernel
theorem dX0_hasAll_44 : decode cX0_hasAll 44 = .ok (.ireturn, 1) := by decide +kernel
set_option maxRecDepth 20000 in
theorem ggX0_newTwin_X0_init : GoodIn wsX0_newTwin wsX0_init := goodIn_r _ [13, 4, 14, 15, 16, 17, 18, 19, 20, 21, 22, 23, 24, 25, 26] (by decide +kernel) (by decide +kernel)
set_option maxRecDepth 20000 in
theorem gX0_newTwin_X0_init : GoodIn wsX0_newTwin (wsX0_init) := ggX0_newTwin_X0_init
theorem dX0_newTwin_0 : decode cX0_newTwin 0 = .ok (.new 10, 3) := by decide +kernel
theorem dX0_newTwin_3 : decode cX0_newTwin 3 = .ok (.dup, 1) := by decide +kernel
theorem dX0_newTwin_4 : decode cX0_newTwin 4 = .ok (.aload_n 0, 1) := by decide +kernel
theorem dX0_newTwin_5 : decode cX0_newTwin 5 = .ok (.getfield 9, 3) := by decide +kernel
theorem dX0_newTwin_8 : decode cX0_newTwin 8 = .ok (.invokevirtual 19, 3) := by decide +kernel
theorem dX0_newTwin_11 : decode cX0_newTwin 11 = .ok (.checkcast 20, 3) := by decide +kernel
theorem dX0_newTwin_14 : decode cX0_newTwin 14 = .ok (.invokespecial 24, 3) := by decide +kernel
theorem dX0_newTwin_17 : decode cX0_newTwin 17 = .ok (.areturn, 1) := by decide +kernel
theorem dX0_passTo_0 : decode cX0_passTo 0 = .ok (.aload_n 1, 1) := by decide +kernel
theorem dX0_passTo_1 : decode cX0_passTo 1 = .ok (.instanceof 10, 3) := by decide +kernel
theorem dX0_passTo_4 : decode cX0_passTo 4 = .ok (.ifCond .eq 21, 3) := by decide +kernel
theorem dX0_passTo_7 : decode cX0_passTo 7 = .ok (.aload_n 0, 1) := by decide +kernel
theorem dX0_passTo_8 : decode cX0_passTo 8 = .ok (.getfield 9, 3) := by decide +kernel
theorem dX0_passTo_11 : decode cX0_passTo 11 = .ok (.iload_n 2, 1) := by decide +kernel
theorem dX0_passTo_12 : decode cX0_passTo 12 = .ok (.aload_n 1, 1) := by decide +kernel
theorem dX0_passTo_13 : decode cX0_passTo 13 = .ok (.checkcast 10, 3) := by decide +kernel
theorem dX0_passTo_16 : decode cX0_passTo 16 = .ok (.getfield 9, 3) := by decide +kernel
theorem dX0_passTo_19 : decode cX0_passTo 19 = .ok (.iload_n 3, 1) := by decide +kernel
theorem dX0_passTo_20 : decode cX0_passTo 20 = .ok (.iload 4, 2) := by decide +kernel
theorem dX0_passTo_22 : decode cX0_passTo 22 = .ok (.invokestatic 27, 3) := by decide +kernel
theorem dX0_passTo_25 : decode cX0_passTo 25 = .ok (.return_, 1) := by decide +kernel
set_option maxRecDepth 20000 in
theorem ggX0_against_J6_compare_7cf53 : GoodIn wsX0_against wsJ6_compare_7cf53 := goodIn_r _ [9] (by decide +kernel) (by decide +kernel)
set_option maxRecDepth 20000 in
theorem gX0_against_J6_compare_7cf53 : GoodIn wsX0_against (va_wsS RX0 39 yJ6_compare_7cf53 wsJ6_compare_7cf53) := goodIn_app (goodIn_of _ (by decide +kernel)) ggX0_against_J6_compare_7cf53
theorem dX0_against_0 : decode cX0_against 0 = .ok (.aload_n 0, 1) := by decide +kernel
theorem dX0_against_1 : decode cX0_against 1 = .ok (.getfield 9, 3) := by decide +kernel
theorem dX0_against_4 : decode cX0_against 4 = .ok (.arraylength, 1) := by decide +kernel
theorem dX0_against_5 : decode cX0_against 5 = .ok (.aload_n 1, 1) := by decide +kernel
theorem dX0_against_6 : decode cX0_against 6 = .ok (.getfield 9, 3) := by decide +kernel
theorem dX0_against_9 : decode cX0_against 9 = .ok (.arraylength, 1) := by decide +kernel
theorem dX0_against_10 : decode cX0_against 10 = .ok (.invokestatic 33, 3) := by decide +kernel
theorem dX0_against_13 : decode cX0_against 13 = .ok (.istore_n 2, 1) := by decide +kernel
theorem dX0_against_14 : decode cX0_against 14 = .ok (.iconst 0, 1) := by decide +kernel
theorem dX0_against_15 : decode cX0_against 15 = .ok (.istore_n 3, 1) := by decide +kernel
theorem dX0_against_16 : decode cX0_against 16 = .ok (.iload_n 3, 1) := by decide +kernel
theorem dX0_against_17 : decode cX0_against 17 = .ok (.iload_n 2, 1) := by decide +kernel
theorem dX0_against_18 : decode cX0_against 18 = .ok (.if_icmp .ge 48, 3) := by decide +kernel
theorem dX0_against_21 : decode cX0_against 21 = .ok (.aload_n 0, 1) := by decide +kernel
theorem dX0_against_22 : decode cX0_against 22 = .ok (.getfield 9, 3) := by decide +kernel
theorem dX0_against_25 : decode cX0_against 25 = .ok (.iload_n 3, 1) := by decide +kernel
theorem dX0_against_26 : decode cX0_against 26 = .ok (.baload, 1) := by decide +kernel
theorem dX0_against_27 : decode cX0_against 27 = .ok (.sipush 255, 3) := by decide +kernel
theorem dX0_against_30 : decode cX0_against 30 = .ok (.iand, 1) := by decide +kernel
theorem dX0_against_31 : decode cX0_against 31 = .ok (.aload_n 1, 1) := by decide +kernel
theorem dX0_against_32 : decode cX0_against 32 = .ok (.getfield 9, 3) := by decide +kernel
theorem dX0_against_35 : decode cX0_against 35 = .ok (.iload_n 3, 1) := by decide +kernel
theorem dX0_against_36 : decode cX0_against 36 = .ok (.baload, 1) := by decide +kernel
theorem dX0_against_37 : decode cX0_against 37 = .ok (.sipush 255, 3) := by decide +kernel
theorem dX0_against_40 : decode cX0_against 40 = .ok (.iand, 1) := by decide +kernel
theorem dX0_against_41 : decode cX0_against 41 = .ok (.isub, 1) := by decide +kernel
theorem dX0_against_42 : decode cX0_against 42 = .ok (.istore 4, 2) := by decide +kernel
theorem dX0_against_44 : decode cX0_against 44 = .ok (.iload 4, 2) := by decide +kernel
theorem dX0_against_46 : decode cX0_against 46 = .ok (.ifCond .eq 14, 3) := by decide +kernel
theorem dX0_against_49 : decode cX0_against 49 = .ok (.iload 4, 2) := by decide +kernel
theorem dX0_against_51 : decode cX0_against 51 = .ok (.ifCond .ge 7, 3) := by decide +kernel
theorem dX0_against_54 : decode cX0_against 54 = .ok (.iconst (-1), 1) := by decide +kernel
theorem dX0_against_55 : decode cX0_against 55 = .ok (.goto 4, 3) := by decide +kernel
theorem dX0_against_58 : decode cX0_against 58 = .ok (.iconst 1, 1) := by decide +kernel
theorem dX0_against_59 : decode cX0_against 59 = .ok (.ireturn, 1) := by decide +kernel
theorem dX0_against_60 : decode cX0_against 60 = .ok (.iinc 3 1, 3) := by decide +kernel
theorem dX0_against_63 : decode cX0_against 63 = .ok (.goto (-47), 3) := by decide +kernel
theorem dX0_against_66 : decode cX0_against 66 = .ok (.aload_n 0, 1) := by decide +kernel
theorem dX0_against_67 : decode cX0_against 67 = .ok (.getfield 9, 3) := by decide +kernel
theorem dX0_against_70 : decode cX0_against 70 = .ok (.arraylength, 1) := by decide +kernel
theorem dX0_against_71 : decode cX0_against 71 = .ok (.aload_n 1, 1) := by decide +kernel
theorem dX0_against_72 : decode cX0_against 72 = .ok (.getfield 9, 3) := by decide +kernel
theorem dX0_against_75 : decode cX0_against 75 = .ok (.arraylength, 1) := by decide +kernel
theorem dX0_against_76 : decode cX0_against 76 = .ok (.invokestatic 39, 3) := by decide +kernel
theorem dX0_against_79 : decode cX0_against 79 = .ok (.ireturn, 1) := by decide +kernel
set_option maxRecDepth 20000 in
theorem ggX0_newTwin__X0_newTwin : GoodIn wsX0_newTwin_ wsX0_newTwin := goodIn_r _ [5, 6, 7, 4, 8, 9, 10, 11, 12, 13, 14, 15, 16, 17, 18, 19, 20, 21, 22, 23, 24, 25, 26, 27, 28, 29, 30] (by decide +kernel) (by decide +kernel)
set_option maxRecDepth 20000 in
theorem gX0_newTwin__X0_newTwin : GoodIn wsX0_newTwin_ (wsV RX0 44 RX0 yX0_newTwin wsX0_newTwin) := goodIn_app (goodIn_of _ (by decide +kernel)) ggX0_newTwin__X0_newTwin
theorem dX0_newTwin__0 : decode cX0_newTwin_ 0 = .ok (.aload_n 0, 1) := by decide +kernel
theorem dX0_newTwin__1 : decode cX0_newTwin_ 1 = .ok (.invokevirtual 44, 3) := by decide +kernel
theorem dX0_newTwin__4 : decode cX0_newTwin_ 4 = .ok (.areturn, 1) := by decide +kernel
set_option maxRecDepth 20000 in
theorem ggX1_init_X7_init : GoodIn wsX1_init wsX7_init := goodIn_r _ [5, 6, 7, 8, 9, 10, 11, 12, 13, 14, 15, 16, 4, 17, 18, 19, 20, 21, 22, 23, 24, 25, 26, 27, 28, 29, 30, 31, 32, 33] (by decide +kernel) (by decide +kernel)
set_option maxRecDepth 20000 in
theorem gX1_init_X7_init : GoodIn wsX1_init (wsX7_init) := ggX1_init_X7_init
theorem dX1_init_0 : decode cX1_init 0 = .ok (.aload_n 0, 1) := by decide +kernel
theorem dX1_init_1 : decode cX1_init 1 = .ok (.iload_n 1, 1) := by decide +kernel
theorem dX1_init_2 : decode cX1_init 2 = .ok (.invokespecial 3, 3) := by decide +kernel
theorem dX1_init_5 : decode cX1_init 5 = .ok (.aload_n 0, 1) := by decide +kernel
theorem dX1_init_6 : decode cX1_init 6 = .ok (.aload_n 2, 1) := by decide +kernel
theorem dX1_init_7 : decode cX1_init 7 = .ok (.putfield 9, 3) := by decide +kernel
theorem dX1_init_10 : decode cX1_init 10 = .ok (.return_, 1) := by decide +kernel
theorem dX1_kind_0 : decode cX1_kind 0 = .ok (.iconst 5, 1) := by decide +kernel
theorem dX1_kind_1 : decode cX1_kind 1 = .ok (.ireturn, 1) := by decide +kernel
set_option maxRecDepth 20000 in
theorem ggX1_rowFor_X3_eldestLike : GoodIn wsX1_rowFor wsX3_eldestLike := goodIn_r _ [6, 7, 8, 9, 10, 11, 12, 13, 14, 15, 16, 17, 18, 19, 62, 63, 64] (by decide +kernel) (by decide +kernel)
set_option maxRecDepth 20000 in
theorem gX1_rowFor_X3_eldestLike : GoodIn wsX1_rowFor (wsV RX1 15 RX3 yX3_eldestLike wsX3_eldestLike) := goodIn_app (goodIn_of _ (by decide +kernel)) ggX1_rowFor_X3_eldestLike
set_option maxRecDepth 20000 in
theorem ggX1_rowFor_X0_newTwin : GoodIn wsX1_rowFor wsX0_newTwin := goodIn_r _ [23, 24, 25, 12, 15, 26, 27, 28, 29, 30, 31, 32, 33, 34, 35, 36, 37, 38, 39, 40, 41, 42, 43, 44, 45, 46, 64] (by decide +kernel) (by decide +kernel)
set_option maxRecDepth 20000 in
theorem gX1_rowFor_X0_newTwin : GoodIn wsX1_rowFor (wsV RX1 21 RX0 yX0_newTwin wsX0_newTwin) := goodIn_app (goodIn_of _ (by decide +kernel)) ggX1_rowFor_X0_newTwin
set_option maxRecDepth 20000 in
theorem ggX1_rowFor_X3_keep : GoodIn wsX1_rowFor wsX3_keep := goodIn_r _ [50, 7, 8, 51, 52, 53, 5, 54, 55, 62, 63] (by decide +kernel) (by decide +kernel)
set_option maxRecDepth 20000 in
theorem gX1_rowFor_X3_keep : GoodIn wsX1_rowFor (wsV RX1 27 RX3 yX3_keep wsX3_keep) := goodIn_app (goodIn_of _ (by decide +kernel)) ggX1_rowFor_X3_keep
theorem dX1_rowFor_0 : decode cX1_rowFor 0 = .ok (.aload_n 0, 1) := by decide +kernel
theorem dX1_rowFor_1 : decode cX1_rowFor 1 = .ok (.getfield 9, 3) := by decide +kernel
theorem dX1_rowFor_4 : decode cX1_rowFor 4 = .ok (.aload_n 1, 1) := by decide +kernel
theorem dX1_rowFor_5 : decode cX1_rowFor 5 = .ok (.invokevirtual 15, 3) := by decide +kernel
theorem dX1_rowFor_8 : decode cX1_rowFor 8 = .ok (.astore_n 2, 1) := by decide +kernel
theorem dX1_rowFor_9 : decode cX1_rowFor 9 = .ok (.aload_n 2, 1) := by decide +kernel
theorem dX1_rowFor_10 : decode cX1_rowFor 10 = .ok (.ifnonnull 17, 3) := by decide +kernel
theorem dX1_rowFor_13 : decode cX1_rowFor 13 = .ok (.aload_n 0, 1) := by decide +kernel
theorem dX1_rowFor_14 : decode cX1_rowFor 14 = .ok (.getfield 9, 3) := by decide +kernel
theorem dX1_rowFor_17 : decode cX1_rowFor 17 = .ok (.aload_n 1, 1) := by decide +kernel
theorem dX1_rowFor_18 : decode cX1_rowFor 18 = .ok (.invokevirtual 21, 3) := by decide +kernel
theorem dX1_rowFor_21 : decode cX1_rowFor 21 = .ok (.invokevirtual 27, 3) := by decide +kernel
theorem dX1_rowFor_24 : decode cX1_rowFor 24 = .ok (.goto 4, 3) := by decide +kernel
theorem dX1_rowFor_27 : decode cX1_rowFor 27 = .ok (.aload_n 2, 1) := by decide +kernel
theorem dX1_rowFor_28 : decode cX1_rowFor 28 = .ok (.areturn, 1) := by decide +kernel
set_option maxRecDepth 20000 in
theorem ggX2_init_X4_init : GoodIn wsX2_init wsX4_init := goodIn_r _ [3, 4, 5, 6, 7, 8, 9] (by decide +kernel) (by decide +kernel)
set_option maxRecDepth 20000 in
theorem gX2_init_X4_init_n1 : GoodIn wsX2_init (wsX4_init) := ggX2_init_X4_init
theorem dX2_init_0 : decode cX2_init 0 = .ok (.aload_n 0, 1) := by decide +kernel
theorem dX2_init_1 : decode cX2_init 1 = .ok (.invokespecial 1, 3) := by decide +kernel
theorem dX2_init_4 : decode cX2_init 4 = .ok (.return_, 1) := by decide +kernel
set_option maxRecDepth 20000 in
theorem ggX2_contentHash_X0_cellCount : GoodIn wsX2_contentHash wsX0_cellCount := goodIn_r _ [6, 7, 21] (by decide +kernel) (by decide +kernel)
set_option maxRecDepth 20000 in
theorem gX2_contentHash_X0_cellCount_u7X0 : GoodIn wsX2_contentHash (va_wsU RX2 7 RX0 "KeptTerms$Row" ⟨"KeptTerms$Numbers", "cellCount", "()I"⟩ yX0_cellCount wsX0_cellCount) := goodIn_app (goodIn_of _ (by decide +kernel)) ggX2_contentHash_X0_cellCount
set_option maxRecDepth 20000 in
theorem ggX2_contentHash_X6_cellCount : GoodIn wsX2_contentHash wsX6_cellCount := goodIn_r _ [11, 12, 22] (by decide +kernel) (by decide +kernel)
set_option maxRecDepth 20000 in
theorem gX2_contentHash_X6_cellCount_u7X6 : GoodIn wsX2_contentHash (va_wsU RX2 7 RX6 "KeptTerms$Row" ⟨"KeptTerms$Numbers", "cellCount", "()I"⟩ yX6_cellCount wsX6_cellCount) := goodIn_app (goodIn_of _ (by decide +kernel)) ggX2_contentHash_X6_cellCount
set_option maxRecDepth 20000 in
theorem ggX2_contentHash_X0_number : GoodIn wsX2_contentHash wsX0_number := goodIn_r _ [17, 7, 21] (by decide +kernel) (by decide +kernel)
set_option maxRecDepth 20000 in
theorem gX2_contentHash_X0_number_u13X0 : GoodIn wsX2_contentHash (va_wsU RX2 13 RX0 "KeptTerms$Numbers" ⟨"KeptTerms$Numbers", "number", "(I)I"⟩ yX0_number wsX0_number) := goodIn_app (goodIn_of _ (by decide +kernel)) ggX2_contentHash_X0_number
set_option maxRecDepth 20000 in
theorem ggX2_contentHash_X6_number : GoodIn wsX2_contentHash wsX6_number := goodIn_r _ [20, 12, 22] (by decide +kernel) (by decide +kernel)
set_option maxRecDepth 20000 in
theorem gX2_contentHash_X6_number_u13X6 : GoodIn wsX2_contentHash (va_wsU RX2 13 RX6 "KeptTerms$Numbers" ⟨"KeptTerms$Numbers", "number", "(I)I"⟩ yX6_number wsX6_number) := goodIn_app (goodIn_of _ (by decide +kernel)) ggX2_contentHash_X6_number
theorem dX2_contentHash_0 : decode cX2_contentHash 0 = .ok (.iconst 0, 1) := by decide +kernel
theorem dX2_contentHash_1 : decode cX2_contentHash 1 = .ok (.istore_n 1, 1) := by decide +kernel
theorem dX2_contentHash_2 : decode cX2_contentHash 2 = .ok (.aload_n 0, 1) := by decide +kernel
theorem dX2_contentHash_3 : decode cX2_contentHash 3 = .ok (.invokevirtual 7, 3) := by decide +kernel
theorem dX2_contentHash_6 : decode cX2_contentHash 6 = .ok (.istore_n 2, 1) := by decide +kernel
theorem dX2_contentHash_7 : decode cX2_contentHash 7 = .ok (.iconst 0, 1) := by decide +kernel
theorem dX2_contentHash_8 : decode cX2_contentHash 8 = .ok (.istore_n 3, 1) := by decide +kernel
theorem dX2_contentHash_9 : decode cX2_contentHash 9 = .ok (.iload_n 3, 1) := by decide +kernel
theorem dX2_contentHash_10 : decode cX2_contentHash 10 = .ok (.iload_n 2, 1) := by decide +kernel
theorem dX2_contentHash_11 : decode cX2_contentHash 11 = .ok (.if_icmp .ge 20, 3) := by decide +kernel
theorem dX2_contentHash_14 : decode cX2_contentHash 14 = .ok (.bipush 31, 2) := by decide +kernel
theorem dX2_contentHash_16 : decode cX2_contentHash 16 = .ok (.iload_n 1, 1) := by decide +kernel
theorem dX2_contentHash_17 : decode cX2_contentHash 17 = .ok (.imul, 1) := by decide +kernel
theorem dX2_contentHash_18 : decode cX2_contentHash 18 = .ok (.aload_n 0, 1) := by decide +kernel
theorem dX2_contentHash_19 : decode cX2_contentHash 19 = .ok (.iload_n 3, 1) := by decide +kernel
theorem dX2_contentHash_20 : decode cX2_contentHash 20 = .ok (.invokevirtual 13, 3) := by decide +kernel
theorem dX2_contentHash_23 : decode cX2_contentHash 23 = .ok (.iadd, 1) := by decide +kernel
theorem dX2_contentHash_24 : decode cX2_contentHash 24 = .ok (.istore_n 1, 1) := by decide +kernel
theorem dX2_contentHash_25 : decode cX2_contentHash 25 = .ok (.iinc 3 1, 3) := by decide +kernel
theorem dX2_contentHash_28 : decode cX2_contentHash 28 = .ok (.goto (-19), 3) := by decide +kernel
theorem dX2_contentHash_31 : decode cX2_contentHash 31 = .ok (.iload_n 1, 1) := by decide +kernel
theorem dX2_contentHash_32 : decode cX2_contentHash 32 = .ok (.ireturn, 1) := by decide +kernel
set_option maxRecDepth 20000 in
theorem ggX2_spells_X0_cellCount : GoodIn wsX2_spells wsX0_cellCount := goodIn_r _ [6, 7, 70] (by decide +kernel) (by decide +kernel)
set_option maxRecDepth 20000 in
theorem gX2_spells_X0_cellCount_u7X0 : GoodIn wsX2_spells (va_wsU RX2 7 RX0 "KeptTerms$Row" ⟨"KeptTerms$Numbers", "cellCount", "()I"⟩ yX0_cellCount wsX0_cellCount) := goodIn_app (goodIn_of _ (by decide +kernel)) ggX2_spells_X0_cellCount
set_option maxRecDepth 20000 in
theorem ggX2_spells_X6_cellCount : GoodIn wsX2_spells wsX6_cellCount := goodIn_r _ [11, 12, 71] (by decide +kernel) (by decide +kernel)
set_option maxRecDepth 20000 in
theorem gX2_spells_X6_cellCount_u7X6 : GoodIn wsX2_spells (va_wsU RX2 7 RX6 "KeptTerms$Row" ⟨"KeptTerms$Numbers", "cellCount", "()I"⟩ yX6_cellCount wsX6_cellCount) := goodIn_app (goodIn_of _ (by decide +kernel)) ggX2_spells_X6_cellCount
set_option maxRecDepth 20000 in
theorem ggX2_spells_J0_length_8abf5 : GoodIn wsX2_spells wsJ0_length_8abf5 := goodIn_r _ [17, 18, 19, 20, 21, 16, 22, 23, 24] (by decide +kernel) (by decide +kernel)
set_option maxRecDepth 20000 in
theorem gX2_spells_J0_length_8abf5 : GoodIn wsX2_spells (wsV RX2 17 RJ0 yJ0_length_8abf5 wsJ0_length_8abf5) := goodIn_app (goodIn_of _ (by decide +kernel)) ggX2_spells_J0_length_8abf5
set_option maxRecDepth 20000 in
theorem ggX2_spells_X0_numberWithoutSign : GoodIn wsX2_spells wsX0_numberWithoutSign := goodIn_r _ [29, 7, 70] (by decide +kernel) (by decide +kernel)
set_option maxRecDepth 20000 in
theorem gX2_spells_X0_numberWithoutSign_u22X0 : GoodIn wsX2_spells (va_wsU RX2 22 RX0 "KeptTerms$Numbers" ⟨"KeptTerms$Numbers", "numberWithoutSign", "(I)I"⟩ yX0_numberWithoutSign wsX0_numberWithoutSign) := goodIn_app (goodIn_of _ (by decide +kernel)) ggX2_spells_X0_numberWithoutSign
set_option maxRecDepth 20000 in
theorem ggX2_spells_X6_numberWithoutSign : GoodIn wsX2_spells wsX6_numberWithoutSign := goodIn_r _ [32, 12, 71] (by decide +kernel) (by decide +kernel)
set_option maxRecDepth 20000 in
theorem gX2_spells_X6_numberWithoutSign_u22X6 : GoodIn wsX2_spells (va_wsU RX2 22 RX6 "KeptTerms$Numbers" ⟨"KeptTerms$Numbers", "numberWithoutSign", "(I)I"⟩ yX6_numberWithoutSign wsX6_numberWithoutSign) := goodIn_app (goodIn_of _ (by decide +kernel)) ggX2_spells_X6_numberWithoutSign
set_option maxRecDepth 20000 in
theorem ggX2_spells_J0_charAt_5068e : GoodIn wsX2_spells wsJ0_charAt_5068e := goodIn_r _ [36, 18, 37, 38, 39, 16, 40, 23, 24, 41, 42, 43, 44, 45, 46, 47, 48, 49, 50, 51, 52, 53, 54, 55, 56, 57, 58, 59, 60, 61, 62, 63, 64, 65, 66, 67, 68, 69] (by decide +kernel) (by decide +kernel)
set_option maxRecDepth 20000 in
theorem gX2_spells_J0_charAt_5068e : GoodIn wsX2_spells (wsV RX2 25 RJ0 yJ0_charAt_5068e wsJ0_charAt_5068e) := goodIn_app (goodIn_of _ (by decide +kernel)) ggX2_spells_J0_charAt_5068e
theorem dX2_spells_0 : decode cX2_spells 0 = .ok (.aload_n 0, 1) := by decide +kernel
theorem dX2_spells_1 : decode cX2_spells 1 = .ok (.invokevirtual 7, 3) := by decide +kernel
theorem dX2_spells_4 : decode cX2_spells 4 = .ok (.istore_n 2, 1) := by decide +kernel
theorem dX2_spells_5 : decode cX2_spells 5 = .ok (.iload_n 2, 1) := by decide +kernel
theorem dX2_spells_6 : decode cX2_spells 6 = .ok (.aload_n 1, 1) := by decide +kernel
theorem dX2_spells_7 : decode cX2_spells 7 = .ok (.invokevirtual 17, 3) := by decide +kernel
theorem dX2_spells_10 : decode cX2_spells 10 = .ok (.if_icmp .eq 5, 3) := by decide +kernel
theorem dX2_spells_13 : decode cX2_spells 13 = .ok (.iconst 0, 1) := by decide +kernel
theorem dX2_spells_14 : decode cX2_spells 14 = .ok (.ireturn, 1) := by decide +kernel
theorem dX2_spells_15 : decode cX2_spells 15 = .ok (.iconst 0, 1) := by decide +kernel
theorem dX2_spells_16 : decode cX2_spells 16 = .ok (.istore_n 3, 1) := by decide +kernel
theorem dX2_spells_17 : decode cX2_spells 17 = .ok (.iload_n 3, 1) := by decide +kernel
theorem dX2_spells_18 : decode cX2_spells 18 = .ok (.iload_n 2, 1) := by decide +kernel
theorem dX2_spells_19 : decode cX2_spells 19 = .ok (.if_icmp .ge 24, 3) := by decide +kernel
theorem dX2_spells_22 : decode cX2_spells 22 = .ok (.aload_n 0, 1) := by decide +kernel
theorem dX2_spells_23 : decode cX2_spells 23 = .ok (.iload_n 3, 1) := by decide +kernel
theorem dX2_spells_24 : decode cX2_spells 24 = .ok (.invokevirtual 22, 3) := by decide +kernel
theorem dX2_spells_27 : decode cX2_spells 27 = .ok (.aload_n 1, 1) := by decide +kernel
theorem dX2_spells_28 : decode cX2_spells 28 = .ok (.iload_n 3, 1) := by decide +kernel
theorem dX2_spells_29 : decode cX2_spells 29 = .ok (.invokevirtual 25, 3) := by decide +kernel
theorem dX2_spells_32 : decode cX2_spells 32 = .ok (.if_icmp .eq 5, 3) := by decide +kernel
theorem dX2_spells_35 : decode cX2_spells 35 = .ok (.iconst 0, 1) := by decide +kernel
theorem dX2_spells_36 : decode cX2_spells 36 = .ok (.ireturn, 1) := by decide +kernel
theorem dX2_spells_37 : decode cX2_spells 37 = .ok (.iinc 3 1, 3) := by decide +kernel
theorem dX2_spells_40 : decode cX2_spells 40 = .ok (.goto (-23), 3) := by decide +kernel
theorem dX2_spells_43 : decode cX2_spells 43 = .ok (.iconst 1, 1) := by decide +kernel
theorem dX2_spells_44 : decode cX2_spells 44 = .ok (.ireturn, 1) := by decide +kernel
theorem dX3_init_0 : decode cX3_init 0 = .ok (.aload_n 0, 1) := by decide +kernel
theorem dX3_init_1 : decode cX3_init 1 = .ok (.invokespecial 3, 3) := by decide +kernel
theorem dX3_init_4 : decode cX3_init 4 = .ok (.aload_n 0, 1) := by decide +kernel
theorem dX3_init_5 : decode cX3_init 5 = .ok (.bipush 16, 2) := by decide +kernel
theorem dX3_init_7 : decode cX3_init 7 = .ok (.anewarray 9, 3) := by decide +kernel
theorem dX3_init_10 : decode cX3_init 10 = .ok (.putfield 11, 3) := by decide +kernel
theorem dX3_init_13 : decode cX3_init 13 = .ok (.return_, 1) := by decide +kernel
set_option maxRecDepth 20000 in
theorem ggX3_eldestLike_X0_isLike : GoodIn wsX3_eldestLike wsX0_isLike := goodIn_r _ [7, 8, 9, 10, 11, 12, 6, 13, 16] (by decide +kernel) (by decide +kernel)
set_option maxRecDepth 20000 in
theorem gX3_eldestLike_X0_isLike : GoodIn wsX3_eldestLike (wsV RX3 21 RX0 yX0_isLike wsX0_isLike) := goodIn_app (goodIn_of _ (by decide +kernel)) ggX3_eldestLike_X0_isLike
theorem dX3_eldestLike_0 : decode cX3_eldestLike 0 = .ok (.iconst 0, 1) := by decide +kernel
theorem dX3_eldestLike_1 : decode cX3_eldestLike 1 = .ok (.istore_n 2, 1) := by decide +kernel
theorem dX3_eldestLike_2 : decode cX3_eldestLike 2 = .ok (.iload_n 2, 1) := by decide +kernel
theorem dX3_eldestLike_3 : decode cX3_eldestLike 3 = .ok (.aload_n 0, 1) := by decide +kernel
theorem dX3_eldestLike_4 : decode cX3_eldestLike 4 = .ok (.getfield 17, 3) := by decide +kernel
theorem dX3_eldestLike_7 : decode cX3_eldestLike 7 = .ok (.if_icmp .ge 29, 3) := by decide +kernel
theorem dX3_eldestLike_10 : decode cX3_eldestLike 10 = .ok (.aload_n 0, 1) := by decide +kernel
theorem dX3_eldestLike_11 : decode cX3_eldestLike 11 = .ok (.getfield 11, 3) := by decide +kernel
theorem dX3_eldestLike_14 : decode cX3_eldestLike 14 = .ok (.iload_n 2, 1) := by decide +kernel
theorem dX3_eldestLike_15 : decode cX3_eldestLike 15 = .ok (.aaload, 1) := by decide +kernel
theorem dX3_eldestLike_16 : decode cX3_eldestLike 16 = .ok (.aload_n 1, 1) := by decide +kernel
theorem dX3_eldestLike_17 : decode cX3_eldestLike 17 = .ok (.invokevirtual 21, 3) := by decide +kernel
theorem dX3_eldestLike_20 : decode cX3_eldestLike 20 = .ok (.ifCond .eq 10, 3) := by decide +kernel
theorem dX3_eldestLike_23 : decode cX3_eldestLike 23 = .ok (.aload_n 0, 1) := by decide +kernel
theorem dX3_eldestLike_24 : decode cX3_eldestLike 24 = .ok (.getfield 11, 3) := by decide +kernel
theorem dX3_eldestLike_27 : decode cX3_eldestLike 27 = .ok (.iload_n 2, 1) := by decide +kernel
theorem dX3_eldestLike_28 : decode cX3_eldestLike 28 = .ok (.aaload, 1) := by decide +kernel
theorem dX3_eldestLike_29 : decode cX3_eldestLike 29 = .ok (.areturn, 1) := by decide +kernel
theorem dX3_eldestLike_30 : decode cX3_eldestLike 30 = .ok (.iinc 2 1, 3) := by decide +kernel
theorem dX3_eldestLike_33 : decode cX3_eldestLike 33 = .ok (.goto (-31), 3) := by decide +kernel
theorem dX3_eldestLike_36 : decode cX3_eldestLike 36 = .ok (.aconst_null, 1) := by decide +kernel
theorem dX3_eldestLike_37 : decode cX3_eldestLike 37 = .ok (.areturn, 1) := by decide +kernel
set_option maxRecDepth 20000 in
theorem ggX3_keep_X3_widen : GoodIn wsX3_keep wsX3_widen := goodIn_r _ [7, 2, 8, 1, 9, 10] (by decide +kernel) (by decide +kernel)
set_option maxRecDepth 20000 in
theorem gX3_keep_X3_widen : GoodIn wsX3_keep (wsV RX3 25 RX3 yX3_widen wsX3_widen) := goodIn_app (goodIn_of _ (by decide +kernel)) ggX3_keep_X3_widen
theorem dX3_keep_0 : decode cX3_keep 0 = .ok (.aload_n 0, 1) := by decide +kernel
theorem dX3_keep_1 : decode cX3_keep 1 = .ok (.getfield 17, 3) := by decide +kernel
theorem dX3_keep_4 : decode cX3_keep 4 = .ok (.sipush 1024, 3) := by decide +kernel
theorem dX3_keep_7 : decode cX3_keep 7 = .ok (.if_icmp .lt 5, 3) := by decide +kernel
theorem dX3_keep_10 : decode cX3_keep 10 = .ok (.aconst_null, 1) := by decide +kernel
theorem dX3_keep_11 : decode cX3_keep 11 = .ok (.areturn, 1) := by decide +kernel
theorem dX3_keep_12 : decode cX3_keep 12 = .ok (.aload_n 0, 1) := by decide +kernel
theorem dX3_keep_13 : decode cX3_keep 13 = .ok (.getfield 17, 3) := by decide +kernel
theorem dX3_keep_16 : decode cX3_keep 16 = .ok (.aload_n 0, 1) := by decide +kernel
theorem dX3_keep_17 : decode cX3_keep 17 = .ok (.getfield 11, 3) := by decide +kernel
theorem dX3_keep_20 : decode cX3_keep 20 = .ok (.arraylength, 1) := by decide +kernel
theorem dX3_keep_21 : decode cX3_keep 21 = .ok (.if_icmp .lt 7, 3) := by decide +kernel
theorem dX3_keep_24 : decode cX3_keep 24 = .ok (.aload_n 0, 1) := by decide +kernel
theorem dX3_keep_25 : decode cX3_keep 25 = .ok (.invokevirtual 25, 3) := by decide +kernel
theorem dX3_keep_28 : decode cX3_keep 28 = .ok (.aload_n 0, 1) := by decide +kernel
theorem dX3_keep_29 : decode cX3_keep 29 = .ok (.getfield 11, 3) := by decide +kernel
theorem dX3_keep_32 : decode cX3_keep 32 = .ok (.aload_n 0, 1) := by decide +kernel
theorem dX3_keep_33 : decode cX3_keep 33 = .ok (.getfield 17, 3) := by decide +kernel
theorem dX3_keep_36 : decode cX3_keep 36 = .ok (.aload_n 1, 1) := by decide +kernel
theorem dX3_keep_37 : decode cX3_keep 37 = .ok (.aastore, 1) := by decide +kernel
theorem dX3_keep_38 : decode cX3_keep 38 = .ok (.aload_n 0, 1) := by decide +kernel
theorem dX3_keep_39 : decode cX3_keep 39 = .ok (.dup, 1) := by decide +kernel
theorem dX3_keep_40 : decode cX3_keep 40 = .ok (.getfield 17, 3) := by decide +kernel
theorem dX3_keep_43 : decode cX3_keep 43 = .ok (.iconst 1, 1) := by decide +kernel
theorem dX3_keep_44 : decode cX3_keep 44 = .ok (.iadd, 1) := by decide +kernel
theorem dX3_keep_45 : decode cX3_keep 45 = .ok (.putfield 17, 3) := by decide +kernel
theorem dX3_keep_48 : decode cX3_keep 48 = .ok (.aload_n 1, 1) := by decide +kernel
theorem dX3_keep_49 : decode cX3_keep 49 = .ok (.areturn, 1) := by decide +kernel
theorem dX3_widen_0 : decode cX3_widen 0 = .ok (.iconst 2, 1) := by decide +kernel
theorem dX3_widen_1 : decode cX3_widen 1 = .ok (.aload_n 0, 1) := by decide +kernel
theorem dX3_widen_2 : decode cX3_widen 2 = .ok (.getfield 11, 3) := by decide +kernel
theorem dX3_widen_5 : decode cX3_widen 5 = .ok (.arraylength, 1) := by decide +kernel
theorem dX3_widen_6 : decode cX3_widen 6 = .ok (.imul, 1) := by decide +kernel
theorem dX3_widen_7 : decode cX3_widen 7 = .ok (.anewarray 9, 3) := by decide +kernel
theorem dX3_widen_10 : decode cX3_widen 10 = .ok (.astore_n 1, 1) := by decide +kernel
theorem dX3_widen_11 : decode cX3_widen 11 = .ok (.iconst 0, 1) := by decide +kernel
theorem dX3_widen_12 : decode cX3_widen 12 = .ok (.istore_n 2, 1) := by decide +kernel
theorem dX3_widen_13 : decode cX3_widen 13 = .ok (.iload_n 2, 1) := by decide +kernel
theorem dX3_widen_14 : decode cX3_widen 14 = .ok (.aload_n 0, 1) := by decide +kernel
theorem dX3_widen_15 : decode cX3_widen 15 = .ok (.getfield 17, 3) := by decide +kernel
theorem dX3_widen_18 : decode cX3_widen 18 = .ok (.if_icmp .ge 18, 3) := by decide +kernel
theorem dX3_widen_21 : decode cX3_widen 21 = .ok (.aload_n 1, 1) := by decide +kernel
theorem dX3_widen_22 : decode cX3_widen 22 = .ok (.iload_n 2, 1) := by decide +kernel
theorem dX3_widen_23 : decode cX3_widen 23 = .ok (.aload_n 0, 1) := by decide +kernel
theorem dX3_widen_24 : decode cX3_widen 24 = .ok (.getfield 11, 3) := by decide +kernel
theorem dX3_widen_27 : decode cX3_widen 27 = .ok (.iload_n 2, 1) := by decide +kernel
theorem dX3_widen_28 : decode cX3_widen 28 = .ok (.aaload, 1) := by decide +kernel
theorem dX3_widen_29 : decode cX3_widen 29 = .ok (.aastore, 1) := by decide +kernel
theorem dX3_widen_30 : decode cX3_widen 30 = .ok (.iinc 2 1, 3) := by decide +kernel
theorem dX3_widen_33 : decode cX3_widen 33 = .ok (.goto (-20), 3) := by decide +kernel
theorem dX3_widen_36 : decode cX3_widen 36 = .ok (.aload_n 0, 1) := by decide +kernel
theorem dX3_widen_37 : decode cX3_widen 37 = .ok (.aload_n 1, 1) := by decide +kernel
theorem dX3_widen_38 : decode cX3_widen 38 = .ok (.putfield 11, 3) := by decide +kernel
theorem dX3_widen_41 : decode cX3_widen 41 = .ok (.return_, 1) := by decide +kernel
set_option maxRecDepth 20000 in
theorem ggX4_init_X8_init : GoodIn wsX4_init wsX8_init := goodIn_r _ [3, 4, 5, 6] (by decide +kernel) (by decide +kernel)
set_option maxRecDepth 20000 in
theorem gX4_init_X8_init_n1 : GoodIn wsX4_init (wsX8_init) := ggX4_init_X8_init
theorem dX4_init_0 : decode cX4_init 0 = .ok (.aload_n 0, 1) := by decide +kernel
theorem dX4_init_1 : decode cX4_init 1 = .ok (.invokespecial 1, 3) := by decide +kernel
theorem dX4_init_4 : decode cX4_init 4 = .ok (.return_, 1) := by decide +kernel
set_option maxRecDepth 20000 in
theorem ggX4_hasCell_X0_cellCount : GoodIn wsX4_hasCell wsX0_cellCount := goodIn_r _ [6, 7, 18] (by decide +kernel) (by decide +kernel)
set_option maxRecDepth 20000 in
theorem gX4_hasCell_X0_cellCount_u7X0 : GoodIn wsX4_hasCell (va_wsU RX4 7 RX0 "KeptTerms$Row" ⟨"KeptTerms$Row", "cellCount", "()I"⟩ yX0_cellCount wsX0_cellCount) := goodIn_app (goodIn_of _ (by decide +kernel)) ggX4_hasCell_X0_cellCount
set_option maxRecDepth 20000 in
theorem ggX4_hasCell_X5_cellCount : GoodIn wsX4_hasCell wsX5_cellCount := goodIn_r _ [11, 12, 19] (by decide +kernel) (by decide +kernel)
set_option maxRecDepth 20000 in
theorem gX4_hasCell_X5_cellCount_u7X5 : GoodIn wsX4_hasCell (va_wsU RX4 7 RX5 "KeptTerms$Row" ⟨"KeptTerms$Row", "cellCount", "()I"⟩ yX5_cellCount wsX5_cellCount) := goodIn_app (goodIn_of _ (by decide +kernel)) ggX4_hasCell_X5_cellCount
set_option maxRecDepth 20000 in
theorem ggX4_hasCell_X6_cellCount : GoodIn wsX4_hasCell wsX6_cellCount := goodIn_r _ [16, 17, 20] (by decide +kernel) (by decide +kernel)
set_option maxRecDepth 20000 in
theorem gX4_hasCell_X6_cellCount_u7X6 : GoodIn wsX4_hasCell (va_wsU RX4 7 RX6 "KeptTerms$Row" ⟨"KeptTerms$Row", "cellCount", "()I"⟩ yX6_cellCount wsX6_cellCount) := goodIn_app (goodIn_of _ (by decide +kernel)) ggX4_hasCell_X6_cellCount
theorem dX4_hasCell_0 : decode cX4_hasCell 0 = .ok (.iload_n 1, 1) := by decide +kernel
theorem dX4_hasCell_1 : decode cX4_hasCell 1 = .ok (.ifCond .lt 15, 3) := by decide +kernel
theorem dX4_hasCell_4 : decode cX4_hasCell 4 = .ok (.iload_n 1, 1) := by decide +kernel
theorem dX4_hasCell_5 : decode cX4_hasCell 5 = .ok (.aload_n 0, 1) := by decide +kernel
theorem dX4_hasCell_6 : decode cX4_hasCell 6 = .ok (.invokevirtual 7, 3) := by decide +kernel
theorem dX4_hasCell_9 : decode cX4_hasCell 9 = .ok (.if_icmp .ge 7, 3) := by decide +kernel
theorem dX4_hasCell_12 : decode cX4_hasCell 12 = .ok (.iconst 1, 1) := by decide +kernel
theorem dX4_hasCell_13 : decode cX4_hasCell 13 = .ok (.goto 4, 3) := by decide +kernel
theorem dX4_hasCell_16 : decode cX4_hasCell 16 = .ok (.iconst 0, 1) := by decide +kernel
theorem dX4_hasCell_17 : decode cX4_hasCell 17 = .ok (.ireturn, 1) := by decide +kernel
set_option maxRecDepth 20000 in
theorem ggX4_hasCells_X0_cellCount : GoodIn wsX4_hasCells wsX0_cellCount := goodIn_r _ [6, 7, 18] (by decide +kernel) (by decide +kernel)
set_option maxRecDepth 20000 in
theorem gX4_hasCells_X0_cellCount_u7X0 : GoodIn wsX4_hasCells (va_wsU RX4 7 RX0 "KeptTerms$Row" ⟨"KeptTerms$Row", "cellCount", "()I"⟩ yX0_cellCount wsX0_cellCount) := goodIn_app (goodIn_of _ (by decide +kernel)) ggX4_hasCells_X0_cellCount
set_option maxRecDepth 20000 in
theorem ggX4_hasCells_X5_cellCount : GoodIn wsX4_hasCells wsX5_cellCount := goodIn_r _ [11, 12, 19] (by decide +kernel) (by decide +kernel)
set_option maxRecDepth 20000 in
theorem gX4_hasCells_X5_cellCount_u7X5 : GoodIn wsX4_hasCells (va_wsU RX4 7 RX5 "KeptTerms$Row" ⟨"KeptTerms$Row", "cellCount", "()I"⟩ yX5_cellCount wsX5_cellCount) := goodIn_app (goodIn_of _ (by decide +kernel)) ggX4_hasCells_X5_cellCount
set_option maxRecDepth 20000 in
theorem ggX4_hasCells_X6_cellCount : GoodIn wsX4_hasCells wsX6_cellCount := goodIn_r _ [16, 17, 20] (by decide +kernel) (by decide +kernel)
set_option maxRecDepth 20000 in
theorem gX4_hasCells_X6_cellCount_u7X6 : GoodIn wsX4_hasCells (va_wsU RX4 7 RX6 "KeptTerms$Row" ⟨"KeptTerms$Row", "cellCount", "()I"⟩ yX6_cellCount wsX6_cellCount) := goodIn_app (goodIn_of _ (by decide +kernel)) ggX4_hasCells_X6_cellCount
theorem dX4_hasCells_0 : decode cX4_hasCells 0 = .ok (.iload_n 1, 1) := by decide +kernel
theorem dX4_hasCells_1 : decode cX4_hasCells 1 = .ok (.ifCond .lt 29, 3) := by decide +kernel
theorem dX4_hasCells_4 : decode cX4_hasCells 4 = .ok (.iload_n 2, 1) := by decide +kernel
theorem dX4_hasCells_5 : decode cX4_hasCells 5 = .ok (.ifCond .lt 25, 3) := by decide +kernel
theorem dX4_hasCells_8 : decode cX4_hasCells 8 = .ok (.iload_n 2, 1) := by decide +kernel
theorem dX4_hasCells_9 : decode cX4_hasCells 9 = .ok (.aload_n 0, 1) := by decide +kernel
theorem dX4_hasCells_10 : decode cX4_hasCells 10 = .ok (.invokevirtual 7, 3) := by decide +kernel
theorem dX4_hasCells_13 : decode cX4_hasCells 13 = .ok (.if_icmp .gt 17, 3) := by decide +kernel
theorem dX4_hasCells_16 : decode cX4_hasCells 16 = .ok (.iload_n 1, 1) := by decide +kernel
theorem dX4_hasCells_17 : decode cX4_hasCells 17 = .ok (.aload_n 0, 1) := by decide +kernel
theorem dX4_hasCells_18 : decode cX4_hasCells 18 = .ok (.invokevirtual 7, 3) := by decide +kernel
theorem dX4_hasCells_21 : decode cX4_hasCells 21 = .ok (.iload_n 2, 1) := by decide +kernel
theorem dX4_hasCells_22 : decode cX4_hasCells 22 = .ok (.isub, 1) := by decide +kernel
theorem dX4_hasCells_23 : decode cX4_hasCells 23 = .ok (.if_icmp .gt 7, 3) := by decide +kernel
theorem dX4_hasCells_26 : decode cX4_hasCells 26 = .ok (.iconst 1, 1) := by decide +kernel
theorem dX4_hasCells_27 : decode cX4_hasCells 27 = .ok (.goto 4, 3) := by decide +kernel
theorem dX4_hasCells_30 : decode cX4_hasCells 30 = .ok (.iconst 0, 1) := by decide +kernel
theorem dX4_hasCells_31 : decode cX4_hasCells 31 = .ok (.ireturn, 1) := by decide +kernel
set_option maxRecDepth 20000 in
theorem ggX5_init_X4_init : GoodIn wsX5_init wsX4_init := goodIn_r _ [4, 5, 6, 7, 8, 9, 10] (by decide +kernel) (by decide +kernel)
set_option maxRecDepth 20000 in
theorem gX5_init_X4_init_n3 : GoodIn wsX5_init (wsX4_init) := ggX5_init_X4_init
theorem dX5_init_0 : decode cX5_init 0 = .ok (.aload_n 0, 1) := by decide +kernel
theorem dX5_init_1 : decode cX5_init 1 = .ok (.invokespecial 3, 3) := by decide +kernel
theorem dX5_init_4 : decode cX5_init 4 = .ok (.aload_n 0, 1) := by decide +kernel
theorem dX5_init_5 : decode cX5_init 5 = .ok (.aload_n 1, 1) := by decide +kernel
theorem dX5_init_6 : decode cX5_init 6 = .ok (.putfield 9, 3) := by decide +kernel
theorem dX5_init_9 : decode cX5_init 9 = .ok (.return_, 1) := by decide +kernel
theorem dX5_kind_0 : decode cX5_kind 0 = .ok (.iconst 3, 1) := by decide +kernel
theorem dX5_kind_1 : decode cX5_kind 1 = .ok (.ireturn, 1) := by decide +kernel
theorem dX5_cellCount_0 : decode cX5_cellCount 0 = .ok (.aload_n 0, 1) := by decide +kernel
theorem dX5_cellCount_1 : decode cX5_cellCount 1 = .ok (.getfield 9, 3) := by decide +kernel
theorem dX5_cellCount_4 : decode cX5_cellCount 4 = .ok (.arraylength, 1) := by decide +kernel
theorem dX5_cellCount_5 : decode cX5_cellCount 5 = .ok (.ireturn, 1) := by decide +kernel
set_option maxRecDepth 20000 in
theorem ggX5_newTwin_X5_init : GoodIn wsX5_newTwin wsX5_init := goodIn_r _ [8, 4, 9, 10, 11, 12, 13, 14, 15, 16, 17, 23] (by decide +kernel) (by decide +kernel)
set_option maxRecDepth 20000 in
theorem gX5_newTwin_X5_init : GoodIn wsX5_newTwin (wsX5_init) := ggX5_newTwin_X5_init
set_option maxRecDepth 20000 in
theorem ggX5_newTwin_X5_passTo : GoodIn wsX5_newTwin wsX5_passTo := goodIn_r _ [21, 22, 5, 4, 23] (by decide +kernel) (by decide +kernel)
set_option maxRecDepth 20000 in
theorem gX5_newTwin_X5_passTo : GoodIn wsX5_newTwin (wsV RX5 20 RX5 yX5_passTo wsX5_passTo) := goodIn_app (goodIn_of _ (by decide +kernel)) ggX5_newTwin_X5_passTo
theorem dX5_newTwin_0 : decode cX5_newTwin 0 = .ok (.new 10, 3) := by decide +kernel
theorem dX5_newTwin_3 : decode cX5_newTwin 3 = .ok (.dup, 1) := by decide +kernel
theorem dX5_newTwin_4 : decode cX5_newTwin 4 = .ok (.aload_n 0, 1) := by decide +kernel
theorem dX5_newTwin_5 : decode cX5_newTwin 5 = .ok (.getfield 9, 3) := by decide +kernel
theorem dX5_newTwin_8 : decode cX5_newTwin 8 = .ok (.arraylength, 1) := by decide +kernel
theorem dX5_newTwin_9 : decode cX5_newTwin 9 = .ok (.anewarray 15, 3) := by decide +kernel
theorem dX5_newTwin_12 : decode cX5_newTwin 12 = .ok (.invokespecial 17, 3) := by decide +kernel
theorem dX5_newTwin_15 : decode cX5_newTwin 15 = .ok (.astore_n 1, 1) := by decide +kernel
theorem dX5_newTwin_16 : decode cX5_newTwin 16 = .ok (.aload_n 0, 1) := by decide +kernel
theorem dX5_newTwin_17 : decode cX5_newTwin 17 = .ok (.aload_n 1, 1) := by decide +kernel
theorem dX5_newTwin_18 : decode cX5_newTwin 18 = .ok (.iconst 0, 1) := by decide +kernel
theorem dX5_newTwin_19 : decode cX5_newTwin 19 = .ok (.iconst 0, 1) := by decide +kernel
theorem dX5_newTwin_20 : decode cX5_newTwin 20 = .ok (.aload_n 0, 1) := by decide +kernel
theorem dX5_newTwin_21 : decode cX5_newTwin 21 = .ok (.getfield 9, 3) := by decide +kernel
theorem dX5_newTwin_24 : decode cX5_newTwin 24 = .ok (.arraylength, 1) := by decide +kernel
theorem dX5_newTwin_25 : decode cX5_newTwin 25 = .ok (.invokevirtual 20, 3) := by decide +kernel
theorem dX5_newTwin_28 : decode cX5_newTwin 28 = .ok (.aload_n 1, 1) := by decide +kernel
theorem dX5_newTwin_29 : decode cX5_newTwin 29 = .ok (.areturn, 1) := by decide +kernel
theorem dX5_passTo_0 : decode cX5_passTo 0 = .ok (.aload_n 1, 1) := by decide +kernel
theorem dX5_passTo_1 : decode cX5_passTo 1 = .ok (.instanceof 10, 3) := by decide +kernel
theorem dX5_passTo_4 : decode cX5_passTo 4 = .ok (.ifCond .eq 77, 3) := by decide +kernel
theorem dX5_passTo_7 : decode cX5_passTo 7 = .ok (.aload_n 1, 1) := by decide +kernel
theorem dX5_passTo_8 : decode cX5_passTo 8 = .ok (.checkcast 10, 3) := by decide +kernel
theorem dX5_passTo_11 : decode cX5_passTo 11 = .ok (.astore 5, 2) := by decide +kernel
theorem dX5_passTo_13 : decode cX5_passTo 13 = .ok (.iload 4, 2) := by decide +kernel
theorem dX5_passTo_15 : decode cX5_passTo 15 = .ok (.anewarray 15, 3) := by decide +kernel
theorem dX5_passTo_18 : decode cX5_passTo 18 = .ok (.astore 6, 2) := by decide +kernel
theorem dX5_passTo_20 : decode cX5_passTo 20 = .ok (.iconst 0, 1) := by decide +kernel
theorem dX5_passTo_21 : decode cX5_passTo 21 = .ok (.istore 7, 2) := by decide +kernel
theorem dX5_passTo_23 : decode cX5_passTo 23 = .ok (.iload 7, 2) := by decide +kernel
theorem dX5_passTo_25 : decode cX5_passTo 25 = .ok (.iload 4, 2) := by decide +kernel
theorem dX5_passTo_27 : decode cX5_passTo 27 = .ok (.if_icmp .ge 23, 3) := by decide +kernel
theorem dX5_passTo_30 : decode cX5_passTo 30 = .ok (.aload 6, 2) := by decide +kernel
theorem dX5_passTo_32 : decode cX5_passTo 32 = .ok (.iload 7, 2) := by decide +kernel
theorem dX5_passTo_34 : decode cX5_passTo 34 = .ok (.aload_n 0, 1) := by decide +kernel
theorem dX5_passTo_35 : decode cX5_passTo 35 = .ok (.getfield 9, 3) := by decide +kernel
theorem dX5_passTo_38 : decode cX5_passTo 38 = .ok (.iload_n 2, 1) := by decide +kernel
theorem dX5_passTo_39 : decode cX5_passTo 39 = .ok (.iload 7, 2) := by decide +kernel
theorem dX5_passTo_41 : decode cX5_passTo 41 = .ok (.iadd, 1) := by decide +kernel
theorem dX5_passTo_42 : decode cX5_passTo 42 = .ok (.aaload, 1) := by decide +kernel
theorem dX5_passTo_43 : decode cX5_passTo 43 = .ok (.aastore, 1) := by decide +kernel
theorem dX5_passTo_44 : decode cX5_passTo 44 = .ok (.iinc 7 1, 3) := by decide +kernel
theorem dX5_passTo_47 : decode cX5_passTo 47 = .ok (.goto (-24), 3) := by decide +kernel
theorem dX5_passTo_50 : decode cX5_passTo 50 = .ok (.iconst 0, 1) := by decide +kernel
theorem dX5_passTo_51 : decode cX5_passTo 51 = .ok (.istore 7, 2) := by decide +kernel
theorem dX5_passTo_53 : decode cX5_passTo 53 = .ok (.iload 7, 2) := by decide +kernel
theorem dX5_passTo_55 : decode cX5_passTo 55 = .ok (.iload 4, 2) := by decide +kernel
theorem dX5_passTo_57 : decode cX5_passTo 57 = .ok (.if_icmp .ge 24, 3) := by decide +kernel
theorem dX5_passTo_60 : decode cX5_passTo 60 = .ok (.aload 5, 2) := by decide +kernel
theorem dX5_passTo_62 : decode cX5_passTo 62 = .ok (.getfield 9, 3) := by decide +kernel
theorem dX5_passTo_65 : decode cX5_passTo 65 = .ok (.iload_n 3, 1) := by decide +kernel
theorem dX5_passTo_66 : decode cX5_passTo 66 = .ok (.iload 7, 2) := by decide +kernel
theorem dX5_passTo_68 : decode cX5_passTo 68 = .ok (.iadd, 1) := by decide +kernel
theorem dX5_passTo_69 : decode cX5_passTo 69 = .ok (.aload 6, 2) := by decide +kernel
theorem dX5_passTo_71 : decode cX5_passTo 71 = .ok (.iload 7, 2) := by decide +kernel
theorem dX5_passTo_73 : decode cX5_passTo 73 = .ok (.aaload, 1) := by decide +kernel
theorem dX5_passTo_74 : decode cX5_passTo 74 = .ok (.aastore, 1) := by decide +kernel
theorem dX5_passTo_75 : decode cX5_passTo 75 = .ok (.iinc 7 1, 3) := by decide +kernel
theorem dX5_passTo_78 : decode cX5_passTo 78 = .ok (.goto (-25), 3) := by decide +kernel
theorem dX5_passTo_81 : decode cX5_passTo 81 = .ok (.return_, 1) := by decide +kernel
set_option maxRecDepth 20000 in
theorem ggX5_newTwin__X5_newTwin : GoodIn wsX5_newTwin_ wsX5_newTwin := goodIn_r _ [5, 6, 7, 4, 8, 9, 10, 11, 12, 13, 14, 15, 16, 17, 18, 19, 20, 21, 22, 23, 24, 25, 26, 27] (by decide +kernel) (by decide +kernel)
set_option maxRecDepth 20000 in
theorem gX5_newTwin__X5_newTwin : GoodIn wsX5_newTwin_ (wsV RX5 24 RX5 yX5_newTwin wsX5_newTwin) := goodIn_app (goodIn_of _ (by decide +kernel)) ggX5_newTwin__X5_newTwin
theorem dX5_newTwin__0 : decode cX5_newTwin_ 0 = .ok (.aload_n 0, 1) := by decide +kernel
theorem dX5_newTwin__1 : decode cX5_newTwin_ 1 = .ok (.invokevirtual 24, 3) := by decide +kernel
theorem dX5_newTwin__4 : decode cX5_newTwin_ 4 = .ok (.areturn, 1) := by decide +kernel
set_option maxRecDepth 20000 in
theorem ggX6_init_X2_init : GoodIn wsX6_init wsX2_init := goodIn_r _ [4, 5, 6, 7, 8, 9, 10, 11, 12, 13] (by decide +kernel) (by decide +kernel)
set_option maxRecDepth 20000 in
theorem gX6_init_X2_init_n3 : GoodIn wsX6_init (wsX2_init) := ggX6_init_X2_init
theorem dX6_init_0 : decode cX6_init 0 = .ok (.aload_n 0, 1) := by decide +kernel
theorem dX6_init_1 : decode cX6_init 1 = .ok (.invokespecial 3, 3) := by decide +kernel
theorem dX6_init_4 : decode cX6_init 4 = .ok (.aload_n 0, 1) := by decide +kernel
theorem dX6_init_5 : decode cX6_init 5 = .ok (.aload_n 1, 1) := by decide +kernel
theorem dX6_init_6 : decode cX6_init 6 = .ok (.putfield 9, 3) := by decide +kernel
theorem dX6_init_9 : decode cX6_init 9 = .ok (.return_, 1) := by decide +kernel
theorem dX6_kind_0 : decode cX6_kind 0 = .ok (.iconst 2, 1) := by decide +kernel
theorem dX6_kind_1 : decode cX6_kind 1 = .ok (.ireturn, 1) := by decide +kernel
theorem dX6_cellCount_0 : decode cX6_cellCount 0 = .ok (.aload_n 0, 1) := by decide +kernel
theorem dX6_cellCount_1 : decode cX6_cellCount 1 = .ok (.getfield 9, 3) := by decide +kernel
theorem dX6_cellCount_4 : decode cX6_cellCount 4 = .ok (.arraylength, 1) := by decide +kernel
theorem dX6_cellCount_5 : decode cX6_cellCount 5 = .ok (.ireturn, 1) := by decide +kernel
theorem dX6_number_0 : decode cX6_number 0 = .ok (.aload_n 0, 1) := by decide +kernel
theorem dX6_number_1 : decode cX6_number 1 = .ok (.getfield 9, 3) := by decide +kernel
theorem dX6_number_4 : decode cX6_number 4 = .ok (.iload_n 1, 1) := by decide +kernel
theorem dX6_number_5 : decode cX6_number 5 = .ok (.caload, 1) := by decide +kernel
theorem dX6_number_6 : decode cX6_number 6 = .ok (.ireturn, 1) := by decide +kernel
theorem dX6_numberWithoutSign_0 : decode cX6_numberWithoutSign 0 = .ok (.aload_n 0, 1) := by decide +kernel
theorem dX6_numberWithoutSign_1 : decode cX6_numberWithoutSign 1 = .ok (.getfield 9, 3) := by decide +kernel
theorem dX6_numberWithoutSign_4 : decode cX6_numberWithoutSign 4 = .ok (.iload_n 1, 1) := by decide +kernel
theorem dX6_numberWithoutSign_5 : decode cX6_numberWithoutSign 5 = .ok (.caload, 1) := by decide +kernel
theorem dX6_numberWithoutSign_6 : decode cX6_numberWithoutSign 6 = .ok (.ireturn, 1) := by decide +kernel
theorem dX6_putNumber_0 : decode cX6_putNumber 0 = .ok (.aload_n 0, 1) := by decide +kernel
theorem dX6_putNumber_1 : decode cX6_putNumber 1 = .ok (.getfield 9, 3) := by decide +kernel
theorem dX6_putNumber_4 : decode cX6_putNumber 4 = .ok (.iload_n 1, 1) := by decide +kernel
theorem dX6_putNumber_5 : decode cX6_putNumber 5 = .ok (.iload_n 2, 1) := by decide +kernel
theorem dX6_putNumber_6 : decode cX6_putNumber 6 = .ok (.i2c, 1) := by decide +kernel
theorem dX6_putNumber_7 : decode cX6_putNumber 7 = .ok (.castore, 1) := by decide +kernel
theorem dX6_putNumber_8 : decode cX6_putNumber 8 = .ok (.return_, 1) := by decide +kernel
set_option maxRecDepth 20000 in
theorem ggX6_isLike_X6_hasAll : GoodIn wsX6_isLike wsX6_hasAll := goodIn_r _ [7, 2, 8] (by decide +kernel) (by decide +kernel)
set_option maxRecDepth 20000 in
theorem gX6_isLike_X6_hasAll : GoodIn wsX6_isLike (wsV RX6 15 RX6 yX6_hasAll wsX6_hasAll) := goodIn_app (goodIn_of _ (by decide +kernel)) ggX6_isLike_X6_hasAll
theorem dX6_isLike_0 : decode cX6_isLike 0 = .ok (.aload_n 1, 1) := by decide +kernel
theorem dX6_isLike_1 : decode cX6_isLike 1 = .ok (.instanceof 10, 3) := by decide +kernel
theorem dX6_isLike_4 : decode cX6_isLike 4 = .ok (.ifCond .eq 21, 3) := by decide +kernel
theorem dX6_isLike_7 : decode cX6_isLike 7 = .ok (.aload_n 0, 1) := by decide +kernel
theorem dX6_isLike_8 : decode cX6_isLike 8 = .ok (.aload_n 1, 1) := by decide +kernel
theorem dX6_isLike_9 : decode cX6_isLike 9 = .ok (.checkcast 10, 3) := by decide +kernel
theorem dX6_isLike_12 : decode cX6_isLike 12 = .ok (.getfield 9, 3) := by decide +kernel
theorem dX6_isLike_15 : decode cX6_isLike 15 = .ok (.invokevirtual 15, 3) := by decide +kernel
theorem dX6_isLike_18 : decode cX6_isLike 18 = .ok (.ifCond .eq 7, 3) := by decide +kernel
theorem dX6_isLike_21 : decode cX6_isLike 21 = .ok (.iconst 1, 1) := by decide +kernel
theorem dX6_isLike_22 : decode cX6_isLike 22 = .ok (.goto 4, 3) := by decide +kernel
theorem dX6_isLike_25 : decode cX6_isLike 25 = .ok (.iconst 0, 1) := by decide +kernel
theorem dX6_isLike_26 : decode cX6_isLike 26 = .ok (.ireturn, 1) := by decide +kernel
theorem dX6_hasAll_0 : decode cX6_hasAll 0 = .ok (.aload_n 0, 1) := by decide +kernel
theorem dX6_hasAll_1 : decode cX6_hasAll 1 = .ok (.getfield 9, 3) := by decide +kernel
theorem dX6_hasAll_4 : decode cX6_hasAll 4 = .ok (.arraylength, 1) := by decide +kernel
theorem dX6_hasAll_5 : decode cX6_hasAll 5 = .ok (.aload_n 1, 1) := by decide +kernel
theorem dX6_hasAll_6 : decode cX6_hasAll 6 = .ok (.arraylength, 1) := by decide +kernel
theorem dX6_hasAll_7 : decode cX6_hasAll 7 = .ok (.if_icmp .eq 5, 3) := by decide +kernel
theorem dX6_hasAll_10 : decode cX6_hasAll 10 = .ok (.iconst 0, 1) := by decide +kernel
theorem dX6_hasAll_11 : decode cX6_hasAll 11 = .ok (.ireturn, 1) := by decide +kernel
theorem dX6_hasAll_12 : decode cX6_hasAll 12 = .ok (.iconst 0, 1) := by decide +kernel
theorem dX6_hasAll_13 : decode cX6_hasAll 13 = .ok (.istore_n 2, 1) := by decide +kernel
theorem dX6_hasAll_14 : decode cX6_hasAll 14 = .ok (.iload_n 2, 1) := by decide +kernel
theorem dX6_hasAll_15 : decode cX6_hasAll 15 = .ok (.aload_n 0, 1) := by decide +kernel
theorem dX6_hasAll_16 : decode cX6_hasAll 16 = .ok (.getfield 9, 3) := by decide +kernel
theorem dX6_hasAll_19 : decode cX6_hasAll 19 = .ok (.arraylength, 1) := by decide +kernel
theorem dX6_hasAll_20 : decode cX6_hasAll 20 = .ok (.if_icmp .ge 23, 3) := by decide +kernel
theorem dX6_hasAll_23 : decode cX6_hasAll 23 = .ok (.aload_n 0, 1) := by decide +kernel
theorem dX6_hasAll_24 : decode cX6_hasAll 24 = .ok (.getfield 9, 3) := by decide +kernel
theorem dX6_hasAll_27 : decode cX6_hasAll 27 = .ok (.iload_n 2, 1) := by decide +kernel
theorem dX6_hasAll_28 : decode cX6_hasAll 28 = .ok (.caload, 1) := by decide +kernel
theorem dX6_hasAll_29 : decode cX6_hasAll 29 = .ok (.aload_n 1, 1) := by decide +kernel
theorem dX6_hasAll_30 : decode cX6_hasAll 30 = .ok (.iload_n 2, 1) := by decide +kernel
theorem dX6_hasAll_31 : decode cX6_hasAll 31 = .ok (.caload, 1) := by decide +kernel
theorem dX6_hasAll_32 : decode cX6_hasAll 32 = .ok (.if_icmp .eq 5, 3) := by decide +kernel
theorem dX6_hasAll_35 : decode cX6_hasAll 35 = .ok (.iconst 0, 1) := by decide +kernel
theorem dX6_hasAll_36 : decode cX6_hasAll 36 = .ok (.ireturn, 1) := by decide +kernel
theorem dX6_hasAll_37 : decode cX6_hasAll 37 = .ok (.iinc 2 1, 3) := by decide +kernel
theorem dX6_hasAll_40 : decode cX6_hasAll 40 = .ok (.goto (-26), 3) := by decide +kernel
theorem dX6_hasAll_43 : decode cX6_hasAll 43 = .ok (.iconst 1, 1) := by decide +kernel
theorem dX6_hasAll_44 : decode cX6_hasAll 44 = .ok (.ireturn, 1) := by decide +kernel
set_option maxRecDepth 20000 in
theorem ggX6_newTwin_X6_init : GoodIn wsX6_newTwin wsX6_init := goodIn_r _ [13, 4, 14, 15, 16, 17, 18, 19, 20, 21, 22, 23, 24, 25, 26] (by decide +kernel) (by decide +kernel)
set_option maxRecDepth 20000 in
theorem gX6_newTwin_X6_init : GoodIn wsX6_newTwin (wsX6_init) := ggX6_newTwin_X6_init
theorem dX6_newTwin_0 : decode cX6_newTwin 0 = .ok (.new 10, 3) := by decide +kernel
theorem dX6_newTwin_3 : decode cX6_newTwin 3 = .ok (.dup, 1) := by decide +kernel
theorem dX6_newTwin_4 : decode cX6_newTwin 4 = .ok (.aload_n 0, 1) := by decide +kernel
theorem dX6_newTwin_5 : decode cX6_newTwin 5 = .ok (.getfield 9, 3) := by decide +kernel
theorem dX6_newTwin_8 : decode cX6_newTwin 8 = .ok (.invokevirtual 19, 3) := by decide +kernel
theorem dX6_newTwin_11 : decode cX6_newTwin 11 = .ok (.checkcast 20, 3) := by decide +kernel
theorem dX6_newTwin_14 : decode cX6_newTwin 14 = .ok (.invokespecial 24, 3) := by decide +kernel
theorem dX6_newTwin_17 : decode cX6_newTwin 17 = .ok (.areturn, 1) := by decide +kernel
theorem dX6_passTo_0 : decode cX6_passTo 0 = .ok (.aload_n 1, 1) := by decide +kernel
theorem dX6_passTo_1 : decode cX6_passTo 1 = .ok (.instanceof 10, 3) := by decide +kernel
theorem dX6_passTo_4 : decode cX6_passTo 4 = .ok (.ifCond .eq 21, 3) := by decide +kernel
theorem dX6_passTo_7 : decode cX6_passTo 7 = .ok (.aload_n 0, 1) := by decide +kernel
theorem dX6_passTo_8 : decode cX6_passTo 8 = .ok (.getfield 9, 3) := by decide +kernel
theorem dX6_passTo_11 : decode cX6_passTo 11 = .ok (.iload_n 2, 1) := by decide +kernel
theorem dX6_passTo_12 : decode cX6_passTo 12 = .ok (.aload_n 1, 1) := by decide +kernel
theorem dX6_passTo_13 : decode cX6_passTo 13 = .ok (.checkcast 10, 3) := by decide +kernel
theorem dX6_passTo_16 : decode cX6_passTo 16 = .ok (.getfield 9, 3) := by decide +kernel
theorem dX6_passTo_19 : decode cX6_passTo 19 = .ok (.iload_n 3, 1) := by decide +kernel
theorem dX6_passTo_20 : decode cX6_passTo 20 = .ok (.iload 4, 2) := by decide +kernel
theorem dX6_passTo_22 : decode cX6_passTo 22 = .ok (.invokestatic 27, 3) := by decide +kernel
theorem dX6_passTo_25 : decode cX6_passTo 25 = .ok (.return_, 1) := by decide +kernel
set_option maxRecDepth 20000 in
theorem ggX6_newTwin__X6_newTwin : GoodIn wsX6_newTwin_ wsX6_newTwin := goodIn_r _ [5, 6, 7, 4, 8, 9, 10, 11, 12, 13, 14, 15, 16, 17, 18, 19, 20, 21, 22, 23, 24, 25, 26, 27, 28, 29, 30] (by decide +kernel) (by decide +kernel)
set_option maxRecDepth 20000 in
theorem gX6_newTwin__X6_newTwin : GoodIn wsX6_newTwin_ (wsV RX6 33 RX6 yX6_newTwin wsX6_newTwin) := goodIn_app (goodIn_of _ (by decide +kernel)) ggX6_newTwin__X6_newTwin
theorem dX6_newTwin__0 : decode cX6_newTwin_ 0 = .ok (.aload_n 0, 1) := by decide +kernel
theorem dX6_newTwin__1 : decode cX6_newTwin_ 1 = .ok (.invokevirtual 33, 3) := by decide +kernel
theorem dX6_newTwin__4 : decode cX6_newTwin_ 4 = .ok (.areturn, 1) := by decide +kernel
set_option maxRecDepth 20000 in
theorem ggX7_init_X8_init : GoodIn wsX7_init wsX8_init := goodIn_r _ [6, 7, 8, 9] (by decide +kernel) (by decide +kernel)
set_option maxRecDepth 20000 in
theorem gX7_init_X8_init_n3 : GoodIn wsX7_init (wsX8_init) := ggX7_init_X8_init
set_option maxRecDepth 20000 in
theorem ggX7_init_X7_emptySlots : GoodIn wsX7_init wsX7_emptySlots := goodIn_r _ [13, 14, 15, 16, 17, 18] (by decide +kernel) (by decide +kernel)
set_option maxRecDepth 20000 in
theorem gX7_init_X7_emptySlots : GoodIn wsX7_init (va_wsS RX7 17 yX7_emptySlots wsX7_emptySlots) := goodIn_app (goodIn_of _ (by decide +kernel)) ggX7_init_X7_emptySlots
theorem dX7_init_0 : decode cX7_init 0 = .ok (.aload_n 0, 1) := by decide +kernel
theorem dX7_init_1 : decode cX7_init 1 = .ok (.invokespecial 3, 3) := by decide +kernel
theorem dX7_init_4 : decode cX7_init 4 = .ok (.aload_n 0, 1) := by decide +kernel
theorem dX7_init_5 : decode cX7_init 5 = .ok (.bipush 100, 2) := by decide +kernel
theorem dX7_init_7 : decode cX7_init 7 = .ok (.anewarray 9, 3) := by decide +kernel
theorem dX7_init_10 : decode cX7_init 10 = .ok (.putfield 11, 3) := by decide +kernel
theorem dX7_init_13 : decode cX7_init 13 = .ok (.aload_n 0, 1) := by decide +kernel
theorem dX7_init_14 : decode cX7_init 14 = .ok (.iload_n 1, 1) := by decide +kernel
theorem dX7_init_15 : decode cX7_init 15 = .ok (.invokestatic 17, 3) := by decide +kernel
theorem dX7_init_18 : decode cX7_init 18 = .ok (.putfield 21, 3) := by decide +kernel
theorem dX7_init_21 : decode cX7_init 21 = .ok (.return_, 1) := by decide +kernel
theorem dX7_kind_0 : decode cX7_kind 0 = .ok (.iconst 4, 1) := by decide +kernel
theorem dX7_kind_1 : decode cX7_kind 1 = .ok (.ireturn, 1) := by decide +kernel
set_option maxRecDepth 20000 in
theorem ggX7_rowFor_X0_newTwin : GoodIn wsX7_rowFor wsX0_newTwin := goodIn_r _ [5, 6, 7, 4, 8, 9, 10, 11, 12, 13, 14, 15, 16, 17, 18, 19, 20, 21, 22, 23, 24, 25, 26, 27, 28, 29, 30] (by decide +kernel) (by decide +kernel)
set_option maxRecDepth 20000 in
theorem gX7_rowFor_X0_newTwin : GoodIn wsX7_rowFor (wsV RX7 25 RX0 yX0_newTwin wsX0_newTwin) := goodIn_app (goodIn_of _ (by decide +kernel)) ggX7_rowFor_X0_newTwin
theorem dX7_rowFor_0 : decode cX7_rowFor 0 = .ok (.aload_n 1, 1) := by decide +kernel
theorem dX7_rowFor_1 : decode cX7_rowFor 1 = .ok (.invokevirtual 25, 3) := by decide +kernel
theorem dX7_rowFor_4 : decode cX7_rowFor 4 = .ok (.areturn, 1) := by decide +kernel
theorem dX7_figure_0 : decode cX7_figure 0 = .ok (.iload_n 1, 1) := by decide +kernel
theorem dX7_figure_1 : decode cX7_figure 1 = .ok (.tableswitch 43 0 2 #[27, 32, 38], 27) := by decide +kernel
theorem dX7_figure_28 : decode cX7_figure 28 = .ok (.aload_n 0, 1) := by decide +kernel
theorem dX7_figure_29 : decode cX7_figure 29 = .ok (.getfield 29, 3) := by decide +kernel
theorem dX7_figure_32 : decode cX7_figure 32 = .ok (.ireturn, 1) := by decide +kernel
theorem dX7_figure_33 : decode cX7_figure 33 = .ok (.aload_n 0, 1) := by decide +kernel
theorem dX7_figure_34 : decode cX7_figure 34 = .ok (.getfield 21, 3) := by decide +kernel
theorem dX7_figure_37 : decode cX7_figure 37 = .ok (.arraylength, 1) := by decide +kernel
theorem dX7_figure_38 : decode cX7_figure 38 = .ok (.ireturn, 1) := by decide +kernel
theorem dX7_figure_39 : decode cX7_figure 39 = .ok (.aload_n 0, 1) := by decide +kernel
theorem dX7_figure_40 : decode cX7_figure 40 = .ok (.getfield 33, 3) := by decide +kernel
theorem dX7_figure_43 : decode cX7_figure 43 = .ok (.ireturn, 1) := by decide +kernel
theorem dX7_figure_44 : decode cX7_figure 44 = .ok (.aload_n 0, 1) := by decide +kernel
theorem dX7_figure_45 : decode cX7_figure 45 = .ok (.getfield 36, 3) := by decide +kernel
theorem dX7_figure_48 : decode cX7_figure 48 = .ok (.ireturn, 1) := by decide +kernel
set_option maxRecDepth 20000 in
theorem ggX7_numberOf_X7_lookFor : GoodIn wsX7_numberOf wsX7_lookFor := goodIn_r _ [7, 8, 1, 9, 10, 11, 12, 13, 6, 14, 15, 16, 17, 18, 19, 20, 21, 22, 23, 24, 25, 26, 27, 28, 29, 30, 31, 32, 33, 34, 35, 36, 37, 38, 39, 40, 41, 42, 43, 44, 45, 46, 47, 48, 49, 50, 51, 52, 53, 54, 55, 56, 57, 58, 61, 62, 63, 64, 65, 66, 67, 68, 69, 70, 71, 72, 73] (by decide +kernel) (by decide +kernel)
set_option maxRecDepth 20000 in
theorem gX7_numberOf_X7_lookFor_u39X1 : GoodIn wsX7_numberOf (va_wsU RX7 39 RX1 "KeptTerms$Table" ⟨"KeptTerms$Table", "lookFor", "(LKeptTerms$Bytes;)I"⟩ yX7_lookFor wsX7_lookFor) := goodIn_app (goodIn_of _ (by decide +kernel)) ggX7_numberOf_X7_lookFor
set_option maxRecDepth 20000 in
theorem gX7_numberOf_X7_lookFor : GoodIn wsX7_numberOf (wsV RX7 39 RX7 yX7_lookFor wsX7_lookFor) := goodIn_app (goodIn_of _ (by decide +kernel)) ggX7_numberOf_X7_lookFor
theorem dX7_numberOf_0 : decode cX7_numberOf 0 = .ok (.aload_n 0, 1) := by decide +kernel
theorem dX7_numberOf_1 : decode cX7_numberOf 1 = .ok (.getfield 21, 3) := by decide +kernel
theorem dX7_numberOf_4 : decode cX7_numberOf 4 = .ok (.aload_n 0, 1) := by decide +kernel
theorem dX7_numberOf_5 : decode cX7_numberOf 5 = .ok (.aload_n 1, 1) := by decide +kernel
theorem dX7_numberOf_6 : decode cX7_numberOf 6 = .ok (.invokevirtual 39, 3) := by decide +kernel
theorem dX7_numberOf_9 : decode cX7_numberOf 9 = .ok (.iaload, 1) := by decide +kernel
theorem dX7_numberOf_10 : decode cX7_numberOf 10 = .ok (.ireturn, 1) := by decide +kernel
set_option maxRecDepth 20000 in
theorem ggX7_admit_X7_lookFor : GoodIn wsX7_admit wsX7_lookFor := goodIn_r _ [9, 10, 1, 3, 11, 12, 13, 14, 8, 15, 16, 17, 18, 19, 20, 21, 22, 23, 24, 25, 26, 27, 28, 29, 30, 31, 32, 33, 34, 35, 36, 37, 38, 39, 40, 41, 42, 43, 44, 45, 46, 47, 48, 49, 50, 51, 52, 53, 54, 55, 56, 57, 58, 59, 141, 142, 143, 144, 145, 146, 147, 148, 149, 150, 151, 152, 153] (by decide +kernel) (by decide +kernel)
set_option maxRecDepth 20000 in
theorem gX7_admit_X7_lookFor_u39X1 : GoodIn wsX7_admit (va_wsU RX7 39 RX1 "KeptTerms$Table" ⟨"KeptTerms$Table", "lookFor", "(LKeptTerms$Bytes;)I"⟩ yX7_lookFor wsX7_lookFor) := goodIn_app (goodIn_of _ (by decide +kernel)) ggX7_admit_X7_lookFor
set_option maxRecDepth 20000 in
theorem gX7_admit_X7_lookFor : GoodIn wsX7_admit (wsV RX7 39 RX7 yX7_lookFor wsX7_lookFor) := goodIn_app (goodIn_of _ (by decide +kernel)) ggX7_admit_X7_lookFor
set_option maxRecDepth 20000 in
theorem ggX7_admit_X1_rowFor : GoodIn wsX7_admit wsX1_rowFor := goodIn_r _ [68, 69, 70, 71, 72, 73, 74, 75, 76, 77, 45, 46, 26, 47, 48, 28, 49, 50, 51, 52, 78, 79, 80, 81, 82, 83, 84, 85, 86, 87, 88, 89, 90, 91, 92, 93, 20, 94, 95, 96, 97, 98, 99, 100, 101, 102, 103, 104, 105, 106, 107, 108, 109, 110, 111, 112, 141, 142, 143, 144, 145, 146, 154, 155, 152] (by decide +kernel) (by decide +kernel)
set_option maxRecDepth 20000 in
theorem gX7_admit_X1_rowFor_u43X1 : GoodIn wsX7_admit (va_wsO RX7 43 RX1 "KeptTerms$Table" ⟨"KeptTerms$Table", "rowFor", "(LKeptTerms$Bytes;)LKeptTerms$Bytes;"⟩ yX1_rowFor wsX1_rowFor) := goodIn_app (goodIn_of _ (by decide +kernel)) ggX7_admit_X1_rowFor
set_option maxRecDepth 20000 in
theorem ggX7_admit_X7_rowFor : GoodIn wsX7_admit wsX7_rowFor := goodIn_r _ [113, 117, 79, 80, 26, 81, 82, 83, 28, 84, 85, 86, 87, 88, 89, 90, 91, 92, 93, 20, 94, 95, 96, 97, 98, 99, 100, 101, 102, 103, 152] (by decide +kernel) (by decide +kernel)
set_option maxRecDepth 20000 in
theorem gX7_admit_X7_rowFor : GoodIn wsX7_admit (wsV RX7 43 RX7 yX7_rowFor wsX7_rowFor) := goodIn_app (goodIn_of _ (by decide +kernel)) ggX7_admit_X7_rowFor
set_option maxRecDepth 20000 in
theorem ggX7_admit_X7_grow : GoodIn wsX7_admit wsX7_grow := goodIn_r _ [122, 1, 123, 2, 3, 124, 125, 8, 126, 127, 128, 129, 130, 131, 132, 133, 134, 135, 136, 11, 12, 13, 14, 15, 16, 17, 18, 19, 20, 21, 22, 23, 24, 25, 26, 27, 28, 29, 30, 31, 32, 33, 34, 35, 36, 37, 38, 39, 40, 41, 42, 43, 53, 54, 55, 56, 57, 58, 59, 137, 138, 141, 142, 143, 144, 145, 146, 147, 148, 149, 150, 151, 152, 153] (by decide +kernel) (by decide +kernel)
set_option maxRecDepth 20000 in
theorem gX7_admit_X7_grow_u47X1 : GoodIn wsX7_admit (va_wsU RX7 47 RX1 "KeptTerms$Table" ⟨"KeptTerms$Table", "grow", "()V"⟩ yX7_grow wsX7_grow) := goodIn_app (goodIn_of _ (by decide +kernel)) ggX7_admit_X7_grow
set_option maxRecDepth 20000 in
theorem gX7_admit_X7_grow : GoodIn wsX7_admit (wsV RX7 47 RX7 yX7_grow wsX7_grow) := goodIn_app (goodIn_of _ (by decide +kernel)) ggX7_admit_X7_grow
theorem dX7_admit_0 : decode cX7_admit 0 = .ok (.aload_n 0, 1) := by decide +kernel
theorem dX7_admit_1 : decode cX7_admit 1 = .ok (.aload_n 1, 1) := by decide +kernel
theorem dX7_admit_2 : decode cX7_admit 2 = .ok (.invokevirtual 39, 3) := by decide +kernel
theorem dX7_admit_5 : decode cX7_admit 5 = .ok (.istore_n 2, 1) := by decide +kernel
theorem dX7_admit_6 : decode cX7_admit 6 = .ok (.aload_n 0, 1) := by decide +kernel
theorem dX7_admit_7 : decode cX7_admit 7 = .ok (.getfield 21, 3) := by decide +kernel
theorem dX7_admit_10 : decode cX7_admit 10 = .ok (.iload_n 2, 1) := by decide +kernel
theorem dX7_admit_11 : decode cX7_admit 11 = .ok (.iaload, 1) := by decide +kernel
theorem dX7_admit_12 : decode cX7_admit 12 = .ok (.bipush (-3), 2) := by decide +kernel
theorem dX7_admit_14 : decode cX7_admit 14 = .ok (.if_icmp .eq 10, 3) := by decide +kernel
theorem dX7_admit_17 : decode cX7_admit 17 = .ok (.aload_n 0, 1) := by decide +kernel
theorem dX7_admit_18 : decode cX7_admit 18 = .ok (.getfield 21, 3) := by decide +kernel
theorem dX7_admit_21 : decode cX7_admit 21 = .ok (.iload_n 2, 1) := by decide +kernel
theorem dX7_admit_22 : decode cX7_admit 22 = .ok (.iaload, 1) := by decide +kernel
theorem dX7_admit_23 : decode cX7_admit 23 = .ok (.ireturn, 1) := by decide +kernel
theorem dX7_admit_24 : decode cX7_admit 24 = .ok (.aload_n 0, 1) := by decide +kernel
theorem dX7_admit_25 : decode cX7_admit 25 = .ok (.getfield 29, 3) := by decide +kernel
theorem dX7_admit_28 : decode cX7_admit 28 = .ok (.bipush 100, 2) := by decide +kernel
theorem dX7_admit_30 : decode cX7_admit 30 = .ok (.if_icmp .lt 6, 3) := by decide +kernel
theorem dX7_admit_33 : decode cX7_admit 33 = .ok (.bipush (-4), 2) := by decide +kernel
theorem dX7_admit_35 : decode cX7_admit 35 = .ok (.ireturn, 1) := by decide +kernel
theorem dX7_admit_36 : decode cX7_admit 36 = .ok (.aload_n 0, 1) := by decide +kernel
theorem dX7_admit_37 : decode cX7_admit 37 = .ok (.aload_n 1, 1) := by decide +kernel
theorem dX7_admit_38 : decode cX7_admit 38 = .ok (.invokevirtual 43, 3) := by decide +kernel
theorem dX7_admit_41 : decode cX7_admit 41 = .ok (.astore_n 3, 1) := by decide +kernel
theorem dX7_admit_42 : decode cX7_admit 42 = .ok (.aload_n 3, 1) := by decide +kernel
theorem dX7_admit_43 : decode cX7_admit 43 = .ok (.ifnonnull 6, 3) := by decide +kernel
theorem dX7_admit_46 : decode cX7_admit 46 = .ok (.bipush (-4), 2) := by decide +kernel
theorem dX7_admit_48 : decode cX7_admit 48 = .ok (.ireturn, 1) := by decide +kernel
theorem dX7_admit_49 : decode cX7_admit 49 = .ok (.aload_n 0, 1) := by decide +kernel
theorem dX7_admit_50 : decode cX7_admit 50 = .ok (.getfield 29, 3) := by decide +kernel
theorem dX7_admit_53 : decode cX7_admit 53 = .ok (.istore 4, 2) := by decide +kernel
theorem dX7_admit_55 : decode cX7_admit 55 = .ok (.aload_n 0, 1) := by decide +kernel
theorem dX7_admit_56 : decode cX7_admit 56 = .ok (.getfield 11, 3) := by decide +kernel
theorem dX7_admit_59 : decode cX7_admit 59 = .ok (.iload 4, 2) := by decide +kernel
theorem dX7_admit_61 : decode cX7_admit 61 = .ok (.aload_n 3, 1) := by decide +kernel
theorem dX7_admit_62 : decode cX7_admit 62 = .ok (.aastore, 1) := by decide +kernel
theorem dX7_admit_63 : decode cX7_admit 63 = .ok (.aload_n 0, 1) := by decide +kernel
theorem dX7_admit_64 : decode cX7_admit 64 = .ok (.getfield 21, 3) := by decide +kernel
theorem dX7_admit_67 : decode cX7_admit 67 = .ok (.iload_n 2, 1) := by decide +kernel
theorem dX7_admit_68 : decode cX7_admit 68 = .ok (.iload 4, 2) := by decide +kernel
theorem dX7_admit_70 : decode cX7_admit 70 = .ok (.iastore, 1) := by decide +kernel
theorem dX7_admit_71 : decode cX7_admit 71 = .ok (.aload_n 0, 1) := by decide +kernel
theorem dX7_admit_72 : decode cX7_admit 72 = .ok (.dup, 1) := by decide +kernel
theorem dX7_admit_73 : decode cX7_admit 73 = .ok (.getfield 29, 3) := by decide +kernel
theorem dX7_admit_76 : decode cX7_admit 76 = .ok (.iconst 1, 1) := by decide +kernel
theorem dX7_admit_77 : decode cX7_admit 77 = .ok (.iadd, 1) := by decide +kernel
theorem dX7_admit_78 : decode cX7_admit 78 = .ok (.putfield 29, 3) := by decide +kernel
theorem dX7_admit_81 : decode cX7_admit 81 = .ok (.iconst 4, 1) := by decide +kernel
theorem dX7_admit_82 : decode cX7_admit 82 = .ok (.aload_n 0, 1) := by decide +kernel
theorem dX7_admit_83 : decode cX7_admit 83 = .ok (.getfield 29, 3) := by decide +kernel
theorem dX7_admit_86 : decode cX7_admit 86 = .ok (.imul, 1) := by decide +kernel
theorem dX7_admit_87 : decode cX7_admit 87 = .ok (.iconst 3, 1) := by decide +kernel
theorem dX7_admit_88 : decode cX7_admit 88 = .ok (.aload_n 0, 1) := by decide +kernel
theorem dX7_admit_89 : decode cX7_admit 89 = .ok (.getfield 21, 3) := by decide +kernel
theorem dX7_admit_92 : decode cX7_admit 92 = .ok (.arraylength, 1) := by decide +kernel
theorem dX7_admit_93 : decode cX7_admit 93 = .ok (.imul, 1) := by decide +kernel
theorem dX7_admit_94 : decode cX7_admit 94 = .ok (.if_icmp .le 7, 3) := by decide +kernel
theorem dX7_admit_97 : decode cX7_admit 97 = .ok (.aload_n 0, 1) := by decide +kernel
theorem dX7_admit_98 : decode cX7_admit 98 = .ok (.invokevirtual 47, 3) := by decide +kernel
theorem dX7_admit_101 : decode cX7_admit 101 = .ok (.iload 4, 2) := by decide +kernel
theorem dX7_admit_103 : decode cX7_admit 103 = .ok (.ireturn, 1) := by decide +kernel
set_option maxRecDepth 20000 in
theorem ggX7_rankInto_X0_against : GoodIn wsX7_rankInto wsX0_against := goodIn_r _ [11, 12, 13, 14, 15, 16, 17, 18, 19, 20, 32] (by decide +kernel) (by decide +kernel)
set_option maxRecDepth 20000 in
theorem gX7_rankInto_X0_against : GoodIn wsX7_rankInto (wsV RX7 50 RX0 yX0_against wsX0_against) := goodIn_app (goodIn_of _ (by decide +kernel)) ggX7_rankInto_X0_against
theorem dX7_rankInto_0 : decode cX7_rankInto 0 = .ok (.iconst 0, 1) := by decide +kernel
theorem dX7_rankInto_1 : decode cX7_rankInto 1 = .ok (.istore_n 2, 1) := by decide +kernel
theorem dX7_rankInto_2 : decode cX7_rankInto 2 = .ok (.iload_n 2, 1) := by decide +kernel
theorem dX7_rankInto_3 : decode cX7_rankInto 3 = .ok (.aload_n 0, 1) := by decide +kernel
theorem dX7_rankInto_4 : decode cX7_rankInto 4 = .ok (.getfield 29, 3) := by decide +kernel
theorem dX7_rankInto_7 : decode cX7_rankInto 7 = .ok (.if_icmp .ge 80, 3) := by decide +kernel
theorem dX7_rankInto_10 : decode cX7_rankInto 10 = .ok (.iconst 0, 1) := by decide +kernel
theorem dX7_rankInto_11 : decode cX7_rankInto 11 = .ok (.istore_n 3, 1) := by decide +kernel
theorem dX7_rankInto_12 : decode cX7_rankInto 12 = .ok (.iload_n 2, 1) := by decide +kernel
theorem dX7_rankInto_13 : decode cX7_rankInto 13 = .ok (.istore 4, 2) := by decide +kernel
theorem dX7_rankInto_15 : decode cX7_rankInto 15 = .ok (.iload_n 3, 1) := by decide +kernel
theorem dX7_rankInto_16 : decode cX7_rankInto 16 = .ok (.iload 4, 2) := by decide +kernel
theorem dX7_rankInto_18 : decode cX7_rankInto 18 = .ok (.if_icmp .ge 47, 3) := by decide +kernel
theorem dX7_rankInto_21 : decode cX7_rankInto 21 = .ok (.iload_n 3, 1) := by decide +kernel
theorem dX7_rankInto_22 : decode cX7_rankInto 22 = .ok (.iload 4, 2) := by decide +kernel
theorem dX7_rankInto_24 : decode cX7_rankInto 24 = .ok (.iadd, 1) := by decide +kernel
theorem dX7_rankInto_25 : decode cX7_rankInto 25 = .ok (.iconst 2, 1) := by decide +kernel
theorem dX7_rankInto_26 : decode cX7_rankInto 26 = .ok (.idiv, 1) := by decide +kernel
theorem dX7_rankInto_27 : decode cX7_rankInto 27 = .ok (.istore 5, 2) := by decide +kernel
theorem dX7_rankInto_29 : decode cX7_rankInto 29 = .ok (.aload_n 0, 1) := by decide +kernel
theorem dX7_rankInto_30 : decode cX7_rankInto 30 = .ok (.getfield 11, 3) := by decide +kernel
theorem dX7_rankInto_33 : decode cX7_rankInto 33 = .ok (.aload_n 1, 1) := by decide +kernel
theorem dX7_rankInto_34 : decode cX7_rankInto 34 = .ok (.iload 5, 2) := by decide +kernel
theorem dX7_rankInto_36 : decode cX7_rankInto 36 = .ok (.iaload, 1) := by decide +kernel
theorem dX7_rankInto_37 : decode cX7_rankInto 37 = .ok (.aaload, 1) := by decide +kernel
theorem dX7_rankInto_38 : decode cX7_rankInto 38 = .ok (.aload_n 0, 1) := by decide +kernel
theorem dX7_rankInto_39 : decode cX7_rankInto 39 = .ok (.getfield 11, 3) := by decide +kernel
theorem dX7_rankInto_42 : decode cX7_rankInto 42 = .ok (.iload_n 2, 1) := by decide +kernel
theorem dX7_rankInto_43 : decode cX7_rankInto 43 = .ok (.aaload, 1) := by decide +kernel
theorem dX7_rankInto_44 : decode cX7_rankInto 44 = .ok (.invokevirtual 50, 3) := by decide +kernel
theorem dX7_rankInto_47 : decode cX7_rankInto 47 = .ok (.ifCond .le 10, 3) := by decide +kernel
theorem dX7_rankInto_50 : decode cX7_rankInto 50 = .ok (.iload 5, 2) := by decide +kernel
theorem dX7_rankInto_52 : decode cX7_rankInto 52 = .ok (.istore 4, 2) := by decide +kernel
theorem dX7_rankInto_54 : decode cX7_rankInto 54 = .ok (.goto 8, 3) := by decide +kernel
theorem dX7_rankInto_57 : decode cX7_rankInto 57 = .ok (.iload 5, 2) := by decide +kernel
theorem dX7_rankInto_59 : decode cX7_rankInto 59 = .ok (.iconst 1, 1) := by decide +kernel
theorem dX7_rankInto_60 : decode cX7_rankInto 60 = .ok (.iadd, 1) := by decide +kernel
theorem dX7_rankInto_61 : decode cX7_rankInto 61 = .ok (.istore_n 3, 1) := by decide +kernel
theorem dX7_rankInto_62 : decode cX7_rankInto 62 = .ok (.goto (-47), 3) := by decide +kernel
theorem dX7_rankInto_65 : decode cX7_rankInto 65 = .ok (.aload_n 1, 1) := by decide +kernel
theorem dX7_rankInto_66 : decode cX7_rankInto 66 = .ok (.iload_n 3, 1) := by decide +kernel
theorem dX7_rankInto_67 : decode cX7_rankInto 67 = .ok (.aload_n 1, 1) := by decide +kernel
theorem dX7_rankInto_68 : decode cX7_rankInto 68 = .ok (.iload_n 3, 1) := by decide +kernel
theorem dX7_rankInto_69 : decode cX7_rankInto 69 = .ok (.iconst 1, 1) := by decide +kernel
theorem dX7_rankInto_70 : decode cX7_rankInto 70 = .ok (.iadd, 1) := by decide +kernel
theorem dX7_rankInto_71 : decode cX7_rankInto 71 = .ok (.iload_n 2, 1) := by decide +kernel
theorem dX7_rankInto_72 : decode cX7_rankInto 72 = .ok (.iload_n 3, 1) := by decide +kernel
theorem dX7_rankInto_73 : decode cX7_rankInto 73 = .ok (.isub, 1) := by decide +kernel
theorem dX7_rankInto_74 : decode cX7_rankInto 74 = .ok (.invokestatic 53, 3) := by decide +kernel
theorem dX7_rankInto_77 : decode cX7_rankInto 77 = .ok (.aload_n 1, 1) := by decide +kernel
theorem dX7_rankInto_78 : decode cX7_rankInto 78 = .ok (.iload_n 3, 1) := by decide +kernel
theorem dX7_rankInto_79 : decode cX7_rankInto 79 = .ok (.iload_n 2, 1) := by decide +kernel
theorem dX7_rankInto_80 : decode cX7_rankInto 80 = .ok (.iastore, 1) := by decide +kernel
theorem dX7_rankInto_81 : decode cX7_rankInto 81 = .ok (.iinc 2 1, 3) := by decide +kernel
theorem dX7_rankInto_84 : decode cX7_rankInto 84 = .ok (.goto (-82), 3) := by decide +kernel
theorem dX7_rankInto_87 : decode cX7_rankInto 87 = .ok (.return_, 1) := by decide +kernel
set_option maxRecDepth 20000 in
theorem ggX7_emptySlots_J7_fill_53178 : GoodIn wsX7_emptySlots wsJ7_fill_53178 := goodIn_r _ [5] (by decide +kernel) (by decide +kernel)
set_option maxRecDepth 20000 in
theorem gX7_emptySlots_J7_fill_53178 : GoodIn wsX7_emptySlots (va_wsS RX7 59 yJ7_fill_53178 wsJ7_fill_53178) := goodIn_app (goodIn_of _ (by decide +kernel)) ggX7_emptySlots_J7_fill_53178
theorem dX7_emptySlots_0 : decode cX7_emptySlots 0 = .ok (.iload_n 0, 1) := by decide +kernel
theorem dX7_emptySlots_1 : decode cX7_emptySlots 1 = .ok (.newarray .int, 2) := by decide +kernel
theorem dX7_emptySlots_3 : decode cX7_emptySlots 3 = .ok (.astore_n 1, 1) := by decide +kernel
theorem dX7_emptySlots_4 : decode cX7_emptySlots 4 = .ok (.aload_n 1, 1) := by decide +kernel
theorem dX7_emptySlots_5 : decode cX7_emptySlots 5 = .ok (.bipush (-3), 2) := by decide +kernel
theorem dX7_emptySlots_7 : decode cX7_emptySlots 7 = .ok (.invokestatic 59, 3) := by decide +kernel
theorem dX7_emptySlots_10 : decode cX7_emptySlots 10 = .ok (.aload_n 1, 1) := by decide +kernel
theorem dX7_emptySlots_11 : decode cX7_emptySlots 11 = .ok (.areturn, 1) := by decide +kernel
set_option maxRecDepth 20000 in
theorem ggX7_firstSlot_X2_contentHash : GoodIn wsX7_firstSlot wsX2_contentHash := goodIn_r _ [7, 8, 9, 10, 11, 12, 13, 14, 15, 16, 17, 18, 19, 20, 21, 22, 23, 24, 25, 26, 27, 39, 40] (by decide +kernel) (by decide +kernel)
set_option maxRecDepth 20000 in
theorem gX7_firstSlot_X2_contentHash_u65X0 : GoodIn wsX7_firstSlot (va_wsU RX7 65 RX0 "KeptTerms$Numbers" ⟨"KeptTerms$Bytes", "contentHash", "()I"⟩ yX2_contentHash wsX2_contentHash) := goodIn_app (goodIn_of _ (by decide +kernel)) ggX7_firstSlot_X2_contentHash
theorem dX7_firstSlot_0 : decode cX7_firstSlot 0 = .ok (.aload_n 1, 1) := by decide +kernel
theorem dX7_firstSlot_1 : decode cX7_firstSlot 1 = .ok (.invokevirtual 65, 3) := by decide +kernel
theorem dX7_firstSlot_4 : decode cX7_firstSlot 4 = .ok (.istore_n 2, 1) := by decide +kernel
theorem dX7_firstSlot_5 : decode cX7_firstSlot 5 = .ok (.iload_n 2, 1) := by decide +kernel
theorem dX7_firstSlot_6 : decode cX7_firstSlot 6 = .ok (.iload_n 2, 1) := by decide +kernel
theorem dX7_firstSlot_7 : decode cX7_firstSlot 7 = .ok (.bipush 16, 2) := by decide +kernel
theorem dX7_firstSlot_9 : decode cX7_firstSlot 9 = .ok (.iushr, 1) := by decide +kernel
theorem dX7_firstSlot_10 : decode cX7_firstSlot 10 = .ok (.ixor, 1) := by decide +kernel
theorem dX7_firstSlot_11 : decode cX7_firstSlot 11 = .ok (.aload_n 0, 1) := by decide +kernel
theorem dX7_firstSlot_12 : decode cX7_firstSlot 12 = .ok (.getfield 21, 3) := by decide +kernel
theorem dX7_firstSlot_15 : decode cX7_firstSlot 15 = .ok (.arraylength, 1) := by decide +kernel
theorem dX7_firstSlot_16 : decode cX7_firstSlot 16 = .ok (.iconst 1, 1) := by decide +kernel
theorem dX7_firstSlot_17 : decode cX7_firstSlot 17 = .ok (.isub, 1) := by decide +kernel
theorem dX7_firstSlot_18 : decode cX7_firstSlot 18 = .ok (.iand, 1) := by decide +kernel
theorem dX7_firstSlot_19 : decode cX7_firstSlot 19 = .ok (.ireturn, 1) := by decide +kernel
theorem dX7_nextSlot_0 : decode cX7_nextSlot 0 = .ok (.iload_n 1, 1) := by decide +kernel
theorem dX7_nextSlot_1 : decode cX7_nextSlot 1 = .ok (.iconst 1, 1) := by decide +kernel
theorem dX7_nextSlot_2 : decode cX7_nextSlot 2 = .ok (.iadd, 1) := by decide +kernel
theorem dX7_nextSlot_3 : decode cX7_nextSlot 3 = .ok (.aload_n 0, 1) := by decide +kernel
theorem dX7_nextSlot_4 : decode cX7_nextSlot 4 = .ok (.getfield 21, 3) := by decide +kernel
theorem dX7_nextSlot_7 : decode cX7_nextSlot 7 = .ok (.arraylength, 1) := by decide +kernel
theorem dX7_nextSlot_8 : decode cX7_nextSlot 8 = .ok (.iconst 1, 1) := by decide +kernel
theorem dX7_nextSlot_9 : decode cX7_nextSlot 9 = .ok (.isub, 1) := by decide +kernel
theorem dX7_nextSlot_10 : decode cX7_nextSlot 10 = .ok (.iand, 1) := by decide +kernel
theorem dX7_nextSlot_11 : decode cX7_nextSlot 11 = .ok (.ireturn, 1) := by decide +kernel
set_option maxRecDepth 20000 in
theorem ggX7_lookFor_X7_firstSlot : GoodIn wsX7_lookFor wsX7_firstSlot := goodIn_r _ [9, 2, 10, 11, 12, 13, 14, 15, 16, 17, 18, 19, 20, 21, 22, 23, 24, 25, 26, 27, 28, 29, 30, 31, 32, 33, 34, 35, 54, 55, 56, 57, 58, 59, 60, 61, 62, 63, 64, 65, 66] (by decide +kernel) (by decide +kernel)
set_option maxRecDepth 20000 in
theorem gX7_lookFor_X7_firstSlot_u69X1 : GoodIn wsX7_lookFor (va_wsU RX7 69 RX1 "KeptTerms$Table" ⟨"KeptTerms$Table", "firstSlot", "(LKeptTerms$Bytes;)I"⟩ yX7_firstSlot wsX7_firstSlot) := goodIn_app (goodIn_of _ (by decide +kernel)) ggX7_lookFor_X7_firstSlot
set_option maxRecDepth 20000 in
theorem gX7_lookFor_X7_firstSlot : GoodIn wsX7_lookFor (wsV RX7 69 RX7 yX7_firstSlot wsX7_firstSlot) := goodIn_app (goodIn_of _ (by decide +kernel)) ggX7_lookFor_X7_firstSlot
set_option maxRecDepth 20000 in
theorem ggX7_lookFor_X0_isLike : GoodIn wsX7_lookFor wsX0_isLike := goodIn_r _ [41, 42, 22, 43, 44, 45, 20, 46, 65] (by decide +kernel) (by decide +kernel)
set_option maxRecDepth 20000 in
theorem gX7_lookFor_X0_isLike : GoodIn wsX7_lookFor (wsV RX7 72 RX0 yX0_isLike wsX0_isLike) := goodIn_app (goodIn_of _ (by decide +kernel)) ggX7_lookFor_X0_isLike
set_option maxRecDepth 20000 in
theorem ggX7_lookFor_X7_nextSlot : GoodIn wsX7_lookFor wsX7_nextSlot := goodIn_r _ [51, 2, 54, 55, 56, 57, 58, 59, 60, 61, 62, 63, 64] (by decide +kernel) (by decide +kernel)
