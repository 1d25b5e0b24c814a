theorem dX10_at_45 : decode cX10_at 45 = .ok (.iload_n 3, 1) := by decide +kernel
theorem dX10_at_46 : decode cX10_at 46 = .ok (.iaload, 1) := by decide +kernel
theorem dX10_at_47 : decode cX10_at 47 = .ok (.goto 9, 3) := by decide +kernel
theorem dX10_at_50 : decode cX10_at 50 = .ok (.aload_n 0, 1) := by decide +kernel
theorem dX10_at_51 : decode cX10_at 51 = .ok (.getfield 33, 3) := by decide +kernel
theorem dX10_at_54 : decode cX10_at 54 = .ok (.iload_n 3, 1) := by decide +kernel
theorem dX10_at_55 : decode cX10_at 55 = .ok (.iaload, 1) := by decide +kernel
theorem dX10_at_56 : decode cX10_at 56 = .ok (.ireturn, 1) := by decide +kernel
set_option maxRecDepth 20000 in
theorem ggX10_length_X10_isPlace : GoodIn wsX10_length wsX10_isPlace := goodIn_r _ [5, 6, 7, 4, 8] (by decide +kernel) (by decide +kernel)
set_option maxRecDepth 20000 in
theorem gX10_length_X10_isPlace : GoodIn wsX10_length (va_wsS RX10 86 yX10_isPlace wsX10_isPlace) := goodIn_app (goodIn_of _ (by decide +kernel)) ggX10_length_X10_isPlace
set_option maxRecDepth 20000 in
theorem ggX10_length_X10_in : GoodIn wsX10_length wsX10_in := goodIn_r _ [8] (by decide +kernel) (by decide +kernel)
set_option maxRecDepth 20000 in
theorem gX10_length_X10_in : GoodIn wsX10_length (va_wsS RX10 70 yX10_in wsX10_in) := goodIn_app (goodIn_of _ (by decide +kernel)) ggX10_length_X10_in
set_option maxRecDepth 20000 in
theorem ggX10_length_X10_castFault : GoodIn wsX10_length wsX10_castFault := goodIn_r _ [12, 13, 14, 15, 16, 4, 17, 31, 32, 33, 34, 35, 36, 37, 38, 39, 40, 41, 42, 43, 44, 45, 46, 47, 48, 49, 50, 51, 52, 53, 54, 55, 56] (by decide +kernel) (by decide +kernel)
set_option maxRecDepth 20000 in
theorem gX10_length_X10_castFault : GoodIn wsX10_length (wsV RX10 110 RX10 yX10_castFault wsX10_castFault) := goodIn_app (goodIn_of _ (by decide +kernel)) ggX10_length_X10_castFault
set_option maxRecDepth 20000 in
theorem ggX10_length_X10_fails : GoodIn wsX10_length wsX10_fails := goodIn_r _ [21, 22, 31, 32, 33, 34, 35, 36, 37, 38, 39, 40, 41, 42, 43, 44, 45, 46, 47, 48, 49, 50, 51, 52, 53, 54, 55, 56] (by decide +kernel) (by decide +kernel)
set_option maxRecDepth 20000 in
theorem gX10_length_X10_fails : GoodIn wsX10_length (wsV RX10 90 RX10 yX10_fails wsX10_fails) := goodIn_app (goodIn_of _ (by decide +kernel)) ggX10_length_X10_fails
set_option maxRecDepth 20000 in
theorem ggX10_length_X10_longOf : GoodIn wsX10_length wsX10_longOf := goodIn_r _ [26, 27, 13, 28, 29, 30, 31, 32, 33, 34, 35, 36, 37, 38, 39, 40, 41, 42, 43, 44, 45, 46, 47, 48, 49, 50, 51, 52, 53, 54, 55, 56] (by decide +kernel) (by decide +kernel)
set_option maxRecDepth 20000 in
theorem gX10_length_X10_longOf : GoodIn wsX10_length (wsV RX10 114 RX10 yX10_longOf wsX10_longOf) := goodIn_app (goodIn_of _ (by decide +kernel)) ggX10_length_X10_longOf
theorem dX10_length_0 : decode cX10_length 0 = .ok (.aload_n 0, 1) := by decide +kernel
theorem dX10_length_1 : decode cX10_length 1 = .ok (.iconst 0, 1) := by decide +kernel
theorem dX10_length_2 : decode cX10_length 2 = .ok (.putfield 66, 3) := by decide +kernel
theorem dX10_length_5 : decode cX10_length 5 = .ok (.iload_n 1, 1) := by decide +kernel
theorem dX10_length_6 : decode cX10_length 6 = .ok (.invokestatic 86, 3) := by decide +kernel
theorem dX10_length_9 : decode cX10_length 9 = .ok (.ifCond .ne 5, 3) := by decide +kernel
theorem dX10_length_12 : decode cX10_length 12 = .ok (.iconst (-1), 1) := by decide +kernel
theorem dX10_length_13 : decode cX10_length 13 = .ok (.ireturn, 1) := by decide +kernel
theorem dX10_length_14 : decode cX10_length 14 = .ok (.iload_n 2, 1) := by decide +kernel
theorem dX10_length_15 : decode cX10_length 15 = .ok (.iconst 1, 1) := by decide +kernel
theorem dX10_length_16 : decode cX10_length 16 = .ok (.iconst 3, 1) := by decide +kernel
theorem dX10_length_17 : decode cX10_length 17 = .ok (.invokestatic 70, 3) := by decide +kernel
theorem dX10_length_20 : decode cX10_length 20 = .ok (.ifCond .ne 6, 3) := by decide +kernel
theorem dX10_length_23 : decode cX10_length 23 = .ok (.bipush (-2), 2) := by decide +kernel
theorem dX10_length_25 : decode cX10_length 25 = .ok (.ireturn, 1) := by decide +kernel
theorem dX10_length_26 : decode cX10_length 26 = .ok (.aload_n 0, 1) := by decide +kernel
theorem dX10_length_27 : decode cX10_length 27 = .ok (.iload_n 1, 1) := by decide +kernel
theorem dX10_length_28 : decode cX10_length 28 = .ok (.iload_n 2, 1) := by decide +kernel
theorem dX10_length_29 : decode cX10_length 29 = .ok (.invokevirtual 110, 3) := by decide +kernel
theorem dX10_length_32 : decode cX10_length 32 = .ok (.istore_n 3, 1) := by decide +kernel
theorem dX10_length_33 : decode cX10_length 33 = .ok (.iload_n 3, 1) := by decide +kernel
theorem dX10_length_34 : decode cX10_length 34 = .ok (.ifCond .le 11, 3) := by decide +kernel
theorem dX10_length_37 : decode cX10_length 37 = .ok (.aload_n 0, 1) := by decide +kernel
theorem dX10_length_38 : decode cX10_length 38 = .ok (.iload_n 3, 1) := by decide +kernel
theorem dX10_length_39 : decode cX10_length 39 = .ok (.invokevirtual 90, 3) := by decide +kernel
theorem dX10_length_42 : decode cX10_length 42 = .ok (.goto 8, 3) := by decide +kernel
theorem dX10_length_45 : decode cX10_length 45 = .ok (.aload_n 0, 1) := by decide +kernel
theorem dX10_length_46 : decode cX10_length 46 = .ok (.iload_n 1, 1) := by decide +kernel
theorem dX10_length_47 : decode cX10_length 47 = .ok (.invokevirtual 114, 3) := by decide +kernel
theorem dX10_length_50 : decode cX10_length 50 = .ok (.ireturn, 1) := by decide +kernel
set_option maxRecDepth 20000 in
theorem ggX10_get_X10_isPlace : GoodIn wsX10_get wsX10_isPlace := goodIn_r _ [6, 7, 8, 5, 9] (by decide +kernel) (by decide +kernel)
set_option maxRecDepth 20000 in
theorem gX10_get_X10_isPlace : GoodIn wsX10_get (va_wsS RX10 86 yX10_isPlace wsX10_isPlace) := goodIn_app (goodIn_of _ (by decide +kernel)) ggX10_get_X10_isPlace
set_option maxRecDepth 20000 in
theorem ggX10_get_X10_in : GoodIn wsX10_get wsX10_in := goodIn_r _ [9] (by decide +kernel) (by decide +kernel)
set_option maxRecDepth 20000 in
theorem gX10_get_X10_in : GoodIn wsX10_get (va_wsS RX10 70 yX10_in wsX10_in) := goodIn_app (goodIn_of _ (by decide +kernel)) ggX10_get_X10_in
set_option maxRecDepth 20000 in
theorem ggX10_get_X10_castFault : GoodIn wsX10_get wsX10_castFault := goodIn_r _ [13, 14, 15, 16, 17, 5, 18, 39, 40, 41, 42, 43, 44, 45, 46, 47, 48, 49, 50, 51, 52, 53, 54, 55, 56, 57, 58, 59, 60, 61, 62, 63, 64] (by decide +kernel) (by decide +kernel)
set_option maxRecDepth 20000 in
theorem gX10_get_X10_castFault : GoodIn wsX10_get (wsV RX10 110 RX10 yX10_castFault wsX10_castFault) := goodIn_app (goodIn_of _ (by decide +kernel)) ggX10_get_X10_castFault
set_option maxRecDepth 20000 in
theorem ggX10_get_X10_failsLong : GoodIn wsX10_get wsX10_failsLong := goodIn_r _ [22, 23, 2, 39, 40, 41, 42, 43, 44, 45, 46, 47, 48, 49, 50, 51, 52, 53, 54, 55, 56, 57, 58, 59, 60, 61, 62, 63, 64] (by decide +kernel) (by decide +kernel)
set_option maxRecDepth 20000 in
theorem gX10_get_X10_failsLong : GoodIn wsX10_get (wsV RX10 117 RX10 yX10_failsLong wsX10_failsLong) := goodIn_app (goodIn_of _ (by decide +kernel)) ggX10_get_X10_failsLong
set_option maxRecDepth 20000 in
theorem ggX10_get_X10_longOf : GoodIn wsX10_get wsX10_longOf := goodIn_r _ [27, 28, 14, 29, 30, 31, 39, 40, 41, 42, 43, 44, 45, 46, 47, 48, 49, 50, 51, 52, 53, 54, 55, 56, 57, 58, 59, 60, 61, 62, 63, 64] (by decide +kernel) (by decide +kernel)
set_option maxRecDepth 20000 in
theorem gX10_get_X10_longOf : GoodIn wsX10_get (wsV RX10 114 RX10 yX10_longOf wsX10_longOf) := goodIn_app (goodIn_of _ (by decide +kernel)) ggX10_get_X10_longOf
set_option maxRecDepth 20000 in
theorem ggX10_get_X10_at : GoodIn wsX10_get wsX10_at := goodIn_r _ [35, 28, 14, 36, 37, 38, 39, 40, 41, 42, 43, 44, 45, 46, 47, 48, 49, 50, 51, 52, 53, 54, 55, 56, 57, 58, 59, 60, 61, 62, 63, 64] (by decide +kernel) (by decide +kernel)
set_option maxRecDepth 20000 in
theorem gX10_get_X10_at : GoodIn wsX10_get (wsV RX10 121 RX10 yX10_at wsX10_at) := goodIn_app (goodIn_of _ (by decide +kernel)) ggX10_get_X10_at
theorem dX10_get_0 : decode cX10_get 0 = .ok (.aload_n 0, 1) := by decide +kernel
theorem dX10_get_1 : decode cX10_get 1 = .ok (.iconst 0, 1) := by decide +kernel
theorem dX10_get_2 : decode cX10_get 2 = .ok (.putfield 66, 3) := by decide +kernel
theorem dX10_get_5 : decode cX10_get 5 = .ok (.iload_n 1, 1) := by decide +kernel
theorem dX10_get_6 : decode cX10_get 6 = .ok (.invokestatic 86, 3) := by decide +kernel
theorem dX10_get_9 : decode cX10_get 9 = .ok (.ifCond .eq 12, 3) := by decide +kernel
theorem dX10_get_12 : decode cX10_get 12 = .ok (.iload_n 2, 1) := by decide +kernel
theorem dX10_get_13 : decode cX10_get 13 = .ok (.iconst 1, 1) := by decide +kernel
theorem dX10_get_14 : decode cX10_get 14 = .ok (.iconst 2, 1) := by decide +kernel
theorem dX10_get_15 : decode cX10_get 15 = .ok (.invokestatic 70, 3) := by decide +kernel
theorem dX10_get_18 : decode cX10_get 18 = .ok (.ifCond .ne 7, 3) := by decide +kernel
theorem dX10_get_21 : decode cX10_get 21 = .ok (.ldc2_w 77, 3) := by decide +kernel
theorem dX10_get_24 : decode cX10_get 24 = .ok (.lreturn, 1) := by decide +kernel
theorem dX10_get_25 : decode cX10_get 25 = .ok (.aload_n 0, 1) := by decide +kernel
theorem dX10_get_26 : decode cX10_get 26 = .ok (.iload_n 1, 1) := by decide +kernel
theorem dX10_get_27 : decode cX10_get 27 = .ok (.iload_n 2, 1) := by decide +kernel
theorem dX10_get_28 : decode cX10_get 28 = .ok (.invokevirtual 110, 3) := by decide +kernel
theorem dX10_get_31 : decode cX10_get 31 = .ok (.istore 4, 2) := by decide +kernel
theorem dX10_get_33 : decode cX10_get 33 = .ok (.iload 4, 2) := by decide +kernel
theorem dX10_get_35 : decode cX10_get 35 = .ok (.ifCond .le 10, 3) := by decide +kernel
theorem dX10_get_38 : decode cX10_get 38 = .ok (.aload_n 0, 1) := by decide +kernel
theorem dX10_get_39 : decode cX10_get 39 = .ok (.iload 4, 2) := by decide +kernel
theorem dX10_get_41 : decode cX10_get 41 = .ok (.invokevirtual 117, 3) := by decide +kernel
theorem dX10_get_44 : decode cX10_get 44 = .ok (.lreturn, 1) := by decide +kernel
theorem dX10_get_45 : decode cX10_get 45 = .ok (.iload_n 3, 1) := by decide +kernel
theorem dX10_get_46 : decode cX10_get 46 = .ok (.iconst 0, 1) := by decide +kernel
theorem dX10_get_47 : decode cX10_get 47 = .ok (.aload_n 0, 1) := by decide +kernel
theorem dX10_get_48 : decode cX10_get 48 = .ok (.iload_n 1, 1) := by decide +kernel
theorem dX10_get_49 : decode cX10_get 49 = .ok (.invokevirtual 114, 3) := by decide +kernel
theorem dX10_get_52 : decode cX10_get 52 = .ok (.iconst 1, 1) := by decide +kernel
theorem dX10_get_53 : decode cX10_get 53 = .ok (.isub, 1) := by decide +kernel
theorem dX10_get_54 : decode cX10_get 54 = .ok (.invokestatic 70, 3) := by decide +kernel
theorem dX10_get_57 : decode cX10_get 57 = .ok (.ifCond .eq 13, 3) := by decide +kernel
theorem dX10_get_60 : decode cX10_get 60 = .ok (.aload_n 0, 1) := by decide +kernel
theorem dX10_get_61 : decode cX10_get 61 = .ok (.iload_n 1, 1) := by decide +kernel
theorem dX10_get_62 : decode cX10_get 62 = .ok (.iload_n 3, 1) := by decide +kernel
theorem dX10_get_63 : decode cX10_get 63 = .ok (.invokevirtual 121, 3) := by decide +kernel
theorem dX10_get_66 : decode cX10_get 66 = .ok (.i2l, 1) := by decide +kernel
theorem dX10_get_67 : decode cX10_get 67 = .ok (.goto 8, 3) := by decide +kernel
theorem dX10_get_70 : decode cX10_get 70 = .ok (.aload_n 0, 1) := by decide +kernel
theorem dX10_get_71 : decode cX10_get 71 = .ok (.iconst 3, 1) := by decide +kernel
theorem dX10_get_72 : decode cX10_get 72 = .ok (.invokevirtual 117, 3) := by decide +kernel
theorem dX10_get_75 : decode cX10_get 75 = .ok (.lreturn, 1) := by decide +kernel
set_option maxRecDepth 20000 in
theorem ggX10_set_X10_isPlace : GoodIn wsX10_set wsX10_isPlace := goodIn_r _ [9, 10, 11, 8, 12] (by decide +kernel) (by decide +kernel)
set_option maxRecDepth 20000 in
theorem gX10_set_X10_isPlace : GoodIn wsX10_set (va_wsS RX10 86 yX10_isPlace wsX10_isPlace) := goodIn_app (goodIn_of _ (by decide +kernel)) ggX10_set_X10_isPlace
set_option maxRecDepth 20000 in
theorem ggX10_set_X10_in : GoodIn wsX10_set wsX10_in := goodIn_r _ [12] (by decide +kernel) (by decide +kernel)
set_option maxRecDepth 20000 in
theorem gX10_set_X10_in : GoodIn wsX10_set (va_wsS RX10 70 yX10_in wsX10_in) := goodIn_app (goodIn_of _ (by decide +kernel)) ggX10_set_X10_in
set_option maxRecDepth 20000 in
theorem ggX10_set_X10_castFault : GoodIn wsX10_set wsX10_castFault := goodIn_r _ [16, 17, 18, 19, 20, 8, 21, 34, 35, 36, 37, 38, 39, 40, 41, 42, 43, 44, 45, 46, 47, 48, 49, 50, 51, 52, 53, 54, 55, 56, 57, 58, 59] (by decide +kernel) (by decide +kernel)
set_option maxRecDepth 20000 in
theorem gX10_set_X10_castFault : GoodIn wsX10_set (wsV RX10 110 RX10 yX10_castFault wsX10_castFault) := goodIn_app (goodIn_of _ (by decide +kernel)) ggX10_set_X10_castFault
set_option maxRecDepth 20000 in
theorem ggX10_set_X10_longOf : GoodIn wsX10_set wsX10_longOf := goodIn_r _ [25, 3, 17, 26, 27, 28, 34, 35, 36, 37, 38, 39, 40, 41, 42, 43, 44, 45, 46, 47, 48, 49, 50, 51, 52, 53, 54, 55, 56, 57, 58, 59] (by decide +kernel) (by decide +kernel)
set_option maxRecDepth 20000 in
theorem gX10_set_X10_longOf : GoodIn wsX10_set (wsV RX10 114 RX10 yX10_longOf wsX10_longOf) := goodIn_app (goodIn_of _ (by decide +kernel)) ggX10_set_X10_longOf
set_option maxRecDepth 20000 in
theorem ggX10_set_X10_fails : GoodIn wsX10_set wsX10_fails := goodIn_r _ [32, 33, 34, 35, 36, 37, 38, 39, 40, 41, 42, 43, 44, 45, 46, 47, 48, 49, 50, 51, 52, 53, 54, 55, 56, 57, 58, 59] (by decide +kernel) (by decide +kernel)
set_option maxRecDepth 20000 in
theorem gX10_set_X10_fails : GoodIn wsX10_set (wsV RX10 90 RX10 yX10_fails wsX10_fails) := goodIn_app (goodIn_of _ (by decide +kernel)) ggX10_set_X10_fails
theorem dX10_set_0 : decode cX10_set 0 = .ok (.aload_n 0, 1) := by decide +kernel
theorem dX10_set_1 : decode cX10_set 1 = .ok (.iconst 0, 1) := by decide +kernel
theorem dX10_set_2 : decode cX10_set 2 = .ok (.putfield 66, 3) := by decide +kernel
theorem dX10_set_5 : decode cX10_set 5 = .ok (.iload_n 1, 1) := by decide +kernel
theorem dX10_set_6 : decode cX10_set 6 = .ok (.invokestatic 86, 3) := by decide +kernel
theorem dX10_set_9 : decode cX10_set 9 = .ok (.ifCond .ne 5, 3) := by decide +kernel
theorem dX10_set_12 : decode cX10_set 12 = .ok (.iconst (-1), 1) := by decide +kernel
theorem dX10_set_13 : decode cX10_set 13 = .ok (.ireturn, 1) := by decide +kernel
theorem dX10_set_14 : decode cX10_set 14 = .ok (.iload_n 2, 1) := by decide +kernel
theorem dX10_set_15 : decode cX10_set 15 = .ok (.iconst 1, 1) := by decide +kernel
theorem dX10_set_16 : decode cX10_set 16 = .ok (.iconst 2, 1) := by decide +kernel
theorem dX10_set_17 : decode cX10_set 17 = .ok (.invokestatic 70, 3) := by decide +kernel
theorem dX10_set_20 : decode cX10_set 20 = .ok (.ifCond .ne 6, 3) := by decide +kernel
theorem dX10_set_23 : decode cX10_set 23 = .ok (.bipush (-2), 2) := by decide +kernel
theorem dX10_set_25 : decode cX10_set 25 = .ok (.ireturn, 1) := by decide +kernel
theorem dX10_set_26 : decode cX10_set 26 = .ok (.aload_n 0, 1) := by decide +kernel
theorem dX10_set_27 : decode cX10_set 27 = .ok (.iload_n 1, 1) := by decide +kernel
theorem dX10_set_28 : decode cX10_set 28 = .ok (.iload_n 2, 1) := by decide +kernel
theorem dX10_set_29 : decode cX10_set 29 = .ok (.invokevirtual 110, 3) := by decide +kernel
theorem dX10_set_32 : decode cX10_set 32 = .ok (.istore 5, 2) := by decide +kernel
theorem dX10_set_34 : decode cX10_set 34 = .ok (.iload 5, 2) := by decide +kernel
theorem dX10_set_36 : decode cX10_set 36 = .ok (.ifCond .gt 18, 3) := by decide +kernel
theorem dX10_set_39 : decode cX10_set 39 = .ok (.iload_n 3, 1) := by decide +kernel
theorem dX10_set_40 : decode cX10_set 40 = .ok (.iconst 0, 1) := by decide +kernel
theorem dX10_set_41 : decode cX10_set 41 = .ok (.aload_n 0, 1) := by decide +kernel
theorem dX10_set_42 : decode cX10_set 42 = .ok (.iload_n 1, 1) := by decide +kernel
theorem dX10_set_43 : decode cX10_set 43 = .ok (.invokevirtual 114, 3) := by decide +kernel
theorem dX10_set_46 : decode cX10_set 46 = .ok (.iconst 1, 1) := by decide +kernel
theorem dX10_set_47 : decode cX10_set 47 = .ok (.isub, 1) := by decide +kernel
theorem dX10_set_48 : decode cX10_set 48 = .ok (.invokestatic 70, 3) := by decide +kernel
theorem dX10_set_51 : decode cX10_set 51 = .ok (.ifCond .ne 19, 3) := by decide +kernel
theorem dX10_set_54 : decode cX10_set 54 = .ok (.aload_n 0, 1) := by decide +kernel
theorem dX10_set_55 : decode cX10_set 55 = .ok (.iload 5, 2) := by decide +kernel
theorem dX10_set_57 : decode cX10_set 57 = .ok (.ifCond .le 8, 3) := by decide +kernel
theorem dX10_set_60 : decode cX10_set 60 = .ok (.iload 5, 2) := by decide +kernel
theorem dX10_set_62 : decode cX10_set 62 = .ok (.goto 4, 3) := by decide +kernel
theorem dX10_set_65 : decode cX10_set 65 = .ok (.iconst 3, 1) := by decide +kernel
theorem dX10_set_66 : decode cX10_set 66 = .ok (.invokevirtual 90, 3) := by decide +kernel
theorem dX10_set_69 : decode cX10_set 69 = .ok (.ireturn, 1) := by decide +kernel
theorem dX10_set_70 : decode cX10_set 70 = .ok (.iload_n 2, 1) := by decide +kernel
theorem dX10_set_71 : decode cX10_set 71 = .ok (.iconst 1, 1) := by decide +kernel
theorem dX10_set_72 : decode cX10_set 72 = .ok (.if_icmp .ne 25, 3) := by decide +kernel
theorem dX10_set_75 : decode cX10_set 75 = .ok (.aload_n 0, 1) := by decide +kernel
theorem dX10_set_76 : decode cX10_set 76 = .ok (.getfield 21, 3) := by decide +kernel
theorem dX10_set_79 : decode cX10_set 79 = .ok (.bipush 16, 2) := by decide +kernel
theorem dX10_set_81 : decode cX10_set 81 = .ok (.aload_n 0, 1) := by decide +kernel
theorem dX10_set_82 : decode cX10_set 82 = .ok (.getfield 13, 3) := by decide +kernel
theorem dX10_set_85 : decode cX10_set 85 = .ok (.iload_n 1, 1) := by decide +kernel
theorem dX10_set_86 : decode cX10_set 86 = .ok (.iaload, 1) := by decide +kernel
theorem dX10_set_87 : decode cX10_set 87 = .ok (.imul, 1) := by decide +kernel
theorem dX10_set_88 : decode cX10_set 88 = .ok (.iload_n 3, 1) := by decide +kernel
theorem dX10_set_89 : decode cX10_set 89 = .ok (.iadd, 1) := by decide +kernel
theorem dX10_set_90 : decode cX10_set 90 = .ok (.iload 4, 2) := by decide +kernel
theorem dX10_set_92 : decode cX10_set 92 = .ok (.i2b, 1) := by decide +kernel
theorem dX10_set_93 : decode cX10_set 93 = .ok (.iastore, 1) := by decide +kernel
theorem dX10_set_94 : decode cX10_set 94 = .ok (.goto 24, 3) := by decide +kernel
theorem dX10_set_97 : decode cX10_set 97 = .ok (.aload_n 0, 1) := by decide +kernel
theorem dX10_set_98 : decode cX10_set 98 = .ok (.getfield 27, 3) := by decide +kernel
theorem dX10_set_101 : decode cX10_set 101 = .ok (.bipush 16, 2) := by decide +kernel
theorem dX10_set_103 : decode cX10_set 103 = .ok (.aload_n 0, 1) := by decide +kernel
theorem dX10_set_104 : decode cX10_set 104 = .ok (.getfield 13, 3) := by decide +kernel
theorem dX10_set_107 : decode cX10_set 107 = .ok (.iload_n 1, 1) := by decide +kernel
theorem dX10_set_108 : decode cX10_set 108 = .ok (.iaload, 1) := by decide +kernel
theorem dX10_set_109 : decode cX10_set 109 = .ok (.imul, 1) := by decide +kernel
theorem dX10_set_110 : decode cX10_set 110 = .ok (.iload_n 3, 1) := by decide +kernel
theorem dX10_set_111 : decode cX10_set 111 = .ok (.iadd, 1) := by decide +kernel
theorem dX10_set_112 : decode cX10_set 112 = .ok (.iload 4, 2) := by decide +kernel
theorem dX10_set_114 : decode cX10_set 114 = .ok (.ldc 124, 2) := by decide +kernel
theorem dX10_set_116 : decode cX10_set 116 = .ok (.iand, 1) := by decide +kernel
theorem dX10_set_117 : decode cX10_set 117 = .ok (.iastore, 1) := by decide +kernel
theorem dX10_set_118 : decode cX10_set 118 = .ok (.iconst 1, 1) := by decide +kernel
theorem dX10_set_119 : decode cX10_set 119 = .ok (.ireturn, 1) := by decide +kernel
set_option maxRecDepth 20000 in
theorem ggX10_lay_X10_isPlace : GoodIn wsX10_lay wsX10_isPlace := goodIn_r _ [8, 9, 10, 7, 11] (by decide +kernel) (by decide +kernel)
set_option maxRecDepth 20000 in
theorem gX10_lay_X10_isPlace : GoodIn wsX10_lay (va_wsS RX10 86 yX10_isPlace wsX10_isPlace) := goodIn_app (goodIn_of _ (by decide +kernel)) ggX10_lay_X10_isPlace
set_option maxRecDepth 20000 in
theorem ggX10_lay_X10_castFault : GoodIn wsX10_lay wsX10_castFault := goodIn_r _ [15, 4, 16, 17, 18, 7, 19, 32, 33, 34, 35, 36, 37, 38, 39, 40, 41, 42, 43, 44, 45, 46, 47, 48, 49, 50, 51, 52, 53, 54, 55, 56, 57] (by decide +kernel) (by decide +kernel)
set_option maxRecDepth 20000 in
theorem gX10_lay_X10_castFault : GoodIn wsX10_lay (wsV RX10 110 RX10 yX10_castFault wsX10_castFault) := goodIn_app (goodIn_of _ (by decide +kernel)) ggX10_lay_X10_castFault
set_option maxRecDepth 20000 in
theorem ggX10_lay_X10_fails : GoodIn wsX10_lay wsX10_fails := goodIn_r _ [23, 24, 32, 33, 34, 35, 36, 37, 38, 39, 40, 41, 42, 43, 44, 45, 46, 47, 48, 49, 50, 51, 52, 53, 54, 55, 56, 57] (by decide +kernel) (by decide +kernel)
set_option maxRecDepth 20000 in
theorem gX10_lay_X10_fails : GoodIn wsX10_lay (wsV RX10 90 RX10 yX10_fails wsX10_fails) := goodIn_app (goodIn_of _ (by decide +kernel)) ggX10_lay_X10_fails
set_option maxRecDepth 20000 in
theorem ggX10_lay_X10_longOf : GoodIn wsX10_lay wsX10_longOf := goodIn_r _ [28, 3, 4, 29, 30, 31, 32, 33, 34, 35, 36, 37, 38, 39, 40, 41, 42, 43, 44, 45, 46, 47, 48, 49, 50, 51, 52, 53, 54, 55, 56, 57] (by decide +kernel) (by decide +kernel)
set_option maxRecDepth 20000 in
theorem gX10_lay_X10_longOf : GoodIn wsX10_lay (wsV RX10 114 RX10 yX10_longOf wsX10_longOf) := goodIn_app (goodIn_of _ (by decide +kernel)) ggX10_lay_X10_longOf
set_option maxRecDepth 20000 in
theorem ggX10_lay_X10_in : GoodIn wsX10_lay wsX10_in := goodIn_r _ [11] (by decide +kernel) (by decide +kernel)
set_option maxRecDepth 20000 in
theorem gX10_lay_X10_in : GoodIn wsX10_lay (va_wsS RX10 70 yX10_in wsX10_in) := goodIn_app (goodIn_of _ (by decide +kernel)) ggX10_lay_X10_in
theorem dX10_lay_0 : decode cX10_lay 0 = .ok (.aload_n 0, 1) := by decide +kernel
theorem dX10_lay_1 : decode cX10_lay 1 = .ok (.iconst 0, 1) := by decide +kernel
theorem dX10_lay_2 : decode cX10_lay 2 = .ok (.putfield 66, 3) := by decide +kernel
theorem dX10_lay_5 : decode cX10_lay 5 = .ok (.iload_n 1, 1) := by decide +kernel
theorem dX10_lay_6 : decode cX10_lay 6 = .ok (.invokestatic 86, 3) := by decide +kernel
theorem dX10_lay_9 : decode cX10_lay 9 = .ok (.ifCond .eq 10, 3) := by decide +kernel
theorem dX10_lay_12 : decode cX10_lay 12 = .ok (.iload_n 3, 1) := by decide +kernel
theorem dX10_lay_13 : decode cX10_lay 13 = .ok (.invokestatic 86, 3) := by decide +kernel
theorem dX10_lay_16 : decode cX10_lay 16 = .ok (.ifCond .ne 5, 3) := by decide +kernel
theorem dX10_lay_19 : decode cX10_lay 19 = .ok (.iconst (-1), 1) := by decide +kernel
theorem dX10_lay_20 : decode cX10_lay 20 = .ok (.ireturn, 1) := by decide +kernel
theorem dX10_lay_21 : decode cX10_lay 21 = .ok (.aload_n 0, 1) := by decide +kernel
theorem dX10_lay_22 : decode cX10_lay 22 = .ok (.iload_n 1, 1) := by decide +kernel
theorem dX10_lay_23 : decode cX10_lay 23 = .ok (.iconst 3, 1) := by decide +kernel
theorem dX10_lay_24 : decode cX10_lay 24 = .ok (.invokevirtual 110, 3) := by decide +kernel
theorem dX10_lay_27 : decode cX10_lay 27 = .ok (.istore 4, 2) := by decide +kernel
theorem dX10_lay_29 : decode cX10_lay 29 = .ok (.iload 4, 2) := by decide +kernel
theorem dX10_lay_31 : decode cX10_lay 31 = .ok (.iconst 2, 1) := by decide +kernel
theorem dX10_lay_32 : decode cX10_lay 32 = .ok (.if_icmp .eq 13, 3) := by decide +kernel
theorem dX10_lay_35 : decode cX10_lay 35 = .ok (.aload_n 0, 1) := by decide +kernel
theorem dX10_lay_36 : decode cX10_lay 36 = .ok (.iload_n 3, 1) := by decide +kernel
theorem dX10_lay_37 : decode cX10_lay 37 = .ok (.iconst 1, 1) := by decide +kernel
theorem dX10_lay_38 : decode cX10_lay 38 = .ok (.invokevirtual 110, 3) := by decide +kernel
theorem dX10_lay_41 : decode cX10_lay 41 = .ok (.iconst 2, 1) := by decide +kernel
theorem dX10_lay_42 : decode cX10_lay 42 = .ok (.if_icmp .ne 9, 3) := by decide +kernel
theorem dX10_lay_45 : decode cX10_lay 45 = .ok (.aload_n 0, 1) := by decide +kernel
theorem dX10_lay_46 : decode cX10_lay 46 = .ok (.iconst 2, 1) := by decide +kernel
theorem dX10_lay_47 : decode cX10_lay 47 = .ok (.invokevirtual 90, 3) := by decide +kernel
theorem dX10_lay_50 : decode cX10_lay 50 = .ok (.ireturn, 1) := by decide +kernel
theorem dX10_lay_51 : decode cX10_lay 51 = .ok (.iload 4, 2) := by decide +kernel
theorem dX10_lay_53 : decode cX10_lay 53 = .ok (.ifCond .gt 18, 3) := by decide +kernel
theorem dX10_lay_56 : decode cX10_lay 56 = .ok (.iload_n 2, 1) := by decide +kernel
theorem dX10_lay_57 : decode cX10_lay 57 = .ok (.iconst 0, 1) := by decide +kernel
theorem dX10_lay_58 : decode cX10_lay 58 = .ok (.aload_n 0, 1) := by decide +kernel
theorem dX10_lay_59 : decode cX10_lay 59 = .ok (.iload_n 1, 1) := by decide +kernel
theorem dX10_lay_60 : decode cX10_lay 60 = .ok (.invokevirtual 114, 3) := by decide +kernel
theorem dX10_lay_63 : decode cX10_lay 63 = .ok (.iconst 1, 1) := by decide +kernel
theorem dX10_lay_64 : decode cX10_lay 64 = .ok (.isub, 1) := by decide +kernel
theorem dX10_lay_65 : decode cX10_lay 65 = .ok (.invokestatic 70, 3) := by decide +kernel
theorem dX10_lay_68 : decode cX10_lay 68 = .ok (.ifCond .ne 19, 3) := by decide +kernel
theorem dX10_lay_71 : decode cX10_lay 71 = .ok (.aload_n 0, 1) := by decide +kernel
theorem dX10_lay_72 : decode cX10_lay 72 = .ok (.iload 4, 2) := by decide +kernel
theorem dX10_lay_74 : decode cX10_lay 74 = .ok (.ifCond .le 8, 3) := by decide +kernel
theorem dX10_lay_77 : decode cX10_lay 77 = .ok (.iload 4, 2) := by decide +kernel
theorem dX10_lay_79 : decode cX10_lay 79 = .ok (.goto 4, 3) := by decide +kernel
theorem dX10_lay_82 : decode cX10_lay 82 = .ok (.iconst 3, 1) := by decide +kernel
theorem dX10_lay_83 : decode cX10_lay 83 = .ok (.invokevirtual 90, 3) := by decide +kernel
theorem dX10_lay_86 : decode cX10_lay 86 = .ok (.ireturn, 1) := by decide +kernel
theorem dX10_lay_87 : decode cX10_lay 87 = .ok (.aload_n 0, 1) := by decide +kernel
theorem dX10_lay_88 : decode cX10_lay 88 = .ok (.getfield 33, 3) := by decide +kernel
theorem dX10_lay_91 : decode cX10_lay 91 = .ok (.bipush 16, 2) := by decide +kernel
theorem dX10_lay_93 : decode cX10_lay 93 = .ok (.aload_n 0, 1) := by decide +kernel
theorem dX10_lay_94 : decode cX10_lay 94 = .ok (.getfield 13, 3) := by decide +kernel
theorem dX10_lay_97 : decode cX10_lay 97 = .ok (.iload_n 1, 1) := by decide +kernel
theorem dX10_lay_98 : decode cX10_lay 98 = .ok (.iaload, 1) := by decide +kernel
theorem dX10_lay_99 : decode cX10_lay 99 = .ok (.imul, 1) := by decide +kernel
theorem dX10_lay_100 : decode cX10_lay 100 = .ok (.iload_n 2, 1) := by decide +kernel
theorem dX10_lay_101 : decode cX10_lay 101 = .ok (.iadd, 1) := by decide +kernel
theorem dX10_lay_102 : decode cX10_lay 102 = .ok (.aload_n 0, 1) := by decide +kernel
theorem dX10_lay_103 : decode cX10_lay 103 = .ok (.getfield 7, 3) := by decide +kernel
theorem dX10_lay_106 : decode cX10_lay 106 = .ok (.iload_n 3, 1) := by decide +kernel
theorem dX10_lay_107 : decode cX10_lay 107 = .ok (.iaload, 1) := by decide +kernel
theorem dX10_lay_108 : decode cX10_lay 108 = .ok (.ifCond .ne 7, 3) := by decide +kernel
theorem dX10_lay_111 : decode cX10_lay 111 = .ok (.iconst 0, 1) := by decide +kernel
theorem dX10_lay_112 : decode cX10_lay 112 = .ok (.goto 11, 3) := by decide +kernel
theorem dX10_lay_115 : decode cX10_lay 115 = .ok (.aload_n 0, 1) := by decide +kernel
theorem dX10_lay_116 : decode cX10_lay 116 = .ok (.getfield 13, 3) := by decide +kernel
theorem dX10_lay_119 : decode cX10_lay 119 = .ok (.iload_n 3, 1) := by decide +kernel
theorem dX10_lay_120 : decode cX10_lay 120 = .ok (.iaload, 1) := by decide +kernel
theorem dX10_lay_121 : decode cX10_lay 121 = .ok (.iconst 1, 1) := by decide +kernel
theorem dX10_lay_122 : decode cX10_lay 122 = .ok (.iadd, 1) := by decide +kernel
theorem dX10_lay_123 : decode cX10_lay 123 = .ok (.iastore, 1) := by decide +kernel
theorem dX10_lay_124 : decode cX10_lay 124 = .ok (.iconst 1, 1) := by decide +kernel
theorem dX10_lay_125 : decode cX10_lay 125 = .ok (.ireturn, 1) := by decide +kernel
set_option maxRecDepth 20000 in
theorem ggX10_take_X10_isPlace : GoodIn wsX10_take wsX10_isPlace := goodIn_r _ [6, 7, 8, 5, 9] (by decide +kernel) (by decide +kernel)
set_option maxRecDepth 20000 in
theorem gX10_take_X10_isPlace : GoodIn wsX10_take (va_wsS RX10 86 yX10_isPlace wsX10_isPlace) := goodIn_app (goodIn_of _ (by decide +kernel)) ggX10_take_X10_isPlace
set_option maxRecDepth 20000 in
theorem ggX10_take_X10_castFault : GoodIn wsX10_take wsX10_castFault := goodIn_r _ [13, 14, 15, 16, 17, 5, 18, 42, 43, 44, 45, 46, 47, 48, 49, 50, 51, 52, 53, 54, 55, 56, 57, 58, 59, 60, 61, 62, 63, 64, 65, 66, 67] (by decide +kernel) (by decide +kernel)
set_option maxRecDepth 20000 in
theorem gX10_take_X10_castFault : GoodIn wsX10_take (wsV RX10 110 RX10 yX10_castFault wsX10_castFault) := goodIn_app (goodIn_of _ (by decide +kernel)) ggX10_take_X10_castFault
set_option maxRecDepth 20000 in
theorem ggX10_take_X10_longOf : GoodIn wsX10_take wsX10_longOf := goodIn_r _ [22, 23, 14, 2, 24, 25, 42, 43, 44, 45, 46, 47, 48, 49, 50, 51, 52, 53, 54, 55, 56, 57, 58, 59, 60, 61, 62, 63, 64, 65, 66, 67] (by decide +kernel) (by decide +kernel)
set_option maxRecDepth 20000 in
theorem gX10_take_X10_longOf : GoodIn wsX10_take (wsV RX10 114 RX10 yX10_longOf wsX10_longOf) := goodIn_app (goodIn_of _ (by decide +kernel)) ggX10_take_X10_longOf
set_option maxRecDepth 20000 in
theorem ggX10_take_X10_in : GoodIn wsX10_take wsX10_in := goodIn_r _ [9] (by decide +kernel) (by decide +kernel)
set_option maxRecDepth 20000 in
theorem gX10_take_X10_in : GoodIn wsX10_take (va_wsS RX10 70 yX10_in wsX10_in) := goodIn_app (goodIn_of _ (by decide +kernel)) ggX10_take_X10_in
set_option maxRecDepth 20000 in
theorem ggX10_take_X10_fails : GoodIn wsX10_take wsX10_fails := goodIn_r _ [29, 30, 42, 43, 44, 45, 46, 47, 48, 49, 50, 51, 52, 53, 54, 55, 56, 57, 58, 59, 60, 61, 62, 63, 64, 65, 66, 67] (by decide +kernel) (by decide +kernel)
set_option maxRecDepth 20000 in
theorem gX10_take_X10_fails : GoodIn wsX10_take (wsV RX10 90 RX10 yX10_fails wsX10_fails) := goodIn_app (goodIn_of _ (by decide +kernel)) ggX10_take_X10_fails
set_option maxRecDepth 20000 in
theorem ggX10_take_X10_at : GoodIn wsX10_take wsX10_at := goodIn_r _ [34, 23, 14, 35, 36, 37, 42, 43, 44, 45, 46, 47, 48, 49, 50, 51, 52, 53, 54, 55, 56, 57, 58, 59, 60, 61, 62, 63, 64, 65, 66, 67] (by decide +kernel) (by decide +kernel)
set_option maxRecDepth 20000 in
theorem gX10_take_X10_at : GoodIn wsX10_take (wsV RX10 121 RX10 yX10_at wsX10_at) := goodIn_app (goodIn_of _ (by decide +kernel)) ggX10_take_X10_at
set_option maxRecDepth 20000 in
theorem ggX10_take_X10_hold : GoodIn wsX10_take wsX10_hold := goodIn_r _ [41, 14, 23, 42, 43, 44, 45, 46, 47, 48, 49, 50, 51, 52, 53, 54, 55, 56, 57, 58, 59, 60, 61, 62, 63, 64, 65, 66, 67] (by decide +kernel) (by decide +kernel)
set_option maxRecDepth 20000 in
theorem gX10_take_X10_hold : GoodIn wsX10_take (wsV RX10 93 RX10 yX10_hold wsX10_hold) := goodIn_app (goodIn_of _ (by decide +kernel)) ggX10_take_X10_hold
theorem dX10_take_0 : decode cX10_take 0 = .ok (.aload_n 0, 1) := by decide +kernel
theorem dX10_take_1 : decode cX10_take 1 = .ok (.iconst 0, 1) := by decide +kernel
theorem dX10_take_2 : decode cX10_take 2 = .ok (.putfield 66, 3) := by decide +kernel
theorem dX10_take_5 : decode cX10_take 5 = .ok (.iload_n 1, 1) := by decide +kernel
theorem dX10_take_6 : decode cX10_take 6 = .ok (.invokestatic 86, 3) := by decide +kernel
theorem dX10_take_9 : decode cX10_take 9 = .ok (.ifCond .eq 10, 3) := by decide +kernel
theorem dX10_take_12 : decode cX10_take 12 = .ok (.iload_n 2, 1) := by decide +kernel
theorem dX10_take_13 : decode cX10_take 13 = .ok (.invokestatic 86, 3) := by decide +kernel
theorem dX10_take_16 : decode cX10_take 16 = .ok (.ifCond .ne 5, 3) := by decide +kernel
theorem dX10_take_19 : decode cX10_take 19 = .ok (.iconst (-1), 1) := by decide +kernel
theorem dX10_take_20 : decode cX10_take 20 = .ok (.ireturn, 1) := by decide +kernel
theorem dX10_take_21 : decode cX10_take 21 = .ok (.aload_n 0, 1) := by decide +kernel
theorem dX10_take_22 : decode cX10_take 22 = .ok (.iload_n 2, 1) := by decide +kernel
theorem dX10_take_23 : decode cX10_take 23 = .ok (.iconst 3, 1) := by decide +kernel
theorem dX10_take_24 : decode cX10_take 24 = .ok (.invokevirtual 110, 3) := by decide +kernel
theorem dX10_take_27 : decode cX10_take 27 = .ok (.istore 4, 2) := by decide +kernel
theorem dX10_take_29 : decode cX10_take 29 = .ok (.iload 4, 2) := by decide +kernel
theorem dX10_take_31 : decode cX10_take 31 = .ok (.ifCond .gt 18, 3) := by decide +kernel
theorem dX10_take_34 : decode cX10_take 34 = .ok (.iload_n 3, 1) := by decide +kernel
theorem dX10_take_35 : decode cX10_take 35 = .ok (.iconst 0, 1) := by decide +kernel
theorem dX10_take_36 : decode cX10_take 36 = .ok (.aload_n 0, 1) := by decide +kernel
theorem dX10_take_37 : decode cX10_take 37 = .ok (.iload_n 2, 1) := by decide +kernel
theorem dX10_take_38 : decode cX10_take 38 = .ok (.invokevirtual 114, 3) := by decide +kernel
theorem dX10_take_41 : decode cX10_take 41 = .ok (.iconst 1, 1) := by decide +kernel
theorem dX10_take_42 : decode cX10_take 42 = .ok (.isub, 1) := by decide +kernel
theorem dX10_take_43 : decode cX10_take 43 = .ok (.invokestatic 70, 3) := by decide +kernel
theorem dX10_take_46 : decode cX10_take 46 = .ok (.ifCond .ne 19, 3) := by decide +kernel
theorem dX10_take_49 : decode cX10_take 49 = .ok (.aload_n 0, 1) := by decide +kernel
theorem dX10_take_50 : decode cX10_take 50 = .ok (.iload 4, 2) := by decide +kernel
theorem dX10_take_52 : decode cX10_take 52 = .ok (.ifCond .le 8, 3) := by decide +kernel
theorem dX10_take_55 : decode cX10_take 55 = .ok (.iload 4, 2) := by decide +kernel
theorem dX10_take_57 : decode cX10_take 57 = .ok (.goto 4, 3) := by decide +kernel
theorem dX10_take_60 : decode cX10_take 60 = .ok (.iconst 3, 1) := by decide +kernel
theorem dX10_take_61 : decode cX10_take 61 = .ok (.invokevirtual 90, 3) := by decide +kernel
theorem dX10_take_64 : decode cX10_take 64 = .ok (.ireturn, 1) := by decide +kernel
theorem dX10_take_65 : decode cX10_take 65 = .ok (.aload_n 0, 1) := by decide +kernel
theorem dX10_take_66 : decode cX10_take 66 = .ok (.iload_n 2, 1) := by decide +kernel
theorem dX10_take_67 : decode cX10_take 67 = .ok (.iload_n 3, 1) := by decide +kernel
theorem dX10_take_68 : decode cX10_take 68 = .ok (.invokevirtual 121, 3) := by decide +kernel
theorem dX10_take_71 : decode cX10_take 71 = .ok (.istore 5, 2) := by decide +kernel
theorem dX10_take_73 : decode cX10_take 73 = .ok (.aload_n 0, 1) := by decide +kernel
theorem dX10_take_74 : decode cX10_take 74 = .ok (.iload_n 1, 1) := by decide +kernel
theorem dX10_take_75 : decode cX10_take 75 = .ok (.iload 5, 2) := by decide +kernel
theorem dX10_take_77 : decode cX10_take 77 = .ok (.ifCond .ne 7, 3) := by decide +kernel
theorem dX10_take_80 : decode cX10_take 80 = .ok (.iconst 0, 1) := by decide +kernel
theorem dX10_take_81 : decode cX10_take 81 = .ok (.goto 4, 3) := by decide +kernel
theorem dX10_take_84 : decode cX10_take 84 = .ok (.iconst 1, 1) := by decide +kernel
theorem dX10_take_85 : decode cX10_take 85 = .ok (.iload 5, 2) := by decide +kernel
theorem dX10_take_87 : decode cX10_take 87 = .ok (.ifCond .ne 7, 3) := by decide +kernel
theorem dX10_take_90 : decode cX10_take 90 = .ok (.iconst 0, 1) := by decide +kernel
theorem dX10_take_91 : decode cX10_take 91 = .ok (.goto 7, 3) := by decide +kernel
theorem dX10_take_94 : decode cX10_take 94 = .ok (.iload 5, 2) := by decide +kernel
theorem dX10_take_96 : decode cX10_take 96 = .ok (.iconst 1, 1) := by decide +kernel
theorem dX10_take_97 : decode cX10_take 97 = .ok (.isub, 1) := by decide +kernel
theorem dX10_take_98 : decode cX10_take 98 = .ok (.invokevirtual 93, 3) := by decide +kernel
theorem dX10_take_101 : decode cX10_take 101 = .ok (.iload 5, 2) := by decide +kernel
theorem dX10_take_103 : decode cX10_take 103 = .ok (.ifCond .ne 8, 3) := by decide +kernel
theorem dX10_take_106 : decode cX10_take 106 = .ok (.bipush (-3), 2) := by decide +kernel
theorem dX10_take_108 : decode cX10_take 108 = .ok (.goto 12, 3) := by decide +kernel
theorem dX10_take_111 : decode cX10_take 111 = .ok (.aload_n 0, 1) := by decide +kernel
theorem dX10_take_112 : decode cX10_take 112 = .ok (.getfield 17, 3) := by decide +kernel
theorem dX10_take_115 : decode cX10_take 115 = .ok (.iload 5, 2) := by decide +kernel
theorem dX10_take_117 : decode cX10_take 117 = .ok (.iconst 1, 1) := by decide +kernel
theorem dX10_take_118 : decode cX10_take 118 = .ok (.isub, 1) := by decide +kernel
theorem dX10_take_119 : decode cX10_take 119 = .ok (.iaload, 1) := by decide +kernel
theorem dX10_take_120 : decode cX10_take 120 = .ok (.ireturn, 1) := by decide +kernel
set_option maxRecDepth 20000 in
theorem ggX10_cell_X10_isPlace : GoodIn wsX10_cell wsX10_isPlace := goodIn_r _ [8, 9, 10, 7, 11] (by decide +kernel) (by decide +kernel)
set_option maxRecDepth 20000 in
theorem gX10_cell_X10_isPlace : GoodIn wsX10_cell (va_wsS RX10 86 yX10_isPlace wsX10_isPlace) := goodIn_app (goodIn_of _ (by decide +kernel)) ggX10_cell_X10_isPlace
set_option maxRecDepth 20000 in
theorem ggX10_cell_X10_castFault : GoodIn wsX10_cell wsX10_castFault := goodIn_r _ [15, 16, 17, 18, 19, 7, 20, 39, 40, 41, 42, 43, 44, 45, 46, 47, 48, 49, 50, 51, 52, 53, 54, 55, 56, 57, 58, 59, 60, 61, 62, 63, 64] (by decide +kernel) (by decide +kernel)
set_option maxRecDepth 20000 in
theorem gX10_cell_X10_castFault : GoodIn wsX10_cell (wsV RX10 110 RX10 yX10_castFault wsX10_castFault) := goodIn_app (goodIn_of _ (by decide +kernel)) ggX10_cell_X10_castFault
set_option maxRecDepth 20000 in
theorem ggX10_cell_X10_longOf : GoodIn wsX10_cell wsX10_longOf := goodIn_r _ [24, 25, 16, 3, 26, 27, 39, 40, 41, 42, 43, 44, 45, 46, 47, 48, 49, 50, 51, 52, 53, 54, 55, 56, 57, 58, 59, 60, 61, 62, 63, 64] (by decide +kernel) (by decide +kernel)
set_option maxRecDepth 20000 in
theorem gX10_cell_X10_longOf : GoodIn wsX10_cell (wsV RX10 114 RX10 yX10_longOf wsX10_longOf) := goodIn_app (goodIn_of _ (by decide +kernel)) ggX10_cell_X10_longOf
set_option maxRecDepth 20000 in
theorem ggX10_cell_X10_in : GoodIn wsX10_cell wsX10_in := goodIn_r _ [11] (by decide +kernel) (by decide +kernel)
set_option maxRecDepth 20000 in
theorem gX10_cell_X10_in : GoodIn wsX10_cell (va_wsS RX10 70 yX10_in wsX10_in) := goodIn_app (goodIn_of _ (by decide +kernel)) ggX10_cell_X10_in
set_option maxRecDepth 20000 in
theorem ggX10_cell_X10_failsLong : GoodIn wsX10_cell wsX10_failsLong := goodIn_r _ [31, 32, 2, 39, 40, 41, 42, 43, 44, 45, 46, 47, 48, 49, 50, 51, 52, 53, 54, 55, 56, 57, 58, 59, 60, 61, 62, 63, 64] (by decide +kernel) (by decide +kernel)
set_option maxRecDepth 20000 in
theorem gX10_cell_X10_failsLong : GoodIn wsX10_cell (wsV RX10 117 RX10 yX10_failsLong wsX10_failsLong) := goodIn_app (goodIn_of _ (by decide +kernel)) ggX10_cell_X10_failsLong
set_option maxRecDepth 20000 in
theorem ggX10_cell_X10_at : GoodIn wsX10_cell wsX10_at := goodIn_r _ [36, 25, 16, 4, 37, 38, 39, 40, 41, 42, 43, 44, 45, 46, 47, 48, 49, 50, 51, 52, 53, 54, 55, 56, 57, 58, 59, 60, 61, 62, 63, 64] (by decide +kernel) (by decide +kernel)
set_option maxRecDepth 20000 in
theorem gX10_cell_X10_at : GoodIn wsX10_cell (wsV RX10 121 RX10 yX10_at wsX10_at) := goodIn_app (goodIn_of _ (by decide +kernel)) ggX10_cell_X10_at
theorem dX10_cell_0 : decode cX10_cell 0 = .ok (.aload_n 0, 1) := by decide +kernel
theorem dX10_cell_1 : decode cX10_cell 1 = .ok (.iconst 0, 1) := by decide +kernel
theorem dX10_cell_2 : decode cX10_cell 2 = .ok (.putfield 66, 3) := by decide +kernel
theorem dX10_cell_5 : decode cX10_cell 5 = .ok (.iload_n 1, 1) := by decide +kernel
theorem dX10_cell_6 : decode cX10_cell 6 = .ok (.invokestatic 86, 3) := by decide +kernel
theorem dX10_cell_9 : decode cX10_cell 9 = .ok (.ifCond .ne 7, 3) := by decide +kernel
theorem dX10_cell_12 : decode cX10_cell 12 = .ok (.ldc2_w 77, 3) := by decide +kernel
theorem dX10_cell_15 : decode cX10_cell 15 = .ok (.lreturn, 1) := by decide +kernel
theorem dX10_cell_16 : decode cX10_cell 16 = .ok (.aload_n 0, 1) := by decide +kernel
theorem dX10_cell_17 : decode cX10_cell 17 = .ok (.iload_n 1, 1) := by decide +kernel
theorem dX10_cell_18 : decode cX10_cell 18 = .ok (.iconst 3, 1) := by decide +kernel
theorem dX10_cell_19 : decode cX10_cell 19 = .ok (.invokevirtual 110, 3) := by decide +kernel
theorem dX10_cell_22 : decode cX10_cell 22 = .ok (.istore 4, 2) := by decide +kernel
theorem dX10_cell_24 : decode cX10_cell 24 = .ok (.iload 4, 2) := by decide +kernel
theorem dX10_cell_26 : decode cX10_cell 26 = .ok (.ifCond .gt 18, 3) := by decide +kernel
theorem dX10_cell_29 : decode cX10_cell 29 = .ok (.iload_n 2, 1) := by decide +kernel
theorem dX10_cell_30 : decode cX10_cell 30 = .ok (.iconst 0, 1) := by decide +kernel
theorem dX10_cell_31 : decode cX10_cell 31 = .ok (.aload_n 0, 1) := by decide +kernel
theorem dX10_cell_32 : decode cX10_cell 32 = .ok (.iload_n 1, 1) := by decide +kernel
theorem dX10_cell_33 : decode cX10_cell 33 = .ok (.invokevirtual 114, 3) := by decide +kernel
theorem dX10_cell_36 : decode cX10_cell 36 = .ok (.iconst 1, 1) := by decide +kernel
theorem dX10_cell_37 : decode cX10_cell 37 = .ok (.isub, 1) := by decide +kernel
theorem dX10_cell_38 : decode cX10_cell 38 = .ok (.invokestatic 70, 3) := by decide +kernel
theorem dX10_cell_41 : decode cX10_cell 41 = .ok (.ifCond .ne 19, 3) := by decide +kernel
theorem dX10_cell_44 : decode cX10_cell 44 = .ok (.aload_n 0, 1) := by decide +kernel
theorem dX10_cell_45 : decode cX10_cell 45 = .ok (.iload 4, 2) := by decide +kernel
theorem dX10_cell_47 : decode cX10_cell 47 = .ok (.ifCond .le 8, 3) := by decide +kernel
theorem dX10_cell_50 : decode cX10_cell 50 = .ok (.iload 4, 2) := by decide +kernel
theorem dX10_cell_52 : decode cX10_cell 52 = .ok (.goto 4, 3) := by decide +kernel
theorem dX10_cell_55 : decode cX10_cell 55 = .ok (.iconst 3, 1) := by decide +kernel
theorem dX10_cell_56 : decode cX10_cell 56 = .ok (.invokevirtual 117, 3) := by decide +kernel
theorem dX10_cell_59 : decode cX10_cell 59 = .ok (.lreturn, 1) := by decide +kernel
theorem dX10_cell_60 : decode cX10_cell 60 = .ok (.aload_n 0, 1) := by decide +kernel
theorem dX10_cell_61 : decode cX10_cell 61 = .ok (.iload_n 1, 1) := by decide +kernel
theorem dX10_cell_62 : decode cX10_cell 62 = .ok (.iload_n 2, 1) := by decide +kernel
theorem dX10_cell_63 : decode cX10_cell 63 = .ok (.invokevirtual 121, 3) := by decide +kernel
theorem dX10_cell_66 : decode cX10_cell 66 = .ok (.iconst 1, 1) := by decide +kernel
theorem dX10_cell_67 : decode cX10_cell 67 = .ok (.isub, 1) := by decide +kernel
theorem dX10_cell_68 : decode cX10_cell 68 = .ok (.istore 5, 2) := by decide +kernel
theorem dX10_cell_70 : decode cX10_cell 70 = .ok (.iload 5, 2) := by decide +kernel
theorem dX10_cell_72 : decode cX10_cell 72 = .ok (.ifCond .lt 20, 3) := by decide +kernel
theorem dX10_cell_75 : decode cX10_cell 75 = .ok (.iload_n 3, 1) := by decide +kernel
theorem dX10_cell_76 : decode cX10_cell 76 = .ok (.iconst 0, 1) := by decide +kernel
theorem dX10_cell_77 : decode cX10_cell 77 = .ok (.aload_n 0, 1) := by decide +kernel
theorem dX10_cell_78 : decode cX10_cell 78 = .ok (.getfield 17, 3) := by decide +kernel
theorem dX10_cell_81 : decode cX10_cell 81 = .ok (.iload 5, 2) := by decide +kernel
theorem dX10_cell_83 : decode cX10_cell 83 = .ok (.iaload, 1) := by decide +kernel
theorem dX10_cell_84 : decode cX10_cell 84 = .ok (.iconst 1, 1) := by decide +kernel
theorem dX10_cell_85 : decode cX10_cell 85 = .ok (.isub, 1) := by decide +kernel
theorem dX10_cell_86 : decode cX10_cell 86 = .ok (.invokestatic 70, 3) := by decide +kernel
theorem dX10_cell_89 : decode cX10_cell 89 = .ok (.ifCond .ne 18, 3) := by decide +kernel
theorem dX10_cell_92 : decode cX10_cell 92 = .ok (.aload_n 0, 1) := by decide +kernel
theorem dX10_cell_93 : decode cX10_cell 93 = .ok (.iload 5, 2) := by decide +kernel
theorem dX10_cell_95 : decode cX10_cell 95 = .ok (.ifCond .ge 7, 3) := by decide +kernel
theorem dX10_cell_98 : decode cX10_cell 98 = .ok (.iconst 1, 1) := by decide +kernel
theorem dX10_cell_99 : decode cX10_cell 99 = .ok (.goto 4, 3) := by decide +kernel
theorem dX10_cell_102 : decode cX10_cell 102 = .ok (.iconst 3, 1) := by decide +kernel
theorem dX10_cell_103 : decode cX10_cell 103 = .ok (.invokevirtual 117, 3) := by decide +kernel
theorem dX10_cell_106 : decode cX10_cell 106 = .ok (.lreturn, 1) := by decide +kernel
theorem dX10_cell_107 : decode cX10_cell 107 = .ok (.aload_n 0, 1) := by decide +kernel
theorem dX10_cell_108 : decode cX10_cell 108 = .ok (.getfield 21, 3) := by decide +kernel
theorem dX10_cell_111 : decode cX10_cell 111 = .ok (.bipush 16, 2) := by decide +kernel
theorem dX10_cell_113 : decode cX10_cell 113 = .ok (.iload 5, 2) := by decide +kernel
theorem dX10_cell_115 : decode cX10_cell 115 = .ok (.imul, 1) := by decide +kernel
theorem dX10_cell_116 : decode cX10_cell 116 = .ok (.iload_n 3, 1) := by decide +kernel
theorem dX10_cell_117 : decode cX10_cell 117 = .ok (.iadd, 1) := by decide +kernel
theorem dX10_cell_118 : decode cX10_cell 118 = .ok (.iaload, 1) := by decide +kernel
theorem dX10_cell_119 : decode cX10_cell 119 = .ok (.i2l, 1) := by decide +kernel
theorem dX10_cell_120 : decode cX10_cell 120 = .ok (.lreturn, 1) := by decide +kernel
set_option maxRecDepth 20000 in
theorem ggX10_copy_X10_isPlace : GoodIn wsX10_copy wsX10_isPlace := goodIn_r _ [11, 12, 13, 10, 14] (by decide +kernel) (by decide +kernel)
set_option maxRecDepth 20000 in
theorem gX10_copy_X10_isPlace : GoodIn wsX10_copy (va_wsS RX10 86 yX10_isPlace wsX10_isPlace) := goodIn_app (goodIn_of _ (by decide +kernel)) ggX10_copy_X10_isPlace
set_option maxRecDepth 20000 in
theorem ggX10_copy_X10_fails : GoodIn wsX10_copy wsX10_fails := goodIn_r _ [18, 19, 31, 32, 33, 34, 35, 36, 37, 38, 39, 40, 41, 42, 43, 44, 45, 46, 47, 48, 49, 50, 51, 52, 53, 54, 55, 56] (by decide +kernel) (by decide +kernel)
set_option maxRecDepth 20000 in
theorem gX10_copy_X10_fails : GoodIn wsX10_copy (wsV RX10 90 RX10 yX10_fails wsX10_fails) := goodIn_app (goodIn_of _ (by decide +kernel)) ggX10_copy_X10_fails
set_option maxRecDepth 20000 in
theorem ggX10_copy_X10_longOf : GoodIn wsX10_copy wsX10_longOf := goodIn_r _ [23, 4, 2, 24, 25, 26, 31, 32, 33, 34, 35, 36, 37, 38, 39, 40, 41, 42, 43, 44, 45, 46, 47, 48, 49, 50, 51, 52, 53, 54, 55, 56] (by decide +kernel) (by decide +kernel)
set_option maxRecDepth 20000 in
theorem gX10_copy_X10_longOf : GoodIn wsX10_copy (wsV RX10 114 RX10 yX10_longOf wsX10_longOf) := goodIn_app (goodIn_of _ (by decide +kernel)) ggX10_copy_X10_longOf
set_option maxRecDepth 20000 in
theorem ggX10_copy_X10_at : GoodIn wsX10_copy wsX10_at := goodIn_r _ [30, 4, 2, 5, 6, 7, 31, 32, 33, 34, 35, 36, 37, 38, 39, 40, 41, 42, 43, 44, 45, 46, 47, 48, 49, 50, 51, 52, 53, 54, 55, 56] (by decide +kernel) (by decide +kernel)
set_option maxRecDepth 20000 in
theorem gX10_copy_X10_at : GoodIn wsX10_copy (wsV RX10 121 RX10 yX10_at wsX10_at) := goodIn_app (goodIn_of _ (by decide +kernel)) ggX10_copy_X10_at
theorem dX10_copy_0 : decode cX10_copy 0 = .ok (.aload_n 0, 1) := by decide +kernel
theorem dX10_copy_1 : decode cX10_copy 1 = .ok (.iconst 0, 1) := by decide +kernel
theorem dX10_copy_2 : decode cX10_copy 2 = .ok (.putfield 66, 3) := by decide +kernel
theorem dX10_copy_5 : decode cX10_copy 5 = .ok (.iload_n 1, 1) := by decide +kernel
theorem dX10_copy_6 : decode cX10_copy 6 = .ok (.invokestatic 86, 3) := by decide +kernel
theorem dX10_copy_9 : decode cX10_copy 9 = .ok (.ifCond .eq 10, 3) := by decide +kernel
theorem dX10_copy_12 : decode cX10_copy 12 = .ok (.iload_n 3, 1) := by decide +kernel
theorem dX10_copy_13 : decode cX10_copy 13 = .ok (.invokestatic 86, 3) := by decide +kernel
theorem dX10_copy_16 : decode cX10_copy 16 = .ok (.ifCond .ne 5, 3) := by decide +kernel
theorem dX10_copy_19 : decode cX10_copy 19 = .ok (.iconst (-1), 1) := by decide +kernel
theorem dX10_copy_20 : decode cX10_copy 20 = .ok (.ireturn, 1) := by decide +kernel
theorem dX10_copy_21 : decode cX10_copy 21 = .ok (.aload_n 0, 1) := by decide +kernel
theorem dX10_copy_22 : decode cX10_copy 22 = .ok (.getfield 7, 3) := by decide +kernel
theorem dX10_copy_25 : decode cX10_copy 25 = .ok (.iload_n 1, 1) := by decide +kernel
theorem dX10_copy_26 : decode cX10_copy 26 = .ok (.iaload, 1) := by decide +kernel
theorem dX10_copy_27 : decode cX10_copy 27 = .ok (.ifCond .eq 12, 3) := by decide +kernel
theorem dX10_copy_30 : decode cX10_copy 30 = .ok (.aload_n 0, 1) := by decide +kernel
theorem dX10_copy_31 : decode cX10_copy 31 = .ok (.getfield 7, 3) := by decide +kernel
theorem dX10_copy_34 : decode cX10_copy 34 = .ok (.iload_n 3, 1) := by decide +kernel
theorem dX10_copy_35 : decode cX10_copy 35 = .ok (.iaload, 1) := by decide +kernel
theorem dX10_copy_36 : decode cX10_copy 36 = .ok (.ifCond .ne 9, 3) := by decide +kernel
theorem dX10_copy_39 : decode cX10_copy 39 = .ok (.aload_n 0, 1) := by decide +kernel
theorem dX10_copy_40 : decode cX10_copy 40 = .ok (.iconst 1, 1) := by decide +kernel
theorem dX10_copy_41 : decode cX10_copy 41 = .ok (.invokevirtual 90, 3) := by decide +kernel
theorem dX10_copy_44 : decode cX10_copy 44 = .ok (.ireturn, 1) := by decide +kernel
theorem dX10_copy_45 : decode cX10_copy 45 = .ok (.aload_n 0, 1) := by decide +kernel
theorem dX10_copy_46 : decode cX10_copy 46 = .ok (.getfield 7, 3) := by decide +kernel
theorem dX10_copy_49 : decode cX10_copy 49 = .ok (.iload_n 1, 1) := by decide +kernel
theorem dX10_copy_50 : decode cX10_copy 50 = .ok (.iaload, 1) := by decide +kernel
theorem dX10_copy_51 : decode cX10_copy 51 = .ok (.istore 6, 2) := by decide +kernel
theorem dX10_copy_53 : decode cX10_copy 53 = .ok (.iload 6, 2) := by decide +kernel
theorem dX10_copy_55 : decode cX10_copy 55 = .ok (.iconst 3, 1) := by decide +kernel
theorem dX10_copy_56 : decode cX10_copy 56 = .ok (.if_icmp .gt 14, 3) := by decide +kernel
theorem dX10_copy_59 : decode cX10_copy 59 = .ok (.iload 6, 2) := by decide +kernel
theorem dX10_copy_61 : decode cX10_copy 61 = .ok (.aload_n 0, 1) := by decide +kernel
theorem dX10_copy_62 : decode cX10_copy 62 = .ok (.getfield 7, 3) := by decide +kernel
theorem dX10_copy_65 : decode cX10_copy 65 = .ok (.iload_n 3, 1) := by decide +kernel
theorem dX10_copy_66 : decode cX10_copy 66 = .ok (.iaload, 1) := by decide +kernel
theorem dX10_copy_67 : decode cX10_copy 67 = .ok (.if_icmp .eq 9, 3) := by decide +kernel
theorem dX10_copy_70 : decode cX10_copy 70 = .ok (.aload_n 0, 1) := by decide +kernel
theorem dX10_copy_71 : decode cX10_copy 71 = .ok (.iconst 4, 1) := by decide +kernel
theorem dX10_copy_72 : decode cX10_copy 72 = .ok (.invokevirtual 90, 3) := by decide +kernel
theorem dX10_copy_75 : decode cX10_copy 75 = .ok (.ireturn, 1) := by decide +kernel
theorem dX10_copy_76 : decode cX10_copy 76 = .ok (.iload_n 2, 1) := by decide +kernel
theorem dX10_copy_77 : decode cX10_copy 77 = .ok (.ifCond .lt 38, 3) := by decide +kernel
theorem dX10_copy_80 : decode cX10_copy 80 = .ok (.iload 4, 2) := by decide +kernel
theorem dX10_copy_82 : decode cX10_copy 82 = .ok (.ifCond .lt 33, 3) := by decide +kernel
theorem dX10_copy_85 : decode cX10_copy 85 = .ok (.iload 5, 2) := by decide +kernel
theorem dX10_copy_87 : decode cX10_copy 87 = .ok (.ifCond .lt 28, 3) := by decide +kernel
theorem dX10_copy_90 : decode cX10_copy 90 = .ok (.iload_n 2, 1) := by decide +kernel
theorem dX10_copy_91 : decode cX10_copy 91 = .ok (.aload_n 0, 1) := by decide +kernel
theorem dX10_copy_92 : decode cX10_copy 92 = .ok (.iload_n 1, 1) := by decide +kernel
theorem dX10_copy_93 : decode cX10_copy 93 = .ok (.invokevirtual 114, 3) := by decide +kernel
theorem dX10_copy_96 : decode cX10_copy 96 = .ok (.iload 5, 2) := by decide +kernel
theorem dX10_copy_98 : decode cX10_copy 98 = .ok (.isub, 1) := by decide +kernel
theorem dX10_copy_99 : decode cX10_copy 99 = .ok (.if_icmp .gt 16, 3) := by decide +kernel
theorem dX10_copy_102 : decode cX10_copy 102 = .ok (.iload 4, 2) := by decide +kernel
theorem dX10_copy_104 : decode cX10_copy 104 = .ok (.aload_n 0, 1) := by decide +kernel
theorem dX10_copy_105 : decode cX10_copy 105 = .ok (.iload_n 3, 1) := by decide +kernel
theorem dX10_copy_106 : decode cX10_copy 106 = .ok (.invokevirtual 114, 3) := by decide +kernel
theorem dX10_copy_109 : decode cX10_copy 109 = .ok (.iload 5, 2) := by decide +kernel
theorem dX10_copy_111 : decode cX10_copy 111 = .ok (.isub, 1) := by decide +kernel
theorem dX10_copy_112 : decode cX10_copy 112 = .ok (.if_icmp .le 9, 3) := by decide +kernel
theorem dX10_copy_115 : decode cX10_copy 115 = .ok (.aload_n 0, 1) := by decide +kernel
theorem dX10_copy_116 : decode cX10_copy 116 = .ok (.iconst 3, 1) := by decide +kernel
theorem dX10_copy_117 : decode cX10_copy 117 = .ok (.invokevirtual 90, 3) := by decide +kernel
theorem dX10_copy_120 : decode cX10_copy 120 = .ok (.ireturn, 1) := by decide +kernel
theorem dX10_copy_121 : decode cX10_copy 121 = .ok (.iconst 0, 1) := by decide +kernel
theorem dX10_copy_122 : decode cX10_copy 122 = .ok (.istore 7, 2) := by decide +kernel
theorem dX10_copy_124 : decode cX10_copy 124 = .ok (.iload 7, 2) := by decide +kernel
theorem dX10_copy_126 : decode cX10_copy 126 = .ok (.iload 5, 2) := by decide +kernel
theorem dX10_copy_128 : decode cX10_copy 128 = .ok (.if_icmp .ge 25, 3) := by decide +kernel
theorem dX10_copy_131 : decode cX10_copy 131 = .ok (.aload_n 0, 1) := by decide +kernel
theorem dX10_copy_132 : decode cX10_copy 132 = .ok (.getfield 63, 3) := by decide +kernel
theorem dX10_copy_135 : decode cX10_copy 135 = .ok (.iload 7, 2) := by decide +kernel
theorem dX10_copy_137 : decode cX10_copy 137 = .ok (.aload_n 0, 1) := by decide +kernel
theorem dX10_copy_138 : decode cX10_copy 138 = .ok (.iload_n 1, 1) := by decide +kernel
theorem dX10_copy_139 : decode cX10_copy 139 = .ok (.iload_n 2, 1) := by decide +kernel
theorem dX10_copy_140 : decode cX10_copy 140 = .ok (.iload 7, 2) := by decide +kernel
theorem dX10_copy_142 : decode cX10_copy 142 = .ok (.iadd, 1) := by decide +kernel
theorem dX10_copy_143 : decode cX10_copy 143 = .ok (.invokevirtual 121, 3) := by decide +kernel
theorem dX10_copy_146 : decode cX10_copy 146 = .ok (.iastore, 1) := by decide +kernel
theorem dX10_copy_147 : decode cX10_copy 147 = .ok (.iinc 7 1, 3) := by decide +kernel
theorem dX10_copy_150 : decode cX10_copy 150 = .ok (.goto (-26), 3) := by decide +kernel
theorem dX10_copy_153 : decode cX10_copy 153 = .ok (.iconst 0, 1) := by decide +kernel
theorem dX10_copy_154 : decode cX10_copy 154 = .ok (.istore 7, 2) := by decide +kernel
theorem dX10_copy_156 : decode cX10_copy 156 = .ok (.iload 7, 2) := by decide +kernel
theorem dX10_copy_158 : decode cX10_copy 158 = .ok (.iload 5, 2) := by decide +kernel
theorem dX10_copy_160 : decode cX10_copy 160 = .ok (.if_icmp .ge 86, 3) := by decide +kernel
theorem dX10_copy_163 : decode cX10_copy 163 = .ok (.bipush 16, 2) := by decide +kernel
theorem dX10_copy_165 : decode cX10_copy 165 = .ok (.aload_n 0, 1) := by decide +kernel
theorem dX10_copy_166 : decode cX10_copy 166 = .ok (.getfield 13, 3) := by decide +kernel
theorem dX10_copy_169 : decode cX10_copy 169 = .ok (.iload_n 3, 1) := by decide +kernel
theorem dX10_copy_170 : decode cX10_copy 170 = .ok (.iaload, 1) := by decide +kernel
theorem dX10_copy_171 : decode cX10_copy 171 = .ok (.imul, 1) := by decide +kernel
theorem dX10_copy_172 : decode cX10_copy 172 = .ok (.iload 4, 2) := by decide +kernel
theorem dX10_copy_174 : decode cX10_copy 174 = .ok (.iadd, 1) := by decide +kernel
theorem dX10_copy_175 : decode cX10_copy 175 = .ok (.iload 7, 2) := by decide +kernel
theorem dX10_copy_177 : decode cX10_copy 177 = .ok (.iadd, 1) := by decide +kernel
theorem dX10_copy_178 : decode cX10_copy 178 = .ok (.istore 8, 2) := by decide +kernel
theorem dX10_copy_180 : decode cX10_copy 180 = .ok (.iload 6, 2) := by decide +kernel
theorem dX10_copy_182 : decode cX10_copy 182 = .ok (.iconst 1, 1) := by decide +kernel
theorem dX10_copy_183 : decode cX10_copy 183 = .ok (.if_icmp .ne 20, 3) := by decide +kernel
theorem dX10_copy_186 : decode cX10_copy 186 = .ok (.aload_n 0, 1) := by decide +kernel
theorem dX10_copy_187 : decode cX10_copy 187 = .ok (.getfield 21, 3) := by decide +kernel
theorem dX10_copy_190 : decode cX10_copy 190 = .ok (.iload 8, 2) := by decide +kernel
theorem dX10_copy_192 : decode cX10_copy 192 = .ok (.aload_n 0, 1) := by decide +kernel
theorem dX10_copy_193 : decode cX10_copy 193 = .ok (.getfield 63, 3) := by decide +kernel
theorem dX10_copy_196 : decode cX10_copy 196 = .ok (.iload 7, 2) := by decide +kernel
theorem dX10_copy_198 : decode cX10_copy 198 = .ok (.iaload, 1) := by decide +kernel
theorem dX10_copy_199 : decode cX10_copy 199 = .ok (.iastore, 1) := by decide +kernel
theorem dX10_copy_200 : decode cX10_copy 200 = .ok (.goto 40, 3) := by decide +kernel
theorem dX10_copy_203 : decode cX10_copy 203 = .ok (.iload 6, 2) := by decide +kernel
theorem dX10_copy_205 : decode cX10_copy 205 = .ok (.iconst 2, 1) := by decide +kernel
theorem dX10_copy_206 : decode cX10_copy 206 = .ok (.if_icmp .ne 20, 3) := by decide +kernel
theorem dX10_copy_209 : decode cX10_copy 209 = .ok (.aload_n 0, 1) := by decide +kernel
theorem dX10_copy_210 : decode cX10_copy 210 = .ok (.getfield 27, 3) := by decide +kernel
theorem dX10_copy_213 : decode cX10_copy 213 = .ok (.iload 8, 2) := by decide +kernel
theorem dX10_copy_215 : decode cX10_copy 215 = .ok (.aload_n 0, 1) := by decide +kernel
theorem dX10_copy_216 : decode cX10_copy 216 = .ok (.getfield 63, 3) := by decide +kernel
theorem dX10_copy_219 : decode cX10_copy 219 = .ok (.iload 7, 2) := by decide +kernel
theorem dX10_copy_221 : decode cX10_copy 221 = .ok (.iaload, 1) := by decide +kernel
theorem dX10_copy_222 : decode cX10_copy 222 = .ok (.iastore, 1) := by decide +kernel
theorem dX10_copy_223 : decode cX10_copy 223 = .ok (.goto 17, 3) := by decide +kernel
theorem dX10_copy_226 : decode cX10_copy 226 = .ok (.aload_n 0, 1) := by decide +kernel
theorem dX10_copy_227 : decode cX10_copy 227 = .ok (.getfield 33, 3) := by decide +kernel
theorem dX10_copy_230 : decode cX10_copy 230 = .ok (.iload 8, 2) := by decide +kernel
theorem dX10_copy_232 : decode cX10_copy 232 = .ok (.aload_n 0, 1) := by decide +kernel
theorem dX10_copy_233 : decode cX10_copy 233 = .ok (.getfield 63, 3) := by decide +kernel
theorem dX10_copy_236 : decode cX10_copy 236 = .ok (.iload 7, 2) := by decide +kernel
theorem dX10_copy_238 : decode cX10_copy 238 = .ok (.iaload, 1) := by decide +kernel
theorem dX10_copy_239 : decode cX10_copy 239 = .ok (.iastore, 1) := by decide +kernel
theorem dX10_copy_240 : decode cX10_copy 240 = .ok (.iinc 7 1, 3) := by decide +kernel
theorem dX10_copy_243 : decode cX10_copy 243 = .ok (.goto (-87), 3) := by decide +kernel
theorem dX10_copy_246 : decode cX10_copy 246 = .ok (.iconst 1, 1) := by decide +kernel
theorem dX10_copy_247 : decode cX10_copy 247 = .ok (.ireturn, 1) := by decide +kernel
set_option maxRecDepth 20000 in
theorem ggX10_twin_X10_isPlace : GoodIn wsX10_twin wsX10_isPlace := goodIn_r _ [13, 14, 15, 12, 16] (by decide +kernel) (by decide +kernel)
set_option maxRecDepth 20000 in
theorem gX10_twin_X10_isPlace : GoodIn wsX10_twin (va_wsS RX10 86 yX10_isPlace wsX10_isPlace) := goodIn_app (goodIn_of _ (by decide +kernel)) ggX10_twin_X10_isPlace
set_option maxRecDepth 20000 in
theorem ggX10_twin_X10_fails : GoodIn wsX10_twin wsX10_fails := goodIn_r _ [20, 21, 41, 42, 43, 44, 45, 46, 47, 48, 49, 50, 51, 52, 53, 54, 55, 56, 57, 58, 59, 60, 61, 62, 63, 64, 65, 66] (by decide +kernel) (by decide +kernel)
set_option maxRecDepth 20000 in
theorem gX10_twin_X10_fails : GoodIn wsX10_twin (wsV RX10 90 RX10 yX10_fails wsX10_fails) := goodIn_app (goodIn_of _ (by decide +kernel)) ggX10_twin_X10_fails
set_option maxRecDepth 20000 in
theorem ggX10_twin_X10_longOf : GoodIn wsX10_twin wsX10_longOf := goodIn_r _ [25, 3, 2, 26, 4, 7, 41, 42, 43, 44, 45, 46, 47, 48, 49, 50, 51, 52, 53, 54, 55, 56, 57, 58, 59, 60, 61, 62, 63, 64, 65, 66] (by decide +kernel) (by decide +kernel)
set_option maxRecDepth 20000 in
theorem gX10_twin_X10_longOf : GoodIn wsX10_twin (wsV RX10 114 RX10 yX10_longOf wsX10_longOf) := goodIn_app (goodIn_of _ (by decide +kernel)) ggX10_twin_X10_longOf
set_option maxRecDepth 20000 in
theorem ggX10_twin_X10_twinOf : GoodIn wsX10_twin wsX10_twinOf := goodIn_r _ [30, 26, 31, 32, 33, 34, 12, 35, 36, 41, 42, 43, 44, 45, 46, 47, 48, 49, 50, 51, 52, 53, 54, 55, 56, 57, 58, 59, 60, 61, 62, 63, 64, 65, 66] (by decide +kernel) (by decide +kernel)
set_option maxRecDepth 20000 in
theorem gX10_twin_X10_twinOf : GoodIn wsX10_twin (wsV RX10 125 RX10 yX10_twinOf wsX10_twinOf) := goodIn_app (goodIn_of _ (by decide +kernel)) ggX10_twin_X10_twinOf
set_option maxRecDepth 20000 in
theorem ggX10_twin_X10_hold : GoodIn wsX10_twin wsX10_hold := goodIn_r _ [40, 2, 3, 41, 42, 43, 44, 45, 46, 47, 48, 49, 50, 51, 52, 53, 54, 55, 56, 57, 58, 59, 60, 61, 62, 63, 64, 65, 66] (by decide +kernel) (by decide +kernel)
set_option maxRecDepth 20000 in
theorem gX10_twin_X10_hold : GoodIn wsX10_twin (wsV RX10 93 RX10 yX10_hold wsX10_hold) := goodIn_app (goodIn_of _ (by decide +kernel)) ggX10_twin_X10_hold
theorem dX10_twin_0 : decode cX10_twin 0 = .ok (.aload_n 0, 1) := by decide +kernel
theorem dX10_twin_1 : decode cX10_twin 1 = .ok (.iconst 0, 1) := by decide +kernel
theorem dX10_twin_2 : decode cX10_twin 2 = .ok (.putfield 66, 3) := by decide +kernel
theorem dX10_twin_5 : decode cX10_twin 5 = .ok (.iload_n 1, 1) := by decide +kernel
theorem dX10_twin_6 : decode cX10_twin 6 = .ok (.invokestatic 86, 3) := by decide +kernel
theorem dX10_twin_9 : decode cX10_twin 9 = .ok (.ifCond .eq 10, 3) := by decide +kernel
theorem dX10_twin_12 : decode cX10_twin 12 = .ok (.iload_n 2, 1) := by decide +kernel
theorem dX10_twin_13 : decode cX10_twin 13 = .ok (.invokestatic 86, 3) := by decide +kernel
theorem dX10_twin_16 : decode cX10_twin 16 = .ok (.ifCond .ne 5, 3) := by decide +kernel
theorem dX10_twin_19 : decode cX10_twin 19 = .ok (.iconst (-1), 1) := by decide +kernel
theorem dX10_twin_20 : decode cX10_twin 20 = .ok (.ireturn, 1) := by decide +kernel
theorem dX10_twin_21 : decode cX10_twin 21 = .ok (.aload_n 0, 1) := by decide +kernel
theorem dX10_twin_22 : decode cX10_twin 22 = .ok (.getfield 7, 3) := by decide +kernel
theorem dX10_twin_25 : decode cX10_twin 25 = .ok (.iload_n 2, 1) := by decide +kernel
theorem dX10_twin_26 : decode cX10_twin 26 = .ok (.iaload, 1) := by decide +kernel
theorem dX10_twin_27 : decode cX10_twin 27 = .ok (.istore_n 3, 1) := by decide +kernel
theorem dX10_twin_28 : decode cX10_twin 28 = .ok (.iload_n 3, 1) := by decide +kernel
theorem dX10_twin_29 : decode cX10_twin 29 = .ok (.ifCond .eq 8, 3) := by decide +kernel
theorem dX10_twin_32 : decode cX10_twin 32 = .ok (.iload_n 3, 1) := by decide +kernel
theorem dX10_twin_33 : decode cX10_twin 33 = .ok (.iconst 3, 1) := by decide +kernel
theorem dX10_twin_34 : decode cX10_twin 34 = .ok (.if_icmp .le 17, 3) := by decide +kernel
theorem dX10_twin_37 : decode cX10_twin 37 = .ok (.aload_n 0, 1) := by decide +kernel
theorem dX10_twin_38 : decode cX10_twin 38 = .ok (.iload_n 3, 1) := by decide +kernel
theorem dX10_twin_39 : decode cX10_twin 39 = .ok (.ifCond .ne 7, 3) := by decide +kernel
theorem dX10_twin_42 : decode cX10_twin 42 = .ok (.iconst 1, 1) := by decide +kernel
theorem dX10_twin_43 : decode cX10_twin 43 = .ok (.goto 4, 3) := by decide +kernel
theorem dX10_twin_46 : decode cX10_twin 46 = .ok (.iconst 2, 1) := by decide +kernel
theorem dX10_twin_47 : decode cX10_twin 47 = .ok (.invokevirtual 90, 3) := by decide +kernel
theorem dX10_twin_50 : decode cX10_twin 50 = .ok (.ireturn, 1) := by decide +kernel
theorem dX10_twin_51 : decode cX10_twin 51 = .ok (.aload_n 0, 1) := by decide +kernel
theorem dX10_twin_52 : decode cX10_twin 52 = .ok (.iload_n 2, 1) := by decide +kernel
theorem dX10_twin_53 : decode cX10_twin 53 = .ok (.invokevirtual 114, 3) := by decide +kernel
theorem dX10_twin_56 : decode cX10_twin 56 = .ok (.istore 4, 2) := by decide +kernel
theorem dX10_twin_58 : decode cX10_twin 58 = .ok (.aload_n 0, 1) := by decide +kernel
theorem dX10_twin_59 : decode cX10_twin 59 = .ok (.getfield 13, 3) := by decide +kernel
theorem dX10_twin_62 : decode cX10_twin 62 = .ok (.iload_n 2, 1) := by decide +kernel
theorem dX10_twin_63 : decode cX10_twin 63 = .ok (.iaload, 1) := by decide +kernel
theorem dX10_twin_64 : decode cX10_twin 64 = .ok (.istore 5, 2) := by decide +kernel
theorem dX10_twin_66 : decode cX10_twin 66 = .ok (.iload_n 3, 1) := by decide +kernel
theorem dX10_twin_67 : decode cX10_twin 67 = .ok (.iconst 1, 1) := by decide +kernel
theorem dX10_twin_68 : decode cX10_twin 68 = .ok (.if_icmp .ne 18, 3) := by decide +kernel
theorem dX10_twin_71 : decode cX10_twin 71 = .ok (.aload_n 0, 1) := by decide +kernel
theorem dX10_twin_72 : decode cX10_twin 72 = .ok (.iload_n 1, 1) := by decide +kernel
theorem dX10_twin_73 : decode cX10_twin 73 = .ok (.iconst 1, 1) := by decide +kernel
theorem dX10_twin_74 : decode cX10_twin 74 = .ok (.aload_n 0, 1) := by decide +kernel
theorem dX10_twin_75 : decode cX10_twin 75 = .ok (.iload 5, 2) := by decide +kernel
theorem dX10_twin_77 : decode cX10_twin 77 = .ok (.invokevirtual 125, 3) := by decide +kernel
theorem dX10_twin_80 : decode cX10_twin 80 = .ok (.invokevirtual 93, 3) := by decide +kernel
theorem dX10_twin_83 : decode cX10_twin 83 = .ok (.goto 161, 3) := by decide +kernel
theorem dX10_twin_86 : decode cX10_twin 86 = .ok (.iload_n 3, 1) := by decide +kernel
theorem dX10_twin_87 : decode cX10_twin 87 = .ok (.iconst 2, 1) := by decide +kernel
theorem dX10_twin_88 : decode cX10_twin 88 = .ok (.if_icmp .ne 81, 3) := by decide +kernel
theorem dX10_twin_91 : decode cX10_twin 91 = .ok (.aload_n 0, 1) := by decide +kernel
theorem dX10_twin_92 : decode cX10_twin 92 = .ok (.getfield 24, 3) := by decide +kernel
theorem dX10_twin_95 : decode cX10_twin 95 = .ok (.aload_n 0, 1) := by decide +kernel
theorem dX10_twin_96 : decode cX10_twin 96 = .ok (.getfield 97, 3) := by decide +kernel
theorem dX10_twin_99 : decode cX10_twin 99 = .ok (.iload 4, 2) := by decide +kernel
theorem dX10_twin_101 : decode cX10_twin 101 = .ok (.iastore, 1) := by decide +kernel
theorem dX10_twin_102 : decode cX10_twin 102 = .ok (.iconst 0, 1) := by decide +kernel
theorem dX10_twin_103 : decode cX10_twin 103 = .ok (.istore 6, 2) := by decide +kernel
theorem dX10_twin_105 : decode cX10_twin 105 = .ok (.iload 6, 2) := by decide +kernel
theorem dX10_twin_107 : decode cX10_twin 107 = .ok (.bipush 16, 2) := by decide +kernel
theorem dX10_twin_109 : decode cX10_twin 109 = .ok (.if_icmp .ge 37, 3) := by decide +kernel
theorem dX10_twin_112 : decode cX10_twin 112 = .ok (.aload_n 0, 1) := by decide +kernel
theorem dX10_twin_113 : decode cX10_twin 113 = .ok (.getfield 27, 3) := by decide +kernel
theorem dX10_twin_116 : decode cX10_twin 116 = .ok (.bipush 16, 2) := by decide +kernel
theorem dX10_twin_118 : decode cX10_twin 118 = .ok (.aload_n 0, 1) := by decide +kernel
theorem dX10_twin_119 : decode cX10_twin 119 = .ok (.getfield 97, 3) := by decide +kernel
theorem dX10_twin_122 : decode cX10_twin 122 = .ok (.imul, 1) := by decide +kernel
theorem dX10_twin_123 : decode cX10_twin 123 = .ok (.iload 6, 2) := by decide +kernel
theorem dX10_twin_125 : decode cX10_twin 125 = .ok (.iadd, 1) := by decide +kernel
theorem dX10_twin_126 : decode cX10_twin 126 = .ok (.aload_n 0, 1) := by decide +kernel
theorem dX10_twin_127 : decode cX10_twin 127 = .ok (.getfield 27, 3) := by decide +kernel
theorem dX10_twin_130 : decode cX10_twin 130 = .ok (.bipush 16, 2) := by decide +kernel
theorem dX10_twin_132 : decode cX10_twin 132 = .ok (.iload 5, 2) := by decide +kernel
theorem dX10_twin_134 : decode cX10_twin 134 = .ok (.imul, 1) := by decide +kernel
theorem dX10_twin_135 : decode cX10_twin 135 = .ok (.iload 6, 2) := by decide +kernel
theorem dX10_twin_137 : decode cX10_twin 137 = .ok (.iadd, 1) := by decide +kernel
theorem dX10_twin_138 : decode cX10_twin 138 = .ok (.iaload, 1) := by decide +kernel
theorem dX10_twin_139 : decode cX10_twin 139 = .ok (.iastore, 1) := by decide +kernel
theorem dX10_twin_140 : decode cX10_twin 140 = .ok (.iinc 6 1, 3) := by decide +kernel
theorem dX10_twin_143 : decode cX10_twin 143 = .ok (.goto (-38), 3) := by decide +kernel
theorem dX10_twin_146 : decode cX10_twin 146 = .ok (.aload_n 0, 1) := by decide +kernel
theorem dX10_twin_147 : decode cX10_twin 147 = .ok (.iload_n 1, 1) := by decide +kernel
theorem dX10_twin_148 : decode cX10_twin 148 = .ok (.iconst 2, 1) := by decide +kernel
theorem dX10_twin_149 : decode cX10_twin 149 = .ok (.aload_n 0, 1) := by decide +kernel
theorem dX10_twin_150 : decode cX10_twin 150 = .ok (.getfield 97, 3) := by decide +kernel
theorem dX10_twin_153 : decode cX10_twin 153 = .ok (.invokevirtual 93, 3) := by decide +kernel
theorem dX10_twin_156 : decode cX10_twin 156 = .ok (.aload_n 0, 1) := by decide +kernel
theorem dX10_twin_157 : decode cX10_twin 157 = .ok (.dup, 1) := by decide +kernel
theorem dX10_twin_158 : decode cX10_twin 158 = .ok (.getfield 97, 3) := by decide +kernel
theorem dX10_twin_161 : decode cX10_twin 161 = .ok (.iconst 1, 1) := by decide +kernel
theorem dX10_twin_162 : decode cX10_twin 162 = .ok (.iadd, 1) := by decide +kernel
theorem dX10_twin_163 : decode cX10_twin 163 = .ok (.putfield 97, 3) := by decide +kernel
theorem dX10_twin_166 : decode cX10_twin 166 = .ok (.goto 78, 3) := by decide +kernel
theorem dX10_twin_169 : decode cX10_twin 169 = .ok (.aload_n 0, 1) := by decide +kernel
theorem dX10_twin_170 : decode cX10_twin 170 = .ok (.getfield 30, 3) := by decide +kernel
theorem dX10_twin_173 : decode cX10_twin 173 = .ok (.aload_n 0, 1) := by decide +kernel
theorem dX10_twin_174 : decode cX10_twin 174 = .ok (.getfield 100, 3) := by decide +kernel
theorem dX10_twin_177 : decode cX10_twin 177 = .ok (.iload 4, 2) := by decide +kernel
theorem dX10_twin_179 : decode cX10_twin 179 = .ok (.iastore, 1) := by decide +kernel
theorem dX10_twin_180 : decode cX10_twin 180 = .ok (.iconst 0, 1) := by decide +kernel
theorem dX10_twin_181 : decode cX10_twin 181 = .ok (.istore 6, 2) := by decide +kernel
theorem dX10_twin_183 : decode cX10_twin 183 = .ok (.iload 6, 2) := by decide +kernel
theorem dX10_twin_185 : decode cX10_twin 185 = .ok (.bipush 16, 2) := by decide +kernel
theorem dX10_twin_187 : decode cX10_twin 187 = .ok (.if_icmp .ge 37, 3) := by decide +kernel
theorem dX10_twin_190 : decode cX10_twin 190 = .ok (.aload_n 0, 1) := by decide +kernel
theorem dX10_twin_191 : decode cX10_twin 191 = .ok (.getfield 33, 3) := by decide +kernel
theorem dX10_twin_194 : decode cX10_twin 194 = .ok (.bipush 16, 2) := by decide +kernel
theorem dX10_twin_196 : decode cX10_twin 196 = .ok (.aload_n 0, 1) := by decide +kernel
theorem dX10_twin_197 : decode cX10_twin 197 = .ok (.getfield 100, 3) := by decide +kernel
theorem dX10_twin_200 : decode cX10_twin 200 = .ok (.imul, 1) := by decide +kernel
theorem dX10_twin_201 : decode cX10_twin 201 = .ok (.iload 6, 2) := by decide +kernel
theorem dX10_twin_203 : decode cX10_twin 203 = .ok (.iadd, 1) := by decide +kernel
theorem dX10_twin_204 : decode cX10_twin 204 = .ok (.aload_n 0, 1) := by decide +kernel
theorem dX10_twin_205 : decode cX10_twin 205 = .ok (.getfield 33, 3) := by decide +kernel
theorem dX10_twin_208 : decode cX10_twin 208 = .ok (.bipush 16, 2) := by decide +kernel
theorem dX10_twin_210 : decode cX10_twin 210 = .ok (.iload 5, 2) := by decide +kernel
theorem dX10_twin_212 : decode cX10_twin 212 = .ok (.imul, 1) := by decide +kernel
theorem dX10_twin_213 : decode cX10_twin 213 = .ok (.iload 6, 2) := by decide +kernel
theorem dX10_twin_215 : decode cX10_twin 215 = .ok (.iadd, 1) := by decide +kernel
theorem dX10_twin_216 : decode cX10_twin 216 = .ok (.iaload, 1) := by decide +kernel
theorem dX10_twin_217 : decode cX10_twin 217 = .ok (.iastore, 1) := by decide +kernel
theorem dX10_twin_218 : decode cX10_twin 218 = .ok (.iinc 6 1, 3) := by decide +kernel
theorem dX10_twin_221 : decode cX10_twin 221 = .ok (.goto (-38), 3) := by decide +kernel
theorem dX10_twin_224 : decode cX10_twin 224 = .ok (.aload_n 0, 1) := by decide +kernel
theorem dX10_twin_225 : decode cX10_twin 225 = .ok (.iload_n 1, 1) := by decide +kernel
theorem dX10_twin_226 : decode cX10_twin 226 = .ok (.iconst 3, 1) := by decide +kernel
theorem dX10_twin_227 : decode cX10_twin 227 = .ok (.aload_n 0, 1) := by decide +kernel
theorem dX10_twin_228 : decode cX10_twin 228 = .ok (.getfield 100, 3) := by decide +kernel
theorem dX10_twin_231 : decode cX10_twin 231 = .ok (.invokevirtual 93, 3) := by decide +kernel
theorem dX10_twin_234 : decode cX10_twin 234 = .ok (.aload_n 0, 1) := by decide +kernel
theorem dX10_twin_235 : decode cX10_twin 235 = .ok (.dup, 1) := by decide +kernel
theorem dX10_twin_236 : decode cX10_twin 236 = .ok (.getfield 100, 3) := by decide +kernel
theorem dX10_twin_239 : decode cX10_twin 239 = .ok (.iconst 1, 1) := by decide +kernel
theorem dX10_twin_240 : decode cX10_twin 240 = .ok (.iadd, 1) := by decide +kernel
theorem dX10_twin_241 : decode cX10_twin 241 = .ok (.putfield 100, 3) := by decide +kernel
theorem dX10_twin_244 : decode cX10_twin 244 = .ok (.iload 4, 2) := by decide +kernel
theorem dX10_twin_246 : decode cX10_twin 246 = .ok (.ireturn, 1) := by decide +kernel
theorem dX10_areLike_0 : decode cX10_areLike 0 = .ok (.aload_n 0, 1) := by decide +kernel
theorem dX10_areLike_1 : decode cX10_areLike 1 = .ok (.getfield 17, 3) := by decide +kernel
theorem dX10_areLike_4 : decode cX10_areLike 4 = .ok (.iload_n 1, 1) := by decide +kernel
theorem dX10_areLike_5 : decode cX10_areLike 5 = .ok (.iaload, 1) := by decide +kernel
theorem dX10_areLike_6 : decode cX10_areLike 6 = .ok (.aload_n 0, 1) := by decide +kernel
theorem dX10_areLike_7 : decode cX10_areLike 7 = .ok (.getfield 17, 3) := by decide +kernel
theorem dX10_areLike_10 : decode cX10_areLike 10 = .ok (.iload_n 2, 1) := by decide +kernel
theorem dX10_areLike_11 : decode cX10_areLike 11 = .ok (.iaload, 1) := by decide +kernel
theorem dX10_areLike_12 : decode cX10_areLike 12 = .ok (.if_icmp .ne 7, 3) := by decide +kernel
theorem dX10_areLike_15 : decode cX10_areLike 15 = .ok (.iconst 1, 1) := by decide +kernel
theorem dX10_areLike_16 : decode cX10_areLike 16 = .ok (.goto 4, 3) := by decide +kernel
theorem dX10_areLike_19 : decode cX10_areLike 19 = .ok (.iconst 0, 1) := by decide +kernel
theorem dX10_areLike_20 : decode cX10_areLike 20 = .ok (.istore_n 3, 1) := by decide +kernel
theorem dX10_areLike_21 : decode cX10_areLike 21 = .ok (.iconst 0, 1) := by decide +kernel
theorem dX10_areLike_22 : decode cX10_areLike 22 = .ok (.istore 4, 2) := by decide +kernel
theorem dX10_areLike_24 : decode cX10_areLike 24 = .ok (.iload_n 3, 1) := by decide +kernel
theorem dX10_areLike_25 : decode cX10_areLike 25 = .ok (.ifCond .eq 53, 3) := by decide +kernel
theorem dX10_areLike_28 : decode cX10_areLike 28 = .ok (.iload 4, 2) := by decide +kernel
theorem dX10_areLike_30 : decode cX10_areLike 30 = .ok (.aload_n 0, 1) := by decide +kernel
theorem dX10_areLike_31 : decode cX10_areLike 31 = .ok (.getfield 17, 3) := by decide +kernel
theorem dX10_areLike_34 : decode cX10_areLike 34 = .ok (.iload_n 1, 1) := by decide +kernel
theorem dX10_areLike_35 : decode cX10_areLike 35 = .ok (.iaload, 1) := by decide +kernel
theorem dX10_areLike_36 : decode cX10_areLike 36 = .ok (.if_icmp .ge 42, 3) := by decide +kernel
theorem dX10_areLike_39 : decode cX10_areLike 39 = .ok (.aload_n 0, 1) := by decide +kernel
theorem dX10_areLike_40 : decode cX10_areLike 40 = .ok (.getfield 21, 3) := by decide +kernel
theorem dX10_areLike_43 : decode cX10_areLike 43 = .ok (.bipush 16, 2) := by decide +kernel
theorem dX10_areLike_45 : decode cX10_areLike 45 = .ok (.iload_n 1, 1) := by decide +kernel
theorem dX10_areLike_46 : decode cX10_areLike 46 = .ok (.imul, 1) := by decide +kernel
theorem dX10_areLike_47 : decode cX10_areLike 47 = .ok (.iload 4, 2) := by decide +kernel
theorem dX10_areLike_49 : decode cX10_areLike 49 = .ok (.iadd, 1) := by decide +kernel
theorem dX10_areLike_50 : decode cX10_areLike 50 = .ok (.iaload, 1) := by decide +kernel
theorem dX10_areLike_51 : decode cX10_areLike 51 = .ok (.aload_n 0, 1) := by decide +kernel
theorem dX10_areLike_52 : decode cX10_areLike 52 = .ok (.getfield 21, 3) := by decide +kernel
theorem dX10_areLike_55 : decode cX10_areLike 55 = .ok (.bipush 16, 2) := by decide +kernel
theorem dX10_areLike_57 : decode cX10_areLike 57 = .ok (.iload_n 2, 1) := by decide +kernel
theorem dX10_areLike_58 : decode cX10_areLike 58 = .ok (.imul, 1) := by decide +kernel
theorem dX10_areLike_59 : decode cX10_areLike 59 = .ok (.iload 4, 2) := by decide +kernel
theorem dX10_areLike_61 : decode cX10_areLike 61 = .ok (.iadd, 1) := by decide +kernel
theorem dX10_areLike_62 : decode cX10_areLike 62 = .ok (.iaload, 1) := by decide +kernel
theorem dX10_areLike_63 : decode cX10_areLike 63 = .ok (.if_icmp .ne 7, 3) := by decide +kernel
theorem dX10_areLike_66 : decode cX10_areLike 66 = .ok (.iconst 1, 1) := by decide +kernel
theorem dX10_areLike_67 : decode cX10_areLike 67 = .ok (.goto 4, 3) := by decide +kernel
theorem dX10_areLike_70 : decode cX10_areLike 70 = .ok (.iconst 0, 1) := by decide +kernel
theorem dX10_areLike_71 : decode cX10_areLike 71 = .ok (.istore_n 3, 1) := by decide +kernel
theorem dX10_areLike_72 : decode cX10_areLike 72 = .ok (.iinc 4 1, 3) := by decide +kernel
theorem dX10_areLike_75 : decode cX10_areLike 75 = .ok (.goto (-51), 3) := by decide +kernel
theorem dX10_areLike_78 : decode cX10_areLike 78 = .ok (.iload_n 3, 1) := by decide +kernel
theorem dX10_areLike_79 : decode cX10_areLike 79 = .ok (.ireturn, 1) := by decide +kernel
set_option maxRecDepth 20000 in
theorem ggX10_hasContent_X10_in : GoodIn wsX10_hasContent wsX10_in := goodIn_r _ [5] (by decide +kernel) (by decide +kernel)
set_option maxRecDepth 20000 in
theorem gX10_hasContent_X10_in : GoodIn wsX10_hasContent (va_wsS RX10 70 yX10_in wsX10_in) := goodIn_app (goodIn_of _ (by decide +kernel)) ggX10_hasContent_X10_in
theorem dX10_hasContent_0 : decode cX10_hasContent 0 = .ok (.aload_n 0, 1) := by decide +kernel
theorem dX10_hasContent_1 : decode cX10_hasContent 1 = .ok (.getfield 7, 3) := by decide +kernel
theorem dX10_hasContent_4 : decode cX10_hasContent 4 = .ok (.iload_n 1, 1) := by decide +kernel
theorem dX10_hasContent_5 : decode cX10_hasContent 5 = .ok (.iaload, 1) := by decide +kernel
theorem dX10_hasContent_6 : decode cX10_hasContent 6 = .ok (.iconst 1, 1) := by decide +kernel
theorem dX10_hasContent_7 : decode cX10_hasContent 7 = .ok (.iconst 2, 1) := by decide +kernel
theorem dX10_hasContent_8 : decode cX10_hasContent 8 = .ok (.invokestatic 70, 3) := by decide +kernel
theorem dX10_hasContent_11 : decode cX10_hasContent 11 = .ok (.ireturn, 1) := by decide +kernel
set_option maxRecDepth 20000 in
theorem ggX10_like_X10_isPlace : GoodIn wsX10_like wsX10_isPlace := goodIn_r _ [6, 7, 8, 5, 9] (by decide +kernel) (by decide +kernel)
set_option maxRecDepth 20000 in
theorem gX10_like_X10_isPlace : GoodIn wsX10_like (va_wsS RX10 86 yX10_isPlace wsX10_isPlace) := goodIn_app (goodIn_of _ (by decide +kernel)) ggX10_like_X10_isPlace
set_option maxRecDepth 20000 in
theorem ggX10_like_X10_fails : GoodIn wsX10_like wsX10_fails := goodIn_r _ [13, 14, 34, 35, 36, 37, 38, 39, 40, 41, 42, 43, 44, 45, 46, 47, 48, 49, 50, 51, 52, 53, 54, 55, 56, 57, 58, 59] (by decide +kernel) (by decide +kernel)
set_option maxRecDepth 20000 in
theorem gX10_like_X10_fails : GoodIn wsX10_like (wsV RX10 90 RX10 yX10_fails wsX10_fails) := goodIn_app (goodIn_of _ (by decide +kernel)) ggX10_like_X10_fails
set_option maxRecDepth 20000 in
theorem ggX10_like_X10_hasContent : GoodIn wsX10_like wsX10_hasContent := goodIn_r _ [18, 2, 7, 8, 5, 9, 34, 35, 36, 37, 38, 39, 40, 41, 42, 43, 44, 45, 46, 47, 48, 49, 50, 51, 52, 53, 54, 55, 56, 57, 58, 59] (by decide +kernel) (by decide +kernel)
set_option maxRecDepth 20000 in
theorem gX10_like_X10_hasContent : GoodIn wsX10_like (wsV RX10 128 RX10 yX10_hasContent wsX10_hasContent) := goodIn_app (goodIn_of _ (by decide +kernel)) ggX10_like_X10_hasContent
set_option maxRecDepth 20000 in
theorem ggX10_like_X10_longOf : GoodIn wsX10_like wsX10_longOf := goodIn_r _ [22, 23, 2, 24, 25, 26, 34, 35, 36, 37, 38, 39, 40, 41, 42, 43, 44, 45, 46, 47, 48, 49, 50, 51, 52, 53, 54, 55, 56, 57, 58, 59] (by decide +kernel) (by decide +kernel)
set_option maxRecDepth 20000 in
theorem gX10_like_X10_longOf : GoodIn wsX10_like (wsV RX10 114 RX10 yX10_longOf wsX10_longOf) := goodIn_app (goodIn_of _ (by decide +kernel)) ggX10_like_X10_longOf
set_option maxRecDepth 20000 in
theorem ggX10_like_X10_at : GoodIn wsX10_like wsX10_at := goodIn_r _ [30, 23, 2, 31, 32, 33, 34, 35, 36, 37, 38, 39, 40, 41, 42, 43, 44, 45, 46, 47, 48, 49, 50, 51, 52, 53, 54, 55, 56, 57, 58, 59] (by decide +kernel) (by decide +kernel)
set_option maxRecDepth 20000 in
theorem gX10_like_X10_at : GoodIn wsX10_like (wsV RX10 121 RX10 yX10_at wsX10_at) := goodIn_app (goodIn_of _ (by decide +kernel)) ggX10_like_X10_at
theorem dX10_like_0 : decode cX10_like 0 = .ok (.aload_n 0, 1) := by decide +kernel
theorem dX10_like_1 : decode cX10_like 1 = .ok (.iconst 0, 1) := by decide +kernel
theorem dX10_like_2 : decode cX10_like 2 = .ok (.putfield 66, 3) := by decide +kernel
theorem dX10_like_5 : decode cX10_like 5 = .ok (.iload_n 1, 1) := by decide +kernel
theorem dX10_like_6 : decode cX10_like 6 = .ok (.invokestatic 86, 3) := by decide +kernel
theorem dX10_like_9 : decode cX10_like 9 = .ok (.ifCond .eq 10, 3) := by decide +kernel
theorem dX10_like_12 : decode cX10_like 12 = .ok (.iload_n 2, 1) := by decide +kernel
theorem dX10_like_13 : decode cX10_like 13 = .ok (.invokestatic 86, 3) := by decide +kernel
theorem dX10_like_16 : decode cX10_like 16 = .ok (.ifCond .ne 5, 3) := by decide +kernel
theorem dX10_like_19 : decode cX10_like 19 = .ok (.iconst (-1), 1) := by decide +kernel
theorem dX10_like_20 : decode cX10_like 20 = .ok (.ireturn, 1) := by decide +kernel
