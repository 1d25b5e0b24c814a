theorem dX10_like_21 : decode cX10_like 21 = .ok (.aload_n 0, 1) := by decide +kernel
theorem dX10_like_22 : decode cX10_like 22 = .ok (.getfield 7, 3) := by decide +kernel
theorem dX10_like_25 : decode cX10_like 25 = .ok (.iload_n 1, 1) := by decide +kernel
theorem dX10_like_26 : decode cX10_like 26 = .ok (.iaload, 1) := by decide +kernel
theorem dX10_like_27 : decode cX10_like 27 = .ok (.ifCond .eq 12, 3) := by decide +kernel
theorem dX10_like_30 : decode cX10_like 30 = .ok (.aload_n 0, 1) := by decide +kernel
theorem dX10_like_31 : decode cX10_like 31 = .ok (.getfield 7, 3) := by decide +kernel
theorem dX10_like_34 : decode cX10_like 34 = .ok (.iload_n 2, 1) := by decide +kernel
theorem dX10_like_35 : decode cX10_like 35 = .ok (.iaload, 1) := by decide +kernel
theorem dX10_like_36 : decode cX10_like 36 = .ok (.ifCond .ne 9, 3) := by decide +kernel
theorem dX10_like_39 : decode cX10_like 39 = .ok (.aload_n 0, 1) := by decide +kernel
theorem dX10_like_40 : decode cX10_like 40 = .ok (.iconst 1, 1) := by decide +kernel
theorem dX10_like_41 : decode cX10_like 41 = .ok (.invokevirtual 90, 3) := by decide +kernel
theorem dX10_like_44 : decode cX10_like 44 = .ok (.ireturn, 1) := by decide +kernel
theorem dX10_like_45 : decode cX10_like 45 = .ok (.aload_n 0, 1) := by decide +kernel
theorem dX10_like_46 : decode cX10_like 46 = .ok (.iload_n 1, 1) := by decide +kernel
theorem dX10_like_47 : decode cX10_like 47 = .ok (.invokevirtual 128, 3) := by decide +kernel
theorem dX10_like_50 : decode cX10_like 50 = .ok (.ifCond .eq 11, 3) := by decide +kernel
theorem dX10_like_53 : decode cX10_like 53 = .ok (.aload_n 0, 1) := by decide +kernel
theorem dX10_like_54 : decode cX10_like 54 = .ok (.iload_n 2, 1) := by decide +kernel
theorem dX10_like_55 : decode cX10_like 55 = .ok (.invokevirtual 128, 3) := by decide +kernel
theorem dX10_like_58 : decode cX10_like 58 = .ok (.ifCond .ne 9, 3) := by decide +kernel
theorem dX10_like_61 : decode cX10_like 61 = .ok (.aload_n 0, 1) := by decide +kernel
theorem dX10_like_62 : decode cX10_like 62 = .ok (.iconst 2, 1) := by decide +kernel
theorem dX10_like_63 : decode cX10_like 63 = .ok (.invokevirtual 90, 3) := by decide +kernel
theorem dX10_like_66 : decode cX10_like 66 = .ok (.ireturn, 1) := by decide +kernel
theorem dX10_like_67 : decode cX10_like 67 = .ok (.aload_n 0, 1) := by decide +kernel
theorem dX10_like_68 : decode cX10_like 68 = .ok (.getfield 7, 3) := by decide +kernel
theorem dX10_like_71 : decode cX10_like 71 = .ok (.iload_n 1, 1) := by decide +kernel
theorem dX10_like_72 : decode cX10_like 72 = .ok (.iaload, 1) := by decide +kernel
theorem dX10_like_73 : decode cX10_like 73 = .ok (.aload_n 0, 1) := by decide +kernel
theorem dX10_like_74 : decode cX10_like 74 = .ok (.getfield 7, 3) := by decide +kernel
theorem dX10_like_77 : decode cX10_like 77 = .ok (.iload_n 2, 1) := by decide +kernel
theorem dX10_like_78 : decode cX10_like 78 = .ok (.iaload, 1) := by decide +kernel
theorem dX10_like_79 : decode cX10_like 79 = .ok (.if_icmp .ne 20, 3) := by decide +kernel
theorem dX10_like_82 : decode cX10_like 82 = .ok (.aload_n 0, 1) := by decide +kernel
theorem dX10_like_83 : decode cX10_like 83 = .ok (.iload_n 1, 1) := by decide +kernel
theorem dX10_like_84 : decode cX10_like 84 = .ok (.invokevirtual 114, 3) := by decide +kernel
theorem dX10_like_87 : decode cX10_like 87 = .ok (.aload_n 0, 1) := by decide +kernel
theorem dX10_like_88 : decode cX10_like 88 = .ok (.iload_n 2, 1) := by decide +kernel
theorem dX10_like_89 : decode cX10_like 89 = .ok (.invokevirtual 114, 3) := by decide +kernel
theorem dX10_like_92 : decode cX10_like 92 = .ok (.if_icmp .ne 7, 3) := by decide +kernel
theorem dX10_like_95 : decode cX10_like 95 = .ok (.iconst 1, 1) := by decide +kernel
theorem dX10_like_96 : decode cX10_like 96 = .ok (.goto 4, 3) := by decide +kernel
theorem dX10_like_99 : decode cX10_like 99 = .ok (.iconst 0, 1) := by decide +kernel
theorem dX10_like_100 : decode cX10_like 100 = .ok (.istore_n 3, 1) := by decide +kernel
theorem dX10_like_101 : decode cX10_like 101 = .ok (.iconst 0, 1) := by decide +kernel
theorem dX10_like_102 : decode cX10_like 102 = .ok (.istore 4, 2) := by decide +kernel
theorem dX10_like_104 : decode cX10_like 104 = .ok (.iload_n 3, 1) := by decide +kernel
theorem dX10_like_105 : decode cX10_like 105 = .ok (.ifCond .eq 42, 3) := by decide +kernel
theorem dX10_like_108 : decode cX10_like 108 = .ok (.iload 4, 2) := by decide +kernel
theorem dX10_like_110 : decode cX10_like 110 = .ok (.aload_n 0, 1) := by decide +kernel
theorem dX10_like_111 : decode cX10_like 111 = .ok (.iload_n 1, 1) := by decide +kernel
theorem dX10_like_112 : decode cX10_like 112 = .ok (.invokevirtual 114, 3) := by decide +kernel
theorem dX10_like_115 : decode cX10_like 115 = .ok (.if_icmp .ge 32, 3) := by decide +kernel
theorem dX10_like_118 : decode cX10_like 118 = .ok (.aload_n 0, 1) := by decide +kernel
theorem dX10_like_119 : decode cX10_like 119 = .ok (.iload_n 1, 1) := by decide +kernel
theorem dX10_like_120 : decode cX10_like 120 = .ok (.iload 4, 2) := by decide +kernel
theorem dX10_like_122 : decode cX10_like 122 = .ok (.invokevirtual 121, 3) := by decide +kernel
theorem dX10_like_125 : decode cX10_like 125 = .ok (.aload_n 0, 1) := by decide +kernel
theorem dX10_like_126 : decode cX10_like 126 = .ok (.iload_n 2, 1) := by decide +kernel
theorem dX10_like_127 : decode cX10_like 127 = .ok (.iload 4, 2) := by decide +kernel
theorem dX10_like_129 : decode cX10_like 129 = .ok (.invokevirtual 121, 3) := by decide +kernel
theorem dX10_like_132 : decode cX10_like 132 = .ok (.if_icmp .ne 7, 3) := by decide +kernel
theorem dX10_like_135 : decode cX10_like 135 = .ok (.iconst 1, 1) := by decide +kernel
theorem dX10_like_136 : decode cX10_like 136 = .ok (.goto 4, 3) := by decide +kernel
theorem dX10_like_139 : decode cX10_like 139 = .ok (.iconst 0, 1) := by decide +kernel
theorem dX10_like_140 : decode cX10_like 140 = .ok (.istore_n 3, 1) := by decide +kernel
theorem dX10_like_141 : decode cX10_like 141 = .ok (.iinc 4 1, 3) := by decide +kernel
theorem dX10_like_144 : decode cX10_like 144 = .ok (.goto (-40), 3) := by decide +kernel
theorem dX10_like_147 : decode cX10_like 147 = .ok (.iload_n 3, 1) := by decide +kernel
theorem dX10_like_148 : decode cX10_like 148 = .ok (.ifCond .eq 7, 3) := by decide +kernel
theorem dX10_like_151 : decode cX10_like 151 = .ok (.iconst 1, 1) := by decide +kernel
theorem dX10_like_152 : decode cX10_like 152 = .ok (.goto 4, 3) := by decide +kernel
theorem dX10_like_155 : decode cX10_like 155 = .ok (.iconst 0, 1) := by decide +kernel
theorem dX10_like_156 : decode cX10_like 156 = .ok (.ireturn, 1) := by decide +kernel
set_option maxRecDepth 20000 in
theorem ggX10_hash_X10_isPlace : GoodIn wsX10_hash wsX10_isPlace := goodIn_r _ [7, 8, 9, 6, 10] (by decide +kernel) (by decide +kernel)
set_option maxRecDepth 20000 in
theorem gX10_hash_X10_isPlace : GoodIn wsX10_hash (va_wsS RX10 86 yX10_isPlace wsX10_isPlace) := goodIn_app (goodIn_of _ (by decide +kernel)) ggX10_hash_X10_isPlace
set_option maxRecDepth 20000 in
theorem ggX10_hash_X10_hasContent : GoodIn wsX10_hash wsX10_hasContent := goodIn_r _ [14, 3, 8, 9, 6, 10, 35, 36, 37, 38, 39, 40, 41, 42, 43, 44, 45, 46, 47, 48, 49, 50, 51, 52, 53, 54, 55, 56, 57, 58, 59, 60] (by decide +kernel) (by decide +kernel)
set_option maxRecDepth 20000 in
theorem gX10_hash_X10_hasContent : GoodIn wsX10_hash (wsV RX10 128 RX10 yX10_hasContent wsX10_hasContent) := goodIn_app (goodIn_of _ (by decide +kernel)) ggX10_hash_X10_hasContent
set_option maxRecDepth 20000 in
theorem ggX10_hash_X10_failsLong : GoodIn wsX10_hash wsX10_failsLong := goodIn_r _ [18, 19, 2, 35, 36, 37, 38, 39, 40, 41, 42, 43, 44, 45, 46, 47, 48, 49, 50, 51, 52, 53, 54, 55, 56, 57, 58, 59, 60] (by decide +kernel) (by decide +kernel)
set_option maxRecDepth 20000 in
theorem gX10_hash_X10_failsLong : GoodIn wsX10_hash (wsV RX10 117 RX10 yX10_failsLong wsX10_failsLong) := goodIn_app (goodIn_of _ (by decide +kernel)) ggX10_hash_X10_failsLong
set_option maxRecDepth 20000 in
theorem ggX10_hash_X10_longOf : GoodIn wsX10_hash wsX10_longOf := goodIn_r _ [23, 24, 3, 25, 26, 27, 35, 36, 37, 38, 39, 40, 41, 42, 43, 44, 45, 46, 47, 48, 49, 50, 51, 52, 53, 54, 55, 56, 57, 58, 59, 60] (by decide +kernel) (by decide +kernel)
set_option maxRecDepth 20000 in
theorem gX10_hash_X10_longOf : GoodIn wsX10_hash (wsV RX10 114 RX10 yX10_longOf wsX10_longOf) := goodIn_app (goodIn_of _ (by decide +kernel)) ggX10_hash_X10_longOf
set_option maxRecDepth 20000 in
theorem ggX10_hash_X10_at : GoodIn wsX10_hash wsX10_at := goodIn_r _ [31, 24, 3, 32, 33, 34, 35, 36, 37, 38, 39, 40, 41, 42, 43, 44, 45, 46, 47, 48, 49, 50, 51, 52, 53, 54, 55, 56, 57, 58, 59, 60] (by decide +kernel) (by decide +kernel)
set_option maxRecDepth 20000 in
theorem gX10_hash_X10_at : GoodIn wsX10_hash (wsV RX10 121 RX10 yX10_at wsX10_at) := goodIn_app (goodIn_of _ (by decide +kernel)) ggX10_hash_X10_at
theorem dX10_hash_0 : decode cX10_hash 0 = .ok (.aload_n 0, 1) := by decide +kernel
theorem dX10_hash_1 : decode cX10_hash 1 = .ok (.iconst 0, 1) := by decide +kernel
theorem dX10_hash_2 : decode cX10_hash 2 = .ok (.putfield 66, 3) := by decide +kernel
theorem dX10_hash_5 : decode cX10_hash 5 = .ok (.iload_n 1, 1) := by decide +kernel
theorem dX10_hash_6 : decode cX10_hash 6 = .ok (.invokestatic 86, 3) := by decide +kernel
theorem dX10_hash_9 : decode cX10_hash 9 = .ok (.ifCond .ne 7, 3) := by decide +kernel
theorem dX10_hash_12 : decode cX10_hash 12 = .ok (.ldc2_w 77, 3) := by decide +kernel
theorem dX10_hash_15 : decode cX10_hash 15 = .ok (.lreturn, 1) := by decide +kernel
theorem dX10_hash_16 : decode cX10_hash 16 = .ok (.aload_n 0, 1) := by decide +kernel
theorem dX10_hash_17 : decode cX10_hash 17 = .ok (.iload_n 1, 1) := by decide +kernel
theorem dX10_hash_18 : decode cX10_hash 18 = .ok (.invokevirtual 128, 3) := by decide +kernel
theorem dX10_hash_21 : decode cX10_hash 21 = .ok (.ifCond .ne 22, 3) := by decide +kernel
theorem dX10_hash_24 : decode cX10_hash 24 = .ok (.aload_n 0, 1) := by decide +kernel
theorem dX10_hash_25 : decode cX10_hash 25 = .ok (.aload_n 0, 1) := by decide +kernel
theorem dX10_hash_26 : decode cX10_hash 26 = .ok (.getfield 7, 3) := by decide +kernel
theorem dX10_hash_29 : decode cX10_hash 29 = .ok (.iload_n 1, 1) := by decide +kernel
theorem dX10_hash_30 : decode cX10_hash 30 = .ok (.iaload, 1) := by decide +kernel
theorem dX10_hash_31 : decode cX10_hash 31 = .ok (.ifCond .ne 7, 3) := by decide +kernel
theorem dX10_hash_34 : decode cX10_hash 34 = .ok (.iconst 1, 1) := by decide +kernel
theorem dX10_hash_35 : decode cX10_hash 35 = .ok (.goto 4, 3) := by decide +kernel
theorem dX10_hash_38 : decode cX10_hash 38 = .ok (.iconst 2, 1) := by decide +kernel
theorem dX10_hash_39 : decode cX10_hash 39 = .ok (.invokevirtual 117, 3) := by decide +kernel
theorem dX10_hash_42 : decode cX10_hash 42 = .ok (.lreturn, 1) := by decide +kernel
theorem dX10_hash_43 : decode cX10_hash 43 = .ok (.iconst 0, 1) := by decide +kernel
theorem dX10_hash_44 : decode cX10_hash 44 = .ok (.istore_n 2, 1) := by decide +kernel
theorem dX10_hash_45 : decode cX10_hash 45 = .ok (.iconst 0, 1) := by decide +kernel
theorem dX10_hash_46 : decode cX10_hash 46 = .ok (.istore_n 3, 1) := by decide +kernel
theorem dX10_hash_47 : decode cX10_hash 47 = .ok (.iload_n 3, 1) := by decide +kernel
theorem dX10_hash_48 : decode cX10_hash 48 = .ok (.aload_n 0, 1) := by decide +kernel
theorem dX10_hash_49 : decode cX10_hash 49 = .ok (.iload_n 1, 1) := by decide +kernel
theorem dX10_hash_50 : decode cX10_hash 50 = .ok (.invokevirtual 114, 3) := by decide +kernel
theorem dX10_hash_53 : decode cX10_hash 53 = .ok (.if_icmp .ge 21, 3) := by decide +kernel
theorem dX10_hash_56 : decode cX10_hash 56 = .ok (.bipush 31, 2) := by decide +kernel
theorem dX10_hash_58 : decode cX10_hash 58 = .ok (.iload_n 2, 1) := by decide +kernel
theorem dX10_hash_59 : decode cX10_hash 59 = .ok (.imul, 1) := by decide +kernel
theorem dX10_hash_60 : decode cX10_hash 60 = .ok (.aload_n 0, 1) := by decide +kernel
theorem dX10_hash_61 : decode cX10_hash 61 = .ok (.iload_n 1, 1) := by decide +kernel
theorem dX10_hash_62 : decode cX10_hash 62 = .ok (.iload_n 3, 1) := by decide +kernel
theorem dX10_hash_63 : decode cX10_hash 63 = .ok (.invokevirtual 121, 3) := by decide +kernel
theorem dX10_hash_66 : decode cX10_hash 66 = .ok (.iadd, 1) := by decide +kernel
theorem dX10_hash_67 : decode cX10_hash 67 = .ok (.istore_n 2, 1) := by decide +kernel
theorem dX10_hash_68 : decode cX10_hash 68 = .ok (.iinc 3 1, 3) := by decide +kernel
theorem dX10_hash_71 : decode cX10_hash 71 = .ok (.goto (-24), 3) := by decide +kernel
theorem dX10_hash_74 : decode cX10_hash 74 = .ok (.iload_n 2, 1) := by decide +kernel
theorem dX10_hash_75 : decode cX10_hash 75 = .ok (.i2l, 1) := by decide +kernel
theorem dX10_hash_76 : decode cX10_hash 76 = .ok (.lreturn, 1) := by decide +kernel
theorem dX10_against_0 : decode cX10_against 0 = .ok (.aload_n 0, 1) := by decide +kernel
theorem dX10_against_1 : decode cX10_against 1 = .ok (.getfield 17, 3) := by decide +kernel
theorem dX10_against_4 : decode cX10_against 4 = .ok (.iload_n 1, 1) := by decide +kernel
theorem dX10_against_5 : decode cX10_against 5 = .ok (.iaload, 1) := by decide +kernel
theorem dX10_against_6 : decode cX10_against 6 = .ok (.aload_n 0, 1) := by decide +kernel
theorem dX10_against_7 : decode cX10_against 7 = .ok (.getfield 17, 3) := by decide +kernel
theorem dX10_against_10 : decode cX10_against 10 = .ok (.iload_n 2, 1) := by decide +kernel
theorem dX10_against_11 : decode cX10_against 11 = .ok (.iaload, 1) := by decide +kernel
theorem dX10_against_12 : decode cX10_against 12 = .ok (.if_icmp .ge 12, 3) := by decide +kernel
theorem dX10_against_15 : decode cX10_against 15 = .ok (.aload_n 0, 1) := by decide +kernel
theorem dX10_against_16 : decode cX10_against 16 = .ok (.getfield 17, 3) := by decide +kernel
theorem dX10_against_19 : decode cX10_against 19 = .ok (.iload_n 1, 1) := by decide +kernel
theorem dX10_against_20 : decode cX10_against 20 = .ok (.iaload, 1) := by decide +kernel
theorem dX10_against_21 : decode cX10_against 21 = .ok (.goto 9, 3) := by decide +kernel
theorem dX10_against_24 : decode cX10_against 24 = .ok (.aload_n 0, 1) := by decide +kernel
theorem dX10_against_25 : decode cX10_against 25 = .ok (.getfield 17, 3) := by decide +kernel
theorem dX10_against_28 : decode cX10_against 28 = .ok (.iload_n 2, 1) := by decide +kernel
theorem dX10_against_29 : decode cX10_against 29 = .ok (.iaload, 1) := by decide +kernel
theorem dX10_against_30 : decode cX10_against 30 = .ok (.istore_n 3, 1) := by decide +kernel
theorem dX10_against_31 : decode cX10_against 31 = .ok (.iconst 0, 1) := by decide +kernel
theorem dX10_against_32 : decode cX10_against 32 = .ok (.istore 4, 2) := by decide +kernel
theorem dX10_against_34 : decode cX10_against 34 = .ok (.iload 4, 2) := by decide +kernel
theorem dX10_against_36 : decode cX10_against 36 = .ok (.iload_n 3, 1) := by decide +kernel
theorem dX10_against_37 : decode cX10_against 37 = .ok (.if_icmp .ge 52, 3) := by decide +kernel
theorem dX10_against_40 : decode cX10_against 40 = .ok (.aload_n 0, 1) := by decide +kernel
theorem dX10_against_41 : decode cX10_against 41 = .ok (.getfield 21, 3) := by decide +kernel
theorem dX10_against_44 : decode cX10_against 44 = .ok (.bipush 16, 2) := by decide +kernel
theorem dX10_against_46 : decode cX10_against 46 = .ok (.iload_n 1, 1) := by decide +kernel
theorem dX10_against_47 : decode cX10_against 47 = .ok (.imul, 1) := by decide +kernel
theorem dX10_against_48 : decode cX10_against 48 = .ok (.iload 4, 2) := by decide +kernel
theorem dX10_against_50 : decode cX10_against 50 = .ok (.iadd, 1) := by decide +kernel
theorem dX10_against_51 : decode cX10_against 51 = .ok (.iaload, 1) := by decide +kernel
theorem dX10_against_52 : decode cX10_against 52 = .ok (.sipush 255, 3) := by decide +kernel
theorem dX10_against_55 : decode cX10_against 55 = .ok (.iand, 1) := by decide +kernel
theorem dX10_against_56 : decode cX10_against 56 = .ok (.aload_n 0, 1) := by decide +kernel
theorem dX10_against_57 : decode cX10_against 57 = .ok (.getfield 21, 3) := by decide +kernel
theorem dX10_against_60 : decode cX10_against 60 = .ok (.bipush 16, 2) := by decide +kernel
theorem dX10_against_62 : decode cX10_against 62 = .ok (.iload_n 2, 1) := by decide +kernel
theorem dX10_against_63 : decode cX10_against 63 = .ok (.imul, 1) := by decide +kernel
theorem dX10_against_64 : decode cX10_against 64 = .ok (.iload 4, 2) := by decide +kernel
theorem dX10_against_66 : decode cX10_against 66 = .ok (.iadd, 1) := by decide +kernel
theorem dX10_against_67 : decode cX10_against 67 = .ok (.iaload, 1) := by decide +kernel
theorem dX10_against_68 : decode cX10_against 68 = .ok (.sipush 255, 3) := by decide +kernel
theorem dX10_against_71 : decode cX10_against 71 = .ok (.iand, 1) := by decide +kernel
theorem dX10_against_72 : decode cX10_against 72 = .ok (.isub, 1) := by decide +kernel
theorem dX10_against_73 : decode cX10_against 73 = .ok (.istore 5, 2) := by decide +kernel
theorem dX10_against_75 : decode cX10_against 75 = .ok (.iload 5, 2) := by decide +kernel
theorem dX10_against_77 : decode cX10_against 77 = .ok (.ifCond .eq 6, 3) := by decide +kernel
theorem dX10_against_80 : decode cX10_against 80 = .ok (.iload 5, 2) := by decide +kernel
theorem dX10_against_82 : decode cX10_against 82 = .ok (.ireturn, 1) := by decide +kernel
theorem dX10_against_83 : decode cX10_against 83 = .ok (.iinc 4 1, 3) := by decide +kernel
theorem dX10_against_86 : decode cX10_against 86 = .ok (.goto (-52), 3) := by decide +kernel
theorem dX10_against_89 : decode cX10_against 89 = .ok (.aload_n 0, 1) := by decide +kernel
theorem dX10_against_90 : decode cX10_against 90 = .ok (.getfield 17, 3) := by decide +kernel
theorem dX10_against_93 : decode cX10_against 93 = .ok (.iload_n 1, 1) := by decide +kernel
theorem dX10_against_94 : decode cX10_against 94 = .ok (.iaload, 1) := by decide +kernel
theorem dX10_against_95 : decode cX10_against 95 = .ok (.aload_n 0, 1) := by decide +kernel
theorem dX10_against_96 : decode cX10_against 96 = .ok (.getfield 17, 3) := by decide +kernel
theorem dX10_against_99 : decode cX10_against 99 = .ok (.iload_n 2, 1) := by decide +kernel
theorem dX10_against_100 : decode cX10_against 100 = .ok (.iaload, 1) := by decide +kernel
theorem dX10_against_101 : decode cX10_against 101 = .ok (.isub, 1) := by decide +kernel
theorem dX10_against_102 : decode cX10_against 102 = .ok (.ireturn, 1) := by decide +kernel
set_option maxRecDepth 20000 in
theorem ggX10_order_X10_isPlace : GoodIn wsX10_order wsX10_isPlace := goodIn_r _ [6, 7, 8, 5, 9] (by decide +kernel) (by decide +kernel)
set_option maxRecDepth 20000 in
theorem gX10_order_X10_isPlace : GoodIn wsX10_order (va_wsS RX10 86 yX10_isPlace wsX10_isPlace) := goodIn_app (goodIn_of _ (by decide +kernel)) ggX10_order_X10_isPlace
set_option maxRecDepth 20000 in
theorem ggX10_order_X10_castFault : GoodIn wsX10_order wsX10_castFault := goodIn_r _ [13, 14, 15, 16, 17, 5, 18, 30, 31, 32, 33, 34, 35, 36, 37, 38, 39, 40, 41, 42, 43, 44, 45, 46, 47, 48, 49, 50, 51, 52, 53, 54, 55] (by decide +kernel) (by decide +kernel)
set_option maxRecDepth 20000 in
theorem gX10_order_X10_castFault : GoodIn wsX10_order (wsV RX10 110 RX10 yX10_castFault wsX10_castFault) := goodIn_app (goodIn_of _ (by decide +kernel)) ggX10_order_X10_castFault
set_option maxRecDepth 20000 in
theorem ggX10_order_X10_fails : GoodIn wsX10_order wsX10_fails := goodIn_r _ [22, 23, 30, 31, 32, 33, 34, 35, 36, 37, 38, 39, 40, 41, 42, 43, 44, 45, 46, 47, 48, 49, 50, 51, 52, 53, 54, 55] (by decide +kernel) (by decide +kernel)
set_option maxRecDepth 20000 in
theorem gX10_order_X10_fails : GoodIn wsX10_order (wsV RX10 90 RX10 yX10_fails wsX10_fails) := goodIn_app (goodIn_of _ (by decide +kernel)) ggX10_order_X10_fails
set_option maxRecDepth 20000 in
theorem ggX10_order_X10_against : GoodIn wsX10_order wsX10_against := goodIn_r _ [27, 28, 29, 30, 31, 32, 33, 34, 35, 36, 37, 38, 39, 40, 41, 42, 43, 44, 45, 46, 47, 48, 49, 50, 51, 52, 53, 54, 55] (by decide +kernel) (by decide +kernel)
set_option maxRecDepth 20000 in
theorem gX10_order_X10_against : GoodIn wsX10_order (wsV RX10 131 RX10 yX10_against wsX10_against) := goodIn_app (goodIn_of _ (by decide +kernel)) ggX10_order_X10_against
theorem dX10_order_0 : decode cX10_order 0 = .ok (.aload_n 0, 1) := by decide +kernel
theorem dX10_order_1 : decode cX10_order 1 = .ok (.iconst 0, 1) := by decide +kernel
theorem dX10_order_2 : decode cX10_order 2 = .ok (.putfield 66, 3) := by decide +kernel
theorem dX10_order_5 : decode cX10_order 5 = .ok (.iload_n 1, 1) := by decide +kernel
theorem dX10_order_6 : decode cX10_order 6 = .ok (.invokestatic 86, 3) := by decide +kernel
theorem dX10_order_9 : decode cX10_order 9 = .ok (.ifCond .eq 10, 3) := by decide +kernel
theorem dX10_order_12 : decode cX10_order 12 = .ok (.iload_n 2, 1) := by decide +kernel
theorem dX10_order_13 : decode cX10_order 13 = .ok (.invokestatic 86, 3) := by decide +kernel
theorem dX10_order_16 : decode cX10_order 16 = .ok (.ifCond .ne 5, 3) := by decide +kernel
theorem dX10_order_19 : decode cX10_order 19 = .ok (.iconst (-1), 1) := by decide +kernel
theorem dX10_order_20 : decode cX10_order 20 = .ok (.ireturn, 1) := by decide +kernel
theorem dX10_order_21 : decode cX10_order 21 = .ok (.aload_n 0, 1) := by decide +kernel
theorem dX10_order_22 : decode cX10_order 22 = .ok (.iload_n 1, 1) := by decide +kernel
theorem dX10_order_23 : decode cX10_order 23 = .ok (.iconst 1, 1) := by decide +kernel
theorem dX10_order_24 : decode cX10_order 24 = .ok (.invokevirtual 110, 3) := by decide +kernel
theorem dX10_order_27 : decode cX10_order 27 = .ok (.istore_n 3, 1) := by decide +kernel
theorem dX10_order_28 : decode cX10_order 28 = .ok (.aload_n 0, 1) := by decide +kernel
theorem dX10_order_29 : decode cX10_order 29 = .ok (.iload_n 2, 1) := by decide +kernel
theorem dX10_order_30 : decode cX10_order 30 = .ok (.iconst 1, 1) := by decide +kernel
theorem dX10_order_31 : decode cX10_order 31 = .ok (.invokevirtual 110, 3) := by decide +kernel
theorem dX10_order_34 : decode cX10_order 34 = .ok (.istore 4, 2) := by decide +kernel
theorem dX10_order_36 : decode cX10_order 36 = .ok (.iload_n 3, 1) := by decide +kernel
theorem dX10_order_37 : decode cX10_order 37 = .ok (.ifCond .gt 8, 3) := by decide +kernel
theorem dX10_order_40 : decode cX10_order 40 = .ok (.iload 4, 2) := by decide +kernel
theorem dX10_order_42 : decode cX10_order 42 = .ok (.ifCond .le 24, 3) := by decide +kernel
theorem dX10_order_45 : decode cX10_order 45 = .ok (.aload_n 0, 1) := by decide +kernel
theorem dX10_order_46 : decode cX10_order 46 = .ok (.iload_n 3, 1) := by decide +kernel
theorem dX10_order_47 : decode cX10_order 47 = .ok (.iconst 2, 1) := by decide +kernel
theorem dX10_order_48 : decode cX10_order 48 = .ok (.if_icmp .eq 9, 3) := by decide +kernel
theorem dX10_order_51 : decode cX10_order 51 = .ok (.iload 4, 2) := by decide +kernel
theorem dX10_order_53 : decode cX10_order 53 = .ok (.iconst 2, 1) := by decide +kernel
theorem dX10_order_54 : decode cX10_order 54 = .ok (.if_icmp .ne 7, 3) := by decide +kernel
theorem dX10_order_57 : decode cX10_order 57 = .ok (.iconst 2, 1) := by decide +kernel
theorem dX10_order_58 : decode cX10_order 58 = .ok (.goto 4, 3) := by decide +kernel
theorem dX10_order_61 : decode cX10_order 61 = .ok (.iconst 1, 1) := by decide +kernel
theorem dX10_order_62 : decode cX10_order 62 = .ok (.invokevirtual 90, 3) := by decide +kernel
theorem dX10_order_65 : decode cX10_order 65 = .ok (.ireturn, 1) := by decide +kernel
theorem dX10_order_66 : decode cX10_order 66 = .ok (.aload_n 0, 1) := by decide +kernel
theorem dX10_order_67 : decode cX10_order 67 = .ok (.aload_n 0, 1) := by decide +kernel
theorem dX10_order_68 : decode cX10_order 68 = .ok (.getfield 13, 3) := by decide +kernel
theorem dX10_order_71 : decode cX10_order 71 = .ok (.iload_n 1, 1) := by decide +kernel
theorem dX10_order_72 : decode cX10_order 72 = .ok (.iaload, 1) := by decide +kernel
theorem dX10_order_73 : decode cX10_order 73 = .ok (.aload_n 0, 1) := by decide +kernel
theorem dX10_order_74 : decode cX10_order 74 = .ok (.getfield 13, 3) := by decide +kernel
theorem dX10_order_77 : decode cX10_order 77 = .ok (.iload_n 2, 1) := by decide +kernel
theorem dX10_order_78 : decode cX10_order 78 = .ok (.iaload, 1) := by decide +kernel
theorem dX10_order_79 : decode cX10_order 79 = .ok (.invokevirtual 131, 3) := by decide +kernel
theorem dX10_order_82 : decode cX10_order 82 = .ok (.istore 5, 2) := by decide +kernel
theorem dX10_order_84 : decode cX10_order 84 = .ok (.iload 5, 2) := by decide +kernel
theorem dX10_order_86 : decode cX10_order 86 = .ok (.ifCond .ge 8, 3) := by decide +kernel
theorem dX10_order_89 : decode cX10_order 89 = .ok (.bipush (-101), 2) := by decide +kernel
theorem dX10_order_91 : decode cX10_order 91 = .ok (.goto 15, 3) := by decide +kernel
theorem dX10_order_94 : decode cX10_order 94 = .ok (.iload 5, 2) := by decide +kernel
theorem dX10_order_96 : decode cX10_order 96 = .ok (.ifCond .le 8, 3) := by decide +kernel
theorem dX10_order_99 : decode cX10_order 99 = .ok (.bipush (-99), 2) := by decide +kernel
theorem dX10_order_101 : decode cX10_order 101 = .ok (.goto 5, 3) := by decide +kernel
theorem dX10_order_104 : decode cX10_order 104 = .ok (.bipush (-100), 2) := by decide +kernel
theorem dX10_order_106 : decode cX10_order 106 = .ok (.ireturn, 1) := by decide +kernel
set_option maxRecDepth 20000 in
theorem ggX10_named_X10_isPlace : GoodIn wsX10_named wsX10_isPlace := goodIn_r _ [6, 7, 8, 5, 9] (by decide +kernel) (by decide +kernel)
set_option maxRecDepth 20000 in
theorem gX10_named_X10_isPlace : GoodIn wsX10_named (va_wsS RX10 86 yX10_isPlace wsX10_isPlace) := goodIn_app (goodIn_of _ (by decide +kernel)) ggX10_named_X10_isPlace
set_option maxRecDepth 20000 in
theorem ggX10_named_X10_hasContent : GoodIn wsX10_named wsX10_hasContent := goodIn_r _ [13, 2, 7, 8, 5, 9, 38, 39, 40, 41, 42, 43, 44, 45, 46, 47, 48, 49, 50, 51, 52, 53, 54, 55, 56, 57, 58, 59, 60, 61, 62, 63] (by decide +kernel) (by decide +kernel)
set_option maxRecDepth 20000 in
theorem gX10_named_X10_hasContent : GoodIn wsX10_named (wsV RX10 128 RX10 yX10_hasContent wsX10_hasContent) := goodIn_app (goodIn_of _ (by decide +kernel)) ggX10_named_X10_hasContent
set_option maxRecDepth 20000 in
theorem ggX10_named_X10_fails : GoodIn wsX10_named wsX10_fails := goodIn_r _ [17, 18, 38, 39, 40, 41, 42, 43, 44, 45, 46, 47, 48, 49, 50, 51, 52, 53, 54, 55, 56, 57, 58, 59, 60, 61, 62, 63] (by decide +kernel) (by decide +kernel)
set_option maxRecDepth 20000 in
theorem gX10_named_X10_fails : GoodIn wsX10_named (wsV RX10 90 RX10 yX10_fails wsX10_fails) := goodIn_app (goodIn_of _ (by decide +kernel)) ggX10_named_X10_fails
set_option maxRecDepth 20000 in
theorem ggX10_named_X10_longOf : GoodIn wsX10_named wsX10_longOf := goodIn_r _ [22, 23, 2, 24, 25, 26, 38, 39, 40, 41, 42, 43, 44, 45, 46, 47, 48, 49, 50, 51, 52, 53, 54, 55, 56, 57, 58, 59, 60, 61, 62, 63] (by decide +kernel) (by decide +kernel)
set_option maxRecDepth 20000 in
theorem gX10_named_X10_longOf : GoodIn wsX10_named (wsV RX10 114 RX10 yX10_longOf wsX10_longOf) := goodIn_app (goodIn_of _ (by decide +kernel)) ggX10_named_X10_longOf
set_option maxRecDepth 20000 in
theorem ggX10_named_X10_at : GoodIn wsX10_named wsX10_at := goodIn_r _ [30, 23, 2, 31, 32, 33, 38, 39, 40, 41, 42, 43, 44, 45, 46, 47, 48, 49, 50, 51, 52, 53, 54, 55, 56, 57, 58, 59, 60, 61, 62, 63] (by decide +kernel) (by decide +kernel)
set_option maxRecDepth 20000 in
theorem gX10_named_X10_at : GoodIn wsX10_named (wsV RX10 121 RX10 yX10_at wsX10_at) := goodIn_app (goodIn_of _ (by decide +kernel)) ggX10_named_X10_at
set_option maxRecDepth 20000 in
theorem ggX10_named_X10_pair : GoodIn wsX10_named wsX10_pair := goodIn_r _ [37, 27, 28, 29, 5, 30, 23, 2, 31, 32, 33, 38, 39, 40, 41, 42, 43, 44, 45, 46, 47, 48, 49, 50, 51, 52, 53, 54, 55, 56, 57, 58, 59, 60, 61, 62, 63] (by decide +kernel) (by decide +kernel)
set_option maxRecDepth 20000 in
theorem gX10_named_X10_pair : GoodIn wsX10_named (wsV RX10 134 RX10 yX10_pair wsX10_pair) := goodIn_app (goodIn_of _ (by decide +kernel)) ggX10_named_X10_pair
theorem dX10_named_0 : decode cX10_named 0 = .ok (.aload_n 0, 1) := by decide +kernel
theorem dX10_named_1 : decode cX10_named 1 = .ok (.iconst 0, 1) := by decide +kernel
theorem dX10_named_2 : decode cX10_named 2 = .ok (.putfield 66, 3) := by decide +kernel
theorem dX10_named_5 : decode cX10_named 5 = .ok (.iload_n 1, 1) := by decide +kernel
theorem dX10_named_6 : decode cX10_named 6 = .ok (.invokestatic 86, 3) := by decide +kernel
theorem dX10_named_9 : decode cX10_named 9 = .ok (.ifCond .ne 5, 3) := by decide +kernel
theorem dX10_named_12 : decode cX10_named 12 = .ok (.iconst (-1), 1) := by decide +kernel
theorem dX10_named_13 : decode cX10_named 13 = .ok (.ireturn, 1) := by decide +kernel
theorem dX10_named_14 : decode cX10_named 14 = .ok (.aload_n 0, 1) := by decide +kernel
theorem dX10_named_15 : decode cX10_named 15 = .ok (.iload_n 1, 1) := by decide +kernel
theorem dX10_named_16 : decode cX10_named 16 = .ok (.invokevirtual 128, 3) := by decide +kernel
theorem dX10_named_19 : decode cX10_named 19 = .ok (.ifCond .ne 22, 3) := by decide +kernel
theorem dX10_named_22 : decode cX10_named 22 = .ok (.aload_n 0, 1) := by decide +kernel
theorem dX10_named_23 : decode cX10_named 23 = .ok (.aload_n 0, 1) := by decide +kernel
theorem dX10_named_24 : decode cX10_named 24 = .ok (.getfield 7, 3) := by decide +kernel
theorem dX10_named_27 : decode cX10_named 27 = .ok (.iload_n 1, 1) := by decide +kernel
theorem dX10_named_28 : decode cX10_named 28 = .ok (.iaload, 1) := by decide +kernel
theorem dX10_named_29 : decode cX10_named 29 = .ok (.ifCond .ne 7, 3) := by decide +kernel
theorem dX10_named_32 : decode cX10_named 32 = .ok (.iconst 1, 1) := by decide +kernel
theorem dX10_named_33 : decode cX10_named 33 = .ok (.goto 4, 3) := by decide +kernel
theorem dX10_named_36 : decode cX10_named 36 = .ok (.iconst 2, 1) := by decide +kernel
theorem dX10_named_37 : decode cX10_named 37 = .ok (.invokevirtual 90, 3) := by decide +kernel
theorem dX10_named_40 : decode cX10_named 40 = .ok (.ireturn, 1) := by decide +kernel
theorem dX10_named_41 : decode cX10_named 41 = .ok (.aload_n 0, 1) := by decide +kernel
theorem dX10_named_42 : decode cX10_named 42 = .ok (.iload_n 1, 1) := by decide +kernel
theorem dX10_named_43 : decode cX10_named 43 = .ok (.invokevirtual 114, 3) := by decide +kernel
theorem dX10_named_46 : decode cX10_named 46 = .ok (.istore_n 2, 1) := by decide +kernel
theorem dX10_named_47 : decode cX10_named 47 = .ok (.iload_n 2, 1) := by decide +kernel
theorem dX10_named_48 : decode cX10_named 48 = .ok (.ifCond .ne 6, 3) := by decide +kernel
theorem dX10_named_51 : decode cX10_named 51 = .ok (.bipush 8, 2) := by decide +kernel
theorem dX10_named_53 : decode cX10_named 53 = .ok (.ireturn, 1) := by decide +kernel
theorem dX10_named_54 : decode cX10_named 54 = .ok (.iload_n 2, 1) := by decide +kernel
theorem dX10_named_55 : decode cX10_named 55 = .ok (.iconst 2, 1) := by decide +kernel
theorem dX10_named_56 : decode cX10_named 56 = .ok (.if_icmp .ne 28, 3) := by decide +kernel
theorem dX10_named_59 : decode cX10_named 59 = .ok (.aload_n 0, 1) := by decide +kernel
theorem dX10_named_60 : decode cX10_named 60 = .ok (.iload_n 1, 1) := by decide +kernel
theorem dX10_named_61 : decode cX10_named 61 = .ok (.iconst 0, 1) := by decide +kernel
theorem dX10_named_62 : decode cX10_named 62 = .ok (.invokevirtual 121, 3) := by decide +kernel
theorem dX10_named_65 : decode cX10_named 65 = .ok (.bipush 105, 2) := by decide +kernel
theorem dX10_named_67 : decode cX10_named 67 = .ok (.if_icmp .ne 17, 3) := by decide +kernel
theorem dX10_named_70 : decode cX10_named 70 = .ok (.aload_n 0, 1) := by decide +kernel
theorem dX10_named_71 : decode cX10_named 71 = .ok (.iload_n 1, 1) := by decide +kernel
theorem dX10_named_72 : decode cX10_named 72 = .ok (.iconst 1, 1) := by decide +kernel
theorem dX10_named_73 : decode cX10_named 73 = .ok (.invokevirtual 121, 3) := by decide +kernel
theorem dX10_named_76 : decode cX10_named 76 = .ok (.bipush 100, 2) := by decide +kernel
theorem dX10_named_78 : decode cX10_named 78 = .ok (.if_icmp .ne 6, 3) := by decide +kernel
theorem dX10_named_81 : decode cX10_named 81 = .ok (.bipush 7, 2) := by decide +kernel
theorem dX10_named_83 : decode cX10_named 83 = .ok (.ireturn, 1) := by decide +kernel
theorem dX10_named_84 : decode cX10_named 84 = .ok (.iload_n 2, 1) := by decide +kernel
theorem dX10_named_85 : decode cX10_named 85 = .ok (.iconst 2, 1) := by decide +kernel
theorem dX10_named_86 : decode cX10_named 86 = .ok (.if_icmp .lt 12, 3) := by decide +kernel
theorem dX10_named_89 : decode cX10_named 89 = .ok (.aload_n 0, 1) := by decide +kernel
theorem dX10_named_90 : decode cX10_named 90 = .ok (.iload_n 1, 1) := by decide +kernel
theorem dX10_named_91 : decode cX10_named 91 = .ok (.iconst 0, 1) := by decide +kernel
theorem dX10_named_92 : decode cX10_named 92 = .ok (.invokevirtual 134, 3) := by decide +kernel
theorem dX10_named_95 : decode cX10_named 95 = .ok (.goto 4, 3) := by decide +kernel
theorem dX10_named_98 : decode cX10_named 98 = .ok (.iconst 0, 1) := by decide +kernel
theorem dX10_named_99 : decode cX10_named 99 = .ok (.istore_n 3, 1) := by decide +kernel
theorem dX10_named_100 : decode cX10_named 100 = .ok (.iload_n 2, 1) := by decide +kernel
theorem dX10_named_101 : decode cX10_named 101 = .ok (.iconst 4, 1) := by decide +kernel
theorem dX10_named_102 : decode cX10_named 102 = .ok (.if_icmp .ne 12, 3) := by decide +kernel
theorem dX10_named_105 : decode cX10_named 105 = .ok (.aload_n 0, 1) := by decide +kernel
theorem dX10_named_106 : decode cX10_named 106 = .ok (.iload_n 1, 1) := by decide +kernel
theorem dX10_named_107 : decode cX10_named 107 = .ok (.iconst 2, 1) := by decide +kernel
theorem dX10_named_108 : decode cX10_named 108 = .ok (.invokevirtual 134, 3) := by decide +kernel
theorem dX10_named_111 : decode cX10_named 111 = .ok (.goto 4, 3) := by decide +kernel
theorem dX10_named_114 : decode cX10_named 114 = .ok (.iconst 0, 1) := by decide +kernel
theorem dX10_named_115 : decode cX10_named 115 = .ok (.istore 4, 2) := by decide +kernel
theorem dX10_named_117 : decode cX10_named 117 = .ok (.iload_n 2, 1) := by decide +kernel
theorem dX10_named_118 : decode cX10_named 118 = .ok (.iconst 2, 1) := by decide +kernel
theorem dX10_named_119 : decode cX10_named 119 = .ok (.if_icmp .ne 5, 3) := by decide +kernel
theorem dX10_named_122 : decode cX10_named 122 = .ok (.iload_n 3, 1) := by decide +kernel
theorem dX10_named_123 : decode cX10_named 123 = .ok (.ireturn, 1) := by decide +kernel
theorem dX10_named_124 : decode cX10_named 124 = .ok (.iload_n 2, 1) := by decide +kernel
theorem dX10_named_125 : decode cX10_named 125 = .ok (.iconst 4, 1) := by decide +kernel
theorem dX10_named_126 : decode cX10_named 126 = .ok (.if_icmp .ne 12, 3) := by decide +kernel
theorem dX10_named_129 : decode cX10_named 129 = .ok (.iload_n 3, 1) := by decide +kernel
theorem dX10_named_130 : decode cX10_named 130 = .ok (.ifCond .eq 8, 3) := by decide +kernel
theorem dX10_named_133 : decode cX10_named 133 = .ok (.iload 4, 2) := by decide +kernel
theorem dX10_named_135 : decode cX10_named 135 = .ok (.ifCond .ne 7, 3) := by decide +kernel
theorem dX10_named_138 : decode cX10_named 138 = .ok (.iconst 0, 1) := by decide +kernel
theorem dX10_named_139 : decode cX10_named 139 = .ok (.goto 9, 3) := by decide +kernel
theorem dX10_named_142 : decode cX10_named 142 = .ok (.iconst 2, 1) := by decide +kernel
theorem dX10_named_143 : decode cX10_named 143 = .ok (.iload_n 3, 1) := by decide +kernel
theorem dX10_named_144 : decode cX10_named 144 = .ok (.imul, 1) := by decide +kernel
theorem dX10_named_145 : decode cX10_named 145 = .ok (.iload 4, 2) := by decide +kernel
theorem dX10_named_147 : decode cX10_named 147 = .ok (.iadd, 1) := by decide +kernel
theorem dX10_named_148 : decode cX10_named 148 = .ok (.ireturn, 1) := by decide +kernel
set_option maxRecDepth 20000 in
theorem ggX10_pair_X10_at : GoodIn wsX10_pair wsX10_at := goodIn_r _ [5, 6, 7, 8, 9, 10, 11, 12, 13, 14, 15, 16, 17, 18, 19, 20, 21, 22, 23, 24, 25, 26, 27, 28, 29, 30, 31, 32, 33, 34, 35, 36] (by decide +kernel) (by decide +kernel)
set_option maxRecDepth 20000 in
theorem gX10_pair_X10_at : GoodIn wsX10_pair (wsV RX10 121 RX10 yX10_at wsX10_at) := goodIn_app (goodIn_of _ (by decide +kernel)) ggX10_pair_X10_at
theorem dX10_pair_0 : decode cX10_pair 0 = .ok (.aload_n 0, 1) := by decide +kernel
theorem dX10_pair_1 : decode cX10_pair 1 = .ok (.iload_n 1, 1) := by decide +kernel
theorem dX10_pair_2 : decode cX10_pair 2 = .ok (.iload_n 2, 1) := by decide +kernel
theorem dX10_pair_3 : decode cX10_pair 3 = .ok (.invokevirtual 121, 3) := by decide +kernel
theorem dX10_pair_6 : decode cX10_pair 6 = .ok (.istore_n 3, 1) := by decide +kernel
theorem dX10_pair_7 : decode cX10_pair 7 = .ok (.aload_n 0, 1) := by decide +kernel
theorem dX10_pair_8 : decode cX10_pair 8 = .ok (.iload_n 1, 1) := by decide +kernel
theorem dX10_pair_9 : decode cX10_pair 9 = .ok (.iload_n 2, 1) := by decide +kernel
theorem dX10_pair_10 : decode cX10_pair 10 = .ok (.iconst 1, 1) := by decide +kernel
theorem dX10_pair_11 : decode cX10_pair 11 = .ok (.iadd, 1) := by decide +kernel
theorem dX10_pair_12 : decode cX10_pair 12 = .ok (.invokevirtual 121, 3) := by decide +kernel
theorem dX10_pair_15 : decode cX10_pair 15 = .ok (.istore 4, 2) := by decide +kernel
theorem dX10_pair_17 : decode cX10_pair 17 = .ok (.iload_n 3, 1) := by decide +kernel
theorem dX10_pair_18 : decode cX10_pair 18 = .ok (.bipush 65, 2) := by decide +kernel
theorem dX10_pair_20 : decode cX10_pair 20 = .ok (.if_icmp .ne 14, 3) := by decide +kernel
theorem dX10_pair_23 : decode cX10_pair 23 = .ok (.iload 4, 2) := by decide +kernel
theorem dX10_pair_25 : decode cX10_pair 25 = .ok (.bipush 97, 2) := by decide +kernel
theorem dX10_pair_27 : decode cX10_pair 27 = .ok (.if_icmp .ne 7, 3) := by decide +kernel
theorem dX10_pair_30 : decode cX10_pair 30 = .ok (.iconst 1, 1) := by decide +kernel
theorem dX10_pair_31 : decode cX10_pair 31 = .ok (.goto 21, 3) := by decide +kernel
theorem dX10_pair_34 : decode cX10_pair 34 = .ok (.iload_n 3, 1) := by decide +kernel
theorem dX10_pair_35 : decode cX10_pair 35 = .ok (.bipush 66, 2) := by decide +kernel
theorem dX10_pair_37 : decode cX10_pair 37 = .ok (.if_icmp .ne 14, 3) := by decide +kernel
theorem dX10_pair_40 : decode cX10_pair 40 = .ok (.iload 4, 2) := by decide +kernel
theorem dX10_pair_42 : decode cX10_pair 42 = .ok (.bipush 66, 2) := by decide +kernel
theorem dX10_pair_44 : decode cX10_pair 44 = .ok (.if_icmp .ne 7, 3) := by decide +kernel
theorem dX10_pair_47 : decode cX10_pair 47 = .ok (.iconst 2, 1) := by decide +kernel
theorem dX10_pair_48 : decode cX10_pair 48 = .ok (.goto 4, 3) := by decide +kernel
theorem dX10_pair_51 : decode cX10_pair 51 = .ok (.iconst 0, 1) := by decide +kernel
theorem dX10_pair_52 : decode cX10_pair 52 = .ok (.ireturn, 1) := by decide +kernel
theorem dX10_hashOf_0 : decode cX10_hashOf 0 = .ok (.iconst 0, 1) := by decide +kernel
theorem dX10_hashOf_1 : decode cX10_hashOf 1 = .ok (.istore_n 2, 1) := by decide +kernel
theorem dX10_hashOf_2 : decode cX10_hashOf 2 = .ok (.iconst 0, 1) := by decide +kernel
theorem dX10_hashOf_3 : decode cX10_hashOf 3 = .ok (.istore_n 3, 1) := by decide +kernel
theorem dX10_hashOf_4 : decode cX10_hashOf 4 = .ok (.iload_n 3, 1) := by decide +kernel
theorem dX10_hashOf_5 : decode cX10_hashOf 5 = .ok (.aload_n 0, 1) := by decide +kernel
theorem dX10_hashOf_6 : decode cX10_hashOf 6 = .ok (.getfield 17, 3) := by decide +kernel
theorem dX10_hashOf_9 : decode cX10_hashOf 9 = .ok (.iload_n 1, 1) := by decide +kernel
theorem dX10_hashOf_10 : decode cX10_hashOf 10 = .ok (.iaload, 1) := by decide +kernel
theorem dX10_hashOf_11 : decode cX10_hashOf 11 = .ok (.if_icmp .ge 26, 3) := by decide +kernel
theorem dX10_hashOf_14 : decode cX10_hashOf 14 = .ok (.bipush 31, 2) := by decide +kernel
theorem dX10_hashOf_16 : decode cX10_hashOf 16 = .ok (.iload_n 2, 1) := by decide +kernel
theorem dX10_hashOf_17 : decode cX10_hashOf 17 = .ok (.imul, 1) := by decide +kernel
theorem dX10_hashOf_18 : decode cX10_hashOf 18 = .ok (.aload_n 0, 1) := by decide +kernel
theorem dX10_hashOf_19 : decode cX10_hashOf 19 = .ok (.getfield 21, 3) := by decide +kernel
theorem dX10_hashOf_22 : decode cX10_hashOf 22 = .ok (.bipush 16, 2) := by decide +kernel
theorem dX10_hashOf_24 : decode cX10_hashOf 24 = .ok (.iload_n 1, 1) := by decide +kernel
theorem dX10_hashOf_25 : decode cX10_hashOf 25 = .ok (.imul, 1) := by decide +kernel
theorem dX10_hashOf_26 : decode cX10_hashOf 26 = .ok (.iload_n 3, 1) := by decide +kernel
theorem dX10_hashOf_27 : decode cX10_hashOf 27 = .ok (.iadd, 1) := by decide +kernel
theorem dX10_hashOf_28 : decode cX10_hashOf 28 = .ok (.iaload, 1) := by decide +kernel
theorem dX10_hashOf_29 : decode cX10_hashOf 29 = .ok (.iadd, 1) := by decide +kernel
theorem dX10_hashOf_30 : decode cX10_hashOf 30 = .ok (.istore_n 2, 1) := by decide +kernel
theorem dX10_hashOf_31 : decode cX10_hashOf 31 = .ok (.iinc 3 1, 3) := by decide +kernel
theorem dX10_hashOf_34 : decode cX10_hashOf 34 = .ok (.goto (-30), 3) := by decide +kernel
theorem dX10_hashOf_37 : decode cX10_hashOf 37 = .ok (.iload_n 2, 1) := by decide +kernel
theorem dX10_hashOf_38 : decode cX10_hashOf 38 = .ok (.iload_n 2, 1) := by decide +kernel
theorem dX10_hashOf_39 : decode cX10_hashOf 39 = .ok (.bipush 16, 2) := by decide +kernel
theorem dX10_hashOf_41 : decode cX10_hashOf 41 = .ok (.iushr, 1) := by decide +kernel
theorem dX10_hashOf_42 : decode cX10_hashOf 42 = .ok (.ixor, 1) := by decide +kernel
theorem dX10_hashOf_43 : decode cX10_hashOf 43 = .ok (.ireturn, 1) := by decide +kernel
set_option maxRecDepth 20000 in
theorem ggX10_look_X10_hashOf : GoodIn wsX10_look wsX10_hashOf := goodIn_r _ [11, 12, 13, 18, 19, 20, 21, 22, 23, 24, 25, 26, 27, 28, 29, 30, 31, 32, 33, 34, 35, 36, 37, 38, 39, 40, 41, 42, 43] (by decide +kernel) (by decide +kernel)
set_option maxRecDepth 20000 in
theorem gX10_look_X10_hashOf : GoodIn wsX10_look (wsV RX10 137 RX10 yX10_hashOf wsX10_hashOf) := goodIn_app (goodIn_of _ (by decide +kernel)) ggX10_look_X10_hashOf
set_option maxRecDepth 20000 in
theorem ggX10_look_X10_areLike : GoodIn wsX10_look wsX10_areLike := goodIn_r _ [17, 12, 13, 18, 19, 20, 21, 22, 23, 24, 25, 26, 27, 28, 29, 30, 31, 32, 33, 34, 35, 36, 37, 38, 39, 40, 41, 42, 43] (by decide +kernel) (by decide +kernel)
set_option maxRecDepth 20000 in
theorem gX10_look_X10_areLike : GoodIn wsX10_look (wsV RX10 140 RX10 yX10_areLike wsX10_areLike) := goodIn_app (goodIn_of _ (by decide +kernel)) ggX10_look_X10_areLike
theorem dX10_look_0 : decode cX10_look 0 = .ok (.aload_n 0, 1) := by decide +kernel
theorem dX10_look_1 : decode cX10_look 1 = .ok (.iload_n 2, 1) := by decide +kernel
theorem dX10_look_2 : decode cX10_look 2 = .ok (.invokevirtual 137, 3) := by decide +kernel
theorem dX10_look_5 : decode cX10_look 5 = .ok (.aload_n 0, 1) := by decide +kernel
theorem dX10_look_6 : decode cX10_look 6 = .ok (.getfield 40, 3) := by decide +kernel
theorem dX10_look_9 : decode cX10_look 9 = .ok (.iload_n 1, 1) := by decide +kernel
theorem dX10_look_10 : decode cX10_look 10 = .ok (.iaload, 1) := by decide +kernel
theorem dX10_look_11 : decode cX10_look 11 = .ok (.iconst 1, 1) := by decide +kernel
theorem dX10_look_12 : decode cX10_look 12 = .ok (.isub, 1) := by decide +kernel
theorem dX10_look_13 : decode cX10_look 13 = .ok (.iand, 1) := by decide +kernel
theorem dX10_look_14 : decode cX10_look 14 = .ok (.istore_n 3, 1) := by decide +kernel
theorem dX10_look_15 : decode cX10_look 15 = .ok (.iconst 1, 1) := by decide +kernel
theorem dX10_look_16 : decode cX10_look 16 = .ok (.istore 4, 2) := by decide +kernel
theorem dX10_look_18 : decode cX10_look 18 = .ok (.aload_n 0, 1) := by decide +kernel
theorem dX10_look_19 : decode cX10_look 19 = .ok (.getfield 53, 3) := by decide +kernel
theorem dX10_look_22 : decode cX10_look 22 = .ok (.sipush 256, 3) := by decide +kernel
theorem dX10_look_25 : decode cX10_look 25 = .ok (.iload_n 1, 1) := by decide +kernel
theorem dX10_look_26 : decode cX10_look 26 = .ok (.imul, 1) := by decide +kernel
theorem dX10_look_27 : decode cX10_look 27 = .ok (.iload_n 3, 1) := by decide +kernel
theorem dX10_look_28 : decode cX10_look 28 = .ok (.iadd, 1) := by decide +kernel
theorem dX10_look_29 : decode cX10_look 29 = .ok (.iaload, 1) := by decide +kernel
theorem dX10_look_30 : decode cX10_look 30 = .ok (.ifCond .le 65, 3) := by decide +kernel
theorem dX10_look_33 : decode cX10_look 33 = .ok (.aload_n 0, 1) := by decide +kernel
theorem dX10_look_34 : decode cX10_look 34 = .ok (.aload_n 0, 1) := by decide +kernel
theorem dX10_look_35 : decode cX10_look 35 = .ok (.getfield 57, 3) := by decide +kernel
theorem dX10_look_38 : decode cX10_look 38 = .ok (.bipush 100, 2) := by decide +kernel
theorem dX10_look_40 : decode cX10_look 40 = .ok (.iload_n 1, 1) := by decide +kernel
theorem dX10_look_41 : decode cX10_look 41 = .ok (.imul, 1) := by decide +kernel
theorem dX10_look_42 : decode cX10_look 42 = .ok (.aload_n 0, 1) := by decide +kernel
theorem dX10_look_43 : decode cX10_look 43 = .ok (.getfield 53, 3) := by decide +kernel
theorem dX10_look_46 : decode cX10_look 46 = .ok (.sipush 256, 3) := by decide +kernel
theorem dX10_look_49 : decode cX10_look 49 = .ok (.iload_n 1, 1) := by decide +kernel
theorem dX10_look_50 : decode cX10_look 50 = .ok (.imul, 1) := by decide +kernel
theorem dX10_look_51 : decode cX10_look 51 = .ok (.iload_n 3, 1) := by decide +kernel
theorem dX10_look_52 : decode cX10_look 52 = .ok (.iadd, 1) := by decide +kernel
theorem dX10_look_53 : decode cX10_look 53 = .ok (.iaload, 1) := by decide +kernel
theorem dX10_look_54 : decode cX10_look 54 = .ok (.iadd, 1) := by decide +kernel
theorem dX10_look_55 : decode cX10_look 55 = .ok (.iconst 1, 1) := by decide +kernel
theorem dX10_look_56 : decode cX10_look 56 = .ok (.isub, 1) := by decide +kernel
theorem dX10_look_57 : decode cX10_look 57 = .ok (.iaload, 1) := by decide +kernel
theorem dX10_look_58 : decode cX10_look 58 = .ok (.iload_n 2, 1) := by decide +kernel
theorem dX10_look_59 : decode cX10_look 59 = .ok (.invokevirtual 140, 3) := by decide +kernel
theorem dX10_look_62 : decode cX10_look 62 = .ok (.ifCond .ne 33, 3) := by decide +kernel
theorem dX10_look_65 : decode cX10_look 65 = .ok (.iload 4, 2) := by decide +kernel
theorem dX10_look_67 : decode cX10_look 67 = .ok (.aload_n 0, 1) := by decide +kernel
theorem dX10_look_68 : decode cX10_look 68 = .ok (.getfield 40, 3) := by decide +kernel
theorem dX10_look_71 : decode cX10_look 71 = .ok (.iload_n 1, 1) := by decide +kernel
theorem dX10_look_72 : decode cX10_look 72 = .ok (.iaload, 1) := by decide +kernel
theorem dX10_look_73 : decode cX10_look 73 = .ok (.if_icmp .gt 22, 3) := by decide +kernel
theorem dX10_look_76 : decode cX10_look 76 = .ok (.iload_n 3, 1) := by decide +kernel
theorem dX10_look_77 : decode cX10_look 77 = .ok (.iconst 1, 1) := by decide +kernel
theorem dX10_look_78 : decode cX10_look 78 = .ok (.iadd, 1) := by decide +kernel
theorem dX10_look_79 : decode cX10_look 79 = .ok (.aload_n 0, 1) := by decide +kernel
theorem dX10_look_80 : decode cX10_look 80 = .ok (.getfield 40, 3) := by decide +kernel
theorem dX10_look_83 : decode cX10_look 83 = .ok (.iload_n 1, 1) := by decide +kernel
theorem dX10_look_84 : decode cX10_look 84 = .ok (.iaload, 1) := by decide +kernel
theorem dX10_look_85 : decode cX10_look 85 = .ok (.iconst 1, 1) := by decide +kernel
theorem dX10_look_86 : decode cX10_look 86 = .ok (.isub, 1) := by decide +kernel
theorem dX10_look_87 : decode cX10_look 87 = .ok (.iand, 1) := by decide +kernel
theorem dX10_look_88 : decode cX10_look 88 = .ok (.istore_n 3, 1) := by decide +kernel
theorem dX10_look_89 : decode cX10_look 89 = .ok (.iinc 4 1, 3) := by decide +kernel
theorem dX10_look_92 : decode cX10_look 92 = .ok (.goto (-74), 3) := by decide +kernel
theorem dX10_look_95 : decode cX10_look 95 = .ok (.aload_n 0, 1) := by decide +kernel
theorem dX10_look_96 : decode cX10_look 96 = .ok (.getfield 46, 3) := by decide +kernel
theorem dX10_look_99 : decode cX10_look 99 = .ok (.iload_n 1, 1) := by decide +kernel
theorem dX10_look_100 : decode cX10_look 100 = .ok (.iload 4, 2) := by decide +kernel
theorem dX10_look_102 : decode cX10_look 102 = .ok (.iastore, 1) := by decide +kernel
theorem dX10_look_103 : decode cX10_look 103 = .ok (.aload_n 0, 1) := by decide +kernel
theorem dX10_look_104 : decode cX10_look 104 = .ok (.dup, 1) := by decide +kernel
theorem dX10_look_105 : decode cX10_look 105 = .ok (.getfield 143, 3) := by decide +kernel
theorem dX10_look_108 : decode cX10_look 108 = .ok (.iload 4, 2) := by decide +kernel
theorem dX10_look_110 : decode cX10_look 110 = .ok (.i2l, 1) := by decide +kernel
theorem dX10_look_111 : decode cX10_look 111 = .ok (.ladd, 1) := by decide +kernel
theorem dX10_look_112 : decode cX10_look 112 = .ok (.putfield 143, 3) := by decide +kernel
theorem dX10_look_115 : decode cX10_look 115 = .ok (.aload_n 0, 1) := by decide +kernel
theorem dX10_look_116 : decode cX10_look 116 = .ok (.dup, 1) := by decide +kernel
theorem dX10_look_117 : decode cX10_look 117 = .ok (.getfield 147, 3) := by decide +kernel
theorem dX10_look_120 : decode cX10_look 120 = .ok (.iconst 1, 1) := by decide +kernel
theorem dX10_look_121 : decode cX10_look 121 = .ok (.iadd, 1) := by decide +kernel
theorem dX10_look_122 : decode cX10_look 122 = .ok (.putfield 147, 3) := by decide +kernel
theorem dX10_look_125 : decode cX10_look 125 = .ok (.iload_n 3, 1) := by decide +kernel
theorem dX10_look_126 : decode cX10_look 126 = .ok (.ireturn, 1) := by decide +kernel
set_option maxRecDepth 20000 in
theorem ggX10_keptFor_X10_areLike : GoodIn wsX10_keptFor wsX10_areLike := goodIn_r _ [7, 8, 9, 19, 20, 21, 22, 23, 24, 25, 26, 27, 28, 29, 30, 31, 32, 33, 34, 35, 36, 37, 38, 39, 40, 41, 42, 43, 44] (by decide +kernel) (by decide +kernel)
set_option maxRecDepth 20000 in
theorem gX10_keptFor_X10_areLike : GoodIn wsX10_keptFor (wsV RX10 140 RX10 yX10_areLike wsX10_areLike) := goodIn_app (goodIn_of _ (by decide +kernel)) ggX10_keptFor_X10_areLike
set_option maxRecDepth 20000 in
theorem ggX10_keptFor_X10_twinOf : GoodIn wsX10_keptFor wsX10_twinOf := goodIn_r _ [13, 8, 9, 14, 15, 16, 6, 17, 18, 19, 20, 21, 22, 23, 24, 25, 26, 27, 28, 29, 30, 31, 32, 33, 34, 35, 36, 37, 38, 39, 40, 41, 42, 43, 44] (by decide +kernel) (by decide +kernel)
set_option maxRecDepth 20000 in
theorem gX10_keptFor_X10_twinOf : GoodIn wsX10_keptFor (wsV RX10 125 RX10 yX10_twinOf wsX10_twinOf) := goodIn_app (goodIn_of _ (by decide +kernel)) ggX10_keptFor_X10_twinOf
theorem dX10_keptFor_0 : decode cX10_keptFor 0 = .ok (.iconst 0, 1) := by decide +kernel
theorem dX10_keptFor_1 : decode cX10_keptFor 1 = .ok (.istore_n 2, 1) := by decide +kernel
theorem dX10_keptFor_2 : decode cX10_keptFor 2 = .ok (.iload_n 2, 1) := by decide +kernel
theorem dX10_keptFor_3 : decode cX10_keptFor 3 = .ok (.aload_n 0, 1) := by decide +kernel
theorem dX10_keptFor_4 : decode cX10_keptFor 4 = .ok (.getfield 150, 3) := by decide +kernel
theorem dX10_keptFor_7 : decode cX10_keptFor 7 = .ok (.if_icmp .ge 30, 3) := by decide +kernel
theorem dX10_keptFor_10 : decode cX10_keptFor 10 = .ok (.aload_n 0, 1) := by decide +kernel
theorem dX10_keptFor_11 : decode cX10_keptFor 11 = .ok (.aload_n 0, 1) := by decide +kernel
theorem dX10_keptFor_12 : decode cX10_keptFor 12 = .ok (.getfield 60, 3) := by decide +kernel
theorem dX10_keptFor_15 : decode cX10_keptFor 15 = .ok (.iload_n 2, 1) := by decide +kernel
theorem dX10_keptFor_16 : decode cX10_keptFor 16 = .ok (.iaload, 1) := by decide +kernel
theorem dX10_keptFor_17 : decode cX10_keptFor 17 = .ok (.iload_n 1, 1) := by decide +kernel
theorem dX10_keptFor_18 : decode cX10_keptFor 18 = .ok (.invokevirtual 140, 3) := by decide +kernel
theorem dX10_keptFor_21 : decode cX10_keptFor 21 = .ok (.ifCond .eq 10, 3) := by decide +kernel
theorem dX10_keptFor_24 : decode cX10_keptFor 24 = .ok (.aload_n 0, 1) := by decide +kernel
theorem dX10_keptFor_25 : decode cX10_keptFor 25 = .ok (.getfield 60, 3) := by decide +kernel
theorem dX10_keptFor_28 : decode cX10_keptFor 28 = .ok (.iload_n 2, 1) := by decide +kernel
theorem dX10_keptFor_29 : decode cX10_keptFor 29 = .ok (.iaload, 1) := by decide +kernel
theorem dX10_keptFor_30 : decode cX10_keptFor 30 = .ok (.ireturn, 1) := by decide +kernel
theorem dX10_keptFor_31 : decode cX10_keptFor 31 = .ok (.iinc 2 1, 3) := by decide +kernel
theorem dX10_keptFor_34 : decode cX10_keptFor 34 = .ok (.goto (-32), 3) := by decide +kernel
theorem dX10_keptFor_37 : decode cX10_keptFor 37 = .ok (.aload_n 0, 1) := by decide +kernel
theorem dX10_keptFor_38 : decode cX10_keptFor 38 = .ok (.getfield 60, 3) := by decide +kernel
theorem dX10_keptFor_41 : decode cX10_keptFor 41 = .ok (.aload_n 0, 1) := by decide +kernel
theorem dX10_keptFor_42 : decode cX10_keptFor 42 = .ok (.getfield 150, 3) := by decide +kernel
theorem dX10_keptFor_45 : decode cX10_keptFor 45 = .ok (.aload_n 0, 1) := by decide +kernel
theorem dX10_keptFor_46 : decode cX10_keptFor 46 = .ok (.iload_n 1, 1) := by decide +kernel
theorem dX10_keptFor_47 : decode cX10_keptFor 47 = .ok (.invokevirtual 125, 3) := by decide +kernel
theorem dX10_keptFor_50 : decode cX10_keptFor 50 = .ok (.iastore, 1) := by decide +kernel
theorem dX10_keptFor_51 : decode cX10_keptFor 51 = .ok (.aload_n 0, 1) := by decide +kernel
theorem dX10_keptFor_52 : decode cX10_keptFor 52 = .ok (.dup, 1) := by decide +kernel
theorem dX10_keptFor_53 : decode cX10_keptFor 53 = .ok (.getfield 150, 3) := by decide +kernel
theorem dX10_keptFor_56 : decode cX10_keptFor 56 = .ok (.iconst 1, 1) := by decide +kernel
theorem dX10_keptFor_57 : decode cX10_keptFor 57 = .ok (.iadd, 1) := by decide +kernel
theorem dX10_keptFor_58 : decode cX10_keptFor 58 = .ok (.putfield 150, 3) := by decide +kernel
theorem dX10_keptFor_61 : decode cX10_keptFor 61 = .ok (.aload_n 0, 1) := by decide +kernel
theorem dX10_keptFor_62 : decode cX10_keptFor 62 = .ok (.getfield 60, 3) := by decide +kernel
theorem dX10_keptFor_65 : decode cX10_keptFor 65 = .ok (.aload_n 0, 1) := by decide +kernel
theorem dX10_keptFor_66 : decode cX10_keptFor 66 = .ok (.getfield 150, 3) := by decide +kernel
theorem dX10_keptFor_69 : decode cX10_keptFor 69 = .ok (.iconst 1, 1) := by decide +kernel
theorem dX10_keptFor_70 : decode cX10_keptFor 70 = .ok (.isub, 1) := by decide +kernel
theorem dX10_keptFor_71 : decode cX10_keptFor 71 = .ok (.iaload, 1) := by decide +kernel
theorem dX10_keptFor_72 : decode cX10_keptFor 72 = .ok (.ireturn, 1) := by decide +kernel
set_option maxRecDepth 20000 in
theorem ggX10_grow_X10_hashOf : GoodIn wsX10_grow wsX10_hashOf := goodIn_r _ [10, 11, 12, 13, 14, 15, 16, 17, 18, 19, 20, 21, 22, 23, 24, 25, 26, 27, 28, 29, 30, 31, 32, 33, 34, 35, 36, 37, 38] (by decide +kernel) (by decide +kernel)
set_option maxRecDepth 20000 in
theorem gX10_grow_X10_hashOf : GoodIn wsX10_grow (wsV RX10 137 RX10 yX10_hashOf wsX10_hashOf) := goodIn_app (goodIn_of _ (by decide +kernel)) ggX10_grow_X10_hashOf
theorem dX10_grow_0 : decode cX10_grow 0 = .ok (.aload_n 0, 1) := by decide +kernel
theorem dX10_grow_1 : decode cX10_grow 1 = .ok (.getfield 40, 3) := by decide +kernel
theorem dX10_grow_4 : decode cX10_grow 4 = .ok (.iload_n 1, 1) := by decide +kernel
theorem dX10_grow_5 : decode cX10_grow 5 = .ok (.dup2, 1) := by decide +kernel
theorem dX10_grow_6 : decode cX10_grow 6 = .ok (.iaload, 1) := by decide +kernel
theorem dX10_grow_7 : decode cX10_grow 7 = .ok (.iconst 2, 1) := by decide +kernel
theorem dX10_grow_8 : decode cX10_grow 8 = .ok (.imul, 1) := by decide +kernel
theorem dX10_grow_9 : decode cX10_grow 9 = .ok (.iastore, 1) := by decide +kernel
theorem dX10_grow_10 : decode cX10_grow 10 = .ok (.aload_n 0, 1) := by decide +kernel
theorem dX10_grow_11 : decode cX10_grow 11 = .ok (.getfield 49, 3) := by decide +kernel
theorem dX10_grow_14 : decode cX10_grow 14 = .ok (.iload_n 1, 1) := by decide +kernel
theorem dX10_grow_15 : decode cX10_grow 15 = .ok (.dup2, 1) := by decide +kernel
theorem dX10_grow_16 : decode cX10_grow 16 = .ok (.iaload, 1) := by decide +kernel
theorem dX10_grow_17 : decode cX10_grow 17 = .ok (.iconst 1, 1) := by decide +kernel
theorem dX10_grow_18 : decode cX10_grow 18 = .ok (.iadd, 1) := by decide +kernel
theorem dX10_grow_19 : decode cX10_grow 19 = .ok (.iastore, 1) := by decide +kernel
theorem dX10_grow_20 : decode cX10_grow 20 = .ok (.iconst 0, 1) := by decide +kernel
theorem dX10_grow_21 : decode cX10_grow 21 = .ok (.istore_n 2, 1) := by decide +kernel
theorem dX10_grow_22 : decode cX10_grow 22 = .ok (.iload_n 2, 1) := by decide +kernel
theorem dX10_grow_23 : decode cX10_grow 23 = .ok (.aload_n 0, 1) := by decide +kernel
theorem dX10_grow_24 : decode cX10_grow 24 = .ok (.getfield 40, 3) := by decide +kernel
theorem dX10_grow_27 : decode cX10_grow 27 = .ok (.iload_n 1, 1) := by decide +kernel
theorem dX10_grow_28 : decode cX10_grow 28 = .ok (.iaload, 1) := by decide +kernel
theorem dX10_grow_29 : decode cX10_grow 29 = .ok (.if_icmp .ge 22, 3) := by decide +kernel
theorem dX10_grow_32 : decode cX10_grow 32 = .ok (.aload_n 0, 1) := by decide +kernel
theorem dX10_grow_33 : decode cX10_grow 33 = .ok (.getfield 53, 3) := by decide +kernel
theorem dX10_grow_36 : decode cX10_grow 36 = .ok (.sipush 256, 3) := by decide +kernel
theorem dX10_grow_39 : decode cX10_grow 39 = .ok (.iload_n 1, 1) := by decide +kernel
theorem dX10_grow_40 : decode cX10_grow 40 = .ok (.imul, 1) := by decide +kernel
theorem dX10_grow_41 : decode cX10_grow 41 = .ok (.iload_n 2, 1) := by decide +kernel
theorem dX10_grow_42 : decode cX10_grow 42 = .ok (.iadd, 1) := by decide +kernel
theorem dX10_grow_43 : decode cX10_grow 43 = .ok (.iconst 0, 1) := by decide +kernel
theorem dX10_grow_44 : decode cX10_grow 44 = .ok (.iastore, 1) := by decide +kernel
theorem dX10_grow_45 : decode cX10_grow 45 = .ok (.iinc 2 1, 3) := by decide +kernel
theorem dX10_grow_48 : decode cX10_grow 48 = .ok (.goto (-26), 3) := by decide +kernel
theorem dX10_grow_51 : decode cX10_grow 51 = .ok (.iconst 0, 1) := by decide +kernel
theorem dX10_grow_52 : decode cX10_grow 52 = .ok (.istore_n 2, 1) := by decide +kernel
theorem dX10_grow_53 : decode cX10_grow 53 = .ok (.iload_n 2, 1) := by decide +kernel
theorem dX10_grow_54 : decode cX10_grow 54 = .ok (.aload_n 0, 1) := by decide +kernel
theorem dX10_grow_55 : decode cX10_grow 55 = .ok (.getfield 43, 3) := by decide +kernel
theorem dX10_grow_58 : decode cX10_grow 58 = .ok (.iload_n 1, 1) := by decide +kernel
theorem dX10_grow_59 : decode cX10_grow 59 = .ok (.iaload, 1) := by decide +kernel
theorem dX10_grow_60 : decode cX10_grow 60 = .ok (.if_icmp .ge 80, 3) := by decide +kernel
theorem dX10_grow_63 : decode cX10_grow 63 = .ok (.aload_n 0, 1) := by decide +kernel
theorem dX10_grow_64 : decode cX10_grow 64 = .ok (.aload_n 0, 1) := by decide +kernel
theorem dX10_grow_65 : decode cX10_grow 65 = .ok (.getfield 57, 3) := by decide +kernel
theorem dX10_grow_68 : decode cX10_grow 68 = .ok (.bipush 100, 2) := by decide +kernel
theorem dX10_grow_70 : decode cX10_grow 70 = .ok (.iload_n 1, 1) := by decide +kernel
theorem dX10_grow_71 : decode cX10_grow 71 = .ok (.imul, 1) := by decide +kernel
theorem dX10_grow_72 : decode cX10_grow 72 = .ok (.iload_n 2, 1) := by decide +kernel
theorem dX10_grow_73 : decode cX10_grow 73 = .ok (.iadd, 1) := by decide +kernel
theorem dX10_grow_74 : decode cX10_grow 74 = .ok (.iaload, 1) := by decide +kernel
theorem dX10_grow_75 : decode cX10_grow 75 = .ok (.invokevirtual 137, 3) := by decide +kernel
theorem dX10_grow_78 : decode cX10_grow 78 = .ok (.aload_n 0, 1) := by decide +kernel
theorem dX10_grow_79 : decode cX10_grow 79 = .ok (.getfield 40, 3) := by decide +kernel
theorem dX10_grow_82 : decode cX10_grow 82 = .ok (.iload_n 1, 1) := by decide +kernel
theorem dX10_grow_83 : decode cX10_grow 83 = .ok (.iaload, 1) := by decide +kernel
theorem dX10_grow_84 : decode cX10_grow 84 = .ok (.iconst 1, 1) := by decide +kernel
theorem dX10_grow_85 : decode cX10_grow 85 = .ok (.isub, 1) := by decide +kernel
theorem dX10_grow_86 : decode cX10_grow 86 = .ok (.iand, 1) := by decide +kernel
theorem dX10_grow_87 : decode cX10_grow 87 = .ok (.istore_n 3, 1) := by decide +kernel
theorem dX10_grow_88 : decode cX10_grow 88 = .ok (.aload_n 0, 1) := by decide +kernel
theorem dX10_grow_89 : decode cX10_grow 89 = .ok (.getfield 53, 3) := by decide +kernel
theorem dX10_grow_92 : decode cX10_grow 92 = .ok (.sipush 256, 3) := by decide +kernel
theorem dX10_grow_95 : decode cX10_grow 95 = .ok (.iload_n 1, 1) := by decide +kernel
theorem dX10_grow_96 : decode cX10_grow 96 = .ok (.imul, 1) := by decide +kernel
theorem dX10_grow_97 : decode cX10_grow 97 = .ok (.iload_n 3, 1) := by decide +kernel
theorem dX10_grow_98 : decode cX10_grow 98 = .ok (.iadd, 1) := by decide +kernel
theorem dX10_grow_99 : decode cX10_grow 99 = .ok (.iaload, 1) := by decide +kernel
theorem dX10_grow_100 : decode cX10_grow 100 = .ok (.ifCond .le 19, 3) := by decide +kernel
theorem dX10_grow_103 : decode cX10_grow 103 = .ok (.iload_n 3, 1) := by decide +kernel
theorem dX10_grow_104 : decode cX10_grow 104 = .ok (.iconst 1, 1) := by decide +kernel
theorem dX10_grow_105 : decode cX10_grow 105 = .ok (.iadd, 1) := by decide +kernel
theorem dX10_grow_106 : decode cX10_grow 106 = .ok (.aload_n 0, 1) := by decide +kernel
theorem dX10_grow_107 : decode cX10_grow 107 = .ok (.getfield 40, 3) := by decide +kernel
theorem dX10_grow_110 : decode cX10_grow 110 = .ok (.iload_n 1, 1) := by decide +kernel
theorem dX10_grow_111 : decode cX10_grow 111 = .ok (.iaload, 1) := by decide +kernel
theorem dX10_grow_112 : decode cX10_grow 112 = .ok (.iconst 1, 1) := by decide +kernel
theorem dX10_grow_113 : decode cX10_grow 113 = .ok (.isub, 1) := by decide +kernel
theorem dX10_grow_114 : decode cX10_grow 114 = .ok (.iand, 1) := by decide +kernel
theorem dX10_grow_115 : decode cX10_grow 115 = .ok (.istore_n 3, 1) := by decide +kernel
theorem dX10_grow_116 : decode cX10_grow 116 = .ok (.goto (-28), 3) := by decide +kernel
theorem dX10_grow_119 : decode cX10_grow 119 = .ok (.aload_n 0, 1) := by decide +kernel
theorem dX10_grow_120 : decode cX10_grow 120 = .ok (.getfield 53, 3) := by decide +kernel
theorem dX10_grow_123 : decode cX10_grow 123 = .ok (.sipush 256, 3) := by decide +kernel
theorem dX10_grow_126 : decode cX10_grow 126 = .ok (.iload_n 1, 1) := by decide +kernel
theorem dX10_grow_127 : decode cX10_grow 127 = .ok (.imul, 1) := by decide +kernel
theorem dX10_grow_128 : decode cX10_grow 128 = .ok (.iload_n 3, 1) := by decide +kernel
theorem dX10_grow_129 : decode cX10_grow 129 = .ok (.iadd, 1) := by decide +kernel
theorem dX10_grow_130 : decode cX10_grow 130 = .ok (.iload_n 2, 1) := by decide +kernel
theorem dX10_grow_131 : decode cX10_grow 131 = .ok (.iconst 1, 1) := by decide +kernel
theorem dX10_grow_132 : decode cX10_grow 132 = .ok (.iadd, 1) := by decide +kernel
theorem dX10_grow_133 : decode cX10_grow 133 = .ok (.iastore, 1) := by decide +kernel
theorem dX10_grow_134 : decode cX10_grow 134 = .ok (.iinc 2 1, 3) := by decide +kernel
theorem dX10_grow_137 : decode cX10_grow 137 = .ok (.goto (-84), 3) := by decide +kernel
theorem dX10_grow_140 : decode cX10_grow 140 = .ok (.return_, 1) := by decide +kernel
set_option maxRecDepth 20000 in
theorem ggX10_comes_X10_look : GoodIn wsX10_comes wsX10_look := goodIn_r _ [10, 5, 1, 3, 11, 12, 13, 14, 15, 16, 9, 17, 18, 19, 20, 21, 22, 23, 44, 45, 46, 47, 48, 49, 50, 51, 52, 53, 54, 55, 56, 57, 58, 59, 60, 61, 62, 63, 64, 65, 66, 67, 68, 69] (by decide +kernel) (by decide +kernel)
set_option maxRecDepth 20000 in
theorem gX10_comes_X10_look : GoodIn wsX10_comes (wsV RX10 153 RX10 yX10_look wsX10_look) := goodIn_app (goodIn_of _ (by decide +kernel)) ggX10_comes_X10_look
set_option maxRecDepth 20000 in
theorem ggX10_comes_X10_keptFor : GoodIn wsX10_comes wsX10_keptFor := goodIn_r _ [27, 28, 29, 20, 21, 22, 9, 23, 18, 19, 30, 31, 32, 33, 34, 35, 36, 37, 38, 44, 45, 46, 47, 48, 49, 50, 51, 52, 53, 54, 55, 56, 57, 58, 59, 60, 61, 62, 63, 64, 65, 66, 67, 68, 69] (by decide +kernel) (by decide +kernel)
set_option maxRecDepth 20000 in
theorem gX10_comes_X10_keptFor : GoodIn wsX10_comes (wsV RX10 156 RX10 yX10_keptFor wsX10_keptFor) := goodIn_app (goodIn_of _ (by decide +kernel)) ggX10_comes_X10_keptFor
set_option maxRecDepth 20000 in
theorem ggX10_comes_X10_twinOf : GoodIn wsX10_comes wsX10_twinOf := goodIn_r _ [33, 18, 19, 34, 35, 36, 9, 37, 38, 44, 45, 46, 47, 48, 49, 50, 51, 52, 53, 54, 55, 56, 57, 58, 59, 60, 61, 62, 63, 64, 65, 66, 67, 68, 69] (by decide +kernel) (by decide +kernel)
set_option maxRecDepth 20000 in
theorem gX10_comes_X10_twinOf : GoodIn wsX10_comes (wsV RX10 125 RX10 yX10_twinOf wsX10_twinOf) := goodIn_app (goodIn_of _ (by decide +kernel)) ggX10_comes_X10_twinOf
set_option maxRecDepth 20000 in
theorem ggX10_comes_X10_grow : GoodIn wsX10_comes wsX10_grow := goodIn_r _ [42, 5, 43, 1, 2, 3, 14, 15, 16, 9, 17, 18, 19, 44, 45, 46, 47, 48, 49, 50, 51, 52, 53, 54, 55, 56, 57, 58, 59, 60, 61, 62, 63, 64, 65, 66, 67, 68, 69] (by decide +kernel) (by decide +kernel)
set_option maxRecDepth 20000 in
theorem gX10_comes_X10_grow : GoodIn wsX10_comes (wsV RX10 159 RX10 yX10_grow wsX10_grow) := goodIn_app (goodIn_of _ (by decide +kernel)) ggX10_comes_X10_grow
theorem dX10_comes_0 : decode cX10_comes 0 = .ok (.aload_n 0, 1) := by decide +kernel
theorem dX10_comes_1 : decode cX10_comes 1 = .ok (.iload_n 1, 1) := by decide +kernel
theorem dX10_comes_2 : decode cX10_comes 2 = .ok (.iload_n 2, 1) := by decide +kernel
theorem dX10_comes_3 : decode cX10_comes 3 = .ok (.invokevirtual 153, 3) := by decide +kernel
theorem dX10_comes_6 : decode cX10_comes 6 = .ok (.istore_n 3, 1) := by decide +kernel
theorem dX10_comes_7 : decode cX10_comes 7 = .ok (.aload_n 0, 1) := by decide +kernel
theorem dX10_comes_8 : decode cX10_comes 8 = .ok (.getfield 53, 3) := by decide +kernel
theorem dX10_comes_11 : decode cX10_comes 11 = .ok (.sipush 256, 3) := by decide +kernel
theorem dX10_comes_14 : decode cX10_comes 14 = .ok (.iload_n 1, 1) := by decide +kernel
theorem dX10_comes_15 : decode cX10_comes 15 = .ok (.imul, 1) := by decide +kernel
theorem dX10_comes_16 : decode cX10_comes 16 = .ok (.iload_n 3, 1) := by decide +kernel
theorem dX10_comes_17 : decode cX10_comes 17 = .ok (.iadd, 1) := by decide +kernel
theorem dX10_comes_18 : decode cX10_comes 18 = .ok (.iaload, 1) := by decide +kernel
theorem dX10_comes_19 : decode cX10_comes 19 = .ok (.ifCond .le 18, 3) := by decide +kernel
theorem dX10_comes_22 : decode cX10_comes 22 = .ok (.aload_n 0, 1) := by decide +kernel
theorem dX10_comes_23 : decode cX10_comes 23 = .ok (.getfield 53, 3) := by decide +kernel
theorem dX10_comes_26 : decode cX10_comes 26 = .ok (.sipush 256, 3) := by decide +kernel
theorem dX10_comes_29 : decode cX10_comes 29 = .ok (.iload_n 1, 1) := by decide +kernel
theorem dX10_comes_30 : decode cX10_comes 30 = .ok (.imul, 1) := by decide +kernel
theorem dX10_comes_31 : decode cX10_comes 31 = .ok (.iload_n 3, 1) := by decide +kernel
theorem dX10_comes_32 : decode cX10_comes 32 = .ok (.iadd, 1) := by decide +kernel
theorem dX10_comes_33 : decode cX10_comes 33 = .ok (.iaload, 1) := by decide +kernel
theorem dX10_comes_34 : decode cX10_comes 34 = .ok (.iconst 1, 1) := by decide +kernel
theorem dX10_comes_35 : decode cX10_comes 35 = .ok (.isub, 1) := by decide +kernel
theorem dX10_comes_36 : decode cX10_comes 36 = .ok (.ireturn, 1) := by decide +kernel
theorem dX10_comes_37 : decode cX10_comes 37 = .ok (.aload_n 0, 1) := by decide +kernel
theorem dX10_comes_38 : decode cX10_comes 38 = .ok (.getfield 43, 3) := by decide +kernel
theorem dX10_comes_41 : decode cX10_comes 41 = .ok (.iload_n 1, 1) := by decide +kernel
theorem dX10_comes_42 : decode cX10_comes 42 = .ok (.iaload, 1) := by decide +kernel
theorem dX10_comes_43 : decode cX10_comes 43 = .ok (.bipush 100, 2) := by decide +kernel
theorem dX10_comes_45 : decode cX10_comes 45 = .ok (.if_icmp .ne 6, 3) := by decide +kernel
theorem dX10_comes_48 : decode cX10_comes 48 = .ok (.bipush (-4), 2) := by decide +kernel
theorem dX10_comes_50 : decode cX10_comes 50 = .ok (.ireturn, 1) := by decide +kernel
theorem dX10_comes_51 : decode cX10_comes 51 = .ok (.aload_n 0, 1) := by decide +kernel
theorem dX10_comes_52 : decode cX10_comes 52 = .ok (.getfield 43, 3) := by decide +kernel
theorem dX10_comes_55 : decode cX10_comes 55 = .ok (.iload_n 1, 1) := by decide +kernel
theorem dX10_comes_56 : decode cX10_comes 56 = .ok (.iaload, 1) := by decide +kernel
theorem dX10_comes_57 : decode cX10_comes 57 = .ok (.istore 4, 2) := by decide +kernel
theorem dX10_comes_59 : decode cX10_comes 59 = .ok (.aload_n 0, 1) := by decide +kernel
theorem dX10_comes_60 : decode cX10_comes 60 = .ok (.getfield 57, 3) := by decide +kernel
theorem dX10_comes_63 : decode cX10_comes 63 = .ok (.bipush 100, 2) := by decide +kernel
theorem dX10_comes_65 : decode cX10_comes 65 = .ok (.iload_n 1, 1) := by decide +kernel
theorem dX10_comes_66 : decode cX10_comes 66 = .ok (.imul, 1) := by decide +kernel
theorem dX10_comes_67 : decode cX10_comes 67 = .ok (.iload 4, 2) := by decide +kernel
theorem dX10_comes_69 : decode cX10_comes 69 = .ok (.iadd, 1) := by decide +kernel
theorem dX10_comes_70 : decode cX10_comes 70 = .ok (.aload_n 0, 1) := by decide +kernel
theorem dX10_comes_71 : decode cX10_comes 71 = .ok (.getfield 36, 3) := by decide +kernel
theorem dX10_comes_74 : decode cX10_comes 74 = .ok (.iload_n 1, 1) := by decide +kernel
theorem dX10_comes_75 : decode cX10_comes 75 = .ok (.baload, 1) := by decide +kernel
theorem dX10_comes_76 : decode cX10_comes 76 = .ok (.ifCond .eq 11, 3) := by decide +kernel
theorem dX10_comes_79 : decode cX10_comes 79 = .ok (.aload_n 0, 1) := by decide +kernel
theorem dX10_comes_80 : decode cX10_comes 80 = .ok (.iload_n 2, 1) := by decide +kernel
theorem dX10_comes_81 : decode cX10_comes 81 = .ok (.invokevirtual 156, 3) := by decide +kernel
theorem dX10_comes_84 : decode cX10_comes 84 = .ok (.goto 8, 3) := by decide +kernel
theorem dX10_comes_87 : decode cX10_comes 87 = .ok (.aload_n 0, 1) := by decide +kernel
theorem dX10_comes_88 : decode cX10_comes 88 = .ok (.iload_n 2, 1) := by decide +kernel
theorem dX10_comes_89 : decode cX10_comes 89 = .ok (.invokevirtual 125, 3) := by decide +kernel
theorem dX10_comes_92 : decode cX10_comes 92 = .ok (.iastore, 1) := by decide +kernel
theorem dX10_comes_93 : decode cX10_comes 93 = .ok (.aload_n 0, 1) := by decide +kernel
theorem dX10_comes_94 : decode cX10_comes 94 = .ok (.getfield 53, 3) := by decide +kernel
theorem dX10_comes_97 : decode cX10_comes 97 = .ok (.sipush 256, 3) := by decide +kernel
theorem dX10_comes_100 : decode cX10_comes 100 = .ok (.iload_n 1, 1) := by decide +kernel
theorem dX10_comes_101 : decode cX10_comes 101 = .ok (.imul, 1) := by decide +kernel
theorem dX10_comes_102 : decode cX10_comes 102 = .ok (.iload_n 3, 1) := by decide +kernel
theorem dX10_comes_103 : decode cX10_comes 103 = .ok (.iadd, 1) := by decide +kernel
theorem dX10_comes_104 : decode cX10_comes 104 = .ok (.iload 4, 2) := by decide +kernel
theorem dX10_comes_106 : decode cX10_comes 106 = .ok (.iconst 1, 1) := by decide +kernel
theorem dX10_comes_107 : decode cX10_comes 107 = .ok (.iadd, 1) := by decide +kernel
theorem dX10_comes_108 : decode cX10_comes 108 = .ok (.iastore, 1) := by decide +kernel
theorem dX10_comes_109 : decode cX10_comes 109 = .ok (.aload_n 0, 1) := by decide +kernel
theorem dX10_comes_110 : decode cX10_comes 110 = .ok (.getfield 43, 3) := by decide +kernel
theorem dX10_comes_113 : decode cX10_comes 113 = .ok (.iload_n 1, 1) := by decide +kernel
theorem dX10_comes_114 : decode cX10_comes 114 = .ok (.dup2, 1) := by decide +kernel
theorem dX10_comes_115 : decode cX10_comes 115 = .ok (.iaload, 1) := by decide +kernel
theorem dX10_comes_116 : decode cX10_comes 116 = .ok (.iconst 1, 1) := by decide +kernel
theorem dX10_comes_117 : decode cX10_comes 117 = .ok (.iadd, 1) := by decide +kernel
theorem dX10_comes_118 : decode cX10_comes 118 = .ok (.iastore, 1) := by decide +kernel
theorem dX10_comes_119 : decode cX10_comes 119 = .ok (.iconst 4, 1) := by decide +kernel
theorem dX10_comes_120 : decode cX10_comes 120 = .ok (.aload_n 0, 1) := by decide +kernel
theorem dX10_comes_121 : decode cX10_comes 121 = .ok (.getfield 43, 3) := by decide +kernel
theorem dX10_comes_124 : decode cX10_comes 124 = .ok (.iload_n 1, 1) := by decide +kernel
theorem dX10_comes_125 : decode cX10_comes 125 = .ok (.iaload, 1) := by decide +kernel
theorem dX10_comes_126 : decode cX10_comes 126 = .ok (.imul, 1) := by decide +kernel
theorem dX10_comes_127 : decode cX10_comes 127 = .ok (.iconst 3, 1) := by decide +kernel
theorem dX10_comes_128 : decode cX10_comes 128 = .ok (.aload_n 0, 1) := by decide +kernel
theorem dX10_comes_129 : decode cX10_comes 129 = .ok (.getfield 40, 3) := by decide +kernel
theorem dX10_comes_132 : decode cX10_comes 132 = .ok (.iload_n 1, 1) := by decide +kernel
theorem dX10_comes_133 : decode cX10_comes 133 = .ok (.iaload, 1) := by decide +kernel
theorem dX10_comes_134 : decode cX10_comes 134 = .ok (.imul, 1) := by decide +kernel
theorem dX10_comes_135 : decode cX10_comes 135 = .ok (.if_icmp .le 8, 3) := by decide +kernel
theorem dX10_comes_138 : decode cX10_comes 138 = .ok (.aload_n 0, 1) := by decide +kernel
theorem dX10_comes_139 : decode cX10_comes 139 = .ok (.iload_n 1, 1) := by decide +kernel
theorem dX10_comes_140 : decode cX10_comes 140 = .ok (.invokevirtual 159, 3) := by decide +kernel
theorem dX10_comes_143 : decode cX10_comes 143 = .ok (.iload 4, 2) := by decide +kernel
theorem dX10_comes_145 : decode cX10_comes 145 = .ok (.ireturn, 1) := by decide +kernel
set_option maxRecDepth 20000 in
theorem ggX10_bothFault_X10_castFault : GoodIn wsX10_bothFault wsX10_castFault := goodIn_r _ [5, 6, 7, 8, 9, 4, 10, 11, 12, 13, 14, 15, 16, 17, 18, 19, 20, 21, 22, 23, 24, 25, 26, 27, 28, 29, 30, 31, 32, 33, 34, 35, 36] (by decide +kernel) (by decide +kernel)
set_option maxRecDepth 20000 in
theorem gX10_bothFault_X10_castFault : GoodIn wsX10_bothFault (wsV RX10 110 RX10 yX10_castFault wsX10_castFault) := goodIn_app (goodIn_of _ (by decide +kernel)) ggX10_bothFault_X10_castFault
theorem dX10_bothFault_0 : decode cX10_bothFault 0 = .ok (.aload_n 0, 1) := by decide +kernel
theorem dX10_bothFault_1 : decode cX10_bothFault 1 = .ok (.iload_n 1, 1) := by decide +kernel
theorem dX10_bothFault_2 : decode cX10_bothFault 2 = .ok (.iconst 4, 1) := by decide +kernel
theorem dX10_bothFault_3 : decode cX10_bothFault 3 = .ok (.invokevirtual 110, 3) := by decide +kernel
theorem dX10_bothFault_6 : decode cX10_bothFault 6 = .ok (.istore 4, 2) := by decide +kernel
theorem dX10_bothFault_8 : decode cX10_bothFault 8 = .ok (.aload_n 0, 1) := by decide +kernel
theorem dX10_bothFault_9 : decode cX10_bothFault 9 = .ok (.iload_n 2, 1) := by decide +kernel
theorem dX10_bothFault_10 : decode cX10_bothFault 10 = .ok (.iload_n 3, 1) := by decide +kernel
theorem dX10_bothFault_11 : decode cX10_bothFault 11 = .ok (.invokevirtual 110, 3) := by decide +kernel
theorem dX10_bothFault_14 : decode cX10_bothFault 14 = .ok (.istore 5, 2) := by decide +kernel
theorem dX10_bothFault_16 : decode cX10_bothFault 16 = .ok (.iload 4, 2) := by decide +kernel
theorem dX10_bothFault_18 : decode cX10_bothFault 18 = .ok (.iconst 2, 1) := by decide +kernel
theorem dX10_bothFault_19 : decode cX10_bothFault 19 = .ok (.if_icmp .eq 9, 3) := by decide +kernel
theorem dX10_bothFault_22 : decode cX10_bothFault 22 = .ok (.iload 5, 2) := by decide +kernel
theorem dX10_bothFault_24 : decode cX10_bothFault 24 = .ok (.iconst 2, 1) := by decide +kernel
theorem dX10_bothFault_25 : decode cX10_bothFault 25 = .ok (.if_icmp .ne 7, 3) := by decide +kernel
theorem dX10_bothFault_28 : decode cX10_bothFault 28 = .ok (.iconst 2, 1) := by decide +kernel
theorem dX10_bothFault_29 : decode cX10_bothFault 29 = .ok (.goto 20, 3) := by decide +kernel
theorem dX10_bothFault_32 : decode cX10_bothFault 32 = .ok (.iload 4, 2) := by decide +kernel
theorem dX10_bothFault_34 : decode cX10_bothFault 34 = .ok (.iconst 1, 1) := by decide +kernel
theorem dX10_bothFault_35 : decode cX10_bothFault 35 = .ok (.if_icmp .eq 9, 3) := by decide +kernel
theorem dX10_bothFault_38 : decode cX10_bothFault 38 = .ok (.iload 5, 2) := by decide +kernel
theorem dX10_bothFault_40 : decode cX10_bothFault 40 = .ok (.iconst 1, 1) := by decide +kernel
theorem dX10_bothFault_41 : decode cX10_bothFault 41 = .ok (.if_icmp .ne 7, 3) := by decide +kernel
theorem dX10_bothFault_44 : decode cX10_bothFault 44 = .ok (.iconst 1, 1) := by decide +kernel
theorem dX10_bothFault_45 : decode cX10_bothFault 45 = .ok (.goto 4, 3) := by decide +kernel
theorem dX10_bothFault_48 : decode cX10_bothFault 48 = .ok (.iconst 0, 1) := by decide +kernel
theorem dX10_bothFault_49 : decode cX10_bothFault 49 = .ok (.ireturn, 1) := by decide +kernel
set_option maxRecDepth 20000 in
theorem ggX10_add_X10_isPlace : GoodIn wsX10_add wsX10_isPlace := goodIn_r _ [6, 7, 8, 5, 9] (by decide +kernel) (by decide +kernel)
set_option maxRecDepth 20000 in
theorem gX10_add_X10_isPlace : GoodIn wsX10_add (va_wsS RX10 86 yX10_isPlace wsX10_isPlace) := goodIn_app (goodIn_of _ (by decide +kernel)) ggX10_add_X10_isPlace
set_option maxRecDepth 20000 in
theorem ggX10_add_X10_bothFault : GoodIn wsX10_add wsX10_bothFault := goodIn_r _ [13, 14, 15, 16, 5, 17, 18, 19, 20, 21, 22, 74, 75, 76, 77, 78, 79, 80, 81, 82, 83, 84, 85, 86, 87, 88, 89, 90, 91, 92, 93, 94, 95, 96, 97, 98, 99] (by decide +kernel) (by decide +kernel)
set_option maxRecDepth 20000 in
theorem gX10_add_X10_bothFault : GoodIn wsX10_add (wsV RX10 163 RX10 yX10_bothFault wsX10_bothFault) := goodIn_app (goodIn_of _ (by decide +kernel)) ggX10_add_X10_bothFault
set_option maxRecDepth 20000 in
theorem ggX10_add_X10_fails : GoodIn wsX10_add wsX10_fails := goodIn_r _ [26, 27, 74, 75, 76, 77, 78, 79, 80, 81, 82, 83, 84, 85, 86, 87, 88, 89, 90, 91, 92, 93, 94, 95, 96, 97, 98, 99] (by decide +kernel) (by decide +kernel)
set_option maxRecDepth 20000 in
theorem gX10_add_X10_fails : GoodIn wsX10_add (wsV RX10 90 RX10 yX10_fails wsX10_fails) := goodIn_app (goodIn_of _ (by decide +kernel)) ggX10_add_X10_fails
set_option maxRecDepth 20000 in
theorem ggX10_add_X10_comes : GoodIn wsX10_add wsX10_comes := goodIn_r _ [31, 32, 33, 34, 35, 36, 37, 38, 39, 5, 40, 41, 42, 43, 44, 45, 46, 47, 48, 49, 50, 51, 52, 53, 54, 55, 56, 57, 58, 59, 60, 61, 62, 63, 64, 65, 66, 67, 68, 69, 70, 71, 72, 73, 74, 75, 76, 77, 78, 79, 80, 81, 82, 83, 84, 85, 86, 87, 88, 89, 90, 91, 92, 93, 94, 95, 96, 97, 98, 99] (by decide +kernel) (by decide +kernel)
set_option maxRecDepth 20000 in
theorem gX10_add_X10_comes : GoodIn wsX10_add (wsV RX10 167 RX10 yX10_comes wsX10_comes) := goodIn_app (goodIn_of _ (by decide +kernel)) ggX10_add_X10_comes
theorem dX10_add_0 : decode cX10_add 0 = .ok (.aload_n 0, 1) := by decide +kernel
theorem dX10_add_1 : decode cX10_add 1 = .ok (.iconst 0, 1) := by decide +kernel
theorem dX10_add_2 : decode cX10_add 2 = .ok (.putfield 66, 3) := by decide +kernel
theorem dX10_add_5 : decode cX10_add 5 = .ok (.iload_n 1, 1) := by decide +kernel
theorem dX10_add_6 : decode cX10_add 6 = .ok (.invokestatic 86, 3) := by decide +kernel
theorem dX10_add_9 : decode cX10_add 9 = .ok (.ifCond .eq 10, 3) := by decide +kernel
theorem dX10_add_12 : decode cX10_add 12 = .ok (.iload_n 2, 1) := by decide +kernel
theorem dX10_add_13 : decode cX10_add 13 = .ok (.invokestatic 86, 3) := by decide +kernel
theorem dX10_add_16 : decode cX10_add 16 = .ok (.ifCond .ne 5, 3) := by decide +kernel
theorem dX10_add_19 : decode cX10_add 19 = .ok (.iconst (-1), 1) := by decide +kernel
theorem dX10_add_20 : decode cX10_add 20 = .ok (.ireturn, 1) := by decide +kernel
theorem dX10_add_21 : decode cX10_add 21 = .ok (.aload_n 0, 1) := by decide +kernel
theorem dX10_add_22 : decode cX10_add 22 = .ok (.iload_n 1, 1) := by decide +kernel
theorem dX10_add_23 : decode cX10_add 23 = .ok (.iload_n 2, 1) := by decide +kernel
theorem dX10_add_24 : decode cX10_add 24 = .ok (.iconst 1, 1) := by decide +kernel
theorem dX10_add_25 : decode cX10_add 25 = .ok (.invokevirtual 163, 3) := by decide +kernel
theorem dX10_add_28 : decode cX10_add 28 = .ok (.istore_n 3, 1) := by decide +kernel
theorem dX10_add_29 : decode cX10_add 29 = .ok (.iload_n 3, 1) := by decide +kernel
theorem dX10_add_30 : decode cX10_add 30 = .ok (.ifCond .le 11, 3) := by decide +kernel
theorem dX10_add_33 : decode cX10_add 33 = .ok (.aload_n 0, 1) := by decide +kernel
theorem dX10_add_34 : decode cX10_add 34 = .ok (.iload_n 3, 1) := by decide +kernel
theorem dX10_add_35 : decode cX10_add 35 = .ok (.invokevirtual 90, 3) := by decide +kernel
theorem dX10_add_38 : decode cX10_add 38 = .ok (.goto 19, 3) := by decide +kernel
theorem dX10_add_41 : decode cX10_add 41 = .ok (.aload_n 0, 1) := by decide +kernel
theorem dX10_add_42 : decode cX10_add 42 = .ok (.aload_n 0, 1) := by decide +kernel
theorem dX10_add_43 : decode cX10_add 43 = .ok (.getfield 13, 3) := by decide +kernel
theorem dX10_add_46 : decode cX10_add 46 = .ok (.iload_n 1, 1) := by decide +kernel
theorem dX10_add_47 : decode cX10_add 47 = .ok (.iaload, 1) := by decide +kernel
theorem dX10_add_48 : decode cX10_add 48 = .ok (.aload_n 0, 1) := by decide +kernel
theorem dX10_add_49 : decode cX10_add 49 = .ok (.getfield 13, 3) := by decide +kernel
theorem dX10_add_52 : decode cX10_add 52 = .ok (.iload_n 2, 1) := by decide +kernel
theorem dX10_add_53 : decode cX10_add 53 = .ok (.iaload, 1) := by decide +kernel
theorem dX10_add_54 : decode cX10_add 54 = .ok (.invokevirtual 167, 3) := by decide +kernel
theorem dX10_add_57 : decode cX10_add 57 = .ok (.ireturn, 1) := by decide +kernel
set_option maxRecDepth 20000 in
theorem ggX10_find_X10_isPlace : GoodIn wsX10_find wsX10_isPlace := goodIn_r _ [7, 8, 9, 6, 10] (by decide +kernel) (by decide +kernel)
set_option maxRecDepth 20000 in
theorem gX10_find_X10_isPlace : GoodIn wsX10_find (va_wsS RX10 86 yX10_isPlace wsX10_isPlace) := goodIn_app (goodIn_of _ (by decide +kernel)) ggX10_find_X10_isPlace
set_option maxRecDepth 20000 in
theorem ggX10_find_X10_bothFault : GoodIn wsX10_find wsX10_bothFault := goodIn_r _ [14, 15, 16, 17, 6, 18, 19, 20, 21, 22, 23, 48, 49, 50, 51, 52, 53, 54, 55, 56, 57, 58, 59, 60, 61, 62, 63, 64, 65, 66, 67, 68, 69, 70, 71, 72, 73] (by decide +kernel) (by decide +kernel)
set_option maxRecDepth 20000 in
theorem gX10_find_X10_bothFault : GoodIn wsX10_find (wsV RX10 163 RX10 yX10_bothFault wsX10_bothFault) := goodIn_app (goodIn_of _ (by decide +kernel)) ggX10_find_X10_bothFault
set_option maxRecDepth 20000 in
theorem ggX10_find_X10_fails : GoodIn wsX10_find wsX10_fails := goodIn_r _ [27, 28, 48, 49, 50, 51, 52, 53, 54, 55, 56, 57, 58, 59, 60, 61, 62, 63, 64, 65, 66, 67, 68, 69, 70, 71, 72, 73] (by decide +kernel) (by decide +kernel)
set_option maxRecDepth 20000 in
theorem gX10_find_X10_fails : GoodIn wsX10_find (wsV RX10 90 RX10 yX10_fails wsX10_fails) := goodIn_app (goodIn_of _ (by decide +kernel)) ggX10_find_X10_fails
