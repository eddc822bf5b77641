set_option maxRecDepth 20000 in
theorem gX4_isDisliked_X4_coming : GoodIn wsX4_isDisliked (wsV RX4 111 RX4 yX4_coming wsX4_coming) := goodIn_app (goodIn_of _ (by decide +kernel)) ggX4_isDisliked_X4_coming
theorem dX4_isDisliked_0 : decode cX4_isDisliked 0 = .ok (.iconst 0, 1) := by decide +kernel
theorem dX4_isDisliked_1 : decode cX4_isDisliked 1 = .ok (.istore 4, 2) := by decide +kernel
theorem dX4_isDisliked_3 : decode cX4_isDisliked 3 = .ok (.iconst 0, 1) := by decide +kernel
theorem dX4_isDisliked_4 : decode cX4_isDisliked 4 = .ok (.istore 5, 2) := by decide +kernel
theorem dX4_isDisliked_6 : decode cX4_isDisliked 6 = .ok (.iload 5, 2) := by decide +kernel
theorem dX4_isDisliked_8 : decode cX4_isDisliked 8 = .ok (.bipush 8, 2) := by decide +kernel
theorem dX4_isDisliked_10 : decode cX4_isDisliked 10 = .ok (.if_icmp .ge 84, 3) := by decide +kernel
theorem dX4_isDisliked_13 : decode cX4_isDisliked 13 = .ok (.aload_n 0, 1) := by decide +kernel
theorem dX4_isDisliked_14 : decode cX4_isDisliked 14 = .ok (.iload_n 1, 1) := by decide +kernel
theorem dX4_isDisliked_15 : decode cX4_isDisliked 15 = .ok (.iload 5, 2) := by decide +kernel
theorem dX4_isDisliked_17 : decode cX4_isDisliked 17 = .ok (.iload_n 3, 1) := by decide +kernel
theorem dX4_isDisliked_18 : decode cX4_isDisliked 18 = .ok (.invokevirtual 111, 3) := by decide +kernel
theorem dX4_isDisliked_21 : decode cX4_isDisliked 21 = .ok (.istore 6, 2) := by decide +kernel
theorem dX4_isDisliked_23 : decode cX4_isDisliked 23 = .ok (.iconst 0, 1) := by decide +kernel
theorem dX4_isDisliked_24 : decode cX4_isDisliked 24 = .ok (.istore 7, 2) := by decide +kernel
theorem dX4_isDisliked_26 : decode cX4_isDisliked 26 = .ok (.iload 7, 2) := by decide +kernel
theorem dX4_isDisliked_28 : decode cX4_isDisliked 28 = .ok (.bipush 8, 2) := by decide +kernel
theorem dX4_isDisliked_30 : decode cX4_isDisliked 30 = .ok (.if_icmp .ge 58, 3) := by decide +kernel
theorem dX4_isDisliked_33 : decode cX4_isDisliked 33 = .ok (.iload 6, 2) := by decide +kernel
theorem dX4_isDisliked_35 : decode cX4_isDisliked 35 = .ok (.iconst (-1), 1) := by decide +kernel
theorem dX4_isDisliked_36 : decode cX4_isDisliked 36 = .ok (.if_icmp .eq 52, 3) := by decide +kernel
theorem dX4_isDisliked_39 : decode cX4_isDisliked 39 = .ok (.iload 4, 2) := by decide +kernel
theorem dX4_isDisliked_41 : decode cX4_isDisliked 41 = .ok (.ifCond .ne 34, 3) := by decide +kernel
theorem dX4_isDisliked_44 : decode cX4_isDisliked 44 = .ok (.aload_n 0, 1) := by decide +kernel
theorem dX4_isDisliked_45 : decode cX4_isDisliked 45 = .ok (.getfield 41, 3) := by decide +kernel
theorem dX4_isDisliked_48 : decode cX4_isDisliked 48 = .ok (.bipush 8, 2) := by decide +kernel
theorem dX4_isDisliked_50 : decode cX4_isDisliked 50 = .ok (.iload_n 2, 1) := by decide +kernel
theorem dX4_isDisliked_51 : decode cX4_isDisliked 51 = .ok (.imul, 1) := by decide +kernel
theorem dX4_isDisliked_52 : decode cX4_isDisliked 52 = .ok (.iload 7, 2) := by decide +kernel
theorem dX4_isDisliked_54 : decode cX4_isDisliked 54 = .ok (.iadd, 1) := by decide +kernel
theorem dX4_isDisliked_55 : decode cX4_isDisliked 55 = .ok (.iaload, 1) := by decide +kernel
theorem dX4_isDisliked_56 : decode cX4_isDisliked 56 = .ok (.ifCond .le 23, 3) := by decide +kernel
theorem dX4_isDisliked_59 : decode cX4_isDisliked 59 = .ok (.aload_n 0, 1) := by decide +kernel
theorem dX4_isDisliked_60 : decode cX4_isDisliked 60 = .ok (.getfield 31, 3) := by decide +kernel
theorem dX4_isDisliked_63 : decode cX4_isDisliked 63 = .ok (.iload 6, 2) := by decide +kernel
theorem dX4_isDisliked_65 : decode cX4_isDisliked 65 = .ok (.iaload, 1) := by decide +kernel
theorem dX4_isDisliked_66 : decode cX4_isDisliked 66 = .ok (.iload 7, 2) := by decide +kernel
theorem dX4_isDisliked_68 : decode cX4_isDisliked 68 = .ok (.ishr, 1) := by decide +kernel
theorem dX4_isDisliked_69 : decode cX4_isDisliked 69 = .ok (.iconst 1, 1) := by decide +kernel
theorem dX4_isDisliked_70 : decode cX4_isDisliked 70 = .ok (.iand, 1) := by decide +kernel
theorem dX4_isDisliked_71 : decode cX4_isDisliked 71 = .ok (.iconst 1, 1) := by decide +kernel
theorem dX4_isDisliked_72 : decode cX4_isDisliked 72 = .ok (.if_icmp .ne 7, 3) := by decide +kernel
theorem dX4_isDisliked_75 : decode cX4_isDisliked 75 = .ok (.iconst 1, 1) := by decide +kernel
theorem dX4_isDisliked_76 : decode cX4_isDisliked 76 = .ok (.goto 4, 3) := by decide +kernel
theorem dX4_isDisliked_79 : decode cX4_isDisliked 79 = .ok (.iconst 0, 1) := by decide +kernel
theorem dX4_isDisliked_80 : decode cX4_isDisliked 80 = .ok (.istore 4, 2) := by decide +kernel
theorem dX4_isDisliked_82 : decode cX4_isDisliked 82 = .ok (.iinc 7 1, 3) := by decide +kernel
theorem dX4_isDisliked_85 : decode cX4_isDisliked 85 = .ok (.goto (-59), 3) := by decide +kernel
theorem dX4_isDisliked_88 : decode cX4_isDisliked 88 = .ok (.iinc 5 1, 3) := by decide +kernel
theorem dX4_isDisliked_91 : decode cX4_isDisliked 91 = .ok (.goto (-85), 3) := by decide +kernel
theorem dX4_isDisliked_94 : decode cX4_isDisliked 94 = .ok (.iload 4, 2) := by decide +kernel
theorem dX4_isDisliked_96 : decode cX4_isDisliked 96 = .ok (.ireturn, 1) := by decide +kernel
set_option maxRecDepth 20000 in
theorem ggX4_plan_X4_isFridge : GoodIn wsX4_plan wsX4_isFridge := goodIn_r _ [10, 11, 12, 9, 13] (by decide +kernel) (by decide +kernel)
set_option maxRecDepth 20000 in
theorem gX4_plan_X4_isFridge : GoodIn wsX4_plan (va_wsS RX4 84 yX4_isFridge wsX4_isFridge) := goodIn_app (goodIn_of _ (by decide +kernel)) ggX4_plan_X4_isFridge
set_option maxRecDepth 20000 in
theorem ggX4_plan_X4_in : GoodIn wsX4_plan wsX4_in := goodIn_r _ [13] (by decide +kernel) (by decide +kernel)
set_option maxRecDepth 20000 in
theorem gX4_plan_X4_in : GoodIn wsX4_plan (va_wsS RX4 63 yX4_in wsX4_in) := goodIn_app (goodIn_of _ (by decide +kernel)) ggX4_plan_X4_in
set_option maxRecDepth 20000 in
theorem ggX4_plan_X4_isDisliked : GoodIn wsX4_plan wsX4_isDisliked := goodIn_r _ [17, 18, 19, 20, 21, 22, 9, 23, 6, 24, 25, 26, 27, 28, 29, 30, 31, 32, 33, 34, 35, 36, 37, 38, 11, 12, 13, 49, 50, 51, 52, 53, 54, 55, 56, 57, 58, 59, 60, 61, 62, 63, 64, 65, 66, 67] (by decide +kernel) (by decide +kernel)
set_option maxRecDepth 20000 in
theorem gX4_plan_X4_isDisliked : GoodIn wsX4_plan (wsV RX4 114 RX4 yX4_isDisliked wsX4_isDisliked) := goodIn_app (goodIn_of _ (by decide +kernel)) ggX4_plan_X4_isDisliked
set_option maxRecDepth 20000 in
theorem ggX4_plan_X4_isFull : GoodIn wsX4_plan wsX4_isFull := goodIn_r _ [42, 6, 49, 50, 51, 52, 53, 54, 55, 56, 57, 58, 59, 60, 61, 62, 63, 64, 65, 66, 67] (by decide +kernel) (by decide +kernel)
set_option maxRecDepth 20000 in
theorem gX4_plan_X4_isFull : GoodIn wsX4_plan (wsV RX4 98 RX4 yX4_isFull wsX4_isFull) := goodIn_app (goodIn_of _ (by decide +kernel)) ggX4_plan_X4_isFull
set_option maxRecDepth 20000 in
theorem ggX4_plan_X4_write : GoodIn wsX4_plan wsX4_write := goodIn_r _ [46, 47, 24, 6, 38, 37, 25, 48, 32, 49, 50, 51, 52, 53, 54, 55, 56, 57, 58, 59, 60, 61, 62, 63, 64, 65, 66, 67] (by decide +kernel) (by decide +kernel)
set_option maxRecDepth 20000 in
theorem gX4_plan_X4_write : GoodIn wsX4_plan (wsV RX4 101 RX4 yX4_write wsX4_write) := goodIn_app (goodIn_of _ (by decide +kernel)) ggX4_plan_X4_write
theorem dX4_plan_0 : decode cX4_plan 0 = .ok (.aload_n 0, 1) := by decide +kernel
theorem dX4_plan_1 : decode cX4_plan 1 = .ok (.iload_n 1, 1) := by decide +kernel
theorem dX4_plan_2 : decode cX4_plan 2 = .ok (.invokestatic 84, 3) := by decide +kernel
theorem dX4_plan_5 : decode cX4_plan 5 = .ok (.ifCond .eq 12, 3) := by decide +kernel
theorem dX4_plan_8 : decode cX4_plan 8 = .ok (.iload_n 2, 1) := by decide +kernel
theorem dX4_plan_9 : decode cX4_plan 9 = .ok (.iconst 0, 1) := by decide +kernel
theorem dX4_plan_10 : decode cX4_plan 10 = .ok (.iconst 5, 1) := by decide +kernel
theorem dX4_plan_11 : decode cX4_plan 11 = .ok (.invokestatic 63, 3) := by decide +kernel
theorem dX4_plan_14 : decode cX4_plan 14 = .ok (.ifCond .ne 7, 3) := by decide +kernel
theorem dX4_plan_17 : decode cX4_plan 17 = .ok (.iconst 1, 1) := by decide +kernel
theorem dX4_plan_18 : decode cX4_plan 18 = .ok (.goto 18, 3) := by decide +kernel
theorem dX4_plan_21 : decode cX4_plan 21 = .ok (.iload_n 3, 1) := by decide +kernel
theorem dX4_plan_22 : decode cX4_plan 22 = .ok (.iconst 0, 1) := by decide +kernel
theorem dX4_plan_23 : decode cX4_plan 23 = .ok (.bipush 99, 2) := by decide +kernel
theorem dX4_plan_25 : decode cX4_plan 25 = .ok (.invokestatic 63, 3) := by decide +kernel
theorem dX4_plan_28 : decode cX4_plan 28 = .ok (.ifCond .ne 7, 3) := by decide +kernel
theorem dX4_plan_31 : decode cX4_plan 31 = .ok (.iconst 2, 1) := by decide +kernel
theorem dX4_plan_32 : decode cX4_plan 32 = .ok (.goto 4, 3) := by decide +kernel
theorem dX4_plan_35 : decode cX4_plan 35 = .ok (.iconst 0, 1) := by decide +kernel
theorem dX4_plan_36 : decode cX4_plan 36 = .ok (.putfield 60, 3) := by decide +kernel
theorem dX4_plan_39 : decode cX4_plan 39 = .ok (.aload_n 0, 1) := by decide +kernel
theorem dX4_plan_40 : decode cX4_plan 40 = .ok (.getfield 60, 3) := by decide +kernel
theorem dX4_plan_43 : decode cX4_plan 43 = .ok (.ifCond .ne 39, 3) := by decide +kernel
theorem dX4_plan_46 : decode cX4_plan 46 = .ok (.aload_n 0, 1) := by decide +kernel
theorem dX4_plan_47 : decode cX4_plan 47 = .ok (.aload_n 0, 1) := by decide +kernel
theorem dX4_plan_48 : decode cX4_plan 48 = .ok (.iload_n 1, 1) := by decide +kernel
theorem dX4_plan_49 : decode cX4_plan 49 = .ok (.iload_n 2, 1) := by decide +kernel
theorem dX4_plan_50 : decode cX4_plan 50 = .ok (.iload_n 3, 1) := by decide +kernel
theorem dX4_plan_51 : decode cX4_plan 51 = .ok (.invokevirtual 114, 3) := by decide +kernel
theorem dX4_plan_54 : decode cX4_plan 54 = .ok (.ifCond .ne 20, 3) := by decide +kernel
theorem dX4_plan_57 : decode cX4_plan 57 = .ok (.aload_n 0, 1) := by decide +kernel
theorem dX4_plan_58 : decode cX4_plan 58 = .ok (.getfield 67, 3) := by decide +kernel
theorem dX4_plan_61 : decode cX4_plan 61 = .ok (.bipush 20, 2) := by decide +kernel
theorem dX4_plan_63 : decode cX4_plan 63 = .ok (.if_icmp .eq 11, 3) := by decide +kernel
theorem dX4_plan_66 : decode cX4_plan 66 = .ok (.aload_n 0, 1) := by decide +kernel
theorem dX4_plan_67 : decode cX4_plan 67 = .ok (.iconst 1, 1) := by decide +kernel
theorem dX4_plan_68 : decode cX4_plan 68 = .ok (.invokevirtual 98, 3) := by decide +kernel
theorem dX4_plan_71 : decode cX4_plan 71 = .ok (.ifCond .eq 7, 3) := by decide +kernel
theorem dX4_plan_74 : decode cX4_plan 74 = .ok (.iconst 3, 1) := by decide +kernel
theorem dX4_plan_75 : decode cX4_plan 75 = .ok (.goto 4, 3) := by decide +kernel
theorem dX4_plan_78 : decode cX4_plan 78 = .ok (.iconst 0, 1) := by decide +kernel
theorem dX4_plan_79 : decode cX4_plan 79 = .ok (.putfield 60, 3) := by decide +kernel
theorem dX4_plan_82 : decode cX4_plan 82 = .ok (.aload_n 0, 1) := by decide +kernel
theorem dX4_plan_83 : decode cX4_plan 83 = .ok (.getfield 60, 3) := by decide +kernel
theorem dX4_plan_86 : decode cX4_plan 86 = .ok (.ifCond .le 5, 3) := by decide +kernel
theorem dX4_plan_89 : decode cX4_plan 89 = .ok (.iconst 0, 1) := by decide +kernel
theorem dX4_plan_90 : decode cX4_plan 90 = .ok (.ireturn, 1) := by decide +kernel
theorem dX4_plan_91 : decode cX4_plan 91 = .ok (.aload_n 0, 1) := by decide +kernel
theorem dX4_plan_92 : decode cX4_plan 92 = .ok (.getfield 44, 3) := by decide +kernel
theorem dX4_plan_95 : decode cX4_plan 95 = .ok (.aload_n 0, 1) := by decide +kernel
theorem dX4_plan_96 : decode cX4_plan 96 = .ok (.getfield 67, 3) := by decide +kernel
theorem dX4_plan_99 : decode cX4_plan 99 = .ok (.iload_n 2, 1) := by decide +kernel
theorem dX4_plan_100 : decode cX4_plan 100 = .ok (.iastore, 1) := by decide +kernel
theorem dX4_plan_101 : decode cX4_plan 101 = .ok (.aload_n 0, 1) := by decide +kernel
theorem dX4_plan_102 : decode cX4_plan 102 = .ok (.getfield 47, 3) := by decide +kernel
theorem dX4_plan_105 : decode cX4_plan 105 = .ok (.aload_n 0, 1) := by decide +kernel
theorem dX4_plan_106 : decode cX4_plan 106 = .ok (.getfield 67, 3) := by decide +kernel
theorem dX4_plan_109 : decode cX4_plan 109 = .ok (.iload_n 3, 1) := by decide +kernel
theorem dX4_plan_110 : decode cX4_plan 110 = .ok (.iastore, 1) := by decide +kernel
theorem dX4_plan_111 : decode cX4_plan 111 = .ok (.aload_n 0, 1) := by decide +kernel
theorem dX4_plan_112 : decode cX4_plan 112 = .ok (.getfield 50, 3) := by decide +kernel
theorem dX4_plan_115 : decode cX4_plan 115 = .ok (.aload_n 0, 1) := by decide +kernel
theorem dX4_plan_116 : decode cX4_plan 116 = .ok (.getfield 67, 3) := by decide +kernel
theorem dX4_plan_119 : decode cX4_plan 119 = .ok (.aload_n 0, 1) := by decide +kernel
theorem dX4_plan_120 : decode cX4_plan 120 = .ok (.getfield 56, 3) := by decide +kernel
theorem dX4_plan_123 : decode cX4_plan 123 = .ok (.iastore, 1) := by decide +kernel
theorem dX4_plan_124 : decode cX4_plan 124 = .ok (.aload_n 0, 1) := by decide +kernel
theorem dX4_plan_125 : decode cX4_plan 125 = .ok (.iload_n 1, 1) := by decide +kernel
theorem dX4_plan_126 : decode cX4_plan 126 = .ok (.iconst 3, 1) := by decide +kernel
theorem dX4_plan_127 : decode cX4_plan 127 = .ok (.aload_n 0, 1) := by decide +kernel
theorem dX4_plan_128 : decode cX4_plan 128 = .ok (.getfield 67, 3) := by decide +kernel
theorem dX4_plan_131 : decode cX4_plan 131 = .ok (.iconst (-1), 1) := by decide +kernel
theorem dX4_plan_132 : decode cX4_plan 132 = .ok (.invokevirtual 101, 3) := by decide +kernel
theorem dX4_plan_135 : decode cX4_plan 135 = .ok (.istore 4, 2) := by decide +kernel
theorem dX4_plan_137 : decode cX4_plan 137 = .ok (.aload_n 0, 1) := by decide +kernel
theorem dX4_plan_138 : decode cX4_plan 138 = .ok (.dup, 1) := by decide +kernel
theorem dX4_plan_139 : decode cX4_plan 139 = .ok (.getfield 67, 3) := by decide +kernel
theorem dX4_plan_142 : decode cX4_plan 142 = .ok (.iconst 1, 1) := by decide +kernel
theorem dX4_plan_143 : decode cX4_plan 143 = .ok (.iadd, 1) := by decide +kernel
theorem dX4_plan_144 : decode cX4_plan 144 = .ok (.putfield 67, 3) := by decide +kernel
theorem dX4_plan_147 : decode cX4_plan 147 = .ok (.aload_n 0, 1) := by decide +kernel
theorem dX4_plan_148 : decode cX4_plan 148 = .ok (.getfield 67, 3) := by decide +kernel
theorem dX4_plan_151 : decode cX4_plan 151 = .ok (.iconst 1, 1) := by decide +kernel
theorem dX4_plan_152 : decode cX4_plan 152 = .ok (.isub, 1) := by decide +kernel
theorem dX4_plan_153 : decode cX4_plan 153 = .ok (.ireturn, 1) := by decide +kernel
set_option maxRecDepth 20000 in
theorem ggX4_stateOf_X4_knows : GoodIn wsX4_stateOf wsX4_knows := goodIn_r _ [9, 10, 11, 12, 13, 14, 15, 16, 17, 18, 19, 20, 21, 22, 23, 24, 25, 26, 27, 28, 29] (by decide +kernel) (by decide +kernel)
set_option maxRecDepth 20000 in
theorem gX4_stateOf_X4_knows : GoodIn wsX4_stateOf (wsV RX4 70 RX4 yX4_knows wsX4_knows) := goodIn_app (goodIn_of _ (by decide +kernel)) ggX4_stateOf_X4_knows
theorem dX4_stateOf_0 : decode cX4_stateOf 0 = .ok (.aload_n 0, 1) := by decide +kernel
theorem dX4_stateOf_1 : decode cX4_stateOf 1 = .ok (.iload_n 1, 1) := by decide +kernel
theorem dX4_stateOf_2 : decode cX4_stateOf 2 = .ok (.aload_n 0, 1) := by decide +kernel
theorem dX4_stateOf_3 : decode cX4_stateOf 3 = .ok (.getfield 50, 3) := by decide +kernel
theorem dX4_stateOf_6 : decode cX4_stateOf 6 = .ok (.iload_n 2, 1) := by decide +kernel
theorem dX4_stateOf_7 : decode cX4_stateOf 7 = .ok (.iaload, 1) := by decide +kernel
theorem dX4_stateOf_8 : decode cX4_stateOf 8 = .ok (.invokevirtual 70, 3) := by decide +kernel
theorem dX4_stateOf_11 : decode cX4_stateOf 11 = .ok (.ifCond .ne 5, 3) := by decide +kernel
theorem dX4_stateOf_14 : decode cX4_stateOf 14 = .ok (.iconst 0, 1) := by decide +kernel
theorem dX4_stateOf_15 : decode cX4_stateOf 15 = .ok (.ireturn, 1) := by decide +kernel
theorem dX4_stateOf_16 : decode cX4_stateOf 16 = .ok (.iconst 1, 1) := by decide +kernel
theorem dX4_stateOf_17 : decode cX4_stateOf 17 = .ok (.istore_n 3, 1) := by decide +kernel
theorem dX4_stateOf_18 : decode cX4_stateOf 18 = .ok (.iconst 0, 1) := by decide +kernel
theorem dX4_stateOf_19 : decode cX4_stateOf 19 = .ok (.istore 4, 2) := by decide +kernel
theorem dX4_stateOf_21 : decode cX4_stateOf 21 = .ok (.iload 4, 2) := by decide +kernel
theorem dX4_stateOf_23 : decode cX4_stateOf 23 = .ok (.aload_n 0, 1) := by decide +kernel
theorem dX4_stateOf_24 : decode cX4_stateOf 24 = .ok (.getfield 56, 3) := by decide +kernel
theorem dX4_stateOf_27 : decode cX4_stateOf 27 = .ok (.if_icmp .ge 85, 3) := by decide +kernel
theorem dX4_stateOf_30 : decode cX4_stateOf 30 = .ok (.aload_n 0, 1) := by decide +kernel
theorem dX4_stateOf_31 : decode cX4_stateOf 31 = .ok (.iload_n 1, 1) := by decide +kernel
theorem dX4_stateOf_32 : decode cX4_stateOf 32 = .ok (.iload 4, 2) := by decide +kernel
theorem dX4_stateOf_34 : decode cX4_stateOf 34 = .ok (.invokevirtual 70, 3) := by decide +kernel
theorem dX4_stateOf_37 : decode cX4_stateOf 37 = .ok (.ifCond .eq 18, 3) := by decide +kernel
theorem dX4_stateOf_40 : decode cX4_stateOf 40 = .ok (.aload_n 0, 1) := by decide +kernel
theorem dX4_stateOf_41 : decode cX4_stateOf 41 = .ok (.getfield 19, 3) := by decide +kernel
theorem dX4_stateOf_44 : decode cX4_stateOf 44 = .ok (.iload 4, 2) := by decide +kernel
theorem dX4_stateOf_46 : decode cX4_stateOf 46 = .ok (.iaload, 1) := by decide +kernel
theorem dX4_stateOf_47 : decode cX4_stateOf 47 = .ok (.iload_n 2, 1) := by decide +kernel
theorem dX4_stateOf_48 : decode cX4_stateOf 48 = .ok (.if_icmp .ne 7, 3) := by decide +kernel
theorem dX4_stateOf_51 : decode cX4_stateOf 51 = .ok (.iconst 1, 1) := by decide +kernel
theorem dX4_stateOf_52 : decode cX4_stateOf 52 = .ok (.goto 4, 3) := by decide +kernel
theorem dX4_stateOf_55 : decode cX4_stateOf 55 = .ok (.iconst 0, 1) := by decide +kernel
theorem dX4_stateOf_56 : decode cX4_stateOf 56 = .ok (.istore 5, 2) := by decide +kernel
theorem dX4_stateOf_58 : decode cX4_stateOf 58 = .ok (.iload 5, 2) := by decide +kernel
theorem dX4_stateOf_60 : decode cX4_stateOf 60 = .ok (.ifCond .eq 19, 3) := by decide +kernel
theorem dX4_stateOf_63 : decode cX4_stateOf 63 = .ok (.aload_n 0, 1) := by decide +kernel
theorem dX4_stateOf_64 : decode cX4_stateOf 64 = .ok (.getfield 7, 3) := by decide +kernel
theorem dX4_stateOf_67 : decode cX4_stateOf 67 = .ok (.iload 4, 2) := by decide +kernel
theorem dX4_stateOf_69 : decode cX4_stateOf 69 = .ok (.iaload, 1) := by decide +kernel
theorem dX4_stateOf_70 : decode cX4_stateOf 70 = .ok (.bipush 6, 2) := by decide +kernel
theorem dX4_stateOf_72 : decode cX4_stateOf 72 = .ok (.if_icmp .ne 7, 3) := by decide +kernel
theorem dX4_stateOf_75 : decode cX4_stateOf 75 = .ok (.iconst 3, 1) := by decide +kernel
theorem dX4_stateOf_76 : decode cX4_stateOf 76 = .ok (.goto 29, 3) := by decide +kernel
theorem dX4_stateOf_79 : decode cX4_stateOf 79 = .ok (.iload 5, 2) := by decide +kernel
theorem dX4_stateOf_81 : decode cX4_stateOf 81 = .ok (.ifCond .eq 23, 3) := by decide +kernel
theorem dX4_stateOf_84 : decode cX4_stateOf 84 = .ok (.aload_n 0, 1) := by decide +kernel
theorem dX4_stateOf_85 : decode cX4_stateOf 85 = .ok (.getfield 7, 3) := by decide +kernel
theorem dX4_stateOf_88 : decode cX4_stateOf 88 = .ok (.iload 4, 2) := by decide +kernel
theorem dX4_stateOf_90 : decode cX4_stateOf 90 = .ok (.iaload, 1) := by decide +kernel
theorem dX4_stateOf_91 : decode cX4_stateOf 91 = .ok (.iconst 5, 1) := by decide +kernel
theorem dX4_stateOf_92 : decode cX4_stateOf 92 = .ok (.if_icmp .ne 12, 3) := by decide +kernel
theorem dX4_stateOf_95 : decode cX4_stateOf 95 = .ok (.iload_n 3, 1) := by decide +kernel
theorem dX4_stateOf_96 : decode cX4_stateOf 96 = .ok (.iconst 1, 1) := by decide +kernel
theorem dX4_stateOf_97 : decode cX4_stateOf 97 = .ok (.if_icmp .ne 7, 3) := by decide +kernel
theorem dX4_stateOf_100 : decode cX4_stateOf 100 = .ok (.iconst 2, 1) := by decide +kernel
theorem dX4_stateOf_101 : decode cX4_stateOf 101 = .ok (.goto 4, 3) := by decide +kernel
theorem dX4_stateOf_104 : decode cX4_stateOf 104 = .ok (.iload_n 3, 1) := by decide +kernel
theorem dX4_stateOf_105 : decode cX4_stateOf 105 = .ok (.istore_n 3, 1) := by decide +kernel
theorem dX4_stateOf_106 : decode cX4_stateOf 106 = .ok (.iinc 4 1, 3) := by decide +kernel
theorem dX4_stateOf_109 : decode cX4_stateOf 109 = .ok (.goto (-88), 3) := by decide +kernel
theorem dX4_stateOf_112 : decode cX4_stateOf 112 = .ok (.iload_n 3, 1) := by decide +kernel
theorem dX4_stateOf_113 : decode cX4_stateOf 113 = .ok (.ireturn, 1) := by decide +kernel
set_option maxRecDepth 20000 in
theorem ggX4_isAhead_X4_guestMany : GoodIn wsX4_isAhead wsX4_guestMany := goodIn_r _ [7, 8, 9, 10, 6, 11, 12, 13, 14, 15, 16, 17, 18, 19, 20, 21, 22, 23, 24, 25, 26, 27, 28, 29, 30, 31, 32, 33, 34, 35, 36, 37, 38, 39, 40, 41, 42, 43, 44, 45, 46, 47, 48, 49] (by decide +kernel) (by decide +kernel)
set_option maxRecDepth 20000 in
theorem gX4_isAhead_X4_guestMany : GoodIn wsX4_isAhead (wsV RX4 117 RX4 yX4_guestMany wsX4_guestMany) := goodIn_app (goodIn_of _ (by decide +kernel)) ggX4_isAhead_X4_guestMany
set_option maxRecDepth 20000 in
theorem ggX4_isAhead_X4_isLater : GoodIn wsX4_isAhead wsX4_isLater := goodIn_r _ [25, 26, 27, 31, 32, 33, 34, 35, 36, 37, 38, 39, 40, 41, 42, 43, 44, 45, 46, 47, 48, 49] (by decide +kernel) (by decide +kernel)
set_option maxRecDepth 20000 in
theorem gX4_isAhead_X4_isLater : GoodIn wsX4_isAhead (wsV RX4 77 RX4 yX4_isLater wsX4_isLater) := goodIn_app (goodIn_of _ (by decide +kernel)) ggX4_isAhead_X4_isLater
theorem dX4_isAhead_0 : decode cX4_isAhead 0 = .ok (.aload_n 0, 1) := by decide +kernel
theorem dX4_isAhead_1 : decode cX4_isAhead 1 = .ok (.iload_n 1, 1) := by decide +kernel
theorem dX4_isAhead_2 : decode cX4_isAhead 2 = .ok (.aload_n 0, 1) := by decide +kernel
theorem dX4_isAhead_3 : decode cX4_isAhead 3 = .ok (.getfield 47, 3) := by decide +kernel
theorem dX4_isAhead_6 : decode cX4_isAhead 6 = .ok (.iload_n 2, 1) := by decide +kernel
theorem dX4_isAhead_7 : decode cX4_isAhead 7 = .ok (.iaload, 1) := by decide +kernel
theorem dX4_isAhead_8 : decode cX4_isAhead 8 = .ok (.invokevirtual 117, 3) := by decide +kernel
theorem dX4_isAhead_11 : decode cX4_isAhead 11 = .ok (.aload_n 0, 1) := by decide +kernel
theorem dX4_isAhead_12 : decode cX4_isAhead 12 = .ok (.iload_n 1, 1) := by decide +kernel
theorem dX4_isAhead_13 : decode cX4_isAhead 13 = .ok (.aload_n 0, 1) := by decide +kernel
theorem dX4_isAhead_14 : decode cX4_isAhead 14 = .ok (.getfield 47, 3) := by decide +kernel
theorem dX4_isAhead_17 : decode cX4_isAhead 17 = .ok (.iload_n 3, 1) := by decide +kernel
theorem dX4_isAhead_18 : decode cX4_isAhead 18 = .ok (.iaload, 1) := by decide +kernel
theorem dX4_isAhead_19 : decode cX4_isAhead 19 = .ok (.invokevirtual 117, 3) := by decide +kernel
theorem dX4_isAhead_22 : decode cX4_isAhead 22 = .ok (.isub, 1) := by decide +kernel
theorem dX4_isAhead_23 : decode cX4_isAhead 23 = .ok (.istore 4, 2) := by decide +kernel
theorem dX4_isAhead_25 : decode cX4_isAhead 25 = .ok (.iload 4, 2) := by decide +kernel
theorem dX4_isAhead_27 : decode cX4_isAhead 27 = .ok (.ifCond .eq 14, 3) := by decide +kernel
theorem dX4_isAhead_30 : decode cX4_isAhead 30 = .ok (.iload 4, 2) := by decide +kernel
theorem dX4_isAhead_32 : decode cX4_isAhead 32 = .ok (.ifCond .le 7, 3) := by decide +kernel
theorem dX4_isAhead_35 : decode cX4_isAhead 35 = .ok (.iconst 1, 1) := by decide +kernel
theorem dX4_isAhead_36 : decode cX4_isAhead 36 = .ok (.goto 4, 3) := by decide +kernel
theorem dX4_isAhead_39 : decode cX4_isAhead 39 = .ok (.iconst 0, 1) := by decide +kernel
theorem dX4_isAhead_40 : decode cX4_isAhead 40 = .ok (.ireturn, 1) := by decide +kernel
theorem dX4_isAhead_41 : decode cX4_isAhead 41 = .ok (.aload_n 0, 1) := by decide +kernel
theorem dX4_isAhead_42 : decode cX4_isAhead 42 = .ok (.getfield 47, 3) := by decide +kernel
theorem dX4_isAhead_45 : decode cX4_isAhead 45 = .ok (.iload_n 2, 1) := by decide +kernel
theorem dX4_isAhead_46 : decode cX4_isAhead 46 = .ok (.iaload, 1) := by decide +kernel
theorem dX4_isAhead_47 : decode cX4_isAhead 47 = .ok (.aload_n 0, 1) := by decide +kernel
theorem dX4_isAhead_48 : decode cX4_isAhead 48 = .ok (.getfield 47, 3) := by decide +kernel
theorem dX4_isAhead_51 : decode cX4_isAhead 51 = .ok (.iload_n 3, 1) := by decide +kernel
theorem dX4_isAhead_52 : decode cX4_isAhead 52 = .ok (.iaload, 1) := by decide +kernel
theorem dX4_isAhead_53 : decode cX4_isAhead 53 = .ok (.if_icmp .lt 37, 3) := by decide +kernel
theorem dX4_isAhead_56 : decode cX4_isAhead 56 = .ok (.aload_n 0, 1) := by decide +kernel
theorem dX4_isAhead_57 : decode cX4_isAhead 57 = .ok (.getfield 47, 3) := by decide +kernel
theorem dX4_isAhead_60 : decode cX4_isAhead 60 = .ok (.iload_n 2, 1) := by decide +kernel
theorem dX4_isAhead_61 : decode cX4_isAhead 61 = .ok (.iaload, 1) := by decide +kernel
theorem dX4_isAhead_62 : decode cX4_isAhead 62 = .ok (.aload_n 0, 1) := by decide +kernel
theorem dX4_isAhead_63 : decode cX4_isAhead 63 = .ok (.getfield 47, 3) := by decide +kernel
theorem dX4_isAhead_66 : decode cX4_isAhead 66 = .ok (.iload_n 3, 1) := by decide +kernel
theorem dX4_isAhead_67 : decode cX4_isAhead 67 = .ok (.iaload, 1) := by decide +kernel
theorem dX4_isAhead_68 : decode cX4_isAhead 68 = .ok (.if_icmp .ne 26, 3) := by decide +kernel
theorem dX4_isAhead_71 : decode cX4_isAhead 71 = .ok (.aload_n 0, 1) := by decide +kernel
theorem dX4_isAhead_72 : decode cX4_isAhead 72 = .ok (.aload_n 0, 1) := by decide +kernel
theorem dX4_isAhead_73 : decode cX4_isAhead 73 = .ok (.getfield 50, 3) := by decide +kernel
theorem dX4_isAhead_76 : decode cX4_isAhead 76 = .ok (.iload_n 3, 1) := by decide +kernel
theorem dX4_isAhead_77 : decode cX4_isAhead 77 = .ok (.iaload, 1) := by decide +kernel
theorem dX4_isAhead_78 : decode cX4_isAhead 78 = .ok (.aload_n 0, 1) := by decide +kernel
theorem dX4_isAhead_79 : decode cX4_isAhead 79 = .ok (.getfield 50, 3) := by decide +kernel
theorem dX4_isAhead_82 : decode cX4_isAhead 82 = .ok (.iload_n 2, 1) := by decide +kernel
theorem dX4_isAhead_83 : decode cX4_isAhead 83 = .ok (.iaload, 1) := by decide +kernel
theorem dX4_isAhead_84 : decode cX4_isAhead 84 = .ok (.invokevirtual 77, 3) := by decide +kernel
theorem dX4_isAhead_87 : decode cX4_isAhead 87 = .ok (.ifCond .eq 7, 3) := by decide +kernel
theorem dX4_isAhead_90 : decode cX4_isAhead 90 = .ok (.iconst 1, 1) := by decide +kernel
theorem dX4_isAhead_91 : decode cX4_isAhead 91 = .ok (.goto 4, 3) := by decide +kernel
theorem dX4_isAhead_94 : decode cX4_isAhead 94 = .ok (.iconst 0, 1) := by decide +kernel
theorem dX4_isAhead_95 : decode cX4_isAhead 95 = .ok (.ireturn, 1) := by decide +kernel
set_option maxRecDepth 20000 in
theorem ggX4_keeper_X4_placeOf : GoodIn wsX4_keeper wsX4_placeOf := goodIn_r _ [9, 2, 10, 11, 12, 13, 8, 14, 1, 15, 16, 17, 18, 19, 20, 21, 22, 23, 3, 24, 25, 26, 27, 28, 52, 53, 54, 55, 56, 57, 58, 59, 60, 61, 62, 63, 64, 65, 66, 67, 68, 69, 70] (by decide +kernel) (by decide +kernel)
set_option maxRecDepth 20000 in
theorem gX4_keeper_X4_placeOf : GoodIn wsX4_keeper (wsV RX4 94 RX4 yX4_placeOf wsX4_placeOf) := goodIn_app (goodIn_of _ (by decide +kernel)) ggX4_keeper_X4_placeOf
set_option maxRecDepth 20000 in
theorem ggX4_keeper_X4_knows : GoodIn wsX4_keeper wsX4_knows := goodIn_r _ [18, 19, 52, 53, 54, 55, 56, 57, 58, 59, 60, 61, 62, 63, 64, 65, 66, 67, 68, 69, 70] (by decide +kernel) (by decide +kernel)
set_option maxRecDepth 20000 in
theorem gX4_keeper_X4_knows : GoodIn wsX4_keeper (wsV RX4 70 RX4 yX4_knows wsX4_knows) := goodIn_app (goodIn_of _ (by decide +kernel)) ggX4_keeper_X4_knows
set_option maxRecDepth 20000 in
theorem ggX4_keeper_X4_stateOf : GoodIn wsX4_keeper wsX4_stateOf := goodIn_r _ [32, 33, 1, 3, 2, 15, 16, 17, 8, 18, 19, 52, 53, 54, 55, 56, 57, 58, 59, 60, 61, 62, 63, 64, 65, 66, 67, 68, 69, 70] (by decide +kernel) (by decide +kernel)
set_option maxRecDepth 20000 in
theorem gX4_keeper_X4_stateOf : GoodIn wsX4_keeper (wsV RX4 120 RX4 yX4_stateOf wsX4_stateOf) := goodIn_app (goodIn_of _ (by decide +kernel)) ggX4_keeper_X4_stateOf
set_option maxRecDepth 20000 in
theorem ggX4_keeper_X4_isAhead : GoodIn wsX4_keeper wsX4_isAhead := goodIn_r _ [37, 38, 33, 39, 40, 41, 8, 42, 43, 44, 45, 46, 1, 2, 3, 47, 48, 15, 16, 17, 18, 19, 24, 25, 26, 27, 28, 10, 49, 50, 51, 52, 53, 54, 55, 56, 57, 58, 59, 60, 61, 62, 63, 64, 65, 66, 67, 68, 69, 70] (by decide +kernel) (by decide +kernel)
set_option maxRecDepth 20000 in
theorem gX4_keeper_X4_isAhead : GoodIn wsX4_keeper (wsV RX4 123 RX4 yX4_isAhead wsX4_isAhead) := goodIn_app (goodIn_of _ (by decide +kernel)) ggX4_keeper_X4_isAhead
theorem dX4_keeper_0 : decode cX4_keeper 0 = .ok (.iconst (-1), 1) := by decide +kernel
theorem dX4_keeper_1 : decode cX4_keeper 1 = .ok (.istore_n 3, 1) := by decide +kernel
theorem dX4_keeper_2 : decode cX4_keeper 2 = .ok (.aload_n 0, 1) := by decide +kernel
theorem dX4_keeper_3 : decode cX4_keeper 3 = .ok (.iload_n 1, 1) := by decide +kernel
theorem dX4_keeper_4 : decode cX4_keeper 4 = .ok (.iload_n 2, 1) := by decide +kernel
theorem dX4_keeper_5 : decode cX4_keeper 5 = .ok (.invokevirtual 94, 3) := by decide +kernel
theorem dX4_keeper_8 : decode cX4_keeper 8 = .ok (.iconst (-1), 1) := by decide +kernel
theorem dX4_keeper_9 : decode cX4_keeper 9 = .ok (.if_icmp .ne 5, 3) := by decide +kernel
theorem dX4_keeper_12 : decode cX4_keeper 12 = .ok (.iconst (-1), 1) := by decide +kernel
theorem dX4_keeper_13 : decode cX4_keeper 13 = .ok (.ireturn, 1) := by decide +kernel
theorem dX4_keeper_14 : decode cX4_keeper 14 = .ok (.iconst 0, 1) := by decide +kernel
theorem dX4_keeper_15 : decode cX4_keeper 15 = .ok (.istore 4, 2) := by decide +kernel
theorem dX4_keeper_17 : decode cX4_keeper 17 = .ok (.iload 4, 2) := by decide +kernel
theorem dX4_keeper_19 : decode cX4_keeper 19 = .ok (.aload_n 0, 1) := by decide +kernel
theorem dX4_keeper_20 : decode cX4_keeper 20 = .ok (.getfield 56, 3) := by decide +kernel
theorem dX4_keeper_23 : decode cX4_keeper 23 = .ok (.if_icmp .ge 101, 3) := by decide +kernel
theorem dX4_keeper_26 : decode cX4_keeper 26 = .ok (.aload_n 0, 1) := by decide +kernel
theorem dX4_keeper_27 : decode cX4_keeper 27 = .ok (.iload_n 1, 1) := by decide +kernel
theorem dX4_keeper_28 : decode cX4_keeper 28 = .ok (.iload 4, 2) := by decide +kernel
theorem dX4_keeper_30 : decode cX4_keeper 30 = .ok (.invokevirtual 70, 3) := by decide +kernel
theorem dX4_keeper_33 : decode cX4_keeper 33 = .ok (.ifCond .eq 85, 3) := by decide +kernel
theorem dX4_keeper_36 : decode cX4_keeper 36 = .ok (.aload_n 0, 1) := by decide +kernel
theorem dX4_keeper_37 : decode cX4_keeper 37 = .ok (.getfield 7, 3) := by decide +kernel
theorem dX4_keeper_40 : decode cX4_keeper 40 = .ok (.iload 4, 2) := by decide +kernel
theorem dX4_keeper_42 : decode cX4_keeper 42 = .ok (.iaload, 1) := by decide +kernel
theorem dX4_keeper_43 : decode cX4_keeper 43 = .ok (.iconst 4, 1) := by decide +kernel
theorem dX4_keeper_44 : decode cX4_keeper 44 = .ok (.if_icmp .ne 74, 3) := by decide +kernel
theorem dX4_keeper_47 : decode cX4_keeper 47 = .ok (.aload_n 0, 1) := by decide +kernel
theorem dX4_keeper_48 : decode cX4_keeper 48 = .ok (.getfield 19, 3) := by decide +kernel
theorem dX4_keeper_51 : decode cX4_keeper 51 = .ok (.iload 4, 2) := by decide +kernel
theorem dX4_keeper_53 : decode cX4_keeper 53 = .ok (.iaload, 1) := by decide +kernel
theorem dX4_keeper_54 : decode cX4_keeper 54 = .ok (.iload_n 2, 1) := by decide +kernel
theorem dX4_keeper_55 : decode cX4_keeper 55 = .ok (.if_icmp .ne 63, 3) := by decide +kernel
theorem dX4_keeper_58 : decode cX4_keeper 58 = .ok (.aload_n 0, 1) := by decide +kernel
theorem dX4_keeper_59 : decode cX4_keeper 59 = .ok (.iload_n 1, 1) := by decide +kernel
theorem dX4_keeper_60 : decode cX4_keeper 60 = .ok (.aload_n 0, 1) := by decide +kernel
theorem dX4_keeper_61 : decode cX4_keeper 61 = .ok (.getfield 22, 3) := by decide +kernel
theorem dX4_keeper_64 : decode cX4_keeper 64 = .ok (.iload 4, 2) := by decide +kernel
theorem dX4_keeper_66 : decode cX4_keeper 66 = .ok (.iaload, 1) := by decide +kernel
theorem dX4_keeper_67 : decode cX4_keeper 67 = .ok (.invokevirtual 120, 3) := by decide +kernel
theorem dX4_keeper_70 : decode cX4_keeper 70 = .ok (.iconst 1, 1) := by decide +kernel
theorem dX4_keeper_71 : decode cX4_keeper 71 = .ok (.if_icmp .ne 47, 3) := by decide +kernel
theorem dX4_keeper_74 : decode cX4_keeper 74 = .ok (.iload_n 3, 1) := by decide +kernel
theorem dX4_keeper_75 : decode cX4_keeper 75 = .ok (.iconst (-1), 1) := by decide +kernel
theorem dX4_keeper_76 : decode cX4_keeper 76 = .ok (.if_icmp .eq 30, 3) := by decide +kernel
theorem dX4_keeper_79 : decode cX4_keeper 79 = .ok (.iload_n 3, 1) := by decide +kernel
theorem dX4_keeper_80 : decode cX4_keeper 80 = .ok (.aload_n 0, 1) := by decide +kernel
theorem dX4_keeper_81 : decode cX4_keeper 81 = .ok (.getfield 22, 3) := by decide +kernel
theorem dX4_keeper_84 : decode cX4_keeper 84 = .ok (.iload 4, 2) := by decide +kernel
theorem dX4_keeper_86 : decode cX4_keeper 86 = .ok (.iaload, 1) := by decide +kernel
theorem dX4_keeper_87 : decode cX4_keeper 87 = .ok (.if_icmp .eq 29, 3) := by decide +kernel
theorem dX4_keeper_90 : decode cX4_keeper 90 = .ok (.aload_n 0, 1) := by decide +kernel
theorem dX4_keeper_91 : decode cX4_keeper 91 = .ok (.iload_n 1, 1) := by decide +kernel
theorem dX4_keeper_92 : decode cX4_keeper 92 = .ok (.aload_n 0, 1) := by decide +kernel
theorem dX4_keeper_93 : decode cX4_keeper 93 = .ok (.getfield 22, 3) := by decide +kernel
theorem dX4_keeper_96 : decode cX4_keeper 96 = .ok (.iload 4, 2) := by decide +kernel
theorem dX4_keeper_98 : decode cX4_keeper 98 = .ok (.iaload, 1) := by decide +kernel
theorem dX4_keeper_99 : decode cX4_keeper 99 = .ok (.iload_n 3, 1) := by decide +kernel
theorem dX4_keeper_100 : decode cX4_keeper 100 = .ok (.invokevirtual 123, 3) := by decide +kernel
theorem dX4_keeper_103 : decode cX4_keeper 103 = .ok (.ifCond .eq 13, 3) := by decide +kernel
theorem dX4_keeper_106 : decode cX4_keeper 106 = .ok (.aload_n 0, 1) := by decide +kernel
theorem dX4_keeper_107 : decode cX4_keeper 107 = .ok (.getfield 22, 3) := by decide +kernel
theorem dX4_keeper_110 : decode cX4_keeper 110 = .ok (.iload 4, 2) := by decide +kernel
theorem dX4_keeper_112 : decode cX4_keeper 112 = .ok (.iaload, 1) := by decide +kernel
theorem dX4_keeper_113 : decode cX4_keeper 113 = .ok (.goto 4, 3) := by decide +kernel
theorem dX4_keeper_116 : decode cX4_keeper 116 = .ok (.iload_n 3, 1) := by decide +kernel
theorem dX4_keeper_117 : decode cX4_keeper 117 = .ok (.istore_n 3, 1) := by decide +kernel
theorem dX4_keeper_118 : decode cX4_keeper 118 = .ok (.iinc 4 1, 3) := by decide +kernel
theorem dX4_keeper_121 : decode cX4_keeper 121 = .ok (.goto (-104), 3) := by decide +kernel
theorem dX4_keeper_124 : decode cX4_keeper 124 = .ok (.iload_n 3, 1) := by decide +kernel
theorem dX4_keeper_125 : decode cX4_keeper 125 = .ok (.ireturn, 1) := by decide +kernel
set_option maxRecDepth 20000 in
theorem ggX4_keptOf_X4_keeper : GoodIn wsX4_keptOf wsX4_keeper := goodIn_r _ [5, 6, 7, 8, 9, 10, 11, 12, 4, 13, 14, 15, 16, 17, 18, 19, 20, 21, 22, 23, 24, 25, 26, 27, 28, 29, 30, 31, 32, 33, 34, 35, 36, 37, 38, 39, 40, 41, 42, 43, 44, 45, 46, 47, 48, 49, 50, 51, 52, 53, 54, 55, 56, 57, 58, 59, 60, 61, 62, 63, 64, 65, 66, 67, 68, 69, 70, 71, 72, 73, 74] (by decide +kernel) (by decide +kernel)
set_option maxRecDepth 20000 in
theorem gX4_keptOf_X4_keeper : GoodIn wsX4_keptOf (wsV RX4 126 RX4 yX4_keeper wsX4_keeper) := goodIn_app (goodIn_of _ (by decide +kernel)) ggX4_keptOf_X4_keeper
theorem dX4_keptOf_0 : decode cX4_keptOf 0 = .ok (.iconst 0, 1) := by decide +kernel
theorem dX4_keptOf_1 : decode cX4_keptOf 1 = .ok (.istore 4, 2) := by decide +kernel
theorem dX4_keptOf_3 : decode cX4_keptOf 3 = .ok (.iload_n 3, 1) := by decide +kernel
theorem dX4_keptOf_4 : decode cX4_keptOf 4 = .ok (.istore 5, 2) := by decide +kernel
theorem dX4_keptOf_6 : decode cX4_keptOf 6 = .ok (.iload 5, 2) := by decide +kernel
theorem dX4_keptOf_8 : decode cX4_keptOf 8 = .ok (.bipush 40, 2) := by decide +kernel
theorem dX4_keptOf_10 : decode cX4_keptOf 10 = .ok (.if_icmp .ge 30, 3) := by decide +kernel
theorem dX4_keptOf_13 : decode cX4_keptOf 13 = .ok (.iload 4, 2) := by decide +kernel
theorem dX4_keptOf_15 : decode cX4_keptOf 15 = .ok (.aload_n 0, 1) := by decide +kernel
theorem dX4_keptOf_16 : decode cX4_keptOf 16 = .ok (.iload_n 1, 1) := by decide +kernel
theorem dX4_keptOf_17 : decode cX4_keptOf 17 = .ok (.iload 5, 2) := by decide +kernel
theorem dX4_keptOf_19 : decode cX4_keptOf 19 = .ok (.invokevirtual 126, 3) := by decide +kernel
theorem dX4_keptOf_22 : decode cX4_keptOf 22 = .ok (.iload_n 2, 1) := by decide +kernel
theorem dX4_keptOf_23 : decode cX4_keptOf 23 = .ok (.if_icmp .ne 7, 3) := by decide +kernel
theorem dX4_keptOf_26 : decode cX4_keptOf 26 = .ok (.iconst 1, 1) := by decide +kernel
theorem dX4_keptOf_27 : decode cX4_keptOf 27 = .ok (.goto 4, 3) := by decide +kernel
theorem dX4_keptOf_30 : decode cX4_keptOf 30 = .ok (.iconst 0, 1) := by decide +kernel
theorem dX4_keptOf_31 : decode cX4_keptOf 31 = .ok (.iadd, 1) := by decide +kernel
theorem dX4_keptOf_32 : decode cX4_keptOf 32 = .ok (.istore 4, 2) := by decide +kernel
theorem dX4_keptOf_34 : decode cX4_keptOf 34 = .ok (.iinc 5 8, 3) := by decide +kernel
theorem dX4_keptOf_37 : decode cX4_keptOf 37 = .ok (.goto (-31), 3) := by decide +kernel
theorem dX4_keptOf_40 : decode cX4_keptOf 40 = .ok (.iload 4, 2) := by decide +kernel
theorem dX4_keptOf_42 : decode cX4_keptOf 42 = .ok (.ireturn, 1) := by decide +kernel
set_option maxRecDepth 20000 in
theorem ggX4_lackOf_X4_keptOf : GoodIn wsX4_lackOf wsX4_keptOf := goodIn_r _ [7, 8, 9, 10, 6, 11, 12, 13, 14, 15, 16, 17, 18, 19, 20, 21, 22, 23, 24, 25, 26, 27, 28, 29, 30, 31, 32, 33, 34, 35, 36, 37, 38, 39, 40, 41, 42, 43, 44, 45, 46, 47, 48, 49, 50, 51, 52, 53, 54, 55, 56, 57, 58, 59, 60, 61, 62, 63, 64, 65, 66, 67, 68, 69, 70, 71, 72, 73, 74, 75, 76, 77, 78, 79, 80] (by decide +kernel) (by decide +kernel)
set_option maxRecDepth 20000 in
theorem gX4_lackOf_X4_keptOf : GoodIn wsX4_lackOf (wsV RX4 129 RX4 yX4_keptOf wsX4_keptOf) := goodIn_app (goodIn_of _ (by decide +kernel)) ggX4_lackOf_X4_keptOf
theorem dX4_lackOf_0 : decode cX4_lackOf 0 = .ok (.aload_n 0, 1) := by decide +kernel
theorem dX4_lackOf_1 : decode cX4_lackOf 1 = .ok (.getfield 41, 3) := by decide +kernel
theorem dX4_lackOf_4 : decode cX4_lackOf 4 = .ok (.bipush 8, 2) := by decide +kernel
theorem dX4_lackOf_6 : decode cX4_lackOf 6 = .ok (.aload_n 0, 1) := by decide +kernel
theorem dX4_lackOf_7 : decode cX4_lackOf 7 = .ok (.getfield 44, 3) := by decide +kernel
theorem dX4_lackOf_10 : decode cX4_lackOf 10 = .ok (.iload_n 2, 1) := by decide +kernel
theorem dX4_lackOf_11 : decode cX4_lackOf 11 = .ok (.iaload, 1) := by decide +kernel
theorem dX4_lackOf_12 : decode cX4_lackOf 12 = .ok (.imul, 1) := by decide +kernel
theorem dX4_lackOf_13 : decode cX4_lackOf 13 = .ok (.iload_n 3, 1) := by decide +kernel
theorem dX4_lackOf_14 : decode cX4_lackOf 14 = .ok (.iadd, 1) := by decide +kernel
theorem dX4_lackOf_15 : decode cX4_lackOf 15 = .ok (.iaload, 1) := by decide +kernel
theorem dX4_lackOf_16 : decode cX4_lackOf 16 = .ok (.aload_n 0, 1) := by decide +kernel
theorem dX4_lackOf_17 : decode cX4_lackOf 17 = .ok (.iload_n 1, 1) := by decide +kernel
theorem dX4_lackOf_18 : decode cX4_lackOf 18 = .ok (.iload_n 2, 1) := by decide +kernel
theorem dX4_lackOf_19 : decode cX4_lackOf 19 = .ok (.iload_n 3, 1) := by decide +kernel
theorem dX4_lackOf_20 : decode cX4_lackOf 20 = .ok (.invokevirtual 129, 3) := by decide +kernel
theorem dX4_lackOf_23 : decode cX4_lackOf 23 = .ok (.isub, 1) := by decide +kernel
theorem dX4_lackOf_24 : decode cX4_lackOf 24 = .ok (.istore 4, 2) := by decide +kernel
theorem dX4_lackOf_26 : decode cX4_lackOf 26 = .ok (.iload 4, 2) := by decide +kernel
theorem dX4_lackOf_28 : decode cX4_lackOf 28 = .ok (.ifCond .ge 7, 3) := by decide +kernel
theorem dX4_lackOf_31 : decode cX4_lackOf 31 = .ok (.iconst 0, 1) := by decide +kernel
theorem dX4_lackOf_32 : decode cX4_lackOf 32 = .ok (.goto 5, 3) := by decide +kernel
theorem dX4_lackOf_35 : decode cX4_lackOf 35 = .ok (.iload 4, 2) := by decide +kernel
theorem dX4_lackOf_37 : decode cX4_lackOf 37 = .ok (.ireturn, 1) := by decide +kernel
set_option maxRecDepth 20000 in
theorem ggX4_layKeeps_X4_lackOf : GoodIn wsX4_layKeeps wsX4_lackOf := goodIn_r _ [7, 8, 9, 10, 11, 12, 6, 13, 14, 15, 16, 17, 18, 19, 20, 21, 22, 23, 24, 25, 26, 27, 28, 29, 30, 31, 32, 33, 34, 35, 36, 37, 38, 39, 40, 41, 42, 43, 44, 45, 46, 47, 48, 49, 50, 51, 52, 53, 54, 55, 56, 57, 58, 59, 60, 61, 62, 63, 64, 65, 66, 67, 68, 69, 70, 71, 72, 73, 74, 75, 76, 77, 78, 79, 80, 81, 82, 83, 84, 85, 86] (by decide +kernel) (by decide +kernel)
set_option maxRecDepth 20000 in
theorem gX4_layKeeps_X4_lackOf : GoodIn wsX4_layKeeps (wsV RX4 135 RX4 yX4_lackOf wsX4_lackOf) := goodIn_app (goodIn_of _ (by decide +kernel)) ggX4_layKeeps_X4_lackOf
set_option maxRecDepth 20000 in
theorem ggX4_layKeeps_X4_placeOf : GoodIn wsX4_layKeeps wsX4_placeOf := goodIn_r _ [25, 19, 26, 27, 28, 29, 6, 30, 18, 31, 32, 33, 34, 35, 36, 37, 38, 39, 20, 40, 41, 42, 43, 44, 68, 69, 70, 71, 72, 73, 74, 75, 76, 77, 78, 79, 80, 81, 82, 83, 84, 85, 86] (by decide +kernel) (by decide +kernel)
set_option maxRecDepth 20000 in
theorem gX4_layKeeps_X4_placeOf : GoodIn wsX4_layKeeps (wsV RX4 94 RX4 yX4_placeOf wsX4_placeOf) := goodIn_app (goodIn_of _ (by decide +kernel)) ggX4_layKeeps_X4_placeOf
set_option maxRecDepth 20000 in
theorem ggX4_layKeeps_X4_keeper : GoodIn wsX4_layKeeps wsX4_keeper := goodIn_r _ [17, 18, 19, 20, 21, 22, 23, 24, 6, 25, 26, 27, 28, 29, 30, 31, 32, 33, 34, 35, 36, 37, 38, 39, 40, 41, 42, 43, 44, 45, 46, 47, 48, 49, 50, 51, 52, 53, 54, 55, 56, 57, 58, 59, 60, 61, 62, 63, 64, 65, 66, 67, 68, 69, 70, 71, 72, 73, 74, 75, 76, 77, 78, 79, 80, 81, 82, 83, 84, 85, 86] (by decide +kernel) (by decide +kernel)
set_option maxRecDepth 20000 in
theorem gX4_layKeeps_X4_keeper : GoodIn wsX4_layKeeps (wsV RX4 126 RX4 yX4_keeper wsX4_keeper) := goodIn_app (goodIn_of _ (by decide +kernel)) ggX4_layKeeps_X4_keeper
theorem dX4_layKeeps_0 : decode cX4_layKeeps 0 = .ok (.aload_n 0, 1) := by decide +kernel
theorem dX4_layKeeps_1 : decode cX4_layKeeps 1 = .ok (.iconst 0, 1) := by decide +kernel
theorem dX4_layKeeps_2 : decode cX4_layKeeps 2 = .ok (.putfield 132, 3) := by decide +kernel
theorem dX4_layKeeps_5 : decode cX4_layKeeps 5 = .ok (.iconst 0, 1) := by decide +kernel
theorem dX4_layKeeps_6 : decode cX4_layKeeps 6 = .ok (.istore_n 3, 1) := by decide +kernel
theorem dX4_layKeeps_7 : decode cX4_layKeeps 7 = .ok (.iload_n 3, 1) := by decide +kernel
theorem dX4_layKeeps_8 : decode cX4_layKeeps 8 = .ok (.bipush 8, 2) := by decide +kernel
theorem dX4_layKeeps_10 : decode cX4_layKeeps 10 = .ok (.if_icmp .ge 85, 3) := by decide +kernel
theorem dX4_layKeeps_13 : decode cX4_layKeeps 13 = .ok (.aload_n 0, 1) := by decide +kernel
theorem dX4_layKeeps_14 : decode cX4_layKeeps 14 = .ok (.iload_n 1, 1) := by decide +kernel
theorem dX4_layKeeps_15 : decode cX4_layKeeps 15 = .ok (.iload_n 2, 1) := by decide +kernel
theorem dX4_layKeeps_16 : decode cX4_layKeeps 16 = .ok (.iload_n 3, 1) := by decide +kernel
theorem dX4_layKeeps_17 : decode cX4_layKeeps 17 = .ok (.invokevirtual 135, 3) := by decide +kernel
theorem dX4_layKeeps_20 : decode cX4_layKeeps 20 = .ok (.istore 4, 2) := by decide +kernel
theorem dX4_layKeeps_22 : decode cX4_layKeeps 22 = .ok (.iload_n 3, 1) := by decide +kernel
theorem dX4_layKeeps_23 : decode cX4_layKeeps 23 = .ok (.istore 5, 2) := by decide +kernel
theorem dX4_layKeeps_25 : decode cX4_layKeeps 25 = .ok (.iload 5, 2) := by decide +kernel
theorem dX4_layKeeps_27 : decode cX4_layKeeps 27 = .ok (.bipush 40, 2) := by decide +kernel
theorem dX4_layKeeps_29 : decode cX4_layKeeps 29 = .ok (.if_icmp .ge 60, 3) := by decide +kernel
theorem dX4_layKeeps_32 : decode cX4_layKeeps 32 = .ok (.iload 4, 2) := by decide +kernel
theorem dX4_layKeeps_34 : decode cX4_layKeeps 34 = .ok (.ifCond .le 55, 3) := by decide +kernel
theorem dX4_layKeeps_37 : decode cX4_layKeeps 37 = .ok (.aload_n 0, 1) := by decide +kernel
theorem dX4_layKeeps_38 : decode cX4_layKeeps 38 = .ok (.iload_n 1, 1) := by decide +kernel
theorem dX4_layKeeps_39 : decode cX4_layKeeps 39 = .ok (.iload 5, 2) := by decide +kernel
theorem dX4_layKeeps_41 : decode cX4_layKeeps 41 = .ok (.invokevirtual 94, 3) := by decide +kernel
theorem dX4_layKeeps_44 : decode cX4_layKeeps 44 = .ok (.iconst (-1), 1) := by decide +kernel
theorem dX4_layKeeps_45 : decode cX4_layKeeps 45 = .ok (.if_icmp .eq 38, 3) := by decide +kernel
theorem dX4_layKeeps_48 : decode cX4_layKeeps 48 = .ok (.aload_n 0, 1) := by decide +kernel
theorem dX4_layKeeps_49 : decode cX4_layKeeps 49 = .ok (.iload_n 1, 1) := by decide +kernel
theorem dX4_layKeeps_50 : decode cX4_layKeeps 50 = .ok (.iload 5, 2) := by decide +kernel
theorem dX4_layKeeps_52 : decode cX4_layKeeps 52 = .ok (.invokevirtual 126, 3) := by decide +kernel
theorem dX4_layKeeps_55 : decode cX4_layKeeps 55 = .ok (.iconst (-1), 1) := by decide +kernel
theorem dX4_layKeeps_56 : decode cX4_layKeeps 56 = .ok (.if_icmp .ne 27, 3) := by decide +kernel
theorem dX4_layKeeps_59 : decode cX4_layKeeps 59 = .ok (.aload_n 0, 1) := by decide +kernel
theorem dX4_layKeeps_60 : decode cX4_layKeeps 60 = .ok (.getfield 53, 3) := by decide +kernel
theorem dX4_layKeeps_63 : decode cX4_layKeeps 63 = .ok (.aload_n 0, 1) := by decide +kernel
theorem dX4_layKeeps_64 : decode cX4_layKeeps 64 = .ok (.getfield 132, 3) := by decide +kernel
theorem dX4_layKeeps_67 : decode cX4_layKeeps 67 = .ok (.iload 5, 2) := by decide +kernel
theorem dX4_layKeeps_69 : decode cX4_layKeeps 69 = .ok (.iastore, 1) := by decide +kernel
theorem dX4_layKeeps_70 : decode cX4_layKeeps 70 = .ok (.aload_n 0, 1) := by decide +kernel
theorem dX4_layKeeps_71 : decode cX4_layKeeps 71 = .ok (.dup, 1) := by decide +kernel
theorem dX4_layKeeps_72 : decode cX4_layKeeps 72 = .ok (.getfield 132, 3) := by decide +kernel
theorem dX4_layKeeps_75 : decode cX4_layKeeps 75 = .ok (.iconst 1, 1) := by decide +kernel
theorem dX4_layKeeps_76 : decode cX4_layKeeps 76 = .ok (.iadd, 1) := by decide +kernel
theorem dX4_layKeeps_77 : decode cX4_layKeeps 77 = .ok (.putfield 132, 3) := by decide +kernel
theorem dX4_layKeeps_80 : decode cX4_layKeeps 80 = .ok (.iinc 4 (-1), 3) := by decide +kernel
theorem dX4_layKeeps_83 : decode cX4_layKeeps 83 = .ok (.iinc 5 8, 3) := by decide +kernel
theorem dX4_layKeeps_86 : decode cX4_layKeeps 86 = .ok (.goto (-61), 3) := by decide +kernel
theorem dX4_layKeeps_89 : decode cX4_layKeeps 89 = .ok (.iinc 3 1, 3) := by decide +kernel
theorem dX4_layKeeps_92 : decode cX4_layKeeps 92 = .ok (.goto (-85), 3) := by decide +kernel
theorem dX4_layKeeps_95 : decode cX4_layKeeps 95 = .ok (.return_, 1) := by decide +kernel
set_option maxRecDepth 20000 in
theorem ggX4_layKept_X4_keeper : GoodIn wsX4_layKept wsX4_keeper := goodIn_r _ [7, 8, 9, 10, 11, 12, 13, 14, 6, 15, 16, 17, 18, 19, 20, 21, 22, 23, 24, 25, 26, 27, 28, 29, 30, 31, 32, 33, 34, 35, 36, 37, 38, 39, 40, 41, 42, 43, 44, 45, 46, 47, 48, 49, 50, 51, 52, 53, 54, 55, 56, 57, 58, 59, 60, 61, 62, 63, 64, 65, 66, 67, 68, 69, 70, 71, 72, 73, 74, 75, 76] (by decide +kernel) (by decide +kernel)
set_option maxRecDepth 20000 in
theorem gX4_layKept_X4_keeper : GoodIn wsX4_layKept (wsV RX4 126 RX4 yX4_keeper wsX4_keeper) := goodIn_app (goodIn_of _ (by decide +kernel)) ggX4_layKept_X4_keeper
theorem dX4_layKept_0 : decode cX4_layKept 0 = .ok (.aload_n 0, 1) := by decide +kernel
theorem dX4_layKept_1 : decode cX4_layKept 1 = .ok (.iconst 0, 1) := by decide +kernel
theorem dX4_layKept_2 : decode cX4_layKept 2 = .ok (.putfield 132, 3) := by decide +kernel
theorem dX4_layKept_5 : decode cX4_layKept 5 = .ok (.iconst 0, 1) := by decide +kernel
theorem dX4_layKept_6 : decode cX4_layKept 6 = .ok (.istore_n 3, 1) := by decide +kernel
theorem dX4_layKept_7 : decode cX4_layKept 7 = .ok (.iload_n 3, 1) := by decide +kernel
theorem dX4_layKept_8 : decode cX4_layKept 8 = .ok (.bipush 40, 2) := by decide +kernel
theorem dX4_layKept_10 : decode cX4_layKept 10 = .ok (.if_icmp .ge 39, 3) := by decide +kernel
theorem dX4_layKept_13 : decode cX4_layKept 13 = .ok (.aload_n 0, 1) := by decide +kernel
theorem dX4_layKept_14 : decode cX4_layKept 14 = .ok (.iload_n 1, 1) := by decide +kernel
theorem dX4_layKept_15 : decode cX4_layKept 15 = .ok (.iload_n 3, 1) := by decide +kernel
theorem dX4_layKept_16 : decode cX4_layKept 16 = .ok (.invokevirtual 126, 3) := by decide +kernel
theorem dX4_layKept_19 : decode cX4_layKept 19 = .ok (.iload_n 2, 1) := by decide +kernel
theorem dX4_layKept_20 : decode cX4_layKept 20 = .ok (.if_icmp .ne 23, 3) := by decide +kernel
theorem dX4_layKept_23 : decode cX4_layKept 23 = .ok (.aload_n 0, 1) := by decide +kernel
theorem dX4_layKept_24 : decode cX4_layKept 24 = .ok (.getfield 53, 3) := by decide +kernel
theorem dX4_layKept_27 : decode cX4_layKept 27 = .ok (.aload_n 0, 1) := by decide +kernel
theorem dX4_layKept_28 : decode cX4_layKept 28 = .ok (.getfield 132, 3) := by decide +kernel
theorem dX4_layKept_31 : decode cX4_layKept 31 = .ok (.iload_n 3, 1) := by decide +kernel
theorem dX4_layKept_32 : decode cX4_layKept 32 = .ok (.iastore, 1) := by decide +kernel
theorem dX4_layKept_33 : decode cX4_layKept 33 = .ok (.aload_n 0, 1) := by decide +kernel
theorem dX4_layKept_34 : decode cX4_layKept 34 = .ok (.dup, 1) := by decide +kernel
theorem dX4_layKept_35 : decode cX4_layKept 35 = .ok (.getfield 132, 3) := by decide +kernel
theorem dX4_layKept_38 : decode cX4_layKept 38 = .ok (.iconst 1, 1) := by decide +kernel
theorem dX4_layKept_39 : decode cX4_layKept 39 = .ok (.iadd, 1) := by decide +kernel
theorem dX4_layKept_40 : decode cX4_layKept 40 = .ok (.putfield 132, 3) := by decide +kernel
theorem dX4_layKept_43 : decode cX4_layKept 43 = .ok (.iinc 3 1, 3) := by decide +kernel
theorem dX4_layKept_46 : decode cX4_layKept 46 = .ok (.goto (-39), 3) := by decide +kernel
theorem dX4_layKept_49 : decode cX4_layKept 49 = .ok (.return_, 1) := by decide +kernel
set_option maxRecDepth 20000 in
theorem ggX4_areCake_X4_isFridge : GoodIn wsX4_areCake wsX4_isFridge := goodIn_r _ [5, 6, 7, 4, 8] (by decide +kernel) (by decide +kernel)
set_option maxRecDepth 20000 in
theorem gX4_areCake_X4_isFridge : GoodIn wsX4_areCake (va_wsS RX4 84 yX4_isFridge wsX4_isFridge) := goodIn_app (goodIn_of _ (by decide +kernel)) ggX4_areCake_X4_isFridge
set_option maxRecDepth 20000 in
theorem ggX4_areCake_X4_isCake : GoodIn wsX4_areCake wsX4_isCake := goodIn_r _ [12, 13, 6, 7, 4, 8, 14, 15, 16, 17, 18, 19, 20, 21, 22, 23, 24, 25, 26, 27, 28, 29, 30, 31, 32] (by decide +kernel) (by decide +kernel)
set_option maxRecDepth 20000 in
theorem gX4_areCake_X4_isCake : GoodIn wsX4_areCake (wsV RX4 138 RX4 yX4_isCake wsX4_isCake) := goodIn_app (goodIn_of _ (by decide +kernel)) ggX4_areCake_X4_isCake
theorem dX4_areCake_0 : decode cX4_areCake 0 = .ok (.aload_n 0, 1) := by decide +kernel
theorem dX4_areCake_1 : decode cX4_areCake 1 = .ok (.iload_n 1, 1) := by decide +kernel
theorem dX4_areCake_2 : decode cX4_areCake 2 = .ok (.invokestatic 84, 3) := by decide +kernel
theorem dX4_areCake_5 : decode cX4_areCake 5 = .ok (.ifCond .eq 15, 3) := by decide +kernel
theorem dX4_areCake_8 : decode cX4_areCake 8 = .ok (.aload_n 0, 1) := by decide +kernel
theorem dX4_areCake_9 : decode cX4_areCake 9 = .ok (.iload_n 2, 1) := by decide +kernel
theorem dX4_areCake_10 : decode cX4_areCake 10 = .ok (.invokevirtual 138, 3) := by decide +kernel
theorem dX4_areCake_13 : decode cX4_areCake 13 = .ok (.ifCond .eq 7, 3) := by decide +kernel
theorem dX4_areCake_16 : decode cX4_areCake 16 = .ok (.iconst 0, 1) := by decide +kernel
theorem dX4_areCake_17 : decode cX4_areCake 17 = .ok (.goto 4, 3) := by decide +kernel
theorem dX4_areCake_20 : decode cX4_areCake 20 = .ok (.iconst 1, 1) := by decide +kernel
theorem dX4_areCake_21 : decode cX4_areCake 21 = .ok (.putfield 60, 3) := by decide +kernel
theorem dX4_areCake_24 : decode cX4_areCake 24 = .ok (.aload_n 0, 1) := by decide +kernel
theorem dX4_areCake_25 : decode cX4_areCake 25 = .ok (.getfield 60, 3) := by decide +kernel
theorem dX4_areCake_28 : decode cX4_areCake 28 = .ok (.ifCond .ne 7, 3) := by decide +kernel
theorem dX4_areCake_31 : decode cX4_areCake 31 = .ok (.iconst 1, 1) := by decide +kernel
theorem dX4_areCake_32 : decode cX4_areCake 32 = .ok (.goto 4, 3) := by decide +kernel
theorem dX4_areCake_35 : decode cX4_areCake 35 = .ok (.iconst 0, 1) := by decide +kernel
theorem dX4_areCake_36 : decode cX4_areCake 36 = .ok (.ireturn, 1) := by decide +kernel
set_option maxRecDepth 20000 in
theorem ggX4_isOpen_X4_areCake : GoodIn wsX4_isOpen wsX4_areCake := goodIn_r _ [6, 1, 7, 8, 5, 9, 10, 11, 12, 13, 14, 15, 16, 17, 31, 32, 33, 34, 35, 36, 37, 38, 39, 40, 41, 42, 43, 44, 45, 46, 47, 48, 49] (by decide +kernel) (by decide +kernel)
set_option maxRecDepth 20000 in
theorem gX4_isOpen_X4_areCake : GoodIn wsX4_isOpen (wsV RX4 141 RX4 yX4_areCake wsX4_areCake) := goodIn_app (goodIn_of _ (by decide +kernel)) ggX4_isOpen_X4_areCake
set_option maxRecDepth 20000 in
theorem ggX4_isOpen_X4_stateOf : GoodIn wsX4_isOpen wsX4_stateOf := goodIn_r _ [21, 22, 23, 24, 25, 26, 27, 28, 5, 29, 30, 31, 32, 33, 34, 35, 36, 37, 38, 39, 40, 41, 42, 43, 44, 45, 46, 47, 48, 49] (by decide +kernel) (by decide +kernel)
set_option maxRecDepth 20000 in
theorem gX4_isOpen_X4_stateOf : GoodIn wsX4_isOpen (wsV RX4 120 RX4 yX4_stateOf wsX4_stateOf) := goodIn_app (goodIn_of _ (by decide +kernel)) ggX4_isOpen_X4_stateOf
theorem dX4_isOpen_0 : decode cX4_isOpen 0 = .ok (.aload_n 0, 1) := by decide +kernel
theorem dX4_isOpen_1 : decode cX4_isOpen 1 = .ok (.iload_n 1, 1) := by decide +kernel
theorem dX4_isOpen_2 : decode cX4_isOpen 2 = .ok (.iload_n 2, 1) := by decide +kernel
theorem dX4_isOpen_3 : decode cX4_isOpen 3 = .ok (.invokevirtual 141, 3) := by decide +kernel
theorem dX4_isOpen_6 : decode cX4_isOpen 6 = .ok (.ifCond .eq 22, 3) := by decide +kernel
theorem dX4_isOpen_9 : decode cX4_isOpen 9 = .ok (.aload_n 0, 1) := by decide +kernel
theorem dX4_isOpen_10 : decode cX4_isOpen 10 = .ok (.aload_n 0, 1) := by decide +kernel
theorem dX4_isOpen_11 : decode cX4_isOpen 11 = .ok (.iload_n 1, 1) := by decide +kernel
theorem dX4_isOpen_12 : decode cX4_isOpen 12 = .ok (.iload_n 2, 1) := by decide +kernel
theorem dX4_isOpen_13 : decode cX4_isOpen 13 = .ok (.invokevirtual 120, 3) := by decide +kernel
theorem dX4_isOpen_16 : decode cX4_isOpen 16 = .ok (.iconst 1, 1) := by decide +kernel
theorem dX4_isOpen_17 : decode cX4_isOpen 17 = .ok (.if_icmp .ne 7, 3) := by decide +kernel
theorem dX4_isOpen_20 : decode cX4_isOpen 20 = .ok (.iconst 0, 1) := by decide +kernel
theorem dX4_isOpen_21 : decode cX4_isOpen 21 = .ok (.goto 4, 3) := by decide +kernel
theorem dX4_isOpen_24 : decode cX4_isOpen 24 = .ok (.iconst 2, 1) := by decide +kernel
theorem dX4_isOpen_25 : decode cX4_isOpen 25 = .ok (.putfield 60, 3) := by decide +kernel
theorem dX4_isOpen_28 : decode cX4_isOpen 28 = .ok (.aload_n 0, 1) := by decide +kernel
theorem dX4_isOpen_29 : decode cX4_isOpen 29 = .ok (.getfield 60, 3) := by decide +kernel
theorem dX4_isOpen_32 : decode cX4_isOpen 32 = .ok (.ifCond .ne 7, 3) := by decide +kernel
theorem dX4_isOpen_35 : decode cX4_isOpen 35 = .ok (.iconst 1, 1) := by decide +kernel
theorem dX4_isOpen_36 : decode cX4_isOpen 36 = .ok (.goto 4, 3) := by decide +kernel
theorem dX4_isOpen_39 : decode cX4_isOpen 39 = .ok (.iconst 0, 1) := by decide +kernel
theorem dX4_isOpen_40 : decode cX4_isOpen 40 = .ok (.ireturn, 1) := by decide +kernel
set_option maxRecDepth 20000 in
theorem ggX4_keep_X4_isOpen : GoodIn wsX4_keep wsX4_isOpen := goodIn_r _ [8, 2, 9, 10, 11, 7, 12, 13, 14, 15, 16, 17, 18, 19, 20, 21, 22, 23, 24, 25, 26, 27, 28, 29, 30, 31, 32, 33, 34, 35, 36, 98, 99, 100, 101, 102, 103, 104, 105, 106, 107, 108, 109, 110, 111, 112, 113, 114, 115, 116] (by decide +kernel) (by decide +kernel)
set_option maxRecDepth 20000 in
theorem gX4_keep_X4_isOpen : GoodIn wsX4_keep (wsV RX4 144 RX4 yX4_isOpen wsX4_isOpen) := goodIn_app (goodIn_of _ (by decide +kernel)) ggX4_keep_X4_isOpen
set_option maxRecDepth 20000 in
theorem ggX4_keep_X4_layKeeps : GoodIn wsX4_keep wsX4_layKeeps := goodIn_r _ [40, 1, 3, 41, 42, 43, 7, 44, 45, 46, 47, 48, 49, 50, 51, 52, 53, 54, 29, 31, 30, 55, 56, 57, 58, 59, 60, 61, 62, 63, 64, 32, 33, 34, 35, 36, 65, 66, 67, 68, 69, 70, 71, 72, 73, 24, 25, 26, 27, 28, 74, 75, 76, 77, 78, 79, 80, 81, 82, 83, 84, 85, 86, 87, 88, 16, 17, 18, 98, 99, 100, 101, 102, 103, 104, 105, 106, 107, 108, 109, 110, 111, 112, 113, 114, 115, 116] (by decide +kernel) (by decide +kernel)
set_option maxRecDepth 20000 in
theorem gX4_keep_X4_layKeeps : GoodIn wsX4_keep (wsV RX4 147 RX4 yX4_layKeeps wsX4_layKeeps) := goodIn_app (goodIn_of _ (by decide +kernel)) ggX4_keep_X4_layKeeps
set_option maxRecDepth 20000 in
theorem ggX4_keep_X4_isFull : GoodIn wsX4_keep wsX4_isFull := goodIn_r _ [92, 29, 98, 99, 100, 101, 102, 103, 104, 105, 106, 107, 108, 109, 110, 111, 112, 113, 114, 115, 116] (by decide +kernel) (by decide +kernel)
set_option maxRecDepth 20000 in
theorem gX4_keep_X4_isFull : GoodIn wsX4_keep (wsV RX4 98 RX4 yX4_isFull wsX4_isFull) := goodIn_app (goodIn_of _ (by decide +kernel)) ggX4_keep_X4_isFull
set_option maxRecDepth 20000 in
theorem ggX4_keep_X4_write : GoodIn wsX4_keep wsX4_write := goodIn_r _ [96, 97, 31, 29, 60, 73, 30, 55, 36, 98, 99, 100, 101, 102, 103, 104, 105, 106, 107, 108, 109, 110, 111, 112, 113, 114, 115, 116] (by decide +kernel) (by decide +kernel)
set_option maxRecDepth 20000 in
theorem gX4_keep_X4_write : GoodIn wsX4_keep (wsV RX4 101 RX4 yX4_write wsX4_write) := goodIn_app (goodIn_of _ (by decide +kernel)) ggX4_keep_X4_write
theorem dX4_keep_0 : decode cX4_keep 0 = .ok (.aload_n 0, 1) := by decide +kernel
theorem dX4_keep_1 : decode cX4_keep 1 = .ok (.iload_n 1, 1) := by decide +kernel
theorem dX4_keep_2 : decode cX4_keep 2 = .ok (.iload_n 2, 1) := by decide +kernel
theorem dX4_keep_3 : decode cX4_keep 3 = .ok (.invokevirtual 144, 3) := by decide +kernel
theorem dX4_keep_6 : decode cX4_keep 6 = .ok (.ifCond .ne 5, 3) := by decide +kernel
theorem dX4_keep_9 : decode cX4_keep 9 = .ok (.iconst 0, 1) := by decide +kernel
theorem dX4_keep_10 : decode cX4_keep 10 = .ok (.ireturn, 1) := by decide +kernel
theorem dX4_keep_11 : decode cX4_keep 11 = .ok (.aload_n 0, 1) := by decide +kernel
theorem dX4_keep_12 : decode cX4_keep 12 = .ok (.iload_n 1, 1) := by decide +kernel
theorem dX4_keep_13 : decode cX4_keep 13 = .ok (.iload_n 2, 1) := by decide +kernel
theorem dX4_keep_14 : decode cX4_keep 14 = .ok (.invokevirtual 147, 3) := by decide +kernel
theorem dX4_keep_17 : decode cX4_keep 17 = .ok (.aload_n 0, 1) := by decide +kernel
theorem dX4_keep_18 : decode cX4_keep 18 = .ok (.aload_n 0, 1) := by decide +kernel
theorem dX4_keep_19 : decode cX4_keep 19 = .ok (.aload_n 0, 1) := by decide +kernel
theorem dX4_keep_20 : decode cX4_keep 20 = .ok (.getfield 132, 3) := by decide +kernel
theorem dX4_keep_23 : decode cX4_keep 23 = .ok (.invokevirtual 98, 3) := by decide +kernel
theorem dX4_keep_26 : decode cX4_keep 26 = .ok (.ifCond .eq 7, 3) := by decide +kernel
theorem dX4_keep_29 : decode cX4_keep 29 = .ok (.iconst 2, 1) := by decide +kernel
theorem dX4_keep_30 : decode cX4_keep 30 = .ok (.goto 4, 3) := by decide +kernel
theorem dX4_keep_33 : decode cX4_keep 33 = .ok (.iconst 0, 1) := by decide +kernel
theorem dX4_keep_34 : decode cX4_keep 34 = .ok (.putfield 60, 3) := by decide +kernel
theorem dX4_keep_37 : decode cX4_keep 37 = .ok (.iconst 0, 1) := by decide +kernel
theorem dX4_keep_38 : decode cX4_keep 38 = .ok (.istore_n 3, 1) := by decide +kernel
theorem dX4_keep_39 : decode cX4_keep 39 = .ok (.iload_n 3, 1) := by decide +kernel
theorem dX4_keep_40 : decode cX4_keep 40 = .ok (.aload_n 0, 1) := by decide +kernel
theorem dX4_keep_41 : decode cX4_keep 41 = .ok (.getfield 132, 3) := by decide +kernel
theorem dX4_keep_44 : decode cX4_keep 44 = .ok (.if_icmp .ge 31, 3) := by decide +kernel
theorem dX4_keep_47 : decode cX4_keep 47 = .ok (.aload_n 0, 1) := by decide +kernel
theorem dX4_keep_48 : decode cX4_keep 48 = .ok (.getfield 60, 3) := by decide +kernel
theorem dX4_keep_51 : decode cX4_keep 51 = .ok (.ifCond .ne 24, 3) := by decide +kernel
theorem dX4_keep_54 : decode cX4_keep 54 = .ok (.aload_n 0, 1) := by decide +kernel
theorem dX4_keep_55 : decode cX4_keep 55 = .ok (.iload_n 1, 1) := by decide +kernel
theorem dX4_keep_56 : decode cX4_keep 56 = .ok (.iconst 4, 1) := by decide +kernel
theorem dX4_keep_57 : decode cX4_keep 57 = .ok (.aload_n 0, 1) := by decide +kernel
theorem dX4_keep_58 : decode cX4_keep 58 = .ok (.getfield 53, 3) := by decide +kernel
theorem dX4_keep_61 : decode cX4_keep 61 = .ok (.iload_n 3, 1) := by decide +kernel
theorem dX4_keep_62 : decode cX4_keep 62 = .ok (.iaload, 1) := by decide +kernel
theorem dX4_keep_63 : decode cX4_keep 63 = .ok (.iload_n 2, 1) := by decide +kernel
theorem dX4_keep_64 : decode cX4_keep 64 = .ok (.invokevirtual 101, 3) := by decide +kernel
theorem dX4_keep_67 : decode cX4_keep 67 = .ok (.istore 4, 2) := by decide +kernel
theorem dX4_keep_69 : decode cX4_keep 69 = .ok (.iinc 3 1, 3) := by decide +kernel
theorem dX4_keep_72 : decode cX4_keep 72 = .ok (.goto (-33), 3) := by decide +kernel
theorem dX4_keep_75 : decode cX4_keep 75 = .ok (.aload_n 0, 1) := by decide +kernel
theorem dX4_keep_76 : decode cX4_keep 76 = .ok (.getfield 60, 3) := by decide +kernel
theorem dX4_keep_79 : decode cX4_keep 79 = .ok (.ifCond .ne 10, 3) := by decide +kernel
theorem dX4_keep_82 : decode cX4_keep 82 = .ok (.aload_n 0, 1) := by decide +kernel
theorem dX4_keep_83 : decode cX4_keep 83 = .ok (.getfield 132, 3) := by decide +kernel
theorem dX4_keep_86 : decode cX4_keep 86 = .ok (.goto 4, 3) := by decide +kernel
theorem dX4_keep_89 : decode cX4_keep 89 = .ok (.iconst 0, 1) := by decide +kernel
theorem dX4_keep_90 : decode cX4_keep 90 = .ok (.ireturn, 1) := by decide +kernel
set_option maxRecDepth 20000 in
theorem ggX4_drop_X4_isOpen : GoodIn wsX4_drop wsX4_isOpen := goodIn_r _ [7, 1, 8, 9, 10, 6, 11, 12, 13, 14, 15, 16, 17, 18, 19, 20, 21, 22, 23, 24, 25, 26, 27, 28, 29, 30, 31, 32, 33, 34, 35, 88, 89, 90, 91, 92, 93, 94, 95, 96, 97, 98, 99, 100, 101, 102, 103, 104, 105, 106] (by decide +kernel) (by decide +kernel)
set_option maxRecDepth 20000 in
theorem gX4_drop_X4_isOpen : GoodIn wsX4_drop (wsV RX4 144 RX4 yX4_isOpen wsX4_isOpen) := goodIn_app (goodIn_of _ (by decide +kernel)) ggX4_drop_X4_isOpen
set_option maxRecDepth 20000 in
theorem ggX4_drop_X4_layKept : GoodIn wsX4_drop wsX4_layKept := goodIn_r _ [39, 2, 40, 41, 42, 43, 6, 44, 28, 30, 29, 45, 46, 47, 48, 49, 50, 51, 52, 53, 54, 31, 32, 33, 34, 35, 55, 56, 57, 58, 59, 60, 61, 62, 63, 23, 24, 25, 26, 27, 64, 65, 66, 67, 68, 69, 70, 71, 72, 73, 74, 75, 76, 77, 78, 15, 16, 17, 88, 89, 90, 91, 92, 93, 94, 95, 96, 97, 98, 99, 100, 101, 102, 103, 104, 105, 106] (by decide +kernel) (by decide +kernel)
set_option maxRecDepth 20000 in
theorem gX4_drop_X4_layKept : GoodIn wsX4_drop (wsV RX4 151 RX4 yX4_layKept wsX4_layKept) := goodIn_app (goodIn_of _ (by decide +kernel)) ggX4_drop_X4_layKept
set_option maxRecDepth 20000 in
theorem ggX4_drop_X4_isFull : GoodIn wsX4_drop wsX4_isFull := goodIn_r _ [82, 28, 88, 89, 90, 91, 92, 93, 94, 95, 96, 97, 98, 99, 100, 101, 102, 103, 104, 105, 106] (by decide +kernel) (by decide +kernel)
set_option maxRecDepth 20000 in
theorem gX4_drop_X4_isFull : GoodIn wsX4_drop (wsV RX4 98 RX4 yX4_isFull wsX4_isFull) := goodIn_app (goodIn_of _ (by decide +kernel)) ggX4_drop_X4_isFull
set_option maxRecDepth 20000 in
theorem ggX4_drop_X4_write : GoodIn wsX4_drop wsX4_write := goodIn_r _ [86, 87, 30, 28, 50, 63, 29, 45, 35, 88, 89, 90, 91, 92, 93, 94, 95, 96, 97, 98, 99, 100, 101, 102, 103, 104, 105, 106] (by decide +kernel) (by decide +kernel)
set_option maxRecDepth 20000 in
theorem gX4_drop_X4_write : GoodIn wsX4_drop (wsV RX4 101 RX4 yX4_write wsX4_write) := goodIn_app (goodIn_of _ (by decide +kernel)) ggX4_drop_X4_write
theorem dX4_drop_0 : decode cX4_drop 0 = .ok (.aload_n 0, 1) := by decide +kernel
theorem dX4_drop_1 : decode cX4_drop 1 = .ok (.iload_n 1, 1) := by decide +kernel
theorem dX4_drop_2 : decode cX4_drop 2 = .ok (.iload_n 2, 1) := by decide +kernel
theorem dX4_drop_3 : decode cX4_drop 3 = .ok (.invokevirtual 144, 3) := by decide +kernel
theorem dX4_drop_6 : decode cX4_drop 6 = .ok (.ifCond .ne 5, 3) := by decide +kernel
theorem dX4_drop_9 : decode cX4_drop 9 = .ok (.iconst 0, 1) := by decide +kernel
theorem dX4_drop_10 : decode cX4_drop 10 = .ok (.ireturn, 1) := by decide +kernel
theorem dX4_drop_11 : decode cX4_drop 11 = .ok (.aload_n 0, 1) := by decide +kernel
theorem dX4_drop_12 : decode cX4_drop 12 = .ok (.iload_n 1, 1) := by decide +kernel
theorem dX4_drop_13 : decode cX4_drop 13 = .ok (.iload_n 2, 1) := by decide +kernel
theorem dX4_drop_14 : decode cX4_drop 14 = .ok (.invokevirtual 151, 3) := by decide +kernel
theorem dX4_drop_17 : decode cX4_drop 17 = .ok (.aload_n 0, 1) := by decide +kernel
theorem dX4_drop_18 : decode cX4_drop 18 = .ok (.aload_n 0, 1) := by decide +kernel
theorem dX4_drop_19 : decode cX4_drop 19 = .ok (.iconst 1, 1) := by decide +kernel
theorem dX4_drop_20 : decode cX4_drop 20 = .ok (.invokevirtual 98, 3) := by decide +kernel
theorem dX4_drop_23 : decode cX4_drop 23 = .ok (.ifCond .eq 7, 3) := by decide +kernel
theorem dX4_drop_26 : decode cX4_drop 26 = .ok (.iconst 2, 1) := by decide +kernel
theorem dX4_drop_27 : decode cX4_drop 27 = .ok (.goto 4, 3) := by decide +kernel
theorem dX4_drop_30 : decode cX4_drop 30 = .ok (.iconst 0, 1) := by decide +kernel
theorem dX4_drop_31 : decode cX4_drop 31 = .ok (.putfield 60, 3) := by decide +kernel
theorem dX4_drop_34 : decode cX4_drop 34 = .ok (.aload_n 0, 1) := by decide +kernel
theorem dX4_drop_35 : decode cX4_drop 35 = .ok (.getfield 60, 3) := by decide +kernel
theorem dX4_drop_38 : decode cX4_drop 38 = .ok (.ifCond .le 5, 3) := by decide +kernel
theorem dX4_drop_41 : decode cX4_drop 41 = .ok (.iconst 0, 1) := by decide +kernel
theorem dX4_drop_42 : decode cX4_drop 42 = .ok (.ireturn, 1) := by decide +kernel
theorem dX4_drop_43 : decode cX4_drop 43 = .ok (.aload_n 0, 1) := by decide +kernel
theorem dX4_drop_44 : decode cX4_drop 44 = .ok (.iload_n 1, 1) := by decide +kernel
theorem dX4_drop_45 : decode cX4_drop 45 = .ok (.iconst 5, 1) := by decide +kernel
theorem dX4_drop_46 : decode cX4_drop 46 = .ok (.iload_n 2, 1) := by decide +kernel
theorem dX4_drop_47 : decode cX4_drop 47 = .ok (.iconst (-1), 1) := by decide +kernel
theorem dX4_drop_48 : decode cX4_drop 48 = .ok (.invokevirtual 101, 3) := by decide +kernel
theorem dX4_drop_51 : decode cX4_drop 51 = .ok (.istore_n 3, 1) := by decide +kernel
theorem dX4_drop_52 : decode cX4_drop 52 = .ok (.aload_n 0, 1) := by decide +kernel
theorem dX4_drop_53 : decode cX4_drop 53 = .ok (.getfield 132, 3) := by decide +kernel
theorem dX4_drop_56 : decode cX4_drop 56 = .ok (.ireturn, 1) := by decide +kernel
set_option maxRecDepth 20000 in
theorem ggX4_bake_X4_isOpen : GoodIn wsX4_bake wsX4_isOpen := goodIn_r _ [8, 2, 9, 10, 11, 7, 12, 13, 14, 15, 16, 17, 18, 19, 20, 21, 22, 23, 24, 25, 26, 27, 28, 29, 30, 31, 32, 33, 34, 35, 36, 98, 99, 100, 101, 102, 103, 104, 105, 106, 107, 108, 109, 110, 111, 112, 113, 114, 115, 116] (by decide +kernel) (by decide +kernel)
set_option maxRecDepth 20000 in
theorem gX4_bake_X4_isOpen : GoodIn wsX4_bake (wsV RX4 144 RX4 yX4_isOpen wsX4_isOpen) := goodIn_app (goodIn_of _ (by decide +kernel)) ggX4_bake_X4_isOpen
set_option maxRecDepth 20000 in
theorem ggX4_bake_X4_lackOf : GoodIn wsX4_bake wsX4_lackOf := goodIn_r _ [40, 41, 42, 43, 44, 45, 7, 46, 47, 48, 49, 50, 29, 31, 30, 51, 52, 53, 54, 55, 56, 57, 58, 59, 60, 32, 33, 34, 35, 36, 61, 62, 63, 64, 65, 66, 67, 68, 69, 24, 25, 26, 27, 28, 70, 71, 72, 73, 74, 75, 76, 77, 78, 79, 80, 81, 82, 83, 84, 16, 17, 18, 98, 99, 100, 101, 102, 103, 104, 105, 106, 107, 108, 109, 110, 111, 112, 113, 114, 115, 116] (by decide +kernel) (by decide +kernel)
set_option maxRecDepth 20000 in
theorem gX4_bake_X4_lackOf : GoodIn wsX4_bake (wsV RX4 135 RX4 yX4_lackOf wsX4_lackOf) := goodIn_app (goodIn_of _ (by decide +kernel)) ggX4_bake_X4_lackOf
set_option maxRecDepth 20000 in
theorem ggX4_bake_X4_layKept : GoodIn wsX4_bake wsX4_layKept := goodIn_r _ [88, 1, 3, 47, 48, 49, 7, 50, 29, 31, 30, 51, 52, 53, 54, 55, 56, 57, 58, 59, 60, 32, 33, 34, 35, 36, 61, 62, 63, 64, 65, 66, 67, 68, 69, 24, 25, 26, 27, 28, 70, 71, 72, 73, 74, 75, 76, 77, 78, 79, 80, 81, 82, 83, 84, 16, 17, 18, 98, 99, 100, 101, 102, 103, 104, 105, 106, 107, 108, 109, 110, 111, 112, 113, 114, 115, 116] (by decide +kernel) (by decide +kernel)
set_option maxRecDepth 20000 in
theorem gX4_bake_X4_layKept : GoodIn wsX4_bake (wsV RX4 151 RX4 yX4_layKept wsX4_layKept) := goodIn_app (goodIn_of _ (by decide +kernel)) ggX4_bake_X4_layKept
set_option maxRecDepth 20000 in
theorem ggX4_bake_X4_isFull : GoodIn wsX4_bake wsX4_isFull := goodIn_r _ [92, 29, 98, 99, 100, 101, 102, 103, 104, 105, 106, 107, 108, 109, 110, 111, 112, 113, 114, 115, 116] (by decide +kernel) (by decide +kernel)
set_option maxRecDepth 20000 in
theorem gX4_bake_X4_isFull : GoodIn wsX4_bake (wsV RX4 98 RX4 yX4_isFull wsX4_isFull) := goodIn_app (goodIn_of _ (by decide +kernel)) ggX4_bake_X4_isFull
set_option maxRecDepth 20000 in
theorem ggX4_bake_X4_write : GoodIn wsX4_bake wsX4_write := goodIn_r _ [96, 97, 31, 29, 56, 69, 30, 51, 36, 98, 99, 100, 101, 102, 103, 104, 105, 106, 107, 108, 109, 110, 111, 112, 113, 114, 115, 116] (by decide +kernel) (by decide +kernel)
set_option maxRecDepth 20000 in
theorem gX4_bake_X4_write : GoodIn wsX4_bake (wsV RX4 101 RX4 yX4_write wsX4_write) := goodIn_app (goodIn_of _ (by decide +kernel)) ggX4_bake_X4_write
theorem dX4_bake_0 : decode cX4_bake 0 = .ok (.aload_n 0, 1) := by decide +kernel
theorem dX4_bake_1 : decode cX4_bake 1 = .ok (.iload_n 1, 1) := by decide +kernel
theorem dX4_bake_2 : decode cX4_bake 2 = .ok (.iload_n 2, 1) := by decide +kernel
theorem dX4_bake_3 : decode cX4_bake 3 = .ok (.invokevirtual 144, 3) := by decide +kernel
theorem dX4_bake_6 : decode cX4_bake 6 = .ok (.ifCond .ne 5, 3) := by decide +kernel
theorem dX4_bake_9 : decode cX4_bake 9 = .ok (.iconst 0, 1) := by decide +kernel
theorem dX4_bake_10 : decode cX4_bake 10 = .ok (.ireturn, 1) := by decide +kernel
theorem dX4_bake_11 : decode cX4_bake 11 = .ok (.iconst 0, 1) := by decide +kernel
theorem dX4_bake_12 : decode cX4_bake 12 = .ok (.istore_n 3, 1) := by decide +kernel
theorem dX4_bake_13 : decode cX4_bake 13 = .ok (.iconst 0, 1) := by decide +kernel
theorem dX4_bake_14 : decode cX4_bake 14 = .ok (.istore 4, 2) := by decide +kernel
theorem dX4_bake_16 : decode cX4_bake 16 = .ok (.iload 4, 2) := by decide +kernel
theorem dX4_bake_18 : decode cX4_bake 18 = .ok (.bipush 8, 2) := by decide +kernel
theorem dX4_bake_20 : decode cX4_bake 20 = .ok (.if_icmp .ge 20, 3) := by decide +kernel
theorem dX4_bake_23 : decode cX4_bake 23 = .ok (.iload_n 3, 1) := by decide +kernel
theorem dX4_bake_24 : decode cX4_bake 24 = .ok (.aload_n 0, 1) := by decide +kernel
theorem dX4_bake_25 : decode cX4_bake 25 = .ok (.iload_n 1, 1) := by decide +kernel
theorem dX4_bake_26 : decode cX4_bake 26 = .ok (.iload_n 2, 1) := by decide +kernel
theorem dX4_bake_27 : decode cX4_bake 27 = .ok (.iload 4, 2) := by decide +kernel
theorem dX4_bake_29 : decode cX4_bake 29 = .ok (.invokevirtual 135, 3) := by decide +kernel
theorem dX4_bake_32 : decode cX4_bake 32 = .ok (.iadd, 1) := by decide +kernel
theorem dX4_bake_33 : decode cX4_bake 33 = .ok (.istore_n 3, 1) := by decide +kernel
theorem dX4_bake_34 : decode cX4_bake 34 = .ok (.iinc 4 1, 3) := by decide +kernel
theorem dX4_bake_37 : decode cX4_bake 37 = .ok (.goto (-21), 3) := by decide +kernel
theorem dX4_bake_40 : decode cX4_bake 40 = .ok (.aload_n 0, 1) := by decide +kernel
theorem dX4_bake_41 : decode cX4_bake 41 = .ok (.iload_n 1, 1) := by decide +kernel
theorem dX4_bake_42 : decode cX4_bake 42 = .ok (.iload_n 2, 1) := by decide +kernel
theorem dX4_bake_43 : decode cX4_bake 43 = .ok (.invokevirtual 151, 3) := by decide +kernel
theorem dX4_bake_46 : decode cX4_bake 46 = .ok (.aload_n 0, 1) := by decide +kernel
theorem dX4_bake_47 : decode cX4_bake 47 = .ok (.iload_n 3, 1) := by decide +kernel
theorem dX4_bake_48 : decode cX4_bake 48 = .ok (.ifCond .gt 16, 3) := by decide +kernel
theorem dX4_bake_51 : decode cX4_bake 51 = .ok (.aload_n 0, 1) := by decide +kernel
theorem dX4_bake_52 : decode cX4_bake 52 = .ok (.aload_n 0, 1) := by decide +kernel
theorem dX4_bake_53 : decode cX4_bake 53 = .ok (.getfield 132, 3) := by decide +kernel
theorem dX4_bake_56 : decode cX4_bake 56 = .ok (.iconst 1, 1) := by decide +kernel
theorem dX4_bake_57 : decode cX4_bake 57 = .ok (.iadd, 1) := by decide +kernel
theorem dX4_bake_58 : decode cX4_bake 58 = .ok (.invokevirtual 98, 3) := by decide +kernel
theorem dX4_bake_61 : decode cX4_bake 61 = .ok (.ifCond .eq 7, 3) := by decide +kernel
theorem dX4_bake_64 : decode cX4_bake 64 = .ok (.iconst 2, 1) := by decide +kernel
theorem dX4_bake_65 : decode cX4_bake 65 = .ok (.goto 4, 3) := by decide +kernel
theorem dX4_bake_68 : decode cX4_bake 68 = .ok (.iconst 0, 1) := by decide +kernel
theorem dX4_bake_69 : decode cX4_bake 69 = .ok (.putfield 60, 3) := by decide +kernel
theorem dX4_bake_72 : decode cX4_bake 72 = .ok (.aload_n 0, 1) := by decide +kernel
theorem dX4_bake_73 : decode cX4_bake 73 = .ok (.getfield 60, 3) := by decide +kernel
theorem dX4_bake_76 : decode cX4_bake 76 = .ok (.ifCond .le 5, 3) := by decide +kernel
theorem dX4_bake_79 : decode cX4_bake 79 = .ok (.iconst 0, 1) := by decide +kernel
theorem dX4_bake_80 : decode cX4_bake 80 = .ok (.ireturn, 1) := by decide +kernel
theorem dX4_bake_81 : decode cX4_bake 81 = .ok (.iconst 0, 1) := by decide +kernel
theorem dX4_bake_82 : decode cX4_bake 82 = .ok (.istore 4, 2) := by decide +kernel
theorem dX4_bake_84 : decode cX4_bake 84 = .ok (.iload 4, 2) := by decide +kernel
theorem dX4_bake_86 : decode cX4_bake 86 = .ok (.aload_n 0, 1) := by decide +kernel
theorem dX4_bake_87 : decode cX4_bake 87 = .ok (.getfield 132, 3) := by decide +kernel
theorem dX4_bake_90 : decode cX4_bake 90 = .ok (.if_icmp .ge 25, 3) := by decide +kernel
theorem dX4_bake_93 : decode cX4_bake 93 = .ok (.aload_n 0, 1) := by decide +kernel
theorem dX4_bake_94 : decode cX4_bake 94 = .ok (.iload_n 1, 1) := by decide +kernel
theorem dX4_bake_95 : decode cX4_bake 95 = .ok (.iconst 1, 1) := by decide +kernel
theorem dX4_bake_96 : decode cX4_bake 96 = .ok (.aload_n 0, 1) := by decide +kernel
theorem dX4_bake_97 : decode cX4_bake 97 = .ok (.getfield 53, 3) := by decide +kernel
theorem dX4_bake_100 : decode cX4_bake 100 = .ok (.iload 4, 2) := by decide +kernel
theorem dX4_bake_102 : decode cX4_bake 102 = .ok (.iaload, 1) := by decide +kernel
theorem dX4_bake_103 : decode cX4_bake 103 = .ok (.iload_n 2, 1) := by decide +kernel
theorem dX4_bake_104 : decode cX4_bake 104 = .ok (.invokevirtual 101, 3) := by decide +kernel
theorem dX4_bake_107 : decode cX4_bake 107 = .ok (.istore 5, 2) := by decide +kernel
theorem dX4_bake_109 : decode cX4_bake 109 = .ok (.iinc 4 1, 3) := by decide +kernel
theorem dX4_bake_112 : decode cX4_bake 112 = .ok (.goto (-28), 3) := by decide +kernel
theorem dX4_bake_115 : decode cX4_bake 115 = .ok (.aload_n 0, 1) := by decide +kernel
theorem dX4_bake_116 : decode cX4_bake 116 = .ok (.iload_n 1, 1) := by decide +kernel
theorem dX4_bake_117 : decode cX4_bake 117 = .ok (.bipush 6, 2) := by decide +kernel
theorem dX4_bake_119 : decode cX4_bake 119 = .ok (.iload_n 2, 1) := by decide +kernel
theorem dX4_bake_120 : decode cX4_bake 120 = .ok (.iconst (-1), 1) := by decide +kernel
theorem dX4_bake_121 : decode cX4_bake 121 = .ok (.invokevirtual 101, 3) := by decide +kernel
theorem dX4_bake_124 : decode cX4_bake 124 = .ok (.istore 4, 2) := by decide +kernel
theorem dX4_bake_126 : decode cX4_bake 126 = .ok (.aload_n 0, 1) := by decide +kernel
theorem dX4_bake_127 : decode cX4_bake 127 = .ok (.getfield 132, 3) := by decide +kernel
theorem dX4_bake_130 : decode cX4_bake 130 = .ok (.ireturn, 1) := by decide +kernel
theorem dX4_cakes_0 : decode cX4_cakes 0 = .ok (.aload_n 0, 1) := by decide +kernel
theorem dX4_cakes_1 : decode cX4_cakes 1 = .ok (.iconst 0, 1) := by decide +kernel
theorem dX4_cakes_2 : decode cX4_cakes 2 = .ok (.putfield 60, 3) := by decide +kernel
theorem dX4_cakes_5 : decode cX4_cakes 5 = .ok (.aload_n 0, 1) := by decide +kernel
theorem dX4_cakes_6 : decode cX4_cakes 6 = .ok (.getfield 67, 3) := by decide +kernel
theorem dX4_cakes_9 : decode cX4_cakes 9 = .ok (.ireturn, 1) := by decide +kernel
set_option maxRecDepth 20000 in
theorem ggX4_cake_X4_areCake : GoodIn wsX4_cake wsX4_areCake := goodIn_r _ [5, 6, 7, 8, 4, 9, 10, 11, 12, 13, 14, 15, 16, 17, 31, 32, 33, 34, 35, 36, 37, 38, 39, 40, 41, 42, 43, 44, 45, 46, 47, 48, 49] (by decide +kernel) (by decide +kernel)
set_option maxRecDepth 20000 in
theorem gX4_cake_X4_areCake : GoodIn wsX4_cake (wsV RX4 141 RX4 yX4_areCake wsX4_areCake) := goodIn_app (goodIn_of _ (by decide +kernel)) ggX4_cake_X4_areCake
set_option maxRecDepth 20000 in
theorem ggX4_cake_X4_stateOf : GoodIn wsX4_cake wsX4_stateOf := goodIn_r _ [21, 22, 23, 24, 25, 26, 27, 28, 4, 29, 30, 31, 32, 33, 34, 35, 36, 37, 38, 39, 40, 41, 42, 43, 44, 45, 46, 47, 48, 49] (by decide +kernel) (by decide +kernel)
set_option maxRecDepth 20000 in
theorem gX4_cake_X4_stateOf : GoodIn wsX4_cake (wsV RX4 120 RX4 yX4_stateOf wsX4_stateOf) := goodIn_app (goodIn_of _ (by decide +kernel)) ggX4_cake_X4_stateOf
theorem dX4_cake_0 : decode cX4_cake 0 = .ok (.aload_n 0, 1) := by decide +kernel
theorem dX4_cake_1 : decode cX4_cake 1 = .ok (.iload_n 1, 1) := by decide +kernel
theorem dX4_cake_2 : decode cX4_cake 2 = .ok (.iload_n 2, 1) := by decide +kernel
theorem dX4_cake_3 : decode cX4_cake 3 = .ok (.invokevirtual 141, 3) := by decide +kernel
theorem dX4_cake_6 : decode cX4_cake 6 = .ok (.ifCond .eq 12, 3) := by decide +kernel
theorem dX4_cake_9 : decode cX4_cake 9 = .ok (.aload_n 0, 1) := by decide +kernel
theorem dX4_cake_10 : decode cX4_cake 10 = .ok (.iload_n 1, 1) := by decide +kernel
theorem dX4_cake_11 : decode cX4_cake 11 = .ok (.iload_n 2, 1) := by decide +kernel
theorem dX4_cake_12 : decode cX4_cake 12 = .ok (.invokevirtual 120, 3) := by decide +kernel
theorem dX4_cake_15 : decode cX4_cake 15 = .ok (.goto 4, 3) := by decide +kernel
theorem dX4_cake_18 : decode cX4_cake 18 = .ok (.iconst 0, 1) := by decide +kernel
theorem dX4_cake_19 : decode cX4_cake 19 = .ok (.ireturn, 1) := by decide +kernel
set_option maxRecDepth 20000 in
theorem ggX4_keptFor_X4_areOne : GoodIn wsX4_keptFor wsX4_areOne := goodIn_r _ [5, 6, 7, 8, 4, 9, 10, 11, 12, 13, 14, 15, 67, 68, 69, 70, 71, 72, 73, 74, 75, 76, 77, 78, 79, 80, 81, 82, 83, 84, 85] (by decide +kernel) (by decide +kernel)
set_option maxRecDepth 20000 in
theorem gX4_keptFor_X4_areOne : GoodIn wsX4_keptFor (wsV RX4 91 RX4 yX4_areOne wsX4_areOne) := goodIn_app (goodIn_of _ (by decide +kernel)) ggX4_keptFor_X4_areOne
set_option maxRecDepth 20000 in
theorem ggX4_keptFor_X4_keeper : GoodIn wsX4_keptFor wsX4_keeper := goodIn_r _ [19, 20, 21, 22, 23, 24, 25, 26, 4, 27, 28, 29, 30, 31, 32, 33, 34, 35, 36, 37, 38, 39, 40, 41, 42, 43, 44, 45, 46, 47, 48, 49, 50, 51, 52, 53, 54, 55, 56, 57, 58, 59, 60, 61, 62, 63, 64, 65, 66, 10, 11, 12, 67, 68, 69, 70, 71, 72, 73, 74, 75, 76, 77, 78, 79, 80, 81, 82, 83, 84, 85] (by decide +kernel) (by decide +kernel)
set_option maxRecDepth 20000 in
theorem gX4_keptFor_X4_keeper : GoodIn wsX4_keptFor (wsV RX4 126 RX4 yX4_keeper wsX4_keeper) := goodIn_app (goodIn_of _ (by decide +kernel)) ggX4_keptFor_X4_keeper
theorem dX4_keptFor_0 : decode cX4_keptFor 0 = .ok (.aload_n 0, 1) := by decide +kernel
theorem dX4_keptFor_1 : decode cX4_keptFor 1 = .ok (.iload_n 1, 1) := by decide +kernel
theorem dX4_keptFor_2 : decode cX4_keptFor 2 = .ok (.iload_n 2, 1) := by decide +kernel
theorem dX4_keptFor_3 : decode cX4_keptFor 3 = .ok (.invokevirtual 91, 3) := by decide +kernel
theorem dX4_keptFor_6 : decode cX4_keptFor 6 = .ok (.ifCond .eq 12, 3) := by decide +kernel
theorem dX4_keptFor_9 : decode cX4_keptFor 9 = .ok (.aload_n 0, 1) := by decide +kernel
theorem dX4_keptFor_10 : decode cX4_keptFor 10 = .ok (.iload_n 1, 1) := by decide +kernel
theorem dX4_keptFor_11 : decode cX4_keptFor 11 = .ok (.iload_n 2, 1) := by decide +kernel
theorem dX4_keptFor_12 : decode cX4_keptFor 12 = .ok (.invokevirtual 126, 3) := by decide +kernel
theorem dX4_keptFor_15 : decode cX4_keptFor 15 = .ok (.goto 4, 3) := by decide +kernel
theorem dX4_keptFor_18 : decode cX4_keptFor 18 = .ok (.iconst 0, 1) := by decide +kernel
theorem dX4_keptFor_19 : decode cX4_keptFor 19 = .ok (.ireturn, 1) := by decide +kernel
set_option maxRecDepth 20000 in
theorem ggX4_keptByAll_X4_isThing : GoodIn wsX4_keptByAll wsX4_isThing := goodIn_r _ [5, 6, 7, 4, 8] (by decide +kernel) (by decide +kernel)
set_option maxRecDepth 20000 in
theorem gX4_keptByAll_X4_isThing : GoodIn wsX4_keptByAll (va_wsS RX4 88 yX4_isThing wsX4_isThing) := goodIn_app (goodIn_of _ (by decide +kernel)) ggX4_keptByAll_X4_isThing
set_option maxRecDepth 20000 in
theorem ggX4_keptByAll_X4_keeper : GoodIn wsX4_keptByAll wsX4_keeper := goodIn_r _ [12, 13, 14, 15, 16, 17, 18, 19, 4, 20, 21, 22, 23, 24, 25, 26, 27, 28, 29, 30, 31, 32, 33, 34, 35, 36, 37, 38, 39, 40, 41, 42, 43, 44, 45, 46, 47, 48, 49, 50, 51, 52, 53, 54, 55, 56, 57, 58, 59, 6, 7, 8, 60, 61, 62, 63, 64, 65, 66, 67, 68, 69, 70, 71, 72, 73, 74, 75, 76, 77, 78] (by decide +kernel) (by decide +kernel)
set_option maxRecDepth 20000 in
theorem gX4_keptByAll_X4_keeper : GoodIn wsX4_keptByAll (wsV RX4 126 RX4 yX4_keeper wsX4_keeper) := goodIn_app (goodIn_of _ (by decide +kernel)) ggX4_keptByAll_X4_keeper
theorem dX4_keptByAll_0 : decode cX4_keptByAll 0 = .ok (.aload_n 0, 1) := by decide +kernel
theorem dX4_keptByAll_1 : decode cX4_keptByAll 1 = .ok (.iload_n 1, 1) := by decide +kernel
theorem dX4_keptByAll_2 : decode cX4_keptByAll 2 = .ok (.invokestatic 88, 3) := by decide +kernel
theorem dX4_keptByAll_5 : decode cX4_keptByAll 5 = .ok (.ifCond .eq 7, 3) := by decide +kernel
theorem dX4_keptByAll_8 : decode cX4_keptByAll 8 = .ok (.iconst 0, 1) := by decide +kernel
theorem dX4_keptByAll_9 : decode cX4_keptByAll 9 = .ok (.goto 4, 3) := by decide +kernel
theorem dX4_keptByAll_12 : decode cX4_keptByAll 12 = .ok (.iconst 1, 1) := by decide +kernel
theorem dX4_keptByAll_13 : decode cX4_keptByAll 13 = .ok (.putfield 60, 3) := by decide +kernel
theorem dX4_keptByAll_16 : decode cX4_keptByAll 16 = .ok (.aload_n 0, 1) := by decide +kernel
theorem dX4_keptByAll_17 : decode cX4_keptByAll 17 = .ok (.getfield 60, 3) := by decide +kernel
theorem dX4_keptByAll_20 : decode cX4_keptByAll 20 = .ok (.ifCond .ne 12, 3) := by decide +kernel
theorem dX4_keptByAll_23 : decode cX4_keptByAll 23 = .ok (.aload_n 0, 1) := by decide +kernel
theorem dX4_keptByAll_24 : decode cX4_keptByAll 24 = .ok (.iconst 5, 1) := by decide +kernel
theorem dX4_keptByAll_25 : decode cX4_keptByAll 25 = .ok (.iload_n 1, 1) := by decide +kernel
theorem dX4_keptByAll_26 : decode cX4_keptByAll 26 = .ok (.invokevirtual 126, 3) := by decide +kernel
theorem dX4_keptByAll_29 : decode cX4_keptByAll 29 = .ok (.goto 4, 3) := by decide +kernel
theorem dX4_keptByAll_32 : decode cX4_keptByAll 32 = .ok (.iconst 0, 1) := by decide +kernel
theorem dX4_keptByAll_33 : decode cX4_keptByAll 33 = .ok (.ireturn, 1) := by decide +kernel
set_option maxRecDepth 20000 in
theorem ggX4_lacks_X4_isFridge : GoodIn wsX4_lacks wsX4_isFridge := goodIn_r _ [5, 6, 7, 4, 8] (by decide +kernel) (by decide +kernel)
set_option maxRecDepth 20000 in
theorem gX4_lacks_X4_isFridge : GoodIn wsX4_lacks (va_wsS RX4 84 yX4_isFridge wsX4_isFridge) := goodIn_app (goodIn_of _ (by decide +kernel)) ggX4_lacks_X4_isFridge
set_option maxRecDepth 20000 in
theorem ggX4_lacks_X4_isCake : GoodIn wsX4_lacks wsX4_isCake := goodIn_r _ [12, 13, 6, 7, 4, 8, 78, 79, 80, 81, 82, 83, 84, 85, 86, 87, 88, 89, 90, 91, 92, 93, 94, 95, 96] (by decide +kernel) (by decide +kernel)
set_option maxRecDepth 20000 in
theorem gX4_lacks_X4_isCake : GoodIn wsX4_lacks (wsV RX4 138 RX4 yX4_isCake wsX4_isCake) := goodIn_app (goodIn_of _ (by decide +kernel)) ggX4_lacks_X4_isCake
set_option maxRecDepth 20000 in
theorem ggX4_lacks_X4_isFood : GoodIn wsX4_lacks wsX4_isFood := goodIn_r _ [16, 6, 7, 4, 8] (by decide +kernel) (by decide +kernel)
set_option maxRecDepth 20000 in
theorem gX4_lacks_X4_isFood : GoodIn wsX4_lacks (va_wsS RX4 105 yX4_isFood wsX4_isFood) := goodIn_app (goodIn_of _ (by decide +kernel)) ggX4_lacks_X4_isFood
set_option maxRecDepth 20000 in
theorem ggX4_lacks_X4_stateOf : GoodIn wsX4_lacks wsX4_stateOf := goodIn_r _ [20, 21, 22, 23, 24, 25, 26, 27, 4, 28, 29, 78, 79, 80, 81, 82, 83, 84, 85, 86, 87, 88, 89, 90, 91, 92, 93, 94, 95, 96] (by decide +kernel) (by decide +kernel)
set_option maxRecDepth 20000 in
theorem gX4_lacks_X4_stateOf : GoodIn wsX4_lacks (wsV RX4 120 RX4 yX4_stateOf wsX4_stateOf) := goodIn_app (goodIn_of _ (by decide +kernel)) ggX4_lacks_X4_stateOf
set_option maxRecDepth 20000 in
theorem ggX4_lacks_X4_lackOf : GoodIn wsX4_lacks wsX4_lackOf := goodIn_r _ [33, 34, 35, 36, 37, 38, 4, 39, 40, 41, 42, 43, 22, 24, 23, 44, 45, 46, 47, 48, 49, 50, 51, 52, 53, 25, 26, 27, 28, 29, 54, 55, 56, 57, 58, 59, 60, 61, 62, 17, 18, 19, 20, 21, 63, 64, 65, 66, 67, 68, 69, 70, 71, 72, 73, 74, 75, 76, 77, 6, 7, 8, 78, 79, 80, 81, 82, 83, 84, 85, 86, 87, 88, 89, 90, 91, 92, 93, 94, 95, 96] (by decide +kernel) (by decide +kernel)
set_option maxRecDepth 20000 in
theorem gX4_lacks_X4_lackOf : GoodIn wsX4_lacks (wsV RX4 135 RX4 yX4_lackOf wsX4_lackOf) := goodIn_app (goodIn_of _ (by decide +kernel)) ggX4_lacks_X4_lackOf
theorem dX4_lacks_0 : decode cX4_lacks 0 = .ok (.aload_n 0, 1) := by decide +kernel
theorem dX4_lacks_1 : decode cX4_lacks 1 = .ok (.iload_n 1, 1) := by decide +kernel
theorem dX4_lacks_2 : decode cX4_lacks 2 = .ok (.invokestatic 84, 3) := by decide +kernel
theorem dX4_lacks_5 : decode cX4_lacks 5 = .ok (.ifCond .eq 22, 3) := by decide +kernel
theorem dX4_lacks_8 : decode cX4_lacks 8 = .ok (.aload_n 0, 1) := by decide +kernel
theorem dX4_lacks_9 : decode cX4_lacks 9 = .ok (.iload_n 2, 1) := by decide +kernel
theorem dX4_lacks_10 : decode cX4_lacks 10 = .ok (.invokevirtual 138, 3) := by decide +kernel
theorem dX4_lacks_13 : decode cX4_lacks 13 = .ok (.ifCond .eq 14, 3) := by decide +kernel
theorem dX4_lacks_16 : decode cX4_lacks 16 = .ok (.iload_n 3, 1) := by decide +kernel
theorem dX4_lacks_17 : decode cX4_lacks 17 = .ok (.invokestatic 105, 3) := by decide +kernel
theorem dX4_lacks_20 : decode cX4_lacks 20 = .ok (.ifCond .eq 7, 3) := by decide +kernel
theorem dX4_lacks_23 : decode cX4_lacks 23 = .ok (.iconst 0, 1) := by decide +kernel
theorem dX4_lacks_24 : decode cX4_lacks 24 = .ok (.goto 4, 3) := by decide +kernel
theorem dX4_lacks_27 : decode cX4_lacks 27 = .ok (.iconst 1, 1) := by decide +kernel
theorem dX4_lacks_28 : decode cX4_lacks 28 = .ok (.putfield 60, 3) := by decide +kernel
theorem dX4_lacks_31 : decode cX4_lacks 31 = .ok (.aload_n 0, 1) := by decide +kernel
theorem dX4_lacks_32 : decode cX4_lacks 32 = .ok (.getfield 60, 3) := by decide +kernel
theorem dX4_lacks_35 : decode cX4_lacks 35 = .ok (.ifCond .ne 23, 3) := by decide +kernel
theorem dX4_lacks_38 : decode cX4_lacks 38 = .ok (.aload_n 0, 1) := by decide +kernel
theorem dX4_lacks_39 : decode cX4_lacks 39 = .ok (.iload_n 1, 1) := by decide +kernel
theorem dX4_lacks_40 : decode cX4_lacks 40 = .ok (.iload_n 2, 1) := by decide +kernel
theorem dX4_lacks_41 : decode cX4_lacks 41 = .ok (.invokevirtual 120, 3) := by decide +kernel
theorem dX4_lacks_44 : decode cX4_lacks 44 = .ok (.iconst 1, 1) := by decide +kernel
theorem dX4_lacks_45 : decode cX4_lacks 45 = .ok (.if_icmp .ne 13, 3) := by decide +kernel
theorem dX4_lacks_48 : decode cX4_lacks 48 = .ok (.aload_n 0, 1) := by decide +kernel
theorem dX4_lacks_49 : decode cX4_lacks 49 = .ok (.iload_n 1, 1) := by decide +kernel
theorem dX4_lacks_50 : decode cX4_lacks 50 = .ok (.iload_n 2, 1) := by decide +kernel
theorem dX4_lacks_51 : decode cX4_lacks 51 = .ok (.iload_n 3, 1) := by decide +kernel
theorem dX4_lacks_52 : decode cX4_lacks 52 = .ok (.invokevirtual 135, 3) := by decide +kernel
theorem dX4_lacks_55 : decode cX4_lacks 55 = .ok (.goto 4, 3) := by decide +kernel
theorem dX4_lacks_58 : decode cX4_lacks 58 = .ok (.iconst 0, 1) := by decide +kernel
theorem dX4_lacks_59 : decode cX4_lacks 59 = .ok (.ireturn, 1) := by decide +kernel
set_option maxRecDepth 20000 in
theorem ggX4_isUnfit_X4_areCake : GoodIn wsX4_isUnfit wsX4_areCake := goodIn_r _ [7, 8, 9, 10, 6, 11, 12, 13, 14, 15, 16, 17, 18, 19, 51, 52, 53, 54, 55, 56, 57, 58, 59, 60, 61, 62, 63, 64, 65, 66, 67, 68, 69] (by decide +kernel) (by decide +kernel)
set_option maxRecDepth 20000 in
theorem gX4_isUnfit_X4_areCake : GoodIn wsX4_isUnfit (wsV RX4 141 RX4 yX4_areCake wsX4_areCake) := goodIn_app (goodIn_of _ (by decide +kernel)) ggX4_isUnfit_X4_areCake
set_option maxRecDepth 20000 in
theorem ggX4_isUnfit_X4_stateOf : GoodIn wsX4_isUnfit wsX4_stateOf := goodIn_r _ [23, 24, 25, 26, 27, 28, 29, 30, 6, 31, 32, 51, 52, 53, 54, 55, 56, 57, 58, 59, 60, 61, 62, 63, 64, 65, 66, 67, 68, 69] (by decide +kernel) (by decide +kernel)
set_option maxRecDepth 20000 in
theorem gX4_isUnfit_X4_stateOf : GoodIn wsX4_isUnfit (wsV RX4 120 RX4 yX4_stateOf wsX4_stateOf) := goodIn_app (goodIn_of _ (by decide +kernel)) ggX4_isUnfit_X4_stateOf
set_option maxRecDepth 20000 in
theorem ggX4_isUnfit_X4_isDisliked : GoodIn wsX4_isUnfit wsX4_isDisliked := goodIn_r _ [36, 37, 38, 39, 40, 41, 6, 42, 25, 27, 26, 43, 44, 28, 29, 30, 31, 32, 45, 46, 47, 48, 49, 50, 12, 13, 14, 51, 52, 53, 54, 55, 56, 57, 58, 59, 60, 61, 62, 63, 64, 65, 66, 67, 68, 69] (by decide +kernel) (by decide +kernel)
set_option maxRecDepth 20000 in
theorem gX4_isUnfit_X4_isDisliked : GoodIn wsX4_isUnfit (wsV RX4 114 RX4 yX4_isDisliked wsX4_isDisliked) := goodIn_app (goodIn_of _ (by decide +kernel)) ggX4_isUnfit_X4_isDisliked
theorem dX4_isUnfit_0 : decode cX4_isUnfit 0 = .ok (.aload_n 0, 1) := by decide +kernel
theorem dX4_isUnfit_1 : decode cX4_isUnfit 1 = .ok (.iload_n 1, 1) := by decide +kernel
theorem dX4_isUnfit_2 : decode cX4_isUnfit 2 = .ok (.iload_n 2, 1) := by decide +kernel
theorem dX4_isUnfit_3 : decode cX4_isUnfit 3 = .ok (.invokevirtual 141, 3) := by decide +kernel
theorem dX4_isUnfit_6 : decode cX4_isUnfit 6 = .ok (.ifCond .eq 37, 3) := by decide +kernel
theorem dX4_isUnfit_9 : decode cX4_isUnfit 9 = .ok (.aload_n 0, 1) := by decide +kernel
theorem dX4_isUnfit_10 : decode cX4_isUnfit 10 = .ok (.iload_n 1, 1) := by decide +kernel
theorem dX4_isUnfit_11 : decode cX4_isUnfit 11 = .ok (.iload_n 2, 1) := by decide +kernel
theorem dX4_isUnfit_12 : decode cX4_isUnfit 12 = .ok (.invokevirtual 120, 3) := by decide +kernel
theorem dX4_isUnfit_15 : decode cX4_isUnfit 15 = .ok (.iconst 1, 1) := by decide +kernel
theorem dX4_isUnfit_16 : decode cX4_isUnfit 16 = .ok (.if_icmp .ne 27, 3) := by decide +kernel
theorem dX4_isUnfit_19 : decode cX4_isUnfit 19 = .ok (.aload_n 0, 1) := by decide +kernel
theorem dX4_isUnfit_20 : decode cX4_isUnfit 20 = .ok (.iload_n 1, 1) := by decide +kernel
theorem dX4_isUnfit_21 : decode cX4_isUnfit 21 = .ok (.aload_n 0, 1) := by decide +kernel
theorem dX4_isUnfit_22 : decode cX4_isUnfit 22 = .ok (.getfield 44, 3) := by decide +kernel
theorem dX4_isUnfit_25 : decode cX4_isUnfit 25 = .ok (.iload_n 2, 1) := by decide +kernel
theorem dX4_isUnfit_26 : decode cX4_isUnfit 26 = .ok (.iaload, 1) := by decide +kernel
theorem dX4_isUnfit_27 : decode cX4_isUnfit 27 = .ok (.aload_n 0, 1) := by decide +kernel
theorem dX4_isUnfit_28 : decode cX4_isUnfit 28 = .ok (.getfield 47, 3) := by decide +kernel
theorem dX4_isUnfit_31 : decode cX4_isUnfit 31 = .ok (.iload_n 2, 1) := by decide +kernel
theorem dX4_isUnfit_32 : decode cX4_isUnfit 32 = .ok (.iaload, 1) := by decide +kernel
theorem dX4_isUnfit_33 : decode cX4_isUnfit 33 = .ok (.invokevirtual 114, 3) := by decide +kernel
theorem dX4_isUnfit_36 : decode cX4_isUnfit 36 = .ok (.ifCond .eq 7, 3) := by decide +kernel
theorem dX4_isUnfit_39 : decode cX4_isUnfit 39 = .ok (.iconst 1, 1) := by decide +kernel
theorem dX4_isUnfit_40 : decode cX4_isUnfit 40 = .ok (.goto 4, 3) := by decide +kernel
theorem dX4_isUnfit_43 : decode cX4_isUnfit 43 = .ok (.iconst 0, 1) := by decide +kernel
theorem dX4_isUnfit_44 : decode cX4_isUnfit 44 = .ok (.ireturn, 1) := by decide +kernel
set_option maxRecDepth 20000 in
theorem ggX4_isVain_X4_knows : GoodIn wsX4_isVain wsX4_knows := goodIn_r _ [8, 9, 20, 21, 22, 23, 24, 25, 26, 27, 28, 29, 30, 31, 32, 33, 34, 35, 36, 37, 38] (by decide +kernel) (by decide +kernel)
set_option maxRecDepth 20000 in
theorem gX4_isVain_X4_knows : GoodIn wsX4_isVain (wsV RX4 70 RX4 yX4_knows wsX4_knows) := goodIn_app (goodIn_of _ (by decide +kernel)) ggX4_isVain_X4_knows
set_option maxRecDepth 20000 in
theorem ggX4_isVain_X4_isMove : GoodIn wsX4_isVain wsX4_isMove := goodIn_r _ [13, 3, 2, 20, 21, 22, 23, 24, 25, 26, 27, 28, 29, 30, 31, 32, 33, 34, 35, 36, 37, 38] (by decide +kernel) (by decide +kernel)
set_option maxRecDepth 20000 in
theorem gX4_isVain_X4_isMove : GoodIn wsX4_isVain (wsV RX4 74 RX4 yX4_isMove wsX4_isMove) := goodIn_app (goodIn_of _ (by decide +kernel)) ggX4_isVain_X4_isMove
set_option maxRecDepth 20000 in
theorem ggX4_isVain_X4_isLater : GoodIn wsX4_isVain wsX4_isLater := goodIn_r _ [17, 18, 19, 20, 21, 22, 23, 24, 25, 26, 27, 28, 29, 30, 31, 32, 33, 34, 35, 36, 37, 38] (by decide +kernel) (by decide +kernel)
set_option maxRecDepth 20000 in
theorem gX4_isVain_X4_isLater : GoodIn wsX4_isVain (wsV RX4 77 RX4 yX4_isLater wsX4_isLater) := goodIn_app (goodIn_of _ (by decide +kernel)) ggX4_isVain_X4_isLater
theorem dX4_isVain_0 : decode cX4_isVain 0 = .ok (.iconst (-1), 1) := by decide +kernel
theorem dX4_isVain_1 : decode cX4_isVain 1 = .ok (.istore_n 3, 1) := by decide +kernel
theorem dX4_isVain_2 : decode cX4_isVain 2 = .ok (.iconst 0, 1) := by decide +kernel
theorem dX4_isVain_3 : decode cX4_isVain 3 = .ok (.istore 4, 2) := by decide +kernel
theorem dX4_isVain_5 : decode cX4_isVain 5 = .ok (.iload 4, 2) := by decide +kernel
theorem dX4_isVain_7 : decode cX4_isVain 7 = .ok (.aload_n 0, 1) := by decide +kernel
theorem dX4_isVain_8 : decode cX4_isVain 8 = .ok (.getfield 56, 3) := by decide +kernel
theorem dX4_isVain_11 : decode cX4_isVain 11 = .ok (.if_icmp .ge 78, 3) := by decide +kernel
theorem dX4_isVain_14 : decode cX4_isVain 14 = .ok (.aload_n 0, 1) := by decide +kernel
theorem dX4_isVain_15 : decode cX4_isVain 15 = .ok (.iload_n 1, 1) := by decide +kernel
theorem dX4_isVain_16 : decode cX4_isVain 16 = .ok (.iload 4, 2) := by decide +kernel
theorem dX4_isVain_18 : decode cX4_isVain 18 = .ok (.invokevirtual 70, 3) := by decide +kernel
theorem dX4_isVain_21 : decode cX4_isVain 21 = .ok (.ifCond .eq 32, 3) := by decide +kernel
theorem dX4_isVain_24 : decode cX4_isVain 24 = .ok (.aload_n 0, 1) := by decide +kernel
theorem dX4_isVain_25 : decode cX4_isVain 25 = .ok (.iload 4, 2) := by decide +kernel
theorem dX4_isVain_27 : decode cX4_isVain 27 = .ok (.aload_n 0, 1) := by decide +kernel
theorem dX4_isVain_28 : decode cX4_isVain 28 = .ok (.getfield 19, 3) := by decide +kernel
theorem dX4_isVain_31 : decode cX4_isVain 31 = .ok (.iload_n 2, 1) := by decide +kernel
theorem dX4_isVain_32 : decode cX4_isVain 32 = .ok (.iaload, 1) := by decide +kernel
theorem dX4_isVain_33 : decode cX4_isVain 33 = .ok (.invokevirtual 74, 3) := by decide +kernel
theorem dX4_isVain_36 : decode cX4_isVain 36 = .ok (.ifCond .eq 17, 3) := by decide +kernel
theorem dX4_isVain_39 : decode cX4_isVain 39 = .ok (.aload_n 0, 1) := by decide +kernel
theorem dX4_isVain_40 : decode cX4_isVain 40 = .ok (.iload_n 2, 1) := by decide +kernel
theorem dX4_isVain_41 : decode cX4_isVain 41 = .ok (.iload 4, 2) := by decide +kernel
theorem dX4_isVain_43 : decode cX4_isVain 43 = .ok (.invokevirtual 77, 3) := by decide +kernel
theorem dX4_isVain_46 : decode cX4_isVain 46 = .ok (.ifCond .eq 7, 3) := by decide +kernel
theorem dX4_isVain_49 : decode cX4_isVain 49 = .ok (.iconst 1, 1) := by decide +kernel
theorem dX4_isVain_50 : decode cX4_isVain 50 = .ok (.goto 4, 3) := by decide +kernel
theorem dX4_isVain_53 : decode cX4_isVain 53 = .ok (.iconst 0, 1) := by decide +kernel
theorem dX4_isVain_54 : decode cX4_isVain 54 = .ok (.istore 5, 2) := by decide +kernel
theorem dX4_isVain_56 : decode cX4_isVain 56 = .ok (.iload 5, 2) := by decide +kernel
theorem dX4_isVain_58 : decode cX4_isVain 58 = .ok (.ifCond .eq 23, 3) := by decide +kernel
theorem dX4_isVain_61 : decode cX4_isVain 61 = .ok (.iload_n 3, 1) := by decide +kernel
theorem dX4_isVain_62 : decode cX4_isVain 62 = .ok (.iconst (-1), 1) := by decide +kernel
theorem dX4_isVain_63 : decode cX4_isVain 63 = .ok (.if_icmp .eq 13, 3) := by decide +kernel
theorem dX4_isVain_66 : decode cX4_isVain 66 = .ok (.aload_n 0, 1) := by decide +kernel
theorem dX4_isVain_67 : decode cX4_isVain 67 = .ok (.iload 4, 2) := by decide +kernel
theorem dX4_isVain_69 : decode cX4_isVain 69 = .ok (.iload_n 3, 1) := by decide +kernel
theorem dX4_isVain_70 : decode cX4_isVain 70 = .ok (.invokevirtual 77, 3) := by decide +kernel
theorem dX4_isVain_73 : decode cX4_isVain 73 = .ok (.ifCond .eq 8, 3) := by decide +kernel
theorem dX4_isVain_76 : decode cX4_isVain 76 = .ok (.iload 4, 2) := by decide +kernel
theorem dX4_isVain_78 : decode cX4_isVain 78 = .ok (.goto 4, 3) := by decide +kernel
theorem dX4_isVain_81 : decode cX4_isVain 81 = .ok (.iload_n 3, 1) := by decide +kernel
theorem dX4_isVain_82 : decode cX4_isVain 82 = .ok (.istore_n 3, 1) := by decide +kernel
theorem dX4_isVain_83 : decode cX4_isVain 83 = .ok (.iinc 4 1, 3) := by decide +kernel
theorem dX4_isVain_86 : decode cX4_isVain 86 = .ok (.goto (-81), 3) := by decide +kernel
theorem dX4_isVain_89 : decode cX4_isVain 89 = .ok (.iload_n 3, 1) := by decide +kernel
theorem dX4_isVain_90 : decode cX4_isVain 90 = .ok (.iconst (-1), 1) := by decide +kernel
theorem dX4_isVain_91 : decode cX4_isVain 91 = .ok (.if_icmp .eq 13, 3) := by decide +kernel
theorem dX4_isVain_94 : decode cX4_isVain 94 = .ok (.aload_n 0, 1) := by decide +kernel
theorem dX4_isVain_95 : decode cX4_isVain 95 = .ok (.getfield 7, 3) := by decide +kernel
theorem dX4_isVain_98 : decode cX4_isVain 98 = .ok (.iload_n 3, 1) := by decide +kernel
theorem dX4_isVain_99 : decode cX4_isVain 99 = .ok (.iaload, 1) := by decide +kernel
theorem dX4_isVain_100 : decode cX4_isVain 100 = .ok (.iconst 1, 1) := by decide +kernel
theorem dX4_isVain_101 : decode cX4_isVain 101 = .ok (.if_icmp .ne 7, 3) := by decide +kernel
theorem dX4_isVain_104 : decode cX4_isVain 104 = .ok (.iconst 1, 1) := by decide +kernel
theorem dX4_isVain_105 : decode cX4_isVain 105 = .ok (.goto 4, 3) := by decide +kernel
theorem dX4_isVain_108 : decode cX4_isVain 108 = .ok (.iconst 0, 1) := by decide +kernel
theorem dX4_isVain_109 : decode cX4_isVain 109 = .ok (.ireturn, 1) := by decide +kernel
set_option maxRecDepth 20000 in
theorem ggX4_isSpoilt_X4_areCake : GoodIn wsX4_isSpoilt wsX4_areCake := goodIn_r _ [8, 9, 10, 11, 7, 12, 13, 14, 15, 16, 17, 18, 19, 20, 46, 47, 48, 49, 50, 51, 52, 53, 54, 55, 56, 57, 58, 59, 60, 61, 62, 63, 64] (by decide +kernel) (by decide +kernel)
set_option maxRecDepth 20000 in
theorem gX4_isSpoilt_X4_areCake : GoodIn wsX4_isSpoilt (wsV RX4 141 RX4 yX4_areCake wsX4_areCake) := goodIn_app (goodIn_of _ (by decide +kernel)) ggX4_isSpoilt_X4_areCake
set_option maxRecDepth 20000 in
theorem ggX4_isSpoilt_X4_stateOf : GoodIn wsX4_isSpoilt wsX4_stateOf := goodIn_r _ [24, 25, 1, 26, 2, 27, 28, 29, 7, 30, 31, 46, 47, 48, 49, 50, 51, 52, 53, 54, 55, 56, 57, 58, 59, 60, 61, 62, 63, 64] (by decide +kernel) (by decide +kernel)
set_option maxRecDepth 20000 in
theorem gX4_isSpoilt_X4_stateOf : GoodIn wsX4_isSpoilt (wsV RX4 120 RX4 yX4_stateOf wsX4_stateOf) := goodIn_app (goodIn_of _ (by decide +kernel)) ggX4_isSpoilt_X4_stateOf
set_option maxRecDepth 20000 in
theorem ggX4_isSpoilt_X4_knows : GoodIn wsX4_isSpoilt wsX4_knows := goodIn_r _ [30, 31, 46, 47, 48, 49, 50, 51, 52, 53, 54, 55, 56, 57, 58, 59, 60, 61, 62, 63, 64] (by decide +kernel) (by decide +kernel)
set_option maxRecDepth 20000 in
theorem gX4_isSpoilt_X4_knows : GoodIn wsX4_isSpoilt (wsV RX4 70 RX4 yX4_knows wsX4_knows) := goodIn_app (goodIn_of _ (by decide +kernel)) ggX4_isSpoilt_X4_knows
set_option maxRecDepth 20000 in
theorem ggX4_isSpoilt_X4_isVain : GoodIn wsX4_isSpoilt wsX4_isVain := goodIn_r _ [35, 1, 26, 2, 27, 28, 29, 7, 30, 31, 36, 37, 38, 39, 40, 41, 42, 43, 44, 45, 46, 47, 48, 49, 50, 51, 52, 53, 54, 55, 56, 57, 58, 59, 60, 61, 62, 63, 64] (by decide +kernel) (by decide +kernel)
set_option maxRecDepth 20000 in
theorem gX4_isSpoilt_X4_isVain : GoodIn wsX4_isSpoilt (wsV RX4 154 RX4 yX4_isVain wsX4_isVain) := goodIn_app (goodIn_of _ (by decide +kernel)) ggX4_isSpoilt_X4_isVain
theorem dX4_isSpoilt_0 : decode cX4_isSpoilt 0 = .ok (.iconst 0, 1) := by decide +kernel
theorem dX4_isSpoilt_1 : decode cX4_isSpoilt 1 = .ok (.istore_n 3, 1) := by decide +kernel
theorem dX4_isSpoilt_2 : decode cX4_isSpoilt 2 = .ok (.aload_n 0, 1) := by decide +kernel
theorem dX4_isSpoilt_3 : decode cX4_isSpoilt 3 = .ok (.iload_n 1, 1) := by decide +kernel
theorem dX4_isSpoilt_4 : decode cX4_isSpoilt 4 = .ok (.iload_n 2, 1) := by decide +kernel
theorem dX4_isSpoilt_5 : decode cX4_isSpoilt 5 = .ok (.invokevirtual 141, 3) := by decide +kernel
theorem dX4_isSpoilt_8 : decode cX4_isSpoilt 8 = .ok (.ifCond .eq 83, 3) := by decide +kernel
theorem dX4_isSpoilt_11 : decode cX4_isSpoilt 11 = .ok (.aload_n 0, 1) := by decide +kernel
theorem dX4_isSpoilt_12 : decode cX4_isSpoilt 12 = .ok (.iload_n 1, 1) := by decide +kernel
theorem dX4_isSpoilt_13 : decode cX4_isSpoilt 13 = .ok (.iload_n 2, 1) := by decide +kernel
theorem dX4_isSpoilt_14 : decode cX4_isSpoilt 14 = .ok (.invokevirtual 120, 3) := by decide +kernel
theorem dX4_isSpoilt_17 : decode cX4_isSpoilt 17 = .ok (.iconst 3, 1) := by decide +kernel
theorem dX4_isSpoilt_18 : decode cX4_isSpoilt 18 = .ok (.if_icmp .ne 73, 3) := by decide +kernel
theorem dX4_isSpoilt_21 : decode cX4_isSpoilt 21 = .ok (.iconst 0, 1) := by decide +kernel
theorem dX4_isSpoilt_22 : decode cX4_isSpoilt 22 = .ok (.istore 4, 2) := by decide +kernel
theorem dX4_isSpoilt_24 : decode cX4_isSpoilt 24 = .ok (.iload 4, 2) := by decide +kernel
theorem dX4_isSpoilt_26 : decode cX4_isSpoilt 26 = .ok (.aload_n 0, 1) := by decide +kernel
theorem dX4_isSpoilt_27 : decode cX4_isSpoilt 27 = .ok (.getfield 56, 3) := by decide +kernel
theorem dX4_isSpoilt_30 : decode cX4_isSpoilt 30 = .ok (.if_icmp .ge 61, 3) := by decide +kernel
theorem dX4_isSpoilt_33 : decode cX4_isSpoilt 33 = .ok (.iload_n 3, 1) := by decide +kernel
theorem dX4_isSpoilt_34 : decode cX4_isSpoilt 34 = .ok (.ifCond .ne 45, 3) := by decide +kernel
theorem dX4_isSpoilt_37 : decode cX4_isSpoilt 37 = .ok (.aload_n 0, 1) := by decide +kernel
theorem dX4_isSpoilt_38 : decode cX4_isSpoilt 38 = .ok (.iload_n 1, 1) := by decide +kernel
theorem dX4_isSpoilt_39 : decode cX4_isSpoilt 39 = .ok (.iload 4, 2) := by decide +kernel
theorem dX4_isSpoilt_41 : decode cX4_isSpoilt 41 = .ok (.invokevirtual 70, 3) := by decide +kernel
theorem dX4_isSpoilt_44 : decode cX4_isSpoilt 44 = .ok (.ifCond .eq 39, 3) := by decide +kernel
theorem dX4_isSpoilt_47 : decode cX4_isSpoilt 47 = .ok (.aload_n 0, 1) := by decide +kernel
theorem dX4_isSpoilt_48 : decode cX4_isSpoilt 48 = .ok (.getfield 7, 3) := by decide +kernel
theorem dX4_isSpoilt_51 : decode cX4_isSpoilt 51 = .ok (.iload 4, 2) := by decide +kernel
theorem dX4_isSpoilt_53 : decode cX4_isSpoilt 53 = .ok (.iaload, 1) := by decide +kernel
theorem dX4_isSpoilt_54 : decode cX4_isSpoilt 54 = .ok (.iconst 1, 1) := by decide +kernel
theorem dX4_isSpoilt_55 : decode cX4_isSpoilt 55 = .ok (.if_icmp .ne 28, 3) := by decide +kernel
theorem dX4_isSpoilt_58 : decode cX4_isSpoilt 58 = .ok (.aload_n 0, 1) := by decide +kernel
theorem dX4_isSpoilt_59 : decode cX4_isSpoilt 59 = .ok (.getfield 22, 3) := by decide +kernel
theorem dX4_isSpoilt_62 : decode cX4_isSpoilt 62 = .ok (.iload 4, 2) := by decide +kernel
theorem dX4_isSpoilt_64 : decode cX4_isSpoilt 64 = .ok (.iaload, 1) := by decide +kernel
theorem dX4_isSpoilt_65 : decode cX4_isSpoilt 65 = .ok (.iload_n 2, 1) := by decide +kernel
theorem dX4_isSpoilt_66 : decode cX4_isSpoilt 66 = .ok (.if_icmp .ne 17, 3) := by decide +kernel
theorem dX4_isSpoilt_69 : decode cX4_isSpoilt 69 = .ok (.aload_n 0, 1) := by decide +kernel
theorem dX4_isSpoilt_70 : decode cX4_isSpoilt 70 = .ok (.iload_n 1, 1) := by decide +kernel
theorem dX4_isSpoilt_71 : decode cX4_isSpoilt 71 = .ok (.iload 4, 2) := by decide +kernel
theorem dX4_isSpoilt_73 : decode cX4_isSpoilt 73 = .ok (.invokevirtual 154, 3) := by decide +kernel
theorem dX4_isSpoilt_76 : decode cX4_isSpoilt 76 = .ok (.ifCond .eq 7, 3) := by decide +kernel
theorem dX4_isSpoilt_79 : decode cX4_isSpoilt 79 = .ok (.iconst 1, 1) := by decide +kernel
theorem dX4_isSpoilt_80 : decode cX4_isSpoilt 80 = .ok (.goto 4, 3) := by decide +kernel
theorem dX4_isSpoilt_83 : decode cX4_isSpoilt 83 = .ok (.iconst 0, 1) := by decide +kernel
theorem dX4_isSpoilt_84 : decode cX4_isSpoilt 84 = .ok (.istore_n 3, 1) := by decide +kernel
theorem dX4_isSpoilt_85 : decode cX4_isSpoilt 85 = .ok (.iinc 4 1, 3) := by decide +kernel
theorem dX4_isSpoilt_88 : decode cX4_isSpoilt 88 = .ok (.goto (-64), 3) := by decide +kernel
theorem dX4_isSpoilt_91 : decode cX4_isSpoilt 91 = .ok (.iload_n 3, 1) := by decide +kernel
theorem dX4_isSpoilt_92 : decode cX4_isSpoilt 92 = .ok (.ireturn, 1) := by decide +kernel
set_option maxRecDepth 20000 in
theorem ggX4_missing_X4_isFridge : GoodIn wsX4_missing wsX4_isFridge := goodIn_r _ [8, 9, 10, 7, 11] (by decide +kernel) (by decide +kernel)
set_option maxRecDepth 20000 in
theorem gX4_missing_X4_isFridge : GoodIn wsX4_missing (va_wsS RX4 84 yX4_isFridge wsX4_isFridge) := goodIn_app (goodIn_of _ (by decide +kernel)) ggX4_missing_X4_isFridge
set_option maxRecDepth 20000 in
theorem ggX4_missing_X4_isFood : GoodIn wsX4_missing wsX4_isFood := goodIn_r _ [14, 9, 10, 7, 11] (by decide +kernel) (by decide +kernel)
set_option maxRecDepth 20000 in
theorem gX4_missing_X4_isFood : GoodIn wsX4_missing (va_wsS RX4 105 yX4_isFood wsX4_isFood) := goodIn_app (goodIn_of _ (by decide +kernel)) ggX4_missing_X4_isFood
set_option maxRecDepth 20000 in
theorem ggX4_missing_X4_stateOf : GoodIn wsX4_missing wsX4_stateOf := goodIn_r _ [18, 19, 20, 21, 22, 23, 24, 25, 7, 26, 27, 50, 51, 52, 53, 54, 55, 56, 57, 58, 59, 60, 61, 62, 63, 64, 65, 66, 67, 68] (by decide +kernel) (by decide +kernel)
set_option maxRecDepth 20000 in
theorem gX4_missing_X4_stateOf : GoodIn wsX4_missing (wsV RX4 120 RX4 yX4_stateOf wsX4_stateOf) := goodIn_app (goodIn_of _ (by decide +kernel)) ggX4_missing_X4_stateOf
set_option maxRecDepth 20000 in
theorem ggX4_missing_X4_countOf : GoodIn wsX4_missing wsX4_countOf := goodIn_r _ [31, 32, 33, 34, 7, 35, 22, 36, 37, 38, 39, 40, 20, 23, 24, 25, 26, 27, 41, 42, 43, 44, 21, 45, 46, 47, 48, 49, 50, 51, 52, 53, 54, 55, 56, 57, 58, 59, 60, 61, 62, 63, 64, 65, 66, 67, 68] (by decide +kernel) (by decide +kernel)
set_option maxRecDepth 20000 in
theorem gX4_missing_X4_countOf : GoodIn wsX4_missing (wsV RX4 108 RX4 yX4_countOf wsX4_countOf) := goodIn_app (goodIn_of _ (by decide +kernel)) ggX4_missing_X4_countOf
theorem dX4_missing_0 : decode cX4_missing 0 = .ok (.aload_n 0, 1) := by decide +kernel
theorem dX4_missing_1 : decode cX4_missing 1 = .ok (.iload_n 1, 1) := by decide +kernel
theorem dX4_missing_2 : decode cX4_missing 2 = .ok (.invokestatic 84, 3) := by decide +kernel
theorem dX4_missing_5 : decode cX4_missing 5 = .ok (.ifCond .eq 14, 3) := by decide +kernel
theorem dX4_missing_8 : decode cX4_missing 8 = .ok (.iload_n 2, 1) := by decide +kernel
theorem dX4_missing_9 : decode cX4_missing 9 = .ok (.invokestatic 105, 3) := by decide +kernel
theorem dX4_missing_12 : decode cX4_missing 12 = .ok (.ifCond .eq 7, 3) := by decide +kernel
theorem dX4_missing_15 : decode cX4_missing 15 = .ok (.iconst 0, 1) := by decide +kernel
theorem dX4_missing_16 : decode cX4_missing 16 = .ok (.goto 4, 3) := by decide +kernel
theorem dX4_missing_19 : decode cX4_missing 19 = .ok (.iconst 1, 1) := by decide +kernel
theorem dX4_missing_20 : decode cX4_missing 20 = .ok (.putfield 60, 3) := by decide +kernel
theorem dX4_missing_23 : decode cX4_missing 23 = .ok (.aload_n 0, 1) := by decide +kernel
theorem dX4_missing_24 : decode cX4_missing 24 = .ok (.getfield 60, 3) := by decide +kernel
theorem dX4_missing_27 : decode cX4_missing 27 = .ok (.ifCond .le 5, 3) := by decide +kernel
theorem dX4_missing_30 : decode cX4_missing 30 = .ok (.iconst 0, 1) := by decide +kernel
theorem dX4_missing_31 : decode cX4_missing 31 = .ok (.ireturn, 1) := by decide +kernel
theorem dX4_missing_32 : decode cX4_missing 32 = .ok (.iconst 0, 1) := by decide +kernel
theorem dX4_missing_33 : decode cX4_missing 33 = .ok (.istore_n 3, 1) := by decide +kernel
theorem dX4_missing_34 : decode cX4_missing 34 = .ok (.iconst 0, 1) := by decide +kernel
theorem dX4_missing_35 : decode cX4_missing 35 = .ok (.istore 4, 2) := by decide +kernel
theorem dX4_missing_37 : decode cX4_missing 37 = .ok (.iload 4, 2) := by decide +kernel
theorem dX4_missing_39 : decode cX4_missing 39 = .ok (.aload_n 0, 1) := by decide +kernel
theorem dX4_missing_40 : decode cX4_missing 40 = .ok (.getfield 67, 3) := by decide +kernel
theorem dX4_missing_43 : decode cX4_missing 43 = .ok (.if_icmp .ge 44, 3) := by decide +kernel
theorem dX4_missing_46 : decode cX4_missing 46 = .ok (.iload_n 3, 1) := by decide +kernel
theorem dX4_missing_47 : decode cX4_missing 47 = .ok (.aload_n 0, 1) := by decide +kernel
theorem dX4_missing_48 : decode cX4_missing 48 = .ok (.iload_n 1, 1) := by decide +kernel
theorem dX4_missing_49 : decode cX4_missing 49 = .ok (.iload 4, 2) := by decide +kernel
theorem dX4_missing_51 : decode cX4_missing 51 = .ok (.invokevirtual 120, 3) := by decide +kernel
theorem dX4_missing_54 : decode cX4_missing 54 = .ok (.iconst 1, 1) := by decide +kernel
theorem dX4_missing_55 : decode cX4_missing 55 = .ok (.if_icmp .ne 23, 3) := by decide +kernel
theorem dX4_missing_58 : decode cX4_missing 58 = .ok (.aload_n 0, 1) := by decide +kernel
theorem dX4_missing_59 : decode cX4_missing 59 = .ok (.getfield 41, 3) := by decide +kernel
theorem dX4_missing_62 : decode cX4_missing 62 = .ok (.bipush 8, 2) := by decide +kernel
theorem dX4_missing_64 : decode cX4_missing 64 = .ok (.aload_n 0, 1) := by decide +kernel
theorem dX4_missing_65 : decode cX4_missing 65 = .ok (.getfield 44, 3) := by decide +kernel
theorem dX4_missing_68 : decode cX4_missing 68 = .ok (.iload 4, 2) := by decide +kernel
theorem dX4_missing_70 : decode cX4_missing 70 = .ok (.iaload, 1) := by decide +kernel
theorem dX4_missing_71 : decode cX4_missing 71 = .ok (.imul, 1) := by decide +kernel
theorem dX4_missing_72 : decode cX4_missing 72 = .ok (.iload_n 2, 1) := by decide +kernel
theorem dX4_missing_73 : decode cX4_missing 73 = .ok (.iadd, 1) := by decide +kernel
theorem dX4_missing_74 : decode cX4_missing 74 = .ok (.iaload, 1) := by decide +kernel
theorem dX4_missing_75 : decode cX4_missing 75 = .ok (.goto 4, 3) := by decide +kernel
theorem dX4_missing_78 : decode cX4_missing 78 = .ok (.iconst 0, 1) := by decide +kernel
theorem dX4_missing_79 : decode cX4_missing 79 = .ok (.iadd, 1) := by decide +kernel
theorem dX4_missing_80 : decode cX4_missing 80 = .ok (.istore_n 3, 1) := by decide +kernel
theorem dX4_missing_81 : decode cX4_missing 81 = .ok (.iinc 4 1, 3) := by decide +kernel
theorem dX4_missing_84 : decode cX4_missing 84 = .ok (.goto (-47), 3) := by decide +kernel
theorem dX4_missing_87 : decode cX4_missing 87 = .ok (.iload_n 3, 1) := by decide +kernel
theorem dX4_missing_88 : decode cX4_missing 88 = .ok (.aload_n 0, 1) := by decide +kernel
theorem dX4_missing_89 : decode cX4_missing 89 = .ok (.iload_n 1, 1) := by decide +kernel
theorem dX4_missing_90 : decode cX4_missing 90 = .ok (.iload_n 2, 1) := by decide +kernel
theorem dX4_missing_91 : decode cX4_missing 91 = .ok (.invokevirtual 108, 3) := by decide +kernel
theorem dX4_missing_94 : decode cX4_missing 94 = .ok (.isub, 1) := by decide +kernel
theorem dX4_missing_95 : decode cX4_missing 95 = .ok (.istore_n 3, 1) := by decide +kernel
theorem dX4_missing_96 : decode cX4_missing 96 = .ok (.iload_n 3, 1) := by decide +kernel
theorem dX4_missing_97 : decode cX4_missing 97 = .ok (.ifCond .ge 7, 3) := by decide +kernel
theorem dX4_missing_100 : decode cX4_missing 100 = .ok (.iconst 0, 1) := by decide +kernel
theorem dX4_missing_101 : decode cX4_missing 101 = .ok (.goto 4, 3) := by decide +kernel
theorem dX4_missing_104 : decode cX4_missing 104 = .ok (.iload_n 3, 1) := by decide +kernel
theorem dX4_missing_105 : decode cX4_missing 105 = .ok (.ireturn, 1) := by decide +kernel
