theorem dX4_init_0 : decode cX4_init 0 = .ok (.aload_n 0, 1) := by decide +kernel
theorem dX4_init_1 : decode cX4_init 1 = .ok (.invokespecial 1, 3) := by decide +kernel
theorem dX4_init_4 : decode cX4_init 4 = .ok (.aload_n 0, 1) := by decide +kernel
theorem dX4_init_5 : decode cX4_init 5 = .ok (.sipush 240, 3) := by decide +kernel
theorem dX4_init_8 : decode cX4_init 8 = .ok (.newarray .int, 2) := by decide +kernel
theorem dX4_init_10 : decode cX4_init 10 = .ok (.putfield 7, 3) := by decide +kernel
theorem dX4_init_13 : decode cX4_init 13 = .ok (.aload_n 0, 1) := by decide +kernel
theorem dX4_init_14 : decode cX4_init 14 = .ok (.sipush 240, 3) := by decide +kernel
theorem dX4_init_17 : decode cX4_init 17 = .ok (.newarray .int, 2) := by decide +kernel
theorem dX4_init_19 : decode cX4_init 19 = .ok (.putfield 13, 3) := by decide +kernel
theorem dX4_init_22 : decode cX4_init 22 = .ok (.aload_n 0, 1) := by decide +kernel
theorem dX4_init_23 : decode cX4_init 23 = .ok (.sipush 240, 3) := by decide +kernel
theorem dX4_init_26 : decode cX4_init 26 = .ok (.newarray .int, 2) := by decide +kernel
theorem dX4_init_28 : decode cX4_init 28 = .ok (.putfield 16, 3) := by decide +kernel
theorem dX4_init_31 : decode cX4_init 31 = .ok (.aload_n 0, 1) := by decide +kernel
theorem dX4_init_32 : decode cX4_init 32 = .ok (.sipush 240, 3) := by decide +kernel
theorem dX4_init_35 : decode cX4_init 35 = .ok (.newarray .int, 2) := by decide +kernel
theorem dX4_init_37 : decode cX4_init 37 = .ok (.putfield 19, 3) := by decide +kernel
theorem dX4_init_40 : decode cX4_init 40 = .ok (.aload_n 0, 1) := by decide +kernel
theorem dX4_init_41 : decode cX4_init 41 = .ok (.sipush 240, 3) := by decide +kernel
theorem dX4_init_44 : decode cX4_init 44 = .ok (.newarray .int, 2) := by decide +kernel
theorem dX4_init_46 : decode cX4_init 46 = .ok (.putfield 22, 3) := by decide +kernel
theorem dX4_init_49 : decode cX4_init 49 = .ok (.aload_n 0, 1) := by decide +kernel
theorem dX4_init_50 : decode cX4_init 50 = .ok (.sipush 240, 3) := by decide +kernel
theorem dX4_init_53 : decode cX4_init 53 = .ok (.newarray .int, 2) := by decide +kernel
theorem dX4_init_55 : decode cX4_init 55 = .ok (.putfield 25, 3) := by decide +kernel
theorem dX4_init_58 : decode cX4_init 58 = .ok (.aload_n 0, 1) := by decide +kernel
theorem dX4_init_59 : decode cX4_init 59 = .ok (.sipush 240, 3) := by decide +kernel
theorem dX4_init_62 : decode cX4_init 62 = .ok (.newarray .int, 2) := by decide +kernel
theorem dX4_init_64 : decode cX4_init 64 = .ok (.putfield 28, 3) := by decide +kernel
theorem dX4_init_67 : decode cX4_init 67 = .ok (.aload_n 0, 1) := by decide +kernel
theorem dX4_init_68 : decode cX4_init 68 = .ok (.sipush 240, 3) := by decide +kernel
theorem dX4_init_71 : decode cX4_init 71 = .ok (.newarray .int, 2) := by decide +kernel
theorem dX4_init_73 : decode cX4_init 73 = .ok (.putfield 31, 3) := by decide +kernel
theorem dX4_init_76 : decode cX4_init 76 = .ok (.aload_n 0, 1) := by decide +kernel
theorem dX4_init_77 : decode cX4_init 77 = .ok (.sipush 1440, 3) := by decide +kernel
theorem dX4_init_80 : decode cX4_init 80 = .ok (.newarray .boolean, 2) := by decide +kernel
theorem dX4_init_82 : decode cX4_init 82 = .ok (.putfield 34, 3) := by decide +kernel
theorem dX4_init_85 : decode cX4_init 85 = .ok (.aload_n 0, 1) := by decide +kernel
theorem dX4_init_86 : decode cX4_init 86 = .ok (.iconst 5, 1) := by decide +kernel
theorem dX4_init_87 : decode cX4_init 87 = .ok (.newarray .int, 2) := by decide +kernel
theorem dX4_init_89 : decode cX4_init 89 = .ok (.putfield 38, 3) := by decide +kernel
theorem dX4_init_92 : decode cX4_init 92 = .ok (.aload_n 0, 1) := by decide +kernel
theorem dX4_init_93 : decode cX4_init 93 = .ok (.bipush 48, 2) := by decide +kernel
theorem dX4_init_95 : decode cX4_init 95 = .ok (.newarray .int, 2) := by decide +kernel
theorem dX4_init_97 : decode cX4_init 97 = .ok (.putfield 41, 3) := by decide +kernel
theorem dX4_init_100 : decode cX4_init 100 = .ok (.aload_n 0, 1) := by decide +kernel
theorem dX4_init_101 : decode cX4_init 101 = .ok (.bipush 20, 2) := by decide +kernel
theorem dX4_init_103 : decode cX4_init 103 = .ok (.newarray .int, 2) := by decide +kernel
theorem dX4_init_105 : decode cX4_init 105 = .ok (.putfield 44, 3) := by decide +kernel
theorem dX4_init_108 : decode cX4_init 108 = .ok (.aload_n 0, 1) := by decide +kernel
theorem dX4_init_109 : decode cX4_init 109 = .ok (.bipush 20, 2) := by decide +kernel
theorem dX4_init_111 : decode cX4_init 111 = .ok (.newarray .int, 2) := by decide +kernel
theorem dX4_init_113 : decode cX4_init 113 = .ok (.putfield 47, 3) := by decide +kernel
theorem dX4_init_116 : decode cX4_init 116 = .ok (.aload_n 0, 1) := by decide +kernel
theorem dX4_init_117 : decode cX4_init 117 = .ok (.bipush 20, 2) := by decide +kernel
theorem dX4_init_119 : decode cX4_init 119 = .ok (.newarray .int, 2) := by decide +kernel
theorem dX4_init_121 : decode cX4_init 121 = .ok (.putfield 50, 3) := by decide +kernel
theorem dX4_init_124 : decode cX4_init 124 = .ok (.aload_n 0, 1) := by decide +kernel
theorem dX4_init_125 : decode cX4_init 125 = .ok (.bipush 40, 2) := by decide +kernel
theorem dX4_init_127 : decode cX4_init 127 = .ok (.newarray .int, 2) := by decide +kernel
theorem dX4_init_129 : decode cX4_init 129 = .ok (.putfield 53, 3) := by decide +kernel
theorem dX4_init_132 : decode cX4_init 132 = .ok (.aload_n 0, 1) := by decide +kernel
theorem dX4_init_133 : decode cX4_init 133 = .ok (.iconst 0, 1) := by decide +kernel
theorem dX4_init_134 : decode cX4_init 134 = .ok (.putfield 56, 3) := by decide +kernel
theorem dX4_init_137 : decode cX4_init 137 = .ok (.return_, 1) := by decide +kernel
theorem dX4_thrown_0 : decode cX4_thrown 0 = .ok (.aload_n 0, 1) := by decide +kernel
theorem dX4_thrown_1 : decode cX4_thrown 1 = .ok (.getfield 60, 3) := by decide +kernel
theorem dX4_thrown_4 : decode cX4_thrown 4 = .ok (.ireturn, 1) := by decide +kernel
theorem dX4_in_0 : decode cX4_in 0 = .ok (.iload_n 0, 1) := by decide +kernel
theorem dX4_in_1 : decode cX4_in 1 = .ok (.iload_n 1, 1) := by decide +kernel
theorem dX4_in_2 : decode cX4_in 2 = .ok (.if_icmp .lt 12, 3) := by decide +kernel
theorem dX4_in_5 : decode cX4_in 5 = .ok (.iload_n 0, 1) := by decide +kernel
theorem dX4_in_6 : decode cX4_in 6 = .ok (.iload_n 2, 1) := by decide +kernel
theorem dX4_in_7 : decode cX4_in 7 = .ok (.if_icmp .gt 7, 3) := by decide +kernel
theorem dX4_in_10 : decode cX4_in 10 = .ok (.iconst 1, 1) := by decide +kernel
theorem dX4_in_11 : decode cX4_in 11 = .ok (.goto 4, 3) := by decide +kernel
theorem dX4_in_14 : decode cX4_in 14 = .ok (.iconst 0, 1) := by decide +kernel
theorem dX4_in_15 : decode cX4_in 15 = .ok (.ireturn, 1) := by decide +kernel
set_option maxRecDepth 20000 in
theorem ggX4_isFridge_X4_in : GoodIn wsX4_isFridge wsX4_in := goodIn_r _ [4] (by decide +kernel) (by decide +kernel)
set_option maxRecDepth 20000 in
theorem gX4_isFridge_X4_in : GoodIn wsX4_isFridge (va_wsS RX4 63 yX4_in wsX4_in) := goodIn_app (goodIn_of _ (by decide +kernel)) ggX4_isFridge_X4_in
theorem dX4_isFridge_0 : decode cX4_isFridge 0 = .ok (.iload_n 0, 1) := by decide +kernel
theorem dX4_isFridge_1 : decode cX4_isFridge 1 = .ok (.iconst 0, 1) := by decide +kernel
theorem dX4_isFridge_2 : decode cX4_isFridge 2 = .ok (.iconst 4, 1) := by decide +kernel
theorem dX4_isFridge_3 : decode cX4_isFridge 3 = .ok (.invokestatic 63, 3) := by decide +kernel
theorem dX4_isFridge_6 : decode cX4_isFridge 6 = .ok (.ireturn, 1) := by decide +kernel
set_option maxRecDepth 20000 in
theorem ggX4_isThing_X4_in : GoodIn wsX4_isThing wsX4_in := goodIn_r _ [4] (by decide +kernel) (by decide +kernel)
set_option maxRecDepth 20000 in
theorem gX4_isThing_X4_in : GoodIn wsX4_isThing (va_wsS RX4 63 yX4_in wsX4_in) := goodIn_app (goodIn_of _ (by decide +kernel)) ggX4_isThing_X4_in
theorem dX4_isThing_0 : decode cX4_isThing 0 = .ok (.iload_n 0, 1) := by decide +kernel
theorem dX4_isThing_1 : decode cX4_isThing 1 = .ok (.iconst 0, 1) := by decide +kernel
theorem dX4_isThing_2 : decode cX4_isThing 2 = .ok (.bipush 39, 2) := by decide +kernel
theorem dX4_isThing_4 : decode cX4_isThing 4 = .ok (.invokestatic 63, 3) := by decide +kernel
theorem dX4_isThing_7 : decode cX4_isThing 7 = .ok (.ireturn, 1) := by decide +kernel
set_option maxRecDepth 20000 in
theorem ggX4_isFood_X4_in : GoodIn wsX4_isFood wsX4_in := goodIn_r _ [4] (by decide +kernel) (by decide +kernel)
set_option maxRecDepth 20000 in
theorem gX4_isFood_X4_in : GoodIn wsX4_isFood (va_wsS RX4 63 yX4_in wsX4_in) := goodIn_app (goodIn_of _ (by decide +kernel)) ggX4_isFood_X4_in
theorem dX4_isFood_0 : decode cX4_isFood 0 = .ok (.iload_n 0, 1) := by decide +kernel
theorem dX4_isFood_1 : decode cX4_isFood 1 = .ok (.iconst 0, 1) := by decide +kernel
theorem dX4_isFood_2 : decode cX4_isFood 2 = .ok (.bipush 7, 2) := by decide +kernel
theorem dX4_isFood_4 : decode cX4_isFood 4 = .ok (.invokestatic 63, 3) := by decide +kernel
theorem dX4_isFood_7 : decode cX4_isFood 7 = .ok (.ireturn, 1) := by decide +kernel
set_option maxRecDepth 20000 in
theorem ggX4_isCake_X4_in : GoodIn wsX4_isCake wsX4_in := goodIn_r _ [5] (by decide +kernel) (by decide +kernel)
set_option maxRecDepth 20000 in
theorem gX4_isCake_X4_in : GoodIn wsX4_isCake (va_wsS RX4 63 yX4_in wsX4_in) := goodIn_app (goodIn_of _ (by decide +kernel)) ggX4_isCake_X4_in
theorem dX4_isCake_0 : decode cX4_isCake 0 = .ok (.iload_n 1, 1) := by decide +kernel
theorem dX4_isCake_1 : decode cX4_isCake 1 = .ok (.iconst 0, 1) := by decide +kernel
theorem dX4_isCake_2 : decode cX4_isCake 2 = .ok (.aload_n 0, 1) := by decide +kernel
theorem dX4_isCake_3 : decode cX4_isCake 3 = .ok (.getfield 67, 3) := by decide +kernel
theorem dX4_isCake_6 : decode cX4_isCake 6 = .ok (.iconst 1, 1) := by decide +kernel
theorem dX4_isCake_7 : decode cX4_isCake 7 = .ok (.isub, 1) := by decide +kernel
theorem dX4_isCake_8 : decode cX4_isCake 8 = .ok (.invokestatic 63, 3) := by decide +kernel
theorem dX4_isCake_11 : decode cX4_isCake 11 = .ok (.ireturn, 1) := by decide +kernel
theorem dX4_knows_0 : decode cX4_knows 0 = .ok (.aload_n 0, 1) := by decide +kernel
theorem dX4_knows_1 : decode cX4_knows 1 = .ok (.getfield 34, 3) := by decide +kernel
theorem dX4_knows_4 : decode cX4_knows 4 = .ok (.bipush 6, 2) := by decide +kernel
theorem dX4_knows_6 : decode cX4_knows 6 = .ok (.iload_n 2, 1) := by decide +kernel
theorem dX4_knows_7 : decode cX4_knows 7 = .ok (.imul, 1) := by decide +kernel
theorem dX4_knows_8 : decode cX4_knows 8 = .ok (.iload_n 1, 1) := by decide +kernel
theorem dX4_knows_9 : decode cX4_knows 9 = .ok (.iadd, 1) := by decide +kernel
theorem dX4_knows_10 : decode cX4_knows 10 = .ok (.baload, 1) := by decide +kernel
theorem dX4_knows_11 : decode cX4_knows 11 = .ok (.ireturn, 1) := by decide +kernel
theorem dX4_isLater_0 : decode cX4_isLater 0 = .ok (.aload_n 0, 1) := by decide +kernel
theorem dX4_isLater_1 : decode cX4_isLater 1 = .ok (.getfield 16, 3) := by decide +kernel
theorem dX4_isLater_4 : decode cX4_isLater 4 = .ok (.iload_n 1, 1) := by decide +kernel
theorem dX4_isLater_5 : decode cX4_isLater 5 = .ok (.iaload, 1) := by decide +kernel
theorem dX4_isLater_6 : decode cX4_isLater 6 = .ok (.aload_n 0, 1) := by decide +kernel
theorem dX4_isLater_7 : decode cX4_isLater 7 = .ok (.getfield 16, 3) := by decide +kernel
theorem dX4_isLater_10 : decode cX4_isLater 10 = .ok (.iload_n 2, 1) := by decide +kernel
theorem dX4_isLater_11 : decode cX4_isLater 11 = .ok (.iaload, 1) := by decide +kernel
theorem dX4_isLater_12 : decode cX4_isLater 12 = .ok (.if_icmp .gt 33, 3) := by decide +kernel
theorem dX4_isLater_15 : decode cX4_isLater 15 = .ok (.aload_n 0, 1) := by decide +kernel
theorem dX4_isLater_16 : decode cX4_isLater 16 = .ok (.getfield 16, 3) := by decide +kernel
theorem dX4_isLater_19 : decode cX4_isLater 19 = .ok (.iload_n 1, 1) := by decide +kernel
theorem dX4_isLater_20 : decode cX4_isLater 20 = .ok (.iaload, 1) := by decide +kernel
theorem dX4_isLater_21 : decode cX4_isLater 21 = .ok (.aload_n 0, 1) := by decide +kernel
theorem dX4_isLater_22 : decode cX4_isLater 22 = .ok (.getfield 16, 3) := by decide +kernel
theorem dX4_isLater_25 : decode cX4_isLater 25 = .ok (.iload_n 2, 1) := by decide +kernel
theorem dX4_isLater_26 : decode cX4_isLater 26 = .ok (.iaload, 1) := by decide +kernel
theorem dX4_isLater_27 : decode cX4_isLater 27 = .ok (.if_icmp .ne 22, 3) := by decide +kernel
theorem dX4_isLater_30 : decode cX4_isLater 30 = .ok (.aload_n 0, 1) := by decide +kernel
theorem dX4_isLater_31 : decode cX4_isLater 31 = .ok (.getfield 13, 3) := by decide +kernel
theorem dX4_isLater_34 : decode cX4_isLater 34 = .ok (.iload_n 1, 1) := by decide +kernel
theorem dX4_isLater_35 : decode cX4_isLater 35 = .ok (.iaload, 1) := by decide +kernel
theorem dX4_isLater_36 : decode cX4_isLater 36 = .ok (.aload_n 0, 1) := by decide +kernel
theorem dX4_isLater_37 : decode cX4_isLater 37 = .ok (.getfield 13, 3) := by decide +kernel
theorem dX4_isLater_40 : decode cX4_isLater 40 = .ok (.iload_n 2, 1) := by decide +kernel
theorem dX4_isLater_41 : decode cX4_isLater 41 = .ok (.iaload, 1) := by decide +kernel
theorem dX4_isLater_42 : decode cX4_isLater 42 = .ok (.if_icmp .le 7, 3) := by decide +kernel
theorem dX4_isLater_45 : decode cX4_isLater 45 = .ok (.iconst 1, 1) := by decide +kernel
theorem dX4_isLater_46 : decode cX4_isLater 46 = .ok (.goto 4, 3) := by decide +kernel
theorem dX4_isLater_49 : decode cX4_isLater 49 = .ok (.iconst 0, 1) := by decide +kernel
theorem dX4_isLater_50 : decode cX4_isLater 50 = .ok (.ireturn, 1) := by decide +kernel
theorem dX4_write_0 : decode cX4_write 0 = .ok (.aload_n 0, 1) := by decide +kernel
theorem dX4_write_1 : decode cX4_write 1 = .ok (.getfield 38, 3) := by decide +kernel
theorem dX4_write_4 : decode cX4_write 4 = .ok (.iload_n 1, 1) := by decide +kernel
theorem dX4_write_5 : decode cX4_write 5 = .ok (.dup2, 1) := by decide +kernel
theorem dX4_write_6 : decode cX4_write 6 = .ok (.iaload, 1) := by decide +kernel
theorem dX4_write_7 : decode cX4_write 7 = .ok (.iconst 1, 1) := by decide +kernel
theorem dX4_write_8 : decode cX4_write 8 = .ok (.iadd, 1) := by decide +kernel
theorem dX4_write_9 : decode cX4_write 9 = .ok (.iastore, 1) := by decide +kernel
theorem dX4_write_10 : decode cX4_write 10 = .ok (.aload_n 0, 1) := by decide +kernel
theorem dX4_write_11 : decode cX4_write 11 = .ok (.getfield 7, 3) := by decide +kernel
theorem dX4_write_14 : decode cX4_write 14 = .ok (.aload_n 0, 1) := by decide +kernel
theorem dX4_write_15 : decode cX4_write 15 = .ok (.getfield 56, 3) := by decide +kernel
theorem dX4_write_18 : decode cX4_write 18 = .ok (.iload_n 2, 1) := by decide +kernel
theorem dX4_write_19 : decode cX4_write 19 = .ok (.iastore, 1) := by decide +kernel
theorem dX4_write_20 : decode cX4_write 20 = .ok (.aload_n 0, 1) := by decide +kernel
theorem dX4_write_21 : decode cX4_write 21 = .ok (.getfield 13, 3) := by decide +kernel
theorem dX4_write_24 : decode cX4_write 24 = .ok (.aload_n 0, 1) := by decide +kernel
theorem dX4_write_25 : decode cX4_write 25 = .ok (.getfield 56, 3) := by decide +kernel
theorem dX4_write_28 : decode cX4_write 28 = .ok (.iload_n 1, 1) := by decide +kernel
theorem dX4_write_29 : decode cX4_write 29 = .ok (.iastore, 1) := by decide +kernel
theorem dX4_write_30 : decode cX4_write 30 = .ok (.aload_n 0, 1) := by decide +kernel
theorem dX4_write_31 : decode cX4_write 31 = .ok (.getfield 16, 3) := by decide +kernel
theorem dX4_write_34 : decode cX4_write 34 = .ok (.aload_n 0, 1) := by decide +kernel
theorem dX4_write_35 : decode cX4_write 35 = .ok (.getfield 56, 3) := by decide +kernel
theorem dX4_write_38 : decode cX4_write 38 = .ok (.aload_n 0, 1) := by decide +kernel
theorem dX4_write_39 : decode cX4_write 39 = .ok (.getfield 38, 3) := by decide +kernel
theorem dX4_write_42 : decode cX4_write 42 = .ok (.iload_n 1, 1) := by decide +kernel
theorem dX4_write_43 : decode cX4_write 43 = .ok (.iaload, 1) := by decide +kernel
theorem dX4_write_44 : decode cX4_write 44 = .ok (.iastore, 1) := by decide +kernel
theorem dX4_write_45 : decode cX4_write 45 = .ok (.aload_n 0, 1) := by decide +kernel
theorem dX4_write_46 : decode cX4_write 46 = .ok (.getfield 19, 3) := by decide +kernel
theorem dX4_write_49 : decode cX4_write 49 = .ok (.aload_n 0, 1) := by decide +kernel
theorem dX4_write_50 : decode cX4_write 50 = .ok (.getfield 56, 3) := by decide +kernel
theorem dX4_write_53 : decode cX4_write 53 = .ok (.iload_n 3, 1) := by decide +kernel
theorem dX4_write_54 : decode cX4_write 54 = .ok (.iastore, 1) := by decide +kernel
theorem dX4_write_55 : decode cX4_write 55 = .ok (.aload_n 0, 1) := by decide +kernel
theorem dX4_write_56 : decode cX4_write 56 = .ok (.getfield 22, 3) := by decide +kernel
theorem dX4_write_59 : decode cX4_write 59 = .ok (.aload_n 0, 1) := by decide +kernel
theorem dX4_write_60 : decode cX4_write 60 = .ok (.getfield 56, 3) := by decide +kernel
theorem dX4_write_63 : decode cX4_write 63 = .ok (.iload 4, 2) := by decide +kernel
theorem dX4_write_65 : decode cX4_write 65 = .ok (.iastore, 1) := by decide +kernel
theorem dX4_write_66 : decode cX4_write 66 = .ok (.aload_n 0, 1) := by decide +kernel
theorem dX4_write_67 : decode cX4_write 67 = .ok (.getfield 34, 3) := by decide +kernel
theorem dX4_write_70 : decode cX4_write 70 = .ok (.bipush 6, 2) := by decide +kernel
theorem dX4_write_72 : decode cX4_write 72 = .ok (.aload_n 0, 1) := by decide +kernel
theorem dX4_write_73 : decode cX4_write 73 = .ok (.getfield 56, 3) := by decide +kernel
theorem dX4_write_76 : decode cX4_write 76 = .ok (.imul, 1) := by decide +kernel
theorem dX4_write_77 : decode cX4_write 77 = .ok (.iload_n 1, 1) := by decide +kernel
theorem dX4_write_78 : decode cX4_write 78 = .ok (.iadd, 1) := by decide +kernel
theorem dX4_write_79 : decode cX4_write 79 = .ok (.iconst 1, 1) := by decide +kernel
theorem dX4_write_80 : decode cX4_write 80 = .ok (.bastore, 1) := by decide +kernel
theorem dX4_write_81 : decode cX4_write 81 = .ok (.aload_n 0, 1) := by decide +kernel
theorem dX4_write_82 : decode cX4_write 82 = .ok (.getfield 34, 3) := by decide +kernel
theorem dX4_write_85 : decode cX4_write 85 = .ok (.bipush 6, 2) := by decide +kernel
theorem dX4_write_87 : decode cX4_write 87 = .ok (.aload_n 0, 1) := by decide +kernel
theorem dX4_write_88 : decode cX4_write 88 = .ok (.getfield 56, 3) := by decide +kernel
theorem dX4_write_91 : decode cX4_write 91 = .ok (.imul, 1) := by decide +kernel
theorem dX4_write_92 : decode cX4_write 92 = .ok (.iconst 5, 1) := by decide +kernel
theorem dX4_write_93 : decode cX4_write 93 = .ok (.iadd, 1) := by decide +kernel
theorem dX4_write_94 : decode cX4_write 94 = .ok (.iconst 1, 1) := by decide +kernel
theorem dX4_write_95 : decode cX4_write 95 = .ok (.bastore, 1) := by decide +kernel
theorem dX4_write_96 : decode cX4_write 96 = .ok (.aload_n 0, 1) := by decide +kernel
theorem dX4_write_97 : decode cX4_write 97 = .ok (.dup, 1) := by decide +kernel
theorem dX4_write_98 : decode cX4_write 98 = .ok (.getfield 56, 3) := by decide +kernel
theorem dX4_write_101 : decode cX4_write 101 = .ok (.iconst 1, 1) := by decide +kernel
theorem dX4_write_102 : decode cX4_write 102 = .ok (.iadd, 1) := by decide +kernel
theorem dX4_write_103 : decode cX4_write 103 = .ok (.putfield 56, 3) := by decide +kernel
theorem dX4_write_106 : decode cX4_write 106 = .ok (.aload_n 0, 1) := by decide +kernel
theorem dX4_write_107 : decode cX4_write 107 = .ok (.getfield 38, 3) := by decide +kernel
theorem dX4_write_110 : decode cX4_write 110 = .ok (.iload_n 1, 1) := by decide +kernel
theorem dX4_write_111 : decode cX4_write 111 = .ok (.iaload, 1) := by decide +kernel
theorem dX4_write_112 : decode cX4_write 112 = .ok (.ireturn, 1) := by decide +kernel
theorem dX4_isMove_0 : decode cX4_isMove 0 = .ok (.aload_n 0, 1) := by decide +kernel
theorem dX4_isMove_1 : decode cX4_isMove 1 = .ok (.getfield 7, 3) := by decide +kernel
theorem dX4_isMove_4 : decode cX4_isMove 4 = .ok (.iload_n 1, 1) := by decide +kernel
theorem dX4_isMove_5 : decode cX4_isMove 5 = .ok (.iaload, 1) := by decide +kernel
theorem dX4_isMove_6 : decode cX4_isMove 6 = .ok (.ifCond .eq 13, 3) := by decide +kernel
theorem dX4_isMove_9 : decode cX4_isMove 9 = .ok (.aload_n 0, 1) := by decide +kernel
theorem dX4_isMove_10 : decode cX4_isMove 10 = .ok (.getfield 7, 3) := by decide +kernel
theorem dX4_isMove_13 : decode cX4_isMove 13 = .ok (.iload_n 1, 1) := by decide +kernel
theorem dX4_isMove_14 : decode cX4_isMove 14 = .ok (.iaload, 1) := by decide +kernel
theorem dX4_isMove_15 : decode cX4_isMove 15 = .ok (.iconst 1, 1) := by decide +kernel
theorem dX4_isMove_16 : decode cX4_isMove 16 = .ok (.if_icmp .ne 17, 3) := by decide +kernel
theorem dX4_isMove_19 : decode cX4_isMove 19 = .ok (.aload_n 0, 1) := by decide +kernel
theorem dX4_isMove_20 : decode cX4_isMove 20 = .ok (.getfield 19, 3) := by decide +kernel
theorem dX4_isMove_23 : decode cX4_isMove 23 = .ok (.iload_n 1, 1) := by decide +kernel
theorem dX4_isMove_24 : decode cX4_isMove 24 = .ok (.iaload, 1) := by decide +kernel
theorem dX4_isMove_25 : decode cX4_isMove 25 = .ok (.iload_n 2, 1) := by decide +kernel
theorem dX4_isMove_26 : decode cX4_isMove 26 = .ok (.if_icmp .ne 7, 3) := by decide +kernel
theorem dX4_isMove_29 : decode cX4_isMove 29 = .ok (.iconst 1, 1) := by decide +kernel
theorem dX4_isMove_30 : decode cX4_isMove 30 = .ok (.goto 4, 3) := by decide +kernel
theorem dX4_isMove_33 : decode cX4_isMove 33 = .ok (.iconst 0, 1) := by decide +kernel
theorem dX4_isMove_34 : decode cX4_isMove 34 = .ok (.ireturn, 1) := by decide +kernel
set_option maxRecDepth 20000 in
theorem ggX4_latestMove_X4_knows : GoodIn wsX4_latestMove wsX4_knows := goodIn_r _ [7, 8, 20, 21, 22, 23, 24, 25, 26, 27, 28, 29, 30, 31, 32, 33, 34, 35, 36, 37, 38] (by decide +kernel) (by decide +kernel)
set_option maxRecDepth 20000 in
theorem gX4_latestMove_X4_knows : GoodIn wsX4_latestMove (wsV RX4 70 RX4 yX4_knows wsX4_knows) := goodIn_app (goodIn_of _ (by decide +kernel)) ggX4_latestMove_X4_knows
set_option maxRecDepth 20000 in
theorem ggX4_latestMove_X4_isMove : GoodIn wsX4_latestMove wsX4_isMove := goodIn_r _ [12, 13, 14, 20, 21, 22, 23, 24, 25, 26, 27, 28, 29, 30, 31, 32, 33, 34, 35, 36, 37, 38] (by decide +kernel) (by decide +kernel)
set_option maxRecDepth 20000 in
theorem gX4_latestMove_X4_isMove : GoodIn wsX4_latestMove (wsV RX4 74 RX4 yX4_isMove wsX4_isMove) := goodIn_app (goodIn_of _ (by decide +kernel)) ggX4_latestMove_X4_isMove
set_option maxRecDepth 20000 in
theorem ggX4_latestMove_X4_isLater : GoodIn wsX4_latestMove wsX4_isLater := goodIn_r _ [18, 19, 2, 20, 21, 22, 23, 24, 25, 26, 27, 28, 29, 30, 31, 32, 33, 34, 35, 36, 37, 38] (by decide +kernel) (by decide +kernel)
set_option maxRecDepth 20000 in
theorem gX4_latestMove_X4_isLater : GoodIn wsX4_latestMove (wsV RX4 77 RX4 yX4_isLater wsX4_isLater) := goodIn_app (goodIn_of _ (by decide +kernel)) ggX4_latestMove_X4_isLater
theorem dX4_latestMove_0 : decode cX4_latestMove 0 = .ok (.iconst (-1), 1) := by decide +kernel
theorem dX4_latestMove_1 : decode cX4_latestMove 1 = .ok (.istore 4, 2) := by decide +kernel
theorem dX4_latestMove_3 : decode cX4_latestMove 3 = .ok (.iconst 0, 1) := by decide +kernel
theorem dX4_latestMove_4 : decode cX4_latestMove 4 = .ok (.istore 5, 2) := by decide +kernel
theorem dX4_latestMove_6 : decode cX4_latestMove 6 = .ok (.iload 5, 2) := by decide +kernel
theorem dX4_latestMove_8 : decode cX4_latestMove 8 = .ok (.aload_n 0, 1) := by decide +kernel
theorem dX4_latestMove_9 : decode cX4_latestMove 9 = .ok (.getfield 56, 3) := by decide +kernel
theorem dX4_latestMove_12 : decode cX4_latestMove 12 = .ok (.if_icmp .ge 83, 3) := by decide +kernel
theorem dX4_latestMove_15 : decode cX4_latestMove 15 = .ok (.aload_n 0, 1) := by decide +kernel
theorem dX4_latestMove_16 : decode cX4_latestMove 16 = .ok (.iload_n 1, 1) := by decide +kernel
theorem dX4_latestMove_17 : decode cX4_latestMove 17 = .ok (.iload 5, 2) := by decide +kernel
theorem dX4_latestMove_19 : decode cX4_latestMove 19 = .ok (.invokevirtual 70, 3) := by decide +kernel
theorem dX4_latestMove_22 : decode cX4_latestMove 22 = .ok (.ifCond .eq 33, 3) := by decide +kernel
theorem dX4_latestMove_25 : decode cX4_latestMove 25 = .ok (.aload_n 0, 1) := by decide +kernel
theorem dX4_latestMove_26 : decode cX4_latestMove 26 = .ok (.iload 5, 2) := by decide +kernel
theorem dX4_latestMove_28 : decode cX4_latestMove 28 = .ok (.iload_n 2, 1) := by decide +kernel
theorem dX4_latestMove_29 : decode cX4_latestMove 29 = .ok (.invokevirtual 74, 3) := by decide +kernel
theorem dX4_latestMove_32 : decode cX4_latestMove 32 = .ok (.ifCond .eq 23, 3) := by decide +kernel
theorem dX4_latestMove_35 : decode cX4_latestMove 35 = .ok (.iload_n 3, 1) := by decide +kernel
theorem dX4_latestMove_36 : decode cX4_latestMove 36 = .ok (.iconst (-1), 1) := by decide +kernel
theorem dX4_latestMove_37 : decode cX4_latestMove 37 = .ok (.if_icmp .eq 14, 3) := by decide +kernel
theorem dX4_latestMove_40 : decode cX4_latestMove 40 = .ok (.aload_n 0, 1) := by decide +kernel
theorem dX4_latestMove_41 : decode cX4_latestMove 41 = .ok (.getfield 13, 3) := by decide +kernel
theorem dX4_latestMove_44 : decode cX4_latestMove 44 = .ok (.iload 5, 2) := by decide +kernel
theorem dX4_latestMove_46 : decode cX4_latestMove 46 = .ok (.iaload, 1) := by decide +kernel
theorem dX4_latestMove_47 : decode cX4_latestMove 47 = .ok (.iload_n 3, 1) := by decide +kernel
theorem dX4_latestMove_48 : decode cX4_latestMove 48 = .ok (.if_icmp .ne 7, 3) := by decide +kernel
theorem dX4_latestMove_51 : decode cX4_latestMove 51 = .ok (.iconst 1, 1) := by decide +kernel
theorem dX4_latestMove_52 : decode cX4_latestMove 52 = .ok (.goto 4, 3) := by decide +kernel
theorem dX4_latestMove_55 : decode cX4_latestMove 55 = .ok (.iconst 0, 1) := by decide +kernel
theorem dX4_latestMove_56 : decode cX4_latestMove 56 = .ok (.istore 6, 2) := by decide +kernel
theorem dX4_latestMove_58 : decode cX4_latestMove 58 = .ok (.iload 6, 2) := by decide +kernel
theorem dX4_latestMove_60 : decode cX4_latestMove 60 = .ok (.ifCond .eq 25, 3) := by decide +kernel
theorem dX4_latestMove_63 : decode cX4_latestMove 63 = .ok (.iload 4, 2) := by decide +kernel
theorem dX4_latestMove_65 : decode cX4_latestMove 65 = .ok (.iconst (-1), 1) := by decide +kernel
theorem dX4_latestMove_66 : decode cX4_latestMove 66 = .ok (.if_icmp .eq 14, 3) := by decide +kernel
theorem dX4_latestMove_69 : decode cX4_latestMove 69 = .ok (.aload_n 0, 1) := by decide +kernel
theorem dX4_latestMove_70 : decode cX4_latestMove 70 = .ok (.iload 5, 2) := by decide +kernel
theorem dX4_latestMove_72 : decode cX4_latestMove 72 = .ok (.iload 4, 2) := by decide +kernel
theorem dX4_latestMove_74 : decode cX4_latestMove 74 = .ok (.invokevirtual 77, 3) := by decide +kernel
theorem dX4_latestMove_77 : decode cX4_latestMove 77 = .ok (.ifCond .eq 8, 3) := by decide +kernel
theorem dX4_latestMove_80 : decode cX4_latestMove 80 = .ok (.iload 5, 2) := by decide +kernel
theorem dX4_latestMove_82 : decode cX4_latestMove 82 = .ok (.goto 5, 3) := by decide +kernel
theorem dX4_latestMove_85 : decode cX4_latestMove 85 = .ok (.iload 4, 2) := by decide +kernel
theorem dX4_latestMove_87 : decode cX4_latestMove 87 = .ok (.istore 4, 2) := by decide +kernel
theorem dX4_latestMove_89 : decode cX4_latestMove 89 = .ok (.iinc 5 1, 3) := by decide +kernel
theorem dX4_latestMove_92 : decode cX4_latestMove 92 = .ok (.goto (-86), 3) := by decide +kernel
theorem dX4_latestMove_95 : decode cX4_latestMove 95 = .ok (.iload 4, 2) := by decide +kernel
theorem dX4_latestMove_97 : decode cX4_latestMove 97 = .ok (.ireturn, 1) := by decide +kernel
set_option maxRecDepth 20000 in
theorem ggX4_placeOf_X4_latestMove : GoodIn wsX4_placeOf wsX4_latestMove := goodIn_r _ [7, 8, 2, 9, 10, 11, 6, 12, 13, 14, 15, 16, 17, 1, 18, 19, 20, 21, 22, 23, 24, 25, 26, 27, 28, 29, 30, 31, 32, 33, 34, 35, 36, 37, 38, 39, 40, 41, 42] (by decide +kernel) (by decide +kernel)
set_option maxRecDepth 20000 in
theorem gX4_placeOf_X4_latestMove : GoodIn wsX4_placeOf (wsV RX4 80 RX4 yX4_latestMove wsX4_latestMove) := goodIn_app (goodIn_of _ (by decide +kernel)) ggX4_placeOf_X4_latestMove
theorem dX4_placeOf_0 : decode cX4_placeOf 0 = .ok (.aload_n 0, 1) := by decide +kernel
theorem dX4_placeOf_1 : decode cX4_placeOf 1 = .ok (.iload_n 1, 1) := by decide +kernel
theorem dX4_placeOf_2 : decode cX4_placeOf 2 = .ok (.iload_n 2, 1) := by decide +kernel
theorem dX4_placeOf_3 : decode cX4_placeOf 3 = .ok (.iconst (-1), 1) := by decide +kernel
theorem dX4_placeOf_4 : decode cX4_placeOf 4 = .ok (.invokevirtual 80, 3) := by decide +kernel
theorem dX4_placeOf_7 : decode cX4_placeOf 7 = .ok (.istore_n 3, 1) := by decide +kernel
theorem dX4_placeOf_8 : decode cX4_placeOf 8 = .ok (.iload_n 3, 1) := by decide +kernel
theorem dX4_placeOf_9 : decode cX4_placeOf 9 = .ok (.iconst (-1), 1) := by decide +kernel
theorem dX4_placeOf_10 : decode cX4_placeOf 10 = .ok (.if_icmp .eq 21, 3) := by decide +kernel
theorem dX4_placeOf_13 : decode cX4_placeOf 13 = .ok (.aload_n 0, 1) := by decide +kernel
theorem dX4_placeOf_14 : decode cX4_placeOf 14 = .ok (.getfield 7, 3) := by decide +kernel
theorem dX4_placeOf_17 : decode cX4_placeOf 17 = .ok (.iload_n 3, 1) := by decide +kernel
theorem dX4_placeOf_18 : decode cX4_placeOf 18 = .ok (.iaload, 1) := by decide +kernel
theorem dX4_placeOf_19 : decode cX4_placeOf 19 = .ok (.ifCond .ne 12, 3) := by decide +kernel
theorem dX4_placeOf_22 : decode cX4_placeOf 22 = .ok (.aload_n 0, 1) := by decide +kernel
theorem dX4_placeOf_23 : decode cX4_placeOf 23 = .ok (.getfield 13, 3) := by decide +kernel
theorem dX4_placeOf_26 : decode cX4_placeOf 26 = .ok (.iload_n 3, 1) := by decide +kernel
theorem dX4_placeOf_27 : decode cX4_placeOf 27 = .ok (.iaload, 1) := by decide +kernel
theorem dX4_placeOf_28 : decode cX4_placeOf 28 = .ok (.goto 4, 3) := by decide +kernel
theorem dX4_placeOf_31 : decode cX4_placeOf 31 = .ok (.iconst (-1), 1) := by decide +kernel
theorem dX4_placeOf_32 : decode cX4_placeOf 32 = .ok (.ireturn, 1) := by decide +kernel
theorem dX4_isFull_0 : decode cX4_isFull 0 = .ok (.aload_n 0, 1) := by decide +kernel
theorem dX4_isFull_1 : decode cX4_isFull 1 = .ok (.getfield 56, 3) := by decide +kernel
theorem dX4_isFull_4 : decode cX4_isFull 4 = .ok (.iload_n 1, 1) := by decide +kernel
theorem dX4_isFull_5 : decode cX4_isFull 5 = .ok (.iadd, 1) := by decide +kernel
theorem dX4_isFull_6 : decode cX4_isFull 6 = .ok (.sipush 240, 3) := by decide +kernel
theorem dX4_isFull_9 : decode cX4_isFull 9 = .ok (.if_icmp .le 7, 3) := by decide +kernel
theorem dX4_isFull_12 : decode cX4_isFull 12 = .ok (.iconst 1, 1) := by decide +kernel
theorem dX4_isFull_13 : decode cX4_isFull 13 = .ok (.goto 4, 3) := by decide +kernel
theorem dX4_isFull_16 : decode cX4_isFull 16 = .ok (.iconst 0, 1) := by decide +kernel
theorem dX4_isFull_17 : decode cX4_isFull 17 = .ok (.ireturn, 1) := by decide +kernel
set_option maxRecDepth 20000 in
theorem ggX4_areOne_X4_isFridge : GoodIn wsX4_areOne wsX4_isFridge := goodIn_r _ [5, 6, 7, 4, 8] (by decide +kernel) (by decide +kernel)
set_option maxRecDepth 20000 in
theorem gX4_areOne_X4_isFridge : GoodIn wsX4_areOne (va_wsS RX4 84 yX4_isFridge wsX4_isFridge) := goodIn_app (goodIn_of _ (by decide +kernel)) ggX4_areOne_X4_isFridge
set_option maxRecDepth 20000 in
theorem ggX4_areOne_X4_isThing : GoodIn wsX4_areOne wsX4_isThing := goodIn_r _ [11, 6, 7, 4, 8] (by decide +kernel) (by decide +kernel)
set_option maxRecDepth 20000 in
theorem gX4_areOne_X4_isThing : GoodIn wsX4_areOne (va_wsS RX4 88 yX4_isThing wsX4_isThing) := goodIn_app (goodIn_of _ (by decide +kernel)) ggX4_areOne_X4_isThing
theorem dX4_areOne_0 : decode cX4_areOne 0 = .ok (.aload_n 0, 1) := by decide +kernel
theorem dX4_areOne_1 : decode cX4_areOne 1 = .ok (.iload_n 1, 1) := by decide +kernel
theorem dX4_areOne_2 : decode cX4_areOne 2 = .ok (.invokestatic 84, 3) := by decide +kernel
theorem dX4_areOne_5 : decode cX4_areOne 5 = .ok (.ifCond .eq 14, 3) := by decide +kernel
theorem dX4_areOne_8 : decode cX4_areOne 8 = .ok (.iload_n 2, 1) := by decide +kernel
theorem dX4_areOne_9 : decode cX4_areOne 9 = .ok (.invokestatic 88, 3) := by decide +kernel
theorem dX4_areOne_12 : decode cX4_areOne 12 = .ok (.ifCond .eq 7, 3) := by decide +kernel
theorem dX4_areOne_15 : decode cX4_areOne 15 = .ok (.iconst 0, 1) := by decide +kernel
theorem dX4_areOne_16 : decode cX4_areOne 16 = .ok (.goto 4, 3) := by decide +kernel
theorem dX4_areOne_19 : decode cX4_areOne 19 = .ok (.iconst 1, 1) := by decide +kernel
theorem dX4_areOne_20 : decode cX4_areOne 20 = .ok (.putfield 60, 3) := by decide +kernel
theorem dX4_areOne_23 : decode cX4_areOne 23 = .ok (.aload_n 0, 1) := by decide +kernel
theorem dX4_areOne_24 : decode cX4_areOne 24 = .ok (.getfield 60, 3) := by decide +kernel
theorem dX4_areOne_27 : decode cX4_areOne 27 = .ok (.ifCond .ne 7, 3) := by decide +kernel
theorem dX4_areOne_30 : decode cX4_areOne 30 = .ok (.iconst 1, 1) := by decide +kernel
theorem dX4_areOne_31 : decode cX4_areOne 31 = .ok (.goto 4, 3) := by decide +kernel
theorem dX4_areOne_34 : decode cX4_areOne 34 = .ok (.iconst 0, 1) := by decide +kernel
theorem dX4_areOne_35 : decode cX4_areOne 35 = .ok (.ireturn, 1) := by decide +kernel
set_option maxRecDepth 20000 in
theorem ggX4_put_X4_areOne : GoodIn wsX4_put wsX4_areOne := goodIn_r _ [6, 1, 7, 8, 5, 9, 10, 11, 12, 13, 14, 15, 52, 53, 54, 55, 56, 57, 58, 59, 60, 61, 62, 63, 64, 65, 66, 67, 68, 69, 70] (by decide +kernel) (by decide +kernel)
set_option maxRecDepth 20000 in
theorem gX4_put_X4_areOne : GoodIn wsX4_put (wsV RX4 91 RX4 yX4_areOne wsX4_areOne) := goodIn_app (goodIn_of _ (by decide +kernel)) ggX4_put_X4_areOne
set_option maxRecDepth 20000 in
theorem ggX4_put_X4_placeOf : GoodIn wsX4_put wsX4_placeOf := goodIn_r _ [19, 20, 21, 22, 23, 24, 5, 25, 26, 27, 28, 29, 30, 31, 32, 33, 34, 35, 36, 37, 38, 39, 40, 41, 52, 53, 54, 55, 56, 57, 58, 59, 60, 61, 62, 63, 64, 65, 66, 67, 68, 69, 70] (by decide +kernel) (by decide +kernel)
set_option maxRecDepth 20000 in
theorem gX4_put_X4_placeOf : GoodIn wsX4_put (wsV RX4 94 RX4 yX4_placeOf wsX4_placeOf) := goodIn_app (goodIn_of _ (by decide +kernel)) ggX4_put_X4_placeOf
set_option maxRecDepth 20000 in
theorem ggX4_put_X4_isFull : GoodIn wsX4_put wsX4_isFull := goodIn_r _ [45, 26, 52, 53, 54, 55, 56, 57, 58, 59, 60, 61, 62, 63, 64, 65, 66, 67, 68, 69, 70] (by decide +kernel) (by decide +kernel)
set_option maxRecDepth 20000 in
theorem gX4_put_X4_isFull : GoodIn wsX4_put (wsV RX4 98 RX4 yX4_isFull wsX4_isFull) := goodIn_app (goodIn_of _ (by decide +kernel)) ggX4_put_X4_isFull
set_option maxRecDepth 20000 in
theorem ggX4_put_X4_write : GoodIn wsX4_put wsX4_write := goodIn_r _ [49, 50, 20, 26, 21, 41, 36, 51, 31, 52, 53, 54, 55, 56, 57, 58, 59, 60, 61, 62, 63, 64, 65, 66, 67, 68, 69, 70] (by decide +kernel) (by decide +kernel)
set_option maxRecDepth 20000 in
theorem gX4_put_X4_write : GoodIn wsX4_put (wsV RX4 101 RX4 yX4_write wsX4_write) := goodIn_app (goodIn_of _ (by decide +kernel)) ggX4_put_X4_write
theorem dX4_put_0 : decode cX4_put 0 = .ok (.aload_n 0, 1) := by decide +kernel
theorem dX4_put_1 : decode cX4_put 1 = .ok (.iload_n 1, 1) := by decide +kernel
theorem dX4_put_2 : decode cX4_put 2 = .ok (.iload_n 2, 1) := by decide +kernel
theorem dX4_put_3 : decode cX4_put 3 = .ok (.invokevirtual 91, 3) := by decide +kernel
theorem dX4_put_6 : decode cX4_put 6 = .ok (.ifCond .eq 30, 3) := by decide +kernel
theorem dX4_put_9 : decode cX4_put 9 = .ok (.aload_n 0, 1) := by decide +kernel
theorem dX4_put_10 : decode cX4_put 10 = .ok (.aload_n 0, 1) := by decide +kernel
theorem dX4_put_11 : decode cX4_put 11 = .ok (.iload_n 1, 1) := by decide +kernel
theorem dX4_put_12 : decode cX4_put 12 = .ok (.iload_n 2, 1) := by decide +kernel
theorem dX4_put_13 : decode cX4_put 13 = .ok (.invokevirtual 94, 3) := by decide +kernel
theorem dX4_put_16 : decode cX4_put 16 = .ok (.iload_n 1, 1) := by decide +kernel
theorem dX4_put_17 : decode cX4_put 17 = .ok (.if_icmp .eq 11, 3) := by decide +kernel
theorem dX4_put_20 : decode cX4_put 20 = .ok (.aload_n 0, 1) := by decide +kernel
theorem dX4_put_21 : decode cX4_put 21 = .ok (.iconst 1, 1) := by decide +kernel
theorem dX4_put_22 : decode cX4_put 22 = .ok (.invokevirtual 98, 3) := by decide +kernel
theorem dX4_put_25 : decode cX4_put 25 = .ok (.ifCond .eq 7, 3) := by decide +kernel
theorem dX4_put_28 : decode cX4_put 28 = .ok (.iconst 2, 1) := by decide +kernel
theorem dX4_put_29 : decode cX4_put 29 = .ok (.goto 4, 3) := by decide +kernel
theorem dX4_put_32 : decode cX4_put 32 = .ok (.iconst 0, 1) := by decide +kernel
theorem dX4_put_33 : decode cX4_put 33 = .ok (.putfield 60, 3) := by decide +kernel
theorem dX4_put_36 : decode cX4_put 36 = .ok (.aload_n 0, 1) := by decide +kernel
theorem dX4_put_37 : decode cX4_put 37 = .ok (.getfield 60, 3) := by decide +kernel
theorem dX4_put_40 : decode cX4_put 40 = .ok (.ifCond .ne 14, 3) := by decide +kernel
theorem dX4_put_43 : decode cX4_put 43 = .ok (.aload_n 0, 1) := by decide +kernel
theorem dX4_put_44 : decode cX4_put 44 = .ok (.iload_n 1, 1) := by decide +kernel
theorem dX4_put_45 : decode cX4_put 45 = .ok (.iconst 0, 1) := by decide +kernel
theorem dX4_put_46 : decode cX4_put 46 = .ok (.iload_n 2, 1) := by decide +kernel
theorem dX4_put_47 : decode cX4_put 47 = .ok (.iconst (-1), 1) := by decide +kernel
theorem dX4_put_48 : decode cX4_put 48 = .ok (.invokevirtual 101, 3) := by decide +kernel
theorem dX4_put_51 : decode cX4_put 51 = .ok (.goto 4, 3) := by decide +kernel
theorem dX4_put_54 : decode cX4_put 54 = .ok (.iconst 0, 1) := by decide +kernel
theorem dX4_put_55 : decode cX4_put 55 = .ok (.ireturn, 1) := by decide +kernel
set_option maxRecDepth 20000 in
theorem ggX4_take_X4_areOne : GoodIn wsX4_take wsX4_areOne := goodIn_r _ [6, 1, 7, 8, 5, 9, 10, 11, 12, 13, 14, 15, 52, 53, 54, 55, 56, 57, 58, 59, 60, 61, 62, 63, 64, 65, 66, 67, 68, 69, 70] (by decide +kernel) (by decide +kernel)
set_option maxRecDepth 20000 in
theorem gX4_take_X4_areOne : GoodIn wsX4_take (wsV RX4 91 RX4 yX4_areOne wsX4_areOne) := goodIn_app (goodIn_of _ (by decide +kernel)) ggX4_take_X4_areOne
set_option maxRecDepth 20000 in
theorem ggX4_take_X4_placeOf : GoodIn wsX4_take wsX4_placeOf := goodIn_r _ [19, 20, 21, 22, 23, 24, 5, 25, 26, 27, 28, 29, 30, 31, 32, 33, 34, 35, 36, 37, 38, 39, 40, 41, 52, 53, 54, 55, 56, 57, 58, 59, 60, 61, 62, 63, 64, 65, 66, 67, 68, 69, 70] (by decide +kernel) (by decide +kernel)
set_option maxRecDepth 20000 in
theorem gX4_take_X4_placeOf : GoodIn wsX4_take (wsV RX4 94 RX4 yX4_placeOf wsX4_placeOf) := goodIn_app (goodIn_of _ (by decide +kernel)) ggX4_take_X4_placeOf
set_option maxRecDepth 20000 in
theorem ggX4_take_X4_isFull : GoodIn wsX4_take wsX4_isFull := goodIn_r _ [45, 26, 52, 53, 54, 55, 56, 57, 58, 59, 60, 61, 62, 63, 64, 65, 66, 67, 68, 69, 70] (by decide +kernel) (by decide +kernel)
set_option maxRecDepth 20000 in
theorem gX4_take_X4_isFull : GoodIn wsX4_take (wsV RX4 98 RX4 yX4_isFull wsX4_isFull) := goodIn_app (goodIn_of _ (by decide +kernel)) ggX4_take_X4_isFull
set_option maxRecDepth 20000 in
theorem ggX4_take_X4_write : GoodIn wsX4_take wsX4_write := goodIn_r _ [49, 50, 20, 26, 21, 41, 36, 51, 31, 52, 53, 54, 55, 56, 57, 58, 59, 60, 61, 62, 63, 64, 65, 66, 67, 68, 69, 70] (by decide +kernel) (by decide +kernel)
set_option maxRecDepth 20000 in
theorem gX4_take_X4_write : GoodIn wsX4_take (wsV RX4 101 RX4 yX4_write wsX4_write) := goodIn_app (goodIn_of _ (by decide +kernel)) ggX4_take_X4_write
theorem dX4_take_0 : decode cX4_take 0 = .ok (.aload_n 0, 1) := by decide +kernel
theorem dX4_take_1 : decode cX4_take 1 = .ok (.iload_n 1, 1) := by decide +kernel
theorem dX4_take_2 : decode cX4_take 2 = .ok (.iload_n 2, 1) := by decide +kernel
theorem dX4_take_3 : decode cX4_take 3 = .ok (.invokevirtual 91, 3) := by decide +kernel
theorem dX4_take_6 : decode cX4_take 6 = .ok (.ifCond .eq 12, 3) := by decide +kernel
theorem dX4_take_9 : decode cX4_take 9 = .ok (.aload_n 0, 1) := by decide +kernel
theorem dX4_take_10 : decode cX4_take 10 = .ok (.iload_n 1, 1) := by decide +kernel
theorem dX4_take_11 : decode cX4_take 11 = .ok (.iload_n 2, 1) := by decide +kernel
theorem dX4_take_12 : decode cX4_take 12 = .ok (.invokevirtual 94, 3) := by decide +kernel
theorem dX4_take_15 : decode cX4_take 15 = .ok (.goto 4, 3) := by decide +kernel
theorem dX4_take_18 : decode cX4_take 18 = .ok (.iconst (-1), 1) := by decide +kernel
theorem dX4_take_19 : decode cX4_take 19 = .ok (.istore_n 3, 1) := by decide +kernel
theorem dX4_take_20 : decode cX4_take 20 = .ok (.aload_n 0, 1) := by decide +kernel
theorem dX4_take_21 : decode cX4_take 21 = .ok (.aload_n 0, 1) := by decide +kernel
theorem dX4_take_22 : decode cX4_take 22 = .ok (.getfield 60, 3) := by decide +kernel
theorem dX4_take_25 : decode cX4_take 25 = .ok (.ifCond .ne 20, 3) := by decide +kernel
theorem dX4_take_28 : decode cX4_take 28 = .ok (.iload_n 3, 1) := by decide +kernel
theorem dX4_take_29 : decode cX4_take 29 = .ok (.iconst (-1), 1) := by decide +kernel
theorem dX4_take_30 : decode cX4_take 30 = .ok (.if_icmp .eq 11, 3) := by decide +kernel
theorem dX4_take_33 : decode cX4_take 33 = .ok (.aload_n 0, 1) := by decide +kernel
theorem dX4_take_34 : decode cX4_take 34 = .ok (.iconst 1, 1) := by decide +kernel
theorem dX4_take_35 : decode cX4_take 35 = .ok (.invokevirtual 98, 3) := by decide +kernel
theorem dX4_take_38 : decode cX4_take 38 = .ok (.ifCond .eq 7, 3) := by decide +kernel
theorem dX4_take_41 : decode cX4_take 41 = .ok (.iconst 2, 1) := by decide +kernel
theorem dX4_take_42 : decode cX4_take 42 = .ok (.goto 7, 3) := by decide +kernel
theorem dX4_take_45 : decode cX4_take 45 = .ok (.aload_n 0, 1) := by decide +kernel
theorem dX4_take_46 : decode cX4_take 46 = .ok (.getfield 60, 3) := by decide +kernel
theorem dX4_take_49 : decode cX4_take 49 = .ok (.putfield 60, 3) := by decide +kernel
theorem dX4_take_52 : decode cX4_take 52 = .ok (.aload_n 0, 1) := by decide +kernel
theorem dX4_take_53 : decode cX4_take 53 = .ok (.getfield 60, 3) := by decide +kernel
theorem dX4_take_56 : decode cX4_take 56 = .ok (.ifCond .le 5, 3) := by decide +kernel
theorem dX4_take_59 : decode cX4_take 59 = .ok (.iconst 0, 1) := by decide +kernel
theorem dX4_take_60 : decode cX4_take 60 = .ok (.ireturn, 1) := by decide +kernel
theorem dX4_take_61 : decode cX4_take 61 = .ok (.aload_n 0, 1) := by decide +kernel
theorem dX4_take_62 : decode cX4_take 62 = .ok (.iload_n 1, 1) := by decide +kernel
theorem dX4_take_63 : decode cX4_take 63 = .ok (.iconst 1, 1) := by decide +kernel
theorem dX4_take_64 : decode cX4_take 64 = .ok (.iload_n 2, 1) := by decide +kernel
theorem dX4_take_65 : decode cX4_take 65 = .ok (.iconst (-1), 1) := by decide +kernel
theorem dX4_take_66 : decode cX4_take 66 = .ok (.invokevirtual 101, 3) := by decide +kernel
theorem dX4_take_69 : decode cX4_take 69 = .ok (.istore 4, 2) := by decide +kernel
theorem dX4_take_71 : decode cX4_take 71 = .ok (.iload_n 3, 1) := by decide +kernel
theorem dX4_take_72 : decode cX4_take 72 = .ok (.ireturn, 1) := by decide +kernel
set_option maxRecDepth 20000 in
theorem ggX4_where_X4_areOne : GoodIn wsX4_where wsX4_areOne := goodIn_r _ [5, 6, 7, 8, 4, 9, 10, 11, 12, 13, 14, 15, 42, 43, 44, 45, 46, 47, 48, 49, 50, 51, 52, 53, 54, 55, 56, 57, 58, 59, 60] (by decide +kernel) (by decide +kernel)
set_option maxRecDepth 20000 in
theorem gX4_where_X4_areOne : GoodIn wsX4_where (wsV RX4 91 RX4 yX4_areOne wsX4_areOne) := goodIn_app (goodIn_of _ (by decide +kernel)) ggX4_where_X4_areOne
set_option maxRecDepth 20000 in
theorem ggX4_where_X4_placeOf : GoodIn wsX4_where wsX4_placeOf := goodIn_r _ [19, 20, 21, 22, 23, 24, 4, 25, 26, 27, 28, 29, 30, 31, 32, 33, 34, 35, 36, 37, 38, 39, 40, 41, 42, 43, 44, 45, 46, 47, 48, 49, 50, 51, 52, 53, 54, 55, 56, 57, 58, 59, 60] (by decide +kernel) (by decide +kernel)
set_option maxRecDepth 20000 in
theorem gX4_where_X4_placeOf : GoodIn wsX4_where (wsV RX4 94 RX4 yX4_placeOf wsX4_placeOf) := goodIn_app (goodIn_of _ (by decide +kernel)) ggX4_where_X4_placeOf
theorem dX4_where_0 : decode cX4_where 0 = .ok (.aload_n 0, 1) := by decide +kernel
theorem dX4_where_1 : decode cX4_where 1 = .ok (.iload_n 1, 1) := by decide +kernel
theorem dX4_where_2 : decode cX4_where 2 = .ok (.iload_n 2, 1) := by decide +kernel
theorem dX4_where_3 : decode cX4_where 3 = .ok (.invokevirtual 91, 3) := by decide +kernel
theorem dX4_where_6 : decode cX4_where 6 = .ok (.ifCond .eq 12, 3) := by decide +kernel
theorem dX4_where_9 : decode cX4_where 9 = .ok (.aload_n 0, 1) := by decide +kernel
theorem dX4_where_10 : decode cX4_where 10 = .ok (.iload_n 1, 1) := by decide +kernel
theorem dX4_where_11 : decode cX4_where 11 = .ok (.iload_n 2, 1) := by decide +kernel
theorem dX4_where_12 : decode cX4_where 12 = .ok (.invokevirtual 94, 3) := by decide +kernel
theorem dX4_where_15 : decode cX4_where 15 = .ok (.goto 4, 3) := by decide +kernel
theorem dX4_where_18 : decode cX4_where 18 = .ok (.iconst 0, 1) := by decide +kernel
theorem dX4_where_19 : decode cX4_where 19 = .ok (.ireturn, 1) := by decide +kernel
set_option maxRecDepth 20000 in
theorem ggX4_whereByAll_X4_isThing : GoodIn wsX4_whereByAll wsX4_isThing := goodIn_r _ [5, 6, 7, 4, 8] (by decide +kernel) (by decide +kernel)
set_option maxRecDepth 20000 in
theorem gX4_whereByAll_X4_isThing : GoodIn wsX4_whereByAll (va_wsS RX4 88 yX4_isThing wsX4_isThing) := goodIn_app (goodIn_of _ (by decide +kernel)) ggX4_whereByAll_X4_isThing
set_option maxRecDepth 20000 in
theorem ggX4_whereByAll_X4_placeOf : GoodIn wsX4_whereByAll wsX4_placeOf := goodIn_r _ [12, 13, 14, 15, 16, 17, 4, 18, 19, 20, 21, 22, 23, 24, 25, 26, 27, 28, 29, 30, 31, 32, 33, 34, 35, 36, 37, 38, 39, 40, 41, 42, 43, 44, 45, 46, 47, 48, 49, 50, 51, 52, 53] (by decide +kernel) (by decide +kernel)
set_option maxRecDepth 20000 in
theorem gX4_whereByAll_X4_placeOf : GoodIn wsX4_whereByAll (wsV RX4 94 RX4 yX4_placeOf wsX4_placeOf) := goodIn_app (goodIn_of _ (by decide +kernel)) ggX4_whereByAll_X4_placeOf
theorem dX4_whereByAll_0 : decode cX4_whereByAll 0 = .ok (.aload_n 0, 1) := by decide +kernel
theorem dX4_whereByAll_1 : decode cX4_whereByAll 1 = .ok (.iload_n 1, 1) := by decide +kernel
theorem dX4_whereByAll_2 : decode cX4_whereByAll 2 = .ok (.invokestatic 88, 3) := by decide +kernel
theorem dX4_whereByAll_5 : decode cX4_whereByAll 5 = .ok (.ifCond .eq 7, 3) := by decide +kernel
theorem dX4_whereByAll_8 : decode cX4_whereByAll 8 = .ok (.iconst 0, 1) := by decide +kernel
theorem dX4_whereByAll_9 : decode cX4_whereByAll 9 = .ok (.goto 4, 3) := by decide +kernel
theorem dX4_whereByAll_12 : decode cX4_whereByAll 12 = .ok (.iconst 1, 1) := by decide +kernel
theorem dX4_whereByAll_13 : decode cX4_whereByAll 13 = .ok (.putfield 60, 3) := by decide +kernel
theorem dX4_whereByAll_16 : decode cX4_whereByAll 16 = .ok (.aload_n 0, 1) := by decide +kernel
theorem dX4_whereByAll_17 : decode cX4_whereByAll 17 = .ok (.getfield 60, 3) := by decide +kernel
theorem dX4_whereByAll_20 : decode cX4_whereByAll 20 = .ok (.ifCond .ne 12, 3) := by decide +kernel
theorem dX4_whereByAll_23 : decode cX4_whereByAll 23 = .ok (.aload_n 0, 1) := by decide +kernel
theorem dX4_whereByAll_24 : decode cX4_whereByAll 24 = .ok (.iconst 5, 1) := by decide +kernel
theorem dX4_whereByAll_25 : decode cX4_whereByAll 25 = .ok (.iload_n 1, 1) := by decide +kernel
theorem dX4_whereByAll_26 : decode cX4_whereByAll 26 = .ok (.invokevirtual 94, 3) := by decide +kernel
theorem dX4_whereByAll_29 : decode cX4_whereByAll 29 = .ok (.goto 4, 3) := by decide +kernel
theorem dX4_whereByAll_32 : decode cX4_whereByAll 32 = .ok (.iconst 0, 1) := by decide +kernel
theorem dX4_whereByAll_33 : decode cX4_whereByAll 33 = .ok (.ireturn, 1) := by decide +kernel
set_option maxRecDepth 20000 in
theorem ggX4_countOf_X4_placeOf : GoodIn wsX4_countOf wsX4_placeOf := goodIn_r _ [5, 6, 7, 8, 9, 10, 4, 11, 12, 13, 14, 15, 16, 17, 18, 19, 20, 21, 22, 23, 24, 25, 26, 27, 28, 29, 30, 31, 32, 33, 34, 35, 36, 37, 38, 39, 40, 41, 42, 43, 44, 45, 46] (by decide +kernel) (by decide +kernel)
set_option maxRecDepth 20000 in
theorem gX4_countOf_X4_placeOf : GoodIn wsX4_countOf (wsV RX4 94 RX4 yX4_placeOf wsX4_placeOf) := goodIn_app (goodIn_of _ (by decide +kernel)) ggX4_countOf_X4_placeOf
theorem dX4_countOf_0 : decode cX4_countOf 0 = .ok (.iconst 0, 1) := by decide +kernel
theorem dX4_countOf_1 : decode cX4_countOf 1 = .ok (.istore_n 3, 1) := by decide +kernel
theorem dX4_countOf_2 : decode cX4_countOf 2 = .ok (.iload_n 2, 1) := by decide +kernel
theorem dX4_countOf_3 : decode cX4_countOf 3 = .ok (.istore 4, 2) := by decide +kernel
theorem dX4_countOf_5 : decode cX4_countOf 5 = .ok (.iload 4, 2) := by decide +kernel
theorem dX4_countOf_7 : decode cX4_countOf 7 = .ok (.bipush 40, 2) := by decide +kernel
theorem dX4_countOf_9 : decode cX4_countOf 9 = .ok (.if_icmp .ge 28, 3) := by decide +kernel
theorem dX4_countOf_12 : decode cX4_countOf 12 = .ok (.iload_n 3, 1) := by decide +kernel
theorem dX4_countOf_13 : decode cX4_countOf 13 = .ok (.aload_n 0, 1) := by decide +kernel
theorem dX4_countOf_14 : decode cX4_countOf 14 = .ok (.iload_n 1, 1) := by decide +kernel
theorem dX4_countOf_15 : decode cX4_countOf 15 = .ok (.iload 4, 2) := by decide +kernel
theorem dX4_countOf_17 : decode cX4_countOf 17 = .ok (.invokevirtual 94, 3) := by decide +kernel
theorem dX4_countOf_20 : decode cX4_countOf 20 = .ok (.iconst (-1), 1) := by decide +kernel
theorem dX4_countOf_21 : decode cX4_countOf 21 = .ok (.if_icmp .eq 7, 3) := by decide +kernel
theorem dX4_countOf_24 : decode cX4_countOf 24 = .ok (.iconst 1, 1) := by decide +kernel
theorem dX4_countOf_25 : decode cX4_countOf 25 = .ok (.goto 4, 3) := by decide +kernel
theorem dX4_countOf_28 : decode cX4_countOf 28 = .ok (.iconst 0, 1) := by decide +kernel
theorem dX4_countOf_29 : decode cX4_countOf 29 = .ok (.iadd, 1) := by decide +kernel
theorem dX4_countOf_30 : decode cX4_countOf 30 = .ok (.istore_n 3, 1) := by decide +kernel
theorem dX4_countOf_31 : decode cX4_countOf 31 = .ok (.iinc 4 8, 3) := by decide +kernel
theorem dX4_countOf_34 : decode cX4_countOf 34 = .ok (.goto (-29), 3) := by decide +kernel
theorem dX4_countOf_37 : decode cX4_countOf 37 = .ok (.iload_n 3, 1) := by decide +kernel
theorem dX4_countOf_38 : decode cX4_countOf 38 = .ok (.ireturn, 1) := by decide +kernel
set_option maxRecDepth 20000 in
theorem ggX4_count_X4_isFridge : GoodIn wsX4_count wsX4_isFridge := goodIn_r _ [5, 6, 7, 4, 8] (by decide +kernel) (by decide +kernel)
set_option maxRecDepth 20000 in
theorem gX4_count_X4_isFridge : GoodIn wsX4_count (va_wsS RX4 84 yX4_isFridge wsX4_isFridge) := goodIn_app (goodIn_of _ (by decide +kernel)) ggX4_count_X4_isFridge
set_option maxRecDepth 20000 in
theorem ggX4_count_X4_isFood : GoodIn wsX4_count wsX4_isFood := goodIn_r _ [11, 6, 7, 4, 8] (by decide +kernel) (by decide +kernel)
set_option maxRecDepth 20000 in
theorem gX4_count_X4_isFood : GoodIn wsX4_count (va_wsS RX4 105 yX4_isFood wsX4_isFood) := goodIn_app (goodIn_of _ (by decide +kernel)) ggX4_count_X4_isFood
set_option maxRecDepth 20000 in
theorem ggX4_count_X4_countOf : GoodIn wsX4_count wsX4_countOf := goodIn_r _ [15, 16, 17, 18, 4, 19, 20, 21, 22, 23, 24, 25, 26, 27, 28, 29, 30, 31, 32, 33, 34, 35, 36, 37, 38, 39, 40, 41, 42, 43, 44, 45, 46, 47, 48, 49, 50, 51, 52, 53, 54, 55, 56, 57, 58, 59, 60] (by decide +kernel) (by decide +kernel)
set_option maxRecDepth 20000 in
theorem gX4_count_X4_countOf : GoodIn wsX4_count (wsV RX4 108 RX4 yX4_countOf wsX4_countOf) := goodIn_app (goodIn_of _ (by decide +kernel)) ggX4_count_X4_countOf
theorem dX4_count_0 : decode cX4_count 0 = .ok (.aload_n 0, 1) := by decide +kernel
theorem dX4_count_1 : decode cX4_count 1 = .ok (.iload_n 1, 1) := by decide +kernel
theorem dX4_count_2 : decode cX4_count 2 = .ok (.invokestatic 84, 3) := by decide +kernel
theorem dX4_count_5 : decode cX4_count 5 = .ok (.ifCond .eq 14, 3) := by decide +kernel
theorem dX4_count_8 : decode cX4_count 8 = .ok (.iload_n 2, 1) := by decide +kernel
theorem dX4_count_9 : decode cX4_count 9 = .ok (.invokestatic 105, 3) := by decide +kernel
theorem dX4_count_12 : decode cX4_count 12 = .ok (.ifCond .eq 7, 3) := by decide +kernel
theorem dX4_count_15 : decode cX4_count 15 = .ok (.iconst 0, 1) := by decide +kernel
theorem dX4_count_16 : decode cX4_count 16 = .ok (.goto 4, 3) := by decide +kernel
theorem dX4_count_19 : decode cX4_count 19 = .ok (.iconst 1, 1) := by decide +kernel
theorem dX4_count_20 : decode cX4_count 20 = .ok (.putfield 60, 3) := by decide +kernel
theorem dX4_count_23 : decode cX4_count 23 = .ok (.aload_n 0, 1) := by decide +kernel
theorem dX4_count_24 : decode cX4_count 24 = .ok (.getfield 60, 3) := by decide +kernel
theorem dX4_count_27 : decode cX4_count 27 = .ok (.ifCond .ne 12, 3) := by decide +kernel
theorem dX4_count_30 : decode cX4_count 30 = .ok (.aload_n 0, 1) := by decide +kernel
theorem dX4_count_31 : decode cX4_count 31 = .ok (.iload_n 1, 1) := by decide +kernel
theorem dX4_count_32 : decode cX4_count 32 = .ok (.iload_n 2, 1) := by decide +kernel
theorem dX4_count_33 : decode cX4_count 33 = .ok (.invokevirtual 108, 3) := by decide +kernel
theorem dX4_count_36 : decode cX4_count 36 = .ok (.goto 4, 3) := by decide +kernel
theorem dX4_count_39 : decode cX4_count 39 = .ok (.iconst 0, 1) := by decide +kernel
theorem dX4_count_40 : decode cX4_count 40 = .ok (.ireturn, 1) := by decide +kernel
set_option maxRecDepth 20000 in
theorem ggX4_countByAll_X4_isFood : GoodIn wsX4_countByAll wsX4_isFood := goodIn_r _ [5, 6, 7, 4, 8] (by decide +kernel) (by decide +kernel)
set_option maxRecDepth 20000 in
theorem gX4_countByAll_X4_isFood : GoodIn wsX4_countByAll (va_wsS RX4 105 yX4_isFood wsX4_isFood) := goodIn_app (goodIn_of _ (by decide +kernel)) ggX4_countByAll_X4_isFood
set_option maxRecDepth 20000 in
theorem ggX4_countByAll_X4_countOf : GoodIn wsX4_countByAll wsX4_countOf := goodIn_r _ [12, 13, 14, 15, 4, 16, 17, 18, 19, 20, 21, 22, 23, 24, 25, 26, 27, 28, 29, 30, 31, 32, 33, 34, 35, 36, 37, 38, 39, 40, 41, 42, 43, 44, 45, 46, 47, 48, 49, 50, 51, 52, 53, 54, 55, 56, 57] (by decide +kernel) (by decide +kernel)
set_option maxRecDepth 20000 in
theorem gX4_countByAll_X4_countOf : GoodIn wsX4_countByAll (wsV RX4 108 RX4 yX4_countOf wsX4_countOf) := goodIn_app (goodIn_of _ (by decide +kernel)) ggX4_countByAll_X4_countOf
theorem dX4_countByAll_0 : decode cX4_countByAll 0 = .ok (.aload_n 0, 1) := by decide +kernel
theorem dX4_countByAll_1 : decode cX4_countByAll 1 = .ok (.iload_n 1, 1) := by decide +kernel
theorem dX4_countByAll_2 : decode cX4_countByAll 2 = .ok (.invokestatic 105, 3) := by decide +kernel
theorem dX4_countByAll_5 : decode cX4_countByAll 5 = .ok (.ifCond .eq 7, 3) := by decide +kernel
theorem dX4_countByAll_8 : decode cX4_countByAll 8 = .ok (.iconst 0, 1) := by decide +kernel
theorem dX4_countByAll_9 : decode cX4_countByAll 9 = .ok (.goto 4, 3) := by decide +kernel
theorem dX4_countByAll_12 : decode cX4_countByAll 12 = .ok (.iconst 1, 1) := by decide +kernel
theorem dX4_countByAll_13 : decode cX4_countByAll 13 = .ok (.putfield 60, 3) := by decide +kernel
theorem dX4_countByAll_16 : decode cX4_countByAll 16 = .ok (.aload_n 0, 1) := by decide +kernel
theorem dX4_countByAll_17 : decode cX4_countByAll 17 = .ok (.getfield 60, 3) := by decide +kernel
theorem dX4_countByAll_20 : decode cX4_countByAll 20 = .ok (.ifCond .ne 12, 3) := by decide +kernel
theorem dX4_countByAll_23 : decode cX4_countByAll 23 = .ok (.aload_n 0, 1) := by decide +kernel
theorem dX4_countByAll_24 : decode cX4_countByAll 24 = .ok (.iconst 5, 1) := by decide +kernel
theorem dX4_countByAll_25 : decode cX4_countByAll 25 = .ok (.iload_n 1, 1) := by decide +kernel
theorem dX4_countByAll_26 : decode cX4_countByAll 26 = .ok (.invokevirtual 108, 3) := by decide +kernel
theorem dX4_countByAll_29 : decode cX4_countByAll 29 = .ok (.goto 4, 3) := by decide +kernel
theorem dX4_countByAll_32 : decode cX4_countByAll 32 = .ok (.iconst 0, 1) := by decide +kernel
theorem dX4_countByAll_33 : decode cX4_countByAll 33 = .ok (.ireturn, 1) := by decide +kernel
set_option maxRecDepth 20000 in
theorem ggX4_claims_X4_areOne : GoodIn wsX4_claims wsX4_areOne := goodIn_r _ [6, 7, 8, 9, 5, 10, 11, 12, 13, 14, 15, 16, 42, 43, 44, 45, 46, 47, 48, 49, 50, 51, 52, 53, 54, 55, 56, 57, 58, 59, 60] (by decide +kernel) (by decide +kernel)
set_option maxRecDepth 20000 in
theorem gX4_claims_X4_areOne : GoodIn wsX4_claims (wsV RX4 91 RX4 yX4_areOne wsX4_areOne) := goodIn_app (goodIn_of _ (by decide +kernel)) ggX4_claims_X4_areOne
set_option maxRecDepth 20000 in
theorem ggX4_claims_X4_placeOf : GoodIn wsX4_claims wsX4_placeOf := goodIn_r _ [20, 1, 21, 22, 23, 24, 5, 25, 26, 27, 28, 29, 30, 31, 32, 33, 34, 35, 36, 37, 38, 39, 40, 41, 42, 43, 44, 45, 46, 47, 48, 49, 50, 51, 52, 53, 54, 55, 56, 57, 58, 59, 60] (by decide +kernel) (by decide +kernel)
set_option maxRecDepth 20000 in
theorem gX4_claims_X4_placeOf : GoodIn wsX4_claims (wsV RX4 94 RX4 yX4_placeOf wsX4_placeOf) := goodIn_app (goodIn_of _ (by decide +kernel)) ggX4_claims_X4_placeOf
set_option maxRecDepth 20000 in
theorem ggX4_claims_X4_latestMove : GoodIn wsX4_claims wsX4_latestMove := goodIn_r _ [25, 26, 21, 27, 28, 29, 5, 30, 31, 32, 33, 34, 35, 1, 36, 37, 38, 39, 40, 41, 42, 43, 44, 45, 46, 47, 48, 49, 50, 51, 52, 53, 54, 55, 56, 57, 58, 59, 60] (by decide +kernel) (by decide +kernel)
set_option maxRecDepth 20000 in
theorem gX4_claims_X4_latestMove : GoodIn wsX4_claims (wsV RX4 80 RX4 yX4_latestMove wsX4_latestMove) := goodIn_app (goodIn_of _ (by decide +kernel)) ggX4_claims_X4_latestMove
theorem dX4_claims_0 : decode cX4_claims 0 = .ok (.iconst 0, 1) := by decide +kernel
theorem dX4_claims_1 : decode cX4_claims 1 = .ok (.istore_n 3, 1) := by decide +kernel
theorem dX4_claims_2 : decode cX4_claims 2 = .ok (.aload_n 0, 1) := by decide +kernel
theorem dX4_claims_3 : decode cX4_claims 3 = .ok (.iload_n 1, 1) := by decide +kernel
theorem dX4_claims_4 : decode cX4_claims 4 = .ok (.iload_n 2, 1) := by decide +kernel
theorem dX4_claims_5 : decode cX4_claims 5 = .ok (.invokevirtual 91, 3) := by decide +kernel
theorem dX4_claims_8 : decode cX4_claims 8 = .ok (.ifCond .eq 70, 3) := by decide +kernel
theorem dX4_claims_11 : decode cX4_claims 11 = .ok (.aload_n 0, 1) := by decide +kernel
theorem dX4_claims_12 : decode cX4_claims 12 = .ok (.iload_n 1, 1) := by decide +kernel
theorem dX4_claims_13 : decode cX4_claims 13 = .ok (.iload_n 2, 1) := by decide +kernel
theorem dX4_claims_14 : decode cX4_claims 14 = .ok (.invokevirtual 94, 3) := by decide +kernel
theorem dX4_claims_17 : decode cX4_claims 17 = .ok (.istore 4, 2) := by decide +kernel
theorem dX4_claims_19 : decode cX4_claims 19 = .ok (.iconst 0, 1) := by decide +kernel
theorem dX4_claims_20 : decode cX4_claims 20 = .ok (.istore 5, 2) := by decide +kernel
theorem dX4_claims_22 : decode cX4_claims 22 = .ok (.iload 5, 2) := by decide +kernel
theorem dX4_claims_24 : decode cX4_claims 24 = .ok (.iconst 5, 1) := by decide +kernel
theorem dX4_claims_25 : decode cX4_claims 25 = .ok (.if_icmp .ge 53, 3) := by decide +kernel
theorem dX4_claims_28 : decode cX4_claims 28 = .ok (.aload_n 0, 1) := by decide +kernel
theorem dX4_claims_29 : decode cX4_claims 29 = .ok (.iload_n 1, 1) := by decide +kernel
theorem dX4_claims_30 : decode cX4_claims 30 = .ok (.iload_n 2, 1) := by decide +kernel
theorem dX4_claims_31 : decode cX4_claims 31 = .ok (.iload 5, 2) := by decide +kernel
theorem dX4_claims_33 : decode cX4_claims 33 = .ok (.invokevirtual 80, 3) := by decide +kernel
theorem dX4_claims_36 : decode cX4_claims 36 = .ok (.istore 6, 2) := by decide +kernel
theorem dX4_claims_38 : decode cX4_claims 38 = .ok (.iload_n 3, 1) := by decide +kernel
theorem dX4_claims_39 : decode cX4_claims 39 = .ok (.iload 6, 2) := by decide +kernel
theorem dX4_claims_41 : decode cX4_claims 41 = .ok (.iconst (-1), 1) := by decide +kernel
theorem dX4_claims_42 : decode cX4_claims 42 = .ok (.if_icmp .eq 27, 3) := by decide +kernel
theorem dX4_claims_45 : decode cX4_claims 45 = .ok (.aload_n 0, 1) := by decide +kernel
theorem dX4_claims_46 : decode cX4_claims 46 = .ok (.getfield 7, 3) := by decide +kernel
theorem dX4_claims_49 : decode cX4_claims 49 = .ok (.iload 6, 2) := by decide +kernel
theorem dX4_claims_51 : decode cX4_claims 51 = .ok (.iaload, 1) := by decide +kernel
theorem dX4_claims_52 : decode cX4_claims 52 = .ok (.ifCond .ne 17, 3) := by decide +kernel
theorem dX4_claims_55 : decode cX4_claims 55 = .ok (.iload 4, 2) := by decide +kernel
theorem dX4_claims_57 : decode cX4_claims 57 = .ok (.iload 5, 2) := by decide +kernel
theorem dX4_claims_59 : decode cX4_claims 59 = .ok (.if_icmp .eq 10, 3) := by decide +kernel
theorem dX4_claims_62 : decode cX4_claims 62 = .ok (.iconst 1, 1) := by decide +kernel
theorem dX4_claims_63 : decode cX4_claims 63 = .ok (.iload 5, 2) := by decide +kernel
theorem dX4_claims_65 : decode cX4_claims 65 = .ok (.ishl, 1) := by decide +kernel
theorem dX4_claims_66 : decode cX4_claims 66 = .ok (.goto 4, 3) := by decide +kernel
theorem dX4_claims_69 : decode cX4_claims 69 = .ok (.iconst 0, 1) := by decide +kernel
theorem dX4_claims_70 : decode cX4_claims 70 = .ok (.ior, 1) := by decide +kernel
theorem dX4_claims_71 : decode cX4_claims 71 = .ok (.istore_n 3, 1) := by decide +kernel
theorem dX4_claims_72 : decode cX4_claims 72 = .ok (.iinc 5 1, 3) := by decide +kernel
theorem dX4_claims_75 : decode cX4_claims 75 = .ok (.goto (-53), 3) := by decide +kernel
theorem dX4_claims_78 : decode cX4_claims 78 = .ok (.iload_n 3, 1) := by decide +kernel
theorem dX4_claims_79 : decode cX4_claims 79 = .ok (.ireturn, 1) := by decide +kernel
set_option maxRecDepth 20000 in
theorem ggX4_meet_X4_isFridge : GoodIn wsX4_meet wsX4_isFridge := goodIn_r _ [8, 9, 10, 7, 11] (by decide +kernel) (by decide +kernel)
set_option maxRecDepth 20000 in
theorem gX4_meet_X4_isFridge : GoodIn wsX4_meet (va_wsS RX4 84 yX4_isFridge wsX4_isFridge) := goodIn_app (goodIn_of _ (by decide +kernel)) ggX4_meet_X4_isFridge
set_option maxRecDepth 20000 in
theorem ggX4_meet_X4_knows : GoodIn wsX4_meet wsX4_knows := goodIn_r _ [15, 3, 16, 17, 18, 19, 20, 21, 22, 23, 24, 25, 26, 27, 28, 29, 30, 31, 32, 33, 34] (by decide +kernel) (by decide +kernel)
set_option maxRecDepth 20000 in
theorem gX4_meet_X4_knows : GoodIn wsX4_meet (wsV RX4 70 RX4 yX4_knows wsX4_knows) := goodIn_app (goodIn_of _ (by decide +kernel)) ggX4_meet_X4_knows
theorem dX4_meet_0 : decode cX4_meet 0 = .ok (.aload_n 0, 1) := by decide +kernel
theorem dX4_meet_1 : decode cX4_meet 1 = .ok (.iload_n 1, 1) := by decide +kernel
theorem dX4_meet_2 : decode cX4_meet 2 = .ok (.invokestatic 84, 3) := by decide +kernel
theorem dX4_meet_5 : decode cX4_meet 5 = .ok (.ifCond .eq 10, 3) := by decide +kernel
theorem dX4_meet_8 : decode cX4_meet 8 = .ok (.iload_n 2, 1) := by decide +kernel
theorem dX4_meet_9 : decode cX4_meet 9 = .ok (.invokestatic 84, 3) := by decide +kernel
theorem dX4_meet_12 : decode cX4_meet 12 = .ok (.ifCond .ne 7, 3) := by decide +kernel
theorem dX4_meet_15 : decode cX4_meet 15 = .ok (.iconst 1, 1) := by decide +kernel
theorem dX4_meet_16 : decode cX4_meet 16 = .ok (.goto 13, 3) := by decide +kernel
theorem dX4_meet_19 : decode cX4_meet 19 = .ok (.iload_n 1, 1) := by decide +kernel
theorem dX4_meet_20 : decode cX4_meet 20 = .ok (.iload_n 2, 1) := by decide +kernel
theorem dX4_meet_21 : decode cX4_meet 21 = .ok (.if_icmp .ne 7, 3) := by decide +kernel
theorem dX4_meet_24 : decode cX4_meet 24 = .ok (.iconst 2, 1) := by decide +kernel
theorem dX4_meet_25 : decode cX4_meet 25 = .ok (.goto 4, 3) := by decide +kernel
theorem dX4_meet_28 : decode cX4_meet 28 = .ok (.iconst 0, 1) := by decide +kernel
theorem dX4_meet_29 : decode cX4_meet 29 = .ok (.putfield 60, 3) := by decide +kernel
theorem dX4_meet_32 : decode cX4_meet 32 = .ok (.aload_n 0, 1) := by decide +kernel
theorem dX4_meet_33 : decode cX4_meet 33 = .ok (.getfield 60, 3) := by decide +kernel
theorem dX4_meet_36 : decode cX4_meet 36 = .ok (.ifCond .le 5, 3) := by decide +kernel
theorem dX4_meet_39 : decode cX4_meet 39 = .ok (.iconst 0, 1) := by decide +kernel
theorem dX4_meet_40 : decode cX4_meet 40 = .ok (.ireturn, 1) := by decide +kernel
theorem dX4_meet_41 : decode cX4_meet 41 = .ok (.iconst 0, 1) := by decide +kernel
theorem dX4_meet_42 : decode cX4_meet 42 = .ok (.istore_n 3, 1) := by decide +kernel
theorem dX4_meet_43 : decode cX4_meet 43 = .ok (.iconst 0, 1) := by decide +kernel
theorem dX4_meet_44 : decode cX4_meet 44 = .ok (.istore 4, 2) := by decide +kernel
theorem dX4_meet_46 : decode cX4_meet 46 = .ok (.iload 4, 2) := by decide +kernel
theorem dX4_meet_48 : decode cX4_meet 48 = .ok (.aload_n 0, 1) := by decide +kernel
theorem dX4_meet_49 : decode cX4_meet 49 = .ok (.getfield 56, 3) := by decide +kernel
theorem dX4_meet_52 : decode cX4_meet 52 = .ok (.if_icmp .ge 96, 3) := by decide +kernel
theorem dX4_meet_55 : decode cX4_meet 55 = .ok (.aload_n 0, 1) := by decide +kernel
theorem dX4_meet_56 : decode cX4_meet 56 = .ok (.iload_n 1, 1) := by decide +kernel
theorem dX4_meet_57 : decode cX4_meet 57 = .ok (.iload 4, 2) := by decide +kernel
theorem dX4_meet_59 : decode cX4_meet 59 = .ok (.invokevirtual 70, 3) := by decide +kernel
theorem dX4_meet_62 : decode cX4_meet 62 = .ok (.istore 5, 2) := by decide +kernel
theorem dX4_meet_64 : decode cX4_meet 64 = .ok (.aload_n 0, 1) := by decide +kernel
theorem dX4_meet_65 : decode cX4_meet 65 = .ok (.iload_n 2, 1) := by decide +kernel
theorem dX4_meet_66 : decode cX4_meet 66 = .ok (.iload 4, 2) := by decide +kernel
theorem dX4_meet_68 : decode cX4_meet 68 = .ok (.invokevirtual 70, 3) := by decide +kernel
theorem dX4_meet_71 : decode cX4_meet 71 = .ok (.istore 6, 2) := by decide +kernel
theorem dX4_meet_73 : decode cX4_meet 73 = .ok (.iload_n 3, 1) := by decide +kernel
theorem dX4_meet_74 : decode cX4_meet 74 = .ok (.iload 5, 2) := by decide +kernel
theorem dX4_meet_76 : decode cX4_meet 76 = .ok (.iload 6, 2) := by decide +kernel
theorem dX4_meet_78 : decode cX4_meet 78 = .ok (.if_icmp .eq 7, 3) := by decide +kernel
theorem dX4_meet_81 : decode cX4_meet 81 = .ok (.iconst 1, 1) := by decide +kernel
theorem dX4_meet_82 : decode cX4_meet 82 = .ok (.goto 4, 3) := by decide +kernel
theorem dX4_meet_85 : decode cX4_meet 85 = .ok (.iconst 0, 1) := by decide +kernel
theorem dX4_meet_86 : decode cX4_meet 86 = .ok (.iadd, 1) := by decide +kernel
theorem dX4_meet_87 : decode cX4_meet 87 = .ok (.istore_n 3, 1) := by decide +kernel
theorem dX4_meet_88 : decode cX4_meet 88 = .ok (.aload_n 0, 1) := by decide +kernel
theorem dX4_meet_89 : decode cX4_meet 89 = .ok (.getfield 34, 3) := by decide +kernel
theorem dX4_meet_92 : decode cX4_meet 92 = .ok (.bipush 6, 2) := by decide +kernel
theorem dX4_meet_94 : decode cX4_meet 94 = .ok (.iload 4, 2) := by decide +kernel
theorem dX4_meet_96 : decode cX4_meet 96 = .ok (.imul, 1) := by decide +kernel
theorem dX4_meet_97 : decode cX4_meet 97 = .ok (.iload_n 1, 1) := by decide +kernel
theorem dX4_meet_98 : decode cX4_meet 98 = .ok (.iadd, 1) := by decide +kernel
theorem dX4_meet_99 : decode cX4_meet 99 = .ok (.iload 5, 2) := by decide +kernel
theorem dX4_meet_101 : decode cX4_meet 101 = .ok (.ifCond .ne 8, 3) := by decide +kernel
theorem dX4_meet_104 : decode cX4_meet 104 = .ok (.iload 6, 2) := by decide +kernel
theorem dX4_meet_106 : decode cX4_meet 106 = .ok (.ifCond .eq 7, 3) := by decide +kernel
theorem dX4_meet_109 : decode cX4_meet 109 = .ok (.iconst 1, 1) := by decide +kernel
theorem dX4_meet_110 : decode cX4_meet 110 = .ok (.goto 4, 3) := by decide +kernel
theorem dX4_meet_113 : decode cX4_meet 113 = .ok (.iconst 0, 1) := by decide +kernel
theorem dX4_meet_114 : decode cX4_meet 114 = .ok (.bastore, 1) := by decide +kernel
theorem dX4_meet_115 : decode cX4_meet 115 = .ok (.aload_n 0, 1) := by decide +kernel
theorem dX4_meet_116 : decode cX4_meet 116 = .ok (.getfield 34, 3) := by decide +kernel
theorem dX4_meet_119 : decode cX4_meet 119 = .ok (.bipush 6, 2) := by decide +kernel
theorem dX4_meet_121 : decode cX4_meet 121 = .ok (.iload 4, 2) := by decide +kernel
theorem dX4_meet_123 : decode cX4_meet 123 = .ok (.imul, 1) := by decide +kernel
theorem dX4_meet_124 : decode cX4_meet 124 = .ok (.iload_n 2, 1) := by decide +kernel
theorem dX4_meet_125 : decode cX4_meet 125 = .ok (.iadd, 1) := by decide +kernel
theorem dX4_meet_126 : decode cX4_meet 126 = .ok (.iload 5, 2) := by decide +kernel
theorem dX4_meet_128 : decode cX4_meet 128 = .ok (.ifCond .ne 8, 3) := by decide +kernel
theorem dX4_meet_131 : decode cX4_meet 131 = .ok (.iload 6, 2) := by decide +kernel
theorem dX4_meet_133 : decode cX4_meet 133 = .ok (.ifCond .eq 7, 3) := by decide +kernel
theorem dX4_meet_136 : decode cX4_meet 136 = .ok (.iconst 1, 1) := by decide +kernel
theorem dX4_meet_137 : decode cX4_meet 137 = .ok (.goto 4, 3) := by decide +kernel
theorem dX4_meet_140 : decode cX4_meet 140 = .ok (.iconst 0, 1) := by decide +kernel
theorem dX4_meet_141 : decode cX4_meet 141 = .ok (.bastore, 1) := by decide +kernel
theorem dX4_meet_142 : decode cX4_meet 142 = .ok (.iinc 4 1, 3) := by decide +kernel
theorem dX4_meet_145 : decode cX4_meet 145 = .ok (.goto (-99), 3) := by decide +kernel
theorem dX4_meet_148 : decode cX4_meet 148 = .ok (.aload_n 0, 1) := by decide +kernel
theorem dX4_meet_149 : decode cX4_meet 149 = .ok (.getfield 38, 3) := by decide +kernel
theorem dX4_meet_152 : decode cX4_meet 152 = .ok (.iload_n 1, 1) := by decide +kernel
theorem dX4_meet_153 : decode cX4_meet 153 = .ok (.iaload, 1) := by decide +kernel
theorem dX4_meet_154 : decode cX4_meet 154 = .ok (.aload_n 0, 1) := by decide +kernel
theorem dX4_meet_155 : decode cX4_meet 155 = .ok (.getfield 38, 3) := by decide +kernel
theorem dX4_meet_158 : decode cX4_meet 158 = .ok (.iload_n 2, 1) := by decide +kernel
theorem dX4_meet_159 : decode cX4_meet 159 = .ok (.iaload, 1) := by decide +kernel
theorem dX4_meet_160 : decode cX4_meet 160 = .ok (.if_icmp .le 12, 3) := by decide +kernel
theorem dX4_meet_163 : decode cX4_meet 163 = .ok (.aload_n 0, 1) := by decide +kernel
theorem dX4_meet_164 : decode cX4_meet 164 = .ok (.getfield 38, 3) := by decide +kernel
theorem dX4_meet_167 : decode cX4_meet 167 = .ok (.iload_n 1, 1) := by decide +kernel
theorem dX4_meet_168 : decode cX4_meet 168 = .ok (.iaload, 1) := by decide +kernel
theorem dX4_meet_169 : decode cX4_meet 169 = .ok (.goto 9, 3) := by decide +kernel
theorem dX4_meet_172 : decode cX4_meet 172 = .ok (.aload_n 0, 1) := by decide +kernel
theorem dX4_meet_173 : decode cX4_meet 173 = .ok (.getfield 38, 3) := by decide +kernel
theorem dX4_meet_176 : decode cX4_meet 176 = .ok (.iload_n 2, 1) := by decide +kernel
theorem dX4_meet_177 : decode cX4_meet 177 = .ok (.iaload, 1) := by decide +kernel
theorem dX4_meet_178 : decode cX4_meet 178 = .ok (.istore 4, 2) := by decide +kernel
theorem dX4_meet_180 : decode cX4_meet 180 = .ok (.aload_n 0, 1) := by decide +kernel
theorem dX4_meet_181 : decode cX4_meet 181 = .ok (.getfield 38, 3) := by decide +kernel
theorem dX4_meet_184 : decode cX4_meet 184 = .ok (.iload_n 1, 1) := by decide +kernel
theorem dX4_meet_185 : decode cX4_meet 185 = .ok (.iload 4, 2) := by decide +kernel
theorem dX4_meet_187 : decode cX4_meet 187 = .ok (.iastore, 1) := by decide +kernel
theorem dX4_meet_188 : decode cX4_meet 188 = .ok (.aload_n 0, 1) := by decide +kernel
theorem dX4_meet_189 : decode cX4_meet 189 = .ok (.getfield 38, 3) := by decide +kernel
theorem dX4_meet_192 : decode cX4_meet 192 = .ok (.iload_n 2, 1) := by decide +kernel
theorem dX4_meet_193 : decode cX4_meet 193 = .ok (.iload 4, 2) := by decide +kernel
theorem dX4_meet_195 : decode cX4_meet 195 = .ok (.iastore, 1) := by decide +kernel
theorem dX4_meet_196 : decode cX4_meet 196 = .ok (.iload_n 3, 1) := by decide +kernel
theorem dX4_meet_197 : decode cX4_meet 197 = .ok (.ireturn, 1) := by decide +kernel
theorem dX4_words_0 : decode cX4_words 0 = .ok (.aload_n 0, 1) := by decide +kernel
theorem dX4_words_1 : decode cX4_words 1 = .ok (.iconst 0, 1) := by decide +kernel
theorem dX4_words_2 : decode cX4_words 2 = .ok (.putfield 60, 3) := by decide +kernel
theorem dX4_words_5 : decode cX4_words 5 = .ok (.aload_n 0, 1) := by decide +kernel
theorem dX4_words_6 : decode cX4_words 6 = .ok (.getfield 56, 3) := by decide +kernel
theorem dX4_words_9 : decode cX4_words 9 = .ok (.ireturn, 1) := by decide +kernel
set_option maxRecDepth 20000 in
theorem ggX4_known_X4_isFridge : GoodIn wsX4_known wsX4_isFridge := goodIn_r _ [6, 7, 8, 5, 9] (by decide +kernel) (by decide +kernel)
set_option maxRecDepth 20000 in
theorem gX4_known_X4_isFridge : GoodIn wsX4_known (va_wsS RX4 84 yX4_isFridge wsX4_isFridge) := goodIn_app (goodIn_of _ (by decide +kernel)) ggX4_known_X4_isFridge
set_option maxRecDepth 20000 in
theorem ggX4_known_X4_knows : GoodIn wsX4_known wsX4_knows := goodIn_r _ [13, 14, 15, 16, 17, 18, 19, 20, 21, 22, 23, 24, 25, 26, 27, 28, 29, 30, 31, 32, 33] (by decide +kernel) (by decide +kernel)
set_option maxRecDepth 20000 in
theorem gX4_known_X4_knows : GoodIn wsX4_known (wsV RX4 70 RX4 yX4_knows wsX4_knows) := goodIn_app (goodIn_of _ (by decide +kernel)) ggX4_known_X4_knows
theorem dX4_known_0 : decode cX4_known 0 = .ok (.aload_n 0, 1) := by decide +kernel
theorem dX4_known_1 : decode cX4_known 1 = .ok (.iload_n 1, 1) := by decide +kernel
theorem dX4_known_2 : decode cX4_known 2 = .ok (.invokestatic 84, 3) := by decide +kernel
theorem dX4_known_5 : decode cX4_known 5 = .ok (.ifCond .eq 7, 3) := by decide +kernel
theorem dX4_known_8 : decode cX4_known 8 = .ok (.iconst 0, 1) := by decide +kernel
theorem dX4_known_9 : decode cX4_known 9 = .ok (.goto 4, 3) := by decide +kernel
theorem dX4_known_12 : decode cX4_known 12 = .ok (.iconst 1, 1) := by decide +kernel
theorem dX4_known_13 : decode cX4_known 13 = .ok (.putfield 60, 3) := by decide +kernel
theorem dX4_known_16 : decode cX4_known 16 = .ok (.iconst 0, 1) := by decide +kernel
theorem dX4_known_17 : decode cX4_known 17 = .ok (.istore_n 2, 1) := by decide +kernel
theorem dX4_known_18 : decode cX4_known 18 = .ok (.iconst 0, 1) := by decide +kernel
theorem dX4_known_19 : decode cX4_known 19 = .ok (.istore_n 3, 1) := by decide +kernel
theorem dX4_known_20 : decode cX4_known 20 = .ok (.iload_n 3, 1) := by decide +kernel
theorem dX4_known_21 : decode cX4_known 21 = .ok (.aload_n 0, 1) := by decide +kernel
theorem dX4_known_22 : decode cX4_known 22 = .ok (.getfield 56, 3) := by decide +kernel
theorem dX4_known_25 : decode cX4_known 25 = .ok (.if_icmp .ge 33, 3) := by decide +kernel
theorem dX4_known_28 : decode cX4_known 28 = .ok (.aload_n 0, 1) := by decide +kernel
theorem dX4_known_29 : decode cX4_known 29 = .ok (.getfield 60, 3) := by decide +kernel
theorem dX4_known_32 : decode cX4_known 32 = .ok (.ifCond .ne 26, 3) := by decide +kernel
theorem dX4_known_35 : decode cX4_known 35 = .ok (.iload_n 2, 1) := by decide +kernel
theorem dX4_known_36 : decode cX4_known 36 = .ok (.aload_n 0, 1) := by decide +kernel
theorem dX4_known_37 : decode cX4_known 37 = .ok (.iload_n 1, 1) := by decide +kernel
theorem dX4_known_38 : decode cX4_known 38 = .ok (.iload_n 3, 1) := by decide +kernel
theorem dX4_known_39 : decode cX4_known 39 = .ok (.invokevirtual 70, 3) := by decide +kernel
theorem dX4_known_42 : decode cX4_known 42 = .ok (.ifCond .eq 7, 3) := by decide +kernel
theorem dX4_known_45 : decode cX4_known 45 = .ok (.iconst 1, 1) := by decide +kernel
theorem dX4_known_46 : decode cX4_known 46 = .ok (.goto 4, 3) := by decide +kernel
theorem dX4_known_49 : decode cX4_known 49 = .ok (.iconst 0, 1) := by decide +kernel
theorem dX4_known_50 : decode cX4_known 50 = .ok (.iadd, 1) := by decide +kernel
theorem dX4_known_51 : decode cX4_known 51 = .ok (.istore_n 2, 1) := by decide +kernel
theorem dX4_known_52 : decode cX4_known 52 = .ok (.iinc 3 1, 3) := by decide +kernel
theorem dX4_known_55 : decode cX4_known 55 = .ok (.goto (-35), 3) := by decide +kernel
theorem dX4_known_58 : decode cX4_known 58 = .ok (.iload_n 2, 1) := by decide +kernel
theorem dX4_known_59 : decode cX4_known 59 = .ok (.ireturn, 1) := by decide +kernel
set_option maxRecDepth 20000 in
theorem ggX4_clock_X4_isFridge : GoodIn wsX4_clock wsX4_isFridge := goodIn_r _ [6, 7, 8, 5, 9] (by decide +kernel) (by decide +kernel)
set_option maxRecDepth 20000 in
theorem gX4_clock_X4_isFridge : GoodIn wsX4_clock (va_wsS RX4 84 yX4_isFridge wsX4_isFridge) := goodIn_app (goodIn_of _ (by decide +kernel)) ggX4_clock_X4_isFridge
theorem dX4_clock_0 : decode cX4_clock 0 = .ok (.aload_n 0, 1) := by decide +kernel
theorem dX4_clock_1 : decode cX4_clock 1 = .ok (.iload_n 1, 1) := by decide +kernel
theorem dX4_clock_2 : decode cX4_clock 2 = .ok (.invokestatic 84, 3) := by decide +kernel
theorem dX4_clock_5 : decode cX4_clock 5 = .ok (.ifCond .eq 7, 3) := by decide +kernel
theorem dX4_clock_8 : decode cX4_clock 8 = .ok (.iconst 0, 1) := by decide +kernel
theorem dX4_clock_9 : decode cX4_clock 9 = .ok (.goto 4, 3) := by decide +kernel
theorem dX4_clock_12 : decode cX4_clock 12 = .ok (.iconst 1, 1) := by decide +kernel
theorem dX4_clock_13 : decode cX4_clock 13 = .ok (.putfield 60, 3) := by decide +kernel
theorem dX4_clock_16 : decode cX4_clock 16 = .ok (.aload_n 0, 1) := by decide +kernel
theorem dX4_clock_17 : decode cX4_clock 17 = .ok (.getfield 60, 3) := by decide +kernel
theorem dX4_clock_20 : decode cX4_clock 20 = .ok (.ifCond .ne 12, 3) := by decide +kernel
theorem dX4_clock_23 : decode cX4_clock 23 = .ok (.aload_n 0, 1) := by decide +kernel
theorem dX4_clock_24 : decode cX4_clock 24 = .ok (.getfield 38, 3) := by decide +kernel
theorem dX4_clock_27 : decode cX4_clock 27 = .ok (.iload_n 1, 1) := by decide +kernel
theorem dX4_clock_28 : decode cX4_clock 28 = .ok (.iaload, 1) := by decide +kernel
theorem dX4_clock_29 : decode cX4_clock 29 = .ok (.goto 4, 3) := by decide +kernel
theorem dX4_clock_32 : decode cX4_clock 32 = .ok (.iconst 0, 1) := by decide +kernel
theorem dX4_clock_33 : decode cX4_clock 33 = .ok (.ireturn, 1) := by decide +kernel
set_option maxRecDepth 20000 in
theorem ggX4_guest_X4_isFridge : GoodIn wsX4_guest wsX4_isFridge := goodIn_r _ [9, 10, 11, 8, 12] (by decide +kernel) (by decide +kernel)
set_option maxRecDepth 20000 in
theorem gX4_guest_X4_isFridge : GoodIn wsX4_guest (va_wsS RX4 84 yX4_isFridge wsX4_isFridge) := goodIn_app (goodIn_of _ (by decide +kernel)) ggX4_guest_X4_isFridge
set_option maxRecDepth 20000 in
theorem ggX4_guest_X4_in : GoodIn wsX4_guest wsX4_in := goodIn_r _ [12] (by decide +kernel) (by decide +kernel)
set_option maxRecDepth 20000 in
theorem gX4_guest_X4_in : GoodIn wsX4_guest (va_wsS RX4 63 yX4_in wsX4_in) := goodIn_app (goodIn_of _ (by decide +kernel)) ggX4_guest_X4_in
set_option maxRecDepth 20000 in
theorem ggX4_guest_X4_isFull : GoodIn wsX4_guest wsX4_isFull := goodIn_r _ [16, 3, 28, 29, 30, 31, 32, 33, 34, 35, 36, 37, 38, 39, 40, 41, 42, 43, 44, 45, 46] (by decide +kernel) (by decide +kernel)
set_option maxRecDepth 20000 in
theorem gX4_guest_X4_isFull : GoodIn wsX4_guest (wsV RX4 98 RX4 yX4_isFull wsX4_isFull) := goodIn_app (goodIn_of _ (by decide +kernel)) ggX4_guest_X4_isFull
set_option maxRecDepth 20000 in
theorem ggX4_guest_X4_write : GoodIn wsX4_guest wsX4_write := goodIn_r _ [20, 21, 22, 3, 23, 24, 25, 26, 27, 28, 29, 30, 31, 32, 33, 34, 35, 36, 37, 38, 39, 40, 41, 42, 43, 44, 45, 46] (by decide +kernel) (by decide +kernel)
set_option maxRecDepth 20000 in
theorem gX4_guest_X4_write : GoodIn wsX4_guest (wsV RX4 101 RX4 yX4_write wsX4_write) := goodIn_app (goodIn_of _ (by decide +kernel)) ggX4_guest_X4_write
theorem dX4_guest_0 : decode cX4_guest 0 = .ok (.aload_n 0, 1) := by decide +kernel
theorem dX4_guest_1 : decode cX4_guest 1 = .ok (.iload_n 1, 1) := by decide +kernel
theorem dX4_guest_2 : decode cX4_guest 2 = .ok (.invokestatic 84, 3) := by decide +kernel
theorem dX4_guest_5 : decode cX4_guest 5 = .ok (.ifCond .eq 13, 3) := by decide +kernel
theorem dX4_guest_8 : decode cX4_guest 8 = .ok (.iload_n 2, 1) := by decide +kernel
theorem dX4_guest_9 : decode cX4_guest 9 = .ok (.iconst 0, 1) := by decide +kernel
theorem dX4_guest_10 : decode cX4_guest 10 = .ok (.bipush 7, 2) := by decide +kernel
theorem dX4_guest_12 : decode cX4_guest 12 = .ok (.invokestatic 63, 3) := by decide +kernel
theorem dX4_guest_15 : decode cX4_guest 15 = .ok (.ifCond .ne 7, 3) := by decide +kernel
theorem dX4_guest_18 : decode cX4_guest 18 = .ok (.iconst 1, 1) := by decide +kernel
theorem dX4_guest_19 : decode cX4_guest 19 = .ok (.goto 53, 3) := by decide +kernel
theorem dX4_guest_22 : decode cX4_guest 22 = .ok (.iload_n 3, 1) := by decide +kernel
theorem dX4_guest_23 : decode cX4_guest 23 = .ok (.iconst 0, 1) := by decide +kernel
theorem dX4_guest_24 : decode cX4_guest 24 = .ok (.bipush 99, 2) := by decide +kernel
theorem dX4_guest_26 : decode cX4_guest 26 = .ok (.invokestatic 63, 3) := by decide +kernel
theorem dX4_guest_29 : decode cX4_guest 29 = .ok (.ifCond .eq 26, 3) := by decide +kernel
theorem dX4_guest_32 : decode cX4_guest 32 = .ok (.iload 4, 2) := by decide +kernel
theorem dX4_guest_34 : decode cX4_guest 34 = .ok (.iload_n 3, 1) := by decide +kernel
theorem dX4_guest_35 : decode cX4_guest 35 = .ok (.bipush 99, 2) := by decide +kernel
theorem dX4_guest_37 : decode cX4_guest 37 = .ok (.invokestatic 63, 3) := by decide +kernel
theorem dX4_guest_40 : decode cX4_guest 40 = .ok (.ifCond .eq 15, 3) := by decide +kernel
theorem dX4_guest_43 : decode cX4_guest 43 = .ok (.iload 5, 2) := by decide +kernel
theorem dX4_guest_45 : decode cX4_guest 45 = .ok (.iconst 0, 1) := by decide +kernel
theorem dX4_guest_46 : decode cX4_guest 46 = .ok (.sipush 255, 3) := by decide +kernel
theorem dX4_guest_49 : decode cX4_guest 49 = .ok (.invokestatic 63, 3) := by decide +kernel
theorem dX4_guest_52 : decode cX4_guest 52 = .ok (.ifCond .ne 7, 3) := by decide +kernel
theorem dX4_guest_55 : decode cX4_guest 55 = .ok (.iconst 2, 1) := by decide +kernel
theorem dX4_guest_56 : decode cX4_guest 56 = .ok (.goto 16, 3) := by decide +kernel
theorem dX4_guest_59 : decode cX4_guest 59 = .ok (.aload_n 0, 1) := by decide +kernel
theorem dX4_guest_60 : decode cX4_guest 60 = .ok (.iconst 1, 1) := by decide +kernel
theorem dX4_guest_61 : decode cX4_guest 61 = .ok (.invokevirtual 98, 3) := by decide +kernel
theorem dX4_guest_64 : decode cX4_guest 64 = .ok (.ifCond .eq 7, 3) := by decide +kernel
theorem dX4_guest_67 : decode cX4_guest 67 = .ok (.iconst 3, 1) := by decide +kernel
theorem dX4_guest_68 : decode cX4_guest 68 = .ok (.goto 4, 3) := by decide +kernel
theorem dX4_guest_71 : decode cX4_guest 71 = .ok (.iconst 0, 1) := by decide +kernel
theorem dX4_guest_72 : decode cX4_guest 72 = .ok (.putfield 60, 3) := by decide +kernel
theorem dX4_guest_75 : decode cX4_guest 75 = .ok (.aload_n 0, 1) := by decide +kernel
theorem dX4_guest_76 : decode cX4_guest 76 = .ok (.getfield 60, 3) := by decide +kernel
theorem dX4_guest_79 : decode cX4_guest 79 = .ok (.ifCond .le 5, 3) := by decide +kernel
theorem dX4_guest_82 : decode cX4_guest 82 = .ok (.iconst 0, 1) := by decide +kernel
theorem dX4_guest_83 : decode cX4_guest 83 = .ok (.ireturn, 1) := by decide +kernel
theorem dX4_guest_84 : decode cX4_guest 84 = .ok (.aload_n 0, 1) := by decide +kernel
theorem dX4_guest_85 : decode cX4_guest 85 = .ok (.getfield 25, 3) := by decide +kernel
theorem dX4_guest_88 : decode cX4_guest 88 = .ok (.aload_n 0, 1) := by decide +kernel
theorem dX4_guest_89 : decode cX4_guest 89 = .ok (.getfield 56, 3) := by decide +kernel
theorem dX4_guest_92 : decode cX4_guest 92 = .ok (.iload_n 3, 1) := by decide +kernel
theorem dX4_guest_93 : decode cX4_guest 93 = .ok (.iastore, 1) := by decide +kernel
theorem dX4_guest_94 : decode cX4_guest 94 = .ok (.aload_n 0, 1) := by decide +kernel
theorem dX4_guest_95 : decode cX4_guest 95 = .ok (.getfield 28, 3) := by decide +kernel
theorem dX4_guest_98 : decode cX4_guest 98 = .ok (.aload_n 0, 1) := by decide +kernel
theorem dX4_guest_99 : decode cX4_guest 99 = .ok (.getfield 56, 3) := by decide +kernel
theorem dX4_guest_102 : decode cX4_guest 102 = .ok (.iload 4, 2) := by decide +kernel
theorem dX4_guest_104 : decode cX4_guest 104 = .ok (.iastore, 1) := by decide +kernel
theorem dX4_guest_105 : decode cX4_guest 105 = .ok (.aload_n 0, 1) := by decide +kernel
theorem dX4_guest_106 : decode cX4_guest 106 = .ok (.getfield 31, 3) := by decide +kernel
theorem dX4_guest_109 : decode cX4_guest 109 = .ok (.aload_n 0, 1) := by decide +kernel
theorem dX4_guest_110 : decode cX4_guest 110 = .ok (.getfield 56, 3) := by decide +kernel
theorem dX4_guest_113 : decode cX4_guest 113 = .ok (.iload 5, 2) := by decide +kernel
theorem dX4_guest_115 : decode cX4_guest 115 = .ok (.iastore, 1) := by decide +kernel
theorem dX4_guest_116 : decode cX4_guest 116 = .ok (.aload_n 0, 1) := by decide +kernel
theorem dX4_guest_117 : decode cX4_guest 117 = .ok (.iload_n 1, 1) := by decide +kernel
theorem dX4_guest_118 : decode cX4_guest 118 = .ok (.iconst 2, 1) := by decide +kernel
theorem dX4_guest_119 : decode cX4_guest 119 = .ok (.iload_n 2, 1) := by decide +kernel
theorem dX4_guest_120 : decode cX4_guest 120 = .ok (.iconst (-1), 1) := by decide +kernel
theorem dX4_guest_121 : decode cX4_guest 121 = .ok (.invokevirtual 101, 3) := by decide +kernel
theorem dX4_guest_124 : decode cX4_guest 124 = .ok (.ireturn, 1) := by decide +kernel
set_option maxRecDepth 20000 in
theorem ggX4_coming_X4_knows : GoodIn wsX4_coming wsX4_knows := goodIn_r _ [10, 11, 21, 22, 23, 24, 25, 26, 27, 28, 29, 30, 31, 32, 33, 34, 35, 36, 37, 38, 39] (by decide +kernel) (by decide +kernel)
set_option maxRecDepth 20000 in
theorem gX4_coming_X4_knows : GoodIn wsX4_coming (wsV RX4 70 RX4 yX4_knows wsX4_knows) := goodIn_app (goodIn_of _ (by decide +kernel)) ggX4_coming_X4_knows
set_option maxRecDepth 20000 in
theorem ggX4_coming_X4_isLater : GoodIn wsX4_coming wsX4_isLater := goodIn_r _ [15, 16, 17, 21, 22, 23, 24, 25, 26, 27, 28, 29, 30, 31, 32, 33, 34, 35, 36, 37, 38, 39] (by decide +kernel) (by decide +kernel)
set_option maxRecDepth 20000 in
theorem gX4_coming_X4_isLater : GoodIn wsX4_coming (wsV RX4 77 RX4 yX4_isLater wsX4_isLater) := goodIn_app (goodIn_of _ (by decide +kernel)) ggX4_coming_X4_isLater
set_option maxRecDepth 20000 in
theorem ggX4_coming_X4_in : GoodIn wsX4_coming wsX4_in := goodIn_r _ [20] (by decide +kernel) (by decide +kernel)
set_option maxRecDepth 20000 in
theorem gX4_coming_X4_in : GoodIn wsX4_coming (va_wsS RX4 63 yX4_in wsX4_in) := goodIn_app (goodIn_of _ (by decide +kernel)) ggX4_coming_X4_in
theorem dX4_coming_0 : decode cX4_coming 0 = .ok (.iconst (-1), 1) := by decide +kernel
theorem dX4_coming_1 : decode cX4_coming 1 = .ok (.istore 4, 2) := by decide +kernel
theorem dX4_coming_3 : decode cX4_coming 3 = .ok (.iconst 0, 1) := by decide +kernel
theorem dX4_coming_4 : decode cX4_coming 4 = .ok (.istore 5, 2) := by decide +kernel
theorem dX4_coming_6 : decode cX4_coming 6 = .ok (.iload 5, 2) := by decide +kernel
theorem dX4_coming_8 : decode cX4_coming 8 = .ok (.aload_n 0, 1) := by decide +kernel
theorem dX4_coming_9 : decode cX4_coming 9 = .ok (.getfield 56, 3) := by decide +kernel
theorem dX4_coming_12 : decode cX4_coming 12 = .ok (.if_icmp .ge 79, 3) := by decide +kernel
theorem dX4_coming_15 : decode cX4_coming 15 = .ok (.aload_n 0, 1) := by decide +kernel
theorem dX4_coming_16 : decode cX4_coming 16 = .ok (.iload_n 1, 1) := by decide +kernel
theorem dX4_coming_17 : decode cX4_coming 17 = .ok (.iload 5, 2) := by decide +kernel
theorem dX4_coming_19 : decode cX4_coming 19 = .ok (.invokevirtual 70, 3) := by decide +kernel
theorem dX4_coming_22 : decode cX4_coming 22 = .ok (.ifCond .eq 29, 3) := by decide +kernel
theorem dX4_coming_25 : decode cX4_coming 25 = .ok (.aload_n 0, 1) := by decide +kernel
theorem dX4_coming_26 : decode cX4_coming 26 = .ok (.getfield 7, 3) := by decide +kernel
theorem dX4_coming_29 : decode cX4_coming 29 = .ok (.iload 5, 2) := by decide +kernel
theorem dX4_coming_31 : decode cX4_coming 31 = .ok (.iaload, 1) := by decide +kernel
theorem dX4_coming_32 : decode cX4_coming 32 = .ok (.iconst 2, 1) := by decide +kernel
theorem dX4_coming_33 : decode cX4_coming 33 = .ok (.if_icmp .ne 18, 3) := by decide +kernel
theorem dX4_coming_36 : decode cX4_coming 36 = .ok (.aload_n 0, 1) := by decide +kernel
theorem dX4_coming_37 : decode cX4_coming 37 = .ok (.getfield 19, 3) := by decide +kernel
theorem dX4_coming_40 : decode cX4_coming 40 = .ok (.iload 5, 2) := by decide +kernel
theorem dX4_coming_42 : decode cX4_coming 42 = .ok (.iaload, 1) := by decide +kernel
theorem dX4_coming_43 : decode cX4_coming 43 = .ok (.iload_n 2, 1) := by decide +kernel
theorem dX4_coming_44 : decode cX4_coming 44 = .ok (.if_icmp .ne 7, 3) := by decide +kernel
theorem dX4_coming_47 : decode cX4_coming 47 = .ok (.iconst 1, 1) := by decide +kernel
theorem dX4_coming_48 : decode cX4_coming 48 = .ok (.goto 4, 3) := by decide +kernel
theorem dX4_coming_51 : decode cX4_coming 51 = .ok (.iconst 0, 1) := by decide +kernel
theorem dX4_coming_52 : decode cX4_coming 52 = .ok (.istore 6, 2) := by decide +kernel
theorem dX4_coming_54 : decode cX4_coming 54 = .ok (.iload 6, 2) := by decide +kernel
theorem dX4_coming_56 : decode cX4_coming 56 = .ok (.ifCond .eq 25, 3) := by decide +kernel
theorem dX4_coming_59 : decode cX4_coming 59 = .ok (.iload 4, 2) := by decide +kernel
theorem dX4_coming_61 : decode cX4_coming 61 = .ok (.iconst (-1), 1) := by decide +kernel
theorem dX4_coming_62 : decode cX4_coming 62 = .ok (.if_icmp .eq 14, 3) := by decide +kernel
theorem dX4_coming_65 : decode cX4_coming 65 = .ok (.aload_n 0, 1) := by decide +kernel
theorem dX4_coming_66 : decode cX4_coming 66 = .ok (.iload 5, 2) := by decide +kernel
theorem dX4_coming_68 : decode cX4_coming 68 = .ok (.iload 4, 2) := by decide +kernel
theorem dX4_coming_70 : decode cX4_coming 70 = .ok (.invokevirtual 77, 3) := by decide +kernel
theorem dX4_coming_73 : decode cX4_coming 73 = .ok (.ifCond .eq 8, 3) := by decide +kernel
theorem dX4_coming_76 : decode cX4_coming 76 = .ok (.iload 5, 2) := by decide +kernel
theorem dX4_coming_78 : decode cX4_coming 78 = .ok (.goto 5, 3) := by decide +kernel
theorem dX4_coming_81 : decode cX4_coming 81 = .ok (.iload 4, 2) := by decide +kernel
theorem dX4_coming_83 : decode cX4_coming 83 = .ok (.istore 4, 2) := by decide +kernel
theorem dX4_coming_85 : decode cX4_coming 85 = .ok (.iinc 5 1, 3) := by decide +kernel
theorem dX4_coming_88 : decode cX4_coming 88 = .ok (.goto (-82), 3) := by decide +kernel
theorem dX4_coming_91 : decode cX4_coming 91 = .ok (.iload 4, 2) := by decide +kernel
theorem dX4_coming_93 : decode cX4_coming 93 = .ok (.iconst (-1), 1) := by decide +kernel
theorem dX4_coming_94 : decode cX4_coming 94 = .ok (.if_icmp .eq 29, 3) := by decide +kernel
theorem dX4_coming_97 : decode cX4_coming 97 = .ok (.iload_n 3, 1) := by decide +kernel
theorem dX4_coming_98 : decode cX4_coming 98 = .ok (.aload_n 0, 1) := by decide +kernel
theorem dX4_coming_99 : decode cX4_coming 99 = .ok (.getfield 25, 3) := by decide +kernel
theorem dX4_coming_102 : decode cX4_coming 102 = .ok (.iload 4, 2) := by decide +kernel
theorem dX4_coming_104 : decode cX4_coming 104 = .ok (.iaload, 1) := by decide +kernel
theorem dX4_coming_105 : decode cX4_coming 105 = .ok (.aload_n 0, 1) := by decide +kernel
theorem dX4_coming_106 : decode cX4_coming 106 = .ok (.getfield 28, 3) := by decide +kernel
theorem dX4_coming_109 : decode cX4_coming 109 = .ok (.iload 4, 2) := by decide +kernel
theorem dX4_coming_111 : decode cX4_coming 111 = .ok (.iaload, 1) := by decide +kernel
theorem dX4_coming_112 : decode cX4_coming 112 = .ok (.invokestatic 63, 3) := by decide +kernel
theorem dX4_coming_115 : decode cX4_coming 115 = .ok (.ifCond .eq 8, 3) := by decide +kernel
theorem dX4_coming_118 : decode cX4_coming 118 = .ok (.iload 4, 2) := by decide +kernel
theorem dX4_coming_120 : decode cX4_coming 120 = .ok (.goto 4, 3) := by decide +kernel
theorem dX4_coming_123 : decode cX4_coming 123 = .ok (.iconst (-1), 1) := by decide +kernel
theorem dX4_coming_124 : decode cX4_coming 124 = .ok (.ireturn, 1) := by decide +kernel
set_option maxRecDepth 20000 in
theorem ggX4_guests_X4_isFridge : GoodIn wsX4_guests wsX4_isFridge := goodIn_r _ [5, 6, 7, 4, 8] (by decide +kernel) (by decide +kernel)
set_option maxRecDepth 20000 in
theorem gX4_guests_X4_isFridge : GoodIn wsX4_guests (va_wsS RX4 84 yX4_isFridge wsX4_isFridge) := goodIn_app (goodIn_of _ (by decide +kernel)) ggX4_guests_X4_isFridge
set_option maxRecDepth 20000 in
theorem ggX4_guests_X4_in : GoodIn wsX4_guests wsX4_in := goodIn_r _ [8] (by decide +kernel) (by decide +kernel)
set_option maxRecDepth 20000 in
theorem gX4_guests_X4_in : GoodIn wsX4_guests (va_wsS RX4 63 yX4_in wsX4_in) := goodIn_app (goodIn_of _ (by decide +kernel)) ggX4_guests_X4_in
set_option maxRecDepth 20000 in
theorem ggX4_guests_X4_coming : GoodIn wsX4_guests wsX4_coming := goodIn_r _ [12, 13, 14, 15, 16, 17, 18, 19, 20, 4, 21, 22, 23, 24, 25, 26, 27, 28, 6, 7, 8, 29, 30, 31, 32, 33, 34, 35, 36, 37, 38, 39, 40, 41, 42, 43, 44, 45, 46, 47] (by decide +kernel) (by decide +kernel)
set_option maxRecDepth 20000 in
theorem gX4_guests_X4_coming : GoodIn wsX4_guests (wsV RX4 111 RX4 yX4_coming wsX4_coming) := goodIn_app (goodIn_of _ (by decide +kernel)) ggX4_guests_X4_coming
theorem dX4_guests_0 : decode cX4_guests 0 = .ok (.aload_n 0, 1) := by decide +kernel
theorem dX4_guests_1 : decode cX4_guests 1 = .ok (.iload_n 1, 1) := by decide +kernel
theorem dX4_guests_2 : decode cX4_guests 2 = .ok (.invokestatic 84, 3) := by decide +kernel
theorem dX4_guests_5 : decode cX4_guests 5 = .ok (.ifCond .ne 7, 3) := by decide +kernel
theorem dX4_guests_8 : decode cX4_guests 8 = .ok (.iconst 1, 1) := by decide +kernel
theorem dX4_guests_9 : decode cX4_guests 9 = .ok (.goto 18, 3) := by decide +kernel
theorem dX4_guests_12 : decode cX4_guests 12 = .ok (.iload_n 2, 1) := by decide +kernel
theorem dX4_guests_13 : decode cX4_guests 13 = .ok (.iconst 0, 1) := by decide +kernel
theorem dX4_guests_14 : decode cX4_guests 14 = .ok (.bipush 99, 2) := by decide +kernel
theorem dX4_guests_16 : decode cX4_guests 16 = .ok (.invokestatic 63, 3) := by decide +kernel
theorem dX4_guests_19 : decode cX4_guests 19 = .ok (.ifCond .ne 7, 3) := by decide +kernel
theorem dX4_guests_22 : decode cX4_guests 22 = .ok (.iconst 2, 1) := by decide +kernel
theorem dX4_guests_23 : decode cX4_guests 23 = .ok (.goto 4, 3) := by decide +kernel
theorem dX4_guests_26 : decode cX4_guests 26 = .ok (.iconst 0, 1) := by decide +kernel
theorem dX4_guests_27 : decode cX4_guests 27 = .ok (.putfield 60, 3) := by decide +kernel
theorem dX4_guests_30 : decode cX4_guests 30 = .ok (.iconst 0, 1) := by decide +kernel
theorem dX4_guests_31 : decode cX4_guests 31 = .ok (.istore_n 3, 1) := by decide +kernel
theorem dX4_guests_32 : decode cX4_guests 32 = .ok (.iconst 0, 1) := by decide +kernel
theorem dX4_guests_33 : decode cX4_guests 33 = .ok (.istore 4, 2) := by decide +kernel
theorem dX4_guests_35 : decode cX4_guests 35 = .ok (.iload 4, 2) := by decide +kernel
theorem dX4_guests_37 : decode cX4_guests 37 = .ok (.bipush 8, 2) := by decide +kernel
theorem dX4_guests_39 : decode cX4_guests 39 = .ok (.if_icmp .ge 39, 3) := by decide +kernel
theorem dX4_guests_42 : decode cX4_guests 42 = .ok (.aload_n 0, 1) := by decide +kernel
theorem dX4_guests_43 : decode cX4_guests 43 = .ok (.getfield 60, 3) := by decide +kernel
theorem dX4_guests_46 : decode cX4_guests 46 = .ok (.ifCond .ne 32, 3) := by decide +kernel
theorem dX4_guests_49 : decode cX4_guests 49 = .ok (.iload_n 3, 1) := by decide +kernel
theorem dX4_guests_50 : decode cX4_guests 50 = .ok (.aload_n 0, 1) := by decide +kernel
theorem dX4_guests_51 : decode cX4_guests 51 = .ok (.iload_n 1, 1) := by decide +kernel
theorem dX4_guests_52 : decode cX4_guests 52 = .ok (.iload 4, 2) := by decide +kernel
theorem dX4_guests_54 : decode cX4_guests 54 = .ok (.iload_n 2, 1) := by decide +kernel
theorem dX4_guests_55 : decode cX4_guests 55 = .ok (.invokevirtual 111, 3) := by decide +kernel
theorem dX4_guests_58 : decode cX4_guests 58 = .ok (.iconst (-1), 1) := by decide +kernel
theorem dX4_guests_59 : decode cX4_guests 59 = .ok (.if_icmp .eq 10, 3) := by decide +kernel
theorem dX4_guests_62 : decode cX4_guests 62 = .ok (.iconst 1, 1) := by decide +kernel
theorem dX4_guests_63 : decode cX4_guests 63 = .ok (.iload 4, 2) := by decide +kernel
theorem dX4_guests_65 : decode cX4_guests 65 = .ok (.ishl, 1) := by decide +kernel
theorem dX4_guests_66 : decode cX4_guests 66 = .ok (.goto 4, 3) := by decide +kernel
theorem dX4_guests_69 : decode cX4_guests 69 = .ok (.iconst 0, 1) := by decide +kernel
theorem dX4_guests_70 : decode cX4_guests 70 = .ok (.ior, 1) := by decide +kernel
theorem dX4_guests_71 : decode cX4_guests 71 = .ok (.istore_n 3, 1) := by decide +kernel
theorem dX4_guests_72 : decode cX4_guests 72 = .ok (.iinc 4 1, 3) := by decide +kernel
theorem dX4_guests_75 : decode cX4_guests 75 = .ok (.goto (-40), 3) := by decide +kernel
theorem dX4_guests_78 : decode cX4_guests 78 = .ok (.iload_n 3, 1) := by decide +kernel
theorem dX4_guests_79 : decode cX4_guests 79 = .ok (.ireturn, 1) := by decide +kernel
set_option maxRecDepth 20000 in
theorem ggX4_guestMany_X4_coming : GoodIn wsX4_guestMany wsX4_coming := goodIn_r _ [5, 6, 7, 8, 9, 10, 11, 12, 13, 4, 14, 15, 16, 17, 18, 19, 20, 21, 22, 23, 24, 25, 26, 27, 28, 29, 30, 31, 32, 33, 34, 35, 36, 37, 38, 39, 40, 41, 42, 43] (by decide +kernel) (by decide +kernel)
set_option maxRecDepth 20000 in
theorem gX4_guestMany_X4_coming : GoodIn wsX4_guestMany (wsV RX4 111 RX4 yX4_coming wsX4_coming) := goodIn_app (goodIn_of _ (by decide +kernel)) ggX4_guestMany_X4_coming
theorem dX4_guestMany_0 : decode cX4_guestMany 0 = .ok (.iconst 0, 1) := by decide +kernel
theorem dX4_guestMany_1 : decode cX4_guestMany 1 = .ok (.istore_n 3, 1) := by decide +kernel
theorem dX4_guestMany_2 : decode cX4_guestMany 2 = .ok (.iconst 0, 1) := by decide +kernel
theorem dX4_guestMany_3 : decode cX4_guestMany 3 = .ok (.istore 4, 2) := by decide +kernel
theorem dX4_guestMany_5 : decode cX4_guestMany 5 = .ok (.iload 4, 2) := by decide +kernel
theorem dX4_guestMany_7 : decode cX4_guestMany 7 = .ok (.bipush 8, 2) := by decide +kernel
theorem dX4_guestMany_9 : decode cX4_guestMany 9 = .ok (.if_icmp .ge 29, 3) := by decide +kernel
theorem dX4_guestMany_12 : decode cX4_guestMany 12 = .ok (.iload_n 3, 1) := by decide +kernel
theorem dX4_guestMany_13 : decode cX4_guestMany 13 = .ok (.aload_n 0, 1) := by decide +kernel
theorem dX4_guestMany_14 : decode cX4_guestMany 14 = .ok (.iload_n 1, 1) := by decide +kernel
theorem dX4_guestMany_15 : decode cX4_guestMany 15 = .ok (.iload 4, 2) := by decide +kernel
theorem dX4_guestMany_17 : decode cX4_guestMany 17 = .ok (.iload_n 2, 1) := by decide +kernel
theorem dX4_guestMany_18 : decode cX4_guestMany 18 = .ok (.invokevirtual 111, 3) := by decide +kernel
theorem dX4_guestMany_21 : decode cX4_guestMany 21 = .ok (.iconst (-1), 1) := by decide +kernel
theorem dX4_guestMany_22 : decode cX4_guestMany 22 = .ok (.if_icmp .eq 7, 3) := by decide +kernel
theorem dX4_guestMany_25 : decode cX4_guestMany 25 = .ok (.iconst 1, 1) := by decide +kernel
theorem dX4_guestMany_26 : decode cX4_guestMany 26 = .ok (.goto 4, 3) := by decide +kernel
theorem dX4_guestMany_29 : decode cX4_guestMany 29 = .ok (.iconst 0, 1) := by decide +kernel
theorem dX4_guestMany_30 : decode cX4_guestMany 30 = .ok (.iadd, 1) := by decide +kernel
theorem dX4_guestMany_31 : decode cX4_guestMany 31 = .ok (.istore_n 3, 1) := by decide +kernel
theorem dX4_guestMany_32 : decode cX4_guestMany 32 = .ok (.iinc 4 1, 3) := by decide +kernel
theorem dX4_guestMany_35 : decode cX4_guestMany 35 = .ok (.goto (-30), 3) := by decide +kernel
theorem dX4_guestMany_38 : decode cX4_guestMany 38 = .ok (.iload_n 3, 1) := by decide +kernel
theorem dX4_guestMany_39 : decode cX4_guestMany 39 = .ok (.ireturn, 1) := by decide +kernel
set_option maxRecDepth 20000 in
theorem ggX4_setNeed_X4_in : GoodIn wsX4_setNeed wsX4_in := goodIn_r _ [6] (by decide +kernel) (by decide +kernel)
set_option maxRecDepth 20000 in
theorem gX4_setNeed_X4_in : GoodIn wsX4_setNeed (va_wsS RX4 63 yX4_in wsX4_in) := goodIn_app (goodIn_of _ (by decide +kernel)) ggX4_setNeed_X4_in
set_option maxRecDepth 20000 in
theorem ggX4_setNeed_X4_isFood : GoodIn wsX4_setNeed wsX4_isFood := goodIn_r _ [9, 3, 4, 5, 6] (by decide +kernel) (by decide +kernel)
set_option maxRecDepth 20000 in
theorem gX4_setNeed_X4_isFood : GoodIn wsX4_setNeed (va_wsS RX4 105 yX4_isFood wsX4_isFood) := goodIn_app (goodIn_of _ (by decide +kernel)) ggX4_setNeed_X4_isFood
theorem dX4_setNeed_0 : decode cX4_setNeed 0 = .ok (.aload_n 0, 1) := by decide +kernel
theorem dX4_setNeed_1 : decode cX4_setNeed 1 = .ok (.iload_n 1, 1) := by decide +kernel
theorem dX4_setNeed_2 : decode cX4_setNeed 2 = .ok (.iconst 0, 1) := by decide +kernel
theorem dX4_setNeed_3 : decode cX4_setNeed 3 = .ok (.iconst 5, 1) := by decide +kernel
theorem dX4_setNeed_4 : decode cX4_setNeed 4 = .ok (.invokestatic 63, 3) := by decide +kernel
theorem dX4_setNeed_7 : decode cX4_setNeed 7 = .ok (.ifCond .eq 10, 3) := by decide +kernel
theorem dX4_setNeed_10 : decode cX4_setNeed 10 = .ok (.iload_n 2, 1) := by decide +kernel
theorem dX4_setNeed_11 : decode cX4_setNeed 11 = .ok (.invokestatic 105, 3) := by decide +kernel
theorem dX4_setNeed_14 : decode cX4_setNeed 14 = .ok (.ifCond .ne 7, 3) := by decide +kernel
theorem dX4_setNeed_17 : decode cX4_setNeed 17 = .ok (.iconst 1, 1) := by decide +kernel
theorem dX4_setNeed_18 : decode cX4_setNeed 18 = .ok (.goto 17, 3) := by decide +kernel
theorem dX4_setNeed_21 : decode cX4_setNeed 21 = .ok (.iload_n 3, 1) := by decide +kernel
theorem dX4_setNeed_22 : decode cX4_setNeed 22 = .ok (.iconst 0, 1) := by decide +kernel
theorem dX4_setNeed_23 : decode cX4_setNeed 23 = .ok (.iconst 3, 1) := by decide +kernel
theorem dX4_setNeed_24 : decode cX4_setNeed 24 = .ok (.invokestatic 63, 3) := by decide +kernel
theorem dX4_setNeed_27 : decode cX4_setNeed 27 = .ok (.ifCond .ne 7, 3) := by decide +kernel
theorem dX4_setNeed_30 : decode cX4_setNeed 30 = .ok (.iconst 2, 1) := by decide +kernel
theorem dX4_setNeed_31 : decode cX4_setNeed 31 = .ok (.goto 4, 3) := by decide +kernel
theorem dX4_setNeed_34 : decode cX4_setNeed 34 = .ok (.iconst 0, 1) := by decide +kernel
theorem dX4_setNeed_35 : decode cX4_setNeed 35 = .ok (.putfield 60, 3) := by decide +kernel
theorem dX4_setNeed_38 : decode cX4_setNeed 38 = .ok (.aload_n 0, 1) := by decide +kernel
theorem dX4_setNeed_39 : decode cX4_setNeed 39 = .ok (.getfield 60, 3) := by decide +kernel
theorem dX4_setNeed_42 : decode cX4_setNeed 42 = .ok (.ifCond .le 5, 3) := by decide +kernel
theorem dX4_setNeed_45 : decode cX4_setNeed 45 = .ok (.iconst 0, 1) := by decide +kernel
theorem dX4_setNeed_46 : decode cX4_setNeed 46 = .ok (.ireturn, 1) := by decide +kernel
theorem dX4_setNeed_47 : decode cX4_setNeed 47 = .ok (.aload_n 0, 1) := by decide +kernel
theorem dX4_setNeed_48 : decode cX4_setNeed 48 = .ok (.getfield 41, 3) := by decide +kernel
theorem dX4_setNeed_51 : decode cX4_setNeed 51 = .ok (.bipush 8, 2) := by decide +kernel
theorem dX4_setNeed_53 : decode cX4_setNeed 53 = .ok (.iload_n 1, 1) := by decide +kernel
theorem dX4_setNeed_54 : decode cX4_setNeed 54 = .ok (.imul, 1) := by decide +kernel
theorem dX4_setNeed_55 : decode cX4_setNeed 55 = .ok (.iload_n 2, 1) := by decide +kernel
theorem dX4_setNeed_56 : decode cX4_setNeed 56 = .ok (.iadd, 1) := by decide +kernel
theorem dX4_setNeed_57 : decode cX4_setNeed 57 = .ok (.iaload, 1) := by decide +kernel
theorem dX4_setNeed_58 : decode cX4_setNeed 58 = .ok (.istore 4, 2) := by decide +kernel
theorem dX4_setNeed_60 : decode cX4_setNeed 60 = .ok (.aload_n 0, 1) := by decide +kernel
theorem dX4_setNeed_61 : decode cX4_setNeed 61 = .ok (.getfield 41, 3) := by decide +kernel
theorem dX4_setNeed_64 : decode cX4_setNeed 64 = .ok (.bipush 8, 2) := by decide +kernel
theorem dX4_setNeed_66 : decode cX4_setNeed 66 = .ok (.iload_n 1, 1) := by decide +kernel
theorem dX4_setNeed_67 : decode cX4_setNeed 67 = .ok (.imul, 1) := by decide +kernel
theorem dX4_setNeed_68 : decode cX4_setNeed 68 = .ok (.iload_n 2, 1) := by decide +kernel
theorem dX4_setNeed_69 : decode cX4_setNeed 69 = .ok (.iadd, 1) := by decide +kernel
theorem dX4_setNeed_70 : decode cX4_setNeed 70 = .ok (.iload_n 3, 1) := by decide +kernel
theorem dX4_setNeed_71 : decode cX4_setNeed 71 = .ok (.iastore, 1) := by decide +kernel
theorem dX4_setNeed_72 : decode cX4_setNeed 72 = .ok (.iload 4, 2) := by decide +kernel
theorem dX4_setNeed_74 : decode cX4_setNeed 74 = .ok (.ireturn, 1) := by decide +kernel
set_option maxRecDepth 20000 in
theorem ggX4_isDisliked_X4_coming : GoodIn wsX4_isDisliked wsX4_coming := goodIn_r _ [7, 8, 9, 10, 11, 12, 13, 14, 15, 6, 16, 17, 18, 19, 20, 21, 22, 23, 24, 25, 26, 27, 28, 29, 30, 31, 32, 33, 34, 35, 36, 37, 38, 39, 40, 41, 42, 43, 44, 45] (by decide +kernel) (by decide +kernel)
