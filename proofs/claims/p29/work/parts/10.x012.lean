theorem dX0_init_0 : decode cX0_init 0 = .ok (.aload_n 0, 1) := by decide +kernel
theorem dX0_init_1 : decode cX0_init 1 = .ok (.invokespecial 3, 3) := by decide +kernel
theorem dX0_init_4 : decode cX0_init 4 = .ok (.aload_n 0, 1) := by decide +kernel
theorem dX0_init_5 : decode cX0_init 5 = .ok (.bipush 40, 2) := by decide +kernel
theorem dX0_init_7 : decode cX0_init 7 = .ok (.newarray .int, 2) := by decide +kernel
theorem dX0_init_9 : decode cX0_init 9 = .ok (.putfield 9, 3) := by decide +kernel
theorem dX0_init_12 : decode cX0_init 12 = .ok (.aload_n 0, 1) := by decide +kernel
theorem dX0_init_13 : decode cX0_init 13 = .ok (.bipush 40, 2) := by decide +kernel
theorem dX0_init_15 : decode cX0_init 15 = .ok (.newarray .int, 2) := by decide +kernel
theorem dX0_init_17 : decode cX0_init 17 = .ok (.putfield 15, 3) := by decide +kernel
theorem dX0_init_20 : decode cX0_init 20 = .ok (.aload_n 0, 1) := by decide +kernel
theorem dX0_init_21 : decode cX0_init 21 = .ok (.bipush 40, 2) := by decide +kernel
theorem dX0_init_23 : decode cX0_init 23 = .ok (.newarray .int, 2) := by decide +kernel
theorem dX0_init_25 : decode cX0_init 25 = .ok (.putfield 18, 3) := by decide +kernel
theorem dX0_init_28 : decode cX0_init 28 = .ok (.aload_n 0, 1) := by decide +kernel
theorem dX0_init_29 : decode cX0_init 29 = .ok (.bipush 8, 2) := by decide +kernel
theorem dX0_init_31 : decode cX0_init 31 = .ok (.newarray .int, 2) := by decide +kernel
theorem dX0_init_33 : decode cX0_init 33 = .ok (.putfield 21, 3) := by decide +kernel
theorem dX0_init_36 : decode cX0_init 36 = .ok (.aload_n 0, 1) := by decide +kernel
theorem dX0_init_37 : decode cX0_init 37 = .ok (.bipush 8, 2) := by decide +kernel
theorem dX0_init_39 : decode cX0_init 39 = .ok (.newarray .int, 2) := by decide +kernel
theorem dX0_init_41 : decode cX0_init 41 = .ok (.putfield 24, 3) := by decide +kernel
theorem dX0_init_44 : decode cX0_init 44 = .ok (.aload_n 0, 1) := by decide +kernel
theorem dX0_init_45 : decode cX0_init 45 = .ok (.bipush 8, 2) := by decide +kernel
theorem dX0_init_47 : decode cX0_init 47 = .ok (.newarray .int, 2) := by decide +kernel
theorem dX0_init_49 : decode cX0_init 49 = .ok (.putfield 27, 3) := by decide +kernel
theorem dX0_init_52 : decode cX0_init 52 = .ok (.aload_n 0, 1) := by decide +kernel
theorem dX0_init_53 : decode cX0_init 53 = .ok (.bipush 20, 2) := by decide +kernel
theorem dX0_init_55 : decode cX0_init 55 = .ok (.newarray .int, 2) := by decide +kernel
theorem dX0_init_57 : decode cX0_init 57 = .ok (.putfield 30, 3) := by decide +kernel
theorem dX0_init_60 : decode cX0_init 60 = .ok (.aload_n 0, 1) := by decide +kernel
theorem dX0_init_61 : decode cX0_init 61 = .ok (.bipush 20, 2) := by decide +kernel
theorem dX0_init_63 : decode cX0_init 63 = .ok (.newarray .int, 2) := by decide +kernel
theorem dX0_init_65 : decode cX0_init 65 = .ok (.putfield 33, 3) := by decide +kernel
theorem dX0_init_68 : decode cX0_init 68 = .ok (.aload_n 0, 1) := by decide +kernel
theorem dX0_init_69 : decode cX0_init 69 = .ok (.iconst 0, 1) := by decide +kernel
theorem dX0_init_70 : decode cX0_init 70 = .ok (.putfield 36, 3) := by decide +kernel
theorem dX0_init_73 : decode cX0_init 73 = .ok (.aload_n 0, 1) := by decide +kernel
theorem dX0_init_74 : decode cX0_init 74 = .ok (.iconst 0, 1) := by decide +kernel
theorem dX0_init_75 : decode cX0_init 75 = .ok (.putfield 40, 3) := by decide +kernel
theorem dX0_init_78 : decode cX0_init 78 = .ok (.return_, 1) := by decide +kernel
set_option maxRecDepth 20000 in
theorem ggX0_read_X0_forget : GoodIn wsX0_read wsX0_forget := goodIn_r _ [11, 12, 13, 14, 15, 16, 17, 18, 19, 20, 21, 22, 23, 24, 25, 73, 74, 75, 76, 77, 78, 79, 80, 81, 82] (by decide +kernel) (by decide +kernel)
set_option maxRecDepth 20000 in
theorem gX0_read_X0_forget : GoodIn wsX0_read (wsV RX0 43 RX0 yX0_forget wsX0_forget) := goodIn_app (goodIn_of _ (by decide +kernel)) ggX0_read_X0_forget
set_option maxRecDepth 20000 in
theorem ggX0_read_X0_hear : GoodIn wsX0_read wsX0_hear := goodIn_r _ [29, 4, 12, 5, 30, 13, 15, 31, 16, 32, 17, 33, 18, 6, 19, 20, 34, 35, 36, 10, 37, 21, 63, 64, 65, 66, 67, 68, 69, 70, 71, 72, 73, 74, 75, 76, 77, 78, 79, 80, 81, 82] (by decide +kernel) (by decide +kernel)
set_option maxRecDepth 20000 in
theorem gX0_read_X0_hear : GoodIn wsX0_read (wsV RX0 57 RX0 yX0_hear wsX0_hear) := goodIn_app (goodIn_of _ (by decide +kernel)) ggX0_read_X0_hear
set_option maxRecDepth 20000 in
theorem ggX0_read_X0_hearKeep : GoodIn wsX0_read wsX0_hearKeep := goodIn_r _ [41, 12, 18, 14, 42, 43, 44, 10, 45, 19, 46, 47, 48, 49, 50, 51, 52, 53, 15, 16, 54, 55, 56, 57, 58, 59, 60, 73, 74, 75, 76, 77, 78, 79, 80, 81, 82] (by decide +kernel) (by decide +kernel)
set_option maxRecDepth 20000 in
theorem gX0_read_X0_hearKeep : GoodIn wsX0_read (wsV RX0 73 RX0 yX0_hearKeep wsX0_hearKeep) := goodIn_app (goodIn_of _ (by decide +kernel)) ggX0_read_X0_hearKeep
theorem dX0_read_0 : decode cX0_read 0 = .ok (.aload_n 0, 1) := by decide +kernel
theorem dX0_read_1 : decode cX0_read 1 = .ok (.invokevirtual 43, 3) := by decide +kernel
theorem dX0_read_4 : decode cX0_read 4 = .ok (.aload_n 1, 1) := by decide +kernel
theorem dX0_read_5 : decode cX0_read 5 = .ok (.getfield 46, 3) := by decide +kernel
theorem dX0_read_8 : decode cX0_read 8 = .ok (.astore 4, 2) := by decide +kernel
theorem dX0_read_10 : decode cX0_read 10 = .ok (.aload 4, 2) := by decide +kernel
theorem dX0_read_12 : decode cX0_read 12 = .ok (.ifnull 29, 3) := by decide +kernel
theorem dX0_read_15 : decode cX0_read 15 = .ok (.aload 4, 2) := by decide +kernel
theorem dX0_read_17 : decode cX0_read 17 = .ok (.getfield 52, 3) := by decide +kernel
theorem dX0_read_20 : decode cX0_read 20 = .ok (.iload_n 2, 1) := by decide +kernel
theorem dX0_read_21 : decode cX0_read 21 = .ok (.iand, 1) := by decide +kernel
theorem dX0_read_22 : decode cX0_read 22 = .ok (.ifCond .eq 9, 3) := by decide +kernel
theorem dX0_read_25 : decode cX0_read 25 = .ok (.aload_n 0, 1) := by decide +kernel
theorem dX0_read_26 : decode cX0_read 26 = .ok (.aload 4, 2) := by decide +kernel
theorem dX0_read_28 : decode cX0_read 28 = .ok (.invokevirtual 57, 3) := by decide +kernel
theorem dX0_read_31 : decode cX0_read 31 = .ok (.aload 4, 2) := by decide +kernel
theorem dX0_read_33 : decode cX0_read 33 = .ok (.getfield 61, 3) := by decide +kernel
theorem dX0_read_36 : decode cX0_read 36 = .ok (.astore 4, 2) := by decide +kernel
theorem dX0_read_38 : decode cX0_read 38 = .ok (.goto (-28), 3) := by decide +kernel
theorem dX0_read_41 : decode cX0_read 41 = .ok (.aload_n 1, 1) := by decide +kernel
theorem dX0_read_42 : decode cX0_read 42 = .ok (.getfield 46, 3) := by decide +kernel
theorem dX0_read_45 : decode cX0_read 45 = .ok (.astore 4, 2) := by decide +kernel
theorem dX0_read_47 : decode cX0_read 47 = .ok (.aload 4, 2) := by decide +kernel
theorem dX0_read_49 : decode cX0_read 49 = .ok (.ifnull 47, 3) := by decide +kernel
theorem dX0_read_52 : decode cX0_read 52 = .ok (.aload 4, 2) := by decide +kernel
theorem dX0_read_54 : decode cX0_read 54 = .ok (.getfield 64, 3) := by decide +kernel
theorem dX0_read_57 : decode cX0_read 57 = .ok (.iconst 4, 1) := by decide +kernel
theorem dX0_read_58 : decode cX0_read 58 = .ok (.if_icmp .ne 28, 3) := by decide +kernel
theorem dX0_read_61 : decode cX0_read 61 = .ok (.aload 4, 2) := by decide +kernel
theorem dX0_read_63 : decode cX0_read 63 = .ok (.getfield 52, 3) := by decide +kernel
theorem dX0_read_66 : decode cX0_read 66 = .ok (.iload_n 2, 1) := by decide +kernel
theorem dX0_read_67 : decode cX0_read 67 = .ok (.iand, 1) := by decide +kernel
theorem dX0_read_68 : decode cX0_read 68 = .ok (.ifCond .eq 18, 3) := by decide +kernel
theorem dX0_read_71 : decode cX0_read 71 = .ok (.aload_n 0, 1) := by decide +kernel
theorem dX0_read_72 : decode cX0_read 72 = .ok (.aload 4, 2) := by decide +kernel
theorem dX0_read_74 : decode cX0_read 74 = .ok (.getfield 67, 3) := by decide +kernel
theorem dX0_read_77 : decode cX0_read 77 = .ok (.aload 4, 2) := by decide +kernel
theorem dX0_read_79 : decode cX0_read 79 = .ok (.getfield 70, 3) := by decide +kernel
theorem dX0_read_82 : decode cX0_read 82 = .ok (.aload_n 3, 1) := by decide +kernel
theorem dX0_read_83 : decode cX0_read 83 = .ok (.invokevirtual 73, 3) := by decide +kernel
theorem dX0_read_86 : decode cX0_read 86 = .ok (.aload 4, 2) := by decide +kernel
theorem dX0_read_88 : decode cX0_read 88 = .ok (.getfield 61, 3) := by decide +kernel
theorem dX0_read_91 : decode cX0_read 91 = .ok (.astore 4, 2) := by decide +kernel
theorem dX0_read_93 : decode cX0_read 93 = .ok (.goto (-46), 3) := by decide +kernel
theorem dX0_read_96 : decode cX0_read 96 = .ok (.return_, 1) := by decide +kernel
set_option maxRecDepth 20000 in
theorem ggX0_forget_J7_fill_53178 : GoodIn wsX0_forget wsJ7_fill_53178 := goodIn_r _ [14] (by decide +kernel) (by decide +kernel)
set_option maxRecDepth 20000 in
theorem gX0_forget_J7_fill_53178 : GoodIn wsX0_forget (va_wsS RX0 77 yJ7_fill_53178 wsJ7_fill_53178) := goodIn_app (goodIn_of _ (by decide +kernel)) ggX0_forget_J7_fill_53178
theorem dX0_forget_0 : decode cX0_forget 0 = .ok (.aload_n 0, 1) := by decide +kernel
theorem dX0_forget_1 : decode cX0_forget 1 = .ok (.getfield 9, 3) := by decide +kernel
theorem dX0_forget_4 : decode cX0_forget 4 = .ok (.iconst (-1), 1) := by decide +kernel
theorem dX0_forget_5 : decode cX0_forget 5 = .ok (.invokestatic 77, 3) := by decide +kernel
theorem dX0_forget_8 : decode cX0_forget 8 = .ok (.aload_n 0, 1) := by decide +kernel
theorem dX0_forget_9 : decode cX0_forget 9 = .ok (.getfield 15, 3) := by decide +kernel
theorem dX0_forget_12 : decode cX0_forget 12 = .ok (.iconst 0, 1) := by decide +kernel
theorem dX0_forget_13 : decode cX0_forget 13 = .ok (.invokestatic 77, 3) := by decide +kernel
theorem dX0_forget_16 : decode cX0_forget 16 = .ok (.aload_n 0, 1) := by decide +kernel
theorem dX0_forget_17 : decode cX0_forget 17 = .ok (.getfield 18, 3) := by decide +kernel
theorem dX0_forget_20 : decode cX0_forget 20 = .ok (.iconst (-1), 1) := by decide +kernel
theorem dX0_forget_21 : decode cX0_forget 21 = .ok (.invokestatic 77, 3) := by decide +kernel
theorem dX0_forget_24 : decode cX0_forget 24 = .ok (.aload_n 0, 1) := by decide +kernel
theorem dX0_forget_25 : decode cX0_forget 25 = .ok (.getfield 21, 3) := by decide +kernel
theorem dX0_forget_28 : decode cX0_forget 28 = .ok (.iconst 0, 1) := by decide +kernel
theorem dX0_forget_29 : decode cX0_forget 29 = .ok (.invokestatic 77, 3) := by decide +kernel
theorem dX0_forget_32 : decode cX0_forget 32 = .ok (.aload_n 0, 1) := by decide +kernel
theorem dX0_forget_33 : decode cX0_forget 33 = .ok (.getfield 24, 3) := by decide +kernel
theorem dX0_forget_36 : decode cX0_forget 36 = .ok (.iconst (-1), 1) := by decide +kernel
theorem dX0_forget_37 : decode cX0_forget 37 = .ok (.invokestatic 77, 3) := by decide +kernel
theorem dX0_forget_40 : decode cX0_forget 40 = .ok (.aload_n 0, 1) := by decide +kernel
theorem dX0_forget_41 : decode cX0_forget 41 = .ok (.getfield 27, 3) := by decide +kernel
theorem dX0_forget_44 : decode cX0_forget 44 = .ok (.iconst 0, 1) := by decide +kernel
theorem dX0_forget_45 : decode cX0_forget 45 = .ok (.invokestatic 77, 3) := by decide +kernel
theorem dX0_forget_48 : decode cX0_forget 48 = .ok (.aload_n 0, 1) := by decide +kernel
theorem dX0_forget_49 : decode cX0_forget 49 = .ok (.getfield 30, 3) := by decide +kernel
theorem dX0_forget_52 : decode cX0_forget 52 = .ok (.iconst 0, 1) := by decide +kernel
theorem dX0_forget_53 : decode cX0_forget 53 = .ok (.invokestatic 77, 3) := by decide +kernel
theorem dX0_forget_56 : decode cX0_forget 56 = .ok (.aload_n 0, 1) := by decide +kernel
theorem dX0_forget_57 : decode cX0_forget 57 = .ok (.getfield 33, 3) := by decide +kernel
theorem dX0_forget_60 : decode cX0_forget 60 = .ok (.iconst 0, 1) := by decide +kernel
theorem dX0_forget_61 : decode cX0_forget 61 = .ok (.invokestatic 77, 3) := by decide +kernel
theorem dX0_forget_64 : decode cX0_forget 64 = .ok (.aload_n 0, 1) := by decide +kernel
theorem dX0_forget_65 : decode cX0_forget 65 = .ok (.iconst 0, 1) := by decide +kernel
theorem dX0_forget_66 : decode cX0_forget 66 = .ok (.putfield 36, 3) := by decide +kernel
theorem dX0_forget_69 : decode cX0_forget 69 = .ok (.aload_n 0, 1) := by decide +kernel
theorem dX0_forget_70 : decode cX0_forget 70 = .ok (.iconst 0, 1) := by decide +kernel
theorem dX0_forget_71 : decode cX0_forget 71 = .ok (.putfield 40, 3) := by decide +kernel
theorem dX0_forget_74 : decode cX0_forget 74 = .ok (.return_, 1) := by decide +kernel
set_option maxRecDepth 20000 in
theorem ggX0_hear_X0_hearTake : GoodIn wsX0_hear wsX0_hearTake := goodIn_r _ [20, 13, 2, 3, 21, 5, 4, 22, 23, 24, 25, 26, 27, 28, 29, 30, 31, 32, 33, 34, 35, 36, 37, 38, 39, 40, 41] (by decide +kernel) (by decide +kernel)
set_option maxRecDepth 20000 in
theorem gX0_hear_X0_hearTake : GoodIn wsX0_hear (wsV RX0 86 RX0 yX0_hearTake wsX0_hearTake) := goodIn_app (goodIn_of _ (by decide +kernel)) ggX0_hear_X0_hearTake
theorem dX0_hear_0 : decode cX0_hear 0 = .ok (.aload_n 1, 1) := by decide +kernel
theorem dX0_hear_1 : decode cX0_hear 1 = .ok (.getfield 64, 3) := by decide +kernel
theorem dX0_hear_4 : decode cX0_hear 4 = .ok (.tableswitch 203 0 6 #[44, 78, 86, 128, 203, 164, 190], 44) := by decide +kernel
theorem dX0_hear_48 : decode cX0_hear 48 = .ok (.aload_n 0, 1) := by decide +kernel
theorem dX0_hear_49 : decode cX0_hear 49 = .ok (.getfield 9, 3) := by decide +kernel
theorem dX0_hear_52 : decode cX0_hear 52 = .ok (.aload_n 1, 1) := by decide +kernel
theorem dX0_hear_53 : decode cX0_hear 53 = .ok (.getfield 67, 3) := by decide +kernel
theorem dX0_hear_56 : decode cX0_hear 56 = .ok (.aload_n 1, 1) := by decide +kernel
theorem dX0_hear_57 : decode cX0_hear 57 = .ok (.getfield 83, 3) := by decide +kernel
theorem dX0_hear_60 : decode cX0_hear 60 = .ok (.iastore, 1) := by decide +kernel
theorem dX0_hear_61 : decode cX0_hear 61 = .ok (.aload_n 0, 1) := by decide +kernel
theorem dX0_hear_62 : decode cX0_hear 62 = .ok (.getfield 15, 3) := by decide +kernel
theorem dX0_hear_65 : decode cX0_hear 65 = .ok (.aload_n 1, 1) := by decide +kernel
theorem dX0_hear_66 : decode cX0_hear 66 = .ok (.getfield 67, 3) := by decide +kernel
theorem dX0_hear_69 : decode cX0_hear 69 = .ok (.dup2, 1) := by decide +kernel
theorem dX0_hear_70 : decode cX0_hear 70 = .ok (.iaload, 1) := by decide +kernel
theorem dX0_hear_71 : decode cX0_hear 71 = .ok (.iconst 1, 1) := by decide +kernel
theorem dX0_hear_72 : decode cX0_hear 72 = .ok (.aload_n 1, 1) := by decide +kernel
theorem dX0_hear_73 : decode cX0_hear 73 = .ok (.getfield 83, 3) := by decide +kernel
theorem dX0_hear_76 : decode cX0_hear 76 = .ok (.ishl, 1) := by decide +kernel
theorem dX0_hear_77 : decode cX0_hear 77 = .ok (.ior, 1) := by decide +kernel
theorem dX0_hear_78 : decode cX0_hear 78 = .ok (.iastore, 1) := by decide +kernel
theorem dX0_hear_79 : decode cX0_hear 79 = .ok (.goto 128, 3) := by decide +kernel
theorem dX0_hear_82 : decode cX0_hear 82 = .ok (.aload_n 0, 1) := by decide +kernel
theorem dX0_hear_83 : decode cX0_hear 83 = .ok (.aload_n 1, 1) := by decide +kernel
theorem dX0_hear_84 : decode cX0_hear 84 = .ok (.invokevirtual 86, 3) := by decide +kernel
theorem dX0_hear_87 : decode cX0_hear 87 = .ok (.goto 120, 3) := by decide +kernel
theorem dX0_hear_90 : decode cX0_hear 90 = .ok (.aload_n 0, 1) := by decide +kernel
theorem dX0_hear_91 : decode cX0_hear 91 = .ok (.getfield 21, 3) := by decide +kernel
theorem dX0_hear_94 : decode cX0_hear 94 = .ok (.aload_n 1, 1) := by decide +kernel
theorem dX0_hear_95 : decode cX0_hear 95 = .ok (.getfield 67, 3) := by decide +kernel
theorem dX0_hear_98 : decode cX0_hear 98 = .ok (.aload_n 1, 1) := by decide +kernel
theorem dX0_hear_99 : decode cX0_hear 99 = .ok (.getfield 89, 3) := by decide +kernel
theorem dX0_hear_102 : decode cX0_hear 102 = .ok (.iastore, 1) := by decide +kernel
theorem dX0_hear_103 : decode cX0_hear 103 = .ok (.aload_n 0, 1) := by decide +kernel
theorem dX0_hear_104 : decode cX0_hear 104 = .ok (.getfield 24, 3) := by decide +kernel
theorem dX0_hear_107 : decode cX0_hear 107 = .ok (.aload_n 1, 1) := by decide +kernel
theorem dX0_hear_108 : decode cX0_hear 108 = .ok (.getfield 67, 3) := by decide +kernel
theorem dX0_hear_111 : decode cX0_hear 111 = .ok (.aload_n 1, 1) := by decide +kernel
theorem dX0_hear_112 : decode cX0_hear 112 = .ok (.getfield 91, 3) := by decide +kernel
theorem dX0_hear_115 : decode cX0_hear 115 = .ok (.iastore, 1) := by decide +kernel
theorem dX0_hear_116 : decode cX0_hear 116 = .ok (.aload_n 0, 1) := by decide +kernel
theorem dX0_hear_117 : decode cX0_hear 117 = .ok (.getfield 27, 3) := by decide +kernel
theorem dX0_hear_120 : decode cX0_hear 120 = .ok (.aload_n 1, 1) := by decide +kernel
theorem dX0_hear_121 : decode cX0_hear 121 = .ok (.getfield 67, 3) := by decide +kernel
theorem dX0_hear_124 : decode cX0_hear 124 = .ok (.aload_n 1, 1) := by decide +kernel
theorem dX0_hear_125 : decode cX0_hear 125 = .ok (.getfield 93, 3) := by decide +kernel
theorem dX0_hear_128 : decode cX0_hear 128 = .ok (.iastore, 1) := by decide +kernel
theorem dX0_hear_129 : decode cX0_hear 129 = .ok (.goto 78, 3) := by decide +kernel
theorem dX0_hear_132 : decode cX0_hear 132 = .ok (.aload_n 0, 1) := by decide +kernel
theorem dX0_hear_133 : decode cX0_hear 133 = .ok (.getfield 30, 3) := by decide +kernel
theorem dX0_hear_136 : decode cX0_hear 136 = .ok (.aload_n 1, 1) := by decide +kernel
theorem dX0_hear_137 : decode cX0_hear 137 = .ok (.getfield 70, 3) := by decide +kernel
theorem dX0_hear_140 : decode cX0_hear 140 = .ok (.iconst 1, 1) := by decide +kernel
theorem dX0_hear_141 : decode cX0_hear 141 = .ok (.iastore, 1) := by decide +kernel
theorem dX0_hear_142 : decode cX0_hear 142 = .ok (.aload_n 0, 1) := by decide +kernel
theorem dX0_hear_143 : decode cX0_hear 143 = .ok (.getfield 33, 3) := by decide +kernel
theorem dX0_hear_146 : decode cX0_hear 146 = .ok (.aload_n 1, 1) := by decide +kernel
theorem dX0_hear_147 : decode cX0_hear 147 = .ok (.getfield 70, 3) := by decide +kernel
theorem dX0_hear_150 : decode cX0_hear 150 = .ok (.aload_n 0, 1) := by decide +kernel
theorem dX0_hear_151 : decode cX0_hear 151 = .ok (.getfield 36, 3) := by decide +kernel
theorem dX0_hear_154 : decode cX0_hear 154 = .ok (.iastore, 1) := by decide +kernel
theorem dX0_hear_155 : decode cX0_hear 155 = .ok (.aload_n 0, 1) := by decide +kernel
theorem dX0_hear_156 : decode cX0_hear 156 = .ok (.dup, 1) := by decide +kernel
theorem dX0_hear_157 : decode cX0_hear 157 = .ok (.getfield 36, 3) := by decide +kernel
theorem dX0_hear_160 : decode cX0_hear 160 = .ok (.iconst 1, 1) := by decide +kernel
theorem dX0_hear_161 : decode cX0_hear 161 = .ok (.iadd, 1) := by decide +kernel
theorem dX0_hear_162 : decode cX0_hear 162 = .ok (.putfield 36, 3) := by decide +kernel
theorem dX0_hear_165 : decode cX0_hear 165 = .ok (.goto 42, 3) := by decide +kernel
theorem dX0_hear_168 : decode cX0_hear 168 = .ok (.aload_n 0, 1) := by decide +kernel
theorem dX0_hear_169 : decode cX0_hear 169 = .ok (.getfield 30, 3) := by decide +kernel
theorem dX0_hear_172 : decode cX0_hear 172 = .ok (.aload_n 1, 1) := by decide +kernel
theorem dX0_hear_173 : decode cX0_hear 173 = .ok (.getfield 70, 3) := by decide +kernel
theorem dX0_hear_176 : decode cX0_hear 176 = .ok (.iaload, 1) := by decide +kernel
theorem dX0_hear_177 : decode cX0_hear 177 = .ok (.iconst 1, 1) := by decide +kernel
theorem dX0_hear_178 : decode cX0_hear 178 = .ok (.if_icmp .ne 29, 3) := by decide +kernel
theorem dX0_hear_181 : decode cX0_hear 181 = .ok (.aload_n 0, 1) := by decide +kernel
theorem dX0_hear_182 : decode cX0_hear 182 = .ok (.getfield 30, 3) := by decide +kernel
theorem dX0_hear_185 : decode cX0_hear 185 = .ok (.aload_n 1, 1) := by decide +kernel
theorem dX0_hear_186 : decode cX0_hear 186 = .ok (.getfield 70, 3) := by decide +kernel
theorem dX0_hear_189 : decode cX0_hear 189 = .ok (.iconst 2, 1) := by decide +kernel
theorem dX0_hear_190 : decode cX0_hear 190 = .ok (.iastore, 1) := by decide +kernel
theorem dX0_hear_191 : decode cX0_hear 191 = .ok (.goto 16, 3) := by decide +kernel
theorem dX0_hear_194 : decode cX0_hear 194 = .ok (.aload_n 0, 1) := by decide +kernel
theorem dX0_hear_195 : decode cX0_hear 195 = .ok (.getfield 30, 3) := by decide +kernel
theorem dX0_hear_198 : decode cX0_hear 198 = .ok (.aload_n 1, 1) := by decide +kernel
theorem dX0_hear_199 : decode cX0_hear 199 = .ok (.getfield 70, 3) := by decide +kernel
theorem dX0_hear_202 : decode cX0_hear 202 = .ok (.iconst 3, 1) := by decide +kernel
theorem dX0_hear_203 : decode cX0_hear 203 = .ok (.iastore, 1) := by decide +kernel
theorem dX0_hear_204 : decode cX0_hear 204 = .ok (.goto 3, 3) := by decide +kernel
theorem dX0_hear_207 : decode cX0_hear 207 = .ok (.return_, 1) := by decide +kernel
theorem dX0_hearTake_0 : decode cX0_hearTake 0 = .ok (.aload_n 1, 1) := by decide +kernel
theorem dX0_hearTake_1 : decode cX0_hearTake 1 = .ok (.getfield 70, 3) := by decide +kernel
theorem dX0_hearTake_4 : decode cX0_hearTake 4 = .ok (.iconst (-1), 1) := by decide +kernel
theorem dX0_hearTake_5 : decode cX0_hearTake 5 = .ok (.if_icmp .eq 31, 3) := by decide +kernel
theorem dX0_hearTake_8 : decode cX0_hearTake 8 = .ok (.aload_n 0, 1) := by decide +kernel
theorem dX0_hearTake_9 : decode cX0_hearTake 9 = .ok (.getfield 9, 3) := by decide +kernel
theorem dX0_hearTake_12 : decode cX0_hearTake 12 = .ok (.aload_n 1, 1) := by decide +kernel
theorem dX0_hearTake_13 : decode cX0_hearTake 13 = .ok (.getfield 67, 3) := by decide +kernel
theorem dX0_hearTake_16 : decode cX0_hearTake 16 = .ok (.iaload, 1) := by decide +kernel
theorem dX0_hearTake_17 : decode cX0_hearTake 17 = .ok (.iconst (-1), 1) := by decide +kernel
theorem dX0_hearTake_18 : decode cX0_hearTake 18 = .ok (.if_icmp .ne 18, 3) := by decide +kernel
theorem dX0_hearTake_21 : decode cX0_hearTake 21 = .ok (.aload_n 0, 1) := by decide +kernel
theorem dX0_hearTake_22 : decode cX0_hearTake 22 = .ok (.dup, 1) := by decide +kernel
theorem dX0_hearTake_23 : decode cX0_hearTake 23 = .ok (.getfield 40, 3) := by decide +kernel
theorem dX0_hearTake_26 : decode cX0_hearTake 26 = .ok (.iconst 1, 1) := by decide +kernel
theorem dX0_hearTake_27 : decode cX0_hearTake 27 = .ok (.aload_n 1, 1) := by decide +kernel
theorem dX0_hearTake_28 : decode cX0_hearTake 28 = .ok (.getfield 70, 3) := by decide +kernel
theorem dX0_hearTake_31 : decode cX0_hearTake 31 = .ok (.ishl, 1) := by decide +kernel
theorem dX0_hearTake_32 : decode cX0_hearTake 32 = .ok (.ior, 1) := by decide +kernel
theorem dX0_hearTake_33 : decode cX0_hearTake 33 = .ok (.putfield 40, 3) := by decide +kernel
theorem dX0_hearTake_36 : decode cX0_hearTake 36 = .ok (.aload_n 0, 1) := by decide +kernel
theorem dX0_hearTake_37 : decode cX0_hearTake 37 = .ok (.getfield 9, 3) := by decide +kernel
theorem dX0_hearTake_40 : decode cX0_hearTake 40 = .ok (.aload_n 1, 1) := by decide +kernel
theorem dX0_hearTake_41 : decode cX0_hearTake 41 = .ok (.getfield 67, 3) := by decide +kernel
theorem dX0_hearTake_44 : decode cX0_hearTake 44 = .ok (.iconst (-1), 1) := by decide +kernel
theorem dX0_hearTake_45 : decode cX0_hearTake 45 = .ok (.iastore, 1) := by decide +kernel
theorem dX0_hearTake_46 : decode cX0_hearTake 46 = .ok (.aload_n 0, 1) := by decide +kernel
theorem dX0_hearTake_47 : decode cX0_hearTake 47 = .ok (.getfield 15, 3) := by decide +kernel
theorem dX0_hearTake_50 : decode cX0_hearTake 50 = .ok (.aload_n 1, 1) := by decide +kernel
theorem dX0_hearTake_51 : decode cX0_hearTake 51 = .ok (.getfield 67, 3) := by decide +kernel
theorem dX0_hearTake_54 : decode cX0_hearTake 54 = .ok (.dup2, 1) := by decide +kernel
theorem dX0_hearTake_55 : decode cX0_hearTake 55 = .ok (.iaload, 1) := by decide +kernel
theorem dX0_hearTake_56 : decode cX0_hearTake 56 = .ok (.iconst 1, 1) := by decide +kernel
theorem dX0_hearTake_57 : decode cX0_hearTake 57 = .ok (.aload_n 1, 1) := by decide +kernel
theorem dX0_hearTake_58 : decode cX0_hearTake 58 = .ok (.getfield 83, 3) := by decide +kernel
theorem dX0_hearTake_61 : decode cX0_hearTake 61 = .ok (.ishl, 1) := by decide +kernel
theorem dX0_hearTake_62 : decode cX0_hearTake 62 = .ok (.iconst (-1), 1) := by decide +kernel
theorem dX0_hearTake_63 : decode cX0_hearTake 63 = .ok (.ixor, 1) := by decide +kernel
theorem dX0_hearTake_64 : decode cX0_hearTake 64 = .ok (.iand, 1) := by decide +kernel
theorem dX0_hearTake_65 : decode cX0_hearTake 65 = .ok (.iastore, 1) := by decide +kernel
theorem dX0_hearTake_66 : decode cX0_hearTake 66 = .ok (.return_, 1) := by decide +kernel
set_option maxRecDepth 20000 in
theorem ggX0_hearKeep_X0_isAhead : GoodIn wsX0_hearKeep wsX0_isAhead := goodIn_r _ [8, 9, 10, 11, 12, 7, 13, 14, 15, 16, 17, 18, 19, 20, 21, 22, 23, 24, 25, 26, 27, 28, 29, 30, 31, 32, 33, 34, 35, 36] (by decide +kernel) (by decide +kernel)
set_option maxRecDepth 20000 in
theorem gX0_hearKeep_X0_isAhead : GoodIn wsX0_hearKeep (wsV RX0 95 RX0 yX0_isAhead wsX0_isAhead) := goodIn_app (goodIn_of _ (by decide +kernel)) ggX0_hearKeep_X0_isAhead
theorem dX0_hearKeep_0 : decode cX0_hearKeep 0 = .ok (.aload_n 0, 1) := by decide +kernel
theorem dX0_hearKeep_1 : decode cX0_hearKeep 1 = .ok (.getfield 9, 3) := by decide +kernel
theorem dX0_hearKeep_4 : decode cX0_hearKeep 4 = .ok (.iload_n 1, 1) := by decide +kernel
theorem dX0_hearKeep_5 : decode cX0_hearKeep 5 = .ok (.iaload, 1) := by decide +kernel
theorem dX0_hearKeep_6 : decode cX0_hearKeep 6 = .ok (.iconst (-1), 1) := by decide +kernel
theorem dX0_hearKeep_7 : decode cX0_hearKeep 7 = .ok (.if_icmp .eq 13, 3) := by decide +kernel
theorem dX0_hearKeep_10 : decode cX0_hearKeep 10 = .ok (.aload_n 0, 1) := by decide +kernel
theorem dX0_hearKeep_11 : decode cX0_hearKeep 11 = .ok (.getfield 30, 3) := by decide +kernel
theorem dX0_hearKeep_14 : decode cX0_hearKeep 14 = .ok (.iload_n 2, 1) := by decide +kernel
theorem dX0_hearKeep_15 : decode cX0_hearKeep 15 = .ok (.iaload, 1) := by decide +kernel
theorem dX0_hearKeep_16 : decode cX0_hearKeep 16 = .ok (.iconst 1, 1) := by decide +kernel
theorem dX0_hearKeep_17 : decode cX0_hearKeep 17 = .ok (.if_icmp .eq 4, 3) := by decide +kernel
theorem dX0_hearKeep_20 : decode cX0_hearKeep 20 = .ok (.return_, 1) := by decide +kernel
theorem dX0_hearKeep_21 : decode cX0_hearKeep 21 = .ok (.aload_n 0, 1) := by decide +kernel
theorem dX0_hearKeep_22 : decode cX0_hearKeep 22 = .ok (.getfield 18, 3) := by decide +kernel
theorem dX0_hearKeep_25 : decode cX0_hearKeep 25 = .ok (.iload_n 1, 1) := by decide +kernel
theorem dX0_hearKeep_26 : decode cX0_hearKeep 26 = .ok (.iaload, 1) := by decide +kernel
theorem dX0_hearKeep_27 : decode cX0_hearKeep 27 = .ok (.iconst (-1), 1) := by decide +kernel
theorem dX0_hearKeep_28 : decode cX0_hearKeep 28 = .ok (.if_icmp .eq 18, 3) := by decide +kernel
theorem dX0_hearKeep_31 : decode cX0_hearKeep 31 = .ok (.aload_n 0, 1) := by decide +kernel
theorem dX0_hearKeep_32 : decode cX0_hearKeep 32 = .ok (.iload_n 2, 1) := by decide +kernel
theorem dX0_hearKeep_33 : decode cX0_hearKeep 33 = .ok (.aload_n 0, 1) := by decide +kernel
theorem dX0_hearKeep_34 : decode cX0_hearKeep 34 = .ok (.getfield 18, 3) := by decide +kernel
theorem dX0_hearKeep_37 : decode cX0_hearKeep 37 = .ok (.iload_n 1, 1) := by decide +kernel
theorem dX0_hearKeep_38 : decode cX0_hearKeep 38 = .ok (.iaload, 1) := by decide +kernel
theorem dX0_hearKeep_39 : decode cX0_hearKeep 39 = .ok (.aload_n 3, 1) := by decide +kernel
theorem dX0_hearKeep_40 : decode cX0_hearKeep 40 = .ok (.invokevirtual 95, 3) := by decide +kernel
theorem dX0_hearKeep_43 : decode cX0_hearKeep 43 = .ok (.ifCond .eq 10, 3) := by decide +kernel
theorem dX0_hearKeep_46 : decode cX0_hearKeep 46 = .ok (.aload_n 0, 1) := by decide +kernel
theorem dX0_hearKeep_47 : decode cX0_hearKeep 47 = .ok (.getfield 18, 3) := by decide +kernel
theorem dX0_hearKeep_50 : decode cX0_hearKeep 50 = .ok (.iload_n 1, 1) := by decide +kernel
theorem dX0_hearKeep_51 : decode cX0_hearKeep 51 = .ok (.iload_n 2, 1) := by decide +kernel
theorem dX0_hearKeep_52 : decode cX0_hearKeep 52 = .ok (.iastore, 1) := by decide +kernel
theorem dX0_hearKeep_53 : decode cX0_hearKeep 53 = .ok (.return_, 1) := by decide +kernel
set_option maxRecDepth 20000 in
theorem ggX0_isAhead_X0_guestsOn : GoodIn wsX0_isAhead wsX0_guestsOn := goodIn_r _ [6, 7, 8, 9, 5, 10, 11, 12, 20, 21, 22, 23, 24, 25, 26, 27, 28, 29] (by decide +kernel) (by decide +kernel)
set_option maxRecDepth 20000 in
theorem gX0_isAhead_X0_guestsOn : GoodIn wsX0_isAhead (wsV RX0 99 RX0 yX0_guestsOn wsX0_guestsOn) := goodIn_app (goodIn_of _ (by decide +kernel)) ggX0_isAhead_X0_guestsOn
set_option maxRecDepth 20000 in
theorem ggX0_isAhead_J6_bitCount_0f7a4 : GoodIn wsX0_isAhead wsJ6_bitCount_0f7a4 := goodIn_r _ [16, 17, 18, 19] (by decide +kernel) (by decide +kernel)
set_option maxRecDepth 20000 in
theorem gX0_isAhead_J6_bitCount_0f7a4 : GoodIn wsX0_isAhead (va_wsS RX0 103 yJ6_bitCount_0f7a4 wsJ6_bitCount_0f7a4) := goodIn_app (goodIn_of _ (by decide +kernel)) ggX0_isAhead_J6_bitCount_0f7a4
theorem dX0_isAhead_0 : decode cX0_isAhead 0 = .ok (.aload_n 3, 1) := by decide +kernel
theorem dX0_isAhead_1 : decode cX0_isAhead 1 = .ok (.iload_n 1, 1) := by decide +kernel
theorem dX0_isAhead_2 : decode cX0_isAhead 2 = .ok (.iaload, 1) := by decide +kernel
theorem dX0_isAhead_3 : decode cX0_isAhead 3 = .ok (.istore 4, 2) := by decide +kernel
theorem dX0_isAhead_5 : decode cX0_isAhead 5 = .ok (.aload_n 3, 1) := by decide +kernel
theorem dX0_isAhead_6 : decode cX0_isAhead 6 = .ok (.iload_n 2, 1) := by decide +kernel
theorem dX0_isAhead_7 : decode cX0_isAhead 7 = .ok (.iaload, 1) := by decide +kernel
theorem dX0_isAhead_8 : decode cX0_isAhead 8 = .ok (.istore 5, 2) := by decide +kernel
theorem dX0_isAhead_10 : decode cX0_isAhead 10 = .ok (.aload_n 0, 1) := by decide +kernel
theorem dX0_isAhead_11 : decode cX0_isAhead 11 = .ok (.iload 4, 2) := by decide +kernel
theorem dX0_isAhead_13 : decode cX0_isAhead 13 = .ok (.invokevirtual 99, 3) := by decide +kernel
theorem dX0_isAhead_16 : decode cX0_isAhead 16 = .ok (.invokestatic 103, 3) := by decide +kernel
theorem dX0_isAhead_19 : decode cX0_isAhead 19 = .ok (.istore 6, 2) := by decide +kernel
theorem dX0_isAhead_21 : decode cX0_isAhead 21 = .ok (.aload_n 0, 1) := by decide +kernel
theorem dX0_isAhead_22 : decode cX0_isAhead 22 = .ok (.iload 5, 2) := by decide +kernel
theorem dX0_isAhead_24 : decode cX0_isAhead 24 = .ok (.invokevirtual 99, 3) := by decide +kernel
theorem dX0_isAhead_27 : decode cX0_isAhead 27 = .ok (.invokestatic 103, 3) := by decide +kernel
theorem dX0_isAhead_30 : decode cX0_isAhead 30 = .ok (.istore 7, 2) := by decide +kernel
theorem dX0_isAhead_32 : decode cX0_isAhead 32 = .ok (.iload 6, 2) := by decide +kernel
theorem dX0_isAhead_34 : decode cX0_isAhead 34 = .ok (.iload 7, 2) := by decide +kernel
theorem dX0_isAhead_36 : decode cX0_isAhead 36 = .ok (.if_icmp .eq 16, 3) := by decide +kernel
theorem dX0_isAhead_39 : decode cX0_isAhead 39 = .ok (.iload 6, 2) := by decide +kernel
theorem dX0_isAhead_41 : decode cX0_isAhead 41 = .ok (.iload 7, 2) := by decide +kernel
theorem dX0_isAhead_43 : decode cX0_isAhead 43 = .ok (.if_icmp .le 7, 3) := by decide +kernel
theorem dX0_isAhead_46 : decode cX0_isAhead 46 = .ok (.iconst 1, 1) := by decide +kernel
theorem dX0_isAhead_47 : decode cX0_isAhead 47 = .ok (.goto 4, 3) := by decide +kernel
theorem dX0_isAhead_50 : decode cX0_isAhead 50 = .ok (.iconst 0, 1) := by decide +kernel
theorem dX0_isAhead_51 : decode cX0_isAhead 51 = .ok (.ireturn, 1) := by decide +kernel
theorem dX0_isAhead_52 : decode cX0_isAhead 52 = .ok (.iload 4, 2) := by decide +kernel
theorem dX0_isAhead_54 : decode cX0_isAhead 54 = .ok (.iload 5, 2) := by decide +kernel
theorem dX0_isAhead_56 : decode cX0_isAhead 56 = .ok (.if_icmp .eq 18, 3) := by decide +kernel
theorem dX0_isAhead_59 : decode cX0_isAhead 59 = .ok (.iload 4, 2) := by decide +kernel
theorem dX0_isAhead_61 : decode cX0_isAhead 61 = .ok (.iload 5, 2) := by decide +kernel
theorem dX0_isAhead_63 : decode cX0_isAhead 63 = .ok (.if_icmp .ge 7, 3) := by decide +kernel
theorem dX0_isAhead_66 : decode cX0_isAhead 66 = .ok (.iconst 1, 1) := by decide +kernel
theorem dX0_isAhead_67 : decode cX0_isAhead 67 = .ok (.goto 27, 3) := by decide +kernel
theorem dX0_isAhead_70 : decode cX0_isAhead 70 = .ok (.iconst 0, 1) := by decide +kernel
theorem dX0_isAhead_71 : decode cX0_isAhead 71 = .ok (.goto 23, 3) := by decide +kernel
theorem dX0_isAhead_74 : decode cX0_isAhead 74 = .ok (.aload_n 0, 1) := by decide +kernel
theorem dX0_isAhead_75 : decode cX0_isAhead 75 = .ok (.getfield 33, 3) := by decide +kernel
theorem dX0_isAhead_78 : decode cX0_isAhead 78 = .ok (.iload_n 1, 1) := by decide +kernel
theorem dX0_isAhead_79 : decode cX0_isAhead 79 = .ok (.iaload, 1) := by decide +kernel
theorem dX0_isAhead_80 : decode cX0_isAhead 80 = .ok (.aload_n 0, 1) := by decide +kernel
theorem dX0_isAhead_81 : decode cX0_isAhead 81 = .ok (.getfield 33, 3) := by decide +kernel
theorem dX0_isAhead_84 : decode cX0_isAhead 84 = .ok (.iload_n 2, 1) := by decide +kernel
theorem dX0_isAhead_85 : decode cX0_isAhead 85 = .ok (.iaload, 1) := by decide +kernel
theorem dX0_isAhead_86 : decode cX0_isAhead 86 = .ok (.if_icmp .ge 7, 3) := by decide +kernel
theorem dX0_isAhead_89 : decode cX0_isAhead 89 = .ok (.iconst 1, 1) := by decide +kernel
theorem dX0_isAhead_90 : decode cX0_isAhead 90 = .ok (.goto 4, 3) := by decide +kernel
theorem dX0_isAhead_93 : decode cX0_isAhead 93 = .ok (.iconst 0, 1) := by decide +kernel
theorem dX0_isAhead_94 : decode cX0_isAhead 94 = .ok (.ireturn, 1) := by decide +kernel
theorem dX0_comesOn_0 : decode cX0_comesOn 0 = .ok (.aload_n 0, 1) := by decide +kernel
theorem dX0_comesOn_1 : decode cX0_comesOn 1 = .ok (.getfield 21, 3) := by decide +kernel
theorem dX0_comesOn_4 : decode cX0_comesOn 4 = .ok (.iload_n 1, 1) := by decide +kernel
theorem dX0_comesOn_5 : decode cX0_comesOn 5 = .ok (.iaload, 1) := by decide +kernel
theorem dX0_comesOn_6 : decode cX0_comesOn 6 = .ok (.iload_n 2, 1) := by decide +kernel
theorem dX0_comesOn_7 : decode cX0_comesOn 7 = .ok (.if_icmp .gt 17, 3) := by decide +kernel
theorem dX0_comesOn_10 : decode cX0_comesOn 10 = .ok (.iload_n 2, 1) := by decide +kernel
theorem dX0_comesOn_11 : decode cX0_comesOn 11 = .ok (.aload_n 0, 1) := by decide +kernel
theorem dX0_comesOn_12 : decode cX0_comesOn 12 = .ok (.getfield 24, 3) := by decide +kernel
theorem dX0_comesOn_15 : decode cX0_comesOn 15 = .ok (.iload_n 1, 1) := by decide +kernel
theorem dX0_comesOn_16 : decode cX0_comesOn 16 = .ok (.iaload, 1) := by decide +kernel
theorem dX0_comesOn_17 : decode cX0_comesOn 17 = .ok (.if_icmp .gt 7, 3) := by decide +kernel
theorem dX0_comesOn_20 : decode cX0_comesOn 20 = .ok (.iconst 1, 1) := by decide +kernel
theorem dX0_comesOn_21 : decode cX0_comesOn 21 = .ok (.goto 4, 3) := by decide +kernel
theorem dX0_comesOn_24 : decode cX0_comesOn 24 = .ok (.iconst 0, 1) := by decide +kernel
theorem dX0_comesOn_25 : decode cX0_comesOn 25 = .ok (.ireturn, 1) := by decide +kernel
set_option maxRecDepth 20000 in
theorem ggX0_guestsOn_X0_comesOn : GoodIn wsX0_guestsOn wsX0_comesOn := goodIn_r _ [5, 6, 7, 8, 9, 10, 11, 12, 13, 14, 15, 16, 17] (by decide +kernel) (by decide +kernel)
set_option maxRecDepth 20000 in
theorem gX0_guestsOn_X0_comesOn : GoodIn wsX0_guestsOn (wsV RX0 108 RX0 yX0_comesOn wsX0_comesOn) := goodIn_app (goodIn_of _ (by decide +kernel)) ggX0_guestsOn_X0_comesOn
theorem dX0_guestsOn_0 : decode cX0_guestsOn 0 = .ok (.iconst 0, 1) := by decide +kernel
theorem dX0_guestsOn_1 : decode cX0_guestsOn 1 = .ok (.istore_n 2, 1) := by decide +kernel
theorem dX0_guestsOn_2 : decode cX0_guestsOn 2 = .ok (.iconst 0, 1) := by decide +kernel
theorem dX0_guestsOn_3 : decode cX0_guestsOn 3 = .ok (.istore_n 3, 1) := by decide +kernel
theorem dX0_guestsOn_4 : decode cX0_guestsOn 4 = .ok (.iload_n 3, 1) := by decide +kernel
theorem dX0_guestsOn_5 : decode cX0_guestsOn 5 = .ok (.bipush 8, 2) := by decide +kernel
theorem dX0_guestsOn_7 : decode cX0_guestsOn 7 = .ok (.if_icmp .ge 24, 3) := by decide +kernel
theorem dX0_guestsOn_10 : decode cX0_guestsOn 10 = .ok (.aload_n 0, 1) := by decide +kernel
theorem dX0_guestsOn_11 : decode cX0_guestsOn 11 = .ok (.iload_n 3, 1) := by decide +kernel
theorem dX0_guestsOn_12 : decode cX0_guestsOn 12 = .ok (.iload_n 1, 1) := by decide +kernel
theorem dX0_guestsOn_13 : decode cX0_guestsOn 13 = .ok (.invokevirtual 108, 3) := by decide +kernel
theorem dX0_guestsOn_16 : decode cX0_guestsOn 16 = .ok (.ifCond .eq 9, 3) := by decide +kernel
theorem dX0_guestsOn_19 : decode cX0_guestsOn 19 = .ok (.iload_n 2, 1) := by decide +kernel
theorem dX0_guestsOn_20 : decode cX0_guestsOn 20 = .ok (.iconst 1, 1) := by decide +kernel
theorem dX0_guestsOn_21 : decode cX0_guestsOn 21 = .ok (.iload_n 3, 1) := by decide +kernel
theorem dX0_guestsOn_22 : decode cX0_guestsOn 22 = .ok (.ishl, 1) := by decide +kernel
theorem dX0_guestsOn_23 : decode cX0_guestsOn 23 = .ok (.ior, 1) := by decide +kernel
theorem dX0_guestsOn_24 : decode cX0_guestsOn 24 = .ok (.istore_n 2, 1) := by decide +kernel
theorem dX0_guestsOn_25 : decode cX0_guestsOn 25 = .ok (.iinc 3 1, 3) := by decide +kernel
theorem dX0_guestsOn_28 : decode cX0_guestsOn 28 = .ok (.goto (-24), 3) := by decide +kernel
theorem dX0_guestsOn_31 : decode cX0_guestsOn 31 = .ok (.iload_n 2, 1) := by decide +kernel
theorem dX0_guestsOn_32 : decode cX0_guestsOn 32 = .ok (.ireturn, 1) := by decide +kernel
set_option maxRecDepth 20000 in
theorem ggX0_dislikedOn_X0_comesOn : GoodIn wsX0_dislikedOn wsX0_comesOn := goodIn_r _ [6, 7, 8, 9, 10, 11, 12, 13, 14, 15, 16, 17, 18] (by decide +kernel) (by decide +kernel)
set_option maxRecDepth 20000 in
theorem gX0_dislikedOn_X0_comesOn : GoodIn wsX0_dislikedOn (wsV RX0 108 RX0 yX0_comesOn wsX0_comesOn) := goodIn_app (goodIn_of _ (by decide +kernel)) ggX0_dislikedOn_X0_comesOn
theorem dX0_dislikedOn_0 : decode cX0_dislikedOn 0 = .ok (.iconst 0, 1) := by decide +kernel
theorem dX0_dislikedOn_1 : decode cX0_dislikedOn 1 = .ok (.istore_n 2, 1) := by decide +kernel
theorem dX0_dislikedOn_2 : decode cX0_dislikedOn 2 = .ok (.iconst 0, 1) := by decide +kernel
theorem dX0_dislikedOn_3 : decode cX0_dislikedOn 3 = .ok (.istore_n 3, 1) := by decide +kernel
theorem dX0_dislikedOn_4 : decode cX0_dislikedOn 4 = .ok (.iload_n 3, 1) := by decide +kernel
theorem dX0_dislikedOn_5 : decode cX0_dislikedOn 5 = .ok (.bipush 8, 2) := by decide +kernel
theorem dX0_dislikedOn_7 : decode cX0_dislikedOn 7 = .ok (.if_icmp .ge 27, 3) := by decide +kernel
theorem dX0_dislikedOn_10 : decode cX0_dislikedOn 10 = .ok (.aload_n 0, 1) := by decide +kernel
theorem dX0_dislikedOn_11 : decode cX0_dislikedOn 11 = .ok (.iload_n 3, 1) := by decide +kernel
theorem dX0_dislikedOn_12 : decode cX0_dislikedOn 12 = .ok (.iload_n 1, 1) := by decide +kernel
theorem dX0_dislikedOn_13 : decode cX0_dislikedOn 13 = .ok (.invokevirtual 108, 3) := by decide +kernel
theorem dX0_dislikedOn_16 : decode cX0_dislikedOn 16 = .ok (.ifCond .eq 12, 3) := by decide +kernel
theorem dX0_dislikedOn_19 : decode cX0_dislikedOn 19 = .ok (.iload_n 2, 1) := by decide +kernel
theorem dX0_dislikedOn_20 : decode cX0_dislikedOn 20 = .ok (.aload_n 0, 1) := by decide +kernel
theorem dX0_dislikedOn_21 : decode cX0_dislikedOn 21 = .ok (.getfield 27, 3) := by decide +kernel
theorem dX0_dislikedOn_24 : decode cX0_dislikedOn 24 = .ok (.iload_n 3, 1) := by decide +kernel
theorem dX0_dislikedOn_25 : decode cX0_dislikedOn 25 = .ok (.iaload, 1) := by decide +kernel
theorem dX0_dislikedOn_26 : decode cX0_dislikedOn 26 = .ok (.ior, 1) := by decide +kernel
theorem dX0_dislikedOn_27 : decode cX0_dislikedOn 27 = .ok (.istore_n 2, 1) := by decide +kernel
theorem dX0_dislikedOn_28 : decode cX0_dislikedOn 28 = .ok (.iinc 3 1, 3) := by decide +kernel
theorem dX0_dislikedOn_31 : decode cX0_dislikedOn 31 = .ok (.goto (-27), 3) := by decide +kernel
theorem dX0_dislikedOn_34 : decode cX0_dislikedOn 34 = .ok (.iload_n 2, 1) := by decide +kernel
theorem dX0_dislikedOn_35 : decode cX0_dislikedOn 35 = .ok (.ireturn, 1) := by decide +kernel
theorem dX0_wrongClaimers_0 : decode cX0_wrongClaimers 0 = .ok (.aload_n 0, 1) := by decide +kernel
theorem dX0_wrongClaimers_1 : decode cX0_wrongClaimers 1 = .ok (.getfield 9, 3) := by decide +kernel
theorem dX0_wrongClaimers_4 : decode cX0_wrongClaimers 4 = .ok (.iload_n 1, 1) := by decide +kernel
theorem dX0_wrongClaimers_5 : decode cX0_wrongClaimers 5 = .ok (.iaload, 1) := by decide +kernel
theorem dX0_wrongClaimers_6 : decode cX0_wrongClaimers 6 = .ok (.istore_n 2, 1) := by decide +kernel
theorem dX0_wrongClaimers_7 : decode cX0_wrongClaimers 7 = .ok (.iload_n 2, 1) := by decide +kernel
theorem dX0_wrongClaimers_8 : decode cX0_wrongClaimers 8 = .ok (.iconst (-1), 1) := by decide +kernel
theorem dX0_wrongClaimers_9 : decode cX0_wrongClaimers 9 = .ok (.if_icmp .ne 12, 3) := by decide +kernel
theorem dX0_wrongClaimers_12 : decode cX0_wrongClaimers 12 = .ok (.aload_n 0, 1) := by decide +kernel
theorem dX0_wrongClaimers_13 : decode cX0_wrongClaimers 13 = .ok (.getfield 15, 3) := by decide +kernel
theorem dX0_wrongClaimers_16 : decode cX0_wrongClaimers 16 = .ok (.iload_n 1, 1) := by decide +kernel
theorem dX0_wrongClaimers_17 : decode cX0_wrongClaimers 17 = .ok (.iaload, 1) := by decide +kernel
theorem dX0_wrongClaimers_18 : decode cX0_wrongClaimers 18 = .ok (.goto 15, 3) := by decide +kernel
theorem dX0_wrongClaimers_21 : decode cX0_wrongClaimers 21 = .ok (.aload_n 0, 1) := by decide +kernel
theorem dX0_wrongClaimers_22 : decode cX0_wrongClaimers 22 = .ok (.getfield 15, 3) := by decide +kernel
theorem dX0_wrongClaimers_25 : decode cX0_wrongClaimers 25 = .ok (.iload_n 1, 1) := by decide +kernel
theorem dX0_wrongClaimers_26 : decode cX0_wrongClaimers 26 = .ok (.iaload, 1) := by decide +kernel
theorem dX0_wrongClaimers_27 : decode cX0_wrongClaimers 27 = .ok (.iconst 1, 1) := by decide +kernel
theorem dX0_wrongClaimers_28 : decode cX0_wrongClaimers 28 = .ok (.iload_n 2, 1) := by decide +kernel
theorem dX0_wrongClaimers_29 : decode cX0_wrongClaimers 29 = .ok (.ishl, 1) := by decide +kernel
theorem dX0_wrongClaimers_30 : decode cX0_wrongClaimers 30 = .ok (.iconst (-1), 1) := by decide +kernel
theorem dX0_wrongClaimers_31 : decode cX0_wrongClaimers 31 = .ok (.ixor, 1) := by decide +kernel
theorem dX0_wrongClaimers_32 : decode cX0_wrongClaimers 32 = .ok (.iand, 1) := by decide +kernel
theorem dX0_wrongClaimers_33 : decode cX0_wrongClaimers 33 = .ok (.ireturn, 1) := by decide +kernel
theorem dX0_isFree_0 : decode cX0_isFree 0 = .ok (.aload_n 0, 1) := by decide +kernel
theorem dX0_isFree_1 : decode cX0_isFree 1 = .ok (.getfield 9, 3) := by decide +kernel
theorem dX0_isFree_4 : decode cX0_isFree 4 = .ok (.iload_n 1, 1) := by decide +kernel
theorem dX0_isFree_5 : decode cX0_isFree 5 = .ok (.iaload, 1) := by decide +kernel
theorem dX0_isFree_6 : decode cX0_isFree 6 = .ok (.iconst (-1), 1) := by decide +kernel
theorem dX0_isFree_7 : decode cX0_isFree 7 = .ok (.if_icmp .eq 17, 3) := by decide +kernel
theorem dX0_isFree_10 : decode cX0_isFree 10 = .ok (.aload_n 0, 1) := by decide +kernel
theorem dX0_isFree_11 : decode cX0_isFree 11 = .ok (.getfield 18, 3) := by decide +kernel
theorem dX0_isFree_14 : decode cX0_isFree 14 = .ok (.iload_n 1, 1) := by decide +kernel
theorem dX0_isFree_15 : decode cX0_isFree 15 = .ok (.iaload, 1) := by decide +kernel
theorem dX0_isFree_16 : decode cX0_isFree 16 = .ok (.iconst (-1), 1) := by decide +kernel
theorem dX0_isFree_17 : decode cX0_isFree 17 = .ok (.if_icmp .ne 7, 3) := by decide +kernel
theorem dX0_isFree_20 : decode cX0_isFree 20 = .ok (.iconst 1, 1) := by decide +kernel
theorem dX0_isFree_21 : decode cX0_isFree 21 = .ok (.goto 4, 3) := by decide +kernel
theorem dX0_isFree_24 : decode cX0_isFree 24 = .ok (.iconst 0, 1) := by decide +kernel
theorem dX0_isFree_25 : decode cX0_isFree 25 = .ok (.ireturn, 1) := by decide +kernel
theorem dX0_thingsSomewhere_0 : decode cX0_thingsSomewhere 0 = .ok (.iconst 0, 1) := by decide +kernel
theorem dX0_thingsSomewhere_1 : decode cX0_thingsSomewhere 1 = .ok (.istore_n 2, 1) := by decide +kernel
theorem dX0_thingsSomewhere_2 : decode cX0_thingsSomewhere 2 = .ok (.iload_n 1, 1) := by decide +kernel
theorem dX0_thingsSomewhere_3 : decode cX0_thingsSomewhere 3 = .ok (.istore_n 3, 1) := by decide +kernel
theorem dX0_thingsSomewhere_4 : decode cX0_thingsSomewhere 4 = .ok (.iload_n 3, 1) := by decide +kernel
theorem dX0_thingsSomewhere_5 : decode cX0_thingsSomewhere 5 = .ok (.bipush 40, 2) := by decide +kernel
theorem dX0_thingsSomewhere_7 : decode cX0_thingsSomewhere 7 = .ok (.if_icmp .ge 22, 3) := by decide +kernel
theorem dX0_thingsSomewhere_10 : decode cX0_thingsSomewhere 10 = .ok (.aload_n 0, 1) := by decide +kernel
theorem dX0_thingsSomewhere_11 : decode cX0_thingsSomewhere 11 = .ok (.getfield 9, 3) := by decide +kernel
theorem dX0_thingsSomewhere_14 : decode cX0_thingsSomewhere 14 = .ok (.iload_n 3, 1) := by decide +kernel
theorem dX0_thingsSomewhere_15 : decode cX0_thingsSomewhere 15 = .ok (.iaload, 1) := by decide +kernel
theorem dX0_thingsSomewhere_16 : decode cX0_thingsSomewhere 16 = .ok (.iconst (-1), 1) := by decide +kernel
theorem dX0_thingsSomewhere_17 : decode cX0_thingsSomewhere 17 = .ok (.if_icmp .eq 6, 3) := by decide +kernel
theorem dX0_thingsSomewhere_20 : decode cX0_thingsSomewhere 20 = .ok (.iinc 2 1, 3) := by decide +kernel
theorem dX0_thingsSomewhere_23 : decode cX0_thingsSomewhere 23 = .ok (.iinc 3 8, 3) := by decide +kernel
theorem dX0_thingsSomewhere_26 : decode cX0_thingsSomewhere 26 = .ok (.goto (-22), 3) := by decide +kernel
theorem dX0_thingsSomewhere_29 : decode cX0_thingsSomewhere 29 = .ok (.iload_n 2, 1) := by decide +kernel
theorem dX0_thingsSomewhere_30 : decode cX0_thingsSomewhere 30 = .ok (.ireturn, 1) := by decide +kernel
set_option maxRecDepth 20000 in
theorem ggX0_thingsFree_X0_isFree : GoodIn wsX0_thingsFree wsX0_isFree := goodIn_r _ [5, 6, 7, 8, 9, 10, 11, 12, 13, 14, 15, 16, 17] (by decide +kernel) (by decide +kernel)
set_option maxRecDepth 20000 in
theorem gX0_thingsFree_X0_isFree : GoodIn wsX0_thingsFree (wsV RX0 112 RX0 yX0_isFree wsX0_isFree) := goodIn_app (goodIn_of _ (by decide +kernel)) ggX0_thingsFree_X0_isFree
theorem dX0_thingsFree_0 : decode cX0_thingsFree 0 = .ok (.iconst 0, 1) := by decide +kernel
theorem dX0_thingsFree_1 : decode cX0_thingsFree 1 = .ok (.istore_n 2, 1) := by decide +kernel
theorem dX0_thingsFree_2 : decode cX0_thingsFree 2 = .ok (.iload_n 1, 1) := by decide +kernel
theorem dX0_thingsFree_3 : decode cX0_thingsFree 3 = .ok (.istore_n 3, 1) := by decide +kernel
theorem dX0_thingsFree_4 : decode cX0_thingsFree 4 = .ok (.iload_n 3, 1) := by decide +kernel
theorem dX0_thingsFree_5 : decode cX0_thingsFree 5 = .ok (.bipush 40, 2) := by decide +kernel
theorem dX0_thingsFree_7 : decode cX0_thingsFree 7 = .ok (.if_icmp .ge 20, 3) := by decide +kernel
theorem dX0_thingsFree_10 : decode cX0_thingsFree 10 = .ok (.aload_n 0, 1) := by decide +kernel
theorem dX0_thingsFree_11 : decode cX0_thingsFree 11 = .ok (.iload_n 3, 1) := by decide +kernel
theorem dX0_thingsFree_12 : decode cX0_thingsFree 12 = .ok (.invokevirtual 112, 3) := by decide +kernel
theorem dX0_thingsFree_15 : decode cX0_thingsFree 15 = .ok (.ifCond .eq 6, 3) := by decide +kernel
theorem dX0_thingsFree_18 : decode cX0_thingsFree 18 = .ok (.iinc 2 1, 3) := by decide +kernel
theorem dX0_thingsFree_21 : decode cX0_thingsFree 21 = .ok (.iinc 3 8, 3) := by decide +kernel
theorem dX0_thingsFree_24 : decode cX0_thingsFree 24 = .ok (.goto (-20), 3) := by decide +kernel
theorem dX0_thingsFree_27 : decode cX0_thingsFree 27 = .ok (.iload_n 2, 1) := by decide +kernel
theorem dX0_thingsFree_28 : decode cX0_thingsFree 28 = .ok (.ireturn, 1) := by decide +kernel
theorem dX0_thingsKept_0 : decode cX0_thingsKept 0 = .ok (.iconst 0, 1) := by decide +kernel
theorem dX0_thingsKept_1 : decode cX0_thingsKept 1 = .ok (.istore_n 3, 1) := by decide +kernel
theorem dX0_thingsKept_2 : decode cX0_thingsKept 2 = .ok (.iload_n 2, 1) := by decide +kernel
theorem dX0_thingsKept_3 : decode cX0_thingsKept 3 = .ok (.istore 4, 2) := by decide +kernel
theorem dX0_thingsKept_5 : decode cX0_thingsKept 5 = .ok (.iload 4, 2) := by decide +kernel
theorem dX0_thingsKept_7 : decode cX0_thingsKept 7 = .ok (.bipush 40, 2) := by decide +kernel
theorem dX0_thingsKept_9 : decode cX0_thingsKept 9 = .ok (.if_icmp .ge 23, 3) := by decide +kernel
theorem dX0_thingsKept_12 : decode cX0_thingsKept 12 = .ok (.aload_n 0, 1) := by decide +kernel
theorem dX0_thingsKept_13 : decode cX0_thingsKept 13 = .ok (.getfield 18, 3) := by decide +kernel
theorem dX0_thingsKept_16 : decode cX0_thingsKept 16 = .ok (.iload 4, 2) := by decide +kernel
theorem dX0_thingsKept_18 : decode cX0_thingsKept 18 = .ok (.iaload, 1) := by decide +kernel
theorem dX0_thingsKept_19 : decode cX0_thingsKept 19 = .ok (.iload_n 1, 1) := by decide +kernel
theorem dX0_thingsKept_20 : decode cX0_thingsKept 20 = .ok (.if_icmp .ne 6, 3) := by decide +kernel
theorem dX0_thingsKept_23 : decode cX0_thingsKept 23 = .ok (.iinc 3 1, 3) := by decide +kernel
theorem dX0_thingsKept_26 : decode cX0_thingsKept 26 = .ok (.iinc 4 8, 3) := by decide +kernel
theorem dX0_thingsKept_29 : decode cX0_thingsKept 29 = .ok (.goto (-24), 3) := by decide +kernel
theorem dX0_thingsKept_32 : decode cX0_thingsKept 32 = .ok (.iload_n 3, 1) := by decide +kernel
theorem dX0_thingsKept_33 : decode cX0_thingsKept 33 = .ok (.ireturn, 1) := by decide +kernel
theorem dX1_init_0 : decode cX1_init 0 = .ok (.aload_n 0, 1) := by decide +kernel
theorem dX1_init_1 : decode cX1_init 1 = .ok (.invokespecial 1, 3) := by decide +kernel
theorem dX1_init_4 : decode cX1_init 4 = .ok (.aload_n 0, 1) := by decide +kernel
theorem dX1_init_5 : decode cX1_init 5 = .ok (.iconst 0, 1) := by decide +kernel
theorem dX1_init_6 : decode cX1_init 6 = .ok (.putfield 7, 3) := by decide +kernel
theorem dX1_init_9 : decode cX1_init 9 = .ok (.aload_n 0, 1) := by decide +kernel
theorem dX1_init_10 : decode cX1_init 10 = .ok (.iconst 0, 1) := by decide +kernel
theorem dX1_init_11 : decode cX1_init 11 = .ok (.putfield 13, 3) := by decide +kernel
theorem dX1_init_14 : decode cX1_init 14 = .ok (.aload_n 0, 1) := by decide +kernel
theorem dX1_init_15 : decode cX1_init 15 = .ok (.iconst 0, 1) := by decide +kernel
theorem dX1_init_16 : decode cX1_init 16 = .ok (.putfield 16, 3) := by decide +kernel
theorem dX1_init_19 : decode cX1_init 19 = .ok (.aload_n 0, 1) := by decide +kernel
theorem dX1_init_20 : decode cX1_init 20 = .ok (.aconst_null, 1) := by decide +kernel
theorem dX1_init_21 : decode cX1_init 21 = .ok (.putfield 19, 3) := by decide +kernel
theorem dX1_init_24 : decode cX1_init 24 = .ok (.aload_n 0, 1) := by decide +kernel
theorem dX1_init_25 : decode cX1_init 25 = .ok (.iload_n 1, 1) := by decide +kernel
theorem dX1_init_26 : decode cX1_init 26 = .ok (.putfield 23, 3) := by decide +kernel
theorem dX1_init_29 : decode cX1_init 29 = .ok (.aload_n 0, 1) := by decide +kernel
theorem dX1_init_30 : decode cX1_init 30 = .ok (.iload_n 2, 1) := by decide +kernel
theorem dX1_init_31 : decode cX1_init 31 = .ok (.putfield 26, 3) := by decide +kernel
theorem dX1_init_34 : decode cX1_init 34 = .ok (.aload_n 0, 1) := by decide +kernel
theorem dX1_init_35 : decode cX1_init 35 = .ok (.iload_n 3, 1) := by decide +kernel
theorem dX1_init_36 : decode cX1_init 36 = .ok (.putfield 29, 3) := by decide +kernel
theorem dX1_init_39 : decode cX1_init 39 = .ok (.aload_n 0, 1) := by decide +kernel
theorem dX1_init_40 : decode cX1_init 40 = .ok (.iload 4, 2) := by decide +kernel
theorem dX1_init_42 : decode cX1_init 42 = .ok (.putfield 32, 3) := by decide +kernel
theorem dX1_init_45 : decode cX1_init 45 = .ok (.aload_n 0, 1) := by decide +kernel
theorem dX1_init_46 : decode cX1_init 46 = .ok (.iload 5, 2) := by decide +kernel
theorem dX1_init_48 : decode cX1_init 48 = .ok (.putfield 35, 3) := by decide +kernel
theorem dX1_init_51 : decode cX1_init 51 = .ok (.aload_n 0, 1) := by decide +kernel
theorem dX1_init_52 : decode cX1_init 52 = .ok (.iconst 1, 1) := by decide +kernel
theorem dX1_init_53 : decode cX1_init 53 = .ok (.iload_n 3, 1) := by decide +kernel
theorem dX1_init_54 : decode cX1_init 54 = .ok (.ishl, 1) := by decide +kernel
theorem dX1_init_55 : decode cX1_init 55 = .ok (.putfield 38, 3) := by decide +kernel
theorem dX1_init_58 : decode cX1_init 58 = .ok (.return_, 1) := by decide +kernel
theorem dX1_isLaterThan_0 : decode cX1_isLaterThan 0 = .ok (.aload_n 0, 1) := by decide +kernel
theorem dX1_isLaterThan_1 : decode cX1_isLaterThan 1 = .ok (.getfield 26, 3) := by decide +kernel
theorem dX1_isLaterThan_4 : decode cX1_isLaterThan 4 = .ok (.aload_n 1, 1) := by decide +kernel
theorem dX1_isLaterThan_5 : decode cX1_isLaterThan 5 = .ok (.getfield 26, 3) := by decide +kernel
theorem dX1_isLaterThan_8 : decode cX1_isLaterThan 8 = .ok (.if_icmp .eq 22, 3) := by decide +kernel
theorem dX1_isLaterThan_11 : decode cX1_isLaterThan 11 = .ok (.aload_n 0, 1) := by decide +kernel
theorem dX1_isLaterThan_12 : decode cX1_isLaterThan 12 = .ok (.getfield 26, 3) := by decide +kernel
theorem dX1_isLaterThan_15 : decode cX1_isLaterThan 15 = .ok (.aload_n 1, 1) := by decide +kernel
theorem dX1_isLaterThan_16 : decode cX1_isLaterThan 16 = .ok (.getfield 26, 3) := by decide +kernel
theorem dX1_isLaterThan_19 : decode cX1_isLaterThan 19 = .ok (.if_icmp .le 7, 3) := by decide +kernel
theorem dX1_isLaterThan_22 : decode cX1_isLaterThan 22 = .ok (.iconst 1, 1) := by decide +kernel
theorem dX1_isLaterThan_23 : decode cX1_isLaterThan 23 = .ok (.goto 23, 3) := by decide +kernel
theorem dX1_isLaterThan_26 : decode cX1_isLaterThan 26 = .ok (.iconst 0, 1) := by decide +kernel
theorem dX1_isLaterThan_27 : decode cX1_isLaterThan 27 = .ok (.goto 19, 3) := by decide +kernel
theorem dX1_isLaterThan_30 : decode cX1_isLaterThan 30 = .ok (.aload_n 0, 1) := by decide +kernel
theorem dX1_isLaterThan_31 : decode cX1_isLaterThan 31 = .ok (.getfield 29, 3) := by decide +kernel
theorem dX1_isLaterThan_34 : decode cX1_isLaterThan 34 = .ok (.aload_n 1, 1) := by decide +kernel
theorem dX1_isLaterThan_35 : decode cX1_isLaterThan 35 = .ok (.getfield 29, 3) := by decide +kernel
theorem dX1_isLaterThan_38 : decode cX1_isLaterThan 38 = .ok (.if_icmp .le 7, 3) := by decide +kernel
theorem dX1_isLaterThan_41 : decode cX1_isLaterThan 41 = .ok (.iconst 1, 1) := by decide +kernel
theorem dX1_isLaterThan_42 : decode cX1_isLaterThan 42 = .ok (.goto 4, 3) := by decide +kernel
theorem dX1_isLaterThan_45 : decode cX1_isLaterThan 45 = .ok (.iconst 0, 1) := by decide +kernel
theorem dX1_isLaterThan_46 : decode cX1_isLaterThan 46 = .ok (.ireturn, 1) := by decide +kernel
theorem dX2_init_0 : decode cX2_init 0 = .ok (.aload_n 0, 1) := by decide +kernel
theorem dX2_init_1 : decode cX2_init 1 = .ok (.invokespecial 1, 3) := by decide +kernel
theorem dX2_init_4 : decode cX2_init 4 = .ok (.aload_n 0, 1) := by decide +kernel
theorem dX2_init_5 : decode cX2_init 5 = .ok (.aconst_null, 1) := by decide +kernel
theorem dX2_init_6 : decode cX2_init 6 = .ok (.putfield 7, 3) := by decide +kernel
theorem dX2_init_9 : decode cX2_init 9 = .ok (.aload_n 0, 1) := by decide +kernel
theorem dX2_init_10 : decode cX2_init 10 = .ok (.iconst 0, 1) := by decide +kernel
theorem dX2_init_11 : decode cX2_init 11 = .ok (.putfield 13, 3) := by decide +kernel
theorem dX2_init_14 : decode cX2_init 14 = .ok (.return_, 1) := by decide +kernel
set_option maxRecDepth 20000 in
theorem ggX2_insert_X1_isLaterThan : GoodIn wsX2_insert wsX1_isLaterThan := goodIn_r _ [8, 9, 10, 13, 14, 15, 16, 17, 18, 19, 20, 21, 22] (by decide +kernel) (by decide +kernel)
set_option maxRecDepth 20000 in
theorem gX2_insert_X1_isLaterThan : GoodIn wsX2_insert (wsV RX2 17 RX1 yX1_isLaterThan wsX1_isLaterThan) := goodIn_app (goodIn_of _ (by decide +kernel)) ggX2_insert_X1_isLaterThan
theorem dX2_insert_0 : decode cX2_insert 0 = .ok (.aconst_null, 1) := by decide +kernel
theorem dX2_insert_1 : decode cX2_insert 1 = .ok (.astore_n 2, 1) := by decide +kernel
theorem dX2_insert_2 : decode cX2_insert 2 = .ok (.aload_n 0, 1) := by decide +kernel
theorem dX2_insert_3 : decode cX2_insert 3 = .ok (.getfield 7, 3) := by decide +kernel
theorem dX2_insert_6 : decode cX2_insert 6 = .ok (.astore_n 3, 1) := by decide +kernel
theorem dX2_insert_7 : decode cX2_insert 7 = .ok (.aload_n 3, 1) := by decide +kernel
theorem dX2_insert_8 : decode cX2_insert 8 = .ok (.ifnull 21, 3) := by decide +kernel
theorem dX2_insert_11 : decode cX2_insert 11 = .ok (.aload_n 1, 1) := by decide +kernel
theorem dX2_insert_12 : decode cX2_insert 12 = .ok (.aload_n 3, 1) := by decide +kernel
theorem dX2_insert_13 : decode cX2_insert 13 = .ok (.invokevirtual 17, 3) := by decide +kernel
theorem dX2_insert_16 : decode cX2_insert 16 = .ok (.ifCond .eq 13, 3) := by decide +kernel
theorem dX2_insert_19 : decode cX2_insert 19 = .ok (.aload_n 3, 1) := by decide +kernel
theorem dX2_insert_20 : decode cX2_insert 20 = .ok (.astore_n 2, 1) := by decide +kernel
theorem dX2_insert_21 : decode cX2_insert 21 = .ok (.aload_n 3, 1) := by decide +kernel
theorem dX2_insert_22 : decode cX2_insert 22 = .ok (.getfield 23, 3) := by decide +kernel
theorem dX2_insert_25 : decode cX2_insert 25 = .ok (.astore_n 3, 1) := by decide +kernel
theorem dX2_insert_26 : decode cX2_insert 26 = .ok (.goto (-19), 3) := by decide +kernel
theorem dX2_insert_29 : decode cX2_insert 29 = .ok (.aload_n 1, 1) := by decide +kernel
theorem dX2_insert_30 : decode cX2_insert 30 = .ok (.aload_n 3, 1) := by decide +kernel
theorem dX2_insert_31 : decode cX2_insert 31 = .ok (.putfield 23, 3) := by decide +kernel
theorem dX2_insert_34 : decode cX2_insert 34 = .ok (.aload_n 2, 1) := by decide +kernel
theorem dX2_insert_35 : decode cX2_insert 35 = .ok (.ifnonnull 11, 3) := by decide +kernel
theorem dX2_insert_38 : decode cX2_insert 38 = .ok (.aload_n 0, 1) := by decide +kernel
theorem dX2_insert_39 : decode cX2_insert 39 = .ok (.aload_n 1, 1) := by decide +kernel
theorem dX2_insert_40 : decode cX2_insert 40 = .ok (.putfield 7, 3) := by decide +kernel
theorem dX2_insert_43 : decode cX2_insert 43 = .ok (.goto 8, 3) := by decide +kernel
theorem dX2_insert_46 : decode cX2_insert 46 = .ok (.aload_n 2, 1) := by decide +kernel
theorem dX2_insert_47 : decode cX2_insert 47 = .ok (.aload_n 1, 1) := by decide +kernel
theorem dX2_insert_48 : decode cX2_insert 48 = .ok (.putfield 23, 3) := by decide +kernel
theorem dX2_insert_51 : decode cX2_insert 51 = .ok (.aload_n 0, 1) := by decide +kernel
theorem dX2_insert_52 : decode cX2_insert 52 = .ok (.dup, 1) := by decide +kernel
theorem dX2_insert_53 : decode cX2_insert 53 = .ok (.getfield 13, 3) := by decide +kernel
theorem dX2_insert_56 : decode cX2_insert 56 = .ok (.iconst 1, 1) := by decide +kernel
theorem dX2_insert_57 : decode cX2_insert 57 = .ok (.iadd, 1) := by decide +kernel
theorem dX2_insert_58 : decode cX2_insert 58 = .ok (.putfield 13, 3) := by decide +kernel
theorem dX2_insert_61 : decode cX2_insert 61 = .ok (.return_, 1) := by decide +kernel
theorem dX2_sizeKnownTo_0 : decode cX2_sizeKnownTo 0 = .ok (.iconst 0, 1) := by decide +kernel
theorem dX2_sizeKnownTo_1 : decode cX2_sizeKnownTo 1 = .ok (.istore_n 2, 1) := by decide +kernel
theorem dX2_sizeKnownTo_2 : decode cX2_sizeKnownTo 2 = .ok (.aload_n 0, 1) := by decide +kernel
theorem dX2_sizeKnownTo_3 : decode cX2_sizeKnownTo 3 = .ok (.getfield 7, 3) := by decide +kernel
theorem dX2_sizeKnownTo_6 : decode cX2_sizeKnownTo 6 = .ok (.astore_n 3, 1) := by decide +kernel
theorem dX2_sizeKnownTo_7 : decode cX2_sizeKnownTo 7 = .ok (.aload_n 3, 1) := by decide +kernel
theorem dX2_sizeKnownTo_8 : decode cX2_sizeKnownTo 8 = .ok (.ifnull 23, 3) := by decide +kernel
theorem dX2_sizeKnownTo_11 : decode cX2_sizeKnownTo 11 = .ok (.aload_n 3, 1) := by decide +kernel
theorem dX2_sizeKnownTo_12 : decode cX2_sizeKnownTo 12 = .ok (.getfield 26, 3) := by decide +kernel
theorem dX2_sizeKnownTo_15 : decode cX2_sizeKnownTo 15 = .ok (.iload_n 1, 1) := by decide +kernel
theorem dX2_sizeKnownTo_16 : decode cX2_sizeKnownTo 16 = .ok (.iand, 1) := by decide +kernel
theorem dX2_sizeKnownTo_17 : decode cX2_sizeKnownTo 17 = .ok (.ifCond .eq 6, 3) := by decide +kernel
theorem dX2_sizeKnownTo_20 : decode cX2_sizeKnownTo 20 = .ok (.iinc 2 1, 3) := by decide +kernel
theorem dX2_sizeKnownTo_23 : decode cX2_sizeKnownTo 23 = .ok (.aload_n 3, 1) := by decide +kernel
theorem dX2_sizeKnownTo_24 : decode cX2_sizeKnownTo 24 = .ok (.getfield 23, 3) := by decide +kernel
theorem dX2_sizeKnownTo_27 : decode cX2_sizeKnownTo 27 = .ok (.astore_n 3, 1) := by decide +kernel
theorem dX2_sizeKnownTo_28 : decode cX2_sizeKnownTo 28 = .ok (.goto (-21), 3) := by decide +kernel
theorem dX2_sizeKnownTo_31 : decode cX2_sizeKnownTo 31 = .ok (.iload_n 2, 1) := by decide +kernel
theorem dX2_sizeKnownTo_32 : decode cX2_sizeKnownTo 32 = .ok (.ireturn, 1) := by decide +kernel
theorem dX2_shareAmong_0 : decode cX2_shareAmong 0 = .ok (.iconst 0, 1) := by decide +kernel
theorem dX2_shareAmong_1 : decode cX2_shareAmong 1 = .ok (.istore_n 2, 1) := by decide +kernel
theorem dX2_shareAmong_2 : decode cX2_shareAmong 2 = .ok (.aload_n 0, 1) := by decide +kernel
theorem dX2_shareAmong_3 : decode cX2_shareAmong 3 = .ok (.getfield 7, 3) := by decide +kernel
theorem dX2_shareAmong_6 : decode cX2_shareAmong 6 = .ok (.astore_n 3, 1) := by decide +kernel
theorem dX2_shareAmong_7 : decode cX2_shareAmong 7 = .ok (.aload_n 3, 1) := by decide +kernel
theorem dX2_shareAmong_8 : decode cX2_shareAmong 8 = .ok (.ifnull 43, 3) := by decide +kernel
theorem dX2_shareAmong_11 : decode cX2_shareAmong 11 = .ok (.aload_n 3, 1) := by decide +kernel
theorem dX2_shareAmong_12 : decode cX2_shareAmong 12 = .ok (.getfield 26, 3) := by decide +kernel
theorem dX2_shareAmong_15 : decode cX2_shareAmong 15 = .ok (.iload_n 1, 1) := by decide +kernel
theorem dX2_shareAmong_16 : decode cX2_shareAmong 16 = .ok (.iand, 1) := by decide +kernel
theorem dX2_shareAmong_17 : decode cX2_shareAmong 17 = .ok (.istore 4, 2) := by decide +kernel
theorem dX2_shareAmong_19 : decode cX2_shareAmong 19 = .ok (.iload 4, 2) := by decide +kernel
theorem dX2_shareAmong_21 : decode cX2_shareAmong 21 = .ok (.ifCond .eq 22, 3) := by decide +kernel
theorem dX2_shareAmong_24 : decode cX2_shareAmong 24 = .ok (.iload 4, 2) := by decide +kernel
theorem dX2_shareAmong_26 : decode cX2_shareAmong 26 = .ok (.iload_n 1, 1) := by decide +kernel
theorem dX2_shareAmong_27 : decode cX2_shareAmong 27 = .ok (.if_icmp .eq 16, 3) := by decide +kernel
theorem dX2_shareAmong_30 : decode cX2_shareAmong 30 = .ok (.aload_n 3, 1) := by decide +kernel
theorem dX2_shareAmong_31 : decode cX2_shareAmong 31 = .ok (.dup, 1) := by decide +kernel
theorem dX2_shareAmong_32 : decode cX2_shareAmong 32 = .ok (.getfield 26, 3) := by decide +kernel
theorem dX2_shareAmong_35 : decode cX2_shareAmong 35 = .ok (.iload_n 1, 1) := by decide +kernel
theorem dX2_shareAmong_36 : decode cX2_shareAmong 36 = .ok (.ior, 1) := by decide +kernel
theorem dX2_shareAmong_37 : decode cX2_shareAmong 37 = .ok (.putfield 26, 3) := by decide +kernel
theorem dX2_shareAmong_40 : decode cX2_shareAmong 40 = .ok (.iinc 2 1, 3) := by decide +kernel
theorem dX2_shareAmong_43 : decode cX2_shareAmong 43 = .ok (.aload_n 3, 1) := by decide +kernel
theorem dX2_shareAmong_44 : decode cX2_shareAmong 44 = .ok (.getfield 23, 3) := by decide +kernel
theorem dX2_shareAmong_47 : decode cX2_shareAmong 47 = .ok (.astore_n 3, 1) := by decide +kernel
theorem dX2_shareAmong_48 : decode cX2_shareAmong 48 = .ok (.goto (-41), 3) := by decide +kernel
theorem dX2_shareAmong_51 : decode cX2_shareAmong 51 = .ok (.iload_n 2, 1) := by decide +kernel
theorem dX2_shareAmong_52 : decode cX2_shareAmong 52 = .ok (.ireturn, 1) := by decide +kernel
theorem dJ6_bitCount_0f7a4_0 : decode cJ6_bitCount_0f7a4 0 = .ok (.iload_n 0, 1) := by decide +kernel
theorem dJ6_bitCount_0f7a4_1 : decode cJ6_bitCount_0f7a4 1 = .ok (.iload_n 0, 1) := by decide +kernel
theorem dJ6_bitCount_0f7a4_2 : decode cJ6_bitCount_0f7a4 2 = .ok (.iconst 1, 1) := by decide +kernel
theorem dJ6_bitCount_0f7a4_3 : decode cJ6_bitCount_0f7a4 3 = .ok (.iushr, 1) := by decide +kernel
theorem dJ6_bitCount_0f7a4_4 : decode cJ6_bitCount_0f7a4 4 = .ok (.ldc_w 265, 3) := by decide +kernel
theorem dJ6_bitCount_0f7a4_7 : decode cJ6_bitCount_0f7a4 7 = .ok (.iand, 1) := by decide +kernel
theorem dJ6_bitCount_0f7a4_8 : decode cJ6_bitCount_0f7a4 8 = .ok (.isub, 1) := by decide +kernel
theorem dJ6_bitCount_0f7a4_9 : decode cJ6_bitCount_0f7a4 9 = .ok (.istore_n 0, 1) := by decide +kernel
theorem dJ6_bitCount_0f7a4_10 : decode cJ6_bitCount_0f7a4 10 = .ok (.iload_n 0, 1) := by decide +kernel
theorem dJ6_bitCount_0f7a4_11 : decode cJ6_bitCount_0f7a4 11 = .ok (.ldc_w 266, 3) := by decide +kernel
theorem dJ6_bitCount_0f7a4_14 : decode cJ6_bitCount_0f7a4 14 = .ok (.iand, 1) := by decide +kernel
theorem dJ6_bitCount_0f7a4_15 : decode cJ6_bitCount_0f7a4 15 = .ok (.iload_n 0, 1) := by decide +kernel
theorem dJ6_bitCount_0f7a4_16 : decode cJ6_bitCount_0f7a4 16 = .ok (.iconst 2, 1) := by decide +kernel
theorem dJ6_bitCount_0f7a4_17 : decode cJ6_bitCount_0f7a4 17 = .ok (.iushr, 1) := by decide +kernel
theorem dJ6_bitCount_0f7a4_18 : decode cJ6_bitCount_0f7a4 18 = .ok (.ldc_w 266, 3) := by decide +kernel
theorem dJ6_bitCount_0f7a4_21 : decode cJ6_bitCount_0f7a4 21 = .ok (.iand, 1) := by decide +kernel
theorem dJ6_bitCount_0f7a4_22 : decode cJ6_bitCount_0f7a4 22 = .ok (.iadd, 1) := by decide +kernel
theorem dJ6_bitCount_0f7a4_23 : decode cJ6_bitCount_0f7a4 23 = .ok (.istore_n 0, 1) := by decide +kernel
theorem dJ6_bitCount_0f7a4_24 : decode cJ6_bitCount_0f7a4 24 = .ok (.iload_n 0, 1) := by decide +kernel
theorem dJ6_bitCount_0f7a4_25 : decode cJ6_bitCount_0f7a4 25 = .ok (.iload_n 0, 1) := by decide +kernel
theorem dJ6_bitCount_0f7a4_26 : decode cJ6_bitCount_0f7a4 26 = .ok (.iconst 4, 1) := by decide +kernel
theorem dJ6_bitCount_0f7a4_27 : decode cJ6_bitCount_0f7a4 27 = .ok (.iushr, 1) := by decide +kernel
theorem dJ6_bitCount_0f7a4_28 : decode cJ6_bitCount_0f7a4 28 = .ok (.iadd, 1) := by decide +kernel
theorem dJ6_bitCount_0f7a4_29 : decode cJ6_bitCount_0f7a4 29 = .ok (.ldc_w 267, 3) := by decide +kernel
theorem dJ6_bitCount_0f7a4_32 : decode cJ6_bitCount_0f7a4 32 = .ok (.iand, 1) := by decide +kernel
theorem dJ6_bitCount_0f7a4_33 : decode cJ6_bitCount_0f7a4 33 = .ok (.istore_n 0, 1) := by decide +kernel
theorem dJ6_bitCount_0f7a4_34 : decode cJ6_bitCount_0f7a4 34 = .ok (.iload_n 0, 1) := by decide +kernel
theorem dJ6_bitCount_0f7a4_35 : decode cJ6_bitCount_0f7a4 35 = .ok (.iload_n 0, 1) := by decide +kernel
theorem dJ6_bitCount_0f7a4_36 : decode cJ6_bitCount_0f7a4 36 = .ok (.bipush 8, 2) := by decide +kernel
theorem dJ6_bitCount_0f7a4_38 : decode cJ6_bitCount_0f7a4 38 = .ok (.iushr, 1) := by decide +kernel
theorem dJ6_bitCount_0f7a4_39 : decode cJ6_bitCount_0f7a4 39 = .ok (.iadd, 1) := by decide +kernel
theorem dJ6_bitCount_0f7a4_40 : decode cJ6_bitCount_0f7a4 40 = .ok (.istore_n 0, 1) := by decide +kernel
theorem dJ6_bitCount_0f7a4_41 : decode cJ6_bitCount_0f7a4 41 = .ok (.iload_n 0, 1) := by decide +kernel
theorem dJ6_bitCount_0f7a4_42 : decode cJ6_bitCount_0f7a4 42 = .ok (.iload_n 0, 1) := by decide +kernel
theorem dJ6_bitCount_0f7a4_43 : decode cJ6_bitCount_0f7a4 43 = .ok (.bipush 16, 2) := by decide +kernel
theorem dJ6_bitCount_0f7a4_45 : decode cJ6_bitCount_0f7a4 45 = .ok (.iushr, 1) := by decide +kernel
theorem dJ6_bitCount_0f7a4_46 : decode cJ6_bitCount_0f7a4 46 = .ok (.iadd, 1) := by decide +kernel
theorem dJ6_bitCount_0f7a4_47 : decode cJ6_bitCount_0f7a4 47 = .ok (.istore_n 0, 1) := by decide +kernel
theorem dJ6_bitCount_0f7a4_48 : decode cJ6_bitCount_0f7a4 48 = .ok (.iload_n 0, 1) := by decide +kernel
theorem dJ6_bitCount_0f7a4_49 : decode cJ6_bitCount_0f7a4 49 = .ok (.bipush 63, 2) := by decide +kernel
theorem dJ6_bitCount_0f7a4_51 : decode cJ6_bitCount_0f7a4 51 = .ok (.iand, 1) := by decide +kernel
theorem dJ6_bitCount_0f7a4_52 : decode cJ6_bitCount_0f7a4 52 = .ok (.ireturn, 1) := by decide +kernel
theorem dJ9_max_7cf53_0 : decode cJ9_max_7cf53 0 = .ok (.iload_n 0, 1) := by decide +kernel
theorem dJ9_max_7cf53_1 : decode cJ9_max_7cf53 1 = .ok (.iload_n 1, 1) := by decide +kernel
theorem dJ9_max_7cf53_2 : decode cJ9_max_7cf53 2 = .ok (.if_icmp .lt 7, 3) := by decide +kernel
theorem dJ9_max_7cf53_5 : decode cJ9_max_7cf53 5 = .ok (.iload_n 0, 1) := by decide +kernel
theorem dJ9_max_7cf53_6 : decode cJ9_max_7cf53 6 = .ok (.goto 4, 3) := by decide +kernel
theorem dJ9_max_7cf53_9 : decode cJ9_max_7cf53 9 = .ok (.iload_n 1, 1) := by decide +kernel
theorem dJ9_max_7cf53_10 : decode cJ9_max_7cf53 10 = .ok (.ireturn, 1) := by decide +kernel
theorem dJ9_min_7cf53_0 : decode cJ9_min_7cf53 0 = .ok (.iload_n 0, 1) := by decide +kernel
theorem dJ9_min_7cf53_1 : decode cJ9_min_7cf53 1 = .ok (.iload_n 1, 1) := by decide +kernel
theorem dJ9_min_7cf53_2 : decode cJ9_min_7cf53 2 = .ok (.if_icmp .gt 7, 3) := by decide +kernel
theorem dJ9_min_7cf53_5 : decode cJ9_min_7cf53 5 = .ok (.iload_n 0, 1) := by decide +kernel
theorem dJ9_min_7cf53_6 : decode cJ9_min_7cf53 6 = .ok (.goto 4, 3) := by decide +kernel
theorem dJ9_min_7cf53_9 : decode cJ9_min_7cf53 9 = .ok (.iload_n 1, 1) := by decide +kernel
theorem dJ9_min_7cf53_10 : decode cJ9_min_7cf53 10 = .ok (.ireturn, 1) := by decide +kernel
theorem dJ7_fill_53178_0 : decode cJ7_fill_53178 0 = .ok (.iconst 0, 1) := by decide +kernel
theorem dJ7_fill_53178_1 : decode cJ7_fill_53178 1 = .ok (.istore_n 2, 1) := by decide +kernel
theorem dJ7_fill_53178_2 : decode cJ7_fill_53178 2 = .ok (.aload_n 0, 1) := by decide +kernel
theorem dJ7_fill_53178_3 : decode cJ7_fill_53178 3 = .ok (.arraylength, 1) := by decide +kernel
theorem dJ7_fill_53178_4 : decode cJ7_fill_53178 4 = .ok (.istore_n 3, 1) := by decide +kernel
theorem dJ7_fill_53178_5 : decode cJ7_fill_53178 5 = .ok (.iload_n 2, 1) := by decide +kernel
theorem dJ7_fill_53178_6 : decode cJ7_fill_53178 6 = .ok (.iload_n 3, 1) := by decide +kernel
theorem dJ7_fill_53178_7 : decode cJ7_fill_53178 7 = .ok (.if_icmp .ge 13, 3) := by decide +kernel
theorem dJ7_fill_53178_10 : decode cJ7_fill_53178 10 = .ok (.aload_n 0, 1) := by decide +kernel
theorem dJ7_fill_53178_11 : decode cJ7_fill_53178 11 = .ok (.iload_n 2, 1) := by decide +kernel
theorem dJ7_fill_53178_12 : decode cJ7_fill_53178 12 = .ok (.iload_n 1, 1) := by decide +kernel
theorem dJ7_fill_53178_13 : decode cJ7_fill_53178 13 = .ok (.iastore, 1) := by decide +kernel
theorem dJ7_fill_53178_14 : decode cJ7_fill_53178 14 = .ok (.iinc 2 1, 3) := by decide +kernel
theorem dJ7_fill_53178_17 : decode cJ7_fill_53178 17 = .ok (.goto (-12), 3) := by decide +kernel
theorem dJ7_fill_53178_20 : decode cJ7_fill_53178 20 = .ok (.return_, 1) := by decide +kernel
