theorem dX3_drop_13 : decode cX3_drop 13 = .ok (.aload_n 0, 1) := by decide +kernel
theorem dX3_drop_14 : decode cX3_drop 14 = .ok (.iload_n 1, 1) := by decide +kernel
theorem dX3_drop_15 : decode cX3_drop 15 = .ok (.invokevirtual 46, 3) := by decide +kernel
theorem dX3_drop_18 : decode cX3_drop 18 = .ok (.aload_n 0, 1) := by decide +kernel
theorem dX3_drop_19 : decode cX3_drop 19 = .ok (.iload_n 2, 1) := by decide +kernel
theorem dX3_drop_20 : decode cX3_drop 20 = .ok (.invokevirtual 128, 3) := by decide +kernel
theorem dX3_drop_23 : decode cX3_drop 23 = .ok (.aload_n 0, 1) := by decide +kernel
theorem dX3_drop_24 : decode cX3_drop 24 = .ok (.iconst 1, 1) := by decide +kernel
theorem dX3_drop_25 : decode cX3_drop 25 = .ok (.invokevirtual 60, 3) := by decide +kernel
theorem dX3_drop_28 : decode cX3_drop 28 = .ok (.aload_n 0, 1) := by decide +kernel
theorem dX3_drop_29 : decode cX3_drop 29 = .ok (.iload_n 1, 1) := by decide +kernel
theorem dX3_drop_30 : decode cX3_drop 30 = .ok (.iconst 5, 1) := by decide +kernel
theorem dX3_drop_31 : decode cX3_drop 31 = .ok (.iconst (-1), 1) := by decide +kernel
theorem dX3_drop_32 : decode cX3_drop 32 = .ok (.iload_n 2, 1) := by decide +kernel
theorem dX3_drop_33 : decode cX3_drop 33 = .ok (.invokevirtual 65, 3) := by decide +kernel
theorem dX3_drop_36 : decode cX3_drop 36 = .ok (.pop, 1) := by decide +kernel
theorem dX3_drop_37 : decode cX3_drop 37 = .ok (.aload_n 0, 1) := by decide +kernel
theorem dX3_drop_38 : decode cX3_drop 38 = .ok (.iload_n 2, 1) := by decide +kernel
theorem dX3_drop_39 : decode cX3_drop 39 = .ok (.invokevirtual 137, 3) := by decide +kernel
theorem dX3_drop_42 : decode cX3_drop 42 = .ok (.ireturn, 1) := by decide +kernel
set_option maxRecDepth 20000 in
theorem ggX3_bake_X3_checkNumber : GoodIn wsX3_bake wsX3_checkNumber := goodIn_ca (goodIn_r _ [9, 10, 11] (by decide +kernel) (by decide +kernel)) (goodIn_sub (fun _ h => List.mem_cons_of_mem _ (List.mem_append_right _ h)) (by decide +kernel))
set_option maxRecDepth 20000 in
theorem gX3_bake_X3_checkNumber : GoodIn wsX3_bake (va_wsS RX3 42 yX3_checkNumber wsX3_checkNumber) := goodIn_app (goodIn_of _ (by decide +kernel)) ggX3_bake_X3_checkNumber
set_option maxRecDepth 20000 in
theorem ggX3_bake_X3_lookAs : GoodIn wsX3_bake wsX3_lookAs := goodIn_r _ [15, 4, 16, 17, 18, 19, 20, 21, 22, 23, 24, 25, 26, 27, 28, 29, 30, 31, 32, 33, 34, 35, 36, 37, 38, 39, 40, 41, 42, 43, 44, 45, 46, 47, 48, 49, 50, 51, 52, 53, 54, 55, 56, 57, 58, 59, 60, 61, 62, 63, 64, 65, 66, 67, 68, 69, 70, 71, 72, 73, 74, 75, 76, 77, 78, 79, 80, 81, 146, 147, 148, 149, 150, 151, 152, 163, 164, 165, 166, 167, 168, 169, 170, 171, 172, 173, 174, 153, 154, 155, 156, 157, 158, 159, 160, 161, 162] (by decide +kernel) (by decide +kernel)
set_option maxRecDepth 20000 in
theorem gX3_bake_X3_lookAs : GoodIn wsX3_bake (wsV RX3 46 RX3 yX3_lookAs wsX3_lookAs) := goodIn_app (goodIn_of _ (by decide +kernel)) ggX3_bake_X3_lookAs
set_option maxRecDepth 20000 in
theorem ggX3_bake_X3_checkOpen : GoodIn wsX3_bake wsX3_checkOpen := goodIn_ca (goodIn_r _ [85, 1, 2, 4, 86, 146, 147, 148, 149, 150, 151, 152, 153, 154, 155, 156, 157, 158, 159, 160, 161, 162] (by decide +kernel) (by decide +kernel)) (goodIn_sub (fun _ h => List.mem_cons_of_mem _ (List.mem_append_left _ (List.mem_append_right _ h))) (by decide +kernel))
set_option maxRecDepth 20000 in
theorem gX3_bake_X3_checkOpen : GoodIn wsX3_bake (wsV RX3 128 RX3 yX3_checkOpen wsX3_checkOpen) := goodIn_app (goodIn_of _ (by decide +kernel)) ggX3_bake_X3_checkOpen
set_option maxRecDepth 20000 in
theorem ggX3_bake_X3_lacking : GoodIn wsX3_bake wsX3_lacking := goodIn_r _ [90, 91, 92, 4, 93, 94, 95, 96, 97, 98, 99, 21, 100, 35, 146, 147, 148, 149, 150, 151, 152, 153, 154, 155, 156, 157, 158, 159, 160, 161, 162] (by decide +kernel) (by decide +kernel)
set_option maxRecDepth 20000 in
theorem gX3_bake_X3_lacking : GoodIn wsX3_bake (wsV RX3 140 RX3 yX3_lacking wsX3_lacking) := goodIn_app (goodIn_of _ (by decide +kernel)) ggX3_bake_X3_lacking
set_option maxRecDepth 20000 in
theorem ggX3_bake_X3_keptInAll : GoodIn wsX3_bake wsX3_keptInAll := goodIn_r _ [104, 4, 97, 98, 99, 21, 100, 35, 146, 147, 148, 149, 150, 151, 152, 153, 154, 155, 156, 157, 158, 159, 160, 161, 162] (by decide +kernel) (by decide +kernel)
set_option maxRecDepth 20000 in
theorem gX3_bake_X3_keptInAll : GoodIn wsX3_bake (wsV RX3 137 RX3 yX3_keptInAll wsX3_keptInAll) := goodIn_app (goodIn_of _ (by decide +kernel)) ggX3_bake_X3_keptInAll
set_option maxRecDepth 20000 in
theorem ggX3_bake_X3_checkRoomFor : GoodIn wsX3_bake wsX3_checkRoomFor := goodIn_ca (goodIn_r _ [108, 1, 2, 16, 109, 146, 147, 148, 149, 150, 151, 152, 163, 164] (by decide +kernel) (by decide +kernel)) (goodIn_sub (fun _ h => List.mem_cons_of_mem _ (List.mem_append_left _ (List.mem_append_right _ h))) (by decide +kernel))
set_option maxRecDepth 20000 in
theorem gX3_bake_X3_checkRoomFor : GoodIn wsX3_bake (wsV RX3 60 RX3 yX3_checkRoomFor wsX3_checkRoomFor) := goodIn_app (goodIn_of _ (by decide +kernel)) ggX3_bake_X3_checkRoomFor
set_option maxRecDepth 20000 in
theorem ggX3_bake_X3_write : GoodIn wsX3_bake wsX3_write := goodIn_r _ [113, 114, 115, 116, 117, 16, 118, 119, 120, 121, 122, 123, 124, 125, 126, 127, 128, 129, 130, 131, 132, 133, 134, 135, 136, 137, 138, 139, 140, 141, 142, 143, 144, 145, 146, 147, 148, 149, 150, 151, 152, 165, 166, 167, 168, 169, 170, 171, 172, 173, 174, 163, 164] (by decide +kernel) (by decide +kernel)
set_option maxRecDepth 20000 in
theorem gX3_bake_X3_write : GoodIn wsX3_bake (wsV RX3 65 RX3 yX3_write wsX3_write) := goodIn_app (goodIn_of _ (by decide +kernel)) ggX3_bake_X3_write
theorem dX3_bake_0 : decode cX3_bake 0 = .ok (.iload_n 1, 1) := by decide +kernel
theorem dX3_bake_1 : decode cX3_bake 1 = .ok (.iconst 5, 1) := by decide +kernel
theorem dX3_bake_2 : decode cX3_bake 2 = .ok (.invokestatic 42, 3) := by decide +kernel
theorem dX3_bake_5 : decode cX3_bake 5 = .ok (.iload_n 2, 1) := by decide +kernel
theorem dX3_bake_6 : decode cX3_bake 6 = .ok (.aload_n 0, 1) := by decide +kernel
theorem dX3_bake_7 : decode cX3_bake 7 = .ok (.getfield 38, 3) := by decide +kernel
theorem dX3_bake_10 : decode cX3_bake 10 = .ok (.invokestatic 42, 3) := by decide +kernel
theorem dX3_bake_13 : decode cX3_bake 13 = .ok (.aload_n 0, 1) := by decide +kernel
theorem dX3_bake_14 : decode cX3_bake 14 = .ok (.iload_n 1, 1) := by decide +kernel
theorem dX3_bake_15 : decode cX3_bake 15 = .ok (.invokevirtual 46, 3) := by decide +kernel
theorem dX3_bake_18 : decode cX3_bake 18 = .ok (.aload_n 0, 1) := by decide +kernel
theorem dX3_bake_19 : decode cX3_bake 19 = .ok (.iload_n 2, 1) := by decide +kernel
theorem dX3_bake_20 : decode cX3_bake 20 = .ok (.invokevirtual 128, 3) := by decide +kernel
theorem dX3_bake_23 : decode cX3_bake 23 = .ok (.iconst 0, 1) := by decide +kernel
theorem dX3_bake_24 : decode cX3_bake 24 = .ok (.istore_n 3, 1) := by decide +kernel
theorem dX3_bake_25 : decode cX3_bake 25 = .ok (.iload_n 3, 1) := by decide +kernel
theorem dX3_bake_26 : decode cX3_bake 26 = .ok (.bipush 8, 2) := by decide +kernel
theorem dX3_bake_28 : decode cX3_bake 28 = .ok (.if_icmp .ge 28, 3) := by decide +kernel
theorem dX3_bake_31 : decode cX3_bake 31 = .ok (.aload_n 0, 1) := by decide +kernel
theorem dX3_bake_32 : decode cX3_bake 32 = .ok (.iload_n 2, 1) := by decide +kernel
theorem dX3_bake_33 : decode cX3_bake 33 = .ok (.iload_n 3, 1) := by decide +kernel
theorem dX3_bake_34 : decode cX3_bake 34 = .ok (.invokevirtual 140, 3) := by decide +kernel
theorem dX3_bake_37 : decode cX3_bake 37 = .ok (.ifCond .le 13, 3) := by decide +kernel
theorem dX3_bake_40 : decode cX3_bake 40 = .ok (.new 53, 3) := by decide +kernel
theorem dX3_bake_43 : decode cX3_bake 43 = .ok (.dup, 1) := by decide +kernel
theorem dX3_bake_44 : decode cX3_bake 44 = .ok (.ldc 143, 2) := by decide +kernel
theorem dX3_bake_46 : decode cX3_bake 46 = .ok (.invokespecial 57, 3) := by decide +kernel
theorem dX3_bake_49 : decode cX3_bake 49 = .ok (.athrow, 1) := by decide +kernel
theorem dX3_bake_50 : decode cX3_bake 50 = .ok (.iinc 3 1, 3) := by decide +kernel
theorem dX3_bake_53 : decode cX3_bake 53 = .ok (.goto (-28), 3) := by decide +kernel
theorem dX3_bake_56 : decode cX3_bake 56 = .ok (.aload_n 0, 1) := by decide +kernel
theorem dX3_bake_57 : decode cX3_bake 57 = .ok (.iload_n 2, 1) := by decide +kernel
theorem dX3_bake_58 : decode cX3_bake 58 = .ok (.invokevirtual 137, 3) := by decide +kernel
theorem dX3_bake_61 : decode cX3_bake 61 = .ok (.istore_n 3, 1) := by decide +kernel
theorem dX3_bake_62 : decode cX3_bake 62 = .ok (.aload_n 0, 1) := by decide +kernel
theorem dX3_bake_63 : decode cX3_bake 63 = .ok (.iload_n 3, 1) := by decide +kernel
theorem dX3_bake_64 : decode cX3_bake 64 = .ok (.iconst 1, 1) := by decide +kernel
theorem dX3_bake_65 : decode cX3_bake 65 = .ok (.iadd, 1) := by decide +kernel
theorem dX3_bake_66 : decode cX3_bake 66 = .ok (.invokevirtual 60, 3) := by decide +kernel
theorem dX3_bake_69 : decode cX3_bake 69 = .ok (.iconst 0, 1) := by decide +kernel
theorem dX3_bake_70 : decode cX3_bake 70 = .ok (.istore 4, 2) := by decide +kernel
theorem dX3_bake_72 : decode cX3_bake 72 = .ok (.iload 4, 2) := by decide +kernel
theorem dX3_bake_74 : decode cX3_bake 74 = .ok (.bipush 40, 2) := by decide +kernel
theorem dX3_bake_76 : decode cX3_bake 76 = .ok (.if_icmp .ge 33, 3) := by decide +kernel
theorem dX3_bake_79 : decode cX3_bake 79 = .ok (.aload_n 0, 1) := by decide +kernel
theorem dX3_bake_80 : decode cX3_bake 80 = .ok (.getfield 19, 3) := by decide +kernel
theorem dX3_bake_83 : decode cX3_bake 83 = .ok (.getfield 145, 3) := by decide +kernel
theorem dX3_bake_86 : decode cX3_bake 86 = .ok (.iload 4, 2) := by decide +kernel
theorem dX3_bake_88 : decode cX3_bake 88 = .ok (.iaload, 1) := by decide +kernel
theorem dX3_bake_89 : decode cX3_bake 89 = .ok (.iload_n 2, 1) := by decide +kernel
theorem dX3_bake_90 : decode cX3_bake 90 = .ok (.if_icmp .ne 13, 3) := by decide +kernel
theorem dX3_bake_93 : decode cX3_bake 93 = .ok (.aload_n 0, 1) := by decide +kernel
theorem dX3_bake_94 : decode cX3_bake 94 = .ok (.iload_n 1, 1) := by decide +kernel
theorem dX3_bake_95 : decode cX3_bake 95 = .ok (.iconst 1, 1) := by decide +kernel
theorem dX3_bake_96 : decode cX3_bake 96 = .ok (.iload 4, 2) := by decide +kernel
theorem dX3_bake_98 : decode cX3_bake 98 = .ok (.iload_n 2, 1) := by decide +kernel
theorem dX3_bake_99 : decode cX3_bake 99 = .ok (.invokevirtual 65, 3) := by decide +kernel
theorem dX3_bake_102 : decode cX3_bake 102 = .ok (.pop, 1) := by decide +kernel
theorem dX3_bake_103 : decode cX3_bake 103 = .ok (.iinc 4 1, 3) := by decide +kernel
theorem dX3_bake_106 : decode cX3_bake 106 = .ok (.goto (-34), 3) := by decide +kernel
theorem dX3_bake_109 : decode cX3_bake 109 = .ok (.aload_n 0, 1) := by decide +kernel
theorem dX3_bake_110 : decode cX3_bake 110 = .ok (.iload_n 1, 1) := by decide +kernel
theorem dX3_bake_111 : decode cX3_bake 111 = .ok (.bipush 6, 2) := by decide +kernel
theorem dX3_bake_113 : decode cX3_bake 113 = .ok (.iconst (-1), 1) := by decide +kernel
theorem dX3_bake_114 : decode cX3_bake 114 = .ok (.iload_n 2, 1) := by decide +kernel
theorem dX3_bake_115 : decode cX3_bake 115 = .ok (.invokevirtual 65, 3) := by decide +kernel
theorem dX3_bake_118 : decode cX3_bake 118 = .ok (.pop, 1) := by decide +kernel
theorem dX3_bake_119 : decode cX3_bake 119 = .ok (.iload_n 3, 1) := by decide +kernel
theorem dX3_bake_120 : decode cX3_bake 120 = .ok (.ireturn, 1) := by decide +kernel
theorem dX3_cakes_0 : decode cX3_cakes 0 = .ok (.aload_n 0, 1) := by decide +kernel
theorem dX3_cakes_1 : decode cX3_cakes 1 = .ok (.getfield 38, 3) := by decide +kernel
theorem dX3_cakes_4 : decode cX3_cakes 4 = .ok (.ireturn, 1) := by decide +kernel
set_option maxRecDepth 20000 in
theorem ggX3_cake_X3_checkNumber : GoodIn wsX3_cake wsX3_checkNumber := goodIn_ca (goodIn_r _ [7, 8, 9] (by decide +kernel) (by decide +kernel)) (goodIn_sub (fun _ h => List.mem_cons_of_mem _ (List.mem_append_right _ h)) (by decide +kernel))
set_option maxRecDepth 20000 in
theorem gX3_cake_X3_checkNumber : GoodIn wsX3_cake (va_wsS RX3 42 yX3_checkNumber wsX3_checkNumber) := goodIn_app (goodIn_of _ (by decide +kernel)) ggX3_cake_X3_checkNumber
set_option maxRecDepth 20000 in
theorem ggX3_cake_X3_lookAs : GoodIn wsX3_cake wsX3_lookAs := goodIn_r _ [13, 2, 14, 15, 16, 17, 18, 19, 20, 21, 22, 23, 24, 25, 26, 27, 28, 29, 30, 31, 32, 33, 34, 35, 36, 37, 38, 39, 40, 41, 42, 43, 44, 45, 46, 47, 48, 49, 50, 51, 52, 53, 54, 55, 56, 57, 58, 59, 60, 61, 62, 63, 64, 65, 66, 67, 68, 69, 70, 71, 72, 73, 74, 75, 76, 77, 78, 79, 80, 81, 82, 83, 84, 85, 86, 97, 98, 99, 100, 101, 102, 103, 104, 105, 106, 107, 108, 87, 88, 89, 90, 91, 92, 93, 94, 95, 96] (by decide +kernel) (by decide +kernel)
set_option maxRecDepth 20000 in
theorem gX3_cake_X3_lookAs : GoodIn wsX3_cake (wsV RX3 46 RX3 yX3_lookAs wsX3_lookAs) := goodIn_app (goodIn_of _ (by decide +kernel)) ggX3_cake_X3_lookAs
theorem dX3_cake_0 : decode cX3_cake 0 = .ok (.iload_n 1, 1) := by decide +kernel
theorem dX3_cake_1 : decode cX3_cake 1 = .ok (.iconst 5, 1) := by decide +kernel
theorem dX3_cake_2 : decode cX3_cake 2 = .ok (.invokestatic 42, 3) := by decide +kernel
theorem dX3_cake_5 : decode cX3_cake 5 = .ok (.iload_n 2, 1) := by decide +kernel
theorem dX3_cake_6 : decode cX3_cake 6 = .ok (.aload_n 0, 1) := by decide +kernel
theorem dX3_cake_7 : decode cX3_cake 7 = .ok (.getfield 38, 3) := by decide +kernel
theorem dX3_cake_10 : decode cX3_cake 10 = .ok (.invokestatic 42, 3) := by decide +kernel
theorem dX3_cake_13 : decode cX3_cake 13 = .ok (.aload_n 0, 1) := by decide +kernel
theorem dX3_cake_14 : decode cX3_cake 14 = .ok (.iload_n 1, 1) := by decide +kernel
theorem dX3_cake_15 : decode cX3_cake 15 = .ok (.invokevirtual 46, 3) := by decide +kernel
theorem dX3_cake_18 : decode cX3_cake 18 = .ok (.aload_n 0, 1) := by decide +kernel
theorem dX3_cake_19 : decode cX3_cake 19 = .ok (.getfield 19, 3) := by decide +kernel
theorem dX3_cake_22 : decode cX3_cake 22 = .ok (.getfield 148, 3) := by decide +kernel
theorem dX3_cake_25 : decode cX3_cake 25 = .ok (.iload_n 2, 1) := by decide +kernel
theorem dX3_cake_26 : decode cX3_cake 26 = .ok (.iaload, 1) := by decide +kernel
theorem dX3_cake_27 : decode cX3_cake 27 = .ok (.ireturn, 1) := by decide +kernel
set_option maxRecDepth 20000 in
theorem ggX3_keptFor_X3_checkNumber : GoodIn wsX3_keptFor wsX3_checkNumber := goodIn_ca (goodIn_r _ [6, 7, 8] (by decide +kernel) (by decide +kernel)) (goodIn_sub (fun _ h => List.mem_cons_of_mem _ (List.mem_append_right _ h)) (by decide +kernel))
set_option maxRecDepth 20000 in
theorem gX3_keptFor_X3_checkNumber : GoodIn wsX3_keptFor (va_wsS RX3 42 yX3_checkNumber wsX3_checkNumber) := goodIn_app (goodIn_of _ (by decide +kernel)) ggX3_keptFor_X3_checkNumber
set_option maxRecDepth 20000 in
theorem ggX3_keptFor_X3_lookAs : GoodIn wsX3_keptFor wsX3_lookAs := goodIn_r _ [12, 1, 13, 14, 15, 16, 17, 18, 19, 20, 21, 22, 23, 24, 25, 26, 27, 28, 29, 30, 31, 32, 33, 34, 35, 36, 37, 38, 39, 40, 41, 42, 43, 44, 45, 46, 47, 48, 49, 50, 51, 52, 53, 54, 55, 56, 57, 58, 59, 60, 61, 62, 63, 64, 65, 66, 67, 68, 69, 70, 71, 72, 73, 74, 75, 76, 77, 78, 79, 80, 81, 82, 83, 84, 85, 96, 97, 98, 99, 100, 101, 102, 103, 104, 105, 106, 107, 86, 87, 88, 89, 90, 91, 92, 93, 94, 95] (by decide +kernel) (by decide +kernel)
set_option maxRecDepth 20000 in
theorem gX3_keptFor_X3_lookAs : GoodIn wsX3_keptFor (wsV RX3 46 RX3 yX3_lookAs wsX3_lookAs) := goodIn_app (goodIn_of _ (by decide +kernel)) ggX3_keptFor_X3_lookAs
theorem dX3_keptFor_0 : decode cX3_keptFor 0 = .ok (.iload_n 1, 1) := by decide +kernel
theorem dX3_keptFor_1 : decode cX3_keptFor 1 = .ok (.iconst 5, 1) := by decide +kernel
theorem dX3_keptFor_2 : decode cX3_keptFor 2 = .ok (.invokestatic 42, 3) := by decide +kernel
theorem dX3_keptFor_5 : decode cX3_keptFor 5 = .ok (.iload_n 2, 1) := by decide +kernel
theorem dX3_keptFor_6 : decode cX3_keptFor 6 = .ok (.bipush 40, 2) := by decide +kernel
theorem dX3_keptFor_8 : decode cX3_keptFor 8 = .ok (.invokestatic 42, 3) := by decide +kernel
theorem dX3_keptFor_11 : decode cX3_keptFor 11 = .ok (.aload_n 0, 1) := by decide +kernel
theorem dX3_keptFor_12 : decode cX3_keptFor 12 = .ok (.iload_n 1, 1) := by decide +kernel
theorem dX3_keptFor_13 : decode cX3_keptFor 13 = .ok (.invokevirtual 46, 3) := by decide +kernel
theorem dX3_keptFor_16 : decode cX3_keptFor 16 = .ok (.aload_n 0, 1) := by decide +kernel
theorem dX3_keptFor_17 : decode cX3_keptFor 17 = .ok (.getfield 19, 3) := by decide +kernel
theorem dX3_keptFor_20 : decode cX3_keptFor 20 = .ok (.getfield 145, 3) := by decide +kernel
theorem dX3_keptFor_23 : decode cX3_keptFor 23 = .ok (.iload_n 2, 1) := by decide +kernel
theorem dX3_keptFor_24 : decode cX3_keptFor 24 = .ok (.iaload, 1) := by decide +kernel
theorem dX3_keptFor_25 : decode cX3_keptFor 25 = .ok (.ireturn, 1) := by decide +kernel
set_option maxRecDepth 20000 in
theorem ggX3_keptByAll_X3_checkNumber : GoodIn wsX3_keptByAll wsX3_checkNumber := goodIn_ca (goodIn_r _ [6, 7, 8] (by decide +kernel) (by decide +kernel)) (goodIn_sub (fun _ h => List.mem_cons_of_mem _ (List.mem_append_right _ h)) (by decide +kernel))
set_option maxRecDepth 20000 in
theorem gX3_keptByAll_X3_checkNumber : GoodIn wsX3_keptByAll (va_wsS RX3 42 yX3_checkNumber wsX3_checkNumber) := goodIn_app (goodIn_of _ (by decide +kernel)) ggX3_keptByAll_X3_checkNumber
set_option maxRecDepth 20000 in
theorem ggX3_keptByAll_X3_lookByAll : GoodIn wsX3_keptByAll wsX3_lookByAll := goodIn_r _ [12, 1, 13, 14, 15, 16, 17, 18, 19, 20, 21, 22, 23, 24, 25, 26, 27, 28, 29, 30, 31, 32, 33, 34, 35, 36, 37, 38, 39, 40, 41, 42, 43, 44, 45, 46, 47, 48, 49, 50, 51, 52, 53, 54, 55, 56, 57, 58, 59, 60, 61, 62, 63, 64, 65, 66, 67, 68, 69, 70, 71, 72, 73, 74, 75, 76, 77, 78, 79, 80, 81, 82, 83, 84, 85, 96, 97, 98, 99, 100, 101, 102, 103, 104, 105, 106, 107, 86, 87, 88, 89, 90, 91, 92, 93, 94, 95] (by decide +kernel) (by decide +kernel)
set_option maxRecDepth 20000 in
theorem gX3_keptByAll_X3_lookByAll : GoodIn wsX3_keptByAll (wsV RX3 74 RX3 yX3_lookByAll wsX3_lookByAll) := goodIn_app (goodIn_of _ (by decide +kernel)) ggX3_keptByAll_X3_lookByAll
theorem dX3_keptByAll_0 : decode cX3_keptByAll 0 = .ok (.iload_n 1, 1) := by decide +kernel
theorem dX3_keptByAll_1 : decode cX3_keptByAll 1 = .ok (.bipush 40, 2) := by decide +kernel
theorem dX3_keptByAll_3 : decode cX3_keptByAll 3 = .ok (.invokestatic 42, 3) := by decide +kernel
theorem dX3_keptByAll_6 : decode cX3_keptByAll 6 = .ok (.aload_n 0, 1) := by decide +kernel
theorem dX3_keptByAll_7 : decode cX3_keptByAll 7 = .ok (.invokevirtual 74, 3) := by decide +kernel
theorem dX3_keptByAll_10 : decode cX3_keptByAll 10 = .ok (.aload_n 0, 1) := by decide +kernel
theorem dX3_keptByAll_11 : decode cX3_keptByAll 11 = .ok (.getfield 19, 3) := by decide +kernel
theorem dX3_keptByAll_14 : decode cX3_keptByAll 14 = .ok (.getfield 145, 3) := by decide +kernel
theorem dX3_keptByAll_17 : decode cX3_keptByAll 17 = .ok (.iload_n 1, 1) := by decide +kernel
theorem dX3_keptByAll_18 : decode cX3_keptByAll 18 = .ok (.iaload, 1) := by decide +kernel
theorem dX3_keptByAll_19 : decode cX3_keptByAll 19 = .ok (.ireturn, 1) := by decide +kernel
set_option maxRecDepth 20000 in
theorem ggX3_lacks_X3_checkNumber : GoodIn wsX3_lacks wsX3_checkNumber := goodIn_ca (goodIn_r _ [7, 8, 9] (by decide +kernel) (by decide +kernel)) (goodIn_sub (fun _ h => List.mem_cons_of_mem _ (List.mem_append_right _ h)) (by decide +kernel))
set_option maxRecDepth 20000 in
theorem gX3_lacks_X3_checkNumber : GoodIn wsX3_lacks (va_wsS RX3 42 yX3_checkNumber wsX3_checkNumber) := goodIn_app (goodIn_of _ (by decide +kernel)) ggX3_lacks_X3_checkNumber
set_option maxRecDepth 20000 in
theorem ggX3_lacks_X3_lookAs : GoodIn wsX3_lacks wsX3_lookAs := goodIn_r _ [13, 2, 14, 15, 16, 17, 18, 19, 20, 21, 22, 23, 24, 25, 26, 27, 28, 29, 30, 31, 32, 33, 34, 35, 36, 37, 38, 39, 40, 41, 42, 43, 44, 45, 46, 47, 48, 49, 50, 51, 52, 53, 54, 55, 56, 57, 58, 59, 60, 61, 62, 63, 64, 65, 66, 67, 68, 69, 70, 71, 72, 73, 74, 75, 76, 77, 78, 79, 94, 95, 96, 97, 98, 99, 100, 111, 112, 113, 114, 115, 116, 117, 118, 119, 120, 121, 122, 101, 102, 103, 104, 105, 106, 107, 108, 109, 110] (by decide +kernel) (by decide +kernel)
set_option maxRecDepth 20000 in
theorem gX3_lacks_X3_lookAs : GoodIn wsX3_lacks (wsV RX3 46 RX3 yX3_lookAs wsX3_lookAs) := goodIn_app (goodIn_of _ (by decide +kernel)) ggX3_lacks_X3_lookAs
set_option maxRecDepth 20000 in
theorem ggX3_lacks_X3_lacking : GoodIn wsX3_lacks wsX3_lacking := goodIn_r _ [83, 84, 85, 2, 86, 87, 88, 89, 90, 91, 92, 19, 93, 33, 94, 95, 96, 97, 98, 99, 100, 101, 102, 103, 104, 105, 106, 107, 108, 109, 110] (by decide +kernel) (by decide +kernel)
set_option maxRecDepth 20000 in
theorem gX3_lacks_X3_lacking : GoodIn wsX3_lacks (wsV RX3 140 RX3 yX3_lacking wsX3_lacking) := goodIn_app (goodIn_of _ (by decide +kernel)) ggX3_lacks_X3_lacking
theorem dX3_lacks_0 : decode cX3_lacks 0 = .ok (.iload_n 1, 1) := by decide +kernel
theorem dX3_lacks_1 : decode cX3_lacks 1 = .ok (.iconst 5, 1) := by decide +kernel
theorem dX3_lacks_2 : decode cX3_lacks 2 = .ok (.invokestatic 42, 3) := by decide +kernel
theorem dX3_lacks_5 : decode cX3_lacks 5 = .ok (.iload_n 2, 1) := by decide +kernel
theorem dX3_lacks_6 : decode cX3_lacks 6 = .ok (.aload_n 0, 1) := by decide +kernel
theorem dX3_lacks_7 : decode cX3_lacks 7 = .ok (.getfield 38, 3) := by decide +kernel
theorem dX3_lacks_10 : decode cX3_lacks 10 = .ok (.invokestatic 42, 3) := by decide +kernel
theorem dX3_lacks_13 : decode cX3_lacks 13 = .ok (.iload_n 3, 1) := by decide +kernel
theorem dX3_lacks_14 : decode cX3_lacks 14 = .ok (.bipush 8, 2) := by decide +kernel
theorem dX3_lacks_16 : decode cX3_lacks 16 = .ok (.invokestatic 42, 3) := by decide +kernel
theorem dX3_lacks_19 : decode cX3_lacks 19 = .ok (.aload_n 0, 1) := by decide +kernel
theorem dX3_lacks_20 : decode cX3_lacks 20 = .ok (.iload_n 1, 1) := by decide +kernel
theorem dX3_lacks_21 : decode cX3_lacks 21 = .ok (.invokevirtual 46, 3) := by decide +kernel
theorem dX3_lacks_24 : decode cX3_lacks 24 = .ok (.aload_n 0, 1) := by decide +kernel
theorem dX3_lacks_25 : decode cX3_lacks 25 = .ok (.getfield 19, 3) := by decide +kernel
theorem dX3_lacks_28 : decode cX3_lacks 28 = .ok (.getfield 148, 3) := by decide +kernel
theorem dX3_lacks_31 : decode cX3_lacks 31 = .ok (.iload_n 2, 1) := by decide +kernel
theorem dX3_lacks_32 : decode cX3_lacks 32 = .ok (.iaload, 1) := by decide +kernel
theorem dX3_lacks_33 : decode cX3_lacks 33 = .ok (.iconst 1, 1) := by decide +kernel
theorem dX3_lacks_34 : decode cX3_lacks 34 = .ok (.if_icmp .ne 12, 3) := by decide +kernel
theorem dX3_lacks_37 : decode cX3_lacks 37 = .ok (.aload_n 0, 1) := by decide +kernel
theorem dX3_lacks_38 : decode cX3_lacks 38 = .ok (.iload_n 2, 1) := by decide +kernel
theorem dX3_lacks_39 : decode cX3_lacks 39 = .ok (.iload_n 3, 1) := by decide +kernel
theorem dX3_lacks_40 : decode cX3_lacks 40 = .ok (.invokevirtual 140, 3) := by decide +kernel
theorem dX3_lacks_43 : decode cX3_lacks 43 = .ok (.goto 4, 3) := by decide +kernel
theorem dX3_lacks_46 : decode cX3_lacks 46 = .ok (.iconst 0, 1) := by decide +kernel
theorem dX3_lacks_47 : decode cX3_lacks 47 = .ok (.ireturn, 1) := by decide +kernel
set_option maxRecDepth 20000 in
theorem ggX3_isUnfit_X3_checkNumber : GoodIn wsX3_isUnfit wsX3_checkNumber := goodIn_ca (goodIn_r _ [9, 10, 11] (by decide +kernel) (by decide +kernel)) (goodIn_sub (fun _ h => List.mem_cons_of_mem _ (List.mem_append_right _ h)) (by decide +kernel))
set_option maxRecDepth 20000 in
theorem gX3_isUnfit_X3_checkNumber : GoodIn wsX3_isUnfit (va_wsS RX3 42 yX3_checkNumber wsX3_checkNumber) := goodIn_app (goodIn_of _ (by decide +kernel)) ggX3_isUnfit_X3_checkNumber
set_option maxRecDepth 20000 in
theorem ggX3_isUnfit_X3_lookAs : GoodIn wsX3_isUnfit wsX3_lookAs := goodIn_r _ [15, 2, 16, 5, 17, 18, 19, 20, 21, 22, 23, 24, 25, 26, 27, 28, 29, 30, 31, 32, 33, 34, 35, 36, 37, 38, 39, 40, 41, 42, 43, 44, 45, 46, 47, 48, 49, 50, 51, 52, 53, 54, 55, 56, 57, 58, 59, 60, 61, 62, 63, 64, 65, 66, 67, 68, 69, 70, 71, 72, 73, 74, 75, 76, 77, 78, 79, 80, 90, 91, 92, 93, 94, 95, 96, 107, 108, 109, 110, 111, 112, 113, 114, 115, 116, 117, 118, 97, 98, 99, 100, 101, 102, 103, 104, 105, 106] (by decide +kernel) (by decide +kernel)
set_option maxRecDepth 20000 in
theorem gX3_isUnfit_X3_lookAs : GoodIn wsX3_isUnfit (wsV RX3 46 RX3 yX3_lookAs wsX3_lookAs) := goodIn_app (goodIn_of _ (by decide +kernel)) ggX3_isUnfit_X3_lookAs
set_option maxRecDepth 20000 in
theorem ggX3_isUnfit_X3_isDisliked : GoodIn wsX3_isUnfit wsX3_isDisliked := goodIn_r _ [84, 2, 85, 86, 87, 88, 20, 89, 37, 70, 71, 72, 73, 35, 36, 90, 91, 92, 93, 94, 95, 96, 97, 98, 99, 100, 101, 102, 103, 104, 105, 106] (by decide +kernel) (by decide +kernel)
set_option maxRecDepth 20000 in
theorem gX3_isUnfit_X3_isDisliked : GoodIn wsX3_isUnfit (wsV RX3 120 RX3 yX3_isDisliked wsX3_isDisliked) := goodIn_app (goodIn_of _ (by decide +kernel)) ggX3_isUnfit_X3_isDisliked
theorem dX3_isUnfit_0 : decode cX3_isUnfit 0 = .ok (.iload_n 1, 1) := by decide +kernel
theorem dX3_isUnfit_1 : decode cX3_isUnfit 1 = .ok (.iconst 5, 1) := by decide +kernel
theorem dX3_isUnfit_2 : decode cX3_isUnfit 2 = .ok (.invokestatic 42, 3) := by decide +kernel
theorem dX3_isUnfit_5 : decode cX3_isUnfit 5 = .ok (.iload_n 2, 1) := by decide +kernel
theorem dX3_isUnfit_6 : decode cX3_isUnfit 6 = .ok (.aload_n 0, 1) := by decide +kernel
theorem dX3_isUnfit_7 : decode cX3_isUnfit 7 = .ok (.getfield 38, 3) := by decide +kernel
theorem dX3_isUnfit_10 : decode cX3_isUnfit 10 = .ok (.invokestatic 42, 3) := by decide +kernel
theorem dX3_isUnfit_13 : decode cX3_isUnfit 13 = .ok (.aload_n 0, 1) := by decide +kernel
theorem dX3_isUnfit_14 : decode cX3_isUnfit 14 = .ok (.iload_n 1, 1) := by decide +kernel
theorem dX3_isUnfit_15 : decode cX3_isUnfit 15 = .ok (.invokevirtual 46, 3) := by decide +kernel
theorem dX3_isUnfit_18 : decode cX3_isUnfit 18 = .ok (.aload_n 0, 1) := by decide +kernel
theorem dX3_isUnfit_19 : decode cX3_isUnfit 19 = .ok (.getfield 19, 3) := by decide +kernel
theorem dX3_isUnfit_22 : decode cX3_isUnfit 22 = .ok (.getfield 148, 3) := by decide +kernel
theorem dX3_isUnfit_25 : decode cX3_isUnfit 25 = .ok (.iload_n 2, 1) := by decide +kernel
theorem dX3_isUnfit_26 : decode cX3_isUnfit 26 = .ok (.iaload, 1) := by decide +kernel
theorem dX3_isUnfit_27 : decode cX3_isUnfit 27 = .ok (.iconst 1, 1) := by decide +kernel
theorem dX3_isUnfit_28 : decode cX3_isUnfit 28 = .ok (.if_icmp .ne 26, 3) := by decide +kernel
theorem dX3_isUnfit_31 : decode cX3_isUnfit 31 = .ok (.aload_n 0, 1) := by decide +kernel
theorem dX3_isUnfit_32 : decode cX3_isUnfit 32 = .ok (.aload_n 0, 1) := by decide +kernel
theorem dX3_isUnfit_33 : decode cX3_isUnfit 33 = .ok (.getfield 32, 3) := by decide +kernel
theorem dX3_isUnfit_36 : decode cX3_isUnfit 36 = .ok (.iload_n 2, 1) := by decide +kernel
theorem dX3_isUnfit_37 : decode cX3_isUnfit 37 = .ok (.iaload, 1) := by decide +kernel
theorem dX3_isUnfit_38 : decode cX3_isUnfit 38 = .ok (.aload_n 0, 1) := by decide +kernel
theorem dX3_isUnfit_39 : decode cX3_isUnfit 39 = .ok (.getfield 35, 3) := by decide +kernel
theorem dX3_isUnfit_42 : decode cX3_isUnfit 42 = .ok (.iload_n 2, 1) := by decide +kernel
theorem dX3_isUnfit_43 : decode cX3_isUnfit 43 = .ok (.iaload, 1) := by decide +kernel
theorem dX3_isUnfit_44 : decode cX3_isUnfit 44 = .ok (.invokevirtual 120, 3) := by decide +kernel
theorem dX3_isUnfit_47 : decode cX3_isUnfit 47 = .ok (.ifCond .eq 7, 3) := by decide +kernel
theorem dX3_isUnfit_50 : decode cX3_isUnfit 50 = .ok (.iconst 1, 1) := by decide +kernel
theorem dX3_isUnfit_51 : decode cX3_isUnfit 51 = .ok (.goto 4, 3) := by decide +kernel
theorem dX3_isUnfit_54 : decode cX3_isUnfit 54 = .ok (.iconst 0, 1) := by decide +kernel
theorem dX3_isUnfit_55 : decode cX3_isUnfit 55 = .ok (.ireturn, 1) := by decide +kernel
set_option maxRecDepth 20000 in
theorem ggX3_isSpoilt_X3_checkNumber : GoodIn wsX3_isSpoilt wsX3_checkNumber := goodIn_ca (goodIn_r _ [8, 9, 10] (by decide +kernel) (by decide +kernel)) (goodIn_sub (fun _ h => List.mem_cons_of_mem _ (List.mem_append_right _ h)) (by decide +kernel))
set_option maxRecDepth 20000 in
theorem gX3_isSpoilt_X3_checkNumber : GoodIn wsX3_isSpoilt (va_wsS RX3 42 yX3_checkNumber wsX3_checkNumber) := goodIn_app (goodIn_of _ (by decide +kernel)) ggX3_isSpoilt_X3_checkNumber
set_option maxRecDepth 20000 in
theorem ggX3_isSpoilt_X3_lookAs : GoodIn wsX3_isSpoilt wsX3_lookAs := goodIn_r _ [14, 2, 15, 16, 17, 18, 19, 20, 21, 22, 23, 24, 25, 26, 27, 28, 29, 30, 31, 32, 33, 34, 35, 36, 37, 38, 39, 40, 41, 42, 43, 44, 45, 46, 47, 48, 49, 50, 51, 52, 53, 54, 55, 56, 57, 58, 59, 60, 61, 62, 63, 64, 65, 66, 67, 68, 69, 70, 71, 72, 73, 74, 75, 76, 77, 78, 79, 80, 81, 82, 83, 84, 85, 86, 87, 98, 99, 100, 101, 102, 103, 104, 105, 106, 107, 108, 109, 88, 89, 90, 91, 92, 93, 94, 95, 96, 97] (by decide +kernel) (by decide +kernel)
set_option maxRecDepth 20000 in
theorem gX3_isSpoilt_X3_lookAs : GoodIn wsX3_isSpoilt (wsV RX3 46 RX3 yX3_lookAs wsX3_lookAs) := goodIn_app (goodIn_of _ (by decide +kernel)) ggX3_isSpoilt_X3_lookAs
theorem dX3_isSpoilt_0 : decode cX3_isSpoilt 0 = .ok (.iload_n 1, 1) := by decide +kernel
theorem dX3_isSpoilt_1 : decode cX3_isSpoilt 1 = .ok (.iconst 5, 1) := by decide +kernel
theorem dX3_isSpoilt_2 : decode cX3_isSpoilt 2 = .ok (.invokestatic 42, 3) := by decide +kernel
theorem dX3_isSpoilt_5 : decode cX3_isSpoilt 5 = .ok (.iload_n 2, 1) := by decide +kernel
theorem dX3_isSpoilt_6 : decode cX3_isSpoilt 6 = .ok (.aload_n 0, 1) := by decide +kernel
theorem dX3_isSpoilt_7 : decode cX3_isSpoilt 7 = .ok (.getfield 38, 3) := by decide +kernel
theorem dX3_isSpoilt_10 : decode cX3_isSpoilt 10 = .ok (.invokestatic 42, 3) := by decide +kernel
theorem dX3_isSpoilt_13 : decode cX3_isSpoilt 13 = .ok (.aload_n 0, 1) := by decide +kernel
theorem dX3_isSpoilt_14 : decode cX3_isSpoilt 14 = .ok (.iload_n 1, 1) := by decide +kernel
theorem dX3_isSpoilt_15 : decode cX3_isSpoilt 15 = .ok (.invokevirtual 46, 3) := by decide +kernel
theorem dX3_isSpoilt_18 : decode cX3_isSpoilt 18 = .ok (.aload_n 0, 1) := by decide +kernel
theorem dX3_isSpoilt_19 : decode cX3_isSpoilt 19 = .ok (.getfield 19, 3) := by decide +kernel
theorem dX3_isSpoilt_22 : decode cX3_isSpoilt 22 = .ok (.getfield 148, 3) := by decide +kernel
theorem dX3_isSpoilt_25 : decode cX3_isSpoilt 25 = .ok (.iload_n 2, 1) := by decide +kernel
theorem dX3_isSpoilt_26 : decode cX3_isSpoilt 26 = .ok (.iaload, 1) := by decide +kernel
theorem dX3_isSpoilt_27 : decode cX3_isSpoilt 27 = .ok (.iconst 3, 1) := by decide +kernel
theorem dX3_isSpoilt_28 : decode cX3_isSpoilt 28 = .ok (.if_icmp .ne 21, 3) := by decide +kernel
theorem dX3_isSpoilt_31 : decode cX3_isSpoilt 31 = .ok (.aload_n 0, 1) := by decide +kernel
theorem dX3_isSpoilt_32 : decode cX3_isSpoilt 32 = .ok (.getfield 19, 3) := by decide +kernel
theorem dX3_isSpoilt_35 : decode cX3_isSpoilt 35 = .ok (.getfield 151, 3) := by decide +kernel
theorem dX3_isSpoilt_38 : decode cX3_isSpoilt 38 = .ok (.iconst 1, 1) := by decide +kernel
theorem dX3_isSpoilt_39 : decode cX3_isSpoilt 39 = .ok (.iload_n 2, 1) := by decide +kernel
theorem dX3_isSpoilt_40 : decode cX3_isSpoilt 40 = .ok (.ishl, 1) := by decide +kernel
theorem dX3_isSpoilt_41 : decode cX3_isSpoilt 41 = .ok (.iand, 1) := by decide +kernel
theorem dX3_isSpoilt_42 : decode cX3_isSpoilt 42 = .ok (.ifCond .eq 7, 3) := by decide +kernel
theorem dX3_isSpoilt_45 : decode cX3_isSpoilt 45 = .ok (.iconst 1, 1) := by decide +kernel
theorem dX3_isSpoilt_46 : decode cX3_isSpoilt 46 = .ok (.goto 4, 3) := by decide +kernel
theorem dX3_isSpoilt_49 : decode cX3_isSpoilt 49 = .ok (.iconst 0, 1) := by decide +kernel
theorem dX3_isSpoilt_50 : decode cX3_isSpoilt 50 = .ok (.ireturn, 1) := by decide +kernel
set_option maxRecDepth 20000 in
theorem ggX3_missing_X3_checkNumber : GoodIn wsX3_missing wsX3_checkNumber := goodIn_ca (goodIn_r _ [13, 14, 15] (by decide +kernel) (by decide +kernel)) (goodIn_sub (fun _ h => List.mem_cons_of_mem _ (List.mem_append_right _ h)) (by decide +kernel))
set_option maxRecDepth 20000 in
theorem gX3_missing_X3_checkNumber : GoodIn wsX3_missing (va_wsS RX3 42 yX3_checkNumber wsX3_checkNumber) := goodIn_app (goodIn_of _ (by decide +kernel)) ggX3_missing_X3_checkNumber
set_option maxRecDepth 20000 in
theorem ggX3_missing_X3_lookAs : GoodIn wsX3_missing wsX3_lookAs := goodIn_r _ [19, 2, 20, 21, 22, 23, 24, 25, 26, 27, 28, 29, 30, 31, 32, 33, 34, 35, 36, 37, 38, 39, 40, 41, 42, 43, 44, 45, 46, 47, 48, 49, 50, 51, 52, 53, 54, 55, 56, 57, 58, 59, 60, 61, 62, 63, 64, 65, 66, 67, 68, 69, 70, 71, 72, 73, 74, 75, 76, 77, 78, 79, 80, 81, 82, 83, 84, 85, 90, 91, 92, 93, 94, 95, 96, 107, 108, 109, 110, 111, 112, 113, 114, 115, 116, 117, 118, 97, 98, 99, 100, 101, 102, 103, 104, 105, 106] (by decide +kernel) (by decide +kernel)
set_option maxRecDepth 20000 in
theorem gX3_missing_X3_lookAs : GoodIn wsX3_missing (wsV RX3 46 RX3 yX3_lookAs wsX3_lookAs) := goodIn_app (goodIn_of _ (by decide +kernel)) ggX3_missing_X3_lookAs
set_option maxRecDepth 20000 in
theorem ggX3_missing_X0_thingsSomewhere : GoodIn wsX3_missing wsX0_thingsSomewhere := goodIn_r _ [89, 37, 97, 98, 99, 100, 101, 102, 103, 104, 105, 106] (by decide +kernel) (by decide +kernel)
set_option maxRecDepth 20000 in
theorem gX3_missing_X0_thingsSomewhere : GoodIn wsX3_missing (wsV RX3 77 RX0 yX0_thingsSomewhere wsX0_thingsSomewhere) := goodIn_app (goodIn_of _ (by decide +kernel)) ggX3_missing_X0_thingsSomewhere
theorem dX3_missing_0 : decode cX3_missing 0 = .ok (.iload_n 1, 1) := by decide +kernel
theorem dX3_missing_1 : decode cX3_missing 1 = .ok (.iconst 5, 1) := by decide +kernel
theorem dX3_missing_2 : decode cX3_missing 2 = .ok (.invokestatic 42, 3) := by decide +kernel
theorem dX3_missing_5 : decode cX3_missing 5 = .ok (.iload_n 2, 1) := by decide +kernel
theorem dX3_missing_6 : decode cX3_missing 6 = .ok (.bipush 8, 2) := by decide +kernel
theorem dX3_missing_8 : decode cX3_missing 8 = .ok (.invokestatic 42, 3) := by decide +kernel
theorem dX3_missing_11 : decode cX3_missing 11 = .ok (.aload_n 0, 1) := by decide +kernel
theorem dX3_missing_12 : decode cX3_missing 12 = .ok (.iload_n 1, 1) := by decide +kernel
theorem dX3_missing_13 : decode cX3_missing 13 = .ok (.invokevirtual 46, 3) := by decide +kernel
theorem dX3_missing_16 : decode cX3_missing 16 = .ok (.iconst 0, 1) := by decide +kernel
theorem dX3_missing_17 : decode cX3_missing 17 = .ok (.istore_n 3, 1) := by decide +kernel
theorem dX3_missing_18 : decode cX3_missing 18 = .ok (.iconst 0, 1) := by decide +kernel
theorem dX3_missing_19 : decode cX3_missing 19 = .ok (.istore 4, 2) := by decide +kernel
theorem dX3_missing_21 : decode cX3_missing 21 = .ok (.iload 4, 2) := by decide +kernel
theorem dX3_missing_23 : decode cX3_missing 23 = .ok (.aload_n 0, 1) := by decide +kernel
theorem dX3_missing_24 : decode cX3_missing 24 = .ok (.getfield 38, 3) := by decide +kernel
theorem dX3_missing_27 : decode cX3_missing 27 = .ok (.if_icmp .ge 40, 3) := by decide +kernel
theorem dX3_missing_30 : decode cX3_missing 30 = .ok (.aload_n 0, 1) := by decide +kernel
theorem dX3_missing_31 : decode cX3_missing 31 = .ok (.getfield 19, 3) := by decide +kernel
theorem dX3_missing_34 : decode cX3_missing 34 = .ok (.getfield 148, 3) := by decide +kernel
theorem dX3_missing_37 : decode cX3_missing 37 = .ok (.iload 4, 2) := by decide +kernel
theorem dX3_missing_39 : decode cX3_missing 39 = .ok (.iaload, 1) := by decide +kernel
theorem dX3_missing_40 : decode cX3_missing 40 = .ok (.iconst 1, 1) := by decide +kernel
theorem dX3_missing_41 : decode cX3_missing 41 = .ok (.if_icmp .ne 20, 3) := by decide +kernel
theorem dX3_missing_44 : decode cX3_missing 44 = .ok (.iload_n 3, 1) := by decide +kernel
theorem dX3_missing_45 : decode cX3_missing 45 = .ok (.aload_n 0, 1) := by decide +kernel
theorem dX3_missing_46 : decode cX3_missing 46 = .ok (.getfield 29, 3) := by decide +kernel
theorem dX3_missing_49 : decode cX3_missing 49 = .ok (.aload_n 0, 1) := by decide +kernel
theorem dX3_missing_50 : decode cX3_missing 50 = .ok (.getfield 32, 3) := by decide +kernel
theorem dX3_missing_53 : decode cX3_missing 53 = .ok (.iload 4, 2) := by decide +kernel
theorem dX3_missing_55 : decode cX3_missing 55 = .ok (.iaload, 1) := by decide +kernel
theorem dX3_missing_56 : decode cX3_missing 56 = .ok (.aaload, 1) := by decide +kernel
theorem dX3_missing_57 : decode cX3_missing 57 = .ok (.iload_n 2, 1) := by decide +kernel
theorem dX3_missing_58 : decode cX3_missing 58 = .ok (.iaload, 1) := by decide +kernel
theorem dX3_missing_59 : decode cX3_missing 59 = .ok (.iadd, 1) := by decide +kernel
theorem dX3_missing_60 : decode cX3_missing 60 = .ok (.istore_n 3, 1) := by decide +kernel
theorem dX3_missing_61 : decode cX3_missing 61 = .ok (.iinc 4 1, 3) := by decide +kernel
theorem dX3_missing_64 : decode cX3_missing 64 = .ok (.goto (-43), 3) := by decide +kernel
theorem dX3_missing_67 : decode cX3_missing 67 = .ok (.iconst 0, 1) := by decide +kernel
theorem dX3_missing_68 : decode cX3_missing 68 = .ok (.iload_n 3, 1) := by decide +kernel
theorem dX3_missing_69 : decode cX3_missing 69 = .ok (.aload_n 0, 1) := by decide +kernel
theorem dX3_missing_70 : decode cX3_missing 70 = .ok (.getfield 19, 3) := by decide +kernel
theorem dX3_missing_73 : decode cX3_missing 73 = .ok (.iload_n 2, 1) := by decide +kernel
theorem dX3_missing_74 : decode cX3_missing 74 = .ok (.invokevirtual 77, 3) := by decide +kernel
theorem dX3_missing_77 : decode cX3_missing 77 = .ok (.isub, 1) := by decide +kernel
theorem dX3_missing_78 : decode cX3_missing 78 = .ok (.invokestatic 89, 3) := by decide +kernel
theorem dX3_missing_81 : decode cX3_missing 81 = .ok (.ireturn, 1) := by decide +kernel
theorem dX3_checkNumber_0 : decode cX3_checkNumber 0 = .ok (.iload_n 0, 1) := by decide +kernel
theorem dX3_checkNumber_1 : decode cX3_checkNumber 1 = .ok (.ifCond .lt 8, 3) := by decide +kernel
theorem dX3_checkNumber_4 : decode cX3_checkNumber 4 = .ok (.iload_n 0, 1) := by decide +kernel
theorem dX3_checkNumber_5 : decode cX3_checkNumber 5 = .ok (.iload_n 1, 1) := by decide +kernel
theorem dX3_checkNumber_6 : decode cX3_checkNumber 6 = .ok (.if_icmp .lt 13, 3) := by decide +kernel
theorem dX3_checkNumber_9 : decode cX3_checkNumber 9 = .ok (.new 154, 3) := by decide +kernel
theorem dX3_checkNumber_12 : decode cX3_checkNumber 12 = .ok (.dup, 1) := by decide +kernel
theorem dX3_checkNumber_13 : decode cX3_checkNumber 13 = .ok (.ldc 156, 2) := by decide +kernel
theorem dX3_checkNumber_15 : decode cX3_checkNumber 15 = .ok (.invokespecial 158, 3) := by decide +kernel
theorem dX3_checkNumber_18 : decode cX3_checkNumber 18 = .ok (.athrow, 1) := by decide +kernel
theorem dX3_checkNumber_19 : decode cX3_checkNumber 19 = .ok (.return_, 1) := by decide +kernel
theorem dX3_checkRange_0 : decode cX3_checkRange 0 = .ok (.iload_n 0, 1) := by decide +kernel
theorem dX3_checkRange_1 : decode cX3_checkRange 1 = .ok (.iload_n 1, 1) := by decide +kernel
theorem dX3_checkRange_2 : decode cX3_checkRange 2 = .ok (.if_icmp .lt 8, 3) := by decide +kernel
theorem dX3_checkRange_5 : decode cX3_checkRange 5 = .ok (.iload_n 0, 1) := by decide +kernel
theorem dX3_checkRange_6 : decode cX3_checkRange 6 = .ok (.iload_n 2, 1) := by decide +kernel
theorem dX3_checkRange_7 : decode cX3_checkRange 7 = .ok (.if_icmp .le 13, 3) := by decide +kernel
theorem dX3_checkRange_10 : decode cX3_checkRange 10 = .ok (.new 84, 3) := by decide +kernel
theorem dX3_checkRange_13 : decode cX3_checkRange 13 = .ok (.dup, 1) := by decide +kernel
theorem dX3_checkRange_14 : decode cX3_checkRange 14 = .ok (.ldc 159, 2) := by decide +kernel
theorem dX3_checkRange_16 : decode cX3_checkRange 16 = .ok (.invokespecial 88, 3) := by decide +kernel
theorem dX3_checkRange_19 : decode cX3_checkRange 19 = .ok (.athrow, 1) := by decide +kernel
theorem dX3_checkRange_20 : decode cX3_checkRange 20 = .ok (.return_, 1) := by decide +kernel
theorem dX3_checkRoomFor_0 : decode cX3_checkRoomFor 0 = .ok (.aload_n 0, 1) := by decide +kernel
theorem dX3_checkRoomFor_1 : decode cX3_checkRoomFor 1 = .ok (.getfield 12, 3) := by decide +kernel
theorem dX3_checkRoomFor_4 : decode cX3_checkRoomFor 4 = .ok (.getfield 98, 3) := by decide +kernel
theorem dX3_checkRoomFor_7 : decode cX3_checkRoomFor 7 = .ok (.iload_n 1, 1) := by decide +kernel
theorem dX3_checkRoomFor_8 : decode cX3_checkRoomFor 8 = .ok (.iadd, 1) := by decide +kernel
theorem dX3_checkRoomFor_9 : decode cX3_checkRoomFor 9 = .ok (.sipush 240, 3) := by decide +kernel
theorem dX3_checkRoomFor_12 : decode cX3_checkRoomFor 12 = .ok (.if_icmp .le 13, 3) := by decide +kernel
theorem dX3_checkRoomFor_15 : decode cX3_checkRoomFor 15 = .ok (.new 53, 3) := by decide +kernel
theorem dX3_checkRoomFor_18 : decode cX3_checkRoomFor 18 = .ok (.dup, 1) := by decide +kernel
theorem dX3_checkRoomFor_19 : decode cX3_checkRoomFor 19 = .ok (.ldc 161, 2) := by decide +kernel
theorem dX3_checkRoomFor_21 : decode cX3_checkRoomFor 21 = .ok (.invokespecial 57, 3) := by decide +kernel
theorem dX3_checkRoomFor_24 : decode cX3_checkRoomFor 24 = .ok (.athrow, 1) := by decide +kernel
theorem dX3_checkRoomFor_25 : decode cX3_checkRoomFor 25 = .ok (.return_, 1) := by decide +kernel
theorem dX3_checkOpen_0 : decode cX3_checkOpen 0 = .ok (.aload_n 0, 1) := by decide +kernel
theorem dX3_checkOpen_1 : decode cX3_checkOpen 1 = .ok (.getfield 19, 3) := by decide +kernel
theorem dX3_checkOpen_4 : decode cX3_checkOpen 4 = .ok (.getfield 148, 3) := by decide +kernel
theorem dX3_checkOpen_7 : decode cX3_checkOpen 7 = .ok (.iload_n 1, 1) := by decide +kernel
theorem dX3_checkOpen_8 : decode cX3_checkOpen 8 = .ok (.iaload, 1) := by decide +kernel
theorem dX3_checkOpen_9 : decode cX3_checkOpen 9 = .ok (.iconst 1, 1) := by decide +kernel
theorem dX3_checkOpen_10 : decode cX3_checkOpen 10 = .ok (.if_icmp .eq 13, 3) := by decide +kernel
theorem dX3_checkOpen_13 : decode cX3_checkOpen 13 = .ok (.new 53, 3) := by decide +kernel
theorem dX3_checkOpen_16 : decode cX3_checkOpen 16 = .ok (.dup, 1) := by decide +kernel
theorem dX3_checkOpen_17 : decode cX3_checkOpen 17 = .ok (.ldc 163, 2) := by decide +kernel
theorem dX3_checkOpen_19 : decode cX3_checkOpen 19 = .ok (.invokespecial 57, 3) := by decide +kernel
theorem dX3_checkOpen_22 : decode cX3_checkOpen 22 = .ok (.athrow, 1) := by decide +kernel
theorem dX3_checkOpen_23 : decode cX3_checkOpen 23 = .ok (.return_, 1) := by decide +kernel
set_option maxRecDepth 20000 in
theorem ggX3_lookAs_X0_read : GoodIn wsX3_lookAs wsX0_read := goodIn_r _ [8, 9, 10, 11, 12, 13, 14, 15, 16, 17, 7, 18, 19, 20, 21, 22, 23, 24, 25, 26, 27, 28, 29, 30, 31, 32, 33, 34, 35, 36, 37, 38, 39, 40, 41, 42, 43, 44, 45, 46, 47, 48, 49, 50, 51, 52, 53, 54, 55, 56, 57, 58, 59, 60, 61, 62, 63, 64, 65, 66, 67, 75, 76, 77, 78, 79, 80, 81, 82, 83, 84, 85, 86, 87, 88, 89, 90, 91, 92, 93, 94, 95, 96] (by decide +kernel) (by decide +kernel)
set_option maxRecDepth 20000 in
theorem gX3_lookAs_X0_read : GoodIn wsX3_lookAs (wsV RX3 165 RX0 yX0_read wsX0_read) := goodIn_app (goodIn_of _ (by decide +kernel)) ggX3_lookAs_X0_read
theorem dX3_lookAs_0 : decode cX3_lookAs 0 = .ok (.aload_n 0, 1) := by decide +kernel
theorem dX3_lookAs_1 : decode cX3_lookAs 1 = .ok (.getfield 19, 3) := by decide +kernel
theorem dX3_lookAs_4 : decode cX3_lookAs 4 = .ok (.aload_n 0, 1) := by decide +kernel
theorem dX3_lookAs_5 : decode cX3_lookAs 5 = .ok (.getfield 12, 3) := by decide +kernel
theorem dX3_lookAs_8 : decode cX3_lookAs 8 = .ok (.iconst 1, 1) := by decide +kernel
theorem dX3_lookAs_9 : decode cX3_lookAs 9 = .ok (.iload_n 1, 1) := by decide +kernel
theorem dX3_lookAs_10 : decode cX3_lookAs 10 = .ok (.ishl, 1) := by decide +kernel
theorem dX3_lookAs_11 : decode cX3_lookAs 11 = .ok (.aload_n 0, 1) := by decide +kernel
theorem dX3_lookAs_12 : decode cX3_lookAs 12 = .ok (.getfield 35, 3) := by decide +kernel
theorem dX3_lookAs_15 : decode cX3_lookAs 15 = .ok (.invokevirtual 165, 3) := by decide +kernel
theorem dX3_lookAs_18 : decode cX3_lookAs 18 = .ok (.return_, 1) := by decide +kernel
set_option maxRecDepth 20000 in
theorem ggX3_lookByAll_X0_read : GoodIn wsX3_lookByAll wsX0_read := goodIn_r _ [8, 9, 10, 11, 12, 13, 14, 15, 16, 17, 7, 18, 19, 20, 21, 22, 23, 24, 25, 26, 27, 28, 29, 30, 31, 32, 33, 34, 35, 36, 37, 38, 39, 40, 41, 42, 43, 44, 45, 46, 47, 48, 49, 50, 51, 52, 53, 54, 55, 56, 57, 58, 59, 60, 61, 62, 63, 64, 65, 66, 67, 75, 76, 77, 78, 79, 80, 81, 82, 83, 84, 85, 86, 87, 88, 89, 90, 91, 92, 93, 94, 95, 96] (by decide +kernel) (by decide +kernel)
set_option maxRecDepth 20000 in
theorem gX3_lookByAll_X0_read : GoodIn wsX3_lookByAll (wsV RX3 165 RX0 yX0_read wsX0_read) := goodIn_app (goodIn_of _ (by decide +kernel)) ggX3_lookByAll_X0_read
theorem dX3_lookByAll_0 : decode cX3_lookByAll 0 = .ok (.aload_n 0, 1) := by decide +kernel
theorem dX3_lookByAll_1 : decode cX3_lookByAll 1 = .ok (.getfield 19, 3) := by decide +kernel
theorem dX3_lookByAll_4 : decode cX3_lookByAll 4 = .ok (.aload_n 0, 1) := by decide +kernel
theorem dX3_lookByAll_5 : decode cX3_lookByAll 5 = .ok (.getfield 12, 3) := by decide +kernel
theorem dX3_lookByAll_8 : decode cX3_lookByAll 8 = .ok (.bipush 31, 2) := by decide +kernel
theorem dX3_lookByAll_10 : decode cX3_lookByAll 10 = .ok (.aload_n 0, 1) := by decide +kernel
theorem dX3_lookByAll_11 : decode cX3_lookByAll 11 = .ok (.getfield 35, 3) := by decide +kernel
theorem dX3_lookByAll_14 : decode cX3_lookByAll 14 = .ok (.invokevirtual 165, 3) := by decide +kernel
theorem dX3_lookByAll_17 : decode cX3_lookByAll 17 = .ok (.return_, 1) := by decide +kernel
set_option maxRecDepth 20000 in
theorem ggX3_write_X1_init : GoodIn wsX3_write wsX1_init := goodIn_r _ [8, 9, 10, 11, 12, 13, 14, 15, 16, 17, 18, 19, 20, 21, 41, 42, 43, 44, 45, 46, 47, 48, 49, 50] (by decide +kernel) (by decide +kernel)
set_option maxRecDepth 20000 in
theorem gX3_write_X1_init : GoodIn wsX3_write (wsX1_init) := ggX3_write_X1_init
set_option maxRecDepth 20000 in
theorem ggX3_write_X2_insert : GoodIn wsX3_write wsX2_insert := goodIn_r _ [26, 27, 28, 29, 30, 31, 32, 4, 33, 17, 18, 51, 52, 41, 42, 43, 44, 45, 46, 47, 48, 49, 50] (by decide +kernel) (by decide +kernel)
set_option maxRecDepth 20000 in
theorem gX3_write_X2_insert : GoodIn wsX3_write (wsV RX3 172 RX2 yX2_insert wsX2_insert) := goodIn_app (goodIn_of _ (by decide +kernel)) ggX3_write_X2_insert
theorem dX3_write_0 : decode cX3_write 0 = .ok (.aload_n 0, 1) := by decide +kernel
theorem dX3_write_1 : decode cX3_write 1 = .ok (.getfield 23, 3) := by decide +kernel
theorem dX3_write_4 : decode cX3_write 4 = .ok (.iload_n 1, 1) := by decide +kernel
theorem dX3_write_5 : decode cX3_write 5 = .ok (.dup2, 1) := by decide +kernel
theorem dX3_write_6 : decode cX3_write 6 = .ok (.iaload, 1) := by decide +kernel
theorem dX3_write_7 : decode cX3_write 7 = .ok (.iconst 1, 1) := by decide +kernel
theorem dX3_write_8 : decode cX3_write 8 = .ok (.iadd, 1) := by decide +kernel
theorem dX3_write_9 : decode cX3_write 9 = .ok (.iastore, 1) := by decide +kernel
theorem dX3_write_10 : decode cX3_write 10 = .ok (.new 63, 3) := by decide +kernel
theorem dX3_write_13 : decode cX3_write 13 = .ok (.dup, 1) := by decide +kernel
theorem dX3_write_14 : decode cX3_write 14 = .ok (.iload_n 2, 1) := by decide +kernel
theorem dX3_write_15 : decode cX3_write 15 = .ok (.aload_n 0, 1) := by decide +kernel
theorem dX3_write_16 : decode cX3_write 16 = .ok (.getfield 23, 3) := by decide +kernel
theorem dX3_write_19 : decode cX3_write 19 = .ok (.iload_n 1, 1) := by decide +kernel
theorem dX3_write_20 : decode cX3_write 20 = .ok (.iaload, 1) := by decide +kernel
theorem dX3_write_21 : decode cX3_write 21 = .ok (.iload_n 1, 1) := by decide +kernel
theorem dX3_write_22 : decode cX3_write 22 = .ok (.iload_n 3, 1) := by decide +kernel
theorem dX3_write_23 : decode cX3_write 23 = .ok (.iload 4, 2) := by decide +kernel
theorem dX3_write_25 : decode cX3_write 25 = .ok (.invokespecial 169, 3) := by decide +kernel
theorem dX3_write_28 : decode cX3_write 28 = .ok (.astore 5, 2) := by decide +kernel
theorem dX3_write_30 : decode cX3_write 30 = .ok (.aload_n 0, 1) := by decide +kernel
theorem dX3_write_31 : decode cX3_write 31 = .ok (.getfield 12, 3) := by decide +kernel
theorem dX3_write_34 : decode cX3_write 34 = .ok (.aload 5, 2) := by decide +kernel
theorem dX3_write_36 : decode cX3_write 36 = .ok (.invokevirtual 172, 3) := by decide +kernel
theorem dX3_write_39 : decode cX3_write 39 = .ok (.aload 5, 2) := by decide +kernel
theorem dX3_write_41 : decode cX3_write 41 = .ok (.areturn, 1) := by decide +kernel
set_option maxRecDepth 20000 in
theorem ggX3_isDisliked_X0_dislikedOn : GoodIn wsX3_isDisliked wsX0_dislikedOn := goodIn_r _ [7, 8, 9, 10, 11, 6, 12, 13, 14, 22, 23, 24, 25, 26, 27, 28, 29, 30, 31] (by decide +kernel) (by decide +kernel)
set_option maxRecDepth 20000 in
theorem gX3_isDisliked_X0_dislikedOn : GoodIn wsX3_isDisliked (wsV RX3 176 RX0 yX0_dislikedOn wsX0_dislikedOn) := goodIn_app (goodIn_of _ (by decide +kernel)) ggX3_isDisliked_X0_dislikedOn
theorem dX3_isDisliked_0 : decode cX3_isDisliked 0 = .ok (.aload_n 0, 1) := by decide +kernel
theorem dX3_isDisliked_1 : decode cX3_isDisliked 1 = .ok (.getfield 19, 3) := by decide +kernel
theorem dX3_isDisliked_4 : decode cX3_isDisliked 4 = .ok (.iload_n 2, 1) := by decide +kernel
theorem dX3_isDisliked_5 : decode cX3_isDisliked 5 = .ok (.invokevirtual 176, 3) := by decide +kernel
theorem dX3_isDisliked_8 : decode cX3_isDisliked 8 = .ok (.istore_n 3, 1) := by decide +kernel
theorem dX3_isDisliked_9 : decode cX3_isDisliked 9 = .ok (.iconst 0, 1) := by decide +kernel
theorem dX3_isDisliked_10 : decode cX3_isDisliked 10 = .ok (.istore 4, 2) := by decide +kernel
theorem dX3_isDisliked_12 : decode cX3_isDisliked 12 = .ok (.iload 4, 2) := by decide +kernel
theorem dX3_isDisliked_14 : decode cX3_isDisliked 14 = .ok (.bipush 8, 2) := by decide +kernel
theorem dX3_isDisliked_16 : decode cX3_isDisliked 16 = .ok (.if_icmp .ge 32, 3) := by decide +kernel
theorem dX3_isDisliked_19 : decode cX3_isDisliked 19 = .ok (.aload_n 0, 1) := by decide +kernel
theorem dX3_isDisliked_20 : decode cX3_isDisliked 20 = .ok (.getfield 29, 3) := by decide +kernel
theorem dX3_isDisliked_23 : decode cX3_isDisliked 23 = .ok (.iload_n 1, 1) := by decide +kernel
theorem dX3_isDisliked_24 : decode cX3_isDisliked 24 = .ok (.aaload, 1) := by decide +kernel
theorem dX3_isDisliked_25 : decode cX3_isDisliked 25 = .ok (.iload 4, 2) := by decide +kernel
theorem dX3_isDisliked_27 : decode cX3_isDisliked 27 = .ok (.iaload, 1) := by decide +kernel
theorem dX3_isDisliked_28 : decode cX3_isDisliked 28 = .ok (.ifCond .le 14, 3) := by decide +kernel
theorem dX3_isDisliked_31 : decode cX3_isDisliked 31 = .ok (.iload_n 3, 1) := by decide +kernel
theorem dX3_isDisliked_32 : decode cX3_isDisliked 32 = .ok (.iconst 1, 1) := by decide +kernel
theorem dX3_isDisliked_33 : decode cX3_isDisliked 33 = .ok (.iload 4, 2) := by decide +kernel
theorem dX3_isDisliked_35 : decode cX3_isDisliked 35 = .ok (.ishl, 1) := by decide +kernel
theorem dX3_isDisliked_36 : decode cX3_isDisliked 36 = .ok (.iand, 1) := by decide +kernel
theorem dX3_isDisliked_37 : decode cX3_isDisliked 37 = .ok (.ifCond .eq 5, 3) := by decide +kernel
theorem dX3_isDisliked_40 : decode cX3_isDisliked 40 = .ok (.iconst 1, 1) := by decide +kernel
theorem dX3_isDisliked_41 : decode cX3_isDisliked 41 = .ok (.ireturn, 1) := by decide +kernel
theorem dX3_isDisliked_42 : decode cX3_isDisliked 42 = .ok (.iinc 4 1, 3) := by decide +kernel
theorem dX3_isDisliked_45 : decode cX3_isDisliked 45 = .ok (.goto (-33), 3) := by decide +kernel
theorem dX3_isDisliked_48 : decode cX3_isDisliked 48 = .ok (.iconst 0, 1) := by decide +kernel
theorem dX3_isDisliked_49 : decode cX3_isDisliked 49 = .ok (.ireturn, 1) := by decide +kernel
set_option maxRecDepth 20000 in
theorem ggX3_lacking_X0_thingsKept : GoodIn wsX3_lacking wsX0_thingsKept := goodIn_r _ [12, 13, 21, 22, 23, 24, 25, 26, 27, 28, 29, 30] (by decide +kernel) (by decide +kernel)
set_option maxRecDepth 20000 in
theorem gX3_lacking_X0_thingsKept : GoodIn wsX3_lacking (wsV RX3 179 RX0 yX0_thingsKept wsX0_thingsKept) := goodIn_app (goodIn_of _ (by decide +kernel)) ggX3_lacking_X0_thingsKept
theorem dX3_lacking_0 : decode cX3_lacking 0 = .ok (.iconst 0, 1) := by decide +kernel
theorem dX3_lacking_1 : decode cX3_lacking 1 = .ok (.aload_n 0, 1) := by decide +kernel
theorem dX3_lacking_2 : decode cX3_lacking 2 = .ok (.getfield 29, 3) := by decide +kernel
theorem dX3_lacking_5 : decode cX3_lacking 5 = .ok (.aload_n 0, 1) := by decide +kernel
theorem dX3_lacking_6 : decode cX3_lacking 6 = .ok (.getfield 32, 3) := by decide +kernel
theorem dX3_lacking_9 : decode cX3_lacking 9 = .ok (.iload_n 1, 1) := by decide +kernel
theorem dX3_lacking_10 : decode cX3_lacking 10 = .ok (.iaload, 1) := by decide +kernel
theorem dX3_lacking_11 : decode cX3_lacking 11 = .ok (.aaload, 1) := by decide +kernel
theorem dX3_lacking_12 : decode cX3_lacking 12 = .ok (.iload_n 2, 1) := by decide +kernel
theorem dX3_lacking_13 : decode cX3_lacking 13 = .ok (.iaload, 1) := by decide +kernel
theorem dX3_lacking_14 : decode cX3_lacking 14 = .ok (.aload_n 0, 1) := by decide +kernel
theorem dX3_lacking_15 : decode cX3_lacking 15 = .ok (.getfield 19, 3) := by decide +kernel
theorem dX3_lacking_18 : decode cX3_lacking 18 = .ok (.iload_n 1, 1) := by decide +kernel
theorem dX3_lacking_19 : decode cX3_lacking 19 = .ok (.iload_n 2, 1) := by decide +kernel
theorem dX3_lacking_20 : decode cX3_lacking 20 = .ok (.invokevirtual 179, 3) := by decide +kernel
theorem dX3_lacking_23 : decode cX3_lacking 23 = .ok (.isub, 1) := by decide +kernel
theorem dX3_lacking_24 : decode cX3_lacking 24 = .ok (.invokestatic 89, 3) := by decide +kernel
theorem dX3_lacking_27 : decode cX3_lacking 27 = .ok (.ireturn, 1) := by decide +kernel
set_option maxRecDepth 20000 in
theorem ggX3_keptInAll_X0_thingsKept : GoodIn wsX3_keptInAll wsX0_thingsKept := goodIn_r _ [6, 7, 15, 16, 17, 18, 19, 20, 21, 22, 23, 24] (by decide +kernel) (by decide +kernel)
set_option maxRecDepth 20000 in
theorem gX3_keptInAll_X0_thingsKept : GoodIn wsX3_keptInAll (wsV RX3 179 RX0 yX0_thingsKept wsX0_thingsKept) := goodIn_app (goodIn_of _ (by decide +kernel)) ggX3_keptInAll_X0_thingsKept
theorem dX3_keptInAll_0 : decode cX3_keptInAll 0 = .ok (.iconst 0, 1) := by decide +kernel
theorem dX3_keptInAll_1 : decode cX3_keptInAll 1 = .ok (.istore_n 2, 1) := by decide +kernel
theorem dX3_keptInAll_2 : decode cX3_keptInAll 2 = .ok (.iconst 0, 1) := by decide +kernel
theorem dX3_keptInAll_3 : decode cX3_keptInAll 3 = .ok (.istore_n 3, 1) := by decide +kernel
theorem dX3_keptInAll_4 : decode cX3_keptInAll 4 = .ok (.iload_n 3, 1) := by decide +kernel
theorem dX3_keptInAll_5 : decode cX3_keptInAll 5 = .ok (.bipush 8, 2) := by decide +kernel
theorem dX3_keptInAll_7 : decode cX3_keptInAll 7 = .ok (.if_icmp .ge 21, 3) := by decide +kernel
theorem dX3_keptInAll_10 : decode cX3_keptInAll 10 = .ok (.iload_n 2, 1) := by decide +kernel
theorem dX3_keptInAll_11 : decode cX3_keptInAll 11 = .ok (.aload_n 0, 1) := by decide +kernel
theorem dX3_keptInAll_12 : decode cX3_keptInAll 12 = .ok (.getfield 19, 3) := by decide +kernel
theorem dX3_keptInAll_15 : decode cX3_keptInAll 15 = .ok (.iload_n 1, 1) := by decide +kernel
theorem dX3_keptInAll_16 : decode cX3_keptInAll 16 = .ok (.iload_n 3, 1) := by decide +kernel
theorem dX3_keptInAll_17 : decode cX3_keptInAll 17 = .ok (.invokevirtual 179, 3) := by decide +kernel
theorem dX3_keptInAll_20 : decode cX3_keptInAll 20 = .ok (.iadd, 1) := by decide +kernel
theorem dX3_keptInAll_21 : decode cX3_keptInAll 21 = .ok (.istore_n 2, 1) := by decide +kernel
theorem dX3_keptInAll_22 : decode cX3_keptInAll 22 = .ok (.iinc 3 1, 3) := by decide +kernel
theorem dX3_keptInAll_25 : decode cX3_keptInAll 25 = .ok (.goto (-21), 3) := by decide +kernel
theorem dX3_keptInAll_28 : decode cX3_keptInAll 28 = .ok (.iload_n 2, 1) := by decide +kernel
theorem dX3_keptInAll_29 : decode cX3_keptInAll 29 = .ok (.ireturn, 1) := by decide +kernel
set_option maxRecDepth 20000 in
theorem ggX3_keepable_X3_lacking : GoodIn wsX3_keepable wsX3_lacking := goodIn_r _ [10, 11, 12, 1, 13, 14, 4, 15, 16, 17, 18, 19, 20, 21, 31, 32, 33, 34, 35, 36, 37, 38, 39, 40, 41, 42, 43, 44, 45, 46, 47] (by decide +kernel) (by decide +kernel)
set_option maxRecDepth 20000 in
theorem gX3_keepable_X3_lacking : GoodIn wsX3_keepable (wsV RX3 140 RX3 yX3_lacking wsX3_lacking) := goodIn_app (goodIn_of _ (by decide +kernel)) ggX3_keepable_X3_lacking
set_option maxRecDepth 20000 in
theorem ggX3_keepable_X0_thingsFree : GoodIn wsX3_keepable wsX0_thingsFree := goodIn_r _ [25, 26, 27, 28, 19, 29, 30, 21, 38, 39, 40, 41, 42, 43, 44, 45, 46, 47] (by decide +kernel) (by decide +kernel)
set_option maxRecDepth 20000 in
theorem gX3_keepable_X0_thingsFree : GoodIn wsX3_keepable (wsV RX3 182 RX0 yX0_thingsFree wsX0_thingsFree) := goodIn_app (goodIn_of _ (by decide +kernel)) ggX3_keepable_X0_thingsFree
theorem dX3_keepable_0 : decode cX3_keepable 0 = .ok (.aload_n 0, 1) := by decide +kernel
theorem dX3_keepable_1 : decode cX3_keepable 1 = .ok (.iload_n 1, 1) := by decide +kernel
theorem dX3_keepable_2 : decode cX3_keepable 2 = .ok (.iload_n 2, 1) := by decide +kernel
theorem dX3_keepable_3 : decode cX3_keepable 3 = .ok (.invokevirtual 140, 3) := by decide +kernel
theorem dX3_keepable_6 : decode cX3_keepable 6 = .ok (.aload_n 0, 1) := by decide +kernel
theorem dX3_keepable_7 : decode cX3_keepable 7 = .ok (.getfield 19, 3) := by decide +kernel
theorem dX3_keepable_10 : decode cX3_keepable 10 = .ok (.iload_n 2, 1) := by decide +kernel
theorem dX3_keepable_11 : decode cX3_keepable 11 = .ok (.invokevirtual 182, 3) := by decide +kernel
theorem dX3_keepable_14 : decode cX3_keepable 14 = .ok (.invokestatic 185, 3) := by decide +kernel
theorem dX3_keepable_17 : decode cX3_keepable 17 = .ok (.ireturn, 1) := by decide +kernel
set_option maxRecDepth 20000 in
theorem ggX3_writeKeeps_X3_keepable : GoodIn wsX3_writeKeeps wsX3_keepable := goodIn_r _ [6, 1, 7, 8, 9, 10, 11, 12, 13, 5, 14, 15, 16, 17, 18, 19, 20, 21, 22, 23, 24, 25, 26, 27, 28, 29, 30, 31, 32, 33, 34, 73, 74, 75, 76, 77, 78, 79, 80, 81, 82, 83, 84, 85, 86, 87, 88, 89] (by decide +kernel) (by decide +kernel)
set_option maxRecDepth 20000 in
theorem gX3_writeKeeps_X3_keepable : GoodIn wsX3_writeKeeps (wsV RX3 131 RX3 yX3_keepable wsX3_keepable) := goodIn_app (goodIn_of _ (by decide +kernel)) ggX3_writeKeeps_X3_keepable
set_option maxRecDepth 20000 in
theorem ggX3_writeKeeps_X0_isFree : GoodIn wsX3_writeKeeps wsX0_isFree := goodIn_r _ [33, 34, 25, 80, 81, 82, 83, 84, 85, 86, 87, 88, 89] (by decide +kernel) (by decide +kernel)
set_option maxRecDepth 20000 in
theorem gX3_writeKeeps_X0_isFree : GoodIn wsX3_writeKeeps (wsV RX3 188 RX0 yX0_isFree wsX0_isFree) := goodIn_app (goodIn_of _ (by decide +kernel)) ggX3_writeKeeps_X0_isFree
set_option maxRecDepth 20000 in
theorem ggX3_writeKeeps_X3_write : GoodIn wsX3_writeKeeps wsX3_write := goodIn_r _ [39, 40, 41, 42, 43, 44, 45, 46, 47, 48, 49, 50, 51, 52, 53, 54, 55, 56, 57, 58, 59, 60, 61, 62, 63, 64, 65, 66, 67, 68, 69, 70, 71, 72, 73, 74, 75, 76, 77, 78, 79, 90, 91, 92, 93, 94, 95, 96, 97, 98, 99, 100, 101] (by decide +kernel) (by decide +kernel)
set_option maxRecDepth 20000 in
theorem gX3_writeKeeps_X3_write : GoodIn wsX3_writeKeeps (wsV RX3 65 RX3 yX3_write wsX3_write) := goodIn_app (goodIn_of _ (by decide +kernel)) ggX3_writeKeeps_X3_write
theorem dX3_writeKeeps_0 : decode cX3_writeKeeps 0 = .ok (.aload_n 0, 1) := by decide +kernel
theorem dX3_writeKeeps_1 : decode cX3_writeKeeps 1 = .ok (.iload_n 2, 1) := by decide +kernel
theorem dX3_writeKeeps_2 : decode cX3_writeKeeps 2 = .ok (.iload_n 3, 1) := by decide +kernel
theorem dX3_writeKeeps_3 : decode cX3_writeKeeps 3 = .ok (.invokevirtual 131, 3) := by decide +kernel
theorem dX3_writeKeeps_6 : decode cX3_writeKeeps 6 = .ok (.istore 4, 2) := by decide +kernel
theorem dX3_writeKeeps_8 : decode cX3_writeKeeps 8 = .ok (.iload_n 3, 1) := by decide +kernel
theorem dX3_writeKeeps_9 : decode cX3_writeKeeps 9 = .ok (.istore 5, 2) := by decide +kernel
theorem dX3_writeKeeps_11 : decode cX3_writeKeeps 11 = .ok (.iload 5, 2) := by decide +kernel
theorem dX3_writeKeeps_13 : decode cX3_writeKeeps 13 = .ok (.bipush 40, 2) := by decide +kernel
theorem dX3_writeKeeps_15 : decode cX3_writeKeeps 15 = .ok (.if_icmp .ge 39, 3) := by decide +kernel
theorem dX3_writeKeeps_18 : decode cX3_writeKeeps 18 = .ok (.iload 4, 2) := by decide +kernel
theorem dX3_writeKeeps_20 : decode cX3_writeKeeps 20 = .ok (.ifCond .le 34, 3) := by decide +kernel
theorem dX3_writeKeeps_23 : decode cX3_writeKeeps 23 = .ok (.aload_n 0, 1) := by decide +kernel
theorem dX3_writeKeeps_24 : decode cX3_writeKeeps 24 = .ok (.getfield 19, 3) := by decide +kernel
theorem dX3_writeKeeps_27 : decode cX3_writeKeeps 27 = .ok (.iload 5, 2) := by decide +kernel
theorem dX3_writeKeeps_29 : decode cX3_writeKeeps 29 = .ok (.invokevirtual 188, 3) := by decide +kernel
theorem dX3_writeKeeps_32 : decode cX3_writeKeeps 32 = .ok (.ifCond .eq 16, 3) := by decide +kernel
theorem dX3_writeKeeps_35 : decode cX3_writeKeeps 35 = .ok (.aload_n 0, 1) := by decide +kernel
theorem dX3_writeKeeps_36 : decode cX3_writeKeeps 36 = .ok (.iload_n 1, 1) := by decide +kernel
theorem dX3_writeKeeps_37 : decode cX3_writeKeeps 37 = .ok (.iconst 4, 1) := by decide +kernel
theorem dX3_writeKeeps_38 : decode cX3_writeKeeps 38 = .ok (.iload 5, 2) := by decide +kernel
theorem dX3_writeKeeps_40 : decode cX3_writeKeeps 40 = .ok (.iload_n 2, 1) := by decide +kernel
theorem dX3_writeKeeps_41 : decode cX3_writeKeeps 41 = .ok (.invokevirtual 65, 3) := by decide +kernel
theorem dX3_writeKeeps_44 : decode cX3_writeKeeps 44 = .ok (.pop, 1) := by decide +kernel
theorem dX3_writeKeeps_45 : decode cX3_writeKeeps 45 = .ok (.iinc 4 (-1), 3) := by decide +kernel
theorem dX3_writeKeeps_48 : decode cX3_writeKeeps 48 = .ok (.iinc 5 8, 3) := by decide +kernel
theorem dX3_writeKeeps_51 : decode cX3_writeKeeps 51 = .ok (.goto (-40), 3) := by decide +kernel
theorem dX3_writeKeeps_54 : decode cX3_writeKeeps 54 = .ok (.return_, 1) := by decide +kernel
