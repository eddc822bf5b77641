set_option maxRecDepth 20000 in
theorem ggX3_init_X2_init : GoodIn wsX3_init wsX2_init := goodIn_r _ [20, 21, 2, 3, 22, 23, 37, 38] (by decide +kernel) (by decide +kernel)
set_option maxRecDepth 20000 in
theorem gX3_init_X2_init_n11 : GoodIn wsX3_init (wsX2_init) := ggX3_init_X2_init
set_option maxRecDepth 20000 in
theorem ggX3_init_X0_init : GoodIn wsX3_init wsX0_init := goodIn_r _ [25, 26, 2, 3, 12, 27, 28, 29, 30, 31, 32, 33, 34, 35, 36, 46, 47, 48, 49, 50, 51, 52, 53, 54, 55] (by decide +kernel) (by decide +kernel)
set_option maxRecDepth 20000 in
theorem gX3_init_X0_init_n18 : GoodIn wsX3_init (wsX0_init) := ggX3_init_X0_init
theorem dX3_init_0 : decode cX3_init 0 = .ok (.aload_n 0, 1) := by decide +kernel
theorem dX3_init_1 : decode cX3_init 1 = .ok (.invokespecial 3, 3) := by decide +kernel
theorem dX3_init_4 : decode cX3_init 4 = .ok (.aload_n 0, 1) := by decide +kernel
theorem dX3_init_5 : decode cX3_init 5 = .ok (.new 9, 3) := by decide +kernel
theorem dX3_init_8 : decode cX3_init 8 = .ok (.dup, 1) := by decide +kernel
theorem dX3_init_9 : decode cX3_init 9 = .ok (.invokespecial 11, 3) := by decide +kernel
theorem dX3_init_12 : decode cX3_init 12 = .ok (.putfield 12, 3) := by decide +kernel
theorem dX3_init_15 : decode cX3_init 15 = .ok (.aload_n 0, 1) := by decide +kernel
theorem dX3_init_16 : decode cX3_init 16 = .ok (.new 16, 3) := by decide +kernel
theorem dX3_init_19 : decode cX3_init 19 = .ok (.dup, 1) := by decide +kernel
theorem dX3_init_20 : decode cX3_init 20 = .ok (.invokespecial 18, 3) := by decide +kernel
theorem dX3_init_23 : decode cX3_init 23 = .ok (.putfield 19, 3) := by decide +kernel
theorem dX3_init_26 : decode cX3_init 26 = .ok (.aload_n 0, 1) := by decide +kernel
theorem dX3_init_27 : decode cX3_init 27 = .ok (.iconst 5, 1) := by decide +kernel
theorem dX3_init_28 : decode cX3_init 28 = .ok (.newarray .int, 2) := by decide +kernel
theorem dX3_init_30 : decode cX3_init 30 = .ok (.putfield 23, 3) := by decide +kernel
theorem dX3_init_33 : decode cX3_init 33 = .ok (.aload_n 0, 1) := by decide +kernel
theorem dX3_init_34 : decode cX3_init 34 = .ok (.bipush 6, 2) := by decide +kernel
theorem dX3_init_36 : decode cX3_init 36 = .ok (.bipush 8, 2) := by decide +kernel
theorem dX3_init_38 : decode cX3_init 38 = .ok (.multianewarray 27 2, 4) := by decide +kernel
theorem dX3_init_42 : decode cX3_init 42 = .ok (.putfield 29, 3) := by decide +kernel
theorem dX3_init_45 : decode cX3_init 45 = .ok (.aload_n 0, 1) := by decide +kernel
theorem dX3_init_46 : decode cX3_init 46 = .ok (.bipush 20, 2) := by decide +kernel
theorem dX3_init_48 : decode cX3_init 48 = .ok (.newarray .int, 2) := by decide +kernel
theorem dX3_init_50 : decode cX3_init 50 = .ok (.putfield 32, 3) := by decide +kernel
theorem dX3_init_53 : decode cX3_init 53 = .ok (.aload_n 0, 1) := by decide +kernel
theorem dX3_init_54 : decode cX3_init 54 = .ok (.bipush 20, 2) := by decide +kernel
theorem dX3_init_56 : decode cX3_init 56 = .ok (.newarray .int, 2) := by decide +kernel
theorem dX3_init_58 : decode cX3_init 58 = .ok (.putfield 35, 3) := by decide +kernel
theorem dX3_init_61 : decode cX3_init 61 = .ok (.aload_n 0, 1) := by decide +kernel
theorem dX3_init_62 : decode cX3_init 62 = .ok (.iconst 0, 1) := by decide +kernel
theorem dX3_init_63 : decode cX3_init 63 = .ok (.putfield 38, 3) := by decide +kernel
theorem dX3_init_66 : decode cX3_init 66 = .ok (.return_, 1) := by decide +kernel
set_option maxRecDepth 20000 in
theorem ggX3_put_X3_checkNumber : GoodIn wsX3_put wsX3_checkNumber := goodIn_ca (goodIn_r _ [9, 10, 11] (by decide +kernel) (by decide +kernel)) (goodIn_sub (fun _ h => List.mem_cons_of_mem _ (List.mem_append_right _ h)) (by decide +kernel))
set_option maxRecDepth 20000 in
theorem gX3_put_X3_checkNumber : GoodIn wsX3_put (va_wsS RX3 42 yX3_checkNumber wsX3_checkNumber) := goodIn_app (goodIn_of _ (by decide +kernel)) ggX3_put_X3_checkNumber
set_option maxRecDepth 20000 in
theorem ggX3_put_X3_lookAs : GoodIn wsX3_put wsX3_lookAs := goodIn_r _ [15, 3, 16, 17, 18, 19, 20, 21, 22, 23, 24, 25, 26, 27, 28, 29, 30, 31, 32, 33, 34, 35, 36, 37, 38, 39, 40, 41, 42, 43, 44, 45, 46, 47, 48, 49, 50, 51, 52, 53, 54, 55, 56, 57, 58, 59, 60, 61, 62, 63, 64, 65, 66, 67, 68, 69, 70, 71, 72, 73, 74, 75, 76, 77, 78, 79, 80, 81, 123, 124, 125, 126, 127, 128, 129, 150, 151, 140, 141, 142, 143, 144, 145, 146, 147, 148, 149, 130, 131, 132, 133, 134, 135, 136, 137, 138, 139] (by decide +kernel) (by decide +kernel)
set_option maxRecDepth 20000 in
theorem gX3_put_X3_lookAs : GoodIn wsX3_put (wsV RX3 46 RX3 yX3_lookAs wsX3_lookAs) := goodIn_app (goodIn_of _ (by decide +kernel)) ggX3_put_X3_lookAs
set_option maxRecDepth 20000 in
theorem ggX3_put_X3_checkRoomFor : GoodIn wsX3_put wsX3_checkRoomFor := goodIn_ca (goodIn_r _ [85, 1, 2, 16, 86, 123, 124, 125, 126, 127, 128, 129, 150, 151] (by decide +kernel) (by decide +kernel)) (goodIn_sub (fun _ h => List.mem_cons_of_mem _ (List.mem_append_left _ (List.mem_append_right _ h))) (by decide +kernel))
set_option maxRecDepth 20000 in
theorem gX3_put_X3_checkRoomFor : GoodIn wsX3_put (wsV RX3 60 RX3 yX3_checkRoomFor wsX3_checkRoomFor) := goodIn_app (goodIn_of _ (by decide +kernel)) ggX3_put_X3_checkRoomFor
set_option maxRecDepth 20000 in
theorem ggX3_put_X3_write : GoodIn wsX3_put wsX3_write := goodIn_r _ [90, 91, 92, 93, 94, 16, 95, 96, 97, 98, 99, 100, 101, 102, 103, 104, 105, 106, 107, 108, 109, 110, 111, 112, 113, 114, 115, 116, 117, 118, 119, 120, 121, 122, 123, 124, 125, 126, 127, 128, 129, 140, 141, 142, 143, 144, 145, 146, 147, 148, 149, 150, 151] (by decide +kernel) (by decide +kernel)
set_option maxRecDepth 20000 in
theorem gX3_put_X3_write : GoodIn wsX3_put (wsV RX3 65 RX3 yX3_write wsX3_write) := goodIn_app (goodIn_of _ (by decide +kernel)) ggX3_put_X3_write
theorem dX3_put_0 : decode cX3_put 0 = .ok (.iload_n 1, 1) := by decide +kernel
theorem dX3_put_1 : decode cX3_put 1 = .ok (.iconst 5, 1) := by decide +kernel
theorem dX3_put_2 : decode cX3_put 2 = .ok (.invokestatic 42, 3) := by decide +kernel
theorem dX3_put_5 : decode cX3_put 5 = .ok (.iload_n 2, 1) := by decide +kernel
theorem dX3_put_6 : decode cX3_put 6 = .ok (.bipush 40, 2) := by decide +kernel
theorem dX3_put_8 : decode cX3_put 8 = .ok (.invokestatic 42, 3) := by decide +kernel
theorem dX3_put_11 : decode cX3_put 11 = .ok (.aload_n 0, 1) := by decide +kernel
theorem dX3_put_12 : decode cX3_put 12 = .ok (.iload_n 1, 1) := by decide +kernel
theorem dX3_put_13 : decode cX3_put 13 = .ok (.invokevirtual 46, 3) := by decide +kernel
theorem dX3_put_16 : decode cX3_put 16 = .ok (.aload_n 0, 1) := by decide +kernel
theorem dX3_put_17 : decode cX3_put 17 = .ok (.getfield 19, 3) := by decide +kernel
theorem dX3_put_20 : decode cX3_put 20 = .ok (.getfield 50, 3) := by decide +kernel
theorem dX3_put_23 : decode cX3_put 23 = .ok (.iload_n 2, 1) := by decide +kernel
theorem dX3_put_24 : decode cX3_put 24 = .ok (.iaload, 1) := by decide +kernel
theorem dX3_put_25 : decode cX3_put 25 = .ok (.iload_n 1, 1) := by decide +kernel
theorem dX3_put_26 : decode cX3_put 26 = .ok (.if_icmp .ne 13, 3) := by decide +kernel
theorem dX3_put_29 : decode cX3_put 29 = .ok (.new 53, 3) := by decide +kernel
theorem dX3_put_32 : decode cX3_put 32 = .ok (.dup, 1) := by decide +kernel
theorem dX3_put_33 : decode cX3_put 33 = .ok (.ldc 55, 2) := by decide +kernel
theorem dX3_put_35 : decode cX3_put 35 = .ok (.invokespecial 57, 3) := by decide +kernel
theorem dX3_put_38 : decode cX3_put 38 = .ok (.athrow, 1) := by decide +kernel
theorem dX3_put_39 : decode cX3_put 39 = .ok (.aload_n 0, 1) := by decide +kernel
theorem dX3_put_40 : decode cX3_put 40 = .ok (.iconst 1, 1) := by decide +kernel
theorem dX3_put_41 : decode cX3_put 41 = .ok (.invokevirtual 60, 3) := by decide +kernel
theorem dX3_put_44 : decode cX3_put 44 = .ok (.aload_n 0, 1) := by decide +kernel
theorem dX3_put_45 : decode cX3_put 45 = .ok (.iload_n 1, 1) := by decide +kernel
theorem dX3_put_46 : decode cX3_put 46 = .ok (.iconst 0, 1) := by decide +kernel
theorem dX3_put_47 : decode cX3_put 47 = .ok (.iload_n 2, 1) := by decide +kernel
theorem dX3_put_48 : decode cX3_put 48 = .ok (.iconst (-1), 1) := by decide +kernel
theorem dX3_put_49 : decode cX3_put 49 = .ok (.invokevirtual 65, 3) := by decide +kernel
theorem dX3_put_52 : decode cX3_put 52 = .ok (.getfield 69, 3) := by decide +kernel
theorem dX3_put_55 : decode cX3_put 55 = .ok (.ireturn, 1) := by decide +kernel
set_option maxRecDepth 20000 in
theorem ggX3_take_X3_checkNumber : GoodIn wsX3_take wsX3_checkNumber := goodIn_ca (goodIn_r _ [8, 9, 10] (by decide +kernel) (by decide +kernel)) (goodIn_sub (fun _ h => List.mem_cons_of_mem _ (List.mem_append_right _ h)) (by decide +kernel))
set_option maxRecDepth 20000 in
theorem gX3_take_X3_checkNumber : GoodIn wsX3_take (va_wsS RX3 42 yX3_checkNumber wsX3_checkNumber) := goodIn_app (goodIn_of _ (by decide +kernel)) ggX3_take_X3_checkNumber
set_option maxRecDepth 20000 in
theorem ggX3_take_X3_lookAs : GoodIn wsX3_take wsX3_lookAs := goodIn_r _ [14, 3, 15, 16, 17, 18, 19, 20, 21, 22, 23, 24, 25, 26, 27, 28, 29, 30, 31, 32, 33, 34, 35, 36, 37, 38, 39, 40, 41, 42, 43, 44, 45, 46, 47, 48, 49, 50, 51, 52, 53, 54, 55, 56, 57, 58, 59, 60, 61, 62, 63, 64, 65, 66, 67, 68, 69, 70, 71, 72, 73, 74, 75, 76, 77, 78, 79, 80, 122, 123, 124, 125, 126, 127, 128, 139, 140, 141, 142, 143, 144, 145, 146, 147, 148, 149, 150, 129, 130, 131, 132, 133, 134, 135, 136, 137, 138] (by decide +kernel) (by decide +kernel)
set_option maxRecDepth 20000 in
theorem gX3_take_X3_lookAs : GoodIn wsX3_take (wsV RX3 46 RX3 yX3_lookAs wsX3_lookAs) := goodIn_app (goodIn_of _ (by decide +kernel)) ggX3_take_X3_lookAs
set_option maxRecDepth 20000 in
theorem ggX3_take_X3_checkRoomFor : GoodIn wsX3_take wsX3_checkRoomFor := goodIn_ca (goodIn_r _ [84, 1, 2, 15, 85, 122, 123, 124, 125, 126, 127, 128, 139, 140] (by decide +kernel) (by decide +kernel)) (goodIn_sub (fun _ h => List.mem_cons_of_mem _ (List.mem_append_left _ (List.mem_append_right _ h))) (by decide +kernel))
set_option maxRecDepth 20000 in
theorem gX3_take_X3_checkRoomFor : GoodIn wsX3_take (wsV RX3 60 RX3 yX3_checkRoomFor wsX3_checkRoomFor) := goodIn_app (goodIn_of _ (by decide +kernel)) ggX3_take_X3_checkRoomFor
set_option maxRecDepth 20000 in
theorem ggX3_take_X3_write : GoodIn wsX3_take wsX3_write := goodIn_r _ [89, 90, 91, 92, 93, 15, 94, 95, 96, 97, 98, 99, 100, 101, 102, 103, 104, 105, 106, 107, 108, 109, 110, 111, 112, 113, 114, 115, 116, 117, 118, 119, 120, 121, 122, 123, 124, 125, 126, 127, 128, 141, 142, 143, 144, 145, 146, 147, 148, 149, 150, 139, 140] (by decide +kernel) (by decide +kernel)
set_option maxRecDepth 20000 in
theorem gX3_take_X3_write : GoodIn wsX3_take (wsV RX3 65 RX3 yX3_write wsX3_write) := goodIn_app (goodIn_of _ (by decide +kernel)) ggX3_take_X3_write
theorem dX3_take_0 : decode cX3_take 0 = .ok (.iload_n 1, 1) := by decide +kernel
theorem dX3_take_1 : decode cX3_take 1 = .ok (.iconst 5, 1) := by decide +kernel
theorem dX3_take_2 : decode cX3_take 2 = .ok (.invokestatic 42, 3) := by decide +kernel
theorem dX3_take_5 : decode cX3_take 5 = .ok (.iload_n 2, 1) := by decide +kernel
theorem dX3_take_6 : decode cX3_take 6 = .ok (.bipush 40, 2) := by decide +kernel
theorem dX3_take_8 : decode cX3_take 8 = .ok (.invokestatic 42, 3) := by decide +kernel
theorem dX3_take_11 : decode cX3_take 11 = .ok (.aload_n 0, 1) := by decide +kernel
theorem dX3_take_12 : decode cX3_take 12 = .ok (.iload_n 1, 1) := by decide +kernel
theorem dX3_take_13 : decode cX3_take 13 = .ok (.invokevirtual 46, 3) := by decide +kernel
theorem dX3_take_16 : decode cX3_take 16 = .ok (.aload_n 0, 1) := by decide +kernel
theorem dX3_take_17 : decode cX3_take 17 = .ok (.getfield 19, 3) := by decide +kernel
theorem dX3_take_20 : decode cX3_take 20 = .ok (.getfield 50, 3) := by decide +kernel
theorem dX3_take_23 : decode cX3_take 23 = .ok (.iload_n 2, 1) := by decide +kernel
theorem dX3_take_24 : decode cX3_take 24 = .ok (.iaload, 1) := by decide +kernel
theorem dX3_take_25 : decode cX3_take 25 = .ok (.istore_n 3, 1) := by decide +kernel
theorem dX3_take_26 : decode cX3_take 26 = .ok (.iload_n 3, 1) := by decide +kernel
theorem dX3_take_27 : decode cX3_take 27 = .ok (.iconst (-1), 1) := by decide +kernel
theorem dX3_take_28 : decode cX3_take 28 = .ok (.if_icmp .ne 13, 3) := by decide +kernel
theorem dX3_take_31 : decode cX3_take 31 = .ok (.new 53, 3) := by decide +kernel
theorem dX3_take_34 : decode cX3_take 34 = .ok (.dup, 1) := by decide +kernel
theorem dX3_take_35 : decode cX3_take 35 = .ok (.ldc 72, 2) := by decide +kernel
theorem dX3_take_37 : decode cX3_take 37 = .ok (.invokespecial 57, 3) := by decide +kernel
theorem dX3_take_40 : decode cX3_take 40 = .ok (.athrow, 1) := by decide +kernel
theorem dX3_take_41 : decode cX3_take 41 = .ok (.aload_n 0, 1) := by decide +kernel
theorem dX3_take_42 : decode cX3_take 42 = .ok (.iconst 1, 1) := by decide +kernel
theorem dX3_take_43 : decode cX3_take 43 = .ok (.invokevirtual 60, 3) := by decide +kernel
theorem dX3_take_46 : decode cX3_take 46 = .ok (.aload_n 0, 1) := by decide +kernel
theorem dX3_take_47 : decode cX3_take 47 = .ok (.iload_n 1, 1) := by decide +kernel
theorem dX3_take_48 : decode cX3_take 48 = .ok (.iconst 1, 1) := by decide +kernel
theorem dX3_take_49 : decode cX3_take 49 = .ok (.iload_n 2, 1) := by decide +kernel
theorem dX3_take_50 : decode cX3_take 50 = .ok (.iconst (-1), 1) := by decide +kernel
theorem dX3_take_51 : decode cX3_take 51 = .ok (.invokevirtual 65, 3) := by decide +kernel
theorem dX3_take_54 : decode cX3_take 54 = .ok (.pop, 1) := by decide +kernel
theorem dX3_take_55 : decode cX3_take 55 = .ok (.iload_n 3, 1) := by decide +kernel
theorem dX3_take_56 : decode cX3_take 56 = .ok (.ireturn, 1) := by decide +kernel
set_option maxRecDepth 20000 in
theorem ggX3_where_X3_checkNumber : GoodIn wsX3_where wsX3_checkNumber := goodIn_ca (goodIn_r _ [6, 7, 8] (by decide +kernel) (by decide +kernel)) (goodIn_sub (fun _ h => List.mem_cons_of_mem _ (List.mem_append_right _ h)) (by decide +kernel))
set_option maxRecDepth 20000 in
theorem gX3_where_X3_checkNumber : GoodIn wsX3_where (va_wsS RX3 42 yX3_checkNumber wsX3_checkNumber) := goodIn_app (goodIn_of _ (by decide +kernel)) ggX3_where_X3_checkNumber
set_option maxRecDepth 20000 in
theorem ggX3_where_X3_lookAs : GoodIn wsX3_where wsX3_lookAs := goodIn_r _ [12, 1, 13, 14, 15, 16, 17, 18, 19, 20, 21, 22, 23, 24, 25, 26, 27, 28, 29, 30, 31, 32, 33, 34, 35, 36, 37, 38, 39, 40, 41, 42, 43, 44, 45, 46, 47, 48, 49, 50, 51, 52, 53, 54, 55, 56, 57, 58, 59, 60, 61, 62, 63, 64, 65, 66, 67, 68, 69, 70, 71, 72, 73, 74, 75, 76, 77, 78, 79, 80, 81, 82, 83, 84, 85, 96, 97, 98, 99, 100, 101, 102, 103, 104, 105, 106, 107, 86, 87, 88, 89, 90, 91, 92, 93, 94, 95] (by decide +kernel) (by decide +kernel)
set_option maxRecDepth 20000 in
theorem gX3_where_X3_lookAs : GoodIn wsX3_where (wsV RX3 46 RX3 yX3_lookAs wsX3_lookAs) := goodIn_app (goodIn_of _ (by decide +kernel)) ggX3_where_X3_lookAs
theorem dX3_where_0 : decode cX3_where 0 = .ok (.iload_n 1, 1) := by decide +kernel
theorem dX3_where_1 : decode cX3_where 1 = .ok (.iconst 5, 1) := by decide +kernel
theorem dX3_where_2 : decode cX3_where 2 = .ok (.invokestatic 42, 3) := by decide +kernel
theorem dX3_where_5 : decode cX3_where 5 = .ok (.iload_n 2, 1) := by decide +kernel
theorem dX3_where_6 : decode cX3_where 6 = .ok (.bipush 40, 2) := by decide +kernel
theorem dX3_where_8 : decode cX3_where 8 = .ok (.invokestatic 42, 3) := by decide +kernel
theorem dX3_where_11 : decode cX3_where 11 = .ok (.aload_n 0, 1) := by decide +kernel
theorem dX3_where_12 : decode cX3_where 12 = .ok (.iload_n 1, 1) := by decide +kernel
theorem dX3_where_13 : decode cX3_where 13 = .ok (.invokevirtual 46, 3) := by decide +kernel
theorem dX3_where_16 : decode cX3_where 16 = .ok (.aload_n 0, 1) := by decide +kernel
theorem dX3_where_17 : decode cX3_where 17 = .ok (.getfield 19, 3) := by decide +kernel
theorem dX3_where_20 : decode cX3_where 20 = .ok (.getfield 50, 3) := by decide +kernel
theorem dX3_where_23 : decode cX3_where 23 = .ok (.iload_n 2, 1) := by decide +kernel
theorem dX3_where_24 : decode cX3_where 24 = .ok (.iaload, 1) := by decide +kernel
theorem dX3_where_25 : decode cX3_where 25 = .ok (.ireturn, 1) := by decide +kernel
set_option maxRecDepth 20000 in
theorem ggX3_whereByAll_X3_checkNumber : GoodIn wsX3_whereByAll wsX3_checkNumber := goodIn_ca (goodIn_r _ [6, 7, 8] (by decide +kernel) (by decide +kernel)) (goodIn_sub (fun _ h => List.mem_cons_of_mem _ (List.mem_append_right _ h)) (by decide +kernel))
set_option maxRecDepth 20000 in
theorem gX3_whereByAll_X3_checkNumber : GoodIn wsX3_whereByAll (va_wsS RX3 42 yX3_checkNumber wsX3_checkNumber) := goodIn_app (goodIn_of _ (by decide +kernel)) ggX3_whereByAll_X3_checkNumber
set_option maxRecDepth 20000 in
theorem ggX3_whereByAll_X3_lookByAll : GoodIn wsX3_whereByAll wsX3_lookByAll := goodIn_r _ [12, 1, 13, 14, 15, 16, 17, 18, 19, 20, 21, 22, 23, 24, 25, 26, 27, 28, 29, 30, 31, 32, 33, 34, 35, 36, 37, 38, 39, 40, 41, 42, 43, 44, 45, 46, 47, 48, 49, 50, 51, 52, 53, 54, 55, 56, 57, 58, 59, 60, 61, 62, 63, 64, 65, 66, 67, 68, 69, 70, 71, 72, 73, 74, 75, 76, 77, 78, 79, 80, 81, 82, 83, 84, 85, 96, 97, 98, 99, 100, 101, 102, 103, 104, 105, 106, 107, 86, 87, 88, 89, 90, 91, 92, 93, 94, 95] (by decide +kernel) (by decide +kernel)
set_option maxRecDepth 20000 in
theorem gX3_whereByAll_X3_lookByAll : GoodIn wsX3_whereByAll (wsV RX3 74 RX3 yX3_lookByAll wsX3_lookByAll) := goodIn_app (goodIn_of _ (by decide +kernel)) ggX3_whereByAll_X3_lookByAll
theorem dX3_whereByAll_0 : decode cX3_whereByAll 0 = .ok (.iload_n 1, 1) := by decide +kernel
theorem dX3_whereByAll_1 : decode cX3_whereByAll 1 = .ok (.bipush 40, 2) := by decide +kernel
theorem dX3_whereByAll_3 : decode cX3_whereByAll 3 = .ok (.invokestatic 42, 3) := by decide +kernel
theorem dX3_whereByAll_6 : decode cX3_whereByAll 6 = .ok (.aload_n 0, 1) := by decide +kernel
theorem dX3_whereByAll_7 : decode cX3_whereByAll 7 = .ok (.invokevirtual 74, 3) := by decide +kernel
theorem dX3_whereByAll_10 : decode cX3_whereByAll 10 = .ok (.aload_n 0, 1) := by decide +kernel
theorem dX3_whereByAll_11 : decode cX3_whereByAll 11 = .ok (.getfield 19, 3) := by decide +kernel
theorem dX3_whereByAll_14 : decode cX3_whereByAll 14 = .ok (.getfield 50, 3) := by decide +kernel
theorem dX3_whereByAll_17 : decode cX3_whereByAll 17 = .ok (.iload_n 1, 1) := by decide +kernel
theorem dX3_whereByAll_18 : decode cX3_whereByAll 18 = .ok (.iaload, 1) := by decide +kernel
theorem dX3_whereByAll_19 : decode cX3_whereByAll 19 = .ok (.ireturn, 1) := by decide +kernel
set_option maxRecDepth 20000 in
theorem ggX3_count_X3_checkNumber : GoodIn wsX3_count wsX3_checkNumber := goodIn_ca (goodIn_r _ [5, 6, 7] (by decide +kernel) (by decide +kernel)) (goodIn_sub (fun _ h => List.mem_cons_of_mem _ (List.mem_append_right _ h)) (by decide +kernel))
set_option maxRecDepth 20000 in
theorem gX3_count_X3_checkNumber : GoodIn wsX3_count (va_wsS RX3 42 yX3_checkNumber wsX3_checkNumber) := goodIn_app (goodIn_of _ (by decide +kernel)) ggX3_count_X3_checkNumber
set_option maxRecDepth 20000 in
theorem ggX3_count_X3_lookAs : GoodIn wsX3_count wsX3_lookAs := goodIn_r _ [11, 1, 12, 13, 14, 15, 16, 17, 18, 19, 20, 21, 22, 23, 24, 25, 26, 27, 28, 29, 30, 31, 32, 33, 34, 35, 36, 37, 38, 39, 40, 41, 42, 43, 44, 45, 46, 47, 48, 49, 50, 51, 52, 53, 54, 55, 56, 57, 58, 59, 60, 61, 62, 63, 64, 65, 66, 67, 68, 69, 70, 71, 72, 73, 74, 75, 76, 77, 82, 83, 84, 85, 86, 87, 88, 89, 90, 91, 92, 93, 94, 95, 96, 97, 98, 99, 100, 101, 102, 103, 104, 105, 106, 107, 108, 109, 110] (by decide +kernel) (by decide +kernel)
set_option maxRecDepth 20000 in
theorem gX3_count_X3_lookAs : GoodIn wsX3_count (wsV RX3 46 RX3 yX3_lookAs wsX3_lookAs) := goodIn_app (goodIn_of _ (by decide +kernel)) ggX3_count_X3_lookAs
set_option maxRecDepth 20000 in
theorem ggX3_count_X0_thingsSomewhere : GoodIn wsX3_count wsX0_thingsSomewhere := goodIn_r _ [81, 29, 101, 102, 103, 104, 105, 106, 107, 108, 109, 110] (by decide +kernel) (by decide +kernel)
set_option maxRecDepth 20000 in
theorem gX3_count_X0_thingsSomewhere : GoodIn wsX3_count (wsV RX3 77 RX0 yX0_thingsSomewhere wsX0_thingsSomewhere) := goodIn_app (goodIn_of _ (by decide +kernel)) ggX3_count_X0_thingsSomewhere
theorem dX3_count_0 : decode cX3_count 0 = .ok (.iload_n 1, 1) := by decide +kernel
theorem dX3_count_1 : decode cX3_count 1 = .ok (.iconst 5, 1) := by decide +kernel
theorem dX3_count_2 : decode cX3_count 2 = .ok (.invokestatic 42, 3) := by decide +kernel
theorem dX3_count_5 : decode cX3_count 5 = .ok (.iload_n 2, 1) := by decide +kernel
theorem dX3_count_6 : decode cX3_count 6 = .ok (.bipush 8, 2) := by decide +kernel
theorem dX3_count_8 : decode cX3_count 8 = .ok (.invokestatic 42, 3) := by decide +kernel
theorem dX3_count_11 : decode cX3_count 11 = .ok (.aload_n 0, 1) := by decide +kernel
theorem dX3_count_12 : decode cX3_count 12 = .ok (.iload_n 1, 1) := by decide +kernel
theorem dX3_count_13 : decode cX3_count 13 = .ok (.invokevirtual 46, 3) := by decide +kernel
theorem dX3_count_16 : decode cX3_count 16 = .ok (.aload_n 0, 1) := by decide +kernel
theorem dX3_count_17 : decode cX3_count 17 = .ok (.getfield 19, 3) := by decide +kernel
theorem dX3_count_20 : decode cX3_count 20 = .ok (.iload_n 2, 1) := by decide +kernel
theorem dX3_count_21 : decode cX3_count 21 = .ok (.invokevirtual 77, 3) := by decide +kernel
theorem dX3_count_24 : decode cX3_count 24 = .ok (.ireturn, 1) := by decide +kernel
set_option maxRecDepth 20000 in
theorem ggX3_countByAll_X3_checkNumber : GoodIn wsX3_countByAll wsX3_checkNumber := goodIn_ca (goodIn_r _ [5, 6, 7] (by decide +kernel) (by decide +kernel)) (goodIn_sub (fun _ h => List.mem_cons_of_mem _ (List.mem_append_right _ h)) (by decide +kernel))
set_option maxRecDepth 20000 in
theorem gX3_countByAll_X3_checkNumber : GoodIn wsX3_countByAll (va_wsS RX3 42 yX3_checkNumber wsX3_checkNumber) := goodIn_app (goodIn_of _ (by decide +kernel)) ggX3_countByAll_X3_checkNumber
set_option maxRecDepth 20000 in
theorem ggX3_countByAll_X3_lookByAll : GoodIn wsX3_countByAll wsX3_lookByAll := goodIn_r _ [11, 1, 12, 13, 14, 15, 16, 17, 18, 19, 20, 21, 22, 23, 24, 25, 26, 27, 28, 29, 30, 31, 32, 33, 34, 35, 36, 37, 38, 39, 40, 41, 42, 43, 44, 45, 46, 47, 48, 49, 50, 51, 52, 53, 54, 55, 56, 57, 58, 59, 60, 61, 62, 63, 64, 65, 66, 67, 68, 69, 70, 71, 72, 73, 74, 75, 76, 77, 82, 83, 84, 85, 86, 87, 88, 89, 90, 91, 92, 93, 94, 95, 96, 97, 98, 99, 100, 101, 102, 103, 104, 105, 106, 107, 108, 109, 110] (by decide +kernel) (by decide +kernel)
set_option maxRecDepth 20000 in
theorem gX3_countByAll_X3_lookByAll : GoodIn wsX3_countByAll (wsV RX3 74 RX3 yX3_lookByAll wsX3_lookByAll) := goodIn_app (goodIn_of _ (by decide +kernel)) ggX3_countByAll_X3_lookByAll
set_option maxRecDepth 20000 in
theorem ggX3_countByAll_X0_thingsSomewhere : GoodIn wsX3_countByAll wsX0_thingsSomewhere := goodIn_r _ [81, 29, 101, 102, 103, 104, 105, 106, 107, 108, 109, 110] (by decide +kernel) (by decide +kernel)
set_option maxRecDepth 20000 in
theorem gX3_countByAll_X0_thingsSomewhere : GoodIn wsX3_countByAll (wsV RX3 77 RX0 yX0_thingsSomewhere wsX0_thingsSomewhere) := goodIn_app (goodIn_of _ (by decide +kernel)) ggX3_countByAll_X0_thingsSomewhere
theorem dX3_countByAll_0 : decode cX3_countByAll 0 = .ok (.iload_n 1, 1) := by decide +kernel
theorem dX3_countByAll_1 : decode cX3_countByAll 1 = .ok (.bipush 8, 2) := by decide +kernel
theorem dX3_countByAll_3 : decode cX3_countByAll 3 = .ok (.invokestatic 42, 3) := by decide +kernel
theorem dX3_countByAll_6 : decode cX3_countByAll 6 = .ok (.aload_n 0, 1) := by decide +kernel
theorem dX3_countByAll_7 : decode cX3_countByAll 7 = .ok (.invokevirtual 74, 3) := by decide +kernel
theorem dX3_countByAll_10 : decode cX3_countByAll 10 = .ok (.aload_n 0, 1) := by decide +kernel
theorem dX3_countByAll_11 : decode cX3_countByAll 11 = .ok (.getfield 19, 3) := by decide +kernel
theorem dX3_countByAll_14 : decode cX3_countByAll 14 = .ok (.iload_n 1, 1) := by decide +kernel
theorem dX3_countByAll_15 : decode cX3_countByAll 15 = .ok (.invokevirtual 77, 3) := by decide +kernel
theorem dX3_countByAll_18 : decode cX3_countByAll 18 = .ok (.ireturn, 1) := by decide +kernel
set_option maxRecDepth 20000 in
theorem ggX3_claims_X3_checkNumber : GoodIn wsX3_claims wsX3_checkNumber := goodIn_ca (goodIn_r _ [5, 6, 7] (by decide +kernel) (by decide +kernel)) (goodIn_sub (fun _ h => List.mem_cons_of_mem _ (List.mem_append_right _ h)) (by decide +kernel))
set_option maxRecDepth 20000 in
theorem gX3_claims_X3_checkNumber : GoodIn wsX3_claims (va_wsS RX3 42 yX3_checkNumber wsX3_checkNumber) := goodIn_app (goodIn_of _ (by decide +kernel)) ggX3_claims_X3_checkNumber
set_option maxRecDepth 20000 in
theorem ggX3_claims_X3_lookAs : GoodIn wsX3_claims wsX3_lookAs := goodIn_r _ [11, 1, 12, 13, 14, 15, 16, 17, 18, 19, 20, 21, 22, 23, 24, 25, 26, 27, 28, 29, 30, 31, 32, 33, 34, 35, 36, 37, 38, 39, 40, 41, 42, 43, 44, 45, 46, 47, 48, 49, 50, 51, 52, 53, 54, 55, 56, 57, 58, 59, 60, 61, 62, 63, 64, 65, 66, 67, 68, 69, 70, 71, 72, 73, 74, 75, 76, 77, 82, 83, 84, 85, 86, 87, 88, 89, 90, 91, 92, 93, 94, 95, 96, 97, 98, 99, 100, 101, 102, 103, 104, 105, 106, 107, 108, 109, 110] (by decide +kernel) (by decide +kernel)
set_option maxRecDepth 20000 in
theorem gX3_claims_X3_lookAs : GoodIn wsX3_claims (wsV RX3 46 RX3 yX3_lookAs wsX3_lookAs) := goodIn_app (goodIn_of _ (by decide +kernel)) ggX3_claims_X3_lookAs
set_option maxRecDepth 20000 in
theorem ggX3_claims_X0_wrongClaimers : GoodIn wsX3_claims wsX0_wrongClaimers := goodIn_r _ [81, 29, 30, 101, 102, 103, 104, 105, 106, 107, 108, 109, 110] (by decide +kernel) (by decide +kernel)
set_option maxRecDepth 20000 in
theorem gX3_claims_X0_wrongClaimers : GoodIn wsX3_claims (wsV RX3 81 RX0 yX0_wrongClaimers wsX0_wrongClaimers) := goodIn_app (goodIn_of _ (by decide +kernel)) ggX3_claims_X0_wrongClaimers
theorem dX3_claims_0 : decode cX3_claims 0 = .ok (.iload_n 1, 1) := by decide +kernel
theorem dX3_claims_1 : decode cX3_claims 1 = .ok (.iconst 5, 1) := by decide +kernel
theorem dX3_claims_2 : decode cX3_claims 2 = .ok (.invokestatic 42, 3) := by decide +kernel
theorem dX3_claims_5 : decode cX3_claims 5 = .ok (.iload_n 2, 1) := by decide +kernel
theorem dX3_claims_6 : decode cX3_claims 6 = .ok (.bipush 40, 2) := by decide +kernel
theorem dX3_claims_8 : decode cX3_claims 8 = .ok (.invokestatic 42, 3) := by decide +kernel
theorem dX3_claims_11 : decode cX3_claims 11 = .ok (.aload_n 0, 1) := by decide +kernel
theorem dX3_claims_12 : decode cX3_claims 12 = .ok (.iload_n 1, 1) := by decide +kernel
theorem dX3_claims_13 : decode cX3_claims 13 = .ok (.invokevirtual 46, 3) := by decide +kernel
theorem dX3_claims_16 : decode cX3_claims 16 = .ok (.aload_n 0, 1) := by decide +kernel
theorem dX3_claims_17 : decode cX3_claims 17 = .ok (.getfield 19, 3) := by decide +kernel
theorem dX3_claims_20 : decode cX3_claims 20 = .ok (.iload_n 2, 1) := by decide +kernel
theorem dX3_claims_21 : decode cX3_claims 21 = .ok (.invokevirtual 81, 3) := by decide +kernel
theorem dX3_claims_24 : decode cX3_claims 24 = .ok (.ireturn, 1) := by decide +kernel
set_option maxRecDepth 20000 in
theorem ggX3_meet_X3_checkNumber : GoodIn wsX3_meet wsX3_checkNumber := goodIn_ca (goodIn_r _ [12, 13, 14] (by decide +kernel) (by decide +kernel)) (goodIn_sub (fun _ h => List.mem_cons_of_mem _ (List.mem_append_right _ h)) (by decide +kernel))
set_option maxRecDepth 20000 in
theorem gX3_meet_X3_checkNumber : GoodIn wsX3_meet (va_wsS RX3 42 yX3_checkNumber wsX3_checkNumber) := goodIn_app (goodIn_of _ (by decide +kernel)) ggX3_meet_X3_checkNumber
set_option maxRecDepth 20000 in
theorem ggX3_meet_X2_shareAmong : GoodIn wsX3_meet wsX2_shareAmong := goodIn_r _ [19, 20, 21, 22, 30, 31, 32, 33, 34, 35, 36, 37, 38, 39, 40, 41] (by decide +kernel) (by decide +kernel)
set_option maxRecDepth 20000 in
theorem gX3_meet_X2_shareAmong : GoodIn wsX3_meet (wsV RX3 95 RX2 yX2_shareAmong wsX2_shareAmong) := goodIn_app (goodIn_of _ (by decide +kernel)) ggX3_meet_X2_shareAmong
theorem dX3_meet_0 : decode cX3_meet 0 = .ok (.iload_n 1, 1) := by decide +kernel
theorem dX3_meet_1 : decode cX3_meet 1 = .ok (.iconst 5, 1) := by decide +kernel
theorem dX3_meet_2 : decode cX3_meet 2 = .ok (.invokestatic 42, 3) := by decide +kernel
theorem dX3_meet_5 : decode cX3_meet 5 = .ok (.iload_n 2, 1) := by decide +kernel
theorem dX3_meet_6 : decode cX3_meet 6 = .ok (.iconst 5, 1) := by decide +kernel
theorem dX3_meet_7 : decode cX3_meet 7 = .ok (.invokestatic 42, 3) := by decide +kernel
theorem dX3_meet_10 : decode cX3_meet 10 = .ok (.iload_n 1, 1) := by decide +kernel
theorem dX3_meet_11 : decode cX3_meet 11 = .ok (.iload_n 2, 1) := by decide +kernel
theorem dX3_meet_12 : decode cX3_meet 12 = .ok (.if_icmp .ne 13, 3) := by decide +kernel
theorem dX3_meet_15 : decode cX3_meet 15 = .ok (.new 84, 3) := by decide +kernel
theorem dX3_meet_18 : decode cX3_meet 18 = .ok (.dup, 1) := by decide +kernel
theorem dX3_meet_19 : decode cX3_meet 19 = .ok (.ldc 86, 2) := by decide +kernel
theorem dX3_meet_21 : decode cX3_meet 21 = .ok (.invokespecial 88, 3) := by decide +kernel
theorem dX3_meet_24 : decode cX3_meet 24 = .ok (.athrow, 1) := by decide +kernel
theorem dX3_meet_25 : decode cX3_meet 25 = .ok (.aload_n 0, 1) := by decide +kernel
theorem dX3_meet_26 : decode cX3_meet 26 = .ok (.getfield 23, 3) := by decide +kernel
theorem dX3_meet_29 : decode cX3_meet 29 = .ok (.iload_n 1, 1) := by decide +kernel
theorem dX3_meet_30 : decode cX3_meet 30 = .ok (.iaload, 1) := by decide +kernel
theorem dX3_meet_31 : decode cX3_meet 31 = .ok (.aload_n 0, 1) := by decide +kernel
theorem dX3_meet_32 : decode cX3_meet 32 = .ok (.getfield 23, 3) := by decide +kernel
theorem dX3_meet_35 : decode cX3_meet 35 = .ok (.iload_n 2, 1) := by decide +kernel
theorem dX3_meet_36 : decode cX3_meet 36 = .ok (.iaload, 1) := by decide +kernel
theorem dX3_meet_37 : decode cX3_meet 37 = .ok (.invokestatic 89, 3) := by decide +kernel
theorem dX3_meet_40 : decode cX3_meet 40 = .ok (.istore_n 3, 1) := by decide +kernel
theorem dX3_meet_41 : decode cX3_meet 41 = .ok (.aload_n 0, 1) := by decide +kernel
theorem dX3_meet_42 : decode cX3_meet 42 = .ok (.getfield 23, 3) := by decide +kernel
theorem dX3_meet_45 : decode cX3_meet 45 = .ok (.iload_n 1, 1) := by decide +kernel
theorem dX3_meet_46 : decode cX3_meet 46 = .ok (.iload_n 3, 1) := by decide +kernel
theorem dX3_meet_47 : decode cX3_meet 47 = .ok (.iastore, 1) := by decide +kernel
theorem dX3_meet_48 : decode cX3_meet 48 = .ok (.aload_n 0, 1) := by decide +kernel
theorem dX3_meet_49 : decode cX3_meet 49 = .ok (.getfield 23, 3) := by decide +kernel
theorem dX3_meet_52 : decode cX3_meet 52 = .ok (.iload_n 2, 1) := by decide +kernel
theorem dX3_meet_53 : decode cX3_meet 53 = .ok (.iload_n 3, 1) := by decide +kernel
theorem dX3_meet_54 : decode cX3_meet 54 = .ok (.iastore, 1) := by decide +kernel
theorem dX3_meet_55 : decode cX3_meet 55 = .ok (.aload_n 0, 1) := by decide +kernel
theorem dX3_meet_56 : decode cX3_meet 56 = .ok (.getfield 12, 3) := by decide +kernel
theorem dX3_meet_59 : decode cX3_meet 59 = .ok (.iconst 1, 1) := by decide +kernel
theorem dX3_meet_60 : decode cX3_meet 60 = .ok (.iload_n 1, 1) := by decide +kernel
theorem dX3_meet_61 : decode cX3_meet 61 = .ok (.ishl, 1) := by decide +kernel
theorem dX3_meet_62 : decode cX3_meet 62 = .ok (.iconst 1, 1) := by decide +kernel
theorem dX3_meet_63 : decode cX3_meet 63 = .ok (.iload_n 2, 1) := by decide +kernel
theorem dX3_meet_64 : decode cX3_meet 64 = .ok (.ishl, 1) := by decide +kernel
theorem dX3_meet_65 : decode cX3_meet 65 = .ok (.ior, 1) := by decide +kernel
theorem dX3_meet_66 : decode cX3_meet 66 = .ok (.invokevirtual 95, 3) := by decide +kernel
theorem dX3_meet_69 : decode cX3_meet 69 = .ok (.ireturn, 1) := by decide +kernel
theorem dX3_words_0 : decode cX3_words 0 = .ok (.aload_n 0, 1) := by decide +kernel
theorem dX3_words_1 : decode cX3_words 1 = .ok (.getfield 12, 3) := by decide +kernel
theorem dX3_words_4 : decode cX3_words 4 = .ok (.getfield 98, 3) := by decide +kernel
theorem dX3_words_7 : decode cX3_words 7 = .ok (.ireturn, 1) := by decide +kernel
set_option maxRecDepth 20000 in
theorem ggX3_known_X3_checkNumber : GoodIn wsX3_known wsX3_checkNumber := goodIn_ca (goodIn_r _ [5, 6, 7] (by decide +kernel) (by decide +kernel)) (goodIn_sub (fun _ h => List.mem_cons_of_mem _ (List.mem_append_right _ h)) (by decide +kernel))
set_option maxRecDepth 20000 in
theorem gX3_known_X3_checkNumber : GoodIn wsX3_known (va_wsS RX3 42 yX3_checkNumber wsX3_checkNumber) := goodIn_app (goodIn_of _ (by decide +kernel)) ggX3_known_X3_checkNumber
set_option maxRecDepth 20000 in
theorem ggX3_known_X2_sizeKnownTo : GoodIn wsX3_known wsX2_sizeKnownTo := goodIn_r _ [12, 13, 14, 15, 23, 24, 25, 26, 27, 28, 29, 30, 31, 32, 33, 34] (by decide +kernel) (by decide +kernel)
set_option maxRecDepth 20000 in
theorem gX3_known_X2_sizeKnownTo : GoodIn wsX3_known (wsV RX3 101 RX2 yX2_sizeKnownTo wsX2_sizeKnownTo) := goodIn_app (goodIn_of _ (by decide +kernel)) ggX3_known_X2_sizeKnownTo
theorem dX3_known_0 : decode cX3_known 0 = .ok (.iload_n 1, 1) := by decide +kernel
theorem dX3_known_1 : decode cX3_known 1 = .ok (.iconst 5, 1) := by decide +kernel
theorem dX3_known_2 : decode cX3_known 2 = .ok (.invokestatic 42, 3) := by decide +kernel
theorem dX3_known_5 : decode cX3_known 5 = .ok (.aload_n 0, 1) := by decide +kernel
theorem dX3_known_6 : decode cX3_known 6 = .ok (.getfield 12, 3) := by decide +kernel
theorem dX3_known_9 : decode cX3_known 9 = .ok (.iconst 1, 1) := by decide +kernel
theorem dX3_known_10 : decode cX3_known 10 = .ok (.iload_n 1, 1) := by decide +kernel
theorem dX3_known_11 : decode cX3_known 11 = .ok (.ishl, 1) := by decide +kernel
theorem dX3_known_12 : decode cX3_known 12 = .ok (.invokevirtual 101, 3) := by decide +kernel
theorem dX3_known_15 : decode cX3_known 15 = .ok (.ireturn, 1) := by decide +kernel
set_option maxRecDepth 20000 in
theorem ggX3_clock_X3_checkNumber : GoodIn wsX3_clock wsX3_checkNumber := goodIn_ca (goodIn_r _ [5, 6, 7] (by decide +kernel) (by decide +kernel)) (goodIn_sub (fun _ h => List.mem_cons_of_mem _ (List.mem_append_right _ h)) (by decide +kernel))
set_option maxRecDepth 20000 in
theorem gX3_clock_X3_checkNumber : GoodIn wsX3_clock (va_wsS RX3 42 yX3_checkNumber wsX3_checkNumber) := goodIn_app (goodIn_of _ (by decide +kernel)) ggX3_clock_X3_checkNumber
theorem dX3_clock_0 : decode cX3_clock 0 = .ok (.iload_n 1, 1) := by decide +kernel
theorem dX3_clock_1 : decode cX3_clock 1 = .ok (.iconst 5, 1) := by decide +kernel
theorem dX3_clock_2 : decode cX3_clock 2 = .ok (.invokestatic 42, 3) := by decide +kernel
theorem dX3_clock_5 : decode cX3_clock 5 = .ok (.aload_n 0, 1) := by decide +kernel
theorem dX3_clock_6 : decode cX3_clock 6 = .ok (.getfield 23, 3) := by decide +kernel
theorem dX3_clock_9 : decode cX3_clock 9 = .ok (.iload_n 1, 1) := by decide +kernel
theorem dX3_clock_10 : decode cX3_clock 10 = .ok (.iaload, 1) := by decide +kernel
theorem dX3_clock_11 : decode cX3_clock 11 = .ok (.ireturn, 1) := by decide +kernel
set_option maxRecDepth 20000 in
theorem ggX3_guest_X3_checkNumber : GoodIn wsX3_guest wsX3_checkNumber := goodIn_ca (goodIn_r _ [8, 9, 10] (by decide +kernel) (by decide +kernel)) (goodIn_sub (fun _ h => List.mem_cons_of_mem _ (List.mem_append_left _ (List.mem_append_left _ (List.mem_append_right _ h)))) (by decide +kernel))
set_option maxRecDepth 20000 in
theorem gX3_guest_X3_checkNumber : GoodIn wsX3_guest (va_wsS RX3 42 yX3_checkNumber wsX3_checkNumber) := goodIn_app (goodIn_of _ (by decide +kernel)) ggX3_guest_X3_checkNumber
set_option maxRecDepth 20000 in
theorem ggX3_guest_X3_checkRange : GoodIn wsX3_guest wsX3_checkRange := goodIn_ca (goodIn_r _ [13, 14, 15] (by decide +kernel) (by decide +kernel)) (goodIn_sub (fun _ h => List.mem_cons_of_mem _ (List.mem_append_left _ (List.mem_append_right _ h))) (by decide +kernel))
set_option maxRecDepth 20000 in
theorem gX3_guest_X3_checkRange : GoodIn wsX3_guest (va_wsS RX3 104 yX3_checkRange wsX3_checkRange) := goodIn_app (goodIn_of _ (by decide +kernel)) ggX3_guest_X3_checkRange
set_option maxRecDepth 20000 in
theorem ggX3_guest_X3_checkRoomFor : GoodIn wsX3_guest wsX3_checkRoomFor := goodIn_ca (goodIn_r _ [19, 20, 21, 22, 23, 70, 71, 72, 73, 74, 75, 76, 77, 78] (by decide +kernel) (by decide +kernel)) (goodIn_sub (fun _ h => List.mem_cons_of_mem _ (List.mem_append_right _ h)) (by decide +kernel))
set_option maxRecDepth 20000 in
theorem gX3_guest_X3_checkRoomFor : GoodIn wsX3_guest (wsV RX3 60 RX3 yX3_checkRoomFor wsX3_checkRoomFor) := goodIn_app (goodIn_of _ (by decide +kernel)) ggX3_guest_X3_checkRoomFor
set_option maxRecDepth 20000 in
theorem ggX3_guest_X3_write : GoodIn wsX3_guest wsX3_write := goodIn_r _ [27, 28, 29, 30, 31, 22, 32, 33, 34, 35, 36, 37, 38, 39, 40, 41, 42, 43, 44, 45, 46, 47, 48, 49, 50, 51, 52, 53, 54, 55, 56, 57, 58, 59, 70, 71, 72, 73, 74, 75, 76, 60, 61, 62, 63, 64, 65, 66, 67, 68, 69, 77, 78] (by decide +kernel) (by decide +kernel)
set_option maxRecDepth 20000 in
theorem gX3_guest_X3_write : GoodIn wsX3_guest (wsV RX3 65 RX3 yX3_write wsX3_write) := goodIn_app (goodIn_of _ (by decide +kernel)) ggX3_guest_X3_write
theorem dX3_guest_0 : decode cX3_guest 0 = .ok (.iload_n 1, 1) := by decide +kernel
theorem dX3_guest_1 : decode cX3_guest 1 = .ok (.iconst 5, 1) := by decide +kernel
theorem dX3_guest_2 : decode cX3_guest 2 = .ok (.invokestatic 42, 3) := by decide +kernel
theorem dX3_guest_5 : decode cX3_guest 5 = .ok (.iload_n 2, 1) := by decide +kernel
theorem dX3_guest_6 : decode cX3_guest 6 = .ok (.bipush 8, 2) := by decide +kernel
theorem dX3_guest_8 : decode cX3_guest 8 = .ok (.invokestatic 42, 3) := by decide +kernel
theorem dX3_guest_11 : decode cX3_guest 11 = .ok (.iload_n 3, 1) := by decide +kernel
theorem dX3_guest_12 : decode cX3_guest 12 = .ok (.iconst 0, 1) := by decide +kernel
theorem dX3_guest_13 : decode cX3_guest 13 = .ok (.bipush 99, 2) := by decide +kernel
theorem dX3_guest_15 : decode cX3_guest 15 = .ok (.invokestatic 104, 3) := by decide +kernel
theorem dX3_guest_18 : decode cX3_guest 18 = .ok (.iload 4, 2) := by decide +kernel
theorem dX3_guest_20 : decode cX3_guest 20 = .ok (.iload_n 3, 1) := by decide +kernel
theorem dX3_guest_21 : decode cX3_guest 21 = .ok (.bipush 99, 2) := by decide +kernel
theorem dX3_guest_23 : decode cX3_guest 23 = .ok (.invokestatic 104, 3) := by decide +kernel
theorem dX3_guest_26 : decode cX3_guest 26 = .ok (.iload 5, 2) := by decide +kernel
theorem dX3_guest_28 : decode cX3_guest 28 = .ok (.iconst 0, 1) := by decide +kernel
theorem dX3_guest_29 : decode cX3_guest 29 = .ok (.sipush 255, 3) := by decide +kernel
theorem dX3_guest_32 : decode cX3_guest 32 = .ok (.invokestatic 104, 3) := by decide +kernel
theorem dX3_guest_35 : decode cX3_guest 35 = .ok (.aload_n 0, 1) := by decide +kernel
theorem dX3_guest_36 : decode cX3_guest 36 = .ok (.iconst 1, 1) := by decide +kernel
theorem dX3_guest_37 : decode cX3_guest 37 = .ok (.invokevirtual 60, 3) := by decide +kernel
theorem dX3_guest_40 : decode cX3_guest 40 = .ok (.aload_n 0, 1) := by decide +kernel
theorem dX3_guest_41 : decode cX3_guest 41 = .ok (.iload_n 1, 1) := by decide +kernel
theorem dX3_guest_42 : decode cX3_guest 42 = .ok (.iconst 2, 1) := by decide +kernel
theorem dX3_guest_43 : decode cX3_guest 43 = .ok (.iload_n 2, 1) := by decide +kernel
theorem dX3_guest_44 : decode cX3_guest 44 = .ok (.iconst (-1), 1) := by decide +kernel
theorem dX3_guest_45 : decode cX3_guest 45 = .ok (.invokevirtual 65, 3) := by decide +kernel
theorem dX3_guest_48 : decode cX3_guest 48 = .ok (.astore 6, 2) := by decide +kernel
theorem dX3_guest_50 : decode cX3_guest 50 = .ok (.aload 6, 2) := by decide +kernel
theorem dX3_guest_52 : decode cX3_guest 52 = .ok (.iload_n 3, 1) := by decide +kernel
theorem dX3_guest_53 : decode cX3_guest 53 = .ok (.putfield 108, 3) := by decide +kernel
theorem dX3_guest_56 : decode cX3_guest 56 = .ok (.aload 6, 2) := by decide +kernel
theorem dX3_guest_58 : decode cX3_guest 58 = .ok (.iload 4, 2) := by decide +kernel
theorem dX3_guest_60 : decode cX3_guest 60 = .ok (.putfield 111, 3) := by decide +kernel
theorem dX3_guest_63 : decode cX3_guest 63 = .ok (.aload 6, 2) := by decide +kernel
theorem dX3_guest_65 : decode cX3_guest 65 = .ok (.iload 5, 2) := by decide +kernel
theorem dX3_guest_67 : decode cX3_guest 67 = .ok (.putfield 114, 3) := by decide +kernel
theorem dX3_guest_70 : decode cX3_guest 70 = .ok (.aload 6, 2) := by decide +kernel
theorem dX3_guest_72 : decode cX3_guest 72 = .ok (.getfield 69, 3) := by decide +kernel
theorem dX3_guest_75 : decode cX3_guest 75 = .ok (.ireturn, 1) := by decide +kernel
set_option maxRecDepth 20000 in
theorem ggX3_guests_X3_checkNumber : GoodIn wsX3_guests wsX3_checkNumber := goodIn_ca (goodIn_r _ [5, 6, 7] (by decide +kernel) (by decide +kernel)) (goodIn_sub (fun _ h => List.mem_cons_of_mem _ (List.mem_append_left _ (List.mem_append_right _ h))) (by decide +kernel))
set_option maxRecDepth 20000 in
theorem gX3_guests_X3_checkNumber : GoodIn wsX3_guests (va_wsS RX3 42 yX3_checkNumber wsX3_checkNumber) := goodIn_app (goodIn_of _ (by decide +kernel)) ggX3_guests_X3_checkNumber
set_option maxRecDepth 20000 in
theorem ggX3_guests_X3_checkRange : GoodIn wsX3_guests wsX3_checkRange := goodIn_ca (goodIn_r _ [10, 11, 12] (by decide +kernel) (by decide +kernel)) (goodIn_sub (fun _ h => List.mem_cons_of_mem _ (List.mem_append_right _ h)) (by decide +kernel))
set_option maxRecDepth 20000 in
theorem gX3_guests_X3_checkRange : GoodIn wsX3_guests (va_wsS RX3 104 yX3_checkRange wsX3_checkRange) := goodIn_app (goodIn_of _ (by decide +kernel)) ggX3_guests_X3_checkRange
set_option maxRecDepth 20000 in
theorem ggX3_guests_X3_lookAs : GoodIn wsX3_guests wsX3_lookAs := goodIn_r _ [16, 1, 17, 18, 19, 20, 21, 22, 23, 24, 25, 26, 27, 28, 29, 30, 31, 32, 33, 34, 35, 36, 37, 38, 39, 40, 41, 42, 43, 44, 45, 46, 47, 48, 49, 50, 51, 52, 53, 54, 55, 56, 57, 58, 59, 60, 61, 62, 63, 64, 65, 66, 67, 68, 69, 70, 71, 72, 73, 74, 75, 76, 77, 78, 79, 80, 81, 82, 84, 85, 86, 87, 88, 89, 90, 91, 92, 93, 94, 95, 96, 97, 98, 99, 100, 101, 102, 103, 104, 105, 106, 107, 108, 109, 110, 111, 112] (by decide +kernel) (by decide +kernel)
set_option maxRecDepth 20000 in
theorem gX3_guests_X3_lookAs : GoodIn wsX3_guests (wsV RX3 46 RX3 yX3_lookAs wsX3_lookAs) := goodIn_app (goodIn_of _ (by decide +kernel)) ggX3_guests_X3_lookAs
set_option maxRecDepth 20000 in
theorem ggX3_guests_X0_guestsOn : GoodIn wsX3_guests wsX0_guestsOn := goodIn_r _ [71, 72, 73, 74, 22, 75, 37, 38, 103, 104, 105, 106, 107, 108, 109, 110, 111, 112] (by decide +kernel) (by decide +kernel)
set_option maxRecDepth 20000 in
theorem gX3_guests_X0_guestsOn : GoodIn wsX3_guests (wsV RX3 117 RX0 yX0_guestsOn wsX0_guestsOn) := goodIn_app (goodIn_of _ (by decide +kernel)) ggX3_guests_X0_guestsOn
theorem dX3_guests_0 : decode cX3_guests 0 = .ok (.iload_n 1, 1) := by decide +kernel
theorem dX3_guests_1 : decode cX3_guests 1 = .ok (.iconst 5, 1) := by decide +kernel
theorem dX3_guests_2 : decode cX3_guests 2 = .ok (.invokestatic 42, 3) := by decide +kernel
theorem dX3_guests_5 : decode cX3_guests 5 = .ok (.iload_n 2, 1) := by decide +kernel
theorem dX3_guests_6 : decode cX3_guests 6 = .ok (.iconst 0, 1) := by decide +kernel
theorem dX3_guests_7 : decode cX3_guests 7 = .ok (.bipush 99, 2) := by decide +kernel
theorem dX3_guests_9 : decode cX3_guests 9 = .ok (.invokestatic 104, 3) := by decide +kernel
theorem dX3_guests_12 : decode cX3_guests 12 = .ok (.aload_n 0, 1) := by decide +kernel
theorem dX3_guests_13 : decode cX3_guests 13 = .ok (.iload_n 1, 1) := by decide +kernel
theorem dX3_guests_14 : decode cX3_guests 14 = .ok (.invokevirtual 46, 3) := by decide +kernel
theorem dX3_guests_17 : decode cX3_guests 17 = .ok (.aload_n 0, 1) := by decide +kernel
theorem dX3_guests_18 : decode cX3_guests 18 = .ok (.getfield 19, 3) := by decide +kernel
theorem dX3_guests_21 : decode cX3_guests 21 = .ok (.iload_n 2, 1) := by decide +kernel
theorem dX3_guests_22 : decode cX3_guests 22 = .ok (.invokevirtual 117, 3) := by decide +kernel
theorem dX3_guests_25 : decode cX3_guests 25 = .ok (.ireturn, 1) := by decide +kernel
set_option maxRecDepth 20000 in
theorem ggX3_setNeed_X3_checkNumber : GoodIn wsX3_setNeed wsX3_checkNumber := goodIn_ca (goodIn_r _ [5, 6, 7] (by decide +kernel) (by decide +kernel)) (goodIn_sub (fun _ h => List.mem_cons_of_mem _ (List.mem_append_left _ (List.mem_append_right _ h))) (by decide +kernel))
set_option maxRecDepth 20000 in
theorem gX3_setNeed_X3_checkNumber : GoodIn wsX3_setNeed (va_wsS RX3 42 yX3_checkNumber wsX3_checkNumber) := goodIn_app (goodIn_of _ (by decide +kernel)) ggX3_setNeed_X3_checkNumber
set_option maxRecDepth 20000 in
theorem ggX3_setNeed_X3_checkRange : GoodIn wsX3_setNeed wsX3_checkRange := goodIn_ca (goodIn_r _ [10, 11, 12] (by decide +kernel) (by decide +kernel)) (goodIn_sub (fun _ h => List.mem_cons_of_mem _ (List.mem_append_right _ h)) (by decide +kernel))
set_option maxRecDepth 20000 in
theorem gX3_setNeed_X3_checkRange : GoodIn wsX3_setNeed (va_wsS RX3 104 yX3_checkRange wsX3_checkRange) := goodIn_app (goodIn_of _ (by decide +kernel)) ggX3_setNeed_X3_checkRange
theorem dX3_setNeed_0 : decode cX3_setNeed 0 = .ok (.iload_n 1, 1) := by decide +kernel
theorem dX3_setNeed_1 : decode cX3_setNeed 1 = .ok (.bipush 6, 2) := by decide +kernel
theorem dX3_setNeed_3 : decode cX3_setNeed 3 = .ok (.invokestatic 42, 3) := by decide +kernel
theorem dX3_setNeed_6 : decode cX3_setNeed 6 = .ok (.iload_n 2, 1) := by decide +kernel
theorem dX3_setNeed_7 : decode cX3_setNeed 7 = .ok (.bipush 8, 2) := by decide +kernel
theorem dX3_setNeed_9 : decode cX3_setNeed 9 = .ok (.invokestatic 42, 3) := by decide +kernel
theorem dX3_setNeed_12 : decode cX3_setNeed 12 = .ok (.iload_n 3, 1) := by decide +kernel
theorem dX3_setNeed_13 : decode cX3_setNeed 13 = .ok (.iconst 0, 1) := by decide +kernel
theorem dX3_setNeed_14 : decode cX3_setNeed 14 = .ok (.iconst 3, 1) := by decide +kernel
theorem dX3_setNeed_15 : decode cX3_setNeed 15 = .ok (.invokestatic 104, 3) := by decide +kernel
theorem dX3_setNeed_18 : decode cX3_setNeed 18 = .ok (.aload_n 0, 1) := by decide +kernel
theorem dX3_setNeed_19 : decode cX3_setNeed 19 = .ok (.getfield 29, 3) := by decide +kernel
theorem dX3_setNeed_22 : decode cX3_setNeed 22 = .ok (.iload_n 1, 1) := by decide +kernel
theorem dX3_setNeed_23 : decode cX3_setNeed 23 = .ok (.aaload, 1) := by decide +kernel
theorem dX3_setNeed_24 : decode cX3_setNeed 24 = .ok (.iload_n 2, 1) := by decide +kernel
theorem dX3_setNeed_25 : decode cX3_setNeed 25 = .ok (.iaload, 1) := by decide +kernel
theorem dX3_setNeed_26 : decode cX3_setNeed 26 = .ok (.istore 4, 2) := by decide +kernel
theorem dX3_setNeed_28 : decode cX3_setNeed 28 = .ok (.aload_n 0, 1) := by decide +kernel
theorem dX3_setNeed_29 : decode cX3_setNeed 29 = .ok (.getfield 29, 3) := by decide +kernel
theorem dX3_setNeed_32 : decode cX3_setNeed 32 = .ok (.iload_n 1, 1) := by decide +kernel
theorem dX3_setNeed_33 : decode cX3_setNeed 33 = .ok (.aaload, 1) := by decide +kernel
theorem dX3_setNeed_34 : decode cX3_setNeed 34 = .ok (.iload_n 2, 1) := by decide +kernel
theorem dX3_setNeed_35 : decode cX3_setNeed 35 = .ok (.iload_n 3, 1) := by decide +kernel
theorem dX3_setNeed_36 : decode cX3_setNeed 36 = .ok (.iastore, 1) := by decide +kernel
theorem dX3_setNeed_37 : decode cX3_setNeed 37 = .ok (.iload 4, 2) := by decide +kernel
theorem dX3_setNeed_39 : decode cX3_setNeed 39 = .ok (.ireturn, 1) := by decide +kernel
set_option maxRecDepth 20000 in
theorem ggX3_plan_X3_checkNumber : GoodIn wsX3_plan wsX3_checkNumber := goodIn_ca (goodIn_r _ [9, 10, 11] (by decide +kernel) (by decide +kernel)) (goodIn_sub (fun _ h => List.mem_cons_of_mem _ (List.mem_append_left _ (List.mem_append_right _ h))) (by decide +kernel))
set_option maxRecDepth 20000 in
theorem gX3_plan_X3_checkNumber : GoodIn wsX3_plan (va_wsS RX3 42 yX3_checkNumber wsX3_checkNumber) := goodIn_app (goodIn_of _ (by decide +kernel)) ggX3_plan_X3_checkNumber
set_option maxRecDepth 20000 in
theorem ggX3_plan_X3_checkRange : GoodIn wsX3_plan wsX3_checkRange := goodIn_ca (goodIn_r _ [14, 15, 16] (by decide +kernel) (by decide +kernel)) (goodIn_sub (fun _ h => List.mem_cons_of_mem _ (List.mem_append_right _ h)) (by decide +kernel))
set_option maxRecDepth 20000 in
theorem gX3_plan_X3_checkRange : GoodIn wsX3_plan (va_wsS RX3 104 yX3_checkRange wsX3_checkRange) := goodIn_app (goodIn_of _ (by decide +kernel)) ggX3_plan_X3_checkRange
set_option maxRecDepth 20000 in
theorem ggX3_plan_X3_lookAs : GoodIn wsX3_plan wsX3_lookAs := goodIn_r _ [20, 21, 22, 5, 23, 24, 25, 26, 27, 28, 29, 30, 31, 32, 33, 34, 35, 36, 37, 38, 39, 40, 41, 42, 43, 44, 45, 46, 47, 48, 49, 50, 51, 52, 53, 54, 55, 56, 57, 58, 59, 60, 61, 62, 63, 64, 65, 66, 67, 68, 69, 70, 71, 72, 73, 74, 75, 76, 77, 78, 79, 80, 81, 82, 83, 84, 85, 86, 137, 138, 139, 140, 141, 142, 143, 144, 145, 146, 147, 148, 149, 150, 151, 152, 153, 154, 155, 156, 157, 158, 159, 160, 161, 162, 163, 164, 165] (by decide +kernel) (by decide +kernel)
set_option maxRecDepth 20000 in
theorem gX3_plan_X3_lookAs : GoodIn wsX3_plan (wsV RX3 46 RX3 yX3_lookAs wsX3_lookAs) := goodIn_app (goodIn_of _ (by decide +kernel)) ggX3_plan_X3_lookAs
set_option maxRecDepth 20000 in
theorem ggX3_plan_X3_isDisliked : GoodIn wsX3_plan wsX3_isDisliked := goodIn_r _ [90, 21, 91, 92, 93, 94, 26, 95, 43, 76, 77, 78, 79, 41, 42, 137, 138, 139, 140, 141, 142, 143, 156, 157, 158, 159, 160, 161, 162, 163, 164, 165] (by decide +kernel) (by decide +kernel)
set_option maxRecDepth 20000 in
theorem gX3_plan_X3_isDisliked : GoodIn wsX3_plan (wsV RX3 120 RX3 yX3_isDisliked wsX3_isDisliked) := goodIn_app (goodIn_of _ (by decide +kernel)) ggX3_plan_X3_isDisliked
set_option maxRecDepth 20000 in
theorem ggX3_plan_X3_checkRoomFor : GoodIn wsX3_plan wsX3_checkRoomFor := goodIn_ca (goodIn_r _ [99, 1, 2, 22, 100, 137, 138, 139, 140, 141, 142, 143, 144, 145] (by decide +kernel) (by decide +kernel)) (goodIn_sub (fun _ h => List.mem_cons_of_mem _ (List.mem_append_left _ (List.mem_append_left _ (List.mem_append_right _ h)))) (by decide +kernel))
set_option maxRecDepth 20000 in
theorem gX3_plan_X3_checkRoomFor : GoodIn wsX3_plan (wsV RX3 60 RX3 yX3_checkRoomFor wsX3_checkRoomFor) := goodIn_app (goodIn_of _ (by decide +kernel)) ggX3_plan_X3_checkRoomFor
set_option maxRecDepth 20000 in
theorem ggX3_plan_X3_write : GoodIn wsX3_plan wsX3_write := goodIn_r _ [104, 105, 106, 107, 108, 22, 109, 110, 111, 112, 113, 114, 115, 116, 117, 118, 119, 120, 121, 122, 123, 124, 125, 126, 127, 128, 129, 130, 131, 132, 133, 134, 135, 136, 137, 138, 139, 140, 141, 142, 143, 146, 147, 148, 149, 150, 151, 152, 153, 154, 155, 144, 145] (by decide +kernel) (by decide +kernel)
set_option maxRecDepth 20000 in
theorem gX3_plan_X3_write : GoodIn wsX3_plan (wsV RX3 65 RX3 yX3_write wsX3_write) := goodIn_app (goodIn_of _ (by decide +kernel)) ggX3_plan_X3_write
theorem dX3_plan_0 : decode cX3_plan 0 = .ok (.iload_n 1, 1) := by decide +kernel
theorem dX3_plan_1 : decode cX3_plan 1 = .ok (.iconst 5, 1) := by decide +kernel
theorem dX3_plan_2 : decode cX3_plan 2 = .ok (.invokestatic 42, 3) := by decide +kernel
theorem dX3_plan_5 : decode cX3_plan 5 = .ok (.iload_n 2, 1) := by decide +kernel
theorem dX3_plan_6 : decode cX3_plan 6 = .ok (.bipush 6, 2) := by decide +kernel
theorem dX3_plan_8 : decode cX3_plan 8 = .ok (.invokestatic 42, 3) := by decide +kernel
theorem dX3_plan_11 : decode cX3_plan 11 = .ok (.iload_n 3, 1) := by decide +kernel
theorem dX3_plan_12 : decode cX3_plan 12 = .ok (.iconst 0, 1) := by decide +kernel
theorem dX3_plan_13 : decode cX3_plan 13 = .ok (.bipush 99, 2) := by decide +kernel
theorem dX3_plan_15 : decode cX3_plan 15 = .ok (.invokestatic 104, 3) := by decide +kernel
theorem dX3_plan_18 : decode cX3_plan 18 = .ok (.aload_n 0, 1) := by decide +kernel
theorem dX3_plan_19 : decode cX3_plan 19 = .ok (.iload_n 1, 1) := by decide +kernel
theorem dX3_plan_20 : decode cX3_plan 20 = .ok (.invokevirtual 46, 3) := by decide +kernel
theorem dX3_plan_23 : decode cX3_plan 23 = .ok (.aload_n 0, 1) := by decide +kernel
theorem dX3_plan_24 : decode cX3_plan 24 = .ok (.iload_n 2, 1) := by decide +kernel
theorem dX3_plan_25 : decode cX3_plan 25 = .ok (.iload_n 3, 1) := by decide +kernel
theorem dX3_plan_26 : decode cX3_plan 26 = .ok (.invokevirtual 120, 3) := by decide +kernel
theorem dX3_plan_29 : decode cX3_plan 29 = .ok (.ifCond .eq 13, 3) := by decide +kernel
theorem dX3_plan_32 : decode cX3_plan 32 = .ok (.new 53, 3) := by decide +kernel
theorem dX3_plan_35 : decode cX3_plan 35 = .ok (.dup, 1) := by decide +kernel
theorem dX3_plan_36 : decode cX3_plan 36 = .ok (.ldc 124, 2) := by decide +kernel
theorem dX3_plan_38 : decode cX3_plan 38 = .ok (.invokespecial 57, 3) := by decide +kernel
theorem dX3_plan_41 : decode cX3_plan 41 = .ok (.athrow, 1) := by decide +kernel
theorem dX3_plan_42 : decode cX3_plan 42 = .ok (.aload_n 0, 1) := by decide +kernel
theorem dX3_plan_43 : decode cX3_plan 43 = .ok (.getfield 38, 3) := by decide +kernel
theorem dX3_plan_46 : decode cX3_plan 46 = .ok (.bipush 20, 2) := by decide +kernel
theorem dX3_plan_48 : decode cX3_plan 48 = .ok (.if_icmp .lt 13, 3) := by decide +kernel
theorem dX3_plan_51 : decode cX3_plan 51 = .ok (.new 53, 3) := by decide +kernel
theorem dX3_plan_54 : decode cX3_plan 54 = .ok (.dup, 1) := by decide +kernel
theorem dX3_plan_55 : decode cX3_plan 55 = .ok (.ldc 126, 2) := by decide +kernel
theorem dX3_plan_57 : decode cX3_plan 57 = .ok (.invokespecial 57, 3) := by decide +kernel
theorem dX3_plan_60 : decode cX3_plan 60 = .ok (.athrow, 1) := by decide +kernel
theorem dX3_plan_61 : decode cX3_plan 61 = .ok (.aload_n 0, 1) := by decide +kernel
theorem dX3_plan_62 : decode cX3_plan 62 = .ok (.iconst 1, 1) := by decide +kernel
theorem dX3_plan_63 : decode cX3_plan 63 = .ok (.invokevirtual 60, 3) := by decide +kernel
theorem dX3_plan_66 : decode cX3_plan 66 = .ok (.aload_n 0, 1) := by decide +kernel
theorem dX3_plan_67 : decode cX3_plan 67 = .ok (.getfield 38, 3) := by decide +kernel
theorem dX3_plan_70 : decode cX3_plan 70 = .ok (.istore 4, 2) := by decide +kernel
theorem dX3_plan_72 : decode cX3_plan 72 = .ok (.aload_n 0, 1) := by decide +kernel
theorem dX3_plan_73 : decode cX3_plan 73 = .ok (.dup, 1) := by decide +kernel
theorem dX3_plan_74 : decode cX3_plan 74 = .ok (.getfield 38, 3) := by decide +kernel
theorem dX3_plan_77 : decode cX3_plan 77 = .ok (.iconst 1, 1) := by decide +kernel
theorem dX3_plan_78 : decode cX3_plan 78 = .ok (.iadd, 1) := by decide +kernel
theorem dX3_plan_79 : decode cX3_plan 79 = .ok (.putfield 38, 3) := by decide +kernel
theorem dX3_plan_82 : decode cX3_plan 82 = .ok (.aload_n 0, 1) := by decide +kernel
theorem dX3_plan_83 : decode cX3_plan 83 = .ok (.getfield 32, 3) := by decide +kernel
theorem dX3_plan_86 : decode cX3_plan 86 = .ok (.iload 4, 2) := by decide +kernel
theorem dX3_plan_88 : decode cX3_plan 88 = .ok (.iload_n 2, 1) := by decide +kernel
theorem dX3_plan_89 : decode cX3_plan 89 = .ok (.iastore, 1) := by decide +kernel
theorem dX3_plan_90 : decode cX3_plan 90 = .ok (.aload_n 0, 1) := by decide +kernel
theorem dX3_plan_91 : decode cX3_plan 91 = .ok (.getfield 35, 3) := by decide +kernel
theorem dX3_plan_94 : decode cX3_plan 94 = .ok (.iload 4, 2) := by decide +kernel
theorem dX3_plan_96 : decode cX3_plan 96 = .ok (.iload_n 3, 1) := by decide +kernel
theorem dX3_plan_97 : decode cX3_plan 97 = .ok (.iastore, 1) := by decide +kernel
theorem dX3_plan_98 : decode cX3_plan 98 = .ok (.aload_n 0, 1) := by decide +kernel
theorem dX3_plan_99 : decode cX3_plan 99 = .ok (.iload_n 1, 1) := by decide +kernel
theorem dX3_plan_100 : decode cX3_plan 100 = .ok (.iconst 3, 1) := by decide +kernel
theorem dX3_plan_101 : decode cX3_plan 101 = .ok (.iconst (-1), 1) := by decide +kernel
theorem dX3_plan_102 : decode cX3_plan 102 = .ok (.iload 4, 2) := by decide +kernel
theorem dX3_plan_104 : decode cX3_plan 104 = .ok (.invokevirtual 65, 3) := by decide +kernel
theorem dX3_plan_107 : decode cX3_plan 107 = .ok (.pop, 1) := by decide +kernel
theorem dX3_plan_108 : decode cX3_plan 108 = .ok (.iload 4, 2) := by decide +kernel
theorem dX3_plan_110 : decode cX3_plan 110 = .ok (.ireturn, 1) := by decide +kernel
set_option maxRecDepth 20000 in
theorem ggX3_keep_X3_checkNumber : GoodIn wsX3_keep wsX3_checkNumber := goodIn_ca (goodIn_r _ [5, 6, 7] (by decide +kernel) (by decide +kernel)) (goodIn_sub (fun _ h => List.mem_cons_of_mem _ (List.mem_append_left _ (List.mem_append_right _ h))) (by decide +kernel))
set_option maxRecDepth 20000 in
theorem gX3_keep_X3_checkNumber : GoodIn wsX3_keep (va_wsS RX3 42 yX3_checkNumber wsX3_checkNumber) := goodIn_app (goodIn_of _ (by decide +kernel)) ggX3_keep_X3_checkNumber
set_option maxRecDepth 20000 in
theorem ggX3_keep_X3_lookAs : GoodIn wsX3_keep wsX3_lookAs := goodIn_r _ [11, 12, 13, 14, 15, 16, 17, 18, 19, 20, 21, 22, 23, 24, 25, 26, 27, 28, 29, 30, 31, 32, 33, 34, 35, 36, 37, 38, 39, 40, 41, 42, 43, 44, 45, 46, 47, 48, 49, 50, 51, 52, 53, 54, 55, 56, 57, 58, 59, 60, 61, 62, 63, 64, 65, 66, 67, 68, 69, 70, 71, 72, 73, 74, 75, 76, 77, 78, 161, 162, 163, 164, 165, 166, 167, 168, 169, 170, 171, 172, 173, 174, 175, 176, 177, 178, 179, 180, 181, 182, 183, 184, 185, 186, 187, 188, 189] (by decide +kernel) (by decide +kernel)
set_option maxRecDepth 20000 in
theorem gX3_keep_X3_lookAs : GoodIn wsX3_keep (wsV RX3 46 RX3 yX3_lookAs wsX3_lookAs) := goodIn_app (goodIn_of _ (by decide +kernel)) ggX3_keep_X3_lookAs
set_option maxRecDepth 20000 in
theorem ggX3_keep_X3_checkOpen : GoodIn wsX3_keep wsX3_checkOpen := goodIn_ca (goodIn_r _ [82, 83, 84, 12, 85, 161, 162, 163, 164, 165, 166, 167, 180, 181, 182, 183, 184, 185, 186, 187, 188, 189] (by decide +kernel) (by decide +kernel)) (goodIn_sub (fun _ h => List.mem_cons_of_mem _ (List.mem_append_right _ h)) (by decide +kernel))
set_option maxRecDepth 20000 in
theorem gX3_keep_X3_checkOpen : GoodIn wsX3_keep (wsV RX3 128 RX3 yX3_checkOpen wsX3_checkOpen) := goodIn_app (goodIn_of _ (by decide +kernel)) ggX3_keep_X3_checkOpen
set_option maxRecDepth 20000 in
theorem ggX3_keep_X3_keepable : GoodIn wsX3_keep wsX3_keepable := goodIn_r _ [89, 12, 90, 91, 92, 93, 94, 95, 96, 4, 97, 98, 99, 100, 101, 102, 103, 104, 105, 18, 106, 32, 107, 108, 109, 110, 111, 112, 113, 114, 30, 161, 162, 163, 164, 165, 166, 167, 180, 181, 182, 183, 184, 185, 186, 187, 188, 189] (by decide +kernel) (by decide +kernel)
set_option maxRecDepth 20000 in
theorem gX3_keep_X3_keepable : GoodIn wsX3_keep (wsV RX3 131 RX3 yX3_keepable wsX3_keepable) := goodIn_app (goodIn_of _ (by decide +kernel)) ggX3_keep_X3_keepable
set_option maxRecDepth 20000 in
theorem ggX3_keep_X3_checkRoomFor : GoodIn wsX3_keep wsX3_checkRoomFor := goodIn_ca (goodIn_r _ [118, 83, 84, 13, 119, 161, 162, 163, 164, 165, 166, 167, 168, 169] (by decide +kernel) (by decide +kernel)) (goodIn_sub (fun _ h => List.mem_cons_of_mem _ (List.mem_append_right _ h)) (by decide +kernel))
set_option maxRecDepth 20000 in
theorem gX3_keep_X3_checkRoomFor : GoodIn wsX3_keep (wsV RX3 60 RX3 yX3_checkRoomFor wsX3_checkRoomFor) := goodIn_app (goodIn_of _ (by decide +kernel)) ggX3_keep_X3_checkRoomFor
set_option maxRecDepth 20000 in
theorem ggX3_keep_X3_writeKeeps : GoodIn wsX3_keep wsX3_writeKeeps := goodIn_r _ [123, 12, 86, 87, 88, 4, 89, 90, 91, 92, 93, 94, 95, 96, 97, 98, 99, 100, 101, 102, 103, 104, 105, 18, 106, 32, 107, 108, 109, 110, 111, 112, 113, 114, 30, 124, 125, 126, 127, 128, 129, 130, 131, 132, 13, 133, 134, 135, 136, 137, 138, 139, 140, 141, 142, 143, 144, 145, 146, 147, 148, 149, 150, 151, 152, 153, 154, 155, 156, 157, 158, 159, 160, 161, 162, 163, 164, 165, 166, 167, 180, 181, 182, 183, 184, 185, 186, 187, 188, 189, 170, 171, 172, 173, 174, 175, 176, 177, 178, 179, 168, 169] (by decide +kernel) (by decide +kernel)
set_option maxRecDepth 20000 in
theorem gX3_keep_X3_writeKeeps : GoodIn wsX3_keep (wsV RX3 134 RX3 yX3_writeKeeps wsX3_writeKeeps) := goodIn_app (goodIn_of _ (by decide +kernel)) ggX3_keep_X3_writeKeeps
theorem dX3_keep_0 : decode cX3_keep 0 = .ok (.iload_n 1, 1) := by decide +kernel
theorem dX3_keep_1 : decode cX3_keep 1 = .ok (.iconst 5, 1) := by decide +kernel
theorem dX3_keep_2 : decode cX3_keep 2 = .ok (.invokestatic 42, 3) := by decide +kernel
theorem dX3_keep_5 : decode cX3_keep 5 = .ok (.iload_n 2, 1) := by decide +kernel
theorem dX3_keep_6 : decode cX3_keep 6 = .ok (.aload_n 0, 1) := by decide +kernel
theorem dX3_keep_7 : decode cX3_keep 7 = .ok (.getfield 38, 3) := by decide +kernel
theorem dX3_keep_10 : decode cX3_keep 10 = .ok (.invokestatic 42, 3) := by decide +kernel
theorem dX3_keep_13 : decode cX3_keep 13 = .ok (.aload_n 0, 1) := by decide +kernel
theorem dX3_keep_14 : decode cX3_keep 14 = .ok (.iload_n 1, 1) := by decide +kernel
theorem dX3_keep_15 : decode cX3_keep 15 = .ok (.invokevirtual 46, 3) := by decide +kernel
theorem dX3_keep_18 : decode cX3_keep 18 = .ok (.aload_n 0, 1) := by decide +kernel
theorem dX3_keep_19 : decode cX3_keep 19 = .ok (.iload_n 2, 1) := by decide +kernel
theorem dX3_keep_20 : decode cX3_keep 20 = .ok (.invokevirtual 128, 3) := by decide +kernel
theorem dX3_keep_23 : decode cX3_keep 23 = .ok (.iconst 0, 1) := by decide +kernel
theorem dX3_keep_24 : decode cX3_keep 24 = .ok (.istore_n 3, 1) := by decide +kernel
theorem dX3_keep_25 : decode cX3_keep 25 = .ok (.iconst 0, 1) := by decide +kernel
theorem dX3_keep_26 : decode cX3_keep 26 = .ok (.istore 4, 2) := by decide +kernel
theorem dX3_keep_28 : decode cX3_keep 28 = .ok (.iload 4, 2) := by decide +kernel
theorem dX3_keep_30 : decode cX3_keep 30 = .ok (.bipush 8, 2) := by decide +kernel
theorem dX3_keep_32 : decode cX3_keep 32 = .ok (.if_icmp .ge 19, 3) := by decide +kernel
theorem dX3_keep_35 : decode cX3_keep 35 = .ok (.iload_n 3, 1) := by decide +kernel
theorem dX3_keep_36 : decode cX3_keep 36 = .ok (.aload_n 0, 1) := by decide +kernel
theorem dX3_keep_37 : decode cX3_keep 37 = .ok (.iload_n 2, 1) := by decide +kernel
theorem dX3_keep_38 : decode cX3_keep 38 = .ok (.iload 4, 2) := by decide +kernel
theorem dX3_keep_40 : decode cX3_keep 40 = .ok (.invokevirtual 131, 3) := by decide +kernel
theorem dX3_keep_43 : decode cX3_keep 43 = .ok (.iadd, 1) := by decide +kernel
theorem dX3_keep_44 : decode cX3_keep 44 = .ok (.istore_n 3, 1) := by decide +kernel
theorem dX3_keep_45 : decode cX3_keep 45 = .ok (.iinc 4 1, 3) := by decide +kernel
theorem dX3_keep_48 : decode cX3_keep 48 = .ok (.goto (-20), 3) := by decide +kernel
theorem dX3_keep_51 : decode cX3_keep 51 = .ok (.aload_n 0, 1) := by decide +kernel
theorem dX3_keep_52 : decode cX3_keep 52 = .ok (.iload_n 3, 1) := by decide +kernel
theorem dX3_keep_53 : decode cX3_keep 53 = .ok (.invokevirtual 60, 3) := by decide +kernel
theorem dX3_keep_56 : decode cX3_keep 56 = .ok (.iconst 0, 1) := by decide +kernel
theorem dX3_keep_57 : decode cX3_keep 57 = .ok (.istore 4, 2) := by decide +kernel
theorem dX3_keep_59 : decode cX3_keep 59 = .ok (.iload 4, 2) := by decide +kernel
theorem dX3_keep_61 : decode cX3_keep 61 = .ok (.bipush 8, 2) := by decide +kernel
theorem dX3_keep_63 : decode cX3_keep 63 = .ok (.if_icmp .ge 17, 3) := by decide +kernel
theorem dX3_keep_66 : decode cX3_keep 66 = .ok (.aload_n 0, 1) := by decide +kernel
theorem dX3_keep_67 : decode cX3_keep 67 = .ok (.iload_n 1, 1) := by decide +kernel
theorem dX3_keep_68 : decode cX3_keep 68 = .ok (.iload_n 2, 1) := by decide +kernel
theorem dX3_keep_69 : decode cX3_keep 69 = .ok (.iload 4, 2) := by decide +kernel
theorem dX3_keep_71 : decode cX3_keep 71 = .ok (.invokevirtual 134, 3) := by decide +kernel
theorem dX3_keep_74 : decode cX3_keep 74 = .ok (.iinc 4 1, 3) := by decide +kernel
theorem dX3_keep_77 : decode cX3_keep 77 = .ok (.goto (-18), 3) := by decide +kernel
theorem dX3_keep_80 : decode cX3_keep 80 = .ok (.iload_n 3, 1) := by decide +kernel
theorem dX3_keep_81 : decode cX3_keep 81 = .ok (.ireturn, 1) := by decide +kernel
set_option maxRecDepth 20000 in
theorem ggX3_drop_X3_checkNumber : GoodIn wsX3_drop wsX3_checkNumber := goodIn_ca (goodIn_r _ [5, 6, 7] (by decide +kernel) (by decide +kernel)) (goodIn_sub (fun _ h => List.mem_cons_of_mem _ (List.mem_append_left _ (List.mem_append_right _ h))) (by decide +kernel))
set_option maxRecDepth 20000 in
theorem gX3_drop_X3_checkNumber : GoodIn wsX3_drop (va_wsS RX3 42 yX3_checkNumber wsX3_checkNumber) := goodIn_app (goodIn_of _ (by decide +kernel)) ggX3_drop_X3_checkNumber
set_option maxRecDepth 20000 in
theorem ggX3_drop_X3_lookAs : GoodIn wsX3_drop wsX3_lookAs := goodIn_r _ [11, 12, 13, 14, 15, 16, 17, 18, 19, 20, 21, 22, 23, 24, 25, 26, 27, 28, 29, 30, 31, 32, 33, 34, 35, 36, 37, 38, 39, 40, 41, 42, 43, 44, 45, 46, 47, 48, 49, 50, 51, 52, 53, 54, 55, 56, 57, 58, 59, 60, 61, 62, 63, 64, 65, 66, 67, 68, 69, 70, 71, 72, 73, 74, 75, 76, 77, 78, 135, 136, 137, 138, 139, 140, 141, 142, 143, 144, 145, 146, 147, 148, 149, 150, 151, 152, 153, 154, 155, 156, 157, 158, 159, 160, 161, 162, 163] (by decide +kernel) (by decide +kernel)
set_option maxRecDepth 20000 in
theorem gX3_drop_X3_lookAs : GoodIn wsX3_drop (wsV RX3 46 RX3 yX3_lookAs wsX3_lookAs) := goodIn_app (goodIn_of _ (by decide +kernel)) ggX3_drop_X3_lookAs
set_option maxRecDepth 20000 in
theorem ggX3_drop_X3_checkOpen : GoodIn wsX3_drop wsX3_checkOpen := goodIn_ca (goodIn_r _ [82, 83, 84, 12, 85, 135, 136, 137, 138, 139, 140, 141, 154, 155, 156, 157, 158, 159, 160, 161, 162, 163] (by decide +kernel) (by decide +kernel)) (goodIn_sub (fun _ h => List.mem_cons_of_mem _ (List.mem_append_right _ h)) (by decide +kernel))
set_option maxRecDepth 20000 in
theorem gX3_drop_X3_checkOpen : GoodIn wsX3_drop (wsV RX3 128 RX3 yX3_checkOpen wsX3_checkOpen) := goodIn_app (goodIn_of _ (by decide +kernel)) ggX3_drop_X3_checkOpen
set_option maxRecDepth 20000 in
theorem ggX3_drop_X3_checkRoomFor : GoodIn wsX3_drop wsX3_checkRoomFor := goodIn_ca (goodIn_r _ [89, 83, 84, 13, 90, 135, 136, 137, 138, 139, 140, 141, 142, 143] (by decide +kernel) (by decide +kernel)) (goodIn_sub (fun _ h => List.mem_cons_of_mem _ (List.mem_append_right _ h)) (by decide +kernel))
set_option maxRecDepth 20000 in
theorem gX3_drop_X3_checkRoomFor : GoodIn wsX3_drop (wsV RX3 60 RX3 yX3_checkRoomFor wsX3_checkRoomFor) := goodIn_app (goodIn_of _ (by decide +kernel)) ggX3_drop_X3_checkRoomFor
set_option maxRecDepth 20000 in
theorem ggX3_drop_X3_write : GoodIn wsX3_drop wsX3_write := goodIn_r _ [94, 95, 96, 97, 98, 13, 99, 100, 101, 102, 103, 104, 105, 106, 107, 108, 109, 110, 111, 112, 113, 114, 115, 116, 117, 118, 119, 120, 121, 122, 123, 124, 125, 126, 135, 136, 137, 138, 139, 140, 141, 144, 145, 146, 147, 148, 149, 150, 151, 152, 153, 142, 143] (by decide +kernel) (by decide +kernel)
set_option maxRecDepth 20000 in
theorem gX3_drop_X3_write : GoodIn wsX3_drop (wsV RX3 65 RX3 yX3_write wsX3_write) := goodIn_app (goodIn_of _ (by decide +kernel)) ggX3_drop_X3_write
set_option maxRecDepth 20000 in
theorem ggX3_drop_X3_keptInAll : GoodIn wsX3_drop wsX3_keptInAll := goodIn_r _ [130, 12, 131, 132, 133, 18, 134, 32, 135, 136, 137, 138, 139, 140, 141, 154, 155, 156, 157, 158, 159, 160, 161, 162, 163] (by decide +kernel) (by decide +kernel)
set_option maxRecDepth 20000 in
theorem gX3_drop_X3_keptInAll : GoodIn wsX3_drop (wsV RX3 137 RX3 yX3_keptInAll wsX3_keptInAll) := goodIn_app (goodIn_of _ (by decide +kernel)) ggX3_drop_X3_keptInAll
theorem dX3_drop_0 : decode cX3_drop 0 = .ok (.iload_n 1, 1) := by decide +kernel
theorem dX3_drop_1 : decode cX3_drop 1 = .ok (.iconst 5, 1) := by decide +kernel
theorem dX3_drop_2 : decode cX3_drop 2 = .ok (.invokestatic 42, 3) := by decide +kernel
theorem dX3_drop_5 : decode cX3_drop 5 = .ok (.iload_n 2, 1) := by decide +kernel
theorem dX3_drop_6 : decode cX3_drop 6 = .ok (.aload_n 0, 1) := by decide +kernel
theorem dX3_drop_7 : decode cX3_drop 7 = .ok (.getfield 38, 3) := by decide +kernel
theorem dX3_drop_10 : decode cX3_drop 10 = .ok (.invokestatic 42, 3) := by decide +kernel
