set_option maxRecDepth 20000 in
theorem ggX4_init_X0_init : GoodIn wsX4_init wsX0_init := goodIn_r _ [58, 59, 2, 3] (by decide +kernel) (by decide +kernel)
set_option maxRecDepth 20000 in
theorem gX4_init_X0_init_n32 : GoodIn wsX4_init (wsX0_init) := ggX4_init_X0_init
theorem dX4_init_0 : decode cX4_init 0 = .ok (.aload_n 0, 1) := by decide +kernel
theorem dX4_init_1 : decode cX4_init 1 = .ok (.invokespecial 1, 3) := by decide +kernel
theorem dX4_init_4 : decode cX4_init 4 = .ok (.aload_n 0, 1) := by decide +kernel
theorem dX4_init_5 : decode cX4_init 5 = .ok (.new 7, 3) := by decide +kernel
theorem dX4_init_8 : decode cX4_init 8 = .ok (.dup, 1) := by decide +kernel
theorem dX4_init_9 : decode cX4_init 9 = .ok (.invokespecial 9, 3) := by decide +kernel
theorem dX4_init_12 : decode cX4_init 12 = .ok (.putfield 10, 3) := by decide +kernel
theorem dX4_init_15 : decode cX4_init 15 = .ok (.aload_n 0, 1) := by decide +kernel
theorem dX4_init_16 : decode cX4_init 16 = .ok (.new 16, 3) := by decide +kernel
theorem dX4_init_19 : decode cX4_init 19 = .ok (.dup, 1) := by decide +kernel
theorem dX4_init_20 : decode cX4_init 20 = .ok (.invokespecial 18, 3) := by decide +kernel
theorem dX4_init_23 : decode cX4_init 23 = .ok (.putfield 19, 3) := by decide +kernel
theorem dX4_init_26 : decode cX4_init 26 = .ok (.aload_n 0, 1) := by decide +kernel
theorem dX4_init_27 : decode cX4_init 27 = .ok (.new 23, 3) := by decide +kernel
theorem dX4_init_30 : decode cX4_init 30 = .ok (.dup, 1) := by decide +kernel
theorem dX4_init_31 : decode cX4_init 31 = .ok (.invokespecial 25, 3) := by decide +kernel
theorem dX4_init_34 : decode cX4_init 34 = .ok (.putfield 26, 3) := by decide +kernel
theorem dX4_init_37 : decode cX4_init 37 = .ok (.aload_n 0, 1) := by decide +kernel
theorem dX4_init_38 : decode cX4_init 38 = .ok (.new 30, 3) := by decide +kernel
theorem dX4_init_41 : decode cX4_init 41 = .ok (.dup, 1) := by decide +kernel
theorem dX4_init_42 : decode cX4_init 42 = .ok (.invokespecial 32, 3) := by decide +kernel
theorem dX4_init_45 : decode cX4_init 45 = .ok (.putfield 33, 3) := by decide +kernel
theorem dX4_init_48 : decode cX4_init 48 = .ok (.aload_n 0, 1) := by decide +kernel
theorem dX4_init_49 : decode cX4_init 49 = .ok (.bipush 36, 2) := by decide +kernel
theorem dX4_init_51 : decode cX4_init 51 = .ok (.newarray .int, 2) := by decide +kernel
theorem dX4_init_53 : decode cX4_init 53 = .ok (.putfield 37, 3) := by decide +kernel
theorem dX4_init_56 : decode cX4_init 56 = .ok (.aload_n 0, 1) := by decide +kernel
theorem dX4_init_57 : decode cX4_init 57 = .ok (.bipush 8, 2) := by decide +kernel
theorem dX4_init_59 : decode cX4_init 59 = .ok (.newarray .long, 2) := by decide +kernel
theorem dX4_init_61 : decode cX4_init 61 = .ok (.putfield 41, 3) := by decide +kernel
theorem dX4_init_64 : decode cX4_init 64 = .ok (.aload_n 0, 1) := by decide +kernel
theorem dX4_init_65 : decode cX4_init 65 = .ok (.iconst 0, 1) := by decide +kernel
theorem dX4_init_66 : decode cX4_init 66 = .ok (.putfield 45, 3) := by decide +kernel
theorem dX4_init_69 : decode cX4_init 69 = .ok (.return_, 1) := by decide +kernel
set_option maxRecDepth 20000 in
theorem ggX4_file_X4_checkLand : GoodIn wsX4_file wsX4_checkLand := goodIn_ca (goodIn_r _ [11, 12, 13] (by decide +kernel) (by decide +kernel)) (goodIn_sub (fun _ h => List.mem_cons_of_mem _ (List.mem_append_left _ (List.mem_append_right _ h))) (by decide +kernel))
set_option maxRecDepth 20000 in
theorem gX4_file_X4_checkLand : GoodIn wsX4_file (wsV RX4 49 RX4 yX4_checkLand wsX4_checkLand) := goodIn_app (goodIn_of _ (by decide +kernel)) ggX4_file_X4_checkLand
set_option maxRecDepth 20000 in
theorem ggX4_file_X4_checkSlot : GoodIn wsX4_file wsX4_checkSlot := goodIn_ca (goodIn_r _ [17, 12, 13] (by decide +kernel) (by decide +kernel)) (goodIn_sub (fun _ h => List.mem_cons_of_mem _ (List.mem_append_left _ (List.mem_append_right _ h))) (by decide +kernel))
set_option maxRecDepth 20000 in
theorem gX4_file_X4_checkSlot : GoodIn wsX4_file (wsV RX4 53 RX4 yX4_checkSlot wsX4_checkSlot) := goodIn_app (goodIn_of _ (by decide +kernel)) ggX4_file_X4_checkSlot
set_option maxRecDepth 20000 in
theorem ggX4_file_X4_checkBand : GoodIn wsX4_file wsX4_checkBand := goodIn_ca (goodIn_r _ [21, 12, 13] (by decide +kernel) (by decide +kernel)) (goodIn_sub (fun _ h => List.mem_cons_of_mem _ (List.mem_append_left _ (List.mem_append_right _ h))) (by decide +kernel))
set_option maxRecDepth 20000 in
theorem gX4_file_X4_checkBand : GoodIn wsX4_file (wsV RX4 56 RX4 yX4_checkBand wsX4_checkBand) := goodIn_app (goodIn_of _ (by decide +kernel)) ggX4_file_X4_checkBand
set_option maxRecDepth 20000 in
theorem ggX4_file_X4_checkPower : GoodIn wsX4_file wsX4_checkPower := goodIn_ca (goodIn_r _ [25, 26, 27] (by decide +kernel) (by decide +kernel)) (goodIn_sub (fun _ h => List.mem_cons_of_mem _ (List.mem_append_right _ h)) (by decide +kernel))
set_option maxRecDepth 20000 in
theorem gX4_file_X4_checkPower : GoodIn wsX4_file (wsV RX4 59 RX4 yX4_checkPower wsX4_checkPower) := goodIn_app (goodIn_of _ (by decide +kernel)) ggX4_file_X4_checkPower
set_option maxRecDepth 20000 in
theorem ggX4_file_X1_add : GoodIn wsX4_file wsX1_add := goodIn_r _ [32, 33, 34, 35, 36, 37, 38, 39, 40, 41, 42, 43, 31, 44, 45, 46, 47, 48, 49, 50, 51, 69, 70, 71, 72, 73, 74, 75, 76, 77, 78, 79, 80, 81] (by decide +kernel) (by decide +kernel)
set_option maxRecDepth 20000 in
theorem gX4_file_X1_add : GoodIn wsX4_file (wsV RX4 72 RX1 yX1_add wsX1_add) := goodIn_app (goodIn_of _ (by decide +kernel)) ggX4_file_X1_add
set_option maxRecDepth 20000 in
theorem ggX4_file_X2_note : GoodIn wsX4_file wsX2_note := goodIn_r _ [56, 57, 58, 59, 60, 61, 82, 83, 84, 85, 86] (by decide +kernel) (by decide +kernel)
set_option maxRecDepth 20000 in
theorem gX4_file_X2_note : GoodIn wsX4_file (wsV RX4 76 RX2 yX2_note wsX2_note) := goodIn_app (goodIn_of _ (by decide +kernel)) ggX4_file_X2_note
theorem dX4_file_0 : decode cX4_file 0 = .ok (.aload_n 0, 1) := by decide +kernel
theorem dX4_file_1 : decode cX4_file 1 = .ok (.iload_n 1, 1) := by decide +kernel
theorem dX4_file_2 : decode cX4_file 2 = .ok (.invokevirtual 49, 3) := by decide +kernel
theorem dX4_file_5 : decode cX4_file 5 = .ok (.aload_n 0, 1) := by decide +kernel
theorem dX4_file_6 : decode cX4_file 6 = .ok (.iload_n 2, 1) := by decide +kernel
theorem dX4_file_7 : decode cX4_file 7 = .ok (.invokevirtual 53, 3) := by decide +kernel
theorem dX4_file_10 : decode cX4_file 10 = .ok (.aload_n 0, 1) := by decide +kernel
theorem dX4_file_11 : decode cX4_file 11 = .ok (.iload_n 3, 1) := by decide +kernel
theorem dX4_file_12 : decode cX4_file 12 = .ok (.invokevirtual 56, 3) := by decide +kernel
theorem dX4_file_15 : decode cX4_file 15 = .ok (.aload_n 0, 1) := by decide +kernel
theorem dX4_file_16 : decode cX4_file 16 = .ok (.iload 4, 2) := by decide +kernel
theorem dX4_file_18 : decode cX4_file 18 = .ok (.invokevirtual 59, 3) := by decide +kernel
theorem dX4_file_21 : decode cX4_file 21 = .ok (.aload_n 0, 1) := by decide +kernel
theorem dX4_file_22 : decode cX4_file 22 = .ok (.getfield 10, 3) := by decide +kernel
theorem dX4_file_25 : decode cX4_file 25 = .ok (.getfield 62, 3) := by decide +kernel
theorem dX4_file_28 : decode cX4_file 28 = .ok (.bipush 40, 2) := by decide +kernel
theorem dX4_file_30 : decode cX4_file 30 = .ok (.if_icmp .lt 13, 3) := by decide +kernel
theorem dX4_file_33 : decode cX4_file 33 = .ok (.new 65, 3) := by decide +kernel
theorem dX4_file_36 : decode cX4_file 36 = .ok (.dup, 1) := by decide +kernel
theorem dX4_file_37 : decode cX4_file 37 = .ok (.ldc 67, 2) := by decide +kernel
theorem dX4_file_39 : decode cX4_file 39 = .ok (.invokespecial 69, 3) := by decide +kernel
theorem dX4_file_42 : decode cX4_file 42 = .ok (.athrow, 1) := by decide +kernel
theorem dX4_file_43 : decode cX4_file 43 = .ok (.aload_n 0, 1) := by decide +kernel
theorem dX4_file_44 : decode cX4_file 44 = .ok (.getfield 10, 3) := by decide +kernel
theorem dX4_file_47 : decode cX4_file 47 = .ok (.iload_n 1, 1) := by decide +kernel
theorem dX4_file_48 : decode cX4_file 48 = .ok (.iload_n 2, 1) := by decide +kernel
theorem dX4_file_49 : decode cX4_file 49 = .ok (.iload_n 3, 1) := by decide +kernel
theorem dX4_file_50 : decode cX4_file 50 = .ok (.iload 4, 2) := by decide +kernel
theorem dX4_file_52 : decode cX4_file 52 = .ok (.aload_n 0, 1) := by decide +kernel
theorem dX4_file_53 : decode cX4_file 53 = .ok (.getfield 45, 3) := by decide +kernel
theorem dX4_file_56 : decode cX4_file 56 = .ok (.invokevirtual 72, 3) := by decide +kernel
theorem dX4_file_59 : decode cX4_file 59 = .ok (.istore 5, 2) := by decide +kernel
theorem dX4_file_61 : decode cX4_file 61 = .ok (.aload_n 0, 1) := by decide +kernel
theorem dX4_file_62 : decode cX4_file 62 = .ok (.getfield 26, 3) := by decide +kernel
theorem dX4_file_65 : decode cX4_file 65 = .ok (.iconst 0, 1) := by decide +kernel
theorem dX4_file_66 : decode cX4_file 66 = .ok (.aload_n 0, 1) := by decide +kernel
theorem dX4_file_67 : decode cX4_file 67 = .ok (.getfield 45, 3) := by decide +kernel
theorem dX4_file_70 : decode cX4_file 70 = .ok (.iload 5, 2) := by decide +kernel
theorem dX4_file_72 : decode cX4_file 72 = .ok (.iload_n 2, 1) := by decide +kernel
theorem dX4_file_73 : decode cX4_file 73 = .ok (.invokevirtual 76, 3) := by decide +kernel
theorem dX4_file_76 : decode cX4_file 76 = .ok (.iload 5, 2) := by decide +kernel
theorem dX4_file_78 : decode cX4_file 78 = .ok (.ireturn, 1) := by decide +kernel
set_option maxRecDepth 20000 in
theorem ggX4_agree_X4_checkFiling : GoodIn wsX4_agree wsX4_checkFiling := goodIn_ca (goodIn_r _ [11, 12, 13, 5, 14, 34, 35, 36, 37, 38, 39, 40, 41, 42, 43, 44, 45, 46, 47, 48, 49, 50, 51, 52, 53] (by decide +kernel) (by decide +kernel)) (goodIn_sub (fun _ h => List.mem_cons_of_mem _ (List.mem_append_right _ h)) (by decide +kernel))
set_option maxRecDepth 20000 in
theorem gX4_agree_X4_checkFiling : GoodIn wsX4_agree (wsV RX4 80 RX4 yX4_checkFiling wsX4_checkFiling) := goodIn_app (goodIn_of _ (by decide +kernel)) ggX4_agree_X4_checkFiling
set_option maxRecDepth 20000 in
theorem ggX4_agree_X4_checkNotLapsed : GoodIn wsX4_agree wsX4_checkNotLapsed := goodIn_ca (goodIn_r _ [18, 3, 4, 5, 19, 20, 21, 22, 23, 24, 34, 35, 36, 37, 38, 39, 40, 41, 42, 43, 44, 45, 46, 47, 48, 49, 50, 51, 52, 53] (by decide +kernel) (by decide +kernel)) (goodIn_sub (fun _ h => List.mem_cons_of_mem _ (List.mem_append_left _ (List.mem_append_right _ h))) (by decide +kernel))
set_option maxRecDepth 20000 in
theorem gX4_agree_X4_checkNotLapsed : GoodIn wsX4_agree (wsV RX4 90 RX4 yX4_checkNotLapsed wsX4_checkNotLapsed) := goodIn_app (goodIn_of _ (by decide +kernel)) ggX4_agree_X4_checkNotLapsed
set_option maxRecDepth 20000 in
theorem ggX4_agree_X1_limitOfPair : GoodIn wsX4_agree wsX1_limitOfPair := goodIn_r _ [28, 29, 41, 42, 43, 44, 45, 46, 47, 48, 49, 50, 51, 52, 53] (by decide +kernel) (by decide +kernel)
set_option maxRecDepth 20000 in
theorem gX4_agree_X1_limitOfPair : GoodIn wsX4_agree (wsV RX4 98 RX1 yX1_limitOfPair wsX1_limitOfPair) := goodIn_app (goodIn_of _ (by decide +kernel)) ggX4_agree_X1_limitOfPair
set_option maxRecDepth 20000 in
theorem ggX4_agree_X1_setLimitOfPair : GoodIn wsX4_agree wsX1_setLimitOfPair := goodIn_r _ [33, 29, 41, 42, 43, 44, 45, 46, 47, 48, 49, 50, 51, 52, 53] (by decide +kernel) (by decide +kernel)
set_option maxRecDepth 20000 in
theorem gX4_agree_X1_setLimitOfPair : GoodIn wsX4_agree (wsV RX4 102 RX1 yX1_setLimitOfPair wsX1_setLimitOfPair) := goodIn_app (goodIn_of _ (by decide +kernel)) ggX4_agree_X1_setLimitOfPair
theorem dX4_agree_0 : decode cX4_agree 0 = .ok (.aload_n 0, 1) := by decide +kernel
theorem dX4_agree_1 : decode cX4_agree 1 = .ok (.iload_n 1, 1) := by decide +kernel
theorem dX4_agree_2 : decode cX4_agree 2 = .ok (.invokevirtual 80, 3) := by decide +kernel
theorem dX4_agree_5 : decode cX4_agree 5 = .ok (.aload_n 0, 1) := by decide +kernel
theorem dX4_agree_6 : decode cX4_agree 6 = .ok (.iload_n 2, 1) := by decide +kernel
theorem dX4_agree_7 : decode cX4_agree 7 = .ok (.invokevirtual 80, 3) := by decide +kernel
theorem dX4_agree_10 : decode cX4_agree 10 = .ok (.iload_n 1, 1) := by decide +kernel
theorem dX4_agree_11 : decode cX4_agree 11 = .ok (.iload_n 2, 1) := by decide +kernel
theorem dX4_agree_12 : decode cX4_agree 12 = .ok (.if_icmp .ne 13, 3) := by decide +kernel
theorem dX4_agree_15 : decode cX4_agree 15 = .ok (.new 83, 3) := by decide +kernel
theorem dX4_agree_18 : decode cX4_agree 18 = .ok (.dup, 1) := by decide +kernel
theorem dX4_agree_19 : decode cX4_agree 19 = .ok (.ldc 85, 2) := by decide +kernel
theorem dX4_agree_21 : decode cX4_agree 21 = .ok (.invokespecial 87, 3) := by decide +kernel
theorem dX4_agree_24 : decode cX4_agree 24 = .ok (.athrow, 1) := by decide +kernel
theorem dX4_agree_25 : decode cX4_agree 25 = .ok (.iload_n 3, 1) := by decide +kernel
theorem dX4_agree_26 : decode cX4_agree 26 = .ok (.ifCond .lt 10, 3) := by decide +kernel
theorem dX4_agree_29 : decode cX4_agree 29 = .ok (.iload_n 3, 1) := by decide +kernel
theorem dX4_agree_30 : decode cX4_agree 30 = .ok (.sipush 600, 3) := by decide +kernel
theorem dX4_agree_33 : decode cX4_agree 33 = .ok (.if_icmp .le 13, 3) := by decide +kernel
theorem dX4_agree_36 : decode cX4_agree 36 = .ok (.new 83, 3) := by decide +kernel
theorem dX4_agree_39 : decode cX4_agree 39 = .ok (.dup, 1) := by decide +kernel
theorem dX4_agree_40 : decode cX4_agree 40 = .ok (.ldc 88, 2) := by decide +kernel
theorem dX4_agree_42 : decode cX4_agree 42 = .ok (.invokespecial 87, 3) := by decide +kernel
theorem dX4_agree_45 : decode cX4_agree 45 = .ok (.athrow, 1) := by decide +kernel
theorem dX4_agree_46 : decode cX4_agree 46 = .ok (.aload_n 0, 1) := by decide +kernel
theorem dX4_agree_47 : decode cX4_agree 47 = .ok (.iload_n 1, 1) := by decide +kernel
theorem dX4_agree_48 : decode cX4_agree 48 = .ok (.invokevirtual 90, 3) := by decide +kernel
theorem dX4_agree_51 : decode cX4_agree 51 = .ok (.aload_n 0, 1) := by decide +kernel
theorem dX4_agree_52 : decode cX4_agree 52 = .ok (.iload_n 2, 1) := by decide +kernel
theorem dX4_agree_53 : decode cX4_agree 53 = .ok (.invokevirtual 90, 3) := by decide +kernel
theorem dX4_agree_56 : decode cX4_agree 56 = .ok (.aload_n 0, 1) := by decide +kernel
theorem dX4_agree_57 : decode cX4_agree 57 = .ok (.getfield 10, 3) := by decide +kernel
theorem dX4_agree_60 : decode cX4_agree 60 = .ok (.getfield 93, 3) := by decide +kernel
theorem dX4_agree_63 : decode cX4_agree 63 = .ok (.iload_n 1, 1) := by decide +kernel
theorem dX4_agree_64 : decode cX4_agree 64 = .ok (.iaload, 1) := by decide +kernel
theorem dX4_agree_65 : decode cX4_agree 65 = .ok (.aload_n 0, 1) := by decide +kernel
theorem dX4_agree_66 : decode cX4_agree 66 = .ok (.getfield 10, 3) := by decide +kernel
theorem dX4_agree_69 : decode cX4_agree 69 = .ok (.getfield 93, 3) := by decide +kernel
theorem dX4_agree_72 : decode cX4_agree 72 = .ok (.iload_n 2, 1) := by decide +kernel
theorem dX4_agree_73 : decode cX4_agree 73 = .ok (.iaload, 1) := by decide +kernel
theorem dX4_agree_74 : decode cX4_agree 74 = .ok (.if_icmp .eq 13, 3) := by decide +kernel
theorem dX4_agree_77 : decode cX4_agree 77 = .ok (.new 65, 3) := by decide +kernel
theorem dX4_agree_80 : decode cX4_agree 80 = .ok (.dup, 1) := by decide +kernel
theorem dX4_agree_81 : decode cX4_agree 81 = .ok (.ldc 96, 2) := by decide +kernel
theorem dX4_agree_83 : decode cX4_agree 83 = .ok (.invokespecial 69, 3) := by decide +kernel
theorem dX4_agree_86 : decode cX4_agree 86 = .ok (.athrow, 1) := by decide +kernel
theorem dX4_agree_87 : decode cX4_agree 87 = .ok (.aload_n 0, 1) := by decide +kernel
theorem dX4_agree_88 : decode cX4_agree 88 = .ok (.getfield 10, 3) := by decide +kernel
theorem dX4_agree_91 : decode cX4_agree 91 = .ok (.iload_n 1, 1) := by decide +kernel
theorem dX4_agree_92 : decode cX4_agree 92 = .ok (.iload_n 2, 1) := by decide +kernel
theorem dX4_agree_93 : decode cX4_agree 93 = .ok (.invokevirtual 98, 3) := by decide +kernel
theorem dX4_agree_96 : decode cX4_agree 96 = .ok (.istore 4, 2) := by decide +kernel
theorem dX4_agree_98 : decode cX4_agree 98 = .ok (.aload_n 0, 1) := by decide +kernel
theorem dX4_agree_99 : decode cX4_agree 99 = .ok (.getfield 10, 3) := by decide +kernel
theorem dX4_agree_102 : decode cX4_agree 102 = .ok (.iload_n 1, 1) := by decide +kernel
theorem dX4_agree_103 : decode cX4_agree 103 = .ok (.iload_n 2, 1) := by decide +kernel
theorem dX4_agree_104 : decode cX4_agree 104 = .ok (.iload_n 3, 1) := by decide +kernel
theorem dX4_agree_105 : decode cX4_agree 105 = .ok (.invokevirtual 102, 3) := by decide +kernel
theorem dX4_agree_108 : decode cX4_agree 108 = .ok (.iload 4, 2) := by decide +kernel
theorem dX4_agree_110 : decode cX4_agree 110 = .ok (.ireturn, 1) := by decide +kernel
set_option maxRecDepth 20000 in
theorem ggX4_inform_X4_checkFiling : GoodIn wsX4_inform wsX4_checkFiling := goodIn_ca (goodIn_r _ [12, 13, 14, 3, 15, 72, 73, 74, 75, 76, 77, 78, 79, 80, 81, 82, 83, 84, 85, 86, 87, 88, 89, 90, 91] (by decide +kernel) (by decide +kernel)) (goodIn_sub (fun _ h => List.mem_cons_of_mem _ (List.mem_append_right _ h)) (by decide +kernel))
set_option maxRecDepth 20000 in
theorem gX4_inform_X4_checkFiling : GoodIn wsX4_inform (wsV RX4 80 RX4 yX4_checkFiling wsX4_checkFiling) := goodIn_app (goodIn_of _ (by decide +kernel)) ggX4_inform_X4_checkFiling
set_option maxRecDepth 20000 in
theorem ggX4_inform_X1_countOverLimit : GoodIn wsX4_inform wsX1_countOverLimit := goodIn_r _ [20, 21, 22, 23, 24, 19, 25, 26, 27, 28, 29, 30, 31, 32, 33, 34, 35, 36, 37, 38, 39, 40, 41, 42, 43, 44, 45, 46, 47, 48, 49, 50, 51, 52, 53, 54, 55, 56, 57, 58, 59, 60, 61, 79, 80, 81, 82, 83, 84, 85, 86, 87, 88, 89, 90, 91] (by decide +kernel) (by decide +kernel)
set_option maxRecDepth 20000 in
theorem gX4_inform_X1_countOverLimit : GoodIn wsX4_inform (wsV RX4 111 RX1 yX1_countOverLimit wsX1_countOverLimit) := goodIn_app (goodIn_of _ (by decide +kernel)) ggX4_inform_X1_countOverLimit
set_option maxRecDepth 20000 in
theorem ggX4_inform_X2_note : GoodIn wsX4_inform wsX2_note := goodIn_r _ [66, 67, 68, 69, 70, 71, 92, 93, 94, 95, 96] (by decide +kernel) (by decide +kernel)
set_option maxRecDepth 20000 in
theorem gX4_inform_X2_note : GoodIn wsX4_inform (wsV RX4 76 RX2 yX2_note wsX2_note) := goodIn_app (goodIn_of _ (by decide +kernel)) ggX4_inform_X2_note
theorem dX4_inform_0 : decode cX4_inform 0 = .ok (.aload_n 0, 1) := by decide +kernel
theorem dX4_inform_1 : decode cX4_inform 1 = .ok (.iload_n 1, 1) := by decide +kernel
theorem dX4_inform_2 : decode cX4_inform 2 = .ok (.invokevirtual 80, 3) := by decide +kernel
theorem dX4_inform_5 : decode cX4_inform 5 = .ok (.aload_n 0, 1) := by decide +kernel
theorem dX4_inform_6 : decode cX4_inform 6 = .ok (.getfield 10, 3) := by decide +kernel
theorem dX4_inform_9 : decode cX4_inform 9 = .ok (.getfield 106, 3) := by decide +kernel
theorem dX4_inform_12 : decode cX4_inform 12 = .ok (.iload_n 1, 1) := by decide +kernel
theorem dX4_inform_13 : decode cX4_inform 13 = .ok (.iaload, 1) := by decide +kernel
theorem dX4_inform_14 : decode cX4_inform 14 = .ok (.ifCond .eq 13, 3) := by decide +kernel
theorem dX4_inform_17 : decode cX4_inform 17 = .ok (.new 65, 3) := by decide +kernel
theorem dX4_inform_20 : decode cX4_inform 20 = .ok (.dup, 1) := by decide +kernel
theorem dX4_inform_21 : decode cX4_inform 21 = .ok (.ldc 109, 2) := by decide +kernel
theorem dX4_inform_23 : decode cX4_inform 23 = .ok (.invokespecial 69, 3) := by decide +kernel
theorem dX4_inform_26 : decode cX4_inform 26 = .ok (.athrow, 1) := by decide +kernel
theorem dX4_inform_27 : decode cX4_inform 27 = .ok (.aload_n 0, 1) := by decide +kernel
theorem dX4_inform_28 : decode cX4_inform 28 = .ok (.getfield 10, 3) := by decide +kernel
theorem dX4_inform_31 : decode cX4_inform 31 = .ok (.iload_n 1, 1) := by decide +kernel
theorem dX4_inform_32 : decode cX4_inform 32 = .ok (.invokevirtual 111, 3) := by decide +kernel
theorem dX4_inform_35 : decode cX4_inform 35 = .ok (.ifCond .ne 7, 3) := by decide +kernel
theorem dX4_inform_38 : decode cX4_inform 38 = .ok (.iconst 1, 1) := by decide +kernel
theorem dX4_inform_39 : decode cX4_inform 39 = .ok (.goto 4, 3) := by decide +kernel
theorem dX4_inform_42 : decode cX4_inform 42 = .ok (.iconst 0, 1) := by decide +kernel
theorem dX4_inform_43 : decode cX4_inform 43 = .ok (.istore_n 3, 1) := by decide +kernel
theorem dX4_inform_44 : decode cX4_inform 44 = .ok (.iload_n 3, 1) := by decide +kernel
theorem dX4_inform_45 : decode cX4_inform 45 = .ok (.ifCond .ne 17, 3) := by decide +kernel
theorem dX4_inform_48 : decode cX4_inform 48 = .ok (.iload_n 2, 1) := by decide +kernel
theorem dX4_inform_49 : decode cX4_inform 49 = .ok (.ifCond .ne 13, 3) := by decide +kernel
theorem dX4_inform_52 : decode cX4_inform 52 = .ok (.new 65, 3) := by decide +kernel
theorem dX4_inform_55 : decode cX4_inform 55 = .ok (.dup, 1) := by decide +kernel
theorem dX4_inform_56 : decode cX4_inform 56 = .ok (.ldc 115, 2) := by decide +kernel
theorem dX4_inform_58 : decode cX4_inform 58 = .ok (.invokespecial 69, 3) := by decide +kernel
theorem dX4_inform_61 : decode cX4_inform 61 = .ok (.athrow, 1) := by decide +kernel
theorem dX4_inform_62 : decode cX4_inform 62 = .ok (.aload_n 0, 1) := by decide +kernel
theorem dX4_inform_63 : decode cX4_inform 63 = .ok (.getfield 10, 3) := by decide +kernel
theorem dX4_inform_66 : decode cX4_inform 66 = .ok (.getfield 106, 3) := by decide +kernel
theorem dX4_inform_69 : decode cX4_inform 69 = .ok (.iload_n 1, 1) := by decide +kernel
theorem dX4_inform_70 : decode cX4_inform 70 = .ok (.iconst 1, 1) := by decide +kernel
theorem dX4_inform_71 : decode cX4_inform 71 = .ok (.iastore, 1) := by decide +kernel
theorem dX4_inform_72 : decode cX4_inform 72 = .ok (.aload_n 0, 1) := by decide +kernel
theorem dX4_inform_73 : decode cX4_inform 73 = .ok (.getfield 10, 3) := by decide +kernel
theorem dX4_inform_76 : decode cX4_inform 76 = .ok (.getfield 117, 3) := by decide +kernel
theorem dX4_inform_79 : decode cX4_inform 79 = .ok (.iload_n 1, 1) := by decide +kernel
theorem dX4_inform_80 : decode cX4_inform 80 = .ok (.iload_n 3, 1) := by decide +kernel
theorem dX4_inform_81 : decode cX4_inform 81 = .ok (.ifCond .ne 7, 3) := by decide +kernel
theorem dX4_inform_84 : decode cX4_inform 84 = .ok (.iconst 1, 1) := by decide +kernel
theorem dX4_inform_85 : decode cX4_inform 85 = .ok (.goto 4, 3) := by decide +kernel
theorem dX4_inform_88 : decode cX4_inform 88 = .ok (.iconst 0, 1) := by decide +kernel
theorem dX4_inform_89 : decode cX4_inform 89 = .ok (.bastore, 1) := by decide +kernel
theorem dX4_inform_90 : decode cX4_inform 90 = .ok (.aload_n 0, 1) := by decide +kernel
theorem dX4_inform_91 : decode cX4_inform 91 = .ok (.getfield 26, 3) := by decide +kernel
theorem dX4_inform_94 : decode cX4_inform 94 = .ok (.iconst 1, 1) := by decide +kernel
theorem dX4_inform_95 : decode cX4_inform 95 = .ok (.aload_n 0, 1) := by decide +kernel
theorem dX4_inform_96 : decode cX4_inform 96 = .ok (.getfield 45, 3) := by decide +kernel
theorem dX4_inform_99 : decode cX4_inform 99 = .ok (.iload_n 1, 1) := by decide +kernel
theorem dX4_inform_100 : decode cX4_inform 100 = .ok (.iconst (-1), 1) := by decide +kernel
theorem dX4_inform_101 : decode cX4_inform 101 = .ok (.invokevirtual 76, 3) := by decide +kernel
theorem dX4_inform_104 : decode cX4_inform 104 = .ok (.iload_n 3, 1) := by decide +kernel
theorem dX4_inform_105 : decode cX4_inform 105 = .ok (.ireturn, 1) := by decide +kernel
set_option maxRecDepth 20000 in
theorem ggX4_change_X4_checkFiling : GoodIn wsX4_change wsX4_checkFiling := goodIn_ca (goodIn_r _ [11, 12, 13, 1, 14, 86, 87, 88, 89, 90, 91, 92, 93, 94, 95, 96, 97, 98, 99, 100, 101, 102, 103, 104, 105] (by decide +kernel) (by decide +kernel)) (goodIn_sub (fun _ h => List.mem_cons_of_mem _ (List.mem_append_left _ (List.mem_append_left _ (List.mem_append_right _ h)))) (by decide +kernel))
set_option maxRecDepth 20000 in
theorem gX4_change_X4_checkFiling : GoodIn wsX4_change (wsV RX4 80 RX4 yX4_checkFiling wsX4_checkFiling) := goodIn_app (goodIn_of _ (by decide +kernel)) ggX4_change_X4_checkFiling
set_option maxRecDepth 20000 in
theorem ggX4_change_X4_checkSlot : GoodIn wsX4_change wsX4_checkSlot := goodIn_ca (goodIn_r _ [18, 12, 13] (by decide +kernel) (by decide +kernel)) (goodIn_sub (fun _ h => List.mem_cons_of_mem _ (List.mem_append_left _ (List.mem_append_left _ (List.mem_append_right _ h)))) (by decide +kernel))
set_option maxRecDepth 20000 in
theorem gX4_change_X4_checkSlot : GoodIn wsX4_change (wsV RX4 53 RX4 yX4_checkSlot wsX4_checkSlot) := goodIn_app (goodIn_of _ (by decide +kernel)) ggX4_change_X4_checkSlot
set_option maxRecDepth 20000 in
theorem ggX4_change_X4_checkPower : GoodIn wsX4_change wsX4_checkPower := goodIn_ca (goodIn_r _ [22, 23, 24] (by decide +kernel) (by decide +kernel)) (goodIn_sub (fun _ h => List.mem_cons_of_mem _ (List.mem_append_left _ (List.mem_append_right _ h))) (by decide +kernel))
set_option maxRecDepth 20000 in
theorem gX4_change_X4_checkPower : GoodIn wsX4_change (wsV RX4 59 RX4 yX4_checkPower wsX4_checkPower) := goodIn_app (goodIn_of _ (by decide +kernel)) ggX4_change_X4_checkPower
set_option maxRecDepth 20000 in
theorem ggX4_change_X4_checkNotLapsed : GoodIn wsX4_change wsX4_checkNotLapsed := goodIn_ca (goodIn_r _ [28, 29, 30, 1, 31, 32, 33, 34, 35, 36, 86, 87, 88, 89, 90, 91, 92, 93, 94, 95, 96, 97, 98, 99, 100, 101, 102, 103, 104, 105] (by decide +kernel) (by decide +kernel)) (goodIn_sub (fun _ h => List.mem_cons_of_mem _ (List.mem_append_right _ h)) (by decide +kernel))
set_option maxRecDepth 20000 in
theorem gX4_change_X4_checkNotLapsed : GoodIn wsX4_change (wsV RX4 90 RX4 yX4_checkNotLapsed wsX4_checkNotLapsed) := goodIn_app (goodIn_of _ (by decide +kernel)) ggX4_change_X4_checkNotLapsed
set_option maxRecDepth 20000 in
theorem ggX4_change_X1_wouldHarmMore : GoodIn wsX4_change wsX1_wouldHarmMore := goodIn_r _ [40, 41, 42, 43, 44, 34, 45, 46, 47, 48, 49, 50, 51, 52, 53, 54, 55, 56, 57, 58, 32, 33, 35, 36, 59, 60, 61, 62, 63, 93, 94, 95, 96, 97, 98, 99, 100, 101, 102, 103, 104, 105] (by decide +kernel) (by decide +kernel)
set_option maxRecDepth 20000 in
theorem gX4_change_X1_wouldHarmMore : GoodIn wsX4_change (wsV RX4 121 RX1 yX1_wouldHarmMore wsX1_wouldHarmMore) := goodIn_app (goodIn_of _ (by decide +kernel)) ggX4_change_X1_wouldHarmMore
set_option maxRecDepth 20000 in
theorem ggX4_change_X1_renewDate : GoodIn wsX4_change wsX1_renewDate := goodIn_r _ [67, 68, 69, 93, 94, 95, 96, 97, 98, 99, 100, 101, 102, 103, 104, 105] (by decide +kernel) (by decide +kernel)
set_option maxRecDepth 20000 in
theorem gX4_change_X1_renewDate : GoodIn wsX4_change (wsV RX4 125 RX1 yX1_renewDate wsX1_renewDate) := goodIn_app (goodIn_of _ (by decide +kernel)) ggX4_change_X1_renewDate
set_option maxRecDepth 20000 in
theorem ggX4_change_X1_suspend : GoodIn wsX4_change wsX1_suspend := goodIn_r _ [73, 36, 74, 75, 93, 94, 95, 96, 97, 98, 99, 100, 101, 102, 103, 104, 105] (by decide +kernel) (by decide +kernel)
set_option maxRecDepth 20000 in
theorem gX4_change_X1_suspend : GoodIn wsX4_change (wsV RX4 131 RX1 yX1_suspend wsX1_suspend) := goodIn_app (goodIn_of _ (by decide +kernel)) ggX4_change_X1_suspend
set_option maxRecDepth 20000 in
theorem ggX4_change_X2_note : GoodIn wsX4_change wsX2_note := goodIn_r _ [80, 81, 82, 83, 84, 85, 106, 107, 108, 109, 110] (by decide +kernel) (by decide +kernel)
set_option maxRecDepth 20000 in
theorem gX4_change_X2_note : GoodIn wsX4_change (wsV RX4 76 RX2 yX2_note wsX2_note) := goodIn_app (goodIn_of _ (by decide +kernel)) ggX4_change_X2_note
theorem dX4_change_0 : decode cX4_change 0 = .ok (.aload_n 0, 1) := by decide +kernel
theorem dX4_change_1 : decode cX4_change 1 = .ok (.iload_n 1, 1) := by decide +kernel
theorem dX4_change_2 : decode cX4_change 2 = .ok (.invokevirtual 80, 3) := by decide +kernel
theorem dX4_change_5 : decode cX4_change 5 = .ok (.aload_n 0, 1) := by decide +kernel
theorem dX4_change_6 : decode cX4_change 6 = .ok (.iload_n 2, 1) := by decide +kernel
theorem dX4_change_7 : decode cX4_change 7 = .ok (.invokevirtual 53, 3) := by decide +kernel
theorem dX4_change_10 : decode cX4_change 10 = .ok (.aload_n 0, 1) := by decide +kernel
theorem dX4_change_11 : decode cX4_change 11 = .ok (.iload_n 3, 1) := by decide +kernel
theorem dX4_change_12 : decode cX4_change 12 = .ok (.invokevirtual 59, 3) := by decide +kernel
theorem dX4_change_15 : decode cX4_change 15 = .ok (.aload_n 0, 1) := by decide +kernel
theorem dX4_change_16 : decode cX4_change 16 = .ok (.iload_n 1, 1) := by decide +kernel
theorem dX4_change_17 : decode cX4_change 17 = .ok (.invokevirtual 90, 3) := by decide +kernel
theorem dX4_change_20 : decode cX4_change 20 = .ok (.aload_n 0, 1) := by decide +kernel
theorem dX4_change_21 : decode cX4_change 21 = .ok (.getfield 10, 3) := by decide +kernel
theorem dX4_change_24 : decode cX4_change 24 = .ok (.iload_n 1, 1) := by decide +kernel
theorem dX4_change_25 : decode cX4_change 25 = .ok (.iload_n 2, 1) := by decide +kernel
theorem dX4_change_26 : decode cX4_change 26 = .ok (.iload_n 3, 1) := by decide +kernel
theorem dX4_change_27 : decode cX4_change 27 = .ok (.invokevirtual 121, 3) := by decide +kernel
theorem dX4_change_30 : decode cX4_change 30 = .ok (.ifCond .ne 7, 3) := by decide +kernel
theorem dX4_change_33 : decode cX4_change 33 = .ok (.iconst 1, 1) := by decide +kernel
theorem dX4_change_34 : decode cX4_change 34 = .ok (.goto 4, 3) := by decide +kernel
theorem dX4_change_37 : decode cX4_change 37 = .ok (.iconst 0, 1) := by decide +kernel
theorem dX4_change_38 : decode cX4_change 38 = .ok (.istore 4, 2) := by decide +kernel
theorem dX4_change_40 : decode cX4_change 40 = .ok (.iload 4, 2) := by decide +kernel
theorem dX4_change_42 : decode cX4_change 42 = .ok (.ifCond .ne 11, 3) := by decide +kernel
theorem dX4_change_45 : decode cX4_change 45 = .ok (.aload_n 0, 1) := by decide +kernel
theorem dX4_change_46 : decode cX4_change 46 = .ok (.getfield 10, 3) := by decide +kernel
theorem dX4_change_49 : decode cX4_change 49 = .ok (.iload_n 1, 1) := by decide +kernel
theorem dX4_change_50 : decode cX4_change 50 = .ok (.invokevirtual 125, 3) := by decide +kernel
theorem dX4_change_53 : decode cX4_change 53 = .ok (.aload_n 0, 1) := by decide +kernel
theorem dX4_change_54 : decode cX4_change 54 = .ok (.getfield 10, 3) := by decide +kernel
theorem dX4_change_57 : decode cX4_change 57 = .ok (.getfield 106, 3) := by decide +kernel
theorem dX4_change_60 : decode cX4_change 60 = .ok (.iload_n 1, 1) := by decide +kernel
theorem dX4_change_61 : decode cX4_change 61 = .ok (.iaload, 1) := by decide +kernel
theorem dX4_change_62 : decode cX4_change 62 = .ok (.iconst 2, 1) := by decide +kernel
theorem dX4_change_63 : decode cX4_change 63 = .ok (.if_icmp .ne 28, 3) := by decide +kernel
theorem dX4_change_66 : decode cX4_change 66 = .ok (.aload_n 0, 1) := by decide +kernel
theorem dX4_change_67 : decode cX4_change 67 = .ok (.getfield 10, 3) := by decide +kernel
theorem dX4_change_70 : decode cX4_change 70 = .ok (.getfield 128, 3) := by decide +kernel
theorem dX4_change_73 : decode cX4_change 73 = .ok (.iload_n 1, 1) := by decide +kernel
theorem dX4_change_74 : decode cX4_change 74 = .ok (.iaload, 1) := by decide +kernel
theorem dX4_change_75 : decode cX4_change 75 = .ok (.iload_n 2, 1) := by decide +kernel
theorem dX4_change_76 : decode cX4_change 76 = .ok (.if_icmp .eq 15, 3) := by decide +kernel
theorem dX4_change_79 : decode cX4_change 79 = .ok (.aload_n 0, 1) := by decide +kernel
theorem dX4_change_80 : decode cX4_change 80 = .ok (.getfield 10, 3) := by decide +kernel
theorem dX4_change_83 : decode cX4_change 83 = .ok (.iload_n 1, 1) := by decide +kernel
theorem dX4_change_84 : decode cX4_change 84 = .ok (.aload_n 0, 1) := by decide +kernel
theorem dX4_change_85 : decode cX4_change 85 = .ok (.getfield 45, 3) := by decide +kernel
theorem dX4_change_88 : decode cX4_change 88 = .ok (.invokevirtual 131, 3) := by decide +kernel
theorem dX4_change_91 : decode cX4_change 91 = .ok (.aload_n 0, 1) := by decide +kernel
theorem dX4_change_92 : decode cX4_change 92 = .ok (.getfield 10, 3) := by decide +kernel
theorem dX4_change_95 : decode cX4_change 95 = .ok (.getfield 128, 3) := by decide +kernel
theorem dX4_change_98 : decode cX4_change 98 = .ok (.iload_n 1, 1) := by decide +kernel
theorem dX4_change_99 : decode cX4_change 99 = .ok (.iload_n 2, 1) := by decide +kernel
theorem dX4_change_100 : decode cX4_change 100 = .ok (.iastore, 1) := by decide +kernel
theorem dX4_change_101 : decode cX4_change 101 = .ok (.aload_n 0, 1) := by decide +kernel
theorem dX4_change_102 : decode cX4_change 102 = .ok (.getfield 10, 3) := by decide +kernel
theorem dX4_change_105 : decode cX4_change 105 = .ok (.getfield 135, 3) := by decide +kernel
theorem dX4_change_108 : decode cX4_change 108 = .ok (.iload_n 1, 1) := by decide +kernel
theorem dX4_change_109 : decode cX4_change 109 = .ok (.iload_n 3, 1) := by decide +kernel
theorem dX4_change_110 : decode cX4_change 110 = .ok (.iastore, 1) := by decide +kernel
theorem dX4_change_111 : decode cX4_change 111 = .ok (.aload_n 0, 1) := by decide +kernel
theorem dX4_change_112 : decode cX4_change 112 = .ok (.getfield 26, 3) := by decide +kernel
theorem dX4_change_115 : decode cX4_change 115 = .ok (.iconst 2, 1) := by decide +kernel
theorem dX4_change_116 : decode cX4_change 116 = .ok (.aload_n 0, 1) := by decide +kernel
theorem dX4_change_117 : decode cX4_change 117 = .ok (.getfield 45, 3) := by decide +kernel
theorem dX4_change_120 : decode cX4_change 120 = .ok (.iload_n 1, 1) := by decide +kernel
theorem dX4_change_121 : decode cX4_change 121 = .ok (.iload_n 2, 1) := by decide +kernel
theorem dX4_change_122 : decode cX4_change 122 = .ok (.invokevirtual 76, 3) := by decide +kernel
theorem dX4_change_125 : decode cX4_change 125 = .ok (.iload 4, 2) := by decide +kernel
theorem dX4_change_127 : decode cX4_change 127 = .ok (.ireturn, 1) := by decide +kernel
set_option maxRecDepth 20000 in
theorem ggX4_withdraw_X4_checkFiling : GoodIn wsX4_withdraw wsX4_checkFiling := goodIn_ca (goodIn_r _ [9, 10, 11, 1, 12, 40, 41, 42, 43, 44, 45, 46, 47, 48, 49, 50, 51, 52, 53, 54, 55, 56, 57, 58, 59] (by decide +kernel) (by decide +kernel)) (goodIn_sub (fun _ h => List.mem_cons_of_mem _ (List.mem_append_left _ (List.mem_append_right _ h))) (by decide +kernel))
set_option maxRecDepth 20000 in
theorem gX4_withdraw_X4_checkFiling : GoodIn wsX4_withdraw (wsV RX4 80 RX4 yX4_checkFiling wsX4_checkFiling) := goodIn_app (goodIn_of _ (by decide +kernel)) ggX4_withdraw_X4_checkFiling
set_option maxRecDepth 20000 in
theorem ggX4_withdraw_X4_checkNotLapsed : GoodIn wsX4_withdraw wsX4_checkNotLapsed := goodIn_ca (goodIn_r _ [16, 17, 18, 1, 19, 20, 21, 22, 23, 24, 40, 41, 42, 43, 44, 45, 46, 47, 48, 49, 50, 51, 52, 53, 54, 55, 56, 57, 58, 59] (by decide +kernel) (by decide +kernel)) (goodIn_sub (fun _ h => List.mem_cons_of_mem _ (List.mem_append_right _ h)) (by decide +kernel))
set_option maxRecDepth 20000 in
theorem gX4_withdraw_X4_checkNotLapsed : GoodIn wsX4_withdraw (wsV RX4 90 RX4 yX4_checkNotLapsed wsX4_checkNotLapsed) := goodIn_app (goodIn_of _ (by decide +kernel)) ggX4_withdraw_X4_checkNotLapsed
set_option maxRecDepth 20000 in
theorem ggX4_withdraw_X1_lapse : GoodIn wsX4_withdraw wsX1_lapse := goodIn_r _ [28, 24, 29, 47, 48, 49, 50, 51, 52, 53, 54, 55, 56, 57, 58, 59] (by decide +kernel) (by decide +kernel)
set_option maxRecDepth 20000 in
theorem gX4_withdraw_X1_lapse : GoodIn wsX4_withdraw (wsV RX4 138 RX1 yX1_lapse wsX1_lapse) := goodIn_app (goodIn_of _ (by decide +kernel)) ggX4_withdraw_X1_lapse
set_option maxRecDepth 20000 in
theorem ggX4_withdraw_X2_note : GoodIn wsX4_withdraw wsX2_note := goodIn_r _ [34, 35, 36, 37, 38, 39, 60, 61, 62, 63, 64] (by decide +kernel) (by decide +kernel)
set_option maxRecDepth 20000 in
theorem gX4_withdraw_X2_note : GoodIn wsX4_withdraw (wsV RX4 76 RX2 yX2_note wsX2_note) := goodIn_app (goodIn_of _ (by decide +kernel)) ggX4_withdraw_X2_note
theorem dX4_withdraw_0 : decode cX4_withdraw 0 = .ok (.aload_n 0, 1) := by decide +kernel
theorem dX4_withdraw_1 : decode cX4_withdraw 1 = .ok (.iload_n 1, 1) := by decide +kernel
theorem dX4_withdraw_2 : decode cX4_withdraw 2 = .ok (.invokevirtual 80, 3) := by decide +kernel
theorem dX4_withdraw_5 : decode cX4_withdraw 5 = .ok (.aload_n 0, 1) := by decide +kernel
theorem dX4_withdraw_6 : decode cX4_withdraw 6 = .ok (.iload_n 1, 1) := by decide +kernel
theorem dX4_withdraw_7 : decode cX4_withdraw 7 = .ok (.invokevirtual 90, 3) := by decide +kernel
theorem dX4_withdraw_10 : decode cX4_withdraw 10 = .ok (.aload_n 0, 1) := by decide +kernel
theorem dX4_withdraw_11 : decode cX4_withdraw 11 = .ok (.getfield 10, 3) := by decide +kernel
theorem dX4_withdraw_14 : decode cX4_withdraw 14 = .ok (.getfield 106, 3) := by decide +kernel
theorem dX4_withdraw_17 : decode cX4_withdraw 17 = .ok (.iload_n 1, 1) := by decide +kernel
theorem dX4_withdraw_18 : decode cX4_withdraw 18 = .ok (.iaload, 1) := by decide +kernel
theorem dX4_withdraw_19 : decode cX4_withdraw 19 = .ok (.istore_n 2, 1) := by decide +kernel
theorem dX4_withdraw_20 : decode cX4_withdraw 20 = .ok (.aload_n 0, 1) := by decide +kernel
theorem dX4_withdraw_21 : decode cX4_withdraw 21 = .ok (.getfield 10, 3) := by decide +kernel
theorem dX4_withdraw_24 : decode cX4_withdraw 24 = .ok (.iload_n 1, 1) := by decide +kernel
theorem dX4_withdraw_25 : decode cX4_withdraw 25 = .ok (.invokevirtual 138, 3) := by decide +kernel
theorem dX4_withdraw_28 : decode cX4_withdraw 28 = .ok (.aload_n 0, 1) := by decide +kernel
theorem dX4_withdraw_29 : decode cX4_withdraw 29 = .ok (.getfield 26, 3) := by decide +kernel
theorem dX4_withdraw_32 : decode cX4_withdraw 32 = .ok (.iconst 3, 1) := by decide +kernel
theorem dX4_withdraw_33 : decode cX4_withdraw 33 = .ok (.aload_n 0, 1) := by decide +kernel
theorem dX4_withdraw_34 : decode cX4_withdraw 34 = .ok (.getfield 45, 3) := by decide +kernel
theorem dX4_withdraw_37 : decode cX4_withdraw 37 = .ok (.iload_n 1, 1) := by decide +kernel
theorem dX4_withdraw_38 : decode cX4_withdraw 38 = .ok (.iconst (-1), 1) := by decide +kernel
theorem dX4_withdraw_39 : decode cX4_withdraw 39 = .ok (.invokevirtual 76, 3) := by decide +kernel
theorem dX4_withdraw_42 : decode cX4_withdraw 42 = .ok (.iload_n 2, 1) := by decide +kernel
theorem dX4_withdraw_43 : decode cX4_withdraw 43 = .ok (.ireturn, 1) := by decide +kernel
set_option maxRecDepth 20000 in
theorem ggX4_use_X4_checkFiling : GoodIn wsX4_use wsX4_checkFiling := goodIn_ca (goodIn_r _ [16, 17, 18, 3, 19, 77, 78, 79, 80, 81, 82, 83, 84, 85, 86, 87, 88, 89, 90, 91, 92, 93, 94, 95, 96] (by decide +kernel) (by decide +kernel)) (goodIn_sub (fun _ h => List.mem_cons_of_mem _ (List.mem_append_right _ h)) (by decide +kernel))
set_option maxRecDepth 20000 in
theorem gX4_use_X4_checkFiling : GoodIn wsX4_use (wsV RX4 80 RX4 yX4_checkFiling wsX4_checkFiling) := goodIn_app (goodIn_of _ (by decide +kernel)) ggX4_use_X4_checkFiling
set_option maxRecDepth 20000 in
theorem ggX4_use_X4_checkSatellite : GoodIn wsX4_use wsX4_checkSatellite := goodIn_ca (goodIn_r _ [23, 17, 18, 5, 24, 77, 78, 79, 80, 81, 82, 83, 97, 98, 99, 100, 101, 102, 103, 104] (by decide +kernel) (by decide +kernel)) (goodIn_sub (fun _ h => List.mem_cons_of_mem _ (List.mem_append_right _ h)) (by decide +kernel))
set_option maxRecDepth 20000 in
theorem gX4_use_X4_checkSatellite : GoodIn wsX4_use (wsV RX4 141 RX4 yX4_checkSatellite wsX4_checkSatellite) := goodIn_app (goodIn_of _ (by decide +kernel)) ggX4_use_X4_checkSatellite
set_option maxRecDepth 20000 in
theorem ggX4_use_X4_checkActive : GoodIn wsX4_use wsX4_checkActive := goodIn_ca (goodIn_r _ [28, 1, 2, 5, 29, 77, 78, 79, 80, 81, 82, 83, 97, 98, 99, 100, 101, 102, 103, 104] (by decide +kernel) (by decide +kernel)) (goodIn_sub (fun _ h => List.mem_cons_of_mem _ (List.mem_append_left _ (List.mem_append_right _ h))) (by decide +kernel))
set_option maxRecDepth 20000 in
theorem gX4_use_X4_checkActive : GoodIn wsX4_use (wsV RX4 146 RX4 yX4_checkActive wsX4_checkActive) := goodIn_app (goodIn_of _ (by decide +kernel)) ggX4_use_X4_checkActive
set_option maxRecDepth 20000 in
theorem ggX4_use_X2_note : GoodIn wsX4_use wsX2_note := goodIn_r _ [34, 35, 36, 37, 38, 39, 105, 106, 107, 108, 109] (by decide +kernel) (by decide +kernel)
set_option maxRecDepth 20000 in
theorem gX4_use_X2_note : GoodIn wsX4_use (wsV RX4 76 RX2 yX2_note wsX2_note) := goodIn_app (goodIn_of _ (by decide +kernel)) ggX4_use_X2_note
set_option maxRecDepth 20000 in
theorem ggX4_use_X1_harmBorne : GoodIn wsX4_use wsX1_harmBorne := goodIn_r _ [44, 45, 46, 47, 48, 49, 43, 50, 51, 52, 53, 54, 55, 56, 57, 58, 59, 60, 61, 62, 63, 64, 65, 66, 67, 68, 69, 70, 71, 72, 73, 74, 75, 76, 84, 85, 86, 87, 88, 89, 90, 91, 92, 93, 94, 95, 96] (by decide +kernel) (by decide +kernel)
set_option maxRecDepth 20000 in
theorem gX4_use_X1_harmBorne : GoodIn wsX4_use (wsV RX4 160 RX1 yX1_harmBorne wsX1_harmBorne) := goodIn_app (goodIn_of _ (by decide +kernel)) ggX4_use_X1_harmBorne
theorem dX4_use_0 : decode cX4_use 0 = .ok (.aload_n 0, 1) := by decide +kernel
theorem dX4_use_1 : decode cX4_use 1 = .ok (.iload_n 1, 1) := by decide +kernel
theorem dX4_use_2 : decode cX4_use 2 = .ok (.invokevirtual 80, 3) := by decide +kernel
theorem dX4_use_5 : decode cX4_use 5 = .ok (.aload_n 0, 1) := by decide +kernel
theorem dX4_use_6 : decode cX4_use 6 = .ok (.iload_n 2, 1) := by decide +kernel
theorem dX4_use_7 : decode cX4_use 7 = .ok (.invokevirtual 141, 3) := by decide +kernel
theorem dX4_use_10 : decode cX4_use 10 = .ok (.aload_n 0, 1) := by decide +kernel
theorem dX4_use_11 : decode cX4_use 11 = .ok (.getfield 10, 3) := by decide +kernel
theorem dX4_use_14 : decode cX4_use 14 = .ok (.getfield 106, 3) := by decide +kernel
theorem dX4_use_17 : decode cX4_use 17 = .ok (.iload_n 1, 1) := by decide +kernel
theorem dX4_use_18 : decode cX4_use 18 = .ok (.iaload, 1) := by decide +kernel
theorem dX4_use_19 : decode cX4_use 19 = .ok (.istore_n 3, 1) := by decide +kernel
theorem dX4_use_20 : decode cX4_use 20 = .ok (.iload_n 3, 1) := by decide +kernel
theorem dX4_use_21 : decode cX4_use 21 = .ok (.iconst 1, 1) := by decide +kernel
theorem dX4_use_22 : decode cX4_use 22 = .ok (.if_icmp .eq 18, 3) := by decide +kernel
theorem dX4_use_25 : decode cX4_use 25 = .ok (.iload_n 3, 1) := by decide +kernel
theorem dX4_use_26 : decode cX4_use 26 = .ok (.iconst 3, 1) := by decide +kernel
theorem dX4_use_27 : decode cX4_use 27 = .ok (.if_icmp .eq 13, 3) := by decide +kernel
theorem dX4_use_30 : decode cX4_use 30 = .ok (.new 65, 3) := by decide +kernel
theorem dX4_use_33 : decode cX4_use 33 = .ok (.dup, 1) := by decide +kernel
theorem dX4_use_34 : decode cX4_use 34 = .ok (.ldc 144, 2) := by decide +kernel
theorem dX4_use_36 : decode cX4_use 36 = .ok (.invokespecial 69, 3) := by decide +kernel
theorem dX4_use_39 : decode cX4_use 39 = .ok (.athrow, 1) := by decide +kernel
theorem dX4_use_40 : decode cX4_use 40 = .ok (.aload_n 0, 1) := by decide +kernel
theorem dX4_use_41 : decode cX4_use 41 = .ok (.iload_n 2, 1) := by decide +kernel
theorem dX4_use_42 : decode cX4_use 42 = .ok (.invokevirtual 146, 3) := by decide +kernel
theorem dX4_use_45 : decode cX4_use 45 = .ok (.aload_n 0, 1) := by decide +kernel
theorem dX4_use_46 : decode cX4_use 46 = .ok (.getfield 19, 3) := by decide +kernel
theorem dX4_use_49 : decode cX4_use 49 = .ok (.getfield 149, 3) := by decide +kernel
theorem dX4_use_52 : decode cX4_use 52 = .ok (.iload_n 2, 1) := by decide +kernel
theorem dX4_use_53 : decode cX4_use 53 = .ok (.iaload, 1) := by decide +kernel
theorem dX4_use_54 : decode cX4_use 54 = .ok (.aload_n 0, 1) := by decide +kernel
theorem dX4_use_55 : decode cX4_use 55 = .ok (.getfield 10, 3) := by decide +kernel
theorem dX4_use_58 : decode cX4_use 58 = .ok (.getfield 128, 3) := by decide +kernel
theorem dX4_use_61 : decode cX4_use 61 = .ok (.iload_n 1, 1) := by decide +kernel
theorem dX4_use_62 : decode cX4_use 62 = .ok (.iaload, 1) := by decide +kernel
theorem dX4_use_63 : decode cX4_use 63 = .ok (.if_icmp .eq 13, 3) := by decide +kernel
theorem dX4_use_66 : decode cX4_use 66 = .ok (.new 65, 3) := by decide +kernel
theorem dX4_use_69 : decode cX4_use 69 = .ok (.dup, 1) := by decide +kernel
theorem dX4_use_70 : decode cX4_use 70 = .ok (.ldc 150, 2) := by decide +kernel
theorem dX4_use_72 : decode cX4_use 72 = .ok (.invokespecial 69, 3) := by decide +kernel
theorem dX4_use_75 : decode cX4_use 75 = .ok (.athrow, 1) := by decide +kernel
theorem dX4_use_76 : decode cX4_use 76 = .ok (.iload_n 3, 1) := by decide +kernel
theorem dX4_use_77 : decode cX4_use 77 = .ok (.iconst 1, 1) := by decide +kernel
theorem dX4_use_78 : decode cX4_use 78 = .ok (.if_icmp .ne 32, 3) := by decide +kernel
theorem dX4_use_81 : decode cX4_use 81 = .ok (.aload_n 0, 1) := by decide +kernel
theorem dX4_use_82 : decode cX4_use 82 = .ok (.getfield 45, 3) := by decide +kernel
theorem dX4_use_85 : decode cX4_use 85 = .ok (.aload_n 0, 1) := by decide +kernel
theorem dX4_use_86 : decode cX4_use 86 = .ok (.getfield 19, 3) := by decide +kernel
theorem dX4_use_89 : decode cX4_use 89 = .ok (.getfield 152, 3) := by decide +kernel
theorem dX4_use_92 : decode cX4_use 92 = .ok (.iload_n 2, 1) := by decide +kernel
theorem dX4_use_93 : decode cX4_use 93 = .ok (.iaload, 1) := by decide +kernel
theorem dX4_use_94 : decode cX4_use 94 = .ok (.isub, 1) := by decide +kernel
theorem dX4_use_95 : decode cX4_use 95 = .ok (.bipush 90, 2) := by decide +kernel
theorem dX4_use_97 : decode cX4_use 97 = .ok (.if_icmp .ge 13, 3) := by decide +kernel
theorem dX4_use_100 : decode cX4_use 100 = .ok (.new 65, 3) := by decide +kernel
theorem dX4_use_103 : decode cX4_use 103 = .ok (.dup, 1) := by decide +kernel
theorem dX4_use_104 : decode cX4_use 104 = .ok (.ldc 155, 2) := by decide +kernel
theorem dX4_use_106 : decode cX4_use 106 = .ok (.invokespecial 69, 3) := by decide +kernel
theorem dX4_use_109 : decode cX4_use 109 = .ok (.athrow, 1) := by decide +kernel
theorem dX4_use_110 : decode cX4_use 110 = .ok (.aload_n 0, 1) := by decide +kernel
theorem dX4_use_111 : decode cX4_use 111 = .ok (.getfield 10, 3) := by decide +kernel
theorem dX4_use_114 : decode cX4_use 114 = .ok (.getfield 106, 3) := by decide +kernel
theorem dX4_use_117 : decode cX4_use 117 = .ok (.iload_n 1, 1) := by decide +kernel
theorem dX4_use_118 : decode cX4_use 118 = .ok (.iconst 2, 1) := by decide +kernel
theorem dX4_use_119 : decode cX4_use 119 = .ok (.iastore, 1) := by decide +kernel
theorem dX4_use_120 : decode cX4_use 120 = .ok (.aload_n 0, 1) := by decide +kernel
theorem dX4_use_121 : decode cX4_use 121 = .ok (.getfield 10, 3) := by decide +kernel
theorem dX4_use_124 : decode cX4_use 124 = .ok (.getfield 157, 3) := by decide +kernel
theorem dX4_use_127 : decode cX4_use 127 = .ok (.iload_n 1, 1) := by decide +kernel
theorem dX4_use_128 : decode cX4_use 128 = .ok (.iload_n 2, 1) := by decide +kernel
theorem dX4_use_129 : decode cX4_use 129 = .ok (.iastore, 1) := by decide +kernel
theorem dX4_use_130 : decode cX4_use 130 = .ok (.aload_n 0, 1) := by decide +kernel
theorem dX4_use_131 : decode cX4_use 131 = .ok (.getfield 26, 3) := by decide +kernel
theorem dX4_use_134 : decode cX4_use 134 = .ok (.iconst 4, 1) := by decide +kernel
theorem dX4_use_135 : decode cX4_use 135 = .ok (.aload_n 0, 1) := by decide +kernel
theorem dX4_use_136 : decode cX4_use 136 = .ok (.getfield 45, 3) := by decide +kernel
theorem dX4_use_139 : decode cX4_use 139 = .ok (.iload_n 1, 1) := by decide +kernel
theorem dX4_use_140 : decode cX4_use 140 = .ok (.iload_n 2, 1) := by decide +kernel
theorem dX4_use_141 : decode cX4_use 141 = .ok (.invokevirtual 76, 3) := by decide +kernel
theorem dX4_use_144 : decode cX4_use 144 = .ok (.aload_n 0, 1) := by decide +kernel
theorem dX4_use_145 : decode cX4_use 145 = .ok (.getfield 10, 3) := by decide +kernel
theorem dX4_use_148 : decode cX4_use 148 = .ok (.iload_n 1, 1) := by decide +kernel
theorem dX4_use_149 : decode cX4_use 149 = .ok (.invokevirtual 160, 3) := by decide +kernel
theorem dX4_use_152 : decode cX4_use 152 = .ok (.ireturn, 1) := by decide +kernel
set_option maxRecDepth 20000 in
theorem ggX4_complain_X4_checkFiling : GoodIn wsX4_complain wsX4_checkFiling := goodIn_ca (goodIn_r _ [9, 10, 11, 1, 12, 77, 78, 79, 80, 81, 82, 83, 84, 85, 86, 87, 88, 89, 90, 91, 92, 93, 94, 95, 96] (by decide +kernel) (by decide +kernel)) (goodIn_sub (fun _ h => List.mem_cons_of_mem _ (List.mem_append_left _ (List.mem_append_right _ h))) (by decide +kernel))
set_option maxRecDepth 20000 in
theorem gX4_complain_X4_checkFiling : GoodIn wsX4_complain (wsV RX4 80 RX4 yX4_checkFiling wsX4_checkFiling) := goodIn_app (goodIn_of _ (by decide +kernel)) ggX4_complain_X4_checkFiling
set_option maxRecDepth 20000 in
theorem ggX4_complain_X4_checkInUse : GoodIn wsX4_complain wsX4_checkInUse := goodIn_ca (goodIn_r _ [16, 17, 18, 1, 19, 77, 78, 79, 80, 81, 82, 83, 84, 85, 86, 87, 88, 89, 90, 91, 92, 93, 94, 95, 96] (by decide +kernel) (by decide +kernel)) (goodIn_sub (fun _ h => List.mem_cons_of_mem _ (List.mem_append_right _ h)) (by decide +kernel))
set_option maxRecDepth 20000 in
theorem gX4_complain_X4_checkInUse : GoodIn wsX4_complain (wsV RX4 163 RX4 yX4_checkInUse wsX4_checkInUse) := goodIn_app (goodIn_of _ (by decide +kernel)) ggX4_complain_X4_checkInUse
set_option maxRecDepth 20000 in
theorem ggX4_complain_X1_isOverLimit : GoodIn wsX4_complain wsX1_isOverLimit := goodIn_r _ [24, 25, 26, 27, 23, 28, 29, 30, 31, 32, 33, 34, 35, 36, 37, 38, 39, 40, 41, 42, 43, 44, 45, 46, 47, 48, 49, 50, 51, 52, 53, 54, 55, 56, 57, 58, 59, 60, 84, 85, 86, 87, 88, 89, 90, 91, 92, 93, 94, 95, 96] (by decide +kernel) (by decide +kernel)
set_option maxRecDepth 20000 in
theorem gX4_complain_X1_isOverLimit : GoodIn wsX4_complain (wsV RX4 166 RX1 yX1_isOverLimit wsX1_isOverLimit) := goodIn_app (goodIn_of _ (by decide +kernel)) ggX4_complain_X1_isOverLimit
set_option maxRecDepth 20000 in
theorem ggX4_complain_X1_suspend : GoodIn wsX4_complain wsX1_suspend := goodIn_r _ [64, 55, 65, 66, 84, 85, 86, 87, 88, 89, 90, 91, 92, 93, 94, 95, 96] (by decide +kernel) (by decide +kernel)
set_option maxRecDepth 20000 in
theorem gX4_complain_X1_suspend : GoodIn wsX4_complain (wsV RX4 131 RX1 yX1_suspend wsX1_suspend) := goodIn_app (goodIn_of _ (by decide +kernel)) ggX4_complain_X1_suspend
set_option maxRecDepth 20000 in
theorem ggX4_complain_X2_note : GoodIn wsX4_complain wsX2_note := goodIn_r _ [71, 72, 73, 74, 75, 76, 97, 98, 99, 100, 101] (by decide +kernel) (by decide +kernel)
set_option maxRecDepth 20000 in
theorem gX4_complain_X2_note : GoodIn wsX4_complain (wsV RX4 76 RX2 yX2_note wsX2_note) := goodIn_app (goodIn_of _ (by decide +kernel)) ggX4_complain_X2_note
theorem dX4_complain_0 : decode cX4_complain 0 = .ok (.aload_n 0, 1) := by decide +kernel
theorem dX4_complain_1 : decode cX4_complain 1 = .ok (.iload_n 1, 1) := by decide +kernel
theorem dX4_complain_2 : decode cX4_complain 2 = .ok (.invokevirtual 80, 3) := by decide +kernel
theorem dX4_complain_5 : decode cX4_complain 5 = .ok (.aload_n 0, 1) := by decide +kernel
theorem dX4_complain_6 : decode cX4_complain 6 = .ok (.iload_n 2, 1) := by decide +kernel
theorem dX4_complain_7 : decode cX4_complain 7 = .ok (.invokevirtual 80, 3) := by decide +kernel
theorem dX4_complain_10 : decode cX4_complain 10 = .ok (.aload_n 0, 1) := by decide +kernel
theorem dX4_complain_11 : decode cX4_complain 11 = .ok (.iload_n 1, 1) := by decide +kernel
theorem dX4_complain_12 : decode cX4_complain 12 = .ok (.invokevirtual 163, 3) := by decide +kernel
theorem dX4_complain_15 : decode cX4_complain 15 = .ok (.aload_n 0, 1) := by decide +kernel
theorem dX4_complain_16 : decode cX4_complain 16 = .ok (.iload_n 2, 1) := by decide +kernel
theorem dX4_complain_17 : decode cX4_complain 17 = .ok (.invokevirtual 163, 3) := by decide +kernel
theorem dX4_complain_20 : decode cX4_complain 20 = .ok (.aload_n 0, 1) := by decide +kernel
theorem dX4_complain_21 : decode cX4_complain 21 = .ok (.getfield 10, 3) := by decide +kernel
theorem dX4_complain_24 : decode cX4_complain 24 = .ok (.getfield 117, 3) := by decide +kernel
theorem dX4_complain_27 : decode cX4_complain 27 = .ok (.iload_n 2, 1) := by decide +kernel
theorem dX4_complain_28 : decode cX4_complain 28 = .ok (.baload, 1) := by decide +kernel
theorem dX4_complain_29 : decode cX4_complain 29 = .ok (.ifCond .eq 19, 3) := by decide +kernel
theorem dX4_complain_32 : decode cX4_complain 32 = .ok (.aload_n 0, 1) := by decide +kernel
theorem dX4_complain_33 : decode cX4_complain 33 = .ok (.getfield 10, 3) := by decide +kernel
theorem dX4_complain_36 : decode cX4_complain 36 = .ok (.iload_n 2, 1) := by decide +kernel
theorem dX4_complain_37 : decode cX4_complain 37 = .ok (.iload_n 1, 1) := by decide +kernel
theorem dX4_complain_38 : decode cX4_complain 38 = .ok (.invokevirtual 166, 3) := by decide +kernel
theorem dX4_complain_41 : decode cX4_complain 41 = .ok (.ifCond .eq 7, 3) := by decide +kernel
theorem dX4_complain_44 : decode cX4_complain 44 = .ok (.iconst 1, 1) := by decide +kernel
theorem dX4_complain_45 : decode cX4_complain 45 = .ok (.goto 4, 3) := by decide +kernel
theorem dX4_complain_48 : decode cX4_complain 48 = .ok (.iconst 0, 1) := by decide +kernel
theorem dX4_complain_49 : decode cX4_complain 49 = .ok (.istore_n 3, 1) := by decide +kernel
theorem dX4_complain_50 : decode cX4_complain 50 = .ok (.iload_n 3, 1) := by decide +kernel
theorem dX4_complain_51 : decode cX4_complain 51 = .ok (.ifCond .eq 29, 3) := by decide +kernel
theorem dX4_complain_54 : decode cX4_complain 54 = .ok (.aload_n 0, 1) := by decide +kernel
theorem dX4_complain_55 : decode cX4_complain 55 = .ok (.getfield 10, 3) := by decide +kernel
theorem dX4_complain_58 : decode cX4_complain 58 = .ok (.iload_n 2, 1) := by decide +kernel
theorem dX4_complain_59 : decode cX4_complain 59 = .ok (.aload_n 0, 1) := by decide +kernel
theorem dX4_complain_60 : decode cX4_complain 60 = .ok (.getfield 45, 3) := by decide +kernel
theorem dX4_complain_63 : decode cX4_complain 63 = .ok (.invokevirtual 131, 3) := by decide +kernel
theorem dX4_complain_66 : decode cX4_complain 66 = .ok (.aload_n 0, 1) := by decide +kernel
theorem dX4_complain_67 : decode cX4_complain 67 = .ok (.getfield 26, 3) := by decide +kernel
theorem dX4_complain_70 : decode cX4_complain 70 = .ok (.iconst 5, 1) := by decide +kernel
theorem dX4_complain_71 : decode cX4_complain 71 = .ok (.aload_n 0, 1) := by decide +kernel
theorem dX4_complain_72 : decode cX4_complain 72 = .ok (.getfield 45, 3) := by decide +kernel
theorem dX4_complain_75 : decode cX4_complain 75 = .ok (.iload_n 2, 1) := by decide +kernel
theorem dX4_complain_76 : decode cX4_complain 76 = .ok (.iconst (-1), 1) := by decide +kernel
theorem dX4_complain_77 : decode cX4_complain 77 = .ok (.invokevirtual 76, 3) := by decide +kernel
theorem dX4_complain_80 : decode cX4_complain 80 = .ok (.iload_n 3, 1) := by decide +kernel
theorem dX4_complain_81 : decode cX4_complain 81 = .ok (.ireturn, 1) := by decide +kernel
set_option maxRecDepth 20000 in
theorem ggX4_launch_X4_checkSlot : GoodIn wsX4_launch wsX4_checkSlot := goodIn_ca (goodIn_r _ [12, 13, 14] (by decide +kernel) (by decide +kernel)) (goodIn_sub (fun _ h => List.mem_cons_of_mem _ (List.mem_append_right _ h)) (by decide +kernel))
set_option maxRecDepth 20000 in
theorem gX4_launch_X4_checkSlot : GoodIn wsX4_launch (wsV RX4 53 RX4 yX4_checkSlot wsX4_checkSlot) := goodIn_app (goodIn_of _ (by decide +kernel)) ggX4_launch_X4_checkSlot
set_option maxRecDepth 20000 in
theorem ggX4_launch_X3_add : GoodIn wsX4_launch wsX3_add := goodIn_r _ [19, 20, 21, 22, 23, 24, 25, 26, 27, 28, 29, 18, 30, 31, 32, 33, 41, 42, 43, 44, 45, 46, 47, 48] (by decide +kernel) (by decide +kernel)
set_option maxRecDepth 20000 in
theorem gX4_launch_X3_add : GoodIn wsX4_launch (wsV RX4 177 RX3 yX3_add wsX3_add) := goodIn_app (goodIn_of _ (by decide +kernel)) ggX4_launch_X3_add
theorem dX4_launch_0 : decode cX4_launch 0 = .ok (.aload_n 0, 1) := by decide +kernel
theorem dX4_launch_1 : decode cX4_launch 1 = .ok (.iload_n 2, 1) := by decide +kernel
theorem dX4_launch_2 : decode cX4_launch 2 = .ok (.invokevirtual 53, 3) := by decide +kernel
theorem dX4_launch_5 : decode cX4_launch 5 = .ok (.iload_n 1, 1) := by decide +kernel
theorem dX4_launch_6 : decode cX4_launch 6 = .ok (.iconst 1, 1) := by decide +kernel
theorem dX4_launch_7 : decode cX4_launch 7 = .ok (.if_icmp .lt 10, 3) := by decide +kernel
theorem dX4_launch_10 : decode cX4_launch 10 = .ok (.iload_n 1, 1) := by decide +kernel
theorem dX4_launch_11 : decode cX4_launch 11 = .ok (.sipush 255, 3) := by decide +kernel
theorem dX4_launch_14 : decode cX4_launch 14 = .ok (.if_icmp .le 13, 3) := by decide +kernel
theorem dX4_launch_17 : decode cX4_launch 17 = .ok (.new 83, 3) := by decide +kernel
theorem dX4_launch_20 : decode cX4_launch 20 = .ok (.dup, 1) := by decide +kernel
theorem dX4_launch_21 : decode cX4_launch 21 = .ok (.ldc 170, 2) := by decide +kernel
theorem dX4_launch_23 : decode cX4_launch 23 = .ok (.invokespecial 87, 3) := by decide +kernel
theorem dX4_launch_26 : decode cX4_launch 26 = .ok (.athrow, 1) := by decide +kernel
theorem dX4_launch_27 : decode cX4_launch 27 = .ok (.iload_n 3, 1) := by decide +kernel
theorem dX4_launch_28 : decode cX4_launch 28 = .ok (.ifCond .lt 9, 3) := by decide +kernel
theorem dX4_launch_31 : decode cX4_launch 31 = .ok (.iload_n 3, 1) := by decide +kernel
theorem dX4_launch_32 : decode cX4_launch 32 = .ok (.bipush 20, 2) := by decide +kernel
theorem dX4_launch_34 : decode cX4_launch 34 = .ok (.if_icmp .le 13, 3) := by decide +kernel
theorem dX4_launch_37 : decode cX4_launch 37 = .ok (.new 83, 3) := by decide +kernel
theorem dX4_launch_40 : decode cX4_launch 40 = .ok (.dup, 1) := by decide +kernel
theorem dX4_launch_41 : decode cX4_launch 41 = .ok (.ldc 172, 2) := by decide +kernel
theorem dX4_launch_43 : decode cX4_launch 43 = .ok (.invokespecial 87, 3) := by decide +kernel
theorem dX4_launch_46 : decode cX4_launch 46 = .ok (.athrow, 1) := by decide +kernel
theorem dX4_launch_47 : decode cX4_launch 47 = .ok (.aload_n 0, 1) := by decide +kernel
theorem dX4_launch_48 : decode cX4_launch 48 = .ok (.getfield 19, 3) := by decide +kernel
theorem dX4_launch_51 : decode cX4_launch 51 = .ok (.getfield 174, 3) := by decide +kernel
theorem dX4_launch_54 : decode cX4_launch 54 = .ok (.bipush 16, 2) := by decide +kernel
theorem dX4_launch_56 : decode cX4_launch 56 = .ok (.if_icmp .lt 13, 3) := by decide +kernel
theorem dX4_launch_59 : decode cX4_launch 59 = .ok (.new 65, 3) := by decide +kernel
theorem dX4_launch_62 : decode cX4_launch 62 = .ok (.dup, 1) := by decide +kernel
theorem dX4_launch_63 : decode cX4_launch 63 = .ok (.ldc 175, 2) := by decide +kernel
theorem dX4_launch_65 : decode cX4_launch 65 = .ok (.invokespecial 69, 3) := by decide +kernel
theorem dX4_launch_68 : decode cX4_launch 68 = .ok (.athrow, 1) := by decide +kernel
theorem dX4_launch_69 : decode cX4_launch 69 = .ok (.aload_n 0, 1) := by decide +kernel
theorem dX4_launch_70 : decode cX4_launch 70 = .ok (.getfield 19, 3) := by decide +kernel
theorem dX4_launch_73 : decode cX4_launch 73 = .ok (.iload_n 1, 1) := by decide +kernel
theorem dX4_launch_74 : decode cX4_launch 74 = .ok (.iload_n 2, 1) := by decide +kernel
theorem dX4_launch_75 : decode cX4_launch 75 = .ok (.iload_n 3, 1) := by decide +kernel
theorem dX4_launch_76 : decode cX4_launch 76 = .ok (.iload 4, 2) := by decide +kernel
theorem dX4_launch_78 : decode cX4_launch 78 = .ok (.aload_n 0, 1) := by decide +kernel
theorem dX4_launch_79 : decode cX4_launch 79 = .ok (.getfield 45, 3) := by decide +kernel
theorem dX4_launch_82 : decode cX4_launch 82 = .ok (.invokevirtual 177, 3) := by decide +kernel
theorem dX4_launch_85 : decode cX4_launch 85 = .ok (.ireturn, 1) := by decide +kernel
set_option maxRecDepth 20000 in
theorem ggX4_register_X4_checkSatellite : GoodIn wsX4_register wsX4_checkSatellite := goodIn_ca (goodIn_r _ [9, 10, 11, 3, 12, 26, 27, 28, 29, 30, 31, 32, 33, 34, 35, 36, 37, 38, 39, 40] (by decide +kernel) (by decide +kernel)) (goodIn_sub (fun _ h => List.mem_cons_of_mem _ (List.mem_append_right _ h)) (by decide +kernel))
set_option maxRecDepth 20000 in
theorem gX4_register_X4_checkSatellite : GoodIn wsX4_register (wsV RX4 141 RX4 yX4_checkSatellite wsX4_checkSatellite) := goodIn_app (goodIn_of _ (by decide +kernel)) ggX4_register_X4_checkSatellite
set_option maxRecDepth 20000 in
theorem ggX4_register_X4_checkLand : GoodIn wsX4_register wsX4_checkLand := goodIn_ca (goodIn_r _ [16, 10, 11] (by decide +kernel) (by decide +kernel)) (goodIn_sub (fun _ h => List.mem_cons_of_mem _ (List.mem_append_right _ h)) (by decide +kernel))
set_option maxRecDepth 20000 in
theorem gX4_register_X4_checkLand : GoodIn wsX4_register (wsV RX4 49 RX4 yX4_checkLand wsX4_checkLand) := goodIn_app (goodIn_of _ (by decide +kernel)) ggX4_register_X4_checkLand
set_option maxRecDepth 20000 in
theorem ggX4_register_X3_isLaunchedBy : GoodIn wsX4_register wsX3_isLaunchedBy := goodIn_r _ [21, 22, 23, 24, 20, 25, 33, 34, 35, 36, 37, 38, 39, 40] (by decide +kernel) (by decide +kernel)
set_option maxRecDepth 20000 in
theorem gX4_register_X3_isLaunchedBy : GoodIn wsX4_register (wsV RX4 180 RX3 yX3_isLaunchedBy wsX3_isLaunchedBy) := goodIn_app (goodIn_of _ (by decide +kernel)) ggX4_register_X3_isLaunchedBy
theorem dX4_register_0 : decode cX4_register 0 = .ok (.aload_n 0, 1) := by decide +kernel
theorem dX4_register_1 : decode cX4_register 1 = .ok (.iload_n 1, 1) := by decide +kernel
theorem dX4_register_2 : decode cX4_register 2 = .ok (.invokevirtual 141, 3) := by decide +kernel
theorem dX4_register_5 : decode cX4_register 5 = .ok (.aload_n 0, 1) := by decide +kernel
theorem dX4_register_6 : decode cX4_register 6 = .ok (.iload_n 2, 1) := by decide +kernel
theorem dX4_register_7 : decode cX4_register 7 = .ok (.invokevirtual 49, 3) := by decide +kernel
theorem dX4_register_10 : decode cX4_register 10 = .ok (.aload_n 0, 1) := by decide +kernel
theorem dX4_register_11 : decode cX4_register 11 = .ok (.getfield 19, 3) := by decide +kernel
theorem dX4_register_14 : decode cX4_register 14 = .ok (.iload_n 1, 1) := by decide +kernel
theorem dX4_register_15 : decode cX4_register 15 = .ok (.iload_n 2, 1) := by decide +kernel
theorem dX4_register_16 : decode cX4_register 16 = .ok (.invokevirtual 180, 3) := by decide +kernel
theorem dX4_register_19 : decode cX4_register 19 = .ok (.ifCond .ne 13, 3) := by decide +kernel
theorem dX4_register_22 : decode cX4_register 22 = .ok (.new 65, 3) := by decide +kernel
theorem dX4_register_25 : decode cX4_register 25 = .ok (.dup, 1) := by decide +kernel
theorem dX4_register_26 : decode cX4_register 26 = .ok (.ldc 183, 2) := by decide +kernel
theorem dX4_register_28 : decode cX4_register 28 = .ok (.invokespecial 69, 3) := by decide +kernel
theorem dX4_register_31 : decode cX4_register 31 = .ok (.athrow, 1) := by decide +kernel
theorem dX4_register_32 : decode cX4_register 32 = .ok (.aload_n 0, 1) := by decide +kernel
theorem dX4_register_33 : decode cX4_register 33 = .ok (.getfield 19, 3) := by decide +kernel
theorem dX4_register_36 : decode cX4_register 36 = .ok (.getfield 185, 3) := by decide +kernel
theorem dX4_register_39 : decode cX4_register 39 = .ok (.iload_n 1, 1) := by decide +kernel
theorem dX4_register_40 : decode cX4_register 40 = .ok (.iaload, 1) := by decide +kernel
theorem dX4_register_41 : decode cX4_register 41 = .ok (.istore_n 3, 1) := by decide +kernel
theorem dX4_register_42 : decode cX4_register 42 = .ok (.aload_n 0, 1) := by decide +kernel
theorem dX4_register_43 : decode cX4_register 43 = .ok (.getfield 19, 3) := by decide +kernel
theorem dX4_register_46 : decode cX4_register 46 = .ok (.getfield 185, 3) := by decide +kernel
theorem dX4_register_49 : decode cX4_register 49 = .ok (.iload_n 1, 1) := by decide +kernel
theorem dX4_register_50 : decode cX4_register 50 = .ok (.iload_n 2, 1) := by decide +kernel
theorem dX4_register_51 : decode cX4_register 51 = .ok (.iastore, 1) := by decide +kernel
theorem dX4_register_52 : decode cX4_register 52 = .ok (.iload_n 3, 1) := by decide +kernel
theorem dX4_register_53 : decode cX4_register 53 = .ok (.ireturn, 1) := by decide +kernel
set_option maxRecDepth 20000 in
theorem ggX4_move_X4_checkSatellite : GoodIn wsX4_move wsX4_checkSatellite := goodIn_ca (goodIn_r _ [12, 13, 14, 3, 15, 58, 59, 60, 61, 62, 63, 64, 65, 66, 67, 68, 69, 70, 71, 72] (by decide +kernel) (by decide +kernel)) (goodIn_sub (fun _ h => List.mem_cons_of_mem _ (List.mem_append_right _ h)) (by decide +kernel))
set_option maxRecDepth 20000 in
theorem gX4_move_X4_checkSatellite : GoodIn wsX4_move (wsV RX4 141 RX4 yX4_checkSatellite wsX4_checkSatellite) := goodIn_app (goodIn_of _ (by decide +kernel)) ggX4_move_X4_checkSatellite
set_option maxRecDepth 20000 in
theorem ggX4_move_X4_checkSlot : GoodIn wsX4_move wsX4_checkSlot := goodIn_ca (goodIn_r _ [19, 13, 14] (by decide +kernel) (by decide +kernel)) (goodIn_sub (fun _ h => List.mem_cons_of_mem _ (List.mem_append_right _ h)) (by decide +kernel))
set_option maxRecDepth 20000 in
theorem gX4_move_X4_checkSlot : GoodIn wsX4_move (wsV RX4 53 RX4 yX4_checkSlot wsX4_checkSlot) := goodIn_app (goodIn_of _ (by decide +kernel)) ggX4_move_X4_checkSlot
set_option maxRecDepth 20000 in
theorem ggX4_move_X4_checkActive : GoodIn wsX4_move wsX4_checkActive := goodIn_ca (goodIn_r _ [23, 1, 2, 3, 24, 58, 59, 60, 61, 62, 63, 64, 65, 66, 67, 68, 69, 70, 71, 72] (by decide +kernel) (by decide +kernel)) (goodIn_sub (fun _ h => List.mem_cons_of_mem _ (List.mem_append_left _ (List.mem_append_right _ h))) (by decide +kernel))
set_option maxRecDepth 20000 in
theorem gX4_move_X4_checkActive : GoodIn wsX4_move (wsV RX4 146 RX4 yX4_checkActive wsX4_checkActive) := goodIn_app (goodIn_of _ (by decide +kernel)) ggX4_move_X4_checkActive
set_option maxRecDepth 20000 in
theorem ggX4_move_X4_checkFuel : GoodIn wsX4_move wsX4_checkFuel := goodIn_ca (goodIn_r _ [28, 1, 2, 3, 5, 58, 59, 60, 61, 62, 63, 64, 65, 66, 67, 68, 69, 70, 71, 72] (by decide +kernel) (by decide +kernel)) (goodIn_sub (fun _ h => List.mem_cons_of_mem _ (List.mem_append_left _ (List.mem_append_right _ h))) (by decide +kernel))
set_option maxRecDepth 20000 in
theorem gX4_move_X4_checkFuel : GoodIn wsX4_move (wsV RX4 188 RX4 yX4_checkFuel wsX4_checkFuel) := goodIn_app (goodIn_of _ (by decide +kernel)) ggX4_move_X4_checkFuel
set_option maxRecDepth 20000 in
theorem ggX4_move_X4_depart : GoodIn wsX4_move wsX4_depart := goodIn_r _ [32, 33, 7, 34, 35, 36, 37, 38, 39, 40, 41, 42, 43, 44, 45, 46, 47, 48, 49, 50, 51, 52, 53, 54, 55, 56, 57, 58, 59, 60, 61, 62, 63, 64, 73, 74, 75, 76, 77, 78, 79, 80, 81, 82, 83, 84, 85, 86, 87, 88, 89, 90] (by decide +kernel) (by decide +kernel)
set_option maxRecDepth 20000 in
theorem gX4_move_X4_depart : GoodIn wsX4_move (wsV RX4 196 RX4 yX4_depart wsX4_depart) := goodIn_app (goodIn_of _ (by decide +kernel)) ggX4_move_X4_depart
theorem dX4_move_0 : decode cX4_move 0 = .ok (.aload_n 0, 1) := by decide +kernel
theorem dX4_move_1 : decode cX4_move 1 = .ok (.iload_n 1, 1) := by decide +kernel
theorem dX4_move_2 : decode cX4_move 2 = .ok (.invokevirtual 141, 3) := by decide +kernel
theorem dX4_move_5 : decode cX4_move 5 = .ok (.aload_n 0, 1) := by decide +kernel
theorem dX4_move_6 : decode cX4_move 6 = .ok (.iload_n 2, 1) := by decide +kernel
theorem dX4_move_7 : decode cX4_move 7 = .ok (.invokevirtual 53, 3) := by decide +kernel
theorem dX4_move_10 : decode cX4_move 10 = .ok (.aload_n 0, 1) := by decide +kernel
theorem dX4_move_11 : decode cX4_move 11 = .ok (.iload_n 1, 1) := by decide +kernel
theorem dX4_move_12 : decode cX4_move 12 = .ok (.invokevirtual 146, 3) := by decide +kernel
theorem dX4_move_15 : decode cX4_move 15 = .ok (.aload_n 0, 1) := by decide +kernel
theorem dX4_move_16 : decode cX4_move 16 = .ok (.iload_n 1, 1) := by decide +kernel
theorem dX4_move_17 : decode cX4_move 17 = .ok (.iconst 1, 1) := by decide +kernel
theorem dX4_move_18 : decode cX4_move 18 = .ok (.invokevirtual 188, 3) := by decide +kernel
theorem dX4_move_21 : decode cX4_move 21 = .ok (.aload_n 0, 1) := by decide +kernel
theorem dX4_move_22 : decode cX4_move 22 = .ok (.getfield 19, 3) := by decide +kernel
theorem dX4_move_25 : decode cX4_move 25 = .ok (.getfield 149, 3) := by decide +kernel
theorem dX4_move_28 : decode cX4_move 28 = .ok (.iload_n 1, 1) := by decide +kernel
theorem dX4_move_29 : decode cX4_move 29 = .ok (.iaload, 1) := by decide +kernel
theorem dX4_move_30 : decode cX4_move 30 = .ok (.iload_n 2, 1) := by decide +kernel
theorem dX4_move_31 : decode cX4_move 31 = .ok (.if_icmp .ne 13, 3) := by decide +kernel
theorem dX4_move_34 : decode cX4_move 34 = .ok (.new 65, 3) := by decide +kernel
theorem dX4_move_37 : decode cX4_move 37 = .ok (.dup, 1) := by decide +kernel
theorem dX4_move_38 : decode cX4_move 38 = .ok (.ldc 191, 2) := by decide +kernel
theorem dX4_move_40 : decode cX4_move 40 = .ok (.invokespecial 69, 3) := by decide +kernel
theorem dX4_move_43 : decode cX4_move 43 = .ok (.athrow, 1) := by decide +kernel
theorem dX4_move_44 : decode cX4_move 44 = .ok (.aload_n 0, 1) := by decide +kernel
theorem dX4_move_45 : decode cX4_move 45 = .ok (.getfield 19, 3) := by decide +kernel
theorem dX4_move_48 : decode cX4_move 48 = .ok (.getfield 193, 3) := by decide +kernel
theorem dX4_move_51 : decode cX4_move 51 = .ok (.iload_n 1, 1) := by decide +kernel
theorem dX4_move_52 : decode cX4_move 52 = .ok (.dup2, 1) := by decide +kernel
theorem dX4_move_53 : decode cX4_move 53 = .ok (.iaload, 1) := by decide +kernel
theorem dX4_move_54 : decode cX4_move 54 = .ok (.iconst 1, 1) := by decide +kernel
theorem dX4_move_55 : decode cX4_move 55 = .ok (.isub, 1) := by decide +kernel
theorem dX4_move_56 : decode cX4_move 56 = .ok (.iastore, 1) := by decide +kernel
theorem dX4_move_57 : decode cX4_move 57 = .ok (.aload_n 0, 1) := by decide +kernel
theorem dX4_move_58 : decode cX4_move 58 = .ok (.getfield 19, 3) := by decide +kernel
theorem dX4_move_61 : decode cX4_move 61 = .ok (.getfield 149, 3) := by decide +kernel
theorem dX4_move_64 : decode cX4_move 64 = .ok (.iload_n 1, 1) := by decide +kernel
theorem dX4_move_65 : decode cX4_move 65 = .ok (.iload_n 2, 1) := by decide +kernel
theorem dX4_move_66 : decode cX4_move 66 = .ok (.iastore, 1) := by decide +kernel
theorem dX4_move_67 : decode cX4_move 67 = .ok (.aload_n 0, 1) := by decide +kernel
theorem dX4_move_68 : decode cX4_move 68 = .ok (.getfield 19, 3) := by decide +kernel
theorem dX4_move_71 : decode cX4_move 71 = .ok (.getfield 152, 3) := by decide +kernel
theorem dX4_move_74 : decode cX4_move 74 = .ok (.iload_n 1, 1) := by decide +kernel
theorem dX4_move_75 : decode cX4_move 75 = .ok (.aload_n 0, 1) := by decide +kernel
theorem dX4_move_76 : decode cX4_move 76 = .ok (.getfield 45, 3) := by decide +kernel
theorem dX4_move_79 : decode cX4_move 79 = .ok (.iastore, 1) := by decide +kernel
theorem dX4_move_80 : decode cX4_move 80 = .ok (.aload_n 0, 1) := by decide +kernel
theorem dX4_move_81 : decode cX4_move 81 = .ok (.iload_n 1, 1) := by decide +kernel
theorem dX4_move_82 : decode cX4_move 82 = .ok (.invokevirtual 196, 3) := by decide +kernel
theorem dX4_move_85 : decode cX4_move 85 = .ok (.ireturn, 1) := by decide +kernel
set_option maxRecDepth 20000 in
theorem ggX4_bury_X4_checkSatellite : GoodIn wsX4_bury wsX4_checkSatellite := goodIn_ca (goodIn_r _ [9, 10, 11, 1, 12, 53, 54, 55, 56, 57, 58, 59, 60, 61, 62, 63, 64, 65, 66, 67] (by decide +kernel) (by decide +kernel)) (goodIn_sub (fun _ h => List.mem_cons_of_mem _ (List.mem_append_left _ (List.mem_append_right _ h))) (by decide +kernel))
set_option maxRecDepth 20000 in
theorem gX4_bury_X4_checkSatellite : GoodIn wsX4_bury (wsV RX4 141 RX4 yX4_checkSatellite wsX4_checkSatellite) := goodIn_app (goodIn_of _ (by decide +kernel)) ggX4_bury_X4_checkSatellite
set_option maxRecDepth 20000 in
theorem ggX4_bury_X4_checkActive : GoodIn wsX4_bury wsX4_checkActive := goodIn_ca (goodIn_r _ [16, 17, 18, 1, 3, 53, 54, 55, 56, 57, 58, 59, 60, 61, 62, 63, 64, 65, 66, 67] (by decide +kernel) (by decide +kernel)) (goodIn_sub (fun _ h => List.mem_cons_of_mem _ (List.mem_append_right _ h)) (by decide +kernel))
set_option maxRecDepth 20000 in
theorem gX4_bury_X4_checkActive : GoodIn wsX4_bury (wsV RX4 146 RX4 yX4_checkActive wsX4_checkActive) := goodIn_app (goodIn_of _ (by decide +kernel)) ggX4_bury_X4_checkActive
set_option maxRecDepth 20000 in
theorem ggX4_bury_X4_checkFuel : GoodIn wsX4_bury wsX4_checkFuel := goodIn_ca (goodIn_r _ [22, 17, 18, 1, 2, 53, 54, 55, 56, 57, 58, 59, 60, 61, 62, 63, 64, 65, 66, 67] (by decide +kernel) (by decide +kernel)) (goodIn_sub (fun _ h => List.mem_cons_of_mem _ (List.mem_append_right _ h)) (by decide +kernel))
set_option maxRecDepth 20000 in
theorem gX4_bury_X4_checkFuel : GoodIn wsX4_bury (wsV RX4 188 RX4 yX4_checkFuel wsX4_checkFuel) := goodIn_app (goodIn_of _ (by decide +kernel)) ggX4_bury_X4_checkFuel
set_option maxRecDepth 20000 in
theorem ggX4_bury_X4_depart : GoodIn wsX4_bury wsX4_depart := goodIn_r _ [26, 27, 28, 29, 30, 31, 32, 33, 34, 35, 36, 37, 38, 39, 40, 41, 42, 43, 44, 45, 46, 47, 48, 49, 50, 51, 52, 53, 54, 55, 56, 57, 58, 59, 68, 69, 70, 71, 72, 73, 74, 75, 76, 77, 78, 79, 80, 81, 82, 83, 84, 85] (by decide +kernel) (by decide +kernel)
set_option maxRecDepth 20000 in
theorem gX4_bury_X4_depart : GoodIn wsX4_bury (wsV RX4 196 RX4 yX4_depart wsX4_depart) := goodIn_app (goodIn_of _ (by decide +kernel)) ggX4_bury_X4_depart
theorem dX4_bury_0 : decode cX4_bury 0 = .ok (.aload_n 0, 1) := by decide +kernel
theorem dX4_bury_1 : decode cX4_bury 1 = .ok (.iload_n 1, 1) := by decide +kernel
theorem dX4_bury_2 : decode cX4_bury 2 = .ok (.invokevirtual 141, 3) := by decide +kernel
theorem dX4_bury_5 : decode cX4_bury 5 = .ok (.aload_n 0, 1) := by decide +kernel
theorem dX4_bury_6 : decode cX4_bury 6 = .ok (.iload_n 1, 1) := by decide +kernel
theorem dX4_bury_7 : decode cX4_bury 7 = .ok (.invokevirtual 146, 3) := by decide +kernel
theorem dX4_bury_10 : decode cX4_bury 10 = .ok (.aload_n 0, 1) := by decide +kernel
theorem dX4_bury_11 : decode cX4_bury 11 = .ok (.iload_n 1, 1) := by decide +kernel
theorem dX4_bury_12 : decode cX4_bury 12 = .ok (.iconst 2, 1) := by decide +kernel
theorem dX4_bury_13 : decode cX4_bury 13 = .ok (.invokevirtual 188, 3) := by decide +kernel
theorem dX4_bury_16 : decode cX4_bury 16 = .ok (.aload_n 0, 1) := by decide +kernel
theorem dX4_bury_17 : decode cX4_bury 17 = .ok (.getfield 19, 3) := by decide +kernel
theorem dX4_bury_20 : decode cX4_bury 20 = .ok (.getfield 193, 3) := by decide +kernel
theorem dX4_bury_23 : decode cX4_bury 23 = .ok (.iload_n 1, 1) := by decide +kernel
theorem dX4_bury_24 : decode cX4_bury 24 = .ok (.dup2, 1) := by decide +kernel
theorem dX4_bury_25 : decode cX4_bury 25 = .ok (.iaload, 1) := by decide +kernel
theorem dX4_bury_26 : decode cX4_bury 26 = .ok (.iconst 2, 1) := by decide +kernel
theorem dX4_bury_27 : decode cX4_bury 27 = .ok (.isub, 1) := by decide +kernel
theorem dX4_bury_28 : decode cX4_bury 28 = .ok (.iastore, 1) := by decide +kernel
theorem dX4_bury_29 : decode cX4_bury 29 = .ok (.aload_n 0, 1) := by decide +kernel
theorem dX4_bury_30 : decode cX4_bury 30 = .ok (.getfield 19, 3) := by decide +kernel
theorem dX4_bury_33 : decode cX4_bury 33 = .ok (.getfield 199, 3) := by decide +kernel
theorem dX4_bury_36 : decode cX4_bury 36 = .ok (.iload_n 1, 1) := by decide +kernel
theorem dX4_bury_37 : decode cX4_bury 37 = .ok (.iconst 1, 1) := by decide +kernel
theorem dX4_bury_38 : decode cX4_bury 38 = .ok (.iastore, 1) := by decide +kernel
theorem dX4_bury_39 : decode cX4_bury 39 = .ok (.aload_n 0, 1) := by decide +kernel
theorem dX4_bury_40 : decode cX4_bury 40 = .ok (.getfield 19, 3) := by decide +kernel
theorem dX4_bury_43 : decode cX4_bury 43 = .ok (.getfield 149, 3) := by decide +kernel
theorem dX4_bury_46 : decode cX4_bury 46 = .ok (.iload_n 1, 1) := by decide +kernel
theorem dX4_bury_47 : decode cX4_bury 47 = .ok (.iconst (-1), 1) := by decide +kernel
theorem dX4_bury_48 : decode cX4_bury 48 = .ok (.iastore, 1) := by decide +kernel
theorem dX4_bury_49 : decode cX4_bury 49 = .ok (.aload_n 0, 1) := by decide +kernel
theorem dX4_bury_50 : decode cX4_bury 50 = .ok (.iload_n 1, 1) := by decide +kernel
theorem dX4_bury_51 : decode cX4_bury 51 = .ok (.invokevirtual 196, 3) := by decide +kernel
theorem dX4_bury_54 : decode cX4_bury 54 = .ok (.ireturn, 1) := by decide +kernel
set_option maxRecDepth 20000 in
theorem ggX4_die_X4_checkSatellite : GoodIn wsX4_die wsX4_checkSatellite := goodIn_ca (goodIn_r _ [7, 8, 9, 1, 10, 47, 48, 49, 50, 51, 52, 53, 54, 55, 56, 57, 58, 59, 60, 61] (by decide +kernel) (by decide +kernel)) (goodIn_sub (fun _ h => List.mem_cons_of_mem _ (List.mem_append_left _ (List.mem_append_right _ h))) (by decide +kernel))
set_option maxRecDepth 20000 in
theorem gX4_die_X4_checkSatellite : GoodIn wsX4_die (wsV RX4 141 RX4 yX4_checkSatellite wsX4_checkSatellite) := goodIn_app (goodIn_of _ (by decide +kernel)) ggX4_die_X4_checkSatellite
set_option maxRecDepth 20000 in
theorem ggX4_die_X4_checkActive : GoodIn wsX4_die wsX4_checkActive := goodIn_ca (goodIn_r _ [14, 15, 16, 1, 2, 47, 48, 49, 50, 51, 52, 53, 54, 55, 56, 57, 58, 59, 60, 61] (by decide +kernel) (by decide +kernel)) (goodIn_sub (fun _ h => List.mem_cons_of_mem _ (List.mem_append_right _ h)) (by decide +kernel))
set_option maxRecDepth 20000 in
theorem gX4_die_X4_checkActive : GoodIn wsX4_die (wsV RX4 146 RX4 yX4_checkActive wsX4_checkActive) := goodIn_app (goodIn_of _ (by decide +kernel)) ggX4_die_X4_checkActive
set_option maxRecDepth 20000 in
theorem ggX4_die_X4_depart : GoodIn wsX4_die wsX4_depart := goodIn_r _ [20, 21, 22, 23, 24, 25, 26, 27, 28, 29, 30, 31, 32, 33, 34, 35, 36, 37, 38, 39, 40, 41, 42, 43, 44, 45, 46, 47, 48, 49, 50, 51, 52, 53, 62, 63, 64, 65, 66, 67, 68, 69, 70, 71, 72, 73, 74, 75, 76, 77, 78, 79] (by decide +kernel) (by decide +kernel)
set_option maxRecDepth 20000 in
theorem gX4_die_X4_depart : GoodIn wsX4_die (wsV RX4 196 RX4 yX4_depart wsX4_depart) := goodIn_app (goodIn_of _ (by decide +kernel)) ggX4_die_X4_depart
theorem dX4_die_0 : decode cX4_die 0 = .ok (.aload_n 0, 1) := by decide +kernel
theorem dX4_die_1 : decode cX4_die 1 = .ok (.iload_n 1, 1) := by decide +kernel
theorem dX4_die_2 : decode cX4_die 2 = .ok (.invokevirtual 141, 3) := by decide +kernel
theorem dX4_die_5 : decode cX4_die 5 = .ok (.aload_n 0, 1) := by decide +kernel
theorem dX4_die_6 : decode cX4_die 6 = .ok (.iload_n 1, 1) := by decide +kernel
theorem dX4_die_7 : decode cX4_die 7 = .ok (.invokevirtual 146, 3) := by decide +kernel
theorem dX4_die_10 : decode cX4_die 10 = .ok (.aload_n 0, 1) := by decide +kernel
theorem dX4_die_11 : decode cX4_die 11 = .ok (.getfield 19, 3) := by decide +kernel
theorem dX4_die_14 : decode cX4_die 14 = .ok (.getfield 199, 3) := by decide +kernel
theorem dX4_die_17 : decode cX4_die 17 = .ok (.iload_n 1, 1) := by decide +kernel
theorem dX4_die_18 : decode cX4_die 18 = .ok (.iconst 2, 1) := by decide +kernel
theorem dX4_die_19 : decode cX4_die 19 = .ok (.iastore, 1) := by decide +kernel
theorem dX4_die_20 : decode cX4_die 20 = .ok (.aload_n 0, 1) := by decide +kernel
theorem dX4_die_21 : decode cX4_die 21 = .ok (.iload_n 1, 1) := by decide +kernel
theorem dX4_die_22 : decode cX4_die 22 = .ok (.invokevirtual 196, 3) := by decide +kernel
theorem dX4_die_25 : decode cX4_die 25 = .ok (.ireturn, 1) := by decide +kernel
set_option maxRecDepth 20000 in
theorem ggX4_near_X4_checkSatellite : GoodIn wsX4_near wsX4_checkSatellite := goodIn_ca (goodIn_r _ [12, 13, 14, 5, 15, 67, 68, 69, 70, 71, 72, 73, 74, 75, 76, 77, 78, 79, 80, 81] (by decide +kernel) (by decide +kernel)) (goodIn_sub (fun _ h => List.mem_cons_of_mem _ (List.mem_append_right _ h)) (by decide +kernel))
set_option maxRecDepth 20000 in
theorem gX4_near_X4_checkSatellite : GoodIn wsX4_near (wsV RX4 141 RX4 yX4_checkSatellite wsX4_checkSatellite) := goodIn_app (goodIn_of _ (by decide +kernel)) ggX4_near_X4_checkSatellite
set_option maxRecDepth 20000 in
theorem ggX4_near_X3_canDodge : GoodIn wsX4_near wsX3_canDodge := goodIn_r _ [20, 21, 22, 74, 75, 76, 77, 78, 79, 80, 81] (by decide +kernel) (by decide +kernel)
set_option maxRecDepth 20000 in
theorem gX4_near_X3_canDodge : GoodIn wsX4_near (wsV RX4 206 RX3 yX3_canDodge wsX3_canDodge) := goodIn_app (goodIn_of _ (by decide +kernel)) ggX4_near_X3_canDodge
set_option maxRecDepth 20000 in
theorem ggX4_near_X4_meetAsBothCanDodge : GoodIn wsX4_near wsX4_meetAsBothCanDodge := goodIn_r _ [26, 5, 27, 28, 29, 30, 31, 32, 33, 34, 19, 35, 22, 36, 37, 38, 11, 39, 7, 40, 6, 41, 42, 43, 44, 45, 46, 47, 48, 49, 50, 51, 52, 53, 54, 55, 56, 57, 58, 59, 60, 61, 62, 63, 64, 65, 66, 67, 68, 69, 70, 71, 72, 73, 74, 75, 76, 77, 78, 79, 80, 81, 82, 83, 84, 85, 86, 87, 88, 89, 90, 91, 92, 93, 94, 95, 96, 97, 98, 99] (by decide +kernel) (by decide +kernel)
set_option maxRecDepth 20000 in
theorem gX4_near_X4_meetAsBothCanDodge : GoodIn wsX4_near (wsV RX4 210 RX4 yX4_meetAsBothCanDodge wsX4_meetAsBothCanDodge) := goodIn_app (goodIn_of _ (by decide +kernel)) ggX4_near_X4_meetAsBothCanDodge
set_option maxRecDepth 20000 in
theorem ggX4_near_X3_dodge : GoodIn wsX4_near wsX3_dodge := goodIn_r _ [35, 22, 74, 75, 76, 77, 78, 79, 80, 81] (by decide +kernel) (by decide +kernel)
set_option maxRecDepth 20000 in
theorem gX4_near_X3_dodge : GoodIn wsX4_near (wsV RX4 213 RX3 yX3_dodge wsX3_dodge) := goodIn_app (goodIn_of _ (by decide +kernel)) ggX4_near_X3_dodge
set_option maxRecDepth 20000 in
theorem ggX4_near_X4_collide : GoodIn wsX4_near wsX4_collide := goodIn_r _ [39, 5, 7, 40, 6, 41, 42, 43, 44, 45, 46, 47, 48, 49, 50, 51, 52, 53, 54, 55, 56, 57, 58, 59, 60, 61, 62, 63, 64, 65, 66, 67, 68, 69, 70, 71, 72, 73, 74, 75, 76, 77, 78, 79, 80, 81, 82, 83, 84, 85, 86, 87, 88, 89, 90, 91, 92, 93, 94, 95, 96, 97, 98, 99] (by decide +kernel) (by decide +kernel)
set_option maxRecDepth 20000 in
theorem gX4_near_X4_collide : GoodIn wsX4_near (wsV RX4 216 RX4 yX4_collide wsX4_collide) := goodIn_app (goodIn_of _ (by decide +kernel)) ggX4_near_X4_collide
theorem dX4_near_0 : decode cX4_near 0 = .ok (.aload_n 0, 1) := by decide +kernel
theorem dX4_near_1 : decode cX4_near 1 = .ok (.iload_n 1, 1) := by decide +kernel
theorem dX4_near_2 : decode cX4_near 2 = .ok (.invokevirtual 141, 3) := by decide +kernel
theorem dX4_near_5 : decode cX4_near 5 = .ok (.aload_n 0, 1) := by decide +kernel
theorem dX4_near_6 : decode cX4_near 6 = .ok (.iload_n 2, 1) := by decide +kernel
theorem dX4_near_7 : decode cX4_near 7 = .ok (.invokevirtual 141, 3) := by decide +kernel
theorem dX4_near_10 : decode cX4_near 10 = .ok (.iload_n 1, 1) := by decide +kernel
theorem dX4_near_11 : decode cX4_near 11 = .ok (.iload_n 2, 1) := by decide +kernel
theorem dX4_near_12 : decode cX4_near 12 = .ok (.if_icmp .ne 13, 3) := by decide +kernel
theorem dX4_near_15 : decode cX4_near 15 = .ok (.new 83, 3) := by decide +kernel
theorem dX4_near_18 : decode cX4_near 18 = .ok (.dup, 1) := by decide +kernel
theorem dX4_near_19 : decode cX4_near 19 = .ok (.ldc 200, 2) := by decide +kernel
theorem dX4_near_21 : decode cX4_near 21 = .ok (.invokespecial 87, 3) := by decide +kernel
theorem dX4_near_24 : decode cX4_near 24 = .ok (.athrow, 1) := by decide +kernel
theorem dX4_near_25 : decode cX4_near 25 = .ok (.aload_n 0, 1) := by decide +kernel
theorem dX4_near_26 : decode cX4_near 26 = .ok (.getfield 19, 3) := by decide +kernel
theorem dX4_near_29 : decode cX4_near 29 = .ok (.getfield 199, 3) := by decide +kernel
theorem dX4_near_32 : decode cX4_near 32 = .ok (.iload_n 1, 1) := by decide +kernel
theorem dX4_near_33 : decode cX4_near 33 = .ok (.iaload, 1) := by decide +kernel
theorem dX4_near_34 : decode cX4_near 34 = .ok (.iconst 1, 1) := by decide +kernel
theorem dX4_near_35 : decode cX4_near 35 = .ok (.if_icmp .eq 16, 3) := by decide +kernel
theorem dX4_near_38 : decode cX4_near 38 = .ok (.aload_n 0, 1) := by decide +kernel
theorem dX4_near_39 : decode cX4_near 39 = .ok (.getfield 19, 3) := by decide +kernel
theorem dX4_near_42 : decode cX4_near 42 = .ok (.getfield 199, 3) := by decide +kernel
theorem dX4_near_45 : decode cX4_near 45 = .ok (.iload_n 2, 1) := by decide +kernel
theorem dX4_near_46 : decode cX4_near 46 = .ok (.iaload, 1) := by decide +kernel
theorem dX4_near_47 : decode cX4_near 47 = .ok (.iconst 1, 1) := by decide +kernel
theorem dX4_near_48 : decode cX4_near 48 = .ok (.if_icmp .ne 13, 3) := by decide +kernel
theorem dX4_near_51 : decode cX4_near 51 = .ok (.new 65, 3) := by decide +kernel
theorem dX4_near_54 : decode cX4_near 54 = .ok (.dup, 1) := by decide +kernel
theorem dX4_near_55 : decode cX4_near 55 = .ok (.ldc 202, 2) := by decide +kernel
theorem dX4_near_57 : decode cX4_near 57 = .ok (.invokespecial 69, 3) := by decide +kernel
theorem dX4_near_60 : decode cX4_near 60 = .ok (.athrow, 1) := by decide +kernel
theorem dX4_near_61 : decode cX4_near 61 = .ok (.aload_n 0, 1) := by decide +kernel
theorem dX4_near_62 : decode cX4_near 62 = .ok (.getfield 19, 3) := by decide +kernel
theorem dX4_near_65 : decode cX4_near 65 = .ok (.getfield 149, 3) := by decide +kernel
theorem dX4_near_68 : decode cX4_near 68 = .ok (.iload_n 1, 1) := by decide +kernel
theorem dX4_near_69 : decode cX4_near 69 = .ok (.iaload, 1) := by decide +kernel
theorem dX4_near_70 : decode cX4_near 70 = .ok (.aload_n 0, 1) := by decide +kernel
theorem dX4_near_71 : decode cX4_near 71 = .ok (.getfield 19, 3) := by decide +kernel
theorem dX4_near_74 : decode cX4_near 74 = .ok (.getfield 149, 3) := by decide +kernel
theorem dX4_near_77 : decode cX4_near 77 = .ok (.iload_n 2, 1) := by decide +kernel
theorem dX4_near_78 : decode cX4_near 78 = .ok (.iaload, 1) := by decide +kernel
theorem dX4_near_79 : decode cX4_near 79 = .ok (.if_icmp .eq 13, 3) := by decide +kernel
theorem dX4_near_82 : decode cX4_near 82 = .ok (.new 65, 3) := by decide +kernel
theorem dX4_near_85 : decode cX4_near 85 = .ok (.dup, 1) := by decide +kernel
theorem dX4_near_86 : decode cX4_near 86 = .ok (.ldc 204, 2) := by decide +kernel
theorem dX4_near_88 : decode cX4_near 88 = .ok (.invokespecial 69, 3) := by decide +kernel
theorem dX4_near_91 : decode cX4_near 91 = .ok (.athrow, 1) := by decide +kernel
theorem dX4_near_92 : decode cX4_near 92 = .ok (.aload_n 0, 1) := by decide +kernel
theorem dX4_near_93 : decode cX4_near 93 = .ok (.getfield 19, 3) := by decide +kernel
theorem dX4_near_96 : decode cX4_near 96 = .ok (.iload_n 1, 1) := by decide +kernel
theorem dX4_near_97 : decode cX4_near 97 = .ok (.invokevirtual 206, 3) := by decide +kernel
theorem dX4_near_100 : decode cX4_near 100 = .ok (.istore_n 3, 1) := by decide +kernel
theorem dX4_near_101 : decode cX4_near 101 = .ok (.aload_n 0, 1) := by decide +kernel
theorem dX4_near_102 : decode cX4_near 102 = .ok (.getfield 19, 3) := by decide +kernel
theorem dX4_near_105 : decode cX4_near 105 = .ok (.iload_n 2, 1) := by decide +kernel
theorem dX4_near_106 : decode cX4_near 106 = .ok (.invokevirtual 206, 3) := by decide +kernel
theorem dX4_near_109 : decode cX4_near 109 = .ok (.istore 4, 2) := by decide +kernel
theorem dX4_near_111 : decode cX4_near 111 = .ok (.iload_n 3, 1) := by decide +kernel
theorem dX4_near_112 : decode cX4_near 112 = .ok (.ifCond .eq 15, 3) := by decide +kernel
theorem dX4_near_115 : decode cX4_near 115 = .ok (.iload 4, 2) := by decide +kernel
theorem dX4_near_117 : decode cX4_near 117 = .ok (.ifCond .eq 10, 3) := by decide +kernel
theorem dX4_near_120 : decode cX4_near 120 = .ok (.aload_n 0, 1) := by decide +kernel
theorem dX4_near_121 : decode cX4_near 121 = .ok (.iload_n 1, 1) := by decide +kernel
theorem dX4_near_122 : decode cX4_near 122 = .ok (.iload_n 2, 1) := by decide +kernel
theorem dX4_near_123 : decode cX4_near 123 = .ok (.invokevirtual 210, 3) := by decide +kernel
theorem dX4_near_126 : decode cX4_near 126 = .ok (.ireturn, 1) := by decide +kernel
theorem dX4_near_127 : decode cX4_near 127 = .ok (.iload_n 3, 1) := by decide +kernel
theorem dX4_near_128 : decode cX4_near 128 = .ok (.ifCond .eq 13, 3) := by decide +kernel
theorem dX4_near_131 : decode cX4_near 131 = .ok (.aload_n 0, 1) := by decide +kernel
theorem dX4_near_132 : decode cX4_near 132 = .ok (.getfield 19, 3) := by decide +kernel
theorem dX4_near_135 : decode cX4_near 135 = .ok (.iload_n 1, 1) := by decide +kernel
theorem dX4_near_136 : decode cX4_near 136 = .ok (.invokevirtual 213, 3) := by decide +kernel
theorem dX4_near_139 : decode cX4_near 139 = .ok (.iconst 1, 1) := by decide +kernel
theorem dX4_near_140 : decode cX4_near 140 = .ok (.ireturn, 1) := by decide +kernel
theorem dX4_near_141 : decode cX4_near 141 = .ok (.iload 4, 2) := by decide +kernel
theorem dX4_near_143 : decode cX4_near 143 = .ok (.ifCond .eq 13, 3) := by decide +kernel
theorem dX4_near_146 : decode cX4_near 146 = .ok (.aload_n 0, 1) := by decide +kernel
theorem dX4_near_147 : decode cX4_near 147 = .ok (.getfield 19, 3) := by decide +kernel
theorem dX4_near_150 : decode cX4_near 150 = .ok (.iload_n 2, 1) := by decide +kernel
theorem dX4_near_151 : decode cX4_near 151 = .ok (.invokevirtual 213, 3) := by decide +kernel
theorem dX4_near_154 : decode cX4_near 154 = .ok (.iconst 2, 1) := by decide +kernel
theorem dX4_near_155 : decode cX4_near 155 = .ok (.ireturn, 1) := by decide +kernel
theorem dX4_near_156 : decode cX4_near 156 = .ok (.aload_n 0, 1) := by decide +kernel
theorem dX4_near_157 : decode cX4_near 157 = .ok (.iload_n 1, 1) := by decide +kernel
theorem dX4_near_158 : decode cX4_near 158 = .ok (.iload_n 2, 1) := by decide +kernel
theorem dX4_near_159 : decode cX4_near 159 = .ok (.invokevirtual 216, 3) := by decide +kernel
theorem dX4_near_162 : decode cX4_near 162 = .ok (.iconst 0, 1) := by decide +kernel
theorem dX4_near_163 : decode cX4_near 163 = .ok (.ireturn, 1) := by decide +kernel
set_option maxRecDepth 20000 in
theorem ggX4_claim_X4_checkSatellite : GoodIn wsX4_claim wsX4_checkSatellite := goodIn_ca (goodIn_r _ [11, 12, 13, 4, 14, 31, 32, 33, 34, 35, 36, 37, 38, 39, 40, 41, 42, 43, 44, 45] (by decide +kernel) (by decide +kernel)) (goodIn_sub (fun _ h => List.mem_cons_of_mem _ (List.mem_append_right _ h)) (by decide +kernel))
set_option maxRecDepth 20000 in
theorem gX4_claim_X4_checkSatellite : GoodIn wsX4_claim (wsV RX4 141 RX4 yX4_checkSatellite wsX4_checkSatellite) := goodIn_app (goodIn_of _ (by decide +kernel)) ggX4_claim_X4_checkSatellite
set_option maxRecDepth 20000 in
theorem ggX4_claim_J6_bitCount_0f7a4 : GoodIn wsX4_claim wsJ6_bitCount_0f7a4 := goodIn_r _ [18, 19, 20, 21] (by decide +kernel) (by decide +kernel)
set_option maxRecDepth 20000 in
theorem gX4_claim_J6_bitCount_0f7a4 : GoodIn wsX4_claim (va_wsS RX4 225 yJ6_bitCount_0f7a4 wsJ6_bitCount_0f7a4) := goodIn_app (goodIn_of _ (by decide +kernel)) ggX4_claim_J6_bitCount_0f7a4
set_option maxRecDepth 20000 in
theorem ggX4_claim_X3_isLaunchedBy : GoodIn wsX4_claim wsX3_isLaunchedBy := goodIn_r _ [26, 27, 28, 29, 25, 30, 38, 39, 40, 41, 42, 43, 44, 45] (by decide +kernel) (by decide +kernel)
set_option maxRecDepth 20000 in
theorem gX4_claim_X3_isLaunchedBy : GoodIn wsX4_claim (wsV RX4 180 RX3 yX3_isLaunchedBy wsX3_isLaunchedBy) := goodIn_app (goodIn_of _ (by decide +kernel)) ggX4_claim_X3_isLaunchedBy
theorem dX4_claim_0 : decode cX4_claim 0 = .ok (.aload_n 0, 1) := by decide +kernel
theorem dX4_claim_1 : decode cX4_claim 1 = .ok (.iload_n 1, 1) := by decide +kernel
theorem dX4_claim_2 : decode cX4_claim 2 = .ok (.invokevirtual 141, 3) := by decide +kernel
theorem dX4_claim_5 : decode cX4_claim 5 = .ok (.iload_n 2, 1) := by decide +kernel
theorem dX4_claim_6 : decode cX4_claim 6 = .ok (.iconst 1, 1) := by decide +kernel
theorem dX4_claim_7 : decode cX4_claim 7 = .ok (.if_icmp .lt 9, 3) := by decide +kernel
theorem dX4_claim_10 : decode cX4_claim 10 = .ok (.iload_n 2, 1) := by decide +kernel
theorem dX4_claim_11 : decode cX4_claim 11 = .ok (.ldc 219, 2) := by decide +kernel
theorem dX4_claim_13 : decode cX4_claim 13 = .ok (.if_icmp .le 13, 3) := by decide +kernel
theorem dX4_claim_16 : decode cX4_claim 16 = .ok (.new 83, 3) := by decide +kernel
theorem dX4_claim_19 : decode cX4_claim 19 = .ok (.dup, 1) := by decide +kernel
theorem dX4_claim_20 : decode cX4_claim 20 = .ok (.ldc 220, 2) := by decide +kernel
theorem dX4_claim_22 : decode cX4_claim 22 = .ok (.invokespecial 87, 3) := by decide +kernel
theorem dX4_claim_25 : decode cX4_claim 25 = .ok (.athrow, 1) := by decide +kernel
theorem dX4_claim_26 : decode cX4_claim 26 = .ok (.aload_n 0, 1) := by decide +kernel
theorem dX4_claim_27 : decode cX4_claim 27 = .ok (.getfield 19, 3) := by decide +kernel
theorem dX4_claim_30 : decode cX4_claim 30 = .ok (.getfield 222, 3) := by decide +kernel
theorem dX4_claim_33 : decode cX4_claim 33 = .ok (.iload_n 1, 1) := by decide +kernel
theorem dX4_claim_34 : decode cX4_claim 34 = .ok (.iaload, 1) := by decide +kernel
theorem dX4_claim_35 : decode cX4_claim 35 = .ok (.invokestatic 225, 3) := by decide +kernel
theorem dX4_claim_38 : decode cX4_claim 38 = .ok (.istore 5, 2) := by decide +kernel
theorem dX4_claim_40 : decode cX4_claim 40 = .ok (.iload 5, 2) := by decide +kernel
theorem dX4_claim_42 : decode cX4_claim 42 = .ok (.ifCond .eq 12, 3) := by decide +kernel
theorem dX4_claim_45 : decode cX4_claim 45 = .ok (.iload_n 3, 1) := by decide +kernel
theorem dX4_claim_46 : decode cX4_claim 46 = .ok (.ifCond .ne 10, 3) := by decide +kernel
theorem dX4_claim_49 : decode cX4_claim 49 = .ok (.iload 4, 2) := by decide +kernel
theorem dX4_claim_51 : decode cX4_claim 51 = .ok (.ifCond .ne 5, 3) := by decide +kernel
theorem dX4_claim_54 : decode cX4_claim 54 = .ok (.iconst 0, 1) := by decide +kernel
theorem dX4_claim_55 : decode cX4_claim 55 = .ok (.ireturn, 1) := by decide +kernel
theorem dX4_claim_56 : decode cX4_claim 56 = .ok (.iload_n 2, 1) := by decide +kernel
theorem dX4_claim_57 : decode cX4_claim 57 = .ok (.iload 5, 2) := by decide +kernel
theorem dX4_claim_59 : decode cX4_claim 59 = .ok (.iadd, 1) := by decide +kernel
theorem dX4_claim_60 : decode cX4_claim 60 = .ok (.iconst 1, 1) := by decide +kernel
theorem dX4_claim_61 : decode cX4_claim 61 = .ok (.isub, 1) := by decide +kernel
theorem dX4_claim_62 : decode cX4_claim 62 = .ok (.iload 5, 2) := by decide +kernel
theorem dX4_claim_64 : decode cX4_claim 64 = .ok (.idiv, 1) := by decide +kernel
theorem dX4_claim_65 : decode cX4_claim 65 = .ok (.istore 6, 2) := by decide +kernel
theorem dX4_claim_67 : decode cX4_claim 67 = .ok (.iconst 0, 1) := by decide +kernel
theorem dX4_claim_68 : decode cX4_claim 68 = .ok (.istore 7, 2) := by decide +kernel
theorem dX4_claim_70 : decode cX4_claim 70 = .ok (.iload 7, 2) := by decide +kernel
theorem dX4_claim_72 : decode cX4_claim 72 = .ok (.bipush 8, 2) := by decide +kernel
theorem dX4_claim_74 : decode cX4_claim 74 = .ok (.if_icmp .ge 35, 3) := by decide +kernel
theorem dX4_claim_77 : decode cX4_claim 77 = .ok (.aload_n 0, 1) := by decide +kernel
theorem dX4_claim_78 : decode cX4_claim 78 = .ok (.getfield 19, 3) := by decide +kernel
theorem dX4_claim_81 : decode cX4_claim 81 = .ok (.iload_n 1, 1) := by decide +kernel
theorem dX4_claim_82 : decode cX4_claim 82 = .ok (.iload 7, 2) := by decide +kernel
theorem dX4_claim_84 : decode cX4_claim 84 = .ok (.invokevirtual 180, 3) := by decide +kernel
theorem dX4_claim_87 : decode cX4_claim 87 = .ok (.ifCond .eq 16, 3) := by decide +kernel
theorem dX4_claim_90 : decode cX4_claim 90 = .ok (.aload_n 0, 1) := by decide +kernel
theorem dX4_claim_91 : decode cX4_claim 91 = .ok (.getfield 41, 3) := by decide +kernel
theorem dX4_claim_94 : decode cX4_claim 94 = .ok (.iload 7, 2) := by decide +kernel
theorem dX4_claim_96 : decode cX4_claim 96 = .ok (.dup2, 1) := by decide +kernel
theorem dX4_claim_97 : decode cX4_claim 97 = .ok (.laload, 1) := by decide +kernel
theorem dX4_claim_98 : decode cX4_claim 98 = .ok (.iload 6, 2) := by decide +kernel
theorem dX4_claim_100 : decode cX4_claim 100 = .ok (.i2l, 1) := by decide +kernel
theorem dX4_claim_101 : decode cX4_claim 101 = .ok (.ladd, 1) := by decide +kernel
theorem dX4_claim_102 : decode cX4_claim 102 = .ok (.lastore, 1) := by decide +kernel
theorem dX4_claim_103 : decode cX4_claim 103 = .ok (.iinc 7 1, 3) := by decide +kernel
theorem dX4_claim_106 : decode cX4_claim 106 = .ok (.goto (-36), 3) := by decide +kernel
theorem dX4_claim_109 : decode cX4_claim 109 = .ok (.iload 6, 2) := by decide +kernel
theorem dX4_claim_111 : decode cX4_claim 111 = .ok (.iload 5, 2) := by decide +kernel
theorem dX4_claim_113 : decode cX4_claim 113 = .ok (.imul, 1) := by decide +kernel
theorem dX4_claim_114 : decode cX4_claim 114 = .ok (.ireturn, 1) := by decide +kernel
set_option maxRecDepth 20000 in
theorem ggX4_pass_X4_driftPieces : GoodIn wsX4_pass wsX4_driftPieces := goodIn_r _ [11, 12, 32, 33, 34, 35, 36, 37, 38] (by decide +kernel) (by decide +kernel)
set_option maxRecDepth 20000 in
theorem gX4_pass_X4_driftPieces : GoodIn wsX4_pass (wsV RX4 234 RX4 yX4_driftPieces wsX4_driftPieces) := goodIn_app (goodIn_of _ (by decide +kernel)) ggX4_pass_X4_driftPieces
set_option maxRecDepth 20000 in
theorem ggX4_pass_X1_lapseThoseDue : GoodIn wsX4_pass wsX1_lapseThoseDue := goodIn_r _ [17, 18, 19, 20, 21, 22, 10, 23, 24, 25, 26, 27, 28, 29, 16, 30, 31, 39, 40, 41, 42, 43, 44, 45, 46, 47, 48, 49, 50, 51] (by decide +kernel) (by decide +kernel)
set_option maxRecDepth 20000 in
theorem gX4_pass_X1_lapseThoseDue : GoodIn wsX4_pass (wsV RX4 237 RX1 yX1_lapseThoseDue wsX1_lapseThoseDue) := goodIn_app (goodIn_of _ (by decide +kernel)) ggX4_pass_X1_lapseThoseDue
theorem dX4_pass_0 : decode cX4_pass 0 = .ok (.iload_n 1, 1) := by decide +kernel
theorem dX4_pass_1 : decode cX4_pass 1 = .ok (.iconst 1, 1) := by decide +kernel
theorem dX4_pass_2 : decode cX4_pass 2 = .ok (.if_icmp .lt 10, 3) := by decide +kernel
theorem dX4_pass_5 : decode cX4_pass 5 = .ok (.iload_n 1, 1) := by decide +kernel
theorem dX4_pass_6 : decode cX4_pass 6 = .ok (.sipush 400, 3) := by decide +kernel
theorem dX4_pass_9 : decode cX4_pass 9 = .ok (.if_icmp .le 13, 3) := by decide +kernel
theorem dX4_pass_12 : decode cX4_pass 12 = .ok (.new 83, 3) := by decide +kernel
theorem dX4_pass_15 : decode cX4_pass 15 = .ok (.dup, 1) := by decide +kernel
theorem dX4_pass_16 : decode cX4_pass 16 = .ok (.ldc 230, 2) := by decide +kernel
theorem dX4_pass_18 : decode cX4_pass 18 = .ok (.invokespecial 87, 3) := by decide +kernel
theorem dX4_pass_21 : decode cX4_pass 21 = .ok (.athrow, 1) := by decide +kernel
theorem dX4_pass_22 : decode cX4_pass 22 = .ok (.aload_n 0, 1) := by decide +kernel
theorem dX4_pass_23 : decode cX4_pass 23 = .ok (.getfield 45, 3) := by decide +kernel
theorem dX4_pass_26 : decode cX4_pass 26 = .ok (.iload_n 1, 1) := by decide +kernel
theorem dX4_pass_27 : decode cX4_pass 27 = .ok (.iadd, 1) := by decide +kernel
theorem dX4_pass_28 : decode cX4_pass 28 = .ok (.sipush 5000, 3) := by decide +kernel
theorem dX4_pass_31 : decode cX4_pass 31 = .ok (.if_icmp .le 13, 3) := by decide +kernel
theorem dX4_pass_34 : decode cX4_pass 34 = .ok (.new 65, 3) := by decide +kernel
theorem dX4_pass_37 : decode cX4_pass 37 = .ok (.dup, 1) := by decide +kernel
theorem dX4_pass_38 : decode cX4_pass 38 = .ok (.ldc 232, 2) := by decide +kernel
theorem dX4_pass_40 : decode cX4_pass 40 = .ok (.invokespecial 69, 3) := by decide +kernel
theorem dX4_pass_43 : decode cX4_pass 43 = .ok (.athrow, 1) := by decide +kernel
theorem dX4_pass_44 : decode cX4_pass 44 = .ok (.aload_n 0, 1) := by decide +kernel
theorem dX4_pass_45 : decode cX4_pass 45 = .ok (.getfield 45, 3) := by decide +kernel
theorem dX4_pass_48 : decode cX4_pass 48 = .ok (.bipush 50, 2) := by decide +kernel
theorem dX4_pass_50 : decode cX4_pass 50 = .ok (.idiv, 1) := by decide +kernel
theorem dX4_pass_51 : decode cX4_pass 51 = .ok (.istore_n 2, 1) := by decide +kernel
theorem dX4_pass_52 : decode cX4_pass 52 = .ok (.aload_n 0, 1) := by decide +kernel
theorem dX4_pass_53 : decode cX4_pass 53 = .ok (.dup, 1) := by decide +kernel
theorem dX4_pass_54 : decode cX4_pass 54 = .ok (.getfield 45, 3) := by decide +kernel
theorem dX4_pass_57 : decode cX4_pass 57 = .ok (.iload_n 1, 1) := by decide +kernel
theorem dX4_pass_58 : decode cX4_pass 58 = .ok (.iadd, 1) := by decide +kernel
theorem dX4_pass_59 : decode cX4_pass 59 = .ok (.putfield 45, 3) := by decide +kernel
theorem dX4_pass_62 : decode cX4_pass 62 = .ok (.aload_n 0, 1) := by decide +kernel
theorem dX4_pass_63 : decode cX4_pass 63 = .ok (.getfield 45, 3) := by decide +kernel
theorem dX4_pass_66 : decode cX4_pass 66 = .ok (.bipush 50, 2) := by decide +kernel
theorem dX4_pass_68 : decode cX4_pass 68 = .ok (.idiv, 1) := by decide +kernel
theorem dX4_pass_69 : decode cX4_pass 69 = .ok (.istore_n 3, 1) := by decide +kernel
theorem dX4_pass_70 : decode cX4_pass 70 = .ok (.iload_n 2, 1) := by decide +kernel
theorem dX4_pass_71 : decode cX4_pass 71 = .ok (.istore 4, 2) := by decide +kernel
theorem dX4_pass_73 : decode cX4_pass 73 = .ok (.iload 4, 2) := by decide +kernel
theorem dX4_pass_75 : decode cX4_pass 75 = .ok (.iload_n 3, 1) := by decide +kernel
theorem dX4_pass_76 : decode cX4_pass 76 = .ok (.if_icmp .ge 13, 3) := by decide +kernel
theorem dX4_pass_79 : decode cX4_pass 79 = .ok (.aload_n 0, 1) := by decide +kernel
theorem dX4_pass_80 : decode cX4_pass 80 = .ok (.invokevirtual 234, 3) := by decide +kernel
theorem dX4_pass_83 : decode cX4_pass 83 = .ok (.iinc 4 1, 3) := by decide +kernel
theorem dX4_pass_86 : decode cX4_pass 86 = .ok (.goto (-13), 3) := by decide +kernel
theorem dX4_pass_89 : decode cX4_pass 89 = .ok (.aload_n 0, 1) := by decide +kernel
theorem dX4_pass_90 : decode cX4_pass 90 = .ok (.getfield 10, 3) := by decide +kernel
theorem dX4_pass_93 : decode cX4_pass 93 = .ok (.aload_n 0, 1) := by decide +kernel
theorem dX4_pass_94 : decode cX4_pass 94 = .ok (.getfield 45, 3) := by decide +kernel
theorem dX4_pass_97 : decode cX4_pass 97 = .ok (.invokevirtual 237, 3) := by decide +kernel
theorem dX4_pass_100 : decode cX4_pass 100 = .ok (.aload_n 0, 1) := by decide +kernel
theorem dX4_pass_101 : decode cX4_pass 101 = .ok (.getfield 45, 3) := by decide +kernel
theorem dX4_pass_104 : decode cX4_pass 104 = .ok (.ireturn, 1) := by decide +kernel
theorem dX4_day_0 : decode cX4_day 0 = .ok (.aload_n 0, 1) := by decide +kernel
theorem dX4_day_1 : decode cX4_day 1 = .ok (.getfield 45, 3) := by decide +kernel
theorem dX4_day_4 : decode cX4_day 4 = .ok (.ireturn, 1) := by decide +kernel
set_option maxRecDepth 20000 in
theorem ggX4_filingOf_X4_checkFiling : GoodIn wsX4_filingOf wsX4_checkFiling := goodIn_ca (goodIn_r _ [18, 19, 20, 3, 21, 25, 26, 27, 28, 29, 30, 31, 32, 33, 34, 35, 36, 37, 38, 39, 40, 41, 42, 43, 44] (by decide +kernel) (by decide +kernel)) (goodIn_sub (fun _ h => List.mem_cons_of_mem _ (List.mem_append_right _ h)) (by decide +kernel))
set_option maxRecDepth 20000 in
theorem gX4_filingOf_X4_checkFiling : GoodIn wsX4_filingOf (wsV RX4 80 RX4 yX4_checkFiling wsX4_checkFiling) := goodIn_app (goodIn_of _ (by decide +kernel)) ggX4_filingOf_X4_checkFiling
set_option maxRecDepth 20000 in
theorem ggX4_filingOf_X4_lapseDay : GoodIn wsX4_filingOf wsX4_lapseDay := goodIn_r _ [24] (by decide +kernel) (by decide +kernel)
set_option maxRecDepth 20000 in
theorem gX4_filingOf_X4_lapseDay : GoodIn wsX4_filingOf (va_wsS RX4 254 yX4_lapseDay wsX4_lapseDay) := goodIn_app (goodIn_of _ (by decide +kernel)) ggX4_filingOf_X4_lapseDay
theorem dX4_filingOf_0 : decode cX4_filingOf 0 = .ok (.aload_n 0, 1) := by decide +kernel
theorem dX4_filingOf_1 : decode cX4_filingOf 1 = .ok (.iload_n 1, 1) := by decide +kernel
theorem dX4_filingOf_2 : decode cX4_filingOf 2 = .ok (.invokevirtual 80, 3) := by decide +kernel
theorem dX4_filingOf_5 : decode cX4_filingOf 5 = .ok (.iload_n 2, 1) := by decide +kernel
theorem dX4_filingOf_6 : decode cX4_filingOf 6 = .ok (.ifCond .lt 9, 3) := by decide +kernel
theorem dX4_filingOf_9 : decode cX4_filingOf 9 = .ok (.iload_n 2, 1) := by decide +kernel
theorem dX4_filingOf_10 : decode cX4_filingOf 10 = .ok (.bipush 8, 2) := by decide +kernel
theorem dX4_filingOf_12 : decode cX4_filingOf 12 = .ok (.if_icmp .le 13, 3) := by decide +kernel
theorem dX4_filingOf_15 : decode cX4_filingOf 15 = .ok (.new 83, 3) := by decide +kernel
theorem dX4_filingOf_18 : decode cX4_filingOf 18 = .ok (.dup, 1) := by decide +kernel
theorem dX4_filingOf_19 : decode cX4_filingOf 19 = .ok (.ldc 240, 2) := by decide +kernel
theorem dX4_filingOf_21 : decode cX4_filingOf 21 = .ok (.invokespecial 87, 3) := by decide +kernel
theorem dX4_filingOf_24 : decode cX4_filingOf 24 = .ok (.athrow, 1) := by decide +kernel
theorem dX4_filingOf_25 : decode cX4_filingOf 25 = .ok (.iload_n 2, 1) := by decide +kernel
theorem dX4_filingOf_26 : decode cX4_filingOf 26 = .ok (.tableswitch 134 0 7 #[46, 56, 66, 76, 86, 96, 106, 124], 46) := by decide +kernel
theorem dX4_filingOf_72 : decode cX4_filingOf 72 = .ok (.aload_n 0, 1) := by decide +kernel
theorem dX4_filingOf_73 : decode cX4_filingOf 73 = .ok (.getfield 10, 3) := by decide +kernel
theorem dX4_filingOf_76 : decode cX4_filingOf 76 = .ok (.getfield 242, 3) := by decide +kernel
theorem dX4_filingOf_79 : decode cX4_filingOf 79 = .ok (.iload_n 1, 1) := by decide +kernel
theorem dX4_filingOf_80 : decode cX4_filingOf 80 = .ok (.iaload, 1) := by decide +kernel
theorem dX4_filingOf_81 : decode cX4_filingOf 81 = .ok (.ireturn, 1) := by decide +kernel
theorem dX4_filingOf_82 : decode cX4_filingOf 82 = .ok (.aload_n 0, 1) := by decide +kernel
theorem dX4_filingOf_83 : decode cX4_filingOf 83 = .ok (.getfield 10, 3) := by decide +kernel
theorem dX4_filingOf_86 : decode cX4_filingOf 86 = .ok (.getfield 128, 3) := by decide +kernel
theorem dX4_filingOf_89 : decode cX4_filingOf 89 = .ok (.iload_n 1, 1) := by decide +kernel
theorem dX4_filingOf_90 : decode cX4_filingOf 90 = .ok (.iaload, 1) := by decide +kernel
theorem dX4_filingOf_91 : decode cX4_filingOf 91 = .ok (.ireturn, 1) := by decide +kernel
theorem dX4_filingOf_92 : decode cX4_filingOf 92 = .ok (.aload_n 0, 1) := by decide +kernel
theorem dX4_filingOf_93 : decode cX4_filingOf 93 = .ok (.getfield 10, 3) := by decide +kernel
theorem dX4_filingOf_96 : decode cX4_filingOf 96 = .ok (.getfield 93, 3) := by decide +kernel
theorem dX4_filingOf_99 : decode cX4_filingOf 99 = .ok (.iload_n 1, 1) := by decide +kernel
theorem dX4_filingOf_100 : decode cX4_filingOf 100 = .ok (.iaload, 1) := by decide +kernel
theorem dX4_filingOf_101 : decode cX4_filingOf 101 = .ok (.ireturn, 1) := by decide +kernel
theorem dX4_filingOf_102 : decode cX4_filingOf 102 = .ok (.aload_n 0, 1) := by decide +kernel
theorem dX4_filingOf_103 : decode cX4_filingOf 103 = .ok (.getfield 10, 3) := by decide +kernel
theorem dX4_filingOf_106 : decode cX4_filingOf 106 = .ok (.getfield 135, 3) := by decide +kernel
theorem dX4_filingOf_109 : decode cX4_filingOf 109 = .ok (.iload_n 1, 1) := by decide +kernel
theorem dX4_filingOf_110 : decode cX4_filingOf 110 = .ok (.iaload, 1) := by decide +kernel
theorem dX4_filingOf_111 : decode cX4_filingOf 111 = .ok (.ireturn, 1) := by decide +kernel
theorem dX4_filingOf_112 : decode cX4_filingOf 112 = .ok (.aload_n 0, 1) := by decide +kernel
theorem dX4_filingOf_113 : decode cX4_filingOf 113 = .ok (.getfield 10, 3) := by decide +kernel
theorem dX4_filingOf_116 : decode cX4_filingOf 116 = .ok (.getfield 245, 3) := by decide +kernel
theorem dX4_filingOf_119 : decode cX4_filingOf 119 = .ok (.iload_n 1, 1) := by decide +kernel
theorem dX4_filingOf_120 : decode cX4_filingOf 120 = .ok (.iaload, 1) := by decide +kernel
theorem dX4_filingOf_121 : decode cX4_filingOf 121 = .ok (.ireturn, 1) := by decide +kernel
theorem dX4_filingOf_122 : decode cX4_filingOf 122 = .ok (.aload_n 0, 1) := by decide +kernel
theorem dX4_filingOf_123 : decode cX4_filingOf 123 = .ok (.getfield 10, 3) := by decide +kernel
theorem dX4_filingOf_126 : decode cX4_filingOf 126 = .ok (.getfield 106, 3) := by decide +kernel
theorem dX4_filingOf_129 : decode cX4_filingOf 129 = .ok (.iload_n 1, 1) := by decide +kernel
theorem dX4_filingOf_130 : decode cX4_filingOf 130 = .ok (.iaload, 1) := by decide +kernel
theorem dX4_filingOf_131 : decode cX4_filingOf 131 = .ok (.ireturn, 1) := by decide +kernel
theorem dX4_filingOf_132 : decode cX4_filingOf 132 = .ok (.aload_n 0, 1) := by decide +kernel
theorem dX4_filingOf_133 : decode cX4_filingOf 133 = .ok (.getfield 10, 3) := by decide +kernel
theorem dX4_filingOf_136 : decode cX4_filingOf 136 = .ok (.getfield 117, 3) := by decide +kernel
theorem dX4_filingOf_139 : decode cX4_filingOf 139 = .ok (.iload_n 1, 1) := by decide +kernel
theorem dX4_filingOf_140 : decode cX4_filingOf 140 = .ok (.baload, 1) := by decide +kernel
theorem dX4_filingOf_141 : decode cX4_filingOf 141 = .ok (.ifCond .eq 7, 3) := by decide +kernel
theorem dX4_filingOf_144 : decode cX4_filingOf 144 = .ok (.iconst 1, 1) := by decide +kernel
theorem dX4_filingOf_145 : decode cX4_filingOf 145 = .ok (.goto 4, 3) := by decide +kernel
theorem dX4_filingOf_148 : decode cX4_filingOf 148 = .ok (.iconst 0, 1) := by decide +kernel
theorem dX4_filingOf_149 : decode cX4_filingOf 149 = .ok (.ireturn, 1) := by decide +kernel
theorem dX4_filingOf_150 : decode cX4_filingOf 150 = .ok (.aload_n 0, 1) := by decide +kernel
theorem dX4_filingOf_151 : decode cX4_filingOf 151 = .ok (.getfield 10, 3) := by decide +kernel
theorem dX4_filingOf_154 : decode cX4_filingOf 154 = .ok (.getfield 157, 3) := by decide +kernel
theorem dX4_filingOf_157 : decode cX4_filingOf 157 = .ok (.iload_n 1, 1) := by decide +kernel
theorem dX4_filingOf_158 : decode cX4_filingOf 158 = .ok (.iaload, 1) := by decide +kernel
theorem dX4_filingOf_159 : decode cX4_filingOf 159 = .ok (.ireturn, 1) := by decide +kernel
theorem dX4_filingOf_160 : decode cX4_filingOf 160 = .ok (.aload_n 0, 1) := by decide +kernel
theorem dX4_filingOf_161 : decode cX4_filingOf 161 = .ok (.getfield 10, 3) := by decide +kernel
theorem dX4_filingOf_164 : decode cX4_filingOf 164 = .ok (.getfield 106, 3) := by decide +kernel
theorem dX4_filingOf_167 : decode cX4_filingOf 167 = .ok (.iload_n 1, 1) := by decide +kernel
theorem dX4_filingOf_168 : decode cX4_filingOf 168 = .ok (.iaload, 1) := by decide +kernel
theorem dX4_filingOf_169 : decode cX4_filingOf 169 = .ok (.aload_n 0, 1) := by decide +kernel
theorem dX4_filingOf_170 : decode cX4_filingOf 170 = .ok (.getfield 10, 3) := by decide +kernel
theorem dX4_filingOf_173 : decode cX4_filingOf 173 = .ok (.getfield 248, 3) := by decide +kernel
theorem dX4_filingOf_176 : decode cX4_filingOf 176 = .ok (.iload_n 1, 1) := by decide +kernel
theorem dX4_filingOf_177 : decode cX4_filingOf 177 = .ok (.iaload, 1) := by decide +kernel
theorem dX4_filingOf_178 : decode cX4_filingOf 178 = .ok (.aload_n 0, 1) := by decide +kernel
theorem dX4_filingOf_179 : decode cX4_filingOf 179 = .ok (.getfield 10, 3) := by decide +kernel
theorem dX4_filingOf_182 : decode cX4_filingOf 182 = .ok (.getfield 251, 3) := by decide +kernel
theorem dX4_filingOf_185 : decode cX4_filingOf 185 = .ok (.iload_n 1, 1) := by decide +kernel
theorem dX4_filingOf_186 : decode cX4_filingOf 186 = .ok (.iaload, 1) := by decide +kernel
theorem dX4_filingOf_187 : decode cX4_filingOf 187 = .ok (.invokestatic 254, 3) := by decide +kernel
theorem dX4_filingOf_190 : decode cX4_filingOf 190 = .ok (.ireturn, 1) := by decide +kernel
set_option maxRecDepth 20000 in
theorem ggX4_stateAnew_X4_checkFiling : GoodIn wsX4_stateAnew wsX4_checkFiling := goodIn_ca (goodIn_r _ [8, 9, 10, 11, 12, 58, 59, 60, 61, 62, 63, 64, 65, 66, 67, 68, 69, 70, 71, 72, 73, 74, 75, 76, 77] (by decide +kernel) (by decide +kernel)) (goodIn_sub (fun _ h => List.mem_cons_of_mem _ (List.mem_append_right _ h)) (by decide +kernel))
set_option maxRecDepth 20000 in
theorem gX4_stateAnew_X4_checkFiling : GoodIn wsX4_stateAnew (wsV RX4 80 RX4 yX4_checkFiling wsX4_checkFiling) := goodIn_app (goodIn_of _ (by decide +kernel)) ggX4_stateAnew_X4_checkFiling
set_option maxRecDepth 20000 in
theorem ggX4_stateAnew_X0_examine : GoodIn wsX4_stateAnew wsX0_examine := goodIn_r _ [17, 18, 19, 20, 21, 22, 23, 24, 25, 26, 27, 28, 16, 29, 30, 31, 32, 7, 33, 34, 35, 36, 37, 38, 39, 40, 41, 42, 43, 44, 45, 46, 47, 48, 49, 50, 51, 52, 53, 54, 55, 56, 57, 78, 79, 80, 81, 82, 83, 84, 85, 86, 87, 88] (by decide +kernel) (by decide +kernel)
set_option maxRecDepth 20000 in
theorem gX4_stateAnew_X0_examine : GoodIn wsX4_stateAnew (wsV RX4 258 RX0 yX0_examine wsX0_examine) := goodIn_app (goodIn_of _ (by decide +kernel)) ggX4_stateAnew_X0_examine
theorem dX4_stateAnew_0 : decode cX4_stateAnew 0 = .ok (.aload_n 0, 1) := by decide +kernel
theorem dX4_stateAnew_1 : decode cX4_stateAnew 1 = .ok (.iload_n 1, 1) := by decide +kernel
theorem dX4_stateAnew_2 : decode cX4_stateAnew 2 = .ok (.invokevirtual 80, 3) := by decide +kernel
theorem dX4_stateAnew_5 : decode cX4_stateAnew 5 = .ok (.aload_n 0, 1) := by decide +kernel
theorem dX4_stateAnew_6 : decode cX4_stateAnew 6 = .ok (.getfield 33, 3) := by decide +kernel
theorem dX4_stateAnew_9 : decode cX4_stateAnew 9 = .ok (.aload_n 0, 1) := by decide +kernel
theorem dX4_stateAnew_10 : decode cX4_stateAnew 10 = .ok (.getfield 26, 3) := by decide +kernel
theorem dX4_stateAnew_13 : decode cX4_stateAnew 13 = .ok (.iload_n 1, 1) := by decide +kernel
theorem dX4_stateAnew_14 : decode cX4_stateAnew 14 = .ok (.aload_n 0, 1) := by decide +kernel
theorem dX4_stateAnew_15 : decode cX4_stateAnew 15 = .ok (.getfield 45, 3) := by decide +kernel
theorem dX4_stateAnew_18 : decode cX4_stateAnew 18 = .ok (.invokevirtual 258, 3) := by decide +kernel
theorem dX4_stateAnew_21 : decode cX4_stateAnew 21 = .ok (.ireturn, 1) := by decide +kernel
set_option maxRecDepth 20000 in
theorem ggX4_harm_X4_checkFiling : GoodIn wsX4_harm wsX4_checkFiling := goodIn_ca (goodIn_r _ [6, 7, 8, 1, 9, 37, 38, 39, 40, 41, 42, 43, 44, 45, 46, 47, 48, 49, 50, 51, 52, 53, 54, 55, 56] (by decide +kernel) (by decide +kernel)) (goodIn_sub (fun _ h => List.mem_cons_of_mem _ (List.mem_append_right _ h)) (by decide +kernel))
set_option maxRecDepth 20000 in
theorem gX4_harm_X4_checkFiling : GoodIn wsX4_harm (wsV RX4 80 RX4 yX4_checkFiling wsX4_checkFiling) := goodIn_app (goodIn_of _ (by decide +kernel)) ggX4_harm_X4_checkFiling
set_option maxRecDepth 20000 in
theorem ggX4_harm_X1_harmTo : GoodIn wsX4_harm wsX1_harmTo := goodIn_r _ [14, 15, 16, 17, 18, 19, 13, 20, 21, 22, 23, 24, 25, 26, 27, 28, 29, 30, 31, 32, 33, 34, 35, 36, 44, 45, 46, 47, 48, 49, 50, 51, 52, 53, 54, 55, 56] (by decide +kernel) (by decide +kernel)
set_option maxRecDepth 20000 in
theorem gX4_harm_X1_harmTo : GoodIn wsX4_harm (wsV RX4 262 RX1 yX1_harmTo wsX1_harmTo) := goodIn_app (goodIn_of _ (by decide +kernel)) ggX4_harm_X1_harmTo
theorem dX4_harm_0 : decode cX4_harm 0 = .ok (.aload_n 0, 1) := by decide +kernel
theorem dX4_harm_1 : decode cX4_harm 1 = .ok (.iload_n 1, 1) := by decide +kernel
theorem dX4_harm_2 : decode cX4_harm 2 = .ok (.invokevirtual 80, 3) := by decide +kernel
theorem dX4_harm_5 : decode cX4_harm 5 = .ok (.aload_n 0, 1) := by decide +kernel
theorem dX4_harm_6 : decode cX4_harm 6 = .ok (.iload_n 2, 1) := by decide +kernel
theorem dX4_harm_7 : decode cX4_harm 7 = .ok (.invokevirtual 80, 3) := by decide +kernel
theorem dX4_harm_10 : decode cX4_harm 10 = .ok (.aload_n 0, 1) := by decide +kernel
theorem dX4_harm_11 : decode cX4_harm 11 = .ok (.getfield 10, 3) := by decide +kernel
theorem dX4_harm_14 : decode cX4_harm 14 = .ok (.iload_n 1, 1) := by decide +kernel
theorem dX4_harm_15 : decode cX4_harm 15 = .ok (.iload_n 2, 1) := by decide +kernel
theorem dX4_harm_16 : decode cX4_harm 16 = .ok (.invokevirtual 262, 3) := by decide +kernel
theorem dX4_harm_19 : decode cX4_harm 19 = .ok (.ireturn, 1) := by decide +kernel
set_option maxRecDepth 20000 in
theorem ggX4_allowed_X4_checkFiling : GoodIn wsX4_allowed wsX4_checkFiling := goodIn_ca (goodIn_r _ [6, 7, 8, 1, 9, 26, 27, 28, 29, 30, 31, 32, 33, 34, 35, 36, 37, 38, 39, 40, 41, 42, 43, 44, 45] (by decide +kernel) (by decide +kernel)) (goodIn_sub (fun _ h => List.mem_cons_of_mem _ (List.mem_append_right _ h)) (by decide +kernel))
set_option maxRecDepth 20000 in
theorem gX4_allowed_X4_checkFiling : GoodIn wsX4_allowed (wsV RX4 80 RX4 yX4_checkFiling wsX4_checkFiling) := goodIn_app (goodIn_of _ (by decide +kernel)) ggX4_allowed_X4_checkFiling
set_option maxRecDepth 20000 in
theorem ggX4_allowed_X1_isAhead : GoodIn wsX4_allowed wsX1_isAhead := goodIn_r _ [14, 15, 33, 34, 35, 36, 37, 38, 39, 40, 41, 42, 43, 44, 45] (by decide +kernel) (by decide +kernel)
set_option maxRecDepth 20000 in
theorem gX4_allowed_X1_isAhead : GoodIn wsX4_allowed (wsV RX4 265 RX1 yX1_isAhead wsX1_isAhead) := goodIn_app (goodIn_of _ (by decide +kernel)) ggX4_allowed_X1_isAhead
set_option maxRecDepth 20000 in
theorem ggX4_allowed_X1_isLapsed : GoodIn wsX4_allowed wsX1_isLapsed := goodIn_r _ [19, 20, 33, 34, 35, 36, 37, 38, 39, 40, 41, 42, 43, 44, 45] (by decide +kernel) (by decide +kernel)
set_option maxRecDepth 20000 in
theorem gX4_allowed_X1_isLapsed : GoodIn wsX4_allowed (wsV RX4 268 RX1 yX1_isLapsed wsX1_isLapsed) := goodIn_app (goodIn_of _ (by decide +kernel)) ggX4_allowed_X1_isLapsed
set_option maxRecDepth 20000 in
theorem ggX4_allowed_X1_limitOfPair : GoodIn wsX4_allowed wsX1_limitOfPair := goodIn_r _ [24, 25, 33, 34, 35, 36, 37, 38, 39, 40, 41, 42, 43, 44, 45] (by decide +kernel) (by decide +kernel)
set_option maxRecDepth 20000 in
theorem gX4_allowed_X1_limitOfPair : GoodIn wsX4_allowed (wsV RX4 98 RX1 yX1_limitOfPair wsX1_limitOfPair) := goodIn_app (goodIn_of _ (by decide +kernel)) ggX4_allowed_X1_limitOfPair
theorem dX4_allowed_0 : decode cX4_allowed 0 = .ok (.aload_n 0, 1) := by decide +kernel
theorem dX4_allowed_1 : decode cX4_allowed 1 = .ok (.iload_n 1, 1) := by decide +kernel
theorem dX4_allowed_2 : decode cX4_allowed 2 = .ok (.invokevirtual 80, 3) := by decide +kernel
theorem dX4_allowed_5 : decode cX4_allowed 5 = .ok (.aload_n 0, 1) := by decide +kernel
theorem dX4_allowed_6 : decode cX4_allowed 6 = .ok (.iload_n 2, 1) := by decide +kernel
theorem dX4_allowed_7 : decode cX4_allowed 7 = .ok (.invokevirtual 80, 3) := by decide +kernel
theorem dX4_allowed_10 : decode cX4_allowed 10 = .ok (.aload_n 0, 1) := by decide +kernel
theorem dX4_allowed_11 : decode cX4_allowed 11 = .ok (.getfield 10, 3) := by decide +kernel
theorem dX4_allowed_14 : decode cX4_allowed 14 = .ok (.iload_n 2, 1) := by decide +kernel
theorem dX4_allowed_15 : decode cX4_allowed 15 = .ok (.iload_n 1, 1) := by decide +kernel
theorem dX4_allowed_16 : decode cX4_allowed 16 = .ok (.invokevirtual 265, 3) := by decide +kernel
theorem dX4_allowed_19 : decode cX4_allowed 19 = .ok (.ifCond .eq 25, 3) := by decide +kernel
theorem dX4_allowed_22 : decode cX4_allowed 22 = .ok (.aload_n 0, 1) := by decide +kernel
theorem dX4_allowed_23 : decode cX4_allowed 23 = .ok (.getfield 10, 3) := by decide +kernel
theorem dX4_allowed_26 : decode cX4_allowed 26 = .ok (.iload_n 1, 1) := by decide +kernel
theorem dX4_allowed_27 : decode cX4_allowed 27 = .ok (.invokevirtual 268, 3) := by decide +kernel
theorem dX4_allowed_30 : decode cX4_allowed 30 = .ok (.ifCond .ne 14, 3) := by decide +kernel
theorem dX4_allowed_33 : decode cX4_allowed 33 = .ok (.aload_n 0, 1) := by decide +kernel
theorem dX4_allowed_34 : decode cX4_allowed 34 = .ok (.getfield 10, 3) := by decide +kernel
theorem dX4_allowed_37 : decode cX4_allowed 37 = .ok (.iload_n 2, 1) := by decide +kernel
theorem dX4_allowed_38 : decode cX4_allowed 38 = .ok (.invokevirtual 268, 3) := by decide +kernel
theorem dX4_allowed_41 : decode cX4_allowed 41 = .ok (.ifCond .eq 5, 3) := by decide +kernel
theorem dX4_allowed_44 : decode cX4_allowed 44 = .ok (.iconst (-1), 1) := by decide +kernel
theorem dX4_allowed_45 : decode cX4_allowed 45 = .ok (.ireturn, 1) := by decide +kernel
theorem dX4_allowed_46 : decode cX4_allowed 46 = .ok (.aload_n 0, 1) := by decide +kernel
theorem dX4_allowed_47 : decode cX4_allowed 47 = .ok (.getfield 10, 3) := by decide +kernel
theorem dX4_allowed_50 : decode cX4_allowed 50 = .ok (.iload_n 1, 1) := by decide +kernel
theorem dX4_allowed_51 : decode cX4_allowed 51 = .ok (.iload_n 2, 1) := by decide +kernel
theorem dX4_allowed_52 : decode cX4_allowed 52 = .ok (.invokevirtual 98, 3) := by decide +kernel
theorem dX4_allowed_55 : decode cX4_allowed 55 = .ok (.ireturn, 1) := by decide +kernel
set_option maxRecDepth 20000 in
theorem ggX4_needs_X4_checkFiling : GoodIn wsX4_needs wsX4_checkFiling := goodIn_ca (goodIn_r _ [6, 7, 8, 1, 9, 56, 57, 58, 59, 60, 61, 62, 63, 64, 65, 66, 67, 68, 69, 70, 71, 72, 73, 74, 75] (by decide +kernel) (by decide +kernel)) (goodIn_sub (fun _ h => List.mem_cons_of_mem _ (List.mem_append_right _ h)) (by decide +kernel))
set_option maxRecDepth 20000 in
theorem gX4_needs_X4_checkFiling : GoodIn wsX4_needs (wsV RX4 80 RX4 yX4_checkFiling wsX4_checkFiling) := goodIn_app (goodIn_of _ (by decide +kernel)) ggX4_needs_X4_checkFiling
set_option maxRecDepth 20000 in
theorem ggX4_needs_X1_countOverLimit : GoodIn wsX4_needs wsX1_countOverLimit := goodIn_r _ [14, 15, 16, 17, 18, 13, 19, 20, 21, 22, 23, 24, 25, 26, 27, 28, 29, 30, 31, 32, 33, 34, 35, 36, 37, 38, 39, 40, 41, 42, 43, 44, 45, 46, 47, 48, 49, 50, 51, 52, 53, 54, 55, 63, 64, 65, 66, 67, 68, 69, 70, 71, 72, 73, 74, 75] (by decide +kernel) (by decide +kernel)
set_option maxRecDepth 20000 in
theorem gX4_needs_X1_countOverLimit : GoodIn wsX4_needs (wsV RX4 111 RX1 yX1_countOverLimit wsX1_countOverLimit) := goodIn_app (goodIn_of _ (by decide +kernel)) ggX4_needs_X1_countOverLimit
theorem dX4_needs_0 : decode cX4_needs 0 = .ok (.aload_n 0, 1) := by decide +kernel
theorem dX4_needs_1 : decode cX4_needs 1 = .ok (.iload_n 1, 1) := by decide +kernel
theorem dX4_needs_2 : decode cX4_needs 2 = .ok (.invokevirtual 80, 3) := by decide +kernel
theorem dX4_needs_5 : decode cX4_needs 5 = .ok (.aload_n 0, 1) := by decide +kernel
theorem dX4_needs_6 : decode cX4_needs 6 = .ok (.getfield 10, 3) := by decide +kernel
theorem dX4_needs_9 : decode cX4_needs 9 = .ok (.iload_n 1, 1) := by decide +kernel
theorem dX4_needs_10 : decode cX4_needs 10 = .ok (.invokevirtual 111, 3) := by decide +kernel
theorem dX4_needs_13 : decode cX4_needs 13 = .ok (.ireturn, 1) := by decide +kernel
set_option maxRecDepth 20000 in
theorem ggX4_bears_X4_checkFiling : GoodIn wsX4_bears wsX4_checkFiling := goodIn_ca (goodIn_r _ [6, 7, 8, 1, 9, 47, 48, 49, 50, 51, 52, 53, 54, 55, 56, 57, 58, 59, 60, 61, 62, 63, 64, 65, 66] (by decide +kernel) (by decide +kernel)) (goodIn_sub (fun _ h => List.mem_cons_of_mem _ (List.mem_append_right _ h)) (by decide +kernel))
set_option maxRecDepth 20000 in
theorem gX4_bears_X4_checkFiling : GoodIn wsX4_bears (wsV RX4 80 RX4 yX4_checkFiling wsX4_checkFiling) := goodIn_app (goodIn_of _ (by decide +kernel)) ggX4_bears_X4_checkFiling
set_option maxRecDepth 20000 in
theorem ggX4_bears_X1_harmBorne : GoodIn wsX4_bears wsX1_harmBorne := goodIn_r _ [14, 15, 16, 17, 18, 19, 13, 20, 21, 22, 23, 24, 25, 26, 27, 28, 29, 30, 31, 32, 33, 34, 35, 36, 37, 38, 39, 40, 41, 42, 43, 44, 45, 46, 54, 55, 56, 57, 58, 59, 60, 61, 62, 63, 64, 65, 66] (by decide +kernel) (by decide +kernel)
set_option maxRecDepth 20000 in
theorem gX4_bears_X1_harmBorne : GoodIn wsX4_bears (wsV RX4 160 RX1 yX1_harmBorne wsX1_harmBorne) := goodIn_app (goodIn_of _ (by decide +kernel)) ggX4_bears_X1_harmBorne
theorem dX4_bears_0 : decode cX4_bears 0 = .ok (.aload_n 0, 1) := by decide +kernel
theorem dX4_bears_1 : decode cX4_bears 1 = .ok (.iload_n 1, 1) := by decide +kernel
theorem dX4_bears_2 : decode cX4_bears 2 = .ok (.invokevirtual 80, 3) := by decide +kernel
theorem dX4_bears_5 : decode cX4_bears 5 = .ok (.aload_n 0, 1) := by decide +kernel
theorem dX4_bears_6 : decode cX4_bears 6 = .ok (.getfield 10, 3) := by decide +kernel
theorem dX4_bears_9 : decode cX4_bears 9 = .ok (.iload_n 1, 1) := by decide +kernel
theorem dX4_bears_10 : decode cX4_bears 10 = .ok (.invokevirtual 160, 3) := by decide +kernel
theorem dX4_bears_13 : decode cX4_bears 13 = .ok (.ireturn, 1) := by decide +kernel
set_option maxRecDepth 20000 in
theorem ggX4_first_X4_checkSlot : GoodIn wsX4_first wsX4_checkSlot := goodIn_ca (goodIn_r _ [6, 7, 8] (by decide +kernel) (by decide +kernel)) (goodIn_sub (fun _ h => List.mem_cons_of_mem _ (List.mem_append_right _ h)) (by decide +kernel))
set_option maxRecDepth 20000 in
theorem gX4_first_X4_checkSlot : GoodIn wsX4_first (wsV RX4 53 RX4 yX4_checkSlot wsX4_checkSlot) := goodIn_app (goodIn_of _ (by decide +kernel)) ggX4_first_X4_checkSlot
set_option maxRecDepth 20000 in
theorem ggX4_first_X4_checkBand : GoodIn wsX4_first wsX4_checkBand := goodIn_ca (goodIn_r _ [12, 7, 8] (by decide +kernel) (by decide +kernel)) (goodIn_sub (fun _ h => List.mem_cons_of_mem _ (List.mem_append_right _ h)) (by decide +kernel))
set_option maxRecDepth 20000 in
theorem gX4_first_X4_checkBand : GoodIn wsX4_first (wsV RX4 56 RX4 yX4_checkBand wsX4_checkBand) := goodIn_app (goodIn_of _ (by decide +kernel)) ggX4_first_X4_checkBand
set_option maxRecDepth 20000 in
theorem ggX4_first_X1_findFirst : GoodIn wsX4_first wsX1_findFirst := goodIn_r _ [17, 18, 19, 20, 21, 22, 23, 16, 24, 25, 26, 27, 28, 29, 30, 38, 39, 40, 41, 42, 43, 44, 45, 46, 47, 48, 49, 50] (by decide +kernel) (by decide +kernel)
set_option maxRecDepth 20000 in
theorem gX4_first_X1_findFirst : GoodIn wsX4_first (wsV RX4 271 RX1 yX1_findFirst wsX1_findFirst) := goodIn_app (goodIn_of _ (by decide +kernel)) ggX4_first_X1_findFirst
theorem dX4_first_0 : decode cX4_first 0 = .ok (.aload_n 0, 1) := by decide +kernel
theorem dX4_first_1 : decode cX4_first 1 = .ok (.iload_n 1, 1) := by decide +kernel
theorem dX4_first_2 : decode cX4_first 2 = .ok (.invokevirtual 53, 3) := by decide +kernel
theorem dX4_first_5 : decode cX4_first 5 = .ok (.aload_n 0, 1) := by decide +kernel
theorem dX4_first_6 : decode cX4_first 6 = .ok (.iload_n 2, 1) := by decide +kernel
theorem dX4_first_7 : decode cX4_first 7 = .ok (.invokevirtual 56, 3) := by decide +kernel
theorem dX4_first_10 : decode cX4_first 10 = .ok (.aload_n 0, 1) := by decide +kernel
theorem dX4_first_11 : decode cX4_first 11 = .ok (.getfield 10, 3) := by decide +kernel
theorem dX4_first_14 : decode cX4_first 14 = .ok (.iload_n 1, 1) := by decide +kernel
theorem dX4_first_15 : decode cX4_first 15 = .ok (.iload_n 2, 1) := by decide +kernel
theorem dX4_first_16 : decode cX4_first 16 = .ok (.invokevirtual 271, 3) := by decide +kernel
theorem dX4_first_19 : decode cX4_first 19 = .ok (.ireturn, 1) := by decide +kernel
set_option maxRecDepth 20000 in
theorem ggX4_satelliteOf_X4_checkSatellite : GoodIn wsX4_satelliteOf wsX4_checkSatellite := goodIn_ca (goodIn_r _ [16, 17, 18, 3, 19, 27, 28, 29, 30, 31, 32, 33, 34, 35, 36, 37, 38, 39, 40, 41] (by decide +kernel) (by decide +kernel)) (goodIn_sub (fun _ h => List.mem_cons_of_mem _ (List.mem_append_right _ h)) (by decide +kernel))
set_option maxRecDepth 20000 in
theorem gX4_satelliteOf_X4_checkSatellite : GoodIn wsX4_satelliteOf (wsV RX4 141 RX4 yX4_checkSatellite wsX4_checkSatellite) := goodIn_app (goodIn_of _ (by decide +kernel)) ggX4_satelliteOf_X4_checkSatellite
set_option maxRecDepth 20000 in
theorem ggX4_satelliteOf_X1_countServedBy : GoodIn wsX4_satelliteOf wsX1_countServedBy := goodIn_r _ [24, 25, 26, 42, 43, 44, 45, 46, 47, 48, 49, 50, 51, 52, 53, 54] (by decide +kernel) (by decide +kernel)
set_option maxRecDepth 20000 in
theorem gX4_satelliteOf_X1_countServedBy : GoodIn wsX4_satelliteOf (wsV RX4 274 RX1 yX1_countServedBy wsX1_countServedBy) := goodIn_app (goodIn_of _ (by decide +kernel)) ggX4_satelliteOf_X1_countServedBy
theorem dX4_satelliteOf_0 : decode cX4_satelliteOf 0 = .ok (.aload_n 0, 1) := by decide +kernel
theorem dX4_satelliteOf_1 : decode cX4_satelliteOf 1 = .ok (.iload_n 1, 1) := by decide +kernel
theorem dX4_satelliteOf_2 : decode cX4_satelliteOf 2 = .ok (.invokevirtual 141, 3) := by decide +kernel
theorem dX4_satelliteOf_5 : decode cX4_satelliteOf 5 = .ok (.iload_n 2, 1) := by decide +kernel
theorem dX4_satelliteOf_6 : decode cX4_satelliteOf 6 = .ok (.ifCond .lt 9, 3) := by decide +kernel
theorem dX4_satelliteOf_9 : decode cX4_satelliteOf 9 = .ok (.iload_n 2, 1) := by decide +kernel
theorem dX4_satelliteOf_10 : decode cX4_satelliteOf 10 = .ok (.bipush 6, 2) := by decide +kernel
theorem dX4_satelliteOf_12 : decode cX4_satelliteOf 12 = .ok (.if_icmp .le 13, 3) := by decide +kernel
theorem dX4_satelliteOf_15 : decode cX4_satelliteOf 15 = .ok (.new 83, 3) := by decide +kernel
theorem dX4_satelliteOf_18 : decode cX4_satelliteOf 18 = .ok (.dup, 1) := by decide +kernel
theorem dX4_satelliteOf_19 : decode cX4_satelliteOf 19 = .ok (.ldc 240, 2) := by decide +kernel
theorem dX4_satelliteOf_21 : decode cX4_satelliteOf 21 = .ok (.invokespecial 87, 3) := by decide +kernel
theorem dX4_satelliteOf_24 : decode cX4_satelliteOf 24 = .ok (.athrow, 1) := by decide +kernel
theorem dX4_satelliteOf_25 : decode cX4_satelliteOf 25 = .ok (.iload_n 2, 1) := by decide +kernel
theorem dX4_satelliteOf_26 : decode cX4_satelliteOf 26 = .ok (.tableswitch 120 0 5 #[38, 48, 58, 68, 78, 88], 38) := by decide +kernel
theorem dX4_satelliteOf_64 : decode cX4_satelliteOf 64 = .ok (.aload_n 0, 1) := by decide +kernel
theorem dX4_satelliteOf_65 : decode cX4_satelliteOf 65 = .ok (.getfield 19, 3) := by decide +kernel
theorem dX4_satelliteOf_68 : decode cX4_satelliteOf 68 = .ok (.getfield 222, 3) := by decide +kernel
theorem dX4_satelliteOf_71 : decode cX4_satelliteOf 71 = .ok (.iload_n 1, 1) := by decide +kernel
theorem dX4_satelliteOf_72 : decode cX4_satelliteOf 72 = .ok (.iaload, 1) := by decide +kernel
theorem dX4_satelliteOf_73 : decode cX4_satelliteOf 73 = .ok (.ireturn, 1) := by decide +kernel
theorem dX4_satelliteOf_74 : decode cX4_satelliteOf 74 = .ok (.aload_n 0, 1) := by decide +kernel
theorem dX4_satelliteOf_75 : decode cX4_satelliteOf 75 = .ok (.getfield 19, 3) := by decide +kernel
theorem dX4_satelliteOf_78 : decode cX4_satelliteOf 78 = .ok (.getfield 185, 3) := by decide +kernel
theorem dX4_satelliteOf_81 : decode cX4_satelliteOf 81 = .ok (.iload_n 1, 1) := by decide +kernel
theorem dX4_satelliteOf_82 : decode cX4_satelliteOf 82 = .ok (.iaload, 1) := by decide +kernel
theorem dX4_satelliteOf_83 : decode cX4_satelliteOf 83 = .ok (.ireturn, 1) := by decide +kernel
theorem dX4_satelliteOf_84 : decode cX4_satelliteOf 84 = .ok (.aload_n 0, 1) := by decide +kernel
theorem dX4_satelliteOf_85 : decode cX4_satelliteOf 85 = .ok (.getfield 19, 3) := by decide +kernel
theorem dX4_satelliteOf_88 : decode cX4_satelliteOf 88 = .ok (.getfield 199, 3) := by decide +kernel
theorem dX4_satelliteOf_91 : decode cX4_satelliteOf 91 = .ok (.iload_n 1, 1) := by decide +kernel
theorem dX4_satelliteOf_92 : decode cX4_satelliteOf 92 = .ok (.iaload, 1) := by decide +kernel
theorem dX4_satelliteOf_93 : decode cX4_satelliteOf 93 = .ok (.ireturn, 1) := by decide +kernel
theorem dX4_satelliteOf_94 : decode cX4_satelliteOf 94 = .ok (.aload_n 0, 1) := by decide +kernel
theorem dX4_satelliteOf_95 : decode cX4_satelliteOf 95 = .ok (.getfield 19, 3) := by decide +kernel
theorem dX4_satelliteOf_98 : decode cX4_satelliteOf 98 = .ok (.getfield 149, 3) := by decide +kernel
theorem dX4_satelliteOf_101 : decode cX4_satelliteOf 101 = .ok (.iload_n 1, 1) := by decide +kernel
theorem dX4_satelliteOf_102 : decode cX4_satelliteOf 102 = .ok (.iaload, 1) := by decide +kernel
theorem dX4_satelliteOf_103 : decode cX4_satelliteOf 103 = .ok (.ireturn, 1) := by decide +kernel
theorem dX4_satelliteOf_104 : decode cX4_satelliteOf 104 = .ok (.aload_n 0, 1) := by decide +kernel
theorem dX4_satelliteOf_105 : decode cX4_satelliteOf 105 = .ok (.getfield 19, 3) := by decide +kernel
theorem dX4_satelliteOf_108 : decode cX4_satelliteOf 108 = .ok (.getfield 193, 3) := by decide +kernel
theorem dX4_satelliteOf_111 : decode cX4_satelliteOf 111 = .ok (.iload_n 1, 1) := by decide +kernel
theorem dX4_satelliteOf_112 : decode cX4_satelliteOf 112 = .ok (.iaload, 1) := by decide +kernel
theorem dX4_satelliteOf_113 : decode cX4_satelliteOf 113 = .ok (.ireturn, 1) := by decide +kernel
theorem dX4_satelliteOf_114 : decode cX4_satelliteOf 114 = .ok (.aload_n 0, 1) := by decide +kernel
theorem dX4_satelliteOf_115 : decode cX4_satelliteOf 115 = .ok (.getfield 19, 3) := by decide +kernel
theorem dX4_satelliteOf_118 : decode cX4_satelliteOf 118 = .ok (.getfield 199, 3) := by decide +kernel
theorem dX4_satelliteOf_121 : decode cX4_satelliteOf 121 = .ok (.iload_n 1, 1) := by decide +kernel
theorem dX4_satelliteOf_122 : decode cX4_satelliteOf 122 = .ok (.iaload, 1) := by decide +kernel
theorem dX4_satelliteOf_123 : decode cX4_satelliteOf 123 = .ok (.iconst 1, 1) := by decide +kernel
theorem dX4_satelliteOf_124 : decode cX4_satelliteOf 124 = .ok (.if_icmp .ne 7, 3) := by decide +kernel
theorem dX4_satelliteOf_127 : decode cX4_satelliteOf 127 = .ok (.iconst (-1), 1) := by decide +kernel
theorem dX4_satelliteOf_128 : decode cX4_satelliteOf 128 = .ok (.goto 17, 3) := by decide +kernel
theorem dX4_satelliteOf_131 : decode cX4_satelliteOf 131 = .ok (.aload_n 0, 1) := by decide +kernel
theorem dX4_satelliteOf_132 : decode cX4_satelliteOf 132 = .ok (.getfield 45, 3) := by decide +kernel
theorem dX4_satelliteOf_135 : decode cX4_satelliteOf 135 = .ok (.aload_n 0, 1) := by decide +kernel
theorem dX4_satelliteOf_136 : decode cX4_satelliteOf 136 = .ok (.getfield 19, 3) := by decide +kernel
theorem dX4_satelliteOf_139 : decode cX4_satelliteOf 139 = .ok (.getfield 152, 3) := by decide +kernel
theorem dX4_satelliteOf_142 : decode cX4_satelliteOf 142 = .ok (.iload_n 1, 1) := by decide +kernel
theorem dX4_satelliteOf_143 : decode cX4_satelliteOf 143 = .ok (.iaload, 1) := by decide +kernel
theorem dX4_satelliteOf_144 : decode cX4_satelliteOf 144 = .ok (.isub, 1) := by decide +kernel
theorem dX4_satelliteOf_145 : decode cX4_satelliteOf 145 = .ok (.ireturn, 1) := by decide +kernel
theorem dX4_satelliteOf_146 : decode cX4_satelliteOf 146 = .ok (.aload_n 0, 1) := by decide +kernel
theorem dX4_satelliteOf_147 : decode cX4_satelliteOf 147 = .ok (.getfield 10, 3) := by decide +kernel
theorem dX4_satelliteOf_150 : decode cX4_satelliteOf 150 = .ok (.iload_n 1, 1) := by decide +kernel
theorem dX4_satelliteOf_151 : decode cX4_satelliteOf 151 = .ok (.invokevirtual 274, 3) := by decide +kernel
theorem dX4_satelliteOf_154 : decode cX4_satelliteOf 154 = .ok (.ireturn, 1) := by decide +kernel
theorem dX4_pieces_0 : decode cX4_pieces 0 = .ok (.iload_n 1, 1) := by decide +kernel
theorem dX4_pieces_1 : decode cX4_pieces 1 = .ok (.ifCond .lt 9, 3) := by decide +kernel
theorem dX4_pieces_4 : decode cX4_pieces 4 = .ok (.iload_n 1, 1) := by decide +kernel
theorem dX4_pieces_5 : decode cX4_pieces 5 = .ok (.bipush 36, 2) := by decide +kernel
theorem dX4_pieces_7 : decode cX4_pieces 7 = .ok (.if_icmp .lt 14, 3) := by decide +kernel
theorem dX4_pieces_10 : decode cX4_pieces 10 = .ok (.new 277, 3) := by decide +kernel
theorem dX4_pieces_13 : decode cX4_pieces 13 = .ok (.dup, 1) := by decide +kernel
theorem dX4_pieces_14 : decode cX4_pieces 14 = .ok (.ldc_w 279, 3) := by decide +kernel
theorem dX4_pieces_17 : decode cX4_pieces 17 = .ok (.invokespecial 281, 3) := by decide +kernel
theorem dX4_pieces_20 : decode cX4_pieces 20 = .ok (.athrow, 1) := by decide +kernel
theorem dX4_pieces_21 : decode cX4_pieces 21 = .ok (.aload_n 0, 1) := by decide +kernel
theorem dX4_pieces_22 : decode cX4_pieces 22 = .ok (.getfield 37, 3) := by decide +kernel
theorem dX4_pieces_25 : decode cX4_pieces 25 = .ok (.iload_n 1, 1) := by decide +kernel
theorem dX4_pieces_26 : decode cX4_pieces 26 = .ok (.iaload, 1) := by decide +kernel
theorem dX4_pieces_27 : decode cX4_pieces 27 = .ok (.ireturn, 1) := by decide +kernel
set_option maxRecDepth 20000 in
theorem ggX4_paid_X4_checkLand : GoodIn wsX4_paid wsX4_checkLand := goodIn_ca (goodIn_r _ [6, 7, 8] (by decide +kernel) (by decide +kernel)) (goodIn_sub (fun _ h => List.mem_cons_of_mem _ (List.mem_append_right _ h)) (by decide +kernel))
set_option maxRecDepth 20000 in
theorem gX4_paid_X4_checkLand : GoodIn wsX4_paid (wsV RX4 49 RX4 yX4_checkLand wsX4_checkLand) := goodIn_app (goodIn_of _ (by decide +kernel)) ggX4_paid_X4_checkLand
theorem dX4_paid_0 : decode cX4_paid 0 = .ok (.aload_n 0, 1) := by decide +kernel
theorem dX4_paid_1 : decode cX4_paid 1 = .ok (.iload_n 1, 1) := by decide +kernel
theorem dX4_paid_2 : decode cX4_paid 2 = .ok (.invokevirtual 49, 3) := by decide +kernel
theorem dX4_paid_5 : decode cX4_paid 5 = .ok (.aload_n 0, 1) := by decide +kernel
theorem dX4_paid_6 : decode cX4_paid 6 = .ok (.getfield 41, 3) := by decide +kernel
theorem dX4_paid_9 : decode cX4_paid 9 = .ok (.iload_n 1, 1) := by decide +kernel
theorem dX4_paid_10 : decode cX4_paid 10 = .ok (.laload, 1) := by decide +kernel
theorem dX4_paid_11 : decode cX4_paid 11 = .ok (.lreturn, 1) := by decide +kernel
theorem dX4_checkLand_0 : decode cX4_checkLand 0 = .ok (.iload_n 1, 1) := by decide +kernel
theorem dX4_checkLand_1 : decode cX4_checkLand 1 = .ok (.ifCond .lt 9, 3) := by decide +kernel
theorem dX4_checkLand_4 : decode cX4_checkLand 4 = .ok (.iload_n 1, 1) := by decide +kernel
theorem dX4_checkLand_5 : decode cX4_checkLand 5 = .ok (.bipush 8, 2) := by decide +kernel
theorem dX4_checkLand_7 : decode cX4_checkLand 7 = .ok (.if_icmp .lt 14, 3) := by decide +kernel
theorem dX4_checkLand_10 : decode cX4_checkLand 10 = .ok (.new 277, 3) := by decide +kernel
theorem dX4_checkLand_13 : decode cX4_checkLand 13 = .ok (.dup, 1) := by decide +kernel
theorem dX4_checkLand_14 : decode cX4_checkLand 14 = .ok (.ldc_w 282, 3) := by decide +kernel
theorem dX4_checkLand_17 : decode cX4_checkLand 17 = .ok (.invokespecial 281, 3) := by decide +kernel
theorem dX4_checkLand_20 : decode cX4_checkLand 20 = .ok (.athrow, 1) := by decide +kernel
theorem dX4_checkLand_21 : decode cX4_checkLand 21 = .ok (.return_, 1) := by decide +kernel
theorem dX4_checkSlot_0 : decode cX4_checkSlot 0 = .ok (.iload_n 1, 1) := by decide +kernel
theorem dX4_checkSlot_1 : decode cX4_checkSlot 1 = .ok (.ifCond .lt 10, 3) := by decide +kernel
theorem dX4_checkSlot_4 : decode cX4_checkSlot 4 = .ok (.iload_n 1, 1) := by decide +kernel
theorem dX4_checkSlot_5 : decode cX4_checkSlot 5 = .ok (.sipush 360, 3) := by decide +kernel
theorem dX4_checkSlot_8 : decode cX4_checkSlot 8 = .ok (.if_icmp .lt 14, 3) := by decide +kernel
theorem dX4_checkSlot_11 : decode cX4_checkSlot 11 = .ok (.new 277, 3) := by decide +kernel
theorem dX4_checkSlot_14 : decode cX4_checkSlot 14 = .ok (.dup, 1) := by decide +kernel
theorem dX4_checkSlot_15 : decode cX4_checkSlot 15 = .ok (.ldc_w 284, 3) := by decide +kernel
theorem dX4_checkSlot_18 : decode cX4_checkSlot 18 = .ok (.invokespecial 281, 3) := by decide +kernel
theorem dX4_checkSlot_21 : decode cX4_checkSlot 21 = .ok (.athrow, 1) := by decide +kernel
theorem dX4_checkSlot_22 : decode cX4_checkSlot 22 = .ok (.return_, 1) := by decide +kernel
theorem dX4_checkBand_0 : decode cX4_checkBand 0 = .ok (.iload_n 1, 1) := by decide +kernel
theorem dX4_checkBand_1 : decode cX4_checkBand 1 = .ok (.ifCond .lt 8, 3) := by decide +kernel
theorem dX4_checkBand_4 : decode cX4_checkBand 4 = .ok (.iload_n 1, 1) := by decide +kernel
theorem dX4_checkBand_5 : decode cX4_checkBand 5 = .ok (.iconst 5, 1) := by decide +kernel
theorem dX4_checkBand_6 : decode cX4_checkBand 6 = .ok (.if_icmp .lt 14, 3) := by decide +kernel
theorem dX4_checkBand_9 : decode cX4_checkBand 9 = .ok (.new 277, 3) := by decide +kernel
theorem dX4_checkBand_12 : decode cX4_checkBand 12 = .ok (.dup, 1) := by decide +kernel
theorem dX4_checkBand_13 : decode cX4_checkBand 13 = .ok (.ldc_w 286, 3) := by decide +kernel
theorem dX4_checkBand_16 : decode cX4_checkBand 16 = .ok (.invokespecial 281, 3) := by decide +kernel
theorem dX4_checkBand_19 : decode cX4_checkBand 19 = .ok (.athrow, 1) := by decide +kernel
theorem dX4_checkBand_20 : decode cX4_checkBand 20 = .ok (.return_, 1) := by decide +kernel
theorem dX4_checkFiling_0 : decode cX4_checkFiling 0 = .ok (.iload_n 1, 1) := by decide +kernel
theorem dX4_checkFiling_1 : decode cX4_checkFiling 1 = .ok (.ifCond .lt 14, 3) := by decide +kernel
theorem dX4_checkFiling_4 : decode cX4_checkFiling 4 = .ok (.iload_n 1, 1) := by decide +kernel
theorem dX4_checkFiling_5 : decode cX4_checkFiling 5 = .ok (.aload_n 0, 1) := by decide +kernel
theorem dX4_checkFiling_6 : decode cX4_checkFiling 6 = .ok (.getfield 10, 3) := by decide +kernel
theorem dX4_checkFiling_9 : decode cX4_checkFiling 9 = .ok (.getfield 62, 3) := by decide +kernel
theorem dX4_checkFiling_12 : decode cX4_checkFiling 12 = .ok (.if_icmp .lt 14, 3) := by decide +kernel
theorem dX4_checkFiling_15 : decode cX4_checkFiling 15 = .ok (.new 277, 3) := by decide +kernel
theorem dX4_checkFiling_18 : decode cX4_checkFiling 18 = .ok (.dup, 1) := by decide +kernel
theorem dX4_checkFiling_19 : decode cX4_checkFiling 19 = .ok (.ldc_w 288, 3) := by decide +kernel
theorem dX4_checkFiling_22 : decode cX4_checkFiling 22 = .ok (.invokespecial 281, 3) := by decide +kernel
theorem dX4_checkFiling_25 : decode cX4_checkFiling 25 = .ok (.athrow, 1) := by decide +kernel
theorem dX4_checkFiling_26 : decode cX4_checkFiling 26 = .ok (.return_, 1) := by decide +kernel
theorem dX4_checkSatellite_0 : decode cX4_checkSatellite 0 = .ok (.iload_n 1, 1) := by decide +kernel
theorem dX4_checkSatellite_1 : decode cX4_checkSatellite 1 = .ok (.ifCond .lt 14, 3) := by decide +kernel
theorem dX4_checkSatellite_4 : decode cX4_checkSatellite 4 = .ok (.iload_n 1, 1) := by decide +kernel
theorem dX4_checkSatellite_5 : decode cX4_checkSatellite 5 = .ok (.aload_n 0, 1) := by decide +kernel
theorem dX4_checkSatellite_6 : decode cX4_checkSatellite 6 = .ok (.getfield 19, 3) := by decide +kernel
theorem dX4_checkSatellite_9 : decode cX4_checkSatellite 9 = .ok (.getfield 174, 3) := by decide +kernel
theorem dX4_checkSatellite_12 : decode cX4_checkSatellite 12 = .ok (.if_icmp .lt 14, 3) := by decide +kernel
theorem dX4_checkSatellite_15 : decode cX4_checkSatellite 15 = .ok (.new 277, 3) := by decide +kernel
theorem dX4_checkSatellite_18 : decode cX4_checkSatellite 18 = .ok (.dup, 1) := by decide +kernel
theorem dX4_checkSatellite_19 : decode cX4_checkSatellite 19 = .ok (.ldc_w 290, 3) := by decide +kernel
theorem dX4_checkSatellite_22 : decode cX4_checkSatellite 22 = .ok (.invokespecial 281, 3) := by decide +kernel
theorem dX4_checkSatellite_25 : decode cX4_checkSatellite 25 = .ok (.athrow, 1) := by decide +kernel
theorem dX4_checkSatellite_26 : decode cX4_checkSatellite 26 = .ok (.return_, 1) := by decide +kernel
theorem dX4_checkPower_0 : decode cX4_checkPower 0 = .ok (.iload_n 1, 1) := by decide +kernel
theorem dX4_checkPower_1 : decode cX4_checkPower 1 = .ok (.iconst 1, 1) := by decide +kernel
theorem dX4_checkPower_2 : decode cX4_checkPower 2 = .ok (.if_icmp .lt 9, 3) := by decide +kernel
theorem dX4_checkPower_5 : decode cX4_checkPower 5 = .ok (.iload_n 1, 1) := by decide +kernel
theorem dX4_checkPower_6 : decode cX4_checkPower 6 = .ok (.bipush 50, 2) := by decide +kernel
theorem dX4_checkPower_8 : decode cX4_checkPower 8 = .ok (.if_icmp .le 14, 3) := by decide +kernel
theorem dX4_checkPower_11 : decode cX4_checkPower 11 = .ok (.new 83, 3) := by decide +kernel
theorem dX4_checkPower_14 : decode cX4_checkPower 14 = .ok (.dup, 1) := by decide +kernel
theorem dX4_checkPower_15 : decode cX4_checkPower 15 = .ok (.ldc_w 292, 3) := by decide +kernel
theorem dX4_checkPower_18 : decode cX4_checkPower 18 = .ok (.invokespecial 87, 3) := by decide +kernel
theorem dX4_checkPower_21 : decode cX4_checkPower 21 = .ok (.athrow, 1) := by decide +kernel
theorem dX4_checkPower_22 : decode cX4_checkPower 22 = .ok (.return_, 1) := by decide +kernel
set_option maxRecDepth 20000 in
theorem ggX4_checkNotLapsed_X1_isLapsed : GoodIn wsX4_checkNotLapsed wsX1_isLapsed := goodIn_r _ [8, 9, 17, 18, 19, 20, 21, 22, 23, 24, 25, 26, 27, 28, 29] (by decide +kernel) (by decide +kernel)
set_option maxRecDepth 20000 in
theorem gX4_checkNotLapsed_X1_isLapsed : GoodIn wsX4_checkNotLapsed (wsV RX4 268 RX1 yX1_isLapsed wsX1_isLapsed) := goodIn_app (goodIn_of _ (by decide +kernel)) ggX4_checkNotLapsed_X1_isLapsed
theorem dX4_checkNotLapsed_0 : decode cX4_checkNotLapsed 0 = .ok (.aload_n 0, 1) := by decide +kernel
theorem dX4_checkNotLapsed_1 : decode cX4_checkNotLapsed 1 = .ok (.getfield 10, 3) := by decide +kernel
theorem dX4_checkNotLapsed_4 : decode cX4_checkNotLapsed 4 = .ok (.iload_n 1, 1) := by decide +kernel
theorem dX4_checkNotLapsed_5 : decode cX4_checkNotLapsed 5 = .ok (.invokevirtual 268, 3) := by decide +kernel
theorem dX4_checkNotLapsed_8 : decode cX4_checkNotLapsed 8 = .ok (.ifCond .eq 14, 3) := by decide +kernel
theorem dX4_checkNotLapsed_11 : decode cX4_checkNotLapsed 11 = .ok (.new 65, 3) := by decide +kernel
theorem dX4_checkNotLapsed_14 : decode cX4_checkNotLapsed 14 = .ok (.dup, 1) := by decide +kernel
theorem dX4_checkNotLapsed_15 : decode cX4_checkNotLapsed 15 = .ok (.ldc_w 294, 3) := by decide +kernel
theorem dX4_checkNotLapsed_18 : decode cX4_checkNotLapsed 18 = .ok (.invokespecial 69, 3) := by decide +kernel
theorem dX4_checkNotLapsed_21 : decode cX4_checkNotLapsed 21 = .ok (.athrow, 1) := by decide +kernel
theorem dX4_checkNotLapsed_22 : decode cX4_checkNotLapsed 22 = .ok (.return_, 1) := by decide +kernel
theorem dX4_checkInUse_0 : decode cX4_checkInUse 0 = .ok (.aload_n 0, 1) := by decide +kernel
theorem dX4_checkInUse_1 : decode cX4_checkInUse 1 = .ok (.getfield 10, 3) := by decide +kernel
theorem dX4_checkInUse_4 : decode cX4_checkInUse 4 = .ok (.getfield 106, 3) := by decide +kernel
theorem dX4_checkInUse_7 : decode cX4_checkInUse 7 = .ok (.iload_n 1, 1) := by decide +kernel
theorem dX4_checkInUse_8 : decode cX4_checkInUse 8 = .ok (.iaload, 1) := by decide +kernel
theorem dX4_checkInUse_9 : decode cX4_checkInUse 9 = .ok (.iconst 2, 1) := by decide +kernel
theorem dX4_checkInUse_10 : decode cX4_checkInUse 10 = .ok (.if_icmp .eq 14, 3) := by decide +kernel
theorem dX4_checkInUse_13 : decode cX4_checkInUse 13 = .ok (.new 65, 3) := by decide +kernel
theorem dX4_checkInUse_16 : decode cX4_checkInUse 16 = .ok (.dup, 1) := by decide +kernel
theorem dX4_checkInUse_17 : decode cX4_checkInUse 17 = .ok (.ldc_w 296, 3) := by decide +kernel
theorem dX4_checkInUse_20 : decode cX4_checkInUse 20 = .ok (.invokespecial 69, 3) := by decide +kernel
theorem dX4_checkInUse_23 : decode cX4_checkInUse 23 = .ok (.athrow, 1) := by decide +kernel
theorem dX4_checkInUse_24 : decode cX4_checkInUse 24 = .ok (.return_, 1) := by decide +kernel
theorem dX4_checkActive_0 : decode cX4_checkActive 0 = .ok (.aload_n 0, 1) := by decide +kernel
theorem dX4_checkActive_1 : decode cX4_checkActive 1 = .ok (.getfield 19, 3) := by decide +kernel
theorem dX4_checkActive_4 : decode cX4_checkActive 4 = .ok (.getfield 199, 3) := by decide +kernel
theorem dX4_checkActive_7 : decode cX4_checkActive 7 = .ok (.iload_n 1, 1) := by decide +kernel
theorem dX4_checkActive_8 : decode cX4_checkActive 8 = .ok (.iaload, 1) := by decide +kernel
theorem dX4_checkActive_9 : decode cX4_checkActive 9 = .ok (.ifCond .eq 14, 3) := by decide +kernel
theorem dX4_checkActive_12 : decode cX4_checkActive 12 = .ok (.new 65, 3) := by decide +kernel
theorem dX4_checkActive_15 : decode cX4_checkActive 15 = .ok (.dup, 1) := by decide +kernel
theorem dX4_checkActive_16 : decode cX4_checkActive 16 = .ok (.ldc_w 298, 3) := by decide +kernel
theorem dX4_checkActive_19 : decode cX4_checkActive 19 = .ok (.invokespecial 69, 3) := by decide +kernel
theorem dX4_checkActive_22 : decode cX4_checkActive 22 = .ok (.athrow, 1) := by decide +kernel
theorem dX4_checkActive_23 : decode cX4_checkActive 23 = .ok (.return_, 1) := by decide +kernel
theorem dX4_checkFuel_0 : decode cX4_checkFuel 0 = .ok (.aload_n 0, 1) := by decide +kernel
theorem dX4_checkFuel_1 : decode cX4_checkFuel 1 = .ok (.getfield 19, 3) := by decide +kernel
theorem dX4_checkFuel_4 : decode cX4_checkFuel 4 = .ok (.getfield 193, 3) := by decide +kernel
theorem dX4_checkFuel_7 : decode cX4_checkFuel 7 = .ok (.iload_n 1, 1) := by decide +kernel
theorem dX4_checkFuel_8 : decode cX4_checkFuel 8 = .ok (.iaload, 1) := by decide +kernel
theorem dX4_checkFuel_9 : decode cX4_checkFuel 9 = .ok (.iload_n 2, 1) := by decide +kernel
theorem dX4_checkFuel_10 : decode cX4_checkFuel 10 = .ok (.if_icmp .ge 14, 3) := by decide +kernel
theorem dX4_checkFuel_13 : decode cX4_checkFuel 13 = .ok (.new 65, 3) := by decide +kernel
theorem dX4_checkFuel_16 : decode cX4_checkFuel 16 = .ok (.dup, 1) := by decide +kernel
theorem dX4_checkFuel_17 : decode cX4_checkFuel 17 = .ok (.ldc_w 300, 3) := by decide +kernel
theorem dX4_checkFuel_20 : decode cX4_checkFuel 20 = .ok (.invokespecial 69, 3) := by decide +kernel
theorem dX4_checkFuel_23 : decode cX4_checkFuel 23 = .ok (.athrow, 1) := by decide +kernel
theorem dX4_checkFuel_24 : decode cX4_checkFuel 24 = .ok (.return_, 1) := by decide +kernel
set_option maxRecDepth 20000 in
theorem ggX4_depart_X2_note : GoodIn wsX4_depart wsX2_note := goodIn_r _ [8, 9, 10, 11, 12, 13, 34, 35, 36, 37, 38] (by decide +kernel) (by decide +kernel)
set_option maxRecDepth 20000 in
theorem gX4_depart_X2_note : GoodIn wsX4_depart (wsV RX4 76 RX2 yX2_note wsX2_note) := goodIn_app (goodIn_of _ (by decide +kernel)) ggX4_depart_X2_note
set_option maxRecDepth 20000 in
theorem ggX4_depart_X1_suspendServedBy : GoodIn wsX4_depart wsX1_suspendServedBy := goodIn_r _ [18, 19, 20, 21, 22, 23, 17, 24, 25, 26, 39, 40, 41, 42, 43, 44, 45, 46, 47, 48, 49, 50, 51] (by decide +kernel) (by decide +kernel)
set_option maxRecDepth 20000 in
theorem gX4_depart_X1_suspendServedBy : GoodIn wsX4_depart (wsV RX4 302 RX1 yX1_suspendServedBy wsX1_suspendServedBy) := goodIn_app (goodIn_of _ (by decide +kernel)) ggX4_depart_X1_suspendServedBy
theorem dX4_depart_0 : decode cX4_depart 0 = .ok (.aload_n 0, 1) := by decide +kernel
theorem dX4_depart_1 : decode cX4_depart 1 = .ok (.getfield 26, 3) := by decide +kernel
theorem dX4_depart_4 : decode cX4_depart 4 = .ok (.bipush 6, 2) := by decide +kernel
theorem dX4_depart_6 : decode cX4_depart 6 = .ok (.aload_n 0, 1) := by decide +kernel
theorem dX4_depart_7 : decode cX4_depart 7 = .ok (.getfield 45, 3) := by decide +kernel
theorem dX4_depart_10 : decode cX4_depart 10 = .ok (.iload_n 1, 1) := by decide +kernel
theorem dX4_depart_11 : decode cX4_depart 11 = .ok (.iconst (-1), 1) := by decide +kernel
theorem dX4_depart_12 : decode cX4_depart 12 = .ok (.invokevirtual 76, 3) := by decide +kernel
theorem dX4_depart_15 : decode cX4_depart 15 = .ok (.aload_n 0, 1) := by decide +kernel
theorem dX4_depart_16 : decode cX4_depart 16 = .ok (.getfield 10, 3) := by decide +kernel
theorem dX4_depart_19 : decode cX4_depart 19 = .ok (.iload_n 1, 1) := by decide +kernel
theorem dX4_depart_20 : decode cX4_depart 20 = .ok (.aload_n 0, 1) := by decide +kernel
theorem dX4_depart_21 : decode cX4_depart 21 = .ok (.getfield 45, 3) := by decide +kernel
theorem dX4_depart_24 : decode cX4_depart 24 = .ok (.invokevirtual 302, 3) := by decide +kernel
theorem dX4_depart_27 : decode cX4_depart 27 = .ok (.ireturn, 1) := by decide +kernel
set_option maxRecDepth 20000 in
theorem ggX4_meetAsBothCanDodge_X3_dodge : GoodIn wsX4_meetAsBothCanDodge wsX3_dodge := goodIn_r _ [11, 12, 54, 55, 56, 57, 58, 59, 60, 61] (by decide +kernel) (by decide +kernel)
set_option maxRecDepth 20000 in
theorem gX4_meetAsBothCanDodge_X3_dodge : GoodIn wsX4_meetAsBothCanDodge (wsV RX4 213 RX3 yX3_dodge wsX3_dodge) := goodIn_app (goodIn_of _ (by decide +kernel)) ggX4_meetAsBothCanDodge_X3_dodge
set_option maxRecDepth 20000 in
theorem ggX4_meetAsBothCanDodge_X4_collide : GoodIn wsX4_meetAsBothCanDodge wsX4_collide := goodIn_r _ [17, 1, 18, 19, 20, 21, 22, 23, 24, 25, 26, 27, 28, 29, 30, 31, 32, 33, 34, 35, 36, 37, 38, 39, 40, 41, 42, 43, 44, 45, 46, 47, 48, 49, 50, 51, 52, 53, 54, 55, 56, 57, 58, 59, 60, 61, 62, 63, 64, 65, 66, 67, 68, 69, 70, 71, 72, 73, 74, 75, 76, 77, 78, 79] (by decide +kernel) (by decide +kernel)
set_option maxRecDepth 20000 in
theorem gX4_meetAsBothCanDodge_X4_collide : GoodIn wsX4_meetAsBothCanDodge (wsV RX4 216 RX4 yX4_collide wsX4_collide) := goodIn_app (goodIn_of _ (by decide +kernel)) ggX4_meetAsBothCanDodge_X4_collide
theorem dX4_meetAsBothCanDodge_0 : decode cX4_meetAsBothCanDodge 0 = .ok (.aload_n 0, 1) := by decide +kernel
theorem dX4_meetAsBothCanDodge_1 : decode cX4_meetAsBothCanDodge 1 = .ok (.getfield 19, 3) := by decide +kernel
theorem dX4_meetAsBothCanDodge_4 : decode cX4_meetAsBothCanDodge 4 = .ok (.getfield 305, 3) := by decide +kernel
theorem dX4_meetAsBothCanDodge_7 : decode cX4_meetAsBothCanDodge 7 = .ok (.iload_n 1, 1) := by decide +kernel
theorem dX4_meetAsBothCanDodge_8 : decode cX4_meetAsBothCanDodge 8 = .ok (.baload, 1) := by decide +kernel
theorem dX4_meetAsBothCanDodge_9 : decode cX4_meetAsBothCanDodge 9 = .ok (.ifCond .eq 66, 3) := by decide +kernel
theorem dX4_meetAsBothCanDodge_12 : decode cX4_meetAsBothCanDodge 12 = .ok (.aload_n 0, 1) := by decide +kernel
theorem dX4_meetAsBothCanDodge_13 : decode cX4_meetAsBothCanDodge 13 = .ok (.getfield 19, 3) := by decide +kernel
theorem dX4_meetAsBothCanDodge_16 : decode cX4_meetAsBothCanDodge 16 = .ok (.getfield 305, 3) := by decide +kernel
theorem dX4_meetAsBothCanDodge_19 : decode cX4_meetAsBothCanDodge 19 = .ok (.iload_n 2, 1) := by decide +kernel
theorem dX4_meetAsBothCanDodge_20 : decode cX4_meetAsBothCanDodge 20 = .ok (.baload, 1) := by decide +kernel
theorem dX4_meetAsBothCanDodge_21 : decode cX4_meetAsBothCanDodge 21 = .ok (.ifCond .eq 54, 3) := by decide +kernel
theorem dX4_meetAsBothCanDodge_24 : decode cX4_meetAsBothCanDodge 24 = .ok (.aload_n 0, 1) := by decide +kernel
theorem dX4_meetAsBothCanDodge_25 : decode cX4_meetAsBothCanDodge 25 = .ok (.getfield 19, 3) := by decide +kernel
theorem dX4_meetAsBothCanDodge_28 : decode cX4_meetAsBothCanDodge 28 = .ok (.iload_n 1, 1) := by decide +kernel
theorem dX4_meetAsBothCanDodge_29 : decode cX4_meetAsBothCanDodge 29 = .ok (.invokevirtual 213, 3) := by decide +kernel
theorem dX4_meetAsBothCanDodge_32 : decode cX4_meetAsBothCanDodge 32 = .ok (.aload_n 0, 1) := by decide +kernel
theorem dX4_meetAsBothCanDodge_33 : decode cX4_meetAsBothCanDodge 33 = .ok (.getfield 19, 3) := by decide +kernel
theorem dX4_meetAsBothCanDodge_36 : decode cX4_meetAsBothCanDodge 36 = .ok (.iload_n 2, 1) := by decide +kernel
theorem dX4_meetAsBothCanDodge_37 : decode cX4_meetAsBothCanDodge 37 = .ok (.invokevirtual 213, 3) := by decide +kernel
theorem dX4_meetAsBothCanDodge_40 : decode cX4_meetAsBothCanDodge 40 = .ok (.iload_n 1, 1) := by decide +kernel
theorem dX4_meetAsBothCanDodge_41 : decode cX4_meetAsBothCanDodge 41 = .ok (.iconst 1, 1) := by decide +kernel
theorem dX4_meetAsBothCanDodge_42 : decode cX4_meetAsBothCanDodge 42 = .ok (.iand, 1) := by decide +kernel
theorem dX4_meetAsBothCanDodge_43 : decode cX4_meetAsBothCanDodge 43 = .ok (.iload_n 2, 1) := by decide +kernel
theorem dX4_meetAsBothCanDodge_44 : decode cX4_meetAsBothCanDodge 44 = .ok (.iconst 1, 1) := by decide +kernel
theorem dX4_meetAsBothCanDodge_45 : decode cX4_meetAsBothCanDodge 45 = .ok (.iand, 1) := by decide +kernel
theorem dX4_meetAsBothCanDodge_46 : decode cX4_meetAsBothCanDodge 46 = .ok (.if_icmp .ne 7, 3) := by decide +kernel
theorem dX4_meetAsBothCanDodge_49 : decode cX4_meetAsBothCanDodge 49 = .ok (.iconst 1, 1) := by decide +kernel
theorem dX4_meetAsBothCanDodge_50 : decode cX4_meetAsBothCanDodge 50 = .ok (.goto 4, 3) := by decide +kernel
theorem dX4_meetAsBothCanDodge_53 : decode cX4_meetAsBothCanDodge 53 = .ok (.iconst 0, 1) := by decide +kernel
theorem dX4_meetAsBothCanDodge_54 : decode cX4_meetAsBothCanDodge 54 = .ok (.istore_n 3, 1) := by decide +kernel
theorem dX4_meetAsBothCanDodge_55 : decode cX4_meetAsBothCanDodge 55 = .ok (.iload_n 3, 1) := by decide +kernel
theorem dX4_meetAsBothCanDodge_56 : decode cX4_meetAsBothCanDodge 56 = .ok (.ifCond .eq 9, 3) := by decide +kernel
theorem dX4_meetAsBothCanDodge_59 : decode cX4_meetAsBothCanDodge 59 = .ok (.aload_n 0, 1) := by decide +kernel
theorem dX4_meetAsBothCanDodge_60 : decode cX4_meetAsBothCanDodge 60 = .ok (.iload_n 1, 1) := by decide +kernel
theorem dX4_meetAsBothCanDodge_61 : decode cX4_meetAsBothCanDodge 61 = .ok (.iload_n 2, 1) := by decide +kernel
theorem dX4_meetAsBothCanDodge_62 : decode cX4_meetAsBothCanDodge 62 = .ok (.invokevirtual 216, 3) := by decide +kernel
theorem dX4_meetAsBothCanDodge_65 : decode cX4_meetAsBothCanDodge 65 = .ok (.iload_n 3, 1) := by decide +kernel
theorem dX4_meetAsBothCanDodge_66 : decode cX4_meetAsBothCanDodge 66 = .ok (.ifCond .eq 7, 3) := by decide +kernel
theorem dX4_meetAsBothCanDodge_69 : decode cX4_meetAsBothCanDodge 69 = .ok (.iconst 4, 1) := by decide +kernel
theorem dX4_meetAsBothCanDodge_70 : decode cX4_meetAsBothCanDodge 70 = .ok (.goto 4, 3) := by decide +kernel
theorem dX4_meetAsBothCanDodge_73 : decode cX4_meetAsBothCanDodge 73 = .ok (.iconst 3, 1) := by decide +kernel
theorem dX4_meetAsBothCanDodge_74 : decode cX4_meetAsBothCanDodge 74 = .ok (.ireturn, 1) := by decide +kernel
theorem dX4_meetAsBothCanDodge_75 : decode cX4_meetAsBothCanDodge 75 = .ok (.aload_n 0, 1) := by decide +kernel
theorem dX4_meetAsBothCanDodge_76 : decode cX4_meetAsBothCanDodge 76 = .ok (.getfield 19, 3) := by decide +kernel
theorem dX4_meetAsBothCanDodge_79 : decode cX4_meetAsBothCanDodge 79 = .ok (.iload_n 1, 1) := by decide +kernel
theorem dX4_meetAsBothCanDodge_80 : decode cX4_meetAsBothCanDodge 80 = .ok (.iload_n 2, 1) := by decide +kernel
theorem dX4_meetAsBothCanDodge_81 : decode cX4_meetAsBothCanDodge 81 = .ok (.invokestatic 308, 3) := by decide +kernel
theorem dX4_meetAsBothCanDodge_84 : decode cX4_meetAsBothCanDodge 84 = .ok (.invokevirtual 213, 3) := by decide +kernel
theorem dX4_meetAsBothCanDodge_87 : decode cX4_meetAsBothCanDodge 87 = .ok (.iload_n 1, 1) := by decide +kernel
theorem dX4_meetAsBothCanDodge_88 : decode cX4_meetAsBothCanDodge 88 = .ok (.iload_n 2, 1) := by decide +kernel
theorem dX4_meetAsBothCanDodge_89 : decode cX4_meetAsBothCanDodge 89 = .ok (.if_icmp .le 7, 3) := by decide +kernel
theorem dX4_meetAsBothCanDodge_92 : decode cX4_meetAsBothCanDodge 92 = .ok (.iconst 1, 1) := by decide +kernel
theorem dX4_meetAsBothCanDodge_93 : decode cX4_meetAsBothCanDodge 93 = .ok (.goto 4, 3) := by decide +kernel
theorem dX4_meetAsBothCanDodge_96 : decode cX4_meetAsBothCanDodge 96 = .ok (.iconst 2, 1) := by decide +kernel
theorem dX4_meetAsBothCanDodge_97 : decode cX4_meetAsBothCanDodge 97 = .ok (.ireturn, 1) := by decide +kernel
set_option maxRecDepth 20000 in
theorem ggX4_collide_X1_suspendServedBy : GoodIn wsX4_collide wsX1_suspendServedBy := goodIn_r _ [12, 13, 14, 15, 16, 17, 11, 18, 19, 20, 46, 47, 48, 49, 50, 51, 52, 53, 54, 55, 56, 57, 58] (by decide +kernel) (by decide +kernel)
set_option maxRecDepth 20000 in
theorem gX4_collide_X1_suspendServedBy : GoodIn wsX4_collide (wsV RX4 302 RX1 yX1_suspendServedBy wsX1_suspendServedBy) := goodIn_app (goodIn_of _ (by decide +kernel)) ggX4_collide_X1_suspendServedBy
set_option maxRecDepth 20000 in
theorem ggX4_collide_X2_note : GoodIn wsX4_collide wsX2_note := goodIn_r _ [25, 26, 27, 28, 29, 30, 59, 60, 61, 62, 63] (by decide +kernel) (by decide +kernel)
set_option maxRecDepth 20000 in
theorem gX4_collide_X2_note : GoodIn wsX4_collide (wsV RX4 76 RX2 yX2_note wsX2_note) := goodIn_app (goodIn_of _ (by decide +kernel)) ggX4_collide_X2_note
theorem dX4_collide_0 : decode cX4_collide 0 = .ok (.aload_n 0, 1) := by decide +kernel
theorem dX4_collide_1 : decode cX4_collide 1 = .ok (.getfield 19, 3) := by decide +kernel
theorem dX4_collide_4 : decode cX4_collide 4 = .ok (.getfield 149, 3) := by decide +kernel
theorem dX4_collide_7 : decode cX4_collide 7 = .ok (.iload_n 1, 1) := by decide +kernel
theorem dX4_collide_8 : decode cX4_collide 8 = .ok (.iaload, 1) := by decide +kernel
theorem dX4_collide_9 : decode cX4_collide 9 = .ok (.bipush 10, 2) := by decide +kernel
theorem dX4_collide_11 : decode cX4_collide 11 = .ok (.idiv, 1) := by decide +kernel
theorem dX4_collide_12 : decode cX4_collide 12 = .ok (.istore_n 3, 1) := by decide +kernel
theorem dX4_collide_13 : decode cX4_collide 13 = .ok (.iload_n 3, 1) := by decide +kernel
theorem dX4_collide_14 : decode cX4_collide 14 = .ok (.ifCond .lt 20, 3) := by decide +kernel
theorem dX4_collide_17 : decode cX4_collide 17 = .ok (.iload_n 3, 1) := by decide +kernel
theorem dX4_collide_18 : decode cX4_collide 18 = .ok (.bipush 36, 2) := by decide +kernel
theorem dX4_collide_20 : decode cX4_collide 20 = .ok (.if_icmp .ge 14, 3) := by decide +kernel
theorem dX4_collide_23 : decode cX4_collide 23 = .ok (.aload_n 0, 1) := by decide +kernel
theorem dX4_collide_24 : decode cX4_collide 24 = .ok (.getfield 37, 3) := by decide +kernel
theorem dX4_collide_27 : decode cX4_collide 27 = .ok (.iload_n 3, 1) := by decide +kernel
theorem dX4_collide_28 : decode cX4_collide 28 = .ok (.dup2, 1) := by decide +kernel
theorem dX4_collide_29 : decode cX4_collide 29 = .ok (.iaload, 1) := by decide +kernel
theorem dX4_collide_30 : decode cX4_collide 30 = .ok (.bipush 100, 2) := by decide +kernel
theorem dX4_collide_32 : decode cX4_collide 32 = .ok (.iadd, 1) := by decide +kernel
theorem dX4_collide_33 : decode cX4_collide 33 = .ok (.iastore, 1) := by decide +kernel
theorem dX4_collide_34 : decode cX4_collide 34 = .ok (.aload_n 0, 1) := by decide +kernel
theorem dX4_collide_35 : decode cX4_collide 35 = .ok (.getfield 19, 3) := by decide +kernel
theorem dX4_collide_38 : decode cX4_collide 38 = .ok (.getfield 199, 3) := by decide +kernel
theorem dX4_collide_41 : decode cX4_collide 41 = .ok (.iload_n 1, 1) := by decide +kernel
theorem dX4_collide_42 : decode cX4_collide 42 = .ok (.iconst 2, 1) := by decide +kernel
theorem dX4_collide_43 : decode cX4_collide 43 = .ok (.iastore, 1) := by decide +kernel
theorem dX4_collide_44 : decode cX4_collide 44 = .ok (.aload_n 0, 1) := by decide +kernel
theorem dX4_collide_45 : decode cX4_collide 45 = .ok (.getfield 19, 3) := by decide +kernel
theorem dX4_collide_48 : decode cX4_collide 48 = .ok (.getfield 199, 3) := by decide +kernel
theorem dX4_collide_51 : decode cX4_collide 51 = .ok (.iload_n 2, 1) := by decide +kernel
theorem dX4_collide_52 : decode cX4_collide 52 = .ok (.iconst 2, 1) := by decide +kernel
theorem dX4_collide_53 : decode cX4_collide 53 = .ok (.iastore, 1) := by decide +kernel
theorem dX4_collide_54 : decode cX4_collide 54 = .ok (.aload_n 0, 1) := by decide +kernel
theorem dX4_collide_55 : decode cX4_collide 55 = .ok (.getfield 10, 3) := by decide +kernel
theorem dX4_collide_58 : decode cX4_collide 58 = .ok (.iload_n 1, 1) := by decide +kernel
theorem dX4_collide_59 : decode cX4_collide 59 = .ok (.aload_n 0, 1) := by decide +kernel
theorem dX4_collide_60 : decode cX4_collide 60 = .ok (.getfield 45, 3) := by decide +kernel
theorem dX4_collide_63 : decode cX4_collide 63 = .ok (.invokevirtual 302, 3) := by decide +kernel
theorem dX4_collide_66 : decode cX4_collide 66 = .ok (.pop, 1) := by decide +kernel
theorem dX4_collide_67 : decode cX4_collide 67 = .ok (.aload_n 0, 1) := by decide +kernel
theorem dX4_collide_68 : decode cX4_collide 68 = .ok (.getfield 10, 3) := by decide +kernel
theorem dX4_collide_71 : decode cX4_collide 71 = .ok (.iload_n 2, 1) := by decide +kernel
theorem dX4_collide_72 : decode cX4_collide 72 = .ok (.aload_n 0, 1) := by decide +kernel
theorem dX4_collide_73 : decode cX4_collide 73 = .ok (.getfield 45, 3) := by decide +kernel
theorem dX4_collide_76 : decode cX4_collide 76 = .ok (.invokevirtual 302, 3) := by decide +kernel
theorem dX4_collide_79 : decode cX4_collide 79 = .ok (.pop, 1) := by decide +kernel
theorem dX4_collide_80 : decode cX4_collide 80 = .ok (.aload_n 0, 1) := by decide +kernel
theorem dX4_collide_81 : decode cX4_collide 81 = .ok (.getfield 26, 3) := by decide +kernel
theorem dX4_collide_84 : decode cX4_collide 84 = .ok (.bipush 7, 2) := by decide +kernel
theorem dX4_collide_86 : decode cX4_collide 86 = .ok (.aload_n 0, 1) := by decide +kernel
theorem dX4_collide_87 : decode cX4_collide 87 = .ok (.getfield 45, 3) := by decide +kernel
theorem dX4_collide_90 : decode cX4_collide 90 = .ok (.iload_n 1, 1) := by decide +kernel
theorem dX4_collide_91 : decode cX4_collide 91 = .ok (.iload_n 2, 1) := by decide +kernel
theorem dX4_collide_92 : decode cX4_collide 92 = .ok (.invokevirtual 76, 3) := by decide +kernel
theorem dX4_collide_95 : decode cX4_collide 95 = .ok (.return_, 1) := by decide +kernel
theorem dX4_driftPieces_0 : decode cX4_driftPieces 0 = .ok (.aload_n 0, 1) := by decide +kernel
theorem dX4_driftPieces_1 : decode cX4_driftPieces 1 = .ok (.getfield 37, 3) := by decide +kernel
theorem dX4_driftPieces_4 : decode cX4_driftPieces 4 = .ok (.bipush 35, 2) := by decide +kernel
theorem dX4_driftPieces_6 : decode cX4_driftPieces 6 = .ok (.iaload, 1) := by decide +kernel
theorem dX4_driftPieces_7 : decode cX4_driftPieces 7 = .ok (.bipush 10, 2) := by decide +kernel
theorem dX4_driftPieces_9 : decode cX4_driftPieces 9 = .ok (.idiv, 1) := by decide +kernel
theorem dX4_driftPieces_10 : decode cX4_driftPieces 10 = .ok (.istore_n 1, 1) := by decide +kernel
theorem dX4_driftPieces_11 : decode cX4_driftPieces 11 = .ok (.iconst 0, 1) := by decide +kernel
theorem dX4_driftPieces_12 : decode cX4_driftPieces 12 = .ok (.istore_n 2, 1) := by decide +kernel
theorem dX4_driftPieces_13 : decode cX4_driftPieces 13 = .ok (.iload_n 2, 1) := by decide +kernel
theorem dX4_driftPieces_14 : decode cX4_driftPieces 14 = .ok (.bipush 36, 2) := by decide +kernel
theorem dX4_driftPieces_16 : decode cX4_driftPieces 16 = .ok (.if_icmp .ge 33, 3) := by decide +kernel
theorem dX4_driftPieces_19 : decode cX4_driftPieces 19 = .ok (.aload_n 0, 1) := by decide +kernel
theorem dX4_driftPieces_20 : decode cX4_driftPieces 20 = .ok (.getfield 37, 3) := by decide +kernel
theorem dX4_driftPieces_23 : decode cX4_driftPieces 23 = .ok (.iload_n 2, 1) := by decide +kernel
theorem dX4_driftPieces_24 : decode cX4_driftPieces 24 = .ok (.iaload, 1) := by decide +kernel
theorem dX4_driftPieces_25 : decode cX4_driftPieces 25 = .ok (.bipush 10, 2) := by decide +kernel
theorem dX4_driftPieces_27 : decode cX4_driftPieces 27 = .ok (.idiv, 1) := by decide +kernel
theorem dX4_driftPieces_28 : decode cX4_driftPieces 28 = .ok (.istore_n 3, 1) := by decide +kernel
theorem dX4_driftPieces_29 : decode cX4_driftPieces 29 = .ok (.aload_n 0, 1) := by decide +kernel
theorem dX4_driftPieces_30 : decode cX4_driftPieces 30 = .ok (.getfield 37, 3) := by decide +kernel
theorem dX4_driftPieces_33 : decode cX4_driftPieces 33 = .ok (.iload_n 2, 1) := by decide +kernel
theorem dX4_driftPieces_34 : decode cX4_driftPieces 34 = .ok (.dup2, 1) := by decide +kernel
theorem dX4_driftPieces_35 : decode cX4_driftPieces 35 = .ok (.iaload, 1) := by decide +kernel
theorem dX4_driftPieces_36 : decode cX4_driftPieces 36 = .ok (.iload_n 1, 1) := by decide +kernel
theorem dX4_driftPieces_37 : decode cX4_driftPieces 37 = .ok (.iload_n 3, 1) := by decide +kernel
theorem dX4_driftPieces_38 : decode cX4_driftPieces 38 = .ok (.isub, 1) := by decide +kernel
theorem dX4_driftPieces_39 : decode cX4_driftPieces 39 = .ok (.iadd, 1) := by decide +kernel
theorem dX4_driftPieces_40 : decode cX4_driftPieces 40 = .ok (.iastore, 1) := by decide +kernel
theorem dX4_driftPieces_41 : decode cX4_driftPieces 41 = .ok (.iload_n 3, 1) := by decide +kernel
theorem dX4_driftPieces_42 : decode cX4_driftPieces 42 = .ok (.istore_n 1, 1) := by decide +kernel
theorem dX4_driftPieces_43 : decode cX4_driftPieces 43 = .ok (.iinc 2 1, 3) := by decide +kernel
theorem dX4_driftPieces_46 : decode cX4_driftPieces 46 = .ok (.goto (-33), 3) := by decide +kernel
theorem dX4_driftPieces_49 : decode cX4_driftPieces 49 = .ok (.return_, 1) := by decide +kernel
theorem dX4_lapseDay_0 : decode cX4_lapseDay 0 = .ok (.iload_n 0, 1) := by decide +kernel
theorem dX4_lapseDay_1 : decode cX4_lapseDay 1 = .ok (.ifCond .eq 8, 3) := by decide +kernel
theorem dX4_lapseDay_4 : decode cX4_lapseDay 4 = .ok (.iload_n 0, 1) := by decide +kernel
theorem dX4_lapseDay_5 : decode cX4_lapseDay 5 = .ok (.iconst 1, 1) := by decide +kernel
theorem dX4_lapseDay_6 : decode cX4_lapseDay 6 = .ok (.if_icmp .ne 9, 3) := by decide +kernel
theorem dX4_lapseDay_9 : decode cX4_lapseDay 9 = .ok (.iload_n 1, 1) := by decide +kernel
theorem dX4_lapseDay_10 : decode cX4_lapseDay 10 = .ok (.sipush 700, 3) := by decide +kernel
theorem dX4_lapseDay_13 : decode cX4_lapseDay 13 = .ok (.iadd, 1) := by decide +kernel
theorem dX4_lapseDay_14 : decode cX4_lapseDay 14 = .ok (.ireturn, 1) := by decide +kernel
theorem dX4_lapseDay_15 : decode cX4_lapseDay 15 = .ok (.iload_n 0, 1) := by decide +kernel
theorem dX4_lapseDay_16 : decode cX4_lapseDay 16 = .ok (.iconst 3, 1) := by decide +kernel
theorem dX4_lapseDay_17 : decode cX4_lapseDay 17 = .ok (.if_icmp .ne 11, 3) := by decide +kernel
theorem dX4_lapseDay_20 : decode cX4_lapseDay 20 = .ok (.iload_n 2, 1) := by decide +kernel
theorem dX4_lapseDay_21 : decode cX4_lapseDay 21 = .ok (.sipush 300, 3) := by decide +kernel
theorem dX4_lapseDay_24 : decode cX4_lapseDay 24 = .ok (.iadd, 1) := by decide +kernel
theorem dX4_lapseDay_25 : decode cX4_lapseDay 25 = .ok (.goto 4, 3) := by decide +kernel
theorem dX4_lapseDay_28 : decode cX4_lapseDay 28 = .ok (.iconst (-1), 1) := by decide +kernel
theorem dX4_lapseDay_29 : decode cX4_lapseDay 29 = .ok (.ireturn, 1) := by decide +kernel
set_option maxRecDepth 20000 in
theorem ggX4_isLapseDue_X4_lapseDay : GoodIn wsX4_isLapseDue wsX4_lapseDay := goodIn_r _ [4] (by decide +kernel) (by decide +kernel)
set_option maxRecDepth 20000 in
theorem gX4_isLapseDue_X4_lapseDay : GoodIn wsX4_isLapseDue (va_wsS RX4 254 yX4_lapseDay wsX4_lapseDay) := goodIn_app (goodIn_of _ (by decide +kernel)) ggX4_isLapseDue_X4_lapseDay
theorem dX4_isLapseDue_0 : decode cX4_isLapseDue 0 = .ok (.iload_n 0, 1) := by decide +kernel
theorem dX4_isLapseDue_1 : decode cX4_isLapseDue 1 = .ok (.iload_n 1, 1) := by decide +kernel
theorem dX4_isLapseDue_2 : decode cX4_isLapseDue 2 = .ok (.iload_n 2, 1) := by decide +kernel
theorem dX4_isLapseDue_3 : decode cX4_isLapseDue 3 = .ok (.invokestatic 254, 3) := by decide +kernel
theorem dX4_isLapseDue_6 : decode cX4_isLapseDue 6 = .ok (.istore 4, 2) := by decide +kernel
theorem dX4_isLapseDue_8 : decode cX4_isLapseDue 8 = .ok (.iload 4, 2) := by decide +kernel
theorem dX4_isLapseDue_10 : decode cX4_isLapseDue 10 = .ok (.iconst (-1), 1) := by decide +kernel
theorem dX4_isLapseDue_11 : decode cX4_isLapseDue 11 = .ok (.if_icmp .eq 13, 3) := by decide +kernel
theorem dX4_isLapseDue_14 : decode cX4_isLapseDue 14 = .ok (.iload 4, 2) := by decide +kernel
theorem dX4_isLapseDue_16 : decode cX4_isLapseDue 16 = .ok (.iload_n 3, 1) := by decide +kernel
theorem dX4_isLapseDue_17 : decode cX4_isLapseDue 17 = .ok (.if_icmp .gt 7, 3) := by decide +kernel
theorem dX4_isLapseDue_20 : decode cX4_isLapseDue 20 = .ok (.iconst 1, 1) := by decide +kernel
theorem dX4_isLapseDue_21 : decode cX4_isLapseDue 21 = .ok (.goto 4, 3) := by decide +kernel
theorem dX4_isLapseDue_24 : decode cX4_isLapseDue 24 = .ok (.iconst 0, 1) := by decide +kernel
theorem dX4_isLapseDue_25 : decode cX4_isLapseDue 25 = .ok (.ireturn, 1) := by decide +kernel
