theorem dX0_init_0 : decode cX0_init 0 = .ok (.aload_n 0, 1) := by decide +kernel
theorem dX0_init_1 : decode cX0_init 1 = .ok (.invokespecial 3, 3) := by decide +kernel
theorem dX0_init_4 : decode cX0_init 4 = .ok (.return_, 1) := by decide +kernel
set_option maxRecDepth 20000 in
theorem ggX0_examine_X0_reach : GoodIn wsX0_examine wsX0_reach := goodIn_r _ [13, 2, 14, 15, 16, 17, 18, 19, 20, 21, 22, 23, 24, 12, 25, 3, 43, 44, 45, 46, 47, 48] (by decide +kernel) (by decide +kernel)
set_option maxRecDepth 20000 in
theorem gX0_examine_X0_reach : GoodIn wsX0_examine (wsV RX0 30 RX0 yX0_reach wsX0_reach) := goodIn_app (goodIn_of _ (by decide +kernel)) ggX0_examine_X0_reach
set_option maxRecDepth 20000 in
theorem ggX0_examine_X0_hear : GoodIn wsX0_examine wsX0_hear := goodIn_r _ [29, 1, 30, 31, 32, 12, 33, 3, 34, 35, 36, 37, 2, 15, 38, 39, 40, 41, 14, 42, 22, 23, 24, 25, 43, 44, 45, 46, 47, 48] (by decide +kernel) (by decide +kernel)
set_option maxRecDepth 20000 in
theorem gX0_examine_X0_hear : GoodIn wsX0_examine (wsV RX0 43 RX0 yX0_hear wsX0_hear) := goodIn_app (goodIn_of _ (by decide +kernel)) ggX0_examine_X0_hear
theorem dX0_examine_0 : decode cX0_examine 0 = .ok (.aload_n 0, 1) := by decide +kernel
theorem dX0_examine_1 : decode cX0_examine 1 = .ok (.iload_n 2, 1) := by decide +kernel
theorem dX0_examine_2 : decode cX0_examine 2 = .ok (.putfield 9, 3) := by decide +kernel
theorem dX0_examine_5 : decode cX0_examine 5 = .ok (.aload_n 0, 1) := by decide +kernel
theorem dX0_examine_6 : decode cX0_examine 6 = .ok (.iconst (-1), 1) := by decide +kernel
theorem dX0_examine_7 : decode cX0_examine 7 = .ok (.putfield 15, 3) := by decide +kernel
theorem dX0_examine_10 : decode cX0_examine 10 = .ok (.aload_n 0, 1) := by decide +kernel
theorem dX0_examine_11 : decode cX0_examine 11 = .ok (.iconst (-1), 1) := by decide +kernel
theorem dX0_examine_12 : decode cX0_examine 12 = .ok (.putfield 18, 3) := by decide +kernel
theorem dX0_examine_15 : decode cX0_examine 15 = .ok (.iconst 0, 1) := by decide +kernel
theorem dX0_examine_16 : decode cX0_examine 16 = .ok (.istore 4, 2) := by decide +kernel
theorem dX0_examine_18 : decode cX0_examine 18 = .ok (.iload 4, 2) := by decide +kernel
theorem dX0_examine_20 : decode cX0_examine 20 = .ok (.aload_n 1, 1) := by decide +kernel
theorem dX0_examine_21 : decode cX0_examine 21 = .ok (.getfield 21, 3) := by decide +kernel
theorem dX0_examine_24 : decode cX0_examine 24 = .ok (.if_icmp .ge 52, 3) := by decide +kernel
theorem dX0_examine_27 : decode cX0_examine 27 = .ok (.aload_n 0, 1) := by decide +kernel
theorem dX0_examine_28 : decode cX0_examine 28 = .ok (.aload_n 1, 1) := by decide +kernel
theorem dX0_examine_29 : decode cX0_examine 29 = .ok (.getfield 26, 3) := by decide +kernel
theorem dX0_examine_32 : decode cX0_examine 32 = .ok (.iload 4, 2) := by decide +kernel
theorem dX0_examine_34 : decode cX0_examine 34 = .ok (.iaload, 1) := by decide +kernel
theorem dX0_examine_35 : decode cX0_examine 35 = .ok (.invokevirtual 30, 3) := by decide +kernel
theorem dX0_examine_38 : decode cX0_examine 38 = .ok (.aload_n 0, 1) := by decide +kernel
theorem dX0_examine_39 : decode cX0_examine 39 = .ok (.aload_n 1, 1) := by decide +kernel
theorem dX0_examine_40 : decode cX0_examine 40 = .ok (.getfield 34, 3) := by decide +kernel
theorem dX0_examine_43 : decode cX0_examine 43 = .ok (.iload 4, 2) := by decide +kernel
theorem dX0_examine_45 : decode cX0_examine 45 = .ok (.iaload, 1) := by decide +kernel
theorem dX0_examine_46 : decode cX0_examine 46 = .ok (.aload_n 1, 1) := by decide +kernel
theorem dX0_examine_47 : decode cX0_examine 47 = .ok (.getfield 26, 3) := by decide +kernel
theorem dX0_examine_50 : decode cX0_examine 50 = .ok (.iload 4, 2) := by decide +kernel
theorem dX0_examine_52 : decode cX0_examine 52 = .ok (.iaload, 1) := by decide +kernel
theorem dX0_examine_53 : decode cX0_examine 53 = .ok (.aload_n 1, 1) := by decide +kernel
theorem dX0_examine_54 : decode cX0_examine 54 = .ok (.getfield 37, 3) := by decide +kernel
theorem dX0_examine_57 : decode cX0_examine 57 = .ok (.iload 4, 2) := by decide +kernel
theorem dX0_examine_59 : decode cX0_examine 59 = .ok (.iaload, 1) := by decide +kernel
theorem dX0_examine_60 : decode cX0_examine 60 = .ok (.aload_n 1, 1) := by decide +kernel
theorem dX0_examine_61 : decode cX0_examine 61 = .ok (.getfield 40, 3) := by decide +kernel
theorem dX0_examine_64 : decode cX0_examine 64 = .ok (.iload 4, 2) := by decide +kernel
theorem dX0_examine_66 : decode cX0_examine 66 = .ok (.iaload, 1) := by decide +kernel
theorem dX0_examine_67 : decode cX0_examine 67 = .ok (.invokevirtual 43, 3) := by decide +kernel
theorem dX0_examine_70 : decode cX0_examine 70 = .ok (.iinc 4 1, 3) := by decide +kernel
theorem dX0_examine_73 : decode cX0_examine 73 = .ok (.goto (-55), 3) := by decide +kernel
theorem dX0_examine_76 : decode cX0_examine 76 = .ok (.aload_n 0, 1) := by decide +kernel
theorem dX0_examine_77 : decode cX0_examine 77 = .ok (.iload_n 3, 1) := by decide +kernel
theorem dX0_examine_78 : decode cX0_examine 78 = .ok (.invokevirtual 30, 3) := by decide +kernel
theorem dX0_examine_81 : decode cX0_examine 81 = .ok (.aload_n 0, 1) := by decide +kernel
theorem dX0_examine_82 : decode cX0_examine 82 = .ok (.getfield 15, 3) := by decide +kernel
theorem dX0_examine_85 : decode cX0_examine 85 = .ok (.ireturn, 1) := by decide +kernel
set_option maxRecDepth 20000 in
theorem ggX0_reach_X4_isLapseDue : GoodIn wsX0_reach wsX4_isLapseDue := goodIn_r _ [6, 7, 8, 5, 9] (by decide +kernel) (by decide +kernel)
set_option maxRecDepth 20000 in
theorem gX0_reach_X4_isLapseDue_n53 : GoodIn wsX0_reach (wsX4_isLapseDue) := ggX0_reach_X4_isLapseDue
set_option maxRecDepth 20000 in
theorem ggX0_reach_X0_end : GoodIn wsX0_reach wsX0_end := goodIn_r _ [14, 1, 15, 16, 17, 18, 19, 20, 21] (by decide +kernel) (by decide +kernel)
set_option maxRecDepth 20000 in
theorem gX0_reach_X0_end : GoodIn wsX0_reach (wsV RX0 57 RX0 yX0_end wsX0_end) := goodIn_app (goodIn_of _ (by decide +kernel)) ggX0_reach_X0_end
theorem dX0_reach_0 : decode cX0_reach 0 = .ok (.aload_n 0, 1) := by decide +kernel
theorem dX0_reach_1 : decode cX0_reach 1 = .ok (.getfield 15, 3) := by decide +kernel
theorem dX0_reach_4 : decode cX0_reach 4 = .ok (.aload_n 0, 1) := by decide +kernel
theorem dX0_reach_5 : decode cX0_reach 5 = .ok (.getfield 47, 3) := by decide +kernel
theorem dX0_reach_8 : decode cX0_reach 8 = .ok (.aload_n 0, 1) := by decide +kernel
theorem dX0_reach_9 : decode cX0_reach 9 = .ok (.getfield 50, 3) := by decide +kernel
theorem dX0_reach_12 : decode cX0_reach 12 = .ok (.iload_n 1, 1) := by decide +kernel
theorem dX0_reach_13 : decode cX0_reach 13 = .ok (.invokestatic 53, 3) := by decide +kernel
theorem dX0_reach_16 : decode cX0_reach 16 = .ok (.ifCond .eq 7, 3) := by decide +kernel
theorem dX0_reach_19 : decode cX0_reach 19 = .ok (.aload_n 0, 1) := by decide +kernel
theorem dX0_reach_20 : decode cX0_reach 20 = .ok (.invokevirtual 57, 3) := by decide +kernel
theorem dX0_reach_23 : decode cX0_reach 23 = .ok (.return_, 1) := by decide +kernel
set_option maxRecDepth 20000 in
theorem ggX0_hear_X0_hearOfSatellites : GoodIn wsX0_hear wsX0_hearOfSatellites := goodIn_r _ [6, 7, 8, 9, 10, 5, 11, 12, 13, 24, 25, 26, 27, 28, 29] (by decide +kernel) (by decide +kernel)
set_option maxRecDepth 20000 in
theorem gX0_hear_X0_hearOfSatellites : GoodIn wsX0_hear (wsV RX0 60 RX0 yX0_hearOfSatellites wsX0_hearOfSatellites) := goodIn_app (goodIn_of _ (by decide +kernel)) ggX0_hear_X0_hearOfSatellites
set_option maxRecDepth 20000 in
theorem ggX0_hear_X0_hearOfFiling : GoodIn wsX0_hear wsX0_hearOfFiling := goodIn_r _ [17, 12, 18, 19, 7, 8, 9, 10, 5, 11, 13, 20, 21, 22, 23, 24, 25, 26, 27, 28, 29] (by decide +kernel) (by decide +kernel)
set_option maxRecDepth 20000 in
theorem gX0_hear_X0_hearOfFiling : GoodIn wsX0_hear (wsV RX0 64 RX0 yX0_hearOfFiling wsX0_hearOfFiling) := goodIn_app (goodIn_of _ (by decide +kernel)) ggX0_hear_X0_hearOfFiling
theorem dX0_hear_0 : decode cX0_hear 0 = .ok (.iload_n 1, 1) := by decide +kernel
theorem dX0_hear_1 : decode cX0_hear 1 = .ok (.bipush 6, 2) := by decide +kernel
theorem dX0_hear_3 : decode cX0_hear 3 = .ok (.if_icmp .eq 9, 3) := by decide +kernel
theorem dX0_hear_6 : decode cX0_hear 6 = .ok (.iload_n 1, 1) := by decide +kernel
theorem dX0_hear_7 : decode cX0_hear 7 = .ok (.bipush 7, 2) := by decide +kernel
theorem dX0_hear_9 : decode cX0_hear 9 = .ok (.if_icmp .ne 14, 3) := by decide +kernel
theorem dX0_hear_12 : decode cX0_hear 12 = .ok (.aload_n 0, 1) := by decide +kernel
theorem dX0_hear_13 : decode cX0_hear 13 = .ok (.iload_n 2, 1) := by decide +kernel
theorem dX0_hear_14 : decode cX0_hear 14 = .ok (.iload_n 3, 1) := by decide +kernel
theorem dX0_hear_15 : decode cX0_hear 15 = .ok (.iload 4, 2) := by decide +kernel
theorem dX0_hear_17 : decode cX0_hear 17 = .ok (.invokevirtual 60, 3) := by decide +kernel
theorem dX0_hear_20 : decode cX0_hear 20 = .ok (.goto 19, 3) := by decide +kernel
theorem dX0_hear_23 : decode cX0_hear 23 = .ok (.iload_n 3, 1) := by decide +kernel
theorem dX0_hear_24 : decode cX0_hear 24 = .ok (.aload_n 0, 1) := by decide +kernel
theorem dX0_hear_25 : decode cX0_hear 25 = .ok (.getfield 9, 3) := by decide +kernel
theorem dX0_hear_28 : decode cX0_hear 28 = .ok (.if_icmp .ne 11, 3) := by decide +kernel
theorem dX0_hear_31 : decode cX0_hear 31 = .ok (.aload_n 0, 1) := by decide +kernel
theorem dX0_hear_32 : decode cX0_hear 32 = .ok (.iload_n 1, 1) := by decide +kernel
theorem dX0_hear_33 : decode cX0_hear 33 = .ok (.iload_n 2, 1) := by decide +kernel
theorem dX0_hear_34 : decode cX0_hear 34 = .ok (.iload 4, 2) := by decide +kernel
theorem dX0_hear_36 : decode cX0_hear 36 = .ok (.invokevirtual 64, 3) := by decide +kernel
theorem dX0_hear_39 : decode cX0_hear 39 = .ok (.return_, 1) := by decide +kernel
set_option maxRecDepth 20000 in
theorem ggX0_hearOfSatellites_X0_interrupt : GoodIn wsX0_hearOfSatellites wsX0_interrupt := goodIn_r _ [6, 7, 8, 1, 9, 10, 11, 12, 13, 14] (by decide +kernel) (by decide +kernel)
set_option maxRecDepth 20000 in
theorem gX0_hearOfSatellites_X0_interrupt : GoodIn wsX0_hearOfSatellites (wsV RX0 67 RX0 yX0_interrupt wsX0_interrupt) := goodIn_app (goodIn_of _ (by decide +kernel)) ggX0_hearOfSatellites_X0_interrupt
theorem dX0_hearOfSatellites_0 : decode cX0_hearOfSatellites 0 = .ok (.aload_n 0, 1) := by decide +kernel
theorem dX0_hearOfSatellites_1 : decode cX0_hearOfSatellites 1 = .ok (.getfield 18, 3) := by decide +kernel
theorem dX0_hearOfSatellites_4 : decode cX0_hearOfSatellites 4 = .ok (.iconst (-1), 1) := by decide +kernel
theorem dX0_hearOfSatellites_5 : decode cX0_hearOfSatellites 5 = .ok (.if_icmp .eq 24, 3) := by decide +kernel
theorem dX0_hearOfSatellites_8 : decode cX0_hearOfSatellites 8 = .ok (.aload_n 0, 1) := by decide +kernel
theorem dX0_hearOfSatellites_9 : decode cX0_hearOfSatellites 9 = .ok (.getfield 18, 3) := by decide +kernel
theorem dX0_hearOfSatellites_12 : decode cX0_hearOfSatellites 12 = .ok (.iload_n 2, 1) := by decide +kernel
theorem dX0_hearOfSatellites_13 : decode cX0_hearOfSatellites 13 = .ok (.if_icmp .eq 11, 3) := by decide +kernel
theorem dX0_hearOfSatellites_16 : decode cX0_hearOfSatellites 16 = .ok (.aload_n 0, 1) := by decide +kernel
theorem dX0_hearOfSatellites_17 : decode cX0_hearOfSatellites 17 = .ok (.getfield 18, 3) := by decide +kernel
theorem dX0_hearOfSatellites_20 : decode cX0_hearOfSatellites 20 = .ok (.iload_n 3, 1) := by decide +kernel
theorem dX0_hearOfSatellites_21 : decode cX0_hearOfSatellites 21 = .ok (.if_icmp .ne 8, 3) := by decide +kernel
theorem dX0_hearOfSatellites_24 : decode cX0_hearOfSatellites 24 = .ok (.aload_n 0, 1) := by decide +kernel
theorem dX0_hearOfSatellites_25 : decode cX0_hearOfSatellites 25 = .ok (.iload_n 1, 1) := by decide +kernel
theorem dX0_hearOfSatellites_26 : decode cX0_hearOfSatellites 26 = .ok (.invokevirtual 67, 3) := by decide +kernel
theorem dX0_hearOfSatellites_29 : decode cX0_hearOfSatellites 29 = .ok (.return_, 1) := by decide +kernel
set_option maxRecDepth 20000 in
theorem ggX0_hearOfFiling_X0_interrupt : GoodIn wsX0_hearOfFiling wsX0_interrupt := goodIn_r _ [9, 1, 10, 4, 15, 16, 17, 18, 19, 20] (by decide +kernel) (by decide +kernel)
set_option maxRecDepth 20000 in
theorem gX0_hearOfFiling_X0_interrupt : GoodIn wsX0_hearOfFiling (wsV RX0 67 RX0 yX0_interrupt wsX0_interrupt) := goodIn_app (goodIn_of _ (by decide +kernel)) ggX0_hearOfFiling_X0_interrupt
set_option maxRecDepth 20000 in
theorem ggX0_hearOfFiling_X0_end : GoodIn wsX0_hearOfFiling wsX0_end := goodIn_r _ [14, 1, 4, 15, 16, 17, 18, 19, 20] (by decide +kernel) (by decide +kernel)
set_option maxRecDepth 20000 in
theorem gX0_hearOfFiling_X0_end : GoodIn wsX0_hearOfFiling (wsV RX0 57 RX0 yX0_end wsX0_end) := goodIn_app (goodIn_of _ (by decide +kernel)) ggX0_hearOfFiling_X0_end
theorem dX0_hearOfFiling_0 : decode cX0_hearOfFiling 0 = .ok (.iload_n 1, 1) := by decide +kernel
theorem dX0_hearOfFiling_1 : decode cX0_hearOfFiling 1 = .ok (.tableswitch 110 0 4 #[35, 53, 61, 90, 97], 35) := by decide +kernel
theorem dX0_hearOfFiling_36 : decode cX0_hearOfFiling 36 = .ok (.aload_n 0, 1) := by decide +kernel
theorem dX0_hearOfFiling_37 : decode cX0_hearOfFiling 37 = .ok (.iconst 0, 1) := by decide +kernel
theorem dX0_hearOfFiling_38 : decode cX0_hearOfFiling 38 = .ok (.putfield 15, 3) := by decide +kernel
theorem dX0_hearOfFiling_41 : decode cX0_hearOfFiling 41 = .ok (.aload_n 0, 1) := by decide +kernel
theorem dX0_hearOfFiling_42 : decode cX0_hearOfFiling 42 = .ok (.iload_n 2, 1) := by decide +kernel
theorem dX0_hearOfFiling_43 : decode cX0_hearOfFiling 43 = .ok (.putfield 47, 3) := by decide +kernel
theorem dX0_hearOfFiling_46 : decode cX0_hearOfFiling 46 = .ok (.aload_n 0, 1) := by decide +kernel
theorem dX0_hearOfFiling_47 : decode cX0_hearOfFiling 47 = .ok (.iload_n 3, 1) := by decide +kernel
theorem dX0_hearOfFiling_48 : decode cX0_hearOfFiling 48 = .ok (.putfield 70, 3) := by decide +kernel
theorem dX0_hearOfFiling_51 : decode cX0_hearOfFiling 51 = .ok (.goto 65, 3) := by decide +kernel
theorem dX0_hearOfFiling_54 : decode cX0_hearOfFiling 54 = .ok (.aload_n 0, 1) := by decide +kernel
theorem dX0_hearOfFiling_55 : decode cX0_hearOfFiling 55 = .ok (.iconst 1, 1) := by decide +kernel
theorem dX0_hearOfFiling_56 : decode cX0_hearOfFiling 56 = .ok (.putfield 15, 3) := by decide +kernel
theorem dX0_hearOfFiling_59 : decode cX0_hearOfFiling 59 = .ok (.goto 57, 3) := by decide +kernel
theorem dX0_hearOfFiling_62 : decode cX0_hearOfFiling 62 = .ok (.aload_n 0, 1) := by decide +kernel
theorem dX0_hearOfFiling_63 : decode cX0_hearOfFiling 63 = .ok (.getfield 15, 3) := by decide +kernel
theorem dX0_hearOfFiling_66 : decode cX0_hearOfFiling 66 = .ok (.iconst 2, 1) := by decide +kernel
theorem dX0_hearOfFiling_67 : decode cX0_hearOfFiling 67 = .ok (.if_icmp .ne 16, 3) := by decide +kernel
theorem dX0_hearOfFiling_70 : decode cX0_hearOfFiling 70 = .ok (.aload_n 0, 1) := by decide +kernel
theorem dX0_hearOfFiling_71 : decode cX0_hearOfFiling 71 = .ok (.getfield 70, 3) := by decide +kernel
theorem dX0_hearOfFiling_74 : decode cX0_hearOfFiling 74 = .ok (.iload_n 3, 1) := by decide +kernel
theorem dX0_hearOfFiling_75 : decode cX0_hearOfFiling 75 = .ok (.if_icmp .eq 8, 3) := by decide +kernel
theorem dX0_hearOfFiling_78 : decode cX0_hearOfFiling 78 = .ok (.aload_n 0, 1) := by decide +kernel
theorem dX0_hearOfFiling_79 : decode cX0_hearOfFiling 79 = .ok (.iload_n 2, 1) := by decide +kernel
theorem dX0_hearOfFiling_80 : decode cX0_hearOfFiling 80 = .ok (.invokevirtual 67, 3) := by decide +kernel
theorem dX0_hearOfFiling_83 : decode cX0_hearOfFiling 83 = .ok (.aload_n 0, 1) := by decide +kernel
theorem dX0_hearOfFiling_84 : decode cX0_hearOfFiling 84 = .ok (.iload_n 3, 1) := by decide +kernel
theorem dX0_hearOfFiling_85 : decode cX0_hearOfFiling 85 = .ok (.putfield 70, 3) := by decide +kernel
theorem dX0_hearOfFiling_88 : decode cX0_hearOfFiling 88 = .ok (.goto 28, 3) := by decide +kernel
theorem dX0_hearOfFiling_91 : decode cX0_hearOfFiling 91 = .ok (.aload_n 0, 1) := by decide +kernel
theorem dX0_hearOfFiling_92 : decode cX0_hearOfFiling 92 = .ok (.invokevirtual 57, 3) := by decide +kernel
theorem dX0_hearOfFiling_95 : decode cX0_hearOfFiling 95 = .ok (.goto 21, 3) := by decide +kernel
theorem dX0_hearOfFiling_98 : decode cX0_hearOfFiling 98 = .ok (.aload_n 0, 1) := by decide +kernel
theorem dX0_hearOfFiling_99 : decode cX0_hearOfFiling 99 = .ok (.iconst 2, 1) := by decide +kernel
theorem dX0_hearOfFiling_100 : decode cX0_hearOfFiling 100 = .ok (.putfield 15, 3) := by decide +kernel
theorem dX0_hearOfFiling_103 : decode cX0_hearOfFiling 103 = .ok (.aload_n 0, 1) := by decide +kernel
theorem dX0_hearOfFiling_104 : decode cX0_hearOfFiling 104 = .ok (.iload_n 3, 1) := by decide +kernel
theorem dX0_hearOfFiling_105 : decode cX0_hearOfFiling 105 = .ok (.putfield 18, 3) := by decide +kernel
theorem dX0_hearOfFiling_108 : decode cX0_hearOfFiling 108 = .ok (.goto 8, 3) := by decide +kernel
theorem dX0_hearOfFiling_111 : decode cX0_hearOfFiling 111 = .ok (.aload_n 0, 1) := by decide +kernel
theorem dX0_hearOfFiling_112 : decode cX0_hearOfFiling 112 = .ok (.iload_n 2, 1) := by decide +kernel
theorem dX0_hearOfFiling_113 : decode cX0_hearOfFiling 113 = .ok (.invokevirtual 67, 3) := by decide +kernel
theorem dX0_hearOfFiling_116 : decode cX0_hearOfFiling 116 = .ok (.return_, 1) := by decide +kernel
theorem dX0_interrupt_0 : decode cX0_interrupt 0 = .ok (.aload_n 0, 1) := by decide +kernel
theorem dX0_interrupt_1 : decode cX0_interrupt 1 = .ok (.iconst 3, 1) := by decide +kernel
theorem dX0_interrupt_2 : decode cX0_interrupt 2 = .ok (.putfield 15, 3) := by decide +kernel
theorem dX0_interrupt_5 : decode cX0_interrupt 5 = .ok (.aload_n 0, 1) := by decide +kernel
theorem dX0_interrupt_6 : decode cX0_interrupt 6 = .ok (.iload_n 1, 1) := by decide +kernel
theorem dX0_interrupt_7 : decode cX0_interrupt 7 = .ok (.putfield 50, 3) := by decide +kernel
theorem dX0_interrupt_10 : decode cX0_interrupt 10 = .ok (.aload_n 0, 1) := by decide +kernel
theorem dX0_interrupt_11 : decode cX0_interrupt 11 = .ok (.iconst (-1), 1) := by decide +kernel
theorem dX0_interrupt_12 : decode cX0_interrupt 12 = .ok (.putfield 18, 3) := by decide +kernel
theorem dX0_interrupt_15 : decode cX0_interrupt 15 = .ok (.return_, 1) := by decide +kernel
theorem dX0_end_0 : decode cX0_end 0 = .ok (.aload_n 0, 1) := by decide +kernel
theorem dX0_end_1 : decode cX0_end 1 = .ok (.iconst 4, 1) := by decide +kernel
theorem dX0_end_2 : decode cX0_end 2 = .ok (.putfield 15, 3) := by decide +kernel
theorem dX0_end_5 : decode cX0_end 5 = .ok (.aload_n 0, 1) := by decide +kernel
theorem dX0_end_6 : decode cX0_end 6 = .ok (.iconst (-1), 1) := by decide +kernel
theorem dX0_end_7 : decode cX0_end 7 = .ok (.putfield 18, 3) := by decide +kernel
theorem dX0_end_10 : decode cX0_end 10 = .ok (.return_, 1) := by decide +kernel
theorem dX1_init_0 : decode cX1_init 0 = .ok (.aload_n 0, 1) := by decide +kernel
theorem dX1_init_1 : decode cX1_init 1 = .ok (.invokespecial 3, 3) := by decide +kernel
theorem dX1_init_4 : decode cX1_init 4 = .ok (.aload_n 0, 1) := by decide +kernel
theorem dX1_init_5 : decode cX1_init 5 = .ok (.bipush 40, 2) := by decide +kernel
theorem dX1_init_7 : decode cX1_init 7 = .ok (.newarray .int, 2) := by decide +kernel
theorem dX1_init_9 : decode cX1_init 9 = .ok (.putfield 9, 3) := by decide +kernel
theorem dX1_init_12 : decode cX1_init 12 = .ok (.aload_n 0, 1) := by decide +kernel
theorem dX1_init_13 : decode cX1_init 13 = .ok (.bipush 40, 2) := by decide +kernel
theorem dX1_init_15 : decode cX1_init 15 = .ok (.newarray .int, 2) := by decide +kernel
theorem dX1_init_17 : decode cX1_init 17 = .ok (.putfield 15, 3) := by decide +kernel
theorem dX1_init_20 : decode cX1_init 20 = .ok (.aload_n 0, 1) := by decide +kernel
theorem dX1_init_21 : decode cX1_init 21 = .ok (.bipush 40, 2) := by decide +kernel
theorem dX1_init_23 : decode cX1_init 23 = .ok (.newarray .int, 2) := by decide +kernel
theorem dX1_init_25 : decode cX1_init 25 = .ok (.putfield 18, 3) := by decide +kernel
theorem dX1_init_28 : decode cX1_init 28 = .ok (.aload_n 0, 1) := by decide +kernel
theorem dX1_init_29 : decode cX1_init 29 = .ok (.bipush 40, 2) := by decide +kernel
theorem dX1_init_31 : decode cX1_init 31 = .ok (.newarray .int, 2) := by decide +kernel
theorem dX1_init_33 : decode cX1_init 33 = .ok (.putfield 21, 3) := by decide +kernel
theorem dX1_init_36 : decode cX1_init 36 = .ok (.aload_n 0, 1) := by decide +kernel
theorem dX1_init_37 : decode cX1_init 37 = .ok (.bipush 40, 2) := by decide +kernel
theorem dX1_init_39 : decode cX1_init 39 = .ok (.newarray .int, 2) := by decide +kernel
theorem dX1_init_41 : decode cX1_init 41 = .ok (.putfield 24, 3) := by decide +kernel
theorem dX1_init_44 : decode cX1_init 44 = .ok (.aload_n 0, 1) := by decide +kernel
theorem dX1_init_45 : decode cX1_init 45 = .ok (.bipush 40, 2) := by decide +kernel
theorem dX1_init_47 : decode cX1_init 47 = .ok (.newarray .int, 2) := by decide +kernel
theorem dX1_init_49 : decode cX1_init 49 = .ok (.putfield 27, 3) := by decide +kernel
theorem dX1_init_52 : decode cX1_init 52 = .ok (.aload_n 0, 1) := by decide +kernel
theorem dX1_init_53 : decode cX1_init 53 = .ok (.bipush 40, 2) := by decide +kernel
theorem dX1_init_55 : decode cX1_init 55 = .ok (.newarray .boolean, 2) := by decide +kernel
theorem dX1_init_57 : decode cX1_init 57 = .ok (.putfield 30, 3) := by decide +kernel
theorem dX1_init_60 : decode cX1_init 60 = .ok (.aload_n 0, 1) := by decide +kernel
theorem dX1_init_61 : decode cX1_init 61 = .ok (.bipush 40, 2) := by decide +kernel
theorem dX1_init_63 : decode cX1_init 63 = .ok (.newarray .int, 2) := by decide +kernel
theorem dX1_init_65 : decode cX1_init 65 = .ok (.putfield 34, 3) := by decide +kernel
theorem dX1_init_68 : decode cX1_init 68 = .ok (.aload_n 0, 1) := by decide +kernel
theorem dX1_init_69 : decode cX1_init 69 = .ok (.bipush 40, 2) := by decide +kernel
theorem dX1_init_71 : decode cX1_init 71 = .ok (.newarray .int, 2) := by decide +kernel
theorem dX1_init_73 : decode cX1_init 73 = .ok (.putfield 37, 3) := by decide +kernel
theorem dX1_init_76 : decode cX1_init 76 = .ok (.aload_n 0, 1) := by decide +kernel
theorem dX1_init_77 : decode cX1_init 77 = .ok (.bipush 40, 2) := by decide +kernel
theorem dX1_init_79 : decode cX1_init 79 = .ok (.newarray .int, 2) := by decide +kernel
theorem dX1_init_81 : decode cX1_init 81 = .ok (.putfield 40, 3) := by decide +kernel
theorem dX1_init_84 : decode cX1_init 84 = .ok (.aload_n 0, 1) := by decide +kernel
theorem dX1_init_85 : decode cX1_init 85 = .ok (.sipush 1600, 3) := by decide +kernel
theorem dX1_init_88 : decode cX1_init 88 = .ok (.newarray .int, 2) := by decide +kernel
theorem dX1_init_90 : decode cX1_init 90 = .ok (.putfield 43, 3) := by decide +kernel
theorem dX1_init_93 : decode cX1_init 93 = .ok (.return_, 1) := by decide +kernel
set_option maxRecDepth 20000 in
theorem ggX1_add_X1_renewDate : GoodIn wsX1_add wsX1_renewDate := goodIn_r _ [13, 14, 15, 21, 22, 23, 24, 25, 26, 27, 28, 29, 30, 31, 32, 33] (by decide +kernel) (by decide +kernel)
set_option maxRecDepth 20000 in
theorem gX1_add_X1_renewDate : GoodIn wsX1_add (wsV RX1 50 RX1 yX1_renewDate wsX1_renewDate) := goodIn_app (goodIn_of _ (by decide +kernel)) ggX1_add_X1_renewDate
set_option maxRecDepth 20000 in
theorem ggX1_add_X1_setLimitOfPair : GoodIn wsX1_add wsX1_setLimitOfPair := goodIn_r _ [19, 20, 21, 22, 23, 24, 25, 26, 27, 28, 29, 30, 31, 32, 33] (by decide +kernel) (by decide +kernel)
set_option maxRecDepth 20000 in
theorem gX1_add_X1_setLimitOfPair : GoodIn wsX1_add (wsV RX1 54 RX1 yX1_setLimitOfPair wsX1_setLimitOfPair) := goodIn_app (goodIn_of _ (by decide +kernel)) ggX1_add_X1_setLimitOfPair
theorem dX1_add_0 : decode cX1_add 0 = .ok (.aload_n 0, 1) := by decide +kernel
theorem dX1_add_1 : decode cX1_add 1 = .ok (.getfield 46, 3) := by decide +kernel
theorem dX1_add_4 : decode cX1_add 4 = .ok (.istore 6, 2) := by decide +kernel
theorem dX1_add_6 : decode cX1_add 6 = .ok (.aload_n 0, 1) := by decide +kernel
theorem dX1_add_7 : decode cX1_add 7 = .ok (.dup, 1) := by decide +kernel
theorem dX1_add_8 : decode cX1_add 8 = .ok (.getfield 46, 3) := by decide +kernel
theorem dX1_add_11 : decode cX1_add 11 = .ok (.iconst 1, 1) := by decide +kernel
theorem dX1_add_12 : decode cX1_add 12 = .ok (.iadd, 1) := by decide +kernel
theorem dX1_add_13 : decode cX1_add 13 = .ok (.putfield 46, 3) := by decide +kernel
theorem dX1_add_16 : decode cX1_add 16 = .ok (.aload_n 0, 1) := by decide +kernel
theorem dX1_add_17 : decode cX1_add 17 = .ok (.getfield 9, 3) := by decide +kernel
theorem dX1_add_20 : decode cX1_add 20 = .ok (.iload 6, 2) := by decide +kernel
theorem dX1_add_22 : decode cX1_add 22 = .ok (.iload_n 1, 1) := by decide +kernel
theorem dX1_add_23 : decode cX1_add 23 = .ok (.iastore, 1) := by decide +kernel
theorem dX1_add_24 : decode cX1_add 24 = .ok (.aload_n 0, 1) := by decide +kernel
theorem dX1_add_25 : decode cX1_add 25 = .ok (.getfield 15, 3) := by decide +kernel
theorem dX1_add_28 : decode cX1_add 28 = .ok (.iload 6, 2) := by decide +kernel
theorem dX1_add_30 : decode cX1_add 30 = .ok (.iload_n 2, 1) := by decide +kernel
theorem dX1_add_31 : decode cX1_add 31 = .ok (.iastore, 1) := by decide +kernel
theorem dX1_add_32 : decode cX1_add 32 = .ok (.aload_n 0, 1) := by decide +kernel
theorem dX1_add_33 : decode cX1_add 33 = .ok (.getfield 18, 3) := by decide +kernel
theorem dX1_add_36 : decode cX1_add 36 = .ok (.iload 6, 2) := by decide +kernel
theorem dX1_add_38 : decode cX1_add 38 = .ok (.iload_n 3, 1) := by decide +kernel
theorem dX1_add_39 : decode cX1_add 39 = .ok (.iastore, 1) := by decide +kernel
theorem dX1_add_40 : decode cX1_add 40 = .ok (.aload_n 0, 1) := by decide +kernel
theorem dX1_add_41 : decode cX1_add 41 = .ok (.getfield 21, 3) := by decide +kernel
theorem dX1_add_44 : decode cX1_add 44 = .ok (.iload 6, 2) := by decide +kernel
theorem dX1_add_46 : decode cX1_add 46 = .ok (.iload 4, 2) := by decide +kernel
theorem dX1_add_48 : decode cX1_add 48 = .ok (.iastore, 1) := by decide +kernel
theorem dX1_add_49 : decode cX1_add 49 = .ok (.aload_n 0, 1) := by decide +kernel
theorem dX1_add_50 : decode cX1_add 50 = .ok (.getfield 27, 3) := by decide +kernel
theorem dX1_add_53 : decode cX1_add 53 = .ok (.iload 6, 2) := by decide +kernel
theorem dX1_add_55 : decode cX1_add 55 = .ok (.iconst 0, 1) := by decide +kernel
theorem dX1_add_56 : decode cX1_add 56 = .ok (.iastore, 1) := by decide +kernel
theorem dX1_add_57 : decode cX1_add 57 = .ok (.aload_n 0, 1) := by decide +kernel
theorem dX1_add_58 : decode cX1_add 58 = .ok (.getfield 34, 3) := by decide +kernel
theorem dX1_add_61 : decode cX1_add 61 = .ok (.iload 6, 2) := by decide +kernel
theorem dX1_add_63 : decode cX1_add 63 = .ok (.iconst (-1), 1) := by decide +kernel
theorem dX1_add_64 : decode cX1_add 64 = .ok (.iastore, 1) := by decide +kernel
theorem dX1_add_65 : decode cX1_add 65 = .ok (.aload_n 0, 1) := by decide +kernel
theorem dX1_add_66 : decode cX1_add 66 = .ok (.getfield 37, 3) := by decide +kernel
theorem dX1_add_69 : decode cX1_add 69 = .ok (.iload 6, 2) := by decide +kernel
theorem dX1_add_71 : decode cX1_add 71 = .ok (.iload 5, 2) := by decide +kernel
theorem dX1_add_73 : decode cX1_add 73 = .ok (.iastore, 1) := by decide +kernel
theorem dX1_add_74 : decode cX1_add 74 = .ok (.aload_n 0, 1) := by decide +kernel
theorem dX1_add_75 : decode cX1_add 75 = .ok (.iload 6, 2) := by decide +kernel
theorem dX1_add_77 : decode cX1_add 77 = .ok (.invokevirtual 50, 3) := by decide +kernel
theorem dX1_add_80 : decode cX1_add 80 = .ok (.iconst 0, 1) := by decide +kernel
theorem dX1_add_81 : decode cX1_add 81 = .ok (.istore 7, 2) := by decide +kernel
theorem dX1_add_83 : decode cX1_add 83 = .ok (.iload 7, 2) := by decide +kernel
theorem dX1_add_85 : decode cX1_add 85 = .ok (.iload 6, 2) := by decide +kernel
theorem dX1_add_87 : decode cX1_add 87 = .ok (.if_icmp .ge 19, 3) := by decide +kernel
theorem dX1_add_90 : decode cX1_add 90 = .ok (.aload_n 0, 1) := by decide +kernel
theorem dX1_add_91 : decode cX1_add 91 = .ok (.iload 6, 2) := by decide +kernel
theorem dX1_add_93 : decode cX1_add 93 = .ok (.iload 7, 2) := by decide +kernel
theorem dX1_add_95 : decode cX1_add 95 = .ok (.bipush 20, 2) := by decide +kernel
theorem dX1_add_97 : decode cX1_add 97 = .ok (.invokevirtual 54, 3) := by decide +kernel
theorem dX1_add_100 : decode cX1_add 100 = .ok (.iinc 7 1, 3) := by decide +kernel
theorem dX1_add_103 : decode cX1_add 103 = .ok (.goto (-20), 3) := by decide +kernel
theorem dX1_add_106 : decode cX1_add 106 = .ok (.iload 6, 2) := by decide +kernel
theorem dX1_add_108 : decode cX1_add 108 = .ok (.ireturn, 1) := by decide +kernel
theorem dX1_renewDate_0 : decode cX1_renewDate 0 = .ok (.aload_n 0, 1) := by decide +kernel
theorem dX1_renewDate_1 : decode cX1_renewDate 1 = .ok (.getfield 24, 3) := by decide +kernel
theorem dX1_renewDate_4 : decode cX1_renewDate 4 = .ok (.iload_n 1, 1) := by decide +kernel
theorem dX1_renewDate_5 : decode cX1_renewDate 5 = .ok (.aload_n 0, 1) := by decide +kernel
theorem dX1_renewDate_6 : decode cX1_renewDate 6 = .ok (.getfield 58, 3) := by decide +kernel
theorem dX1_renewDate_9 : decode cX1_renewDate 9 = .ok (.iastore, 1) := by decide +kernel
theorem dX1_renewDate_10 : decode cX1_renewDate 10 = .ok (.aload_n 0, 1) := by decide +kernel
theorem dX1_renewDate_11 : decode cX1_renewDate 11 = .ok (.dup, 1) := by decide +kernel
theorem dX1_renewDate_12 : decode cX1_renewDate 12 = .ok (.getfield 58, 3) := by decide +kernel
theorem dX1_renewDate_15 : decode cX1_renewDate 15 = .ok (.iconst 1, 1) := by decide +kernel
theorem dX1_renewDate_16 : decode cX1_renewDate 16 = .ok (.iadd, 1) := by decide +kernel
theorem dX1_renewDate_17 : decode cX1_renewDate 17 = .ok (.putfield 58, 3) := by decide +kernel
theorem dX1_renewDate_20 : decode cX1_renewDate 20 = .ok (.return_, 1) := by decide +kernel
theorem dX1_isLapsed_0 : decode cX1_isLapsed 0 = .ok (.aload_n 0, 1) := by decide +kernel
theorem dX1_isLapsed_1 : decode cX1_isLapsed 1 = .ok (.getfield 27, 3) := by decide +kernel
theorem dX1_isLapsed_4 : decode cX1_isLapsed 4 = .ok (.iload_n 1, 1) := by decide +kernel
theorem dX1_isLapsed_5 : decode cX1_isLapsed 5 = .ok (.iaload, 1) := by decide +kernel
theorem dX1_isLapsed_6 : decode cX1_isLapsed 6 = .ok (.iconst 4, 1) := by decide +kernel
theorem dX1_isLapsed_7 : decode cX1_isLapsed 7 = .ok (.if_icmp .ne 7, 3) := by decide +kernel
theorem dX1_isLapsed_10 : decode cX1_isLapsed 10 = .ok (.iconst 1, 1) := by decide +kernel
theorem dX1_isLapsed_11 : decode cX1_isLapsed 11 = .ok (.goto 4, 3) := by decide +kernel
theorem dX1_isLapsed_14 : decode cX1_isLapsed 14 = .ok (.iconst 0, 1) := by decide +kernel
theorem dX1_isLapsed_15 : decode cX1_isLapsed 15 = .ok (.ireturn, 1) := by decide +kernel
theorem dX1_isAhead_0 : decode cX1_isAhead 0 = .ok (.aload_n 0, 1) := by decide +kernel
theorem dX1_isAhead_1 : decode cX1_isAhead 1 = .ok (.getfield 24, 3) := by decide +kernel
theorem dX1_isAhead_4 : decode cX1_isAhead 4 = .ok (.iload_n 1, 1) := by decide +kernel
theorem dX1_isAhead_5 : decode cX1_isAhead 5 = .ok (.iaload, 1) := by decide +kernel
theorem dX1_isAhead_6 : decode cX1_isAhead 6 = .ok (.aload_n 0, 1) := by decide +kernel
theorem dX1_isAhead_7 : decode cX1_isAhead 7 = .ok (.getfield 24, 3) := by decide +kernel
theorem dX1_isAhead_10 : decode cX1_isAhead 10 = .ok (.iload_n 2, 1) := by decide +kernel
theorem dX1_isAhead_11 : decode cX1_isAhead 11 = .ok (.iaload, 1) := by decide +kernel
theorem dX1_isAhead_12 : decode cX1_isAhead 12 = .ok (.if_icmp .ge 7, 3) := by decide +kernel
theorem dX1_isAhead_15 : decode cX1_isAhead 15 = .ok (.iconst 1, 1) := by decide +kernel
theorem dX1_isAhead_16 : decode cX1_isAhead 16 = .ok (.goto 4, 3) := by decide +kernel
theorem dX1_isAhead_19 : decode cX1_isAhead 19 = .ok (.iconst 0, 1) := by decide +kernel
theorem dX1_isAhead_20 : decode cX1_isAhead 20 = .ok (.ireturn, 1) := by decide +kernel
theorem dX1_limitOfPair_0 : decode cX1_limitOfPair 0 = .ok (.aload_n 0, 1) := by decide +kernel
theorem dX1_limitOfPair_1 : decode cX1_limitOfPair 1 = .ok (.getfield 43, 3) := by decide +kernel
theorem dX1_limitOfPair_4 : decode cX1_limitOfPair 4 = .ok (.iload_n 1, 1) := by decide +kernel
theorem dX1_limitOfPair_5 : decode cX1_limitOfPair 5 = .ok (.bipush 40, 2) := by decide +kernel
theorem dX1_limitOfPair_7 : decode cX1_limitOfPair 7 = .ok (.imul, 1) := by decide +kernel
theorem dX1_limitOfPair_8 : decode cX1_limitOfPair 8 = .ok (.iload_n 2, 1) := by decide +kernel
theorem dX1_limitOfPair_9 : decode cX1_limitOfPair 9 = .ok (.iadd, 1) := by decide +kernel
theorem dX1_limitOfPair_10 : decode cX1_limitOfPair 10 = .ok (.iaload, 1) := by decide +kernel
theorem dX1_limitOfPair_11 : decode cX1_limitOfPair 11 = .ok (.ireturn, 1) := by decide +kernel
theorem dX1_setLimitOfPair_0 : decode cX1_setLimitOfPair 0 = .ok (.aload_n 0, 1) := by decide +kernel
theorem dX1_setLimitOfPair_1 : decode cX1_setLimitOfPair 1 = .ok (.getfield 43, 3) := by decide +kernel
theorem dX1_setLimitOfPair_4 : decode cX1_setLimitOfPair 4 = .ok (.iload_n 1, 1) := by decide +kernel
theorem dX1_setLimitOfPair_5 : decode cX1_setLimitOfPair 5 = .ok (.bipush 40, 2) := by decide +kernel
theorem dX1_setLimitOfPair_7 : decode cX1_setLimitOfPair 7 = .ok (.imul, 1) := by decide +kernel
theorem dX1_setLimitOfPair_8 : decode cX1_setLimitOfPair 8 = .ok (.iload_n 2, 1) := by decide +kernel
theorem dX1_setLimitOfPair_9 : decode cX1_setLimitOfPair 9 = .ok (.iadd, 1) := by decide +kernel
theorem dX1_setLimitOfPair_10 : decode cX1_setLimitOfPair 10 = .ok (.iload_n 3, 1) := by decide +kernel
theorem dX1_setLimitOfPair_11 : decode cX1_setLimitOfPair 11 = .ok (.iastore, 1) := by decide +kernel
theorem dX1_setLimitOfPair_12 : decode cX1_setLimitOfPair 12 = .ok (.aload_n 0, 1) := by decide +kernel
theorem dX1_setLimitOfPair_13 : decode cX1_setLimitOfPair 13 = .ok (.getfield 43, 3) := by decide +kernel
theorem dX1_setLimitOfPair_16 : decode cX1_setLimitOfPair 16 = .ok (.iload_n 2, 1) := by decide +kernel
theorem dX1_setLimitOfPair_17 : decode cX1_setLimitOfPair 17 = .ok (.bipush 40, 2) := by decide +kernel
theorem dX1_setLimitOfPair_19 : decode cX1_setLimitOfPair 19 = .ok (.imul, 1) := by decide +kernel
theorem dX1_setLimitOfPair_20 : decode cX1_setLimitOfPair 20 = .ok (.iload_n 1, 1) := by decide +kernel
theorem dX1_setLimitOfPair_21 : decode cX1_setLimitOfPair 21 = .ok (.iadd, 1) := by decide +kernel
theorem dX1_setLimitOfPair_22 : decode cX1_setLimitOfPair 22 = .ok (.iload_n 3, 1) := by decide +kernel
theorem dX1_setLimitOfPair_23 : decode cX1_setLimitOfPair 23 = .ok (.iastore, 1) := by decide +kernel
theorem dX1_setLimitOfPair_24 : decode cX1_setLimitOfPair 24 = .ok (.return_, 1) := by decide +kernel
set_option maxRecDepth 20000 in
theorem ggX1_harmTo_X1_harmFrom : GoodIn wsX1_harmTo wsX1_harmFrom := goodIn_r _ [7, 8, 1, 9, 10, 11, 12, 13, 14, 15, 16, 17, 18, 19, 20, 21, 6, 22, 23, 24, 25, 26, 27, 28, 29, 30, 31, 32, 33, 34, 35, 36] (by decide +kernel) (by decide +kernel)
set_option maxRecDepth 20000 in
theorem gX1_harmTo_X1_harmFrom : GoodIn wsX1_harmTo (wsV RX1 61 RX1 yX1_harmFrom wsX1_harmFrom) := goodIn_app (goodIn_of _ (by decide +kernel)) ggX1_harmTo_X1_harmFrom
theorem dX1_harmTo_0 : decode cX1_harmTo 0 = .ok (.aload_n 0, 1) := by decide +kernel
theorem dX1_harmTo_1 : decode cX1_harmTo 1 = .ok (.iload_n 1, 1) := by decide +kernel
theorem dX1_harmTo_2 : decode cX1_harmTo 2 = .ok (.aload_n 0, 1) := by decide +kernel
theorem dX1_harmTo_3 : decode cX1_harmTo 3 = .ok (.getfield 15, 3) := by decide +kernel
theorem dX1_harmTo_6 : decode cX1_harmTo 6 = .ok (.iload_n 1, 1) := by decide +kernel
theorem dX1_harmTo_7 : decode cX1_harmTo 7 = .ok (.iaload, 1) := by decide +kernel
theorem dX1_harmTo_8 : decode cX1_harmTo 8 = .ok (.aload_n 0, 1) := by decide +kernel
theorem dX1_harmTo_9 : decode cX1_harmTo 9 = .ok (.getfield 21, 3) := by decide +kernel
theorem dX1_harmTo_12 : decode cX1_harmTo 12 = .ok (.iload_n 1, 1) := by decide +kernel
theorem dX1_harmTo_13 : decode cX1_harmTo 13 = .ok (.iaload, 1) := by decide +kernel
theorem dX1_harmTo_14 : decode cX1_harmTo 14 = .ok (.iload_n 2, 1) := by decide +kernel
theorem dX1_harmTo_15 : decode cX1_harmTo 15 = .ok (.invokevirtual 61, 3) := by decide +kernel
theorem dX1_harmTo_18 : decode cX1_harmTo 18 = .ok (.ireturn, 1) := by decide +kernel
set_option maxRecDepth 20000 in
theorem ggX1_harmFrom_X1_isLapsed : GoodIn wsX1_harmFrom wsX1_isLapsed := goodIn_r _ [17, 18, 19, 20, 21, 22, 23, 24, 25, 26, 27, 28, 29, 30, 31] (by decide +kernel) (by decide +kernel)
set_option maxRecDepth 20000 in
theorem gX1_harmFrom_X1_isLapsed : GoodIn wsX1_harmFrom (wsV RX1 65 RX1 yX1_isLapsed wsX1_isLapsed) := goodIn_app (goodIn_of _ (by decide +kernel)) ggX1_harmFrom_X1_isLapsed
theorem dX1_harmFrom_0 : decode cX1_harmFrom 0 = .ok (.iload_n 1, 1) := by decide +kernel
theorem dX1_harmFrom_1 : decode cX1_harmFrom 1 = .ok (.iload 4, 2) := by decide +kernel
theorem dX1_harmFrom_3 : decode cX1_harmFrom 3 = .ok (.if_icmp .eq 36, 3) := by decide +kernel
theorem dX1_harmFrom_6 : decode cX1_harmFrom 6 = .ok (.aload_n 0, 1) := by decide +kernel
theorem dX1_harmFrom_7 : decode cX1_harmFrom 7 = .ok (.getfield 18, 3) := by decide +kernel
theorem dX1_harmFrom_10 : decode cX1_harmFrom 10 = .ok (.iload_n 1, 1) := by decide +kernel
theorem dX1_harmFrom_11 : decode cX1_harmFrom 11 = .ok (.iaload, 1) := by decide +kernel
theorem dX1_harmFrom_12 : decode cX1_harmFrom 12 = .ok (.aload_n 0, 1) := by decide +kernel
theorem dX1_harmFrom_13 : decode cX1_harmFrom 13 = .ok (.getfield 18, 3) := by decide +kernel
theorem dX1_harmFrom_16 : decode cX1_harmFrom 16 = .ok (.iload 4, 2) := by decide +kernel
theorem dX1_harmFrom_18 : decode cX1_harmFrom 18 = .ok (.iaload, 1) := by decide +kernel
theorem dX1_harmFrom_19 : decode cX1_harmFrom 19 = .ok (.if_icmp .ne 20, 3) := by decide +kernel
theorem dX1_harmFrom_22 : decode cX1_harmFrom 22 = .ok (.aload_n 0, 1) := by decide +kernel
theorem dX1_harmFrom_23 : decode cX1_harmFrom 23 = .ok (.iload_n 1, 1) := by decide +kernel
theorem dX1_harmFrom_24 : decode cX1_harmFrom 24 = .ok (.invokevirtual 65, 3) := by decide +kernel
theorem dX1_harmFrom_27 : decode cX1_harmFrom 27 = .ok (.ifCond .ne 12, 3) := by decide +kernel
theorem dX1_harmFrom_30 : decode cX1_harmFrom 30 = .ok (.aload_n 0, 1) := by decide +kernel
theorem dX1_harmFrom_31 : decode cX1_harmFrom 31 = .ok (.iload 4, 2) := by decide +kernel
theorem dX1_harmFrom_33 : decode cX1_harmFrom 33 = .ok (.invokevirtual 65, 3) := by decide +kernel
theorem dX1_harmFrom_36 : decode cX1_harmFrom 36 = .ok (.ifCond .eq 5, 3) := by decide +kernel
theorem dX1_harmFrom_39 : decode cX1_harmFrom 39 = .ok (.iconst 0, 1) := by decide +kernel
theorem dX1_harmFrom_40 : decode cX1_harmFrom 40 = .ok (.ireturn, 1) := by decide +kernel
theorem dX1_harmFrom_41 : decode cX1_harmFrom 41 = .ok (.iload_n 2, 1) := by decide +kernel
theorem dX1_harmFrom_42 : decode cX1_harmFrom 42 = .ok (.aload_n 0, 1) := by decide +kernel
theorem dX1_harmFrom_43 : decode cX1_harmFrom 43 = .ok (.getfield 15, 3) := by decide +kernel
theorem dX1_harmFrom_46 : decode cX1_harmFrom 46 = .ok (.iload 4, 2) := by decide +kernel
theorem dX1_harmFrom_48 : decode cX1_harmFrom 48 = .ok (.iaload, 1) := by decide +kernel
theorem dX1_harmFrom_49 : decode cX1_harmFrom 49 = .ok (.isub, 1) := by decide +kernel
theorem dX1_harmFrom_50 : decode cX1_harmFrom 50 = .ok (.invokestatic 69, 3) := by decide +kernel
theorem dX1_harmFrom_53 : decode cX1_harmFrom 53 = .ok (.istore 5, 2) := by decide +kernel
theorem dX1_harmFrom_55 : decode cX1_harmFrom 55 = .ok (.iload 5, 2) := by decide +kernel
theorem dX1_harmFrom_57 : decode cX1_harmFrom 57 = .ok (.sipush 360, 3) := by decide +kernel
theorem dX1_harmFrom_60 : decode cX1_harmFrom 60 = .ok (.iload 5, 2) := by decide +kernel
theorem dX1_harmFrom_62 : decode cX1_harmFrom 62 = .ok (.isub, 1) := by decide +kernel
theorem dX1_harmFrom_63 : decode cX1_harmFrom 63 = .ok (.invokestatic 75, 3) := by decide +kernel
theorem dX1_harmFrom_66 : decode cX1_harmFrom 66 = .ok (.istore 6, 2) := by decide +kernel
theorem dX1_harmFrom_68 : decode cX1_harmFrom 68 = .ok (.iload_n 3, 1) := by decide +kernel
theorem dX1_harmFrom_69 : decode cX1_harmFrom 69 = .ok (.bipush 12, 2) := by decide +kernel
theorem dX1_harmFrom_71 : decode cX1_harmFrom 71 = .ok (.iload 6, 2) := by decide +kernel
theorem dX1_harmFrom_73 : decode cX1_harmFrom 73 = .ok (.isub, 1) := by decide +kernel
theorem dX1_harmFrom_74 : decode cX1_harmFrom 74 = .ok (.iconst 0, 1) := by decide +kernel
theorem dX1_harmFrom_75 : decode cX1_harmFrom 75 = .ok (.invokestatic 79, 3) := by decide +kernel
theorem dX1_harmFrom_78 : decode cX1_harmFrom 78 = .ok (.imul, 1) := by decide +kernel
theorem dX1_harmFrom_79 : decode cX1_harmFrom 79 = .ok (.ireturn, 1) := by decide +kernel
set_option maxRecDepth 20000 in
theorem ggX1_isOverLimit_X1_isAhead : GoodIn wsX1_isOverLimit wsX1_isAhead := goodIn_r _ [5, 6, 38, 39, 40, 41, 42, 43, 44, 45, 46, 47, 48, 49, 50] (by decide +kernel) (by decide +kernel)
set_option maxRecDepth 20000 in
theorem gX1_isOverLimit_X1_isAhead : GoodIn wsX1_isOverLimit (wsV RX1 82 RX1 yX1_isAhead wsX1_isAhead) := goodIn_app (goodIn_of _ (by decide +kernel)) ggX1_isOverLimit_X1_isAhead
set_option maxRecDepth 20000 in
theorem ggX1_isOverLimit_X1_harmTo : GoodIn wsX1_isOverLimit wsX1_harmTo := goodIn_r _ [10, 11, 12, 13, 14, 15, 4, 16, 17, 18, 19, 20, 21, 22, 23, 24, 25, 26, 27, 28, 29, 30, 31, 32, 38, 39, 40, 41, 42, 43, 44, 45, 46, 47, 48, 49, 50] (by decide +kernel) (by decide +kernel)
set_option maxRecDepth 20000 in
theorem gX1_isOverLimit_X1_harmTo : GoodIn wsX1_isOverLimit (wsV RX1 86 RX1 yX1_harmTo wsX1_harmTo) := goodIn_app (goodIn_of _ (by decide +kernel)) ggX1_isOverLimit_X1_harmTo
set_option maxRecDepth 20000 in
theorem ggX1_isOverLimit_X1_limitOfPair : GoodIn wsX1_isOverLimit wsX1_limitOfPair := goodIn_r _ [36, 37, 38, 39, 40, 41, 42, 43, 44, 45, 46, 47, 48, 49, 50] (by decide +kernel) (by decide +kernel)
set_option maxRecDepth 20000 in
theorem gX1_isOverLimit_X1_limitOfPair : GoodIn wsX1_isOverLimit (wsV RX1 89 RX1 yX1_limitOfPair wsX1_limitOfPair) := goodIn_app (goodIn_of _ (by decide +kernel)) ggX1_isOverLimit_X1_limitOfPair
theorem dX1_isOverLimit_0 : decode cX1_isOverLimit 0 = .ok (.aload_n 0, 1) := by decide +kernel
theorem dX1_isOverLimit_1 : decode cX1_isOverLimit 1 = .ok (.iload_n 2, 1) := by decide +kernel
theorem dX1_isOverLimit_2 : decode cX1_isOverLimit 2 = .ok (.iload_n 1, 1) := by decide +kernel
theorem dX1_isOverLimit_3 : decode cX1_isOverLimit 3 = .ok (.invokevirtual 82, 3) := by decide +kernel
theorem dX1_isOverLimit_6 : decode cX1_isOverLimit 6 = .ok (.ifCond .eq 22, 3) := by decide +kernel
theorem dX1_isOverLimit_9 : decode cX1_isOverLimit 9 = .ok (.aload_n 0, 1) := by decide +kernel
theorem dX1_isOverLimit_10 : decode cX1_isOverLimit 10 = .ok (.iload_n 1, 1) := by decide +kernel
theorem dX1_isOverLimit_11 : decode cX1_isOverLimit 11 = .ok (.iload_n 2, 1) := by decide +kernel
theorem dX1_isOverLimit_12 : decode cX1_isOverLimit 12 = .ok (.invokevirtual 86, 3) := by decide +kernel
theorem dX1_isOverLimit_15 : decode cX1_isOverLimit 15 = .ok (.aload_n 0, 1) := by decide +kernel
theorem dX1_isOverLimit_16 : decode cX1_isOverLimit 16 = .ok (.iload_n 1, 1) := by decide +kernel
theorem dX1_isOverLimit_17 : decode cX1_isOverLimit 17 = .ok (.iload_n 2, 1) := by decide +kernel
theorem dX1_isOverLimit_18 : decode cX1_isOverLimit 18 = .ok (.invokevirtual 89, 3) := by decide +kernel
theorem dX1_isOverLimit_21 : decode cX1_isOverLimit 21 = .ok (.if_icmp .le 7, 3) := by decide +kernel
theorem dX1_isOverLimit_24 : decode cX1_isOverLimit 24 = .ok (.iconst 1, 1) := by decide +kernel
theorem dX1_isOverLimit_25 : decode cX1_isOverLimit 25 = .ok (.goto 4, 3) := by decide +kernel
theorem dX1_isOverLimit_28 : decode cX1_isOverLimit 28 = .ok (.iconst 0, 1) := by decide +kernel
theorem dX1_isOverLimit_29 : decode cX1_isOverLimit 29 = .ok (.ireturn, 1) := by decide +kernel
set_option maxRecDepth 20000 in
theorem ggX1_countOverLimit_X1_isOverLimit : GoodIn wsX1_countOverLimit wsX1_isOverLimit := goodIn_r _ [6, 7, 8, 9, 5, 10, 11, 12, 13, 14, 15, 16, 17, 18, 19, 20, 21, 22, 23, 24, 25, 26, 27, 28, 29, 30, 31, 32, 33, 34, 35, 36, 37, 38, 39, 40, 41, 42, 43, 44, 45, 46, 47, 48, 49, 50, 51, 52, 53, 54, 55] (by decide +kernel) (by decide +kernel)
set_option maxRecDepth 20000 in
theorem gX1_countOverLimit_X1_isOverLimit : GoodIn wsX1_countOverLimit (wsV RX1 92 RX1 yX1_isOverLimit wsX1_isOverLimit) := goodIn_app (goodIn_of _ (by decide +kernel)) ggX1_countOverLimit_X1_isOverLimit
theorem dX1_countOverLimit_0 : decode cX1_countOverLimit 0 = .ok (.iconst 0, 1) := by decide +kernel
theorem dX1_countOverLimit_1 : decode cX1_countOverLimit 1 = .ok (.istore_n 2, 1) := by decide +kernel
theorem dX1_countOverLimit_2 : decode cX1_countOverLimit 2 = .ok (.iconst 0, 1) := by decide +kernel
theorem dX1_countOverLimit_3 : decode cX1_countOverLimit 3 = .ok (.istore_n 3, 1) := by decide +kernel
theorem dX1_countOverLimit_4 : decode cX1_countOverLimit 4 = .ok (.iload_n 3, 1) := by decide +kernel
theorem dX1_countOverLimit_5 : decode cX1_countOverLimit 5 = .ok (.aload_n 0, 1) := by decide +kernel
theorem dX1_countOverLimit_6 : decode cX1_countOverLimit 6 = .ok (.getfield 46, 3) := by decide +kernel
theorem dX1_countOverLimit_9 : decode cX1_countOverLimit 9 = .ok (.if_icmp .ge 21, 3) := by decide +kernel
theorem dX1_countOverLimit_12 : decode cX1_countOverLimit 12 = .ok (.aload_n 0, 1) := by decide +kernel
theorem dX1_countOverLimit_13 : decode cX1_countOverLimit 13 = .ok (.iload_n 1, 1) := by decide +kernel
theorem dX1_countOverLimit_14 : decode cX1_countOverLimit 14 = .ok (.iload_n 3, 1) := by decide +kernel
theorem dX1_countOverLimit_15 : decode cX1_countOverLimit 15 = .ok (.invokevirtual 92, 3) := by decide +kernel
theorem dX1_countOverLimit_18 : decode cX1_countOverLimit 18 = .ok (.ifCond .eq 6, 3) := by decide +kernel
theorem dX1_countOverLimit_21 : decode cX1_countOverLimit 21 = .ok (.iinc 2 1, 3) := by decide +kernel
theorem dX1_countOverLimit_24 : decode cX1_countOverLimit 24 = .ok (.iinc 3 1, 3) := by decide +kernel
theorem dX1_countOverLimit_27 : decode cX1_countOverLimit 27 = .ok (.goto (-23), 3) := by decide +kernel
theorem dX1_countOverLimit_30 : decode cX1_countOverLimit 30 = .ok (.iload_n 2, 1) := by decide +kernel
theorem dX1_countOverLimit_31 : decode cX1_countOverLimit 31 = .ok (.ireturn, 1) := by decide +kernel
set_option maxRecDepth 20000 in
theorem ggX1_wouldHarmMore_X1_harmFrom : GoodIn wsX1_wouldHarmMore wsX1_harmFrom := goodIn_r _ [6, 7, 8, 9, 10, 11, 12, 13, 14, 15, 16, 17, 18, 19, 20, 21, 5, 22, 23, 29, 30, 31, 32, 33, 34, 35, 36, 37, 38, 39, 40, 41] (by decide +kernel) (by decide +kernel)
set_option maxRecDepth 20000 in
theorem gX1_wouldHarmMore_X1_harmFrom : GoodIn wsX1_wouldHarmMore (wsV RX1 61 RX1 yX1_harmFrom wsX1_harmFrom) := goodIn_app (goodIn_of _ (by decide +kernel)) ggX1_wouldHarmMore_X1_harmFrom
set_option maxRecDepth 20000 in
theorem ggX1_wouldHarmMore_X1_harmTo : GoodIn wsX1_wouldHarmMore wsX1_harmTo := goodIn_r _ [27, 8, 28, 2, 3, 4, 5, 6, 7, 9, 10, 11, 12, 13, 14, 15, 16, 17, 18, 19, 20, 21, 22, 23, 29, 30, 31, 32, 33, 34, 35, 36, 37, 38, 39, 40, 41] (by decide +kernel) (by decide +kernel)
set_option maxRecDepth 20000 in
theorem gX1_wouldHarmMore_X1_harmTo : GoodIn wsX1_wouldHarmMore (wsV RX1 86 RX1 yX1_harmTo wsX1_harmTo) := goodIn_app (goodIn_of _ (by decide +kernel)) ggX1_wouldHarmMore_X1_harmTo
theorem dX1_wouldHarmMore_0 : decode cX1_wouldHarmMore 0 = .ok (.iconst 0, 1) := by decide +kernel
theorem dX1_wouldHarmMore_1 : decode cX1_wouldHarmMore 1 = .ok (.istore 4, 2) := by decide +kernel
theorem dX1_wouldHarmMore_3 : decode cX1_wouldHarmMore 3 = .ok (.iload 4, 2) := by decide +kernel
theorem dX1_wouldHarmMore_5 : decode cX1_wouldHarmMore 5 = .ok (.aload_n 0, 1) := by decide +kernel
theorem dX1_wouldHarmMore_6 : decode cX1_wouldHarmMore 6 = .ok (.getfield 46, 3) := by decide +kernel
theorem dX1_wouldHarmMore_9 : decode cX1_wouldHarmMore 9 = .ok (.if_icmp .ge 30, 3) := by decide +kernel
theorem dX1_wouldHarmMore_12 : decode cX1_wouldHarmMore 12 = .ok (.aload_n 0, 1) := by decide +kernel
theorem dX1_wouldHarmMore_13 : decode cX1_wouldHarmMore 13 = .ok (.iload_n 1, 1) := by decide +kernel
theorem dX1_wouldHarmMore_14 : decode cX1_wouldHarmMore 14 = .ok (.iload_n 2, 1) := by decide +kernel
theorem dX1_wouldHarmMore_15 : decode cX1_wouldHarmMore 15 = .ok (.iload_n 3, 1) := by decide +kernel
theorem dX1_wouldHarmMore_16 : decode cX1_wouldHarmMore 16 = .ok (.iload 4, 2) := by decide +kernel
theorem dX1_wouldHarmMore_18 : decode cX1_wouldHarmMore 18 = .ok (.invokevirtual 61, 3) := by decide +kernel
theorem dX1_wouldHarmMore_21 : decode cX1_wouldHarmMore 21 = .ok (.aload_n 0, 1) := by decide +kernel
theorem dX1_wouldHarmMore_22 : decode cX1_wouldHarmMore 22 = .ok (.iload_n 1, 1) := by decide +kernel
theorem dX1_wouldHarmMore_23 : decode cX1_wouldHarmMore 23 = .ok (.iload 4, 2) := by decide +kernel
theorem dX1_wouldHarmMore_25 : decode cX1_wouldHarmMore 25 = .ok (.invokevirtual 86, 3) := by decide +kernel
theorem dX1_wouldHarmMore_28 : decode cX1_wouldHarmMore 28 = .ok (.if_icmp .le 5, 3) := by decide +kernel
theorem dX1_wouldHarmMore_31 : decode cX1_wouldHarmMore 31 = .ok (.iconst 1, 1) := by decide +kernel
theorem dX1_wouldHarmMore_32 : decode cX1_wouldHarmMore 32 = .ok (.ireturn, 1) := by decide +kernel
theorem dX1_wouldHarmMore_33 : decode cX1_wouldHarmMore 33 = .ok (.iinc 4 1, 3) := by decide +kernel
theorem dX1_wouldHarmMore_36 : decode cX1_wouldHarmMore 36 = .ok (.goto (-33), 3) := by decide +kernel
theorem dX1_wouldHarmMore_39 : decode cX1_wouldHarmMore 39 = .ok (.iconst 0, 1) := by decide +kernel
theorem dX1_wouldHarmMore_40 : decode cX1_wouldHarmMore 40 = .ok (.ireturn, 1) := by decide +kernel
set_option maxRecDepth 20000 in
theorem ggX1_harmBorne_X1_isAhead : GoodIn wsX1_harmBorne wsX1_isAhead := goodIn_r _ [7, 8, 34, 35, 36, 37, 38, 39, 40, 41, 42, 43, 44, 45, 46] (by decide +kernel) (by decide +kernel)
set_option maxRecDepth 20000 in
theorem gX1_harmBorne_X1_isAhead : GoodIn wsX1_harmBorne (wsV RX1 82 RX1 yX1_isAhead wsX1_isAhead) := goodIn_app (goodIn_of _ (by decide +kernel)) ggX1_harmBorne_X1_isAhead
set_option maxRecDepth 20000 in
theorem ggX1_harmBorne_X1_harmTo : GoodIn wsX1_harmBorne wsX1_harmTo := goodIn_r _ [12, 13, 14, 15, 16, 17, 6, 18, 19, 20, 21, 22, 23, 24, 25, 26, 27, 28, 29, 30, 31, 32, 33, 2, 34, 35, 36, 37, 38, 39, 40, 41, 42, 43, 44, 45, 46] (by decide +kernel) (by decide +kernel)
set_option maxRecDepth 20000 in
theorem gX1_harmBorne_X1_harmTo : GoodIn wsX1_harmBorne (wsV RX1 86 RX1 yX1_harmTo wsX1_harmTo) := goodIn_app (goodIn_of _ (by decide +kernel)) ggX1_harmBorne_X1_harmTo
theorem dX1_harmBorne_0 : decode cX1_harmBorne 0 = .ok (.iconst 0, 1) := by decide +kernel
theorem dX1_harmBorne_1 : decode cX1_harmBorne 1 = .ok (.istore_n 2, 1) := by decide +kernel
theorem dX1_harmBorne_2 : decode cX1_harmBorne 2 = .ok (.iconst 0, 1) := by decide +kernel
theorem dX1_harmBorne_3 : decode cX1_harmBorne 3 = .ok (.istore_n 3, 1) := by decide +kernel
theorem dX1_harmBorne_4 : decode cX1_harmBorne 4 = .ok (.iload_n 3, 1) := by decide +kernel
theorem dX1_harmBorne_5 : decode cX1_harmBorne 5 = .ok (.aload_n 0, 1) := by decide +kernel
theorem dX1_harmBorne_6 : decode cX1_harmBorne 6 = .ok (.getfield 46, 3) := by decide +kernel
theorem dX1_harmBorne_9 : decode cX1_harmBorne 9 = .ok (.if_icmp .ge 37, 3) := by decide +kernel
theorem dX1_harmBorne_12 : decode cX1_harmBorne 12 = .ok (.aload_n 0, 1) := by decide +kernel
theorem dX1_harmBorne_13 : decode cX1_harmBorne 13 = .ok (.getfield 27, 3) := by decide +kernel
theorem dX1_harmBorne_16 : decode cX1_harmBorne 16 = .ok (.iload_n 3, 1) := by decide +kernel
theorem dX1_harmBorne_17 : decode cX1_harmBorne 17 = .ok (.iaload, 1) := by decide +kernel
theorem dX1_harmBorne_18 : decode cX1_harmBorne 18 = .ok (.iconst 2, 1) := by decide +kernel
theorem dX1_harmBorne_19 : decode cX1_harmBorne 19 = .ok (.if_icmp .ne 21, 3) := by decide +kernel
theorem dX1_harmBorne_22 : decode cX1_harmBorne 22 = .ok (.aload_n 0, 1) := by decide +kernel
theorem dX1_harmBorne_23 : decode cX1_harmBorne 23 = .ok (.iload_n 1, 1) := by decide +kernel
theorem dX1_harmBorne_24 : decode cX1_harmBorne 24 = .ok (.iload_n 3, 1) := by decide +kernel
theorem dX1_harmBorne_25 : decode cX1_harmBorne 25 = .ok (.invokevirtual 82, 3) := by decide +kernel
theorem dX1_harmBorne_28 : decode cX1_harmBorne 28 = .ok (.ifCond .eq 12, 3) := by decide +kernel
theorem dX1_harmBorne_31 : decode cX1_harmBorne 31 = .ok (.iload_n 2, 1) := by decide +kernel
theorem dX1_harmBorne_32 : decode cX1_harmBorne 32 = .ok (.aload_n 0, 1) := by decide +kernel
theorem dX1_harmBorne_33 : decode cX1_harmBorne 33 = .ok (.iload_n 3, 1) := by decide +kernel
theorem dX1_harmBorne_34 : decode cX1_harmBorne 34 = .ok (.iload_n 1, 1) := by decide +kernel
theorem dX1_harmBorne_35 : decode cX1_harmBorne 35 = .ok (.invokevirtual 86, 3) := by decide +kernel
theorem dX1_harmBorne_38 : decode cX1_harmBorne 38 = .ok (.iadd, 1) := by decide +kernel
theorem dX1_harmBorne_39 : decode cX1_harmBorne 39 = .ok (.istore_n 2, 1) := by decide +kernel
theorem dX1_harmBorne_40 : decode cX1_harmBorne 40 = .ok (.iinc 3 1, 3) := by decide +kernel
theorem dX1_harmBorne_43 : decode cX1_harmBorne 43 = .ok (.goto (-39), 3) := by decide +kernel
theorem dX1_harmBorne_46 : decode cX1_harmBorne 46 = .ok (.iload_n 2, 1) := by decide +kernel
theorem dX1_harmBorne_47 : decode cX1_harmBorne 47 = .ok (.ireturn, 1) := by decide +kernel
set_option maxRecDepth 20000 in
theorem ggX1_findFirst_X1_isLapsed : GoodIn wsX1_findFirst wsX1_isLapsed := goodIn_r _ [8, 9, 15, 16, 17, 18, 19, 20, 21, 22, 23, 24, 25, 26, 27] (by decide +kernel) (by decide +kernel)
set_option maxRecDepth 20000 in
theorem gX1_findFirst_X1_isLapsed : GoodIn wsX1_findFirst (wsV RX1 65 RX1 yX1_isLapsed wsX1_isLapsed) := goodIn_app (goodIn_of _ (by decide +kernel)) ggX1_findFirst_X1_isLapsed
set_option maxRecDepth 20000 in
theorem ggX1_findFirst_X1_isAhead : GoodIn wsX1_findFirst wsX1_isAhead := goodIn_r _ [13, 14, 15, 16, 17, 18, 19, 20, 21, 22, 23, 24, 25, 26, 27] (by decide +kernel) (by decide +kernel)
set_option maxRecDepth 20000 in
theorem gX1_findFirst_X1_isAhead : GoodIn wsX1_findFirst (wsV RX1 82 RX1 yX1_isAhead wsX1_isAhead) := goodIn_app (goodIn_of _ (by decide +kernel)) ggX1_findFirst_X1_isAhead
theorem dX1_findFirst_0 : decode cX1_findFirst 0 = .ok (.iconst (-1), 1) := by decide +kernel
theorem dX1_findFirst_1 : decode cX1_findFirst 1 = .ok (.istore_n 3, 1) := by decide +kernel
theorem dX1_findFirst_2 : decode cX1_findFirst 2 = .ok (.iconst 0, 1) := by decide +kernel
theorem dX1_findFirst_3 : decode cX1_findFirst 3 = .ok (.istore 4, 2) := by decide +kernel
theorem dX1_findFirst_5 : decode cX1_findFirst 5 = .ok (.iload 4, 2) := by decide +kernel
theorem dX1_findFirst_7 : decode cX1_findFirst 7 = .ok (.aload_n 0, 1) := by decide +kernel
theorem dX1_findFirst_8 : decode cX1_findFirst 8 = .ok (.getfield 46, 3) := by decide +kernel
theorem dX1_findFirst_11 : decode cX1_findFirst 11 = .ok (.if_icmp .ge 70, 3) := by decide +kernel
theorem dX1_findFirst_14 : decode cX1_findFirst 14 = .ok (.aload_n 0, 1) := by decide +kernel
theorem dX1_findFirst_15 : decode cX1_findFirst 15 = .ok (.iload 4, 2) := by decide +kernel
theorem dX1_findFirst_17 : decode cX1_findFirst 17 = .ok (.invokevirtual 65, 3) := by decide +kernel
theorem dX1_findFirst_20 : decode cX1_findFirst 20 = .ok (.ifCond .ne 29, 3) := by decide +kernel
theorem dX1_findFirst_23 : decode cX1_findFirst 23 = .ok (.aload_n 0, 1) := by decide +kernel
theorem dX1_findFirst_24 : decode cX1_findFirst 24 = .ok (.getfield 15, 3) := by decide +kernel
theorem dX1_findFirst_27 : decode cX1_findFirst 27 = .ok (.iload 4, 2) := by decide +kernel
theorem dX1_findFirst_29 : decode cX1_findFirst 29 = .ok (.iaload, 1) := by decide +kernel
theorem dX1_findFirst_30 : decode cX1_findFirst 30 = .ok (.iload_n 1, 1) := by decide +kernel
theorem dX1_findFirst_31 : decode cX1_findFirst 31 = .ok (.if_icmp .ne 18, 3) := by decide +kernel
theorem dX1_findFirst_34 : decode cX1_findFirst 34 = .ok (.aload_n 0, 1) := by decide +kernel
theorem dX1_findFirst_35 : decode cX1_findFirst 35 = .ok (.getfield 18, 3) := by decide +kernel
theorem dX1_findFirst_38 : decode cX1_findFirst 38 = .ok (.iload 4, 2) := by decide +kernel
theorem dX1_findFirst_40 : decode cX1_findFirst 40 = .ok (.iaload, 1) := by decide +kernel
theorem dX1_findFirst_41 : decode cX1_findFirst 41 = .ok (.iload_n 2, 1) := by decide +kernel
theorem dX1_findFirst_42 : decode cX1_findFirst 42 = .ok (.if_icmp .ne 7, 3) := by decide +kernel
theorem dX1_findFirst_45 : decode cX1_findFirst 45 = .ok (.iconst 1, 1) := by decide +kernel
theorem dX1_findFirst_46 : decode cX1_findFirst 46 = .ok (.goto 4, 3) := by decide +kernel
theorem dX1_findFirst_49 : decode cX1_findFirst 49 = .ok (.iconst 0, 1) := by decide +kernel
theorem dX1_findFirst_50 : decode cX1_findFirst 50 = .ok (.istore 5, 2) := by decide +kernel
theorem dX1_findFirst_52 : decode cX1_findFirst 52 = .ok (.iload 5, 2) := by decide +kernel
theorem dX1_findFirst_54 : decode cX1_findFirst 54 = .ok (.ifCond .eq 21, 3) := by decide +kernel
theorem dX1_findFirst_57 : decode cX1_findFirst 57 = .ok (.iload_n 3, 1) := by decide +kernel
theorem dX1_findFirst_58 : decode cX1_findFirst 58 = .ok (.iconst (-1), 1) := by decide +kernel
theorem dX1_findFirst_59 : decode cX1_findFirst 59 = .ok (.if_icmp .eq 13, 3) := by decide +kernel
theorem dX1_findFirst_62 : decode cX1_findFirst 62 = .ok (.aload_n 0, 1) := by decide +kernel
theorem dX1_findFirst_63 : decode cX1_findFirst 63 = .ok (.iload 4, 2) := by decide +kernel
theorem dX1_findFirst_65 : decode cX1_findFirst 65 = .ok (.iload_n 3, 1) := by decide +kernel
theorem dX1_findFirst_66 : decode cX1_findFirst 66 = .ok (.invokevirtual 82, 3) := by decide +kernel
theorem dX1_findFirst_69 : decode cX1_findFirst 69 = .ok (.ifCond .eq 6, 3) := by decide +kernel
theorem dX1_findFirst_72 : decode cX1_findFirst 72 = .ok (.iload 4, 2) := by decide +kernel
theorem dX1_findFirst_74 : decode cX1_findFirst 74 = .ok (.istore_n 3, 1) := by decide +kernel
theorem dX1_findFirst_75 : decode cX1_findFirst 75 = .ok (.iinc 4 1, 3) := by decide +kernel
theorem dX1_findFirst_78 : decode cX1_findFirst 78 = .ok (.goto (-73), 3) := by decide +kernel
theorem dX1_findFirst_81 : decode cX1_findFirst 81 = .ok (.iload_n 3, 1) := by decide +kernel
theorem dX1_findFirst_82 : decode cX1_findFirst 82 = .ok (.ireturn, 1) := by decide +kernel
theorem dX1_countServedBy_0 : decode cX1_countServedBy 0 = .ok (.iconst 0, 1) := by decide +kernel
theorem dX1_countServedBy_1 : decode cX1_countServedBy 1 = .ok (.istore_n 2, 1) := by decide +kernel
theorem dX1_countServedBy_2 : decode cX1_countServedBy 2 = .ok (.iconst 0, 1) := by decide +kernel
theorem dX1_countServedBy_3 : decode cX1_countServedBy 3 = .ok (.istore_n 3, 1) := by decide +kernel
theorem dX1_countServedBy_4 : decode cX1_countServedBy 4 = .ok (.iload_n 3, 1) := by decide +kernel
theorem dX1_countServedBy_5 : decode cX1_countServedBy 5 = .ok (.aload_n 0, 1) := by decide +kernel
theorem dX1_countServedBy_6 : decode cX1_countServedBy 6 = .ok (.getfield 46, 3) := by decide +kernel
theorem dX1_countServedBy_9 : decode cX1_countServedBy 9 = .ok (.if_icmp .ge 22, 3) := by decide +kernel
theorem dX1_countServedBy_12 : decode cX1_countServedBy 12 = .ok (.aload_n 0, 1) := by decide +kernel
theorem dX1_countServedBy_13 : decode cX1_countServedBy 13 = .ok (.getfield 34, 3) := by decide +kernel
theorem dX1_countServedBy_16 : decode cX1_countServedBy 16 = .ok (.iload_n 3, 1) := by decide +kernel
theorem dX1_countServedBy_17 : decode cX1_countServedBy 17 = .ok (.iaload, 1) := by decide +kernel
theorem dX1_countServedBy_18 : decode cX1_countServedBy 18 = .ok (.iload_n 1, 1) := by decide +kernel
theorem dX1_countServedBy_19 : decode cX1_countServedBy 19 = .ok (.if_icmp .ne 6, 3) := by decide +kernel
theorem dX1_countServedBy_22 : decode cX1_countServedBy 22 = .ok (.iinc 2 1, 3) := by decide +kernel
theorem dX1_countServedBy_25 : decode cX1_countServedBy 25 = .ok (.iinc 3 1, 3) := by decide +kernel
theorem dX1_countServedBy_28 : decode cX1_countServedBy 28 = .ok (.goto (-24), 3) := by decide +kernel
theorem dX1_countServedBy_31 : decode cX1_countServedBy 31 = .ok (.iload_n 2, 1) := by decide +kernel
theorem dX1_countServedBy_32 : decode cX1_countServedBy 32 = .ok (.ireturn, 1) := by decide +kernel
set_option maxRecDepth 20000 in
theorem ggX1_suspendServedBy_X1_suspend : GoodIn wsX1_suspendServedBy wsX1_suspend := goodIn_r _ [7, 8, 9, 2, 10, 11, 12, 13, 14, 15, 16, 17, 18, 19, 20, 21, 22] (by decide +kernel) (by decide +kernel)
set_option maxRecDepth 20000 in
theorem gX1_suspendServedBy_X1_suspend : GoodIn wsX1_suspendServedBy (wsV RX1 95 RX1 yX1_suspend wsX1_suspend) := goodIn_app (goodIn_of _ (by decide +kernel)) ggX1_suspendServedBy_X1_suspend
theorem dX1_suspendServedBy_0 : decode cX1_suspendServedBy 0 = .ok (.iconst 0, 1) := by decide +kernel
theorem dX1_suspendServedBy_1 : decode cX1_suspendServedBy 1 = .ok (.istore_n 3, 1) := by decide +kernel
theorem dX1_suspendServedBy_2 : decode cX1_suspendServedBy 2 = .ok (.iconst 0, 1) := by decide +kernel
theorem dX1_suspendServedBy_3 : decode cX1_suspendServedBy 3 = .ok (.istore 4, 2) := by decide +kernel
theorem dX1_suspendServedBy_5 : decode cX1_suspendServedBy 5 = .ok (.iload 4, 2) := by decide +kernel
theorem dX1_suspendServedBy_7 : decode cX1_suspendServedBy 7 = .ok (.aload_n 0, 1) := by decide +kernel
theorem dX1_suspendServedBy_8 : decode cX1_suspendServedBy 8 = .ok (.getfield 46, 3) := by decide +kernel
theorem dX1_suspendServedBy_11 : decode cX1_suspendServedBy 11 = .ok (.if_icmp .ge 30, 3) := by decide +kernel
theorem dX1_suspendServedBy_14 : decode cX1_suspendServedBy 14 = .ok (.aload_n 0, 1) := by decide +kernel
theorem dX1_suspendServedBy_15 : decode cX1_suspendServedBy 15 = .ok (.getfield 34, 3) := by decide +kernel
theorem dX1_suspendServedBy_18 : decode cX1_suspendServedBy 18 = .ok (.iload 4, 2) := by decide +kernel
theorem dX1_suspendServedBy_20 : decode cX1_suspendServedBy 20 = .ok (.iaload, 1) := by decide +kernel
theorem dX1_suspendServedBy_21 : decode cX1_suspendServedBy 21 = .ok (.iload_n 1, 1) := by decide +kernel
theorem dX1_suspendServedBy_22 : decode cX1_suspendServedBy 22 = .ok (.if_icmp .ne 13, 3) := by decide +kernel
theorem dX1_suspendServedBy_25 : decode cX1_suspendServedBy 25 = .ok (.aload_n 0, 1) := by decide +kernel
theorem dX1_suspendServedBy_26 : decode cX1_suspendServedBy 26 = .ok (.iload 4, 2) := by decide +kernel
theorem dX1_suspendServedBy_28 : decode cX1_suspendServedBy 28 = .ok (.iload_n 2, 1) := by decide +kernel
theorem dX1_suspendServedBy_29 : decode cX1_suspendServedBy 29 = .ok (.invokevirtual 95, 3) := by decide +kernel
theorem dX1_suspendServedBy_32 : decode cX1_suspendServedBy 32 = .ok (.iinc 3 1, 3) := by decide +kernel
theorem dX1_suspendServedBy_35 : decode cX1_suspendServedBy 35 = .ok (.iinc 4 1, 3) := by decide +kernel
theorem dX1_suspendServedBy_38 : decode cX1_suspendServedBy 38 = .ok (.goto (-33), 3) := by decide +kernel
theorem dX1_suspendServedBy_41 : decode cX1_suspendServedBy 41 = .ok (.iload_n 3, 1) := by decide +kernel
theorem dX1_suspendServedBy_42 : decode cX1_suspendServedBy 42 = .ok (.ireturn, 1) := by decide +kernel
theorem dX1_suspend_0 : decode cX1_suspend 0 = .ok (.aload_n 0, 1) := by decide +kernel
theorem dX1_suspend_1 : decode cX1_suspend 1 = .ok (.getfield 27, 3) := by decide +kernel
theorem dX1_suspend_4 : decode cX1_suspend 4 = .ok (.iload_n 1, 1) := by decide +kernel
theorem dX1_suspend_5 : decode cX1_suspend 5 = .ok (.iconst 3, 1) := by decide +kernel
theorem dX1_suspend_6 : decode cX1_suspend 6 = .ok (.iastore, 1) := by decide +kernel
theorem dX1_suspend_7 : decode cX1_suspend 7 = .ok (.aload_n 0, 1) := by decide +kernel
theorem dX1_suspend_8 : decode cX1_suspend 8 = .ok (.getfield 40, 3) := by decide +kernel
theorem dX1_suspend_11 : decode cX1_suspend 11 = .ok (.iload_n 1, 1) := by decide +kernel
theorem dX1_suspend_12 : decode cX1_suspend 12 = .ok (.iload_n 2, 1) := by decide +kernel
theorem dX1_suspend_13 : decode cX1_suspend 13 = .ok (.iastore, 1) := by decide +kernel
theorem dX1_suspend_14 : decode cX1_suspend 14 = .ok (.aload_n 0, 1) := by decide +kernel
theorem dX1_suspend_15 : decode cX1_suspend 15 = .ok (.getfield 34, 3) := by decide +kernel
theorem dX1_suspend_18 : decode cX1_suspend 18 = .ok (.iload_n 1, 1) := by decide +kernel
theorem dX1_suspend_19 : decode cX1_suspend 19 = .ok (.iconst (-1), 1) := by decide +kernel
theorem dX1_suspend_20 : decode cX1_suspend 20 = .ok (.iastore, 1) := by decide +kernel
theorem dX1_suspend_21 : decode cX1_suspend 21 = .ok (.return_, 1) := by decide +kernel
theorem dX1_lapse_0 : decode cX1_lapse 0 = .ok (.aload_n 0, 1) := by decide +kernel
theorem dX1_lapse_1 : decode cX1_lapse 1 = .ok (.getfield 27, 3) := by decide +kernel
theorem dX1_lapse_4 : decode cX1_lapse 4 = .ok (.iload_n 1, 1) := by decide +kernel
theorem dX1_lapse_5 : decode cX1_lapse 5 = .ok (.iconst 4, 1) := by decide +kernel
theorem dX1_lapse_6 : decode cX1_lapse 6 = .ok (.iastore, 1) := by decide +kernel
theorem dX1_lapse_7 : decode cX1_lapse 7 = .ok (.aload_n 0, 1) := by decide +kernel
theorem dX1_lapse_8 : decode cX1_lapse 8 = .ok (.getfield 34, 3) := by decide +kernel
theorem dX1_lapse_11 : decode cX1_lapse 11 = .ok (.iload_n 1, 1) := by decide +kernel
theorem dX1_lapse_12 : decode cX1_lapse 12 = .ok (.iconst (-1), 1) := by decide +kernel
theorem dX1_lapse_13 : decode cX1_lapse 13 = .ok (.iastore, 1) := by decide +kernel
theorem dX1_lapse_14 : decode cX1_lapse 14 = .ok (.return_, 1) := by decide +kernel
set_option maxRecDepth 20000 in
theorem ggX1_lapseThoseDue_X4_isLapseDue : GoodIn wsX1_lapseThoseDue wsX4_isLapseDue := goodIn_r _ [7, 8, 9, 6, 10] (by decide +kernel) (by decide +kernel)
set_option maxRecDepth 20000 in
theorem gX1_lapseThoseDue_X4_isLapseDue_n99 : GoodIn wsX1_lapseThoseDue (wsX4_isLapseDue) := ggX1_lapseThoseDue_X4_isLapseDue
set_option maxRecDepth 20000 in
theorem ggX1_lapseThoseDue_X1_lapse : GoodIn wsX1_lapseThoseDue wsX1_lapse := goodIn_r _ [15, 2, 16, 17, 18, 19, 20, 21, 22, 23, 24, 25, 26, 27, 28, 29] (by decide +kernel) (by decide +kernel)
set_option maxRecDepth 20000 in
theorem gX1_lapseThoseDue_X1_lapse : GoodIn wsX1_lapseThoseDue (wsV RX1 103 RX1 yX1_lapse wsX1_lapse) := goodIn_app (goodIn_of _ (by decide +kernel)) ggX1_lapseThoseDue_X1_lapse
theorem dX1_lapseThoseDue_0 : decode cX1_lapseThoseDue 0 = .ok (.iconst 0, 1) := by decide +kernel
theorem dX1_lapseThoseDue_1 : decode cX1_lapseThoseDue 1 = .ok (.istore_n 2, 1) := by decide +kernel
theorem dX1_lapseThoseDue_2 : decode cX1_lapseThoseDue 2 = .ok (.iload_n 2, 1) := by decide +kernel
theorem dX1_lapseThoseDue_3 : decode cX1_lapseThoseDue 3 = .ok (.aload_n 0, 1) := by decide +kernel
theorem dX1_lapseThoseDue_4 : decode cX1_lapseThoseDue 4 = .ok (.getfield 46, 3) := by decide +kernel
theorem dX1_lapseThoseDue_7 : decode cX1_lapseThoseDue 7 = .ok (.if_icmp .ge 39, 3) := by decide +kernel
theorem dX1_lapseThoseDue_10 : decode cX1_lapseThoseDue 10 = .ok (.aload_n 0, 1) := by decide +kernel
theorem dX1_lapseThoseDue_11 : decode cX1_lapseThoseDue 11 = .ok (.getfield 27, 3) := by decide +kernel
theorem dX1_lapseThoseDue_14 : decode cX1_lapseThoseDue 14 = .ok (.iload_n 2, 1) := by decide +kernel
theorem dX1_lapseThoseDue_15 : decode cX1_lapseThoseDue 15 = .ok (.iaload, 1) := by decide +kernel
theorem dX1_lapseThoseDue_16 : decode cX1_lapseThoseDue 16 = .ok (.aload_n 0, 1) := by decide +kernel
theorem dX1_lapseThoseDue_17 : decode cX1_lapseThoseDue 17 = .ok (.getfield 37, 3) := by decide +kernel
theorem dX1_lapseThoseDue_20 : decode cX1_lapseThoseDue 20 = .ok (.iload_n 2, 1) := by decide +kernel
theorem dX1_lapseThoseDue_21 : decode cX1_lapseThoseDue 21 = .ok (.iaload, 1) := by decide +kernel
theorem dX1_lapseThoseDue_22 : decode cX1_lapseThoseDue 22 = .ok (.aload_n 0, 1) := by decide +kernel
theorem dX1_lapseThoseDue_23 : decode cX1_lapseThoseDue 23 = .ok (.getfield 40, 3) := by decide +kernel
theorem dX1_lapseThoseDue_26 : decode cX1_lapseThoseDue 26 = .ok (.iload_n 2, 1) := by decide +kernel
theorem dX1_lapseThoseDue_27 : decode cX1_lapseThoseDue 27 = .ok (.iaload, 1) := by decide +kernel
theorem dX1_lapseThoseDue_28 : decode cX1_lapseThoseDue 28 = .ok (.iload_n 1, 1) := by decide +kernel
theorem dX1_lapseThoseDue_29 : decode cX1_lapseThoseDue 29 = .ok (.invokestatic 99, 3) := by decide +kernel
theorem dX1_lapseThoseDue_32 : decode cX1_lapseThoseDue 32 = .ok (.ifCond .eq 8, 3) := by decide +kernel
theorem dX1_lapseThoseDue_35 : decode cX1_lapseThoseDue 35 = .ok (.aload_n 0, 1) := by decide +kernel
theorem dX1_lapseThoseDue_36 : decode cX1_lapseThoseDue 36 = .ok (.iload_n 2, 1) := by decide +kernel
theorem dX1_lapseThoseDue_37 : decode cX1_lapseThoseDue 37 = .ok (.invokevirtual 103, 3) := by decide +kernel
theorem dX1_lapseThoseDue_40 : decode cX1_lapseThoseDue 40 = .ok (.iinc 2 1, 3) := by decide +kernel
theorem dX1_lapseThoseDue_43 : decode cX1_lapseThoseDue 43 = .ok (.goto (-41), 3) := by decide +kernel
theorem dX1_lapseThoseDue_46 : decode cX1_lapseThoseDue 46 = .ok (.return_, 1) := by decide +kernel
theorem dX2_init_0 : decode cX2_init 0 = .ok (.aload_n 0, 1) := by decide +kernel
theorem dX2_init_1 : decode cX2_init 1 = .ok (.invokespecial 3, 3) := by decide +kernel
theorem dX2_init_4 : decode cX2_init 4 = .ok (.aload_n 0, 1) := by decide +kernel
theorem dX2_init_5 : decode cX2_init 5 = .ok (.sipush 512, 3) := by decide +kernel
theorem dX2_init_8 : decode cX2_init 8 = .ok (.newarray .int, 2) := by decide +kernel
theorem dX2_init_10 : decode cX2_init 10 = .ok (.putfield 9, 3) := by decide +kernel
theorem dX2_init_13 : decode cX2_init 13 = .ok (.aload_n 0, 1) := by decide +kernel
theorem dX2_init_14 : decode cX2_init 14 = .ok (.sipush 512, 3) := by decide +kernel
theorem dX2_init_17 : decode cX2_init 17 = .ok (.newarray .int, 2) := by decide +kernel
theorem dX2_init_19 : decode cX2_init 19 = .ok (.putfield 15, 3) := by decide +kernel
theorem dX2_init_22 : decode cX2_init 22 = .ok (.aload_n 0, 1) := by decide +kernel
theorem dX2_init_23 : decode cX2_init 23 = .ok (.sipush 512, 3) := by decide +kernel
theorem dX2_init_26 : decode cX2_init 26 = .ok (.newarray .int, 2) := by decide +kernel
theorem dX2_init_28 : decode cX2_init 28 = .ok (.putfield 18, 3) := by decide +kernel
theorem dX2_init_31 : decode cX2_init 31 = .ok (.aload_n 0, 1) := by decide +kernel
theorem dX2_init_32 : decode cX2_init 32 = .ok (.sipush 512, 3) := by decide +kernel
theorem dX2_init_35 : decode cX2_init 35 = .ok (.newarray .int, 2) := by decide +kernel
theorem dX2_init_37 : decode cX2_init 37 = .ok (.putfield 21, 3) := by decide +kernel
theorem dX2_init_40 : decode cX2_init 40 = .ok (.return_, 1) := by decide +kernel
theorem dX2_note_0 : decode cX2_note 0 = .ok (.aload_n 0, 1) := by decide +kernel
theorem dX2_note_1 : decode cX2_note 1 = .ok (.getfield 24, 3) := by decide +kernel
theorem dX2_note_4 : decode cX2_note 4 = .ok (.sipush 512, 3) := by decide +kernel
theorem dX2_note_7 : decode cX2_note 7 = .ok (.if_icmp .lt 4, 3) := by decide +kernel
theorem dX2_note_10 : decode cX2_note 10 = .ok (.return_, 1) := by decide +kernel
theorem dX2_note_11 : decode cX2_note 11 = .ok (.aload_n 0, 1) := by decide +kernel
theorem dX2_note_12 : decode cX2_note 12 = .ok (.getfield 9, 3) := by decide +kernel
theorem dX2_note_15 : decode cX2_note 15 = .ok (.aload_n 0, 1) := by decide +kernel
theorem dX2_note_16 : decode cX2_note 16 = .ok (.getfield 24, 3) := by decide +kernel
theorem dX2_note_19 : decode cX2_note 19 = .ok (.iload_n 1, 1) := by decide +kernel
theorem dX2_note_20 : decode cX2_note 20 = .ok (.iastore, 1) := by decide +kernel
theorem dX2_note_21 : decode cX2_note 21 = .ok (.aload_n 0, 1) := by decide +kernel
theorem dX2_note_22 : decode cX2_note 22 = .ok (.getfield 15, 3) := by decide +kernel
theorem dX2_note_25 : decode cX2_note 25 = .ok (.aload_n 0, 1) := by decide +kernel
theorem dX2_note_26 : decode cX2_note 26 = .ok (.getfield 24, 3) := by decide +kernel
theorem dX2_note_29 : decode cX2_note 29 = .ok (.iload_n 2, 1) := by decide +kernel
theorem dX2_note_30 : decode cX2_note 30 = .ok (.iastore, 1) := by decide +kernel
theorem dX2_note_31 : decode cX2_note 31 = .ok (.aload_n 0, 1) := by decide +kernel
theorem dX2_note_32 : decode cX2_note 32 = .ok (.getfield 18, 3) := by decide +kernel
theorem dX2_note_35 : decode cX2_note 35 = .ok (.aload_n 0, 1) := by decide +kernel
theorem dX2_note_36 : decode cX2_note 36 = .ok (.getfield 24, 3) := by decide +kernel
theorem dX2_note_39 : decode cX2_note 39 = .ok (.iload_n 3, 1) := by decide +kernel
theorem dX2_note_40 : decode cX2_note 40 = .ok (.iastore, 1) := by decide +kernel
theorem dX2_note_41 : decode cX2_note 41 = .ok (.aload_n 0, 1) := by decide +kernel
theorem dX2_note_42 : decode cX2_note 42 = .ok (.getfield 21, 3) := by decide +kernel
theorem dX2_note_45 : decode cX2_note 45 = .ok (.aload_n 0, 1) := by decide +kernel
theorem dX2_note_46 : decode cX2_note 46 = .ok (.getfield 24, 3) := by decide +kernel
theorem dX2_note_49 : decode cX2_note 49 = .ok (.iload 4, 2) := by decide +kernel
theorem dX2_note_51 : decode cX2_note 51 = .ok (.iastore, 1) := by decide +kernel
theorem dX2_note_52 : decode cX2_note 52 = .ok (.aload_n 0, 1) := by decide +kernel
theorem dX2_note_53 : decode cX2_note 53 = .ok (.dup, 1) := by decide +kernel
theorem dX2_note_54 : decode cX2_note 54 = .ok (.getfield 24, 3) := by decide +kernel
theorem dX2_note_57 : decode cX2_note 57 = .ok (.iconst 1, 1) := by decide +kernel
theorem dX2_note_58 : decode cX2_note 58 = .ok (.iadd, 1) := by decide +kernel
theorem dX2_note_59 : decode cX2_note 59 = .ok (.putfield 24, 3) := by decide +kernel
theorem dX2_note_62 : decode cX2_note 62 = .ok (.return_, 1) := by decide +kernel
theorem dX3_init_0 : decode cX3_init 0 = .ok (.aload_n 0, 1) := by decide +kernel
theorem dX3_init_1 : decode cX3_init 1 = .ok (.invokespecial 3, 3) := by decide +kernel
theorem dX3_init_4 : decode cX3_init 4 = .ok (.aload_n 0, 1) := by decide +kernel
theorem dX3_init_5 : decode cX3_init 5 = .ok (.bipush 16, 2) := by decide +kernel
theorem dX3_init_7 : decode cX3_init 7 = .ok (.newarray .int, 2) := by decide +kernel
theorem dX3_init_9 : decode cX3_init 9 = .ok (.putfield 9, 3) := by decide +kernel
theorem dX3_init_12 : decode cX3_init 12 = .ok (.aload_n 0, 1) := by decide +kernel
theorem dX3_init_13 : decode cX3_init 13 = .ok (.bipush 16, 2) := by decide +kernel
theorem dX3_init_15 : decode cX3_init 15 = .ok (.newarray .int, 2) := by decide +kernel
theorem dX3_init_17 : decode cX3_init 17 = .ok (.putfield 15, 3) := by decide +kernel
theorem dX3_init_20 : decode cX3_init 20 = .ok (.aload_n 0, 1) := by decide +kernel
theorem dX3_init_21 : decode cX3_init 21 = .ok (.bipush 16, 2) := by decide +kernel
theorem dX3_init_23 : decode cX3_init 23 = .ok (.newarray .int, 2) := by decide +kernel
theorem dX3_init_25 : decode cX3_init 25 = .ok (.putfield 18, 3) := by decide +kernel
theorem dX3_init_28 : decode cX3_init 28 = .ok (.aload_n 0, 1) := by decide +kernel
theorem dX3_init_29 : decode cX3_init 29 = .ok (.bipush 16, 2) := by decide +kernel
theorem dX3_init_31 : decode cX3_init 31 = .ok (.newarray .int, 2) := by decide +kernel
theorem dX3_init_33 : decode cX3_init 33 = .ok (.putfield 21, 3) := by decide +kernel
theorem dX3_init_36 : decode cX3_init 36 = .ok (.aload_n 0, 1) := by decide +kernel
theorem dX3_init_37 : decode cX3_init 37 = .ok (.bipush 16, 2) := by decide +kernel
theorem dX3_init_39 : decode cX3_init 39 = .ok (.newarray .int, 2) := by decide +kernel
theorem dX3_init_41 : decode cX3_init 41 = .ok (.putfield 24, 3) := by decide +kernel
theorem dX3_init_44 : decode cX3_init 44 = .ok (.aload_n 0, 1) := by decide +kernel
theorem dX3_init_45 : decode cX3_init 45 = .ok (.bipush 16, 2) := by decide +kernel
theorem dX3_init_47 : decode cX3_init 47 = .ok (.newarray .int, 2) := by decide +kernel
theorem dX3_init_49 : decode cX3_init 49 = .ok (.putfield 27, 3) := by decide +kernel
theorem dX3_init_52 : decode cX3_init 52 = .ok (.aload_n 0, 1) := by decide +kernel
theorem dX3_init_53 : decode cX3_init 53 = .ok (.bipush 16, 2) := by decide +kernel
theorem dX3_init_55 : decode cX3_init 55 = .ok (.newarray .boolean, 2) := by decide +kernel
theorem dX3_init_57 : decode cX3_init 57 = .ok (.putfield 30, 3) := by decide +kernel
theorem dX3_init_60 : decode cX3_init 60 = .ok (.return_, 1) := by decide +kernel
set_option maxRecDepth 20000 in
theorem ggX3_add_X3_lowestLand : GoodIn wsX3_add wsX3_lowestLand := goodIn_r _ [12, 13, 14, 11, 15] (by decide +kernel) (by decide +kernel)
set_option maxRecDepth 20000 in
theorem gX3_add_X3_lowestLand : GoodIn wsX3_add (va_wsS RX3 38 yX3_lowestLand wsX3_lowestLand) := goodIn_app (goodIn_of _ (by decide +kernel)) ggX3_add_X3_lowestLand
theorem dX3_add_0 : decode cX3_add 0 = .ok (.aload_n 0, 1) := by decide +kernel
theorem dX3_add_1 : decode cX3_add 1 = .ok (.getfield 34, 3) := by decide +kernel
theorem dX3_add_4 : decode cX3_add 4 = .ok (.istore 6, 2) := by decide +kernel
theorem dX3_add_6 : decode cX3_add 6 = .ok (.aload_n 0, 1) := by decide +kernel
theorem dX3_add_7 : decode cX3_add 7 = .ok (.dup, 1) := by decide +kernel
theorem dX3_add_8 : decode cX3_add 8 = .ok (.getfield 34, 3) := by decide +kernel
theorem dX3_add_11 : decode cX3_add 11 = .ok (.iconst 1, 1) := by decide +kernel
theorem dX3_add_12 : decode cX3_add 12 = .ok (.iadd, 1) := by decide +kernel
theorem dX3_add_13 : decode cX3_add 13 = .ok (.putfield 34, 3) := by decide +kernel
theorem dX3_add_16 : decode cX3_add 16 = .ok (.aload_n 0, 1) := by decide +kernel
theorem dX3_add_17 : decode cX3_add 17 = .ok (.getfield 9, 3) := by decide +kernel
theorem dX3_add_20 : decode cX3_add 20 = .ok (.iload 6, 2) := by decide +kernel
theorem dX3_add_22 : decode cX3_add 22 = .ok (.iload_n 1, 1) := by decide +kernel
theorem dX3_add_23 : decode cX3_add 23 = .ok (.iastore, 1) := by decide +kernel
theorem dX3_add_24 : decode cX3_add 24 = .ok (.aload_n 0, 1) := by decide +kernel
theorem dX3_add_25 : decode cX3_add 25 = .ok (.getfield 15, 3) := by decide +kernel
theorem dX3_add_28 : decode cX3_add 28 = .ok (.iload 6, 2) := by decide +kernel
theorem dX3_add_30 : decode cX3_add 30 = .ok (.iload_n 1, 1) := by decide +kernel
theorem dX3_add_31 : decode cX3_add 31 = .ok (.invokestatic 38, 3) := by decide +kernel
theorem dX3_add_34 : decode cX3_add 34 = .ok (.iastore, 1) := by decide +kernel
theorem dX3_add_35 : decode cX3_add 35 = .ok (.aload_n 0, 1) := by decide +kernel
theorem dX3_add_36 : decode cX3_add 36 = .ok (.getfield 18, 3) := by decide +kernel
theorem dX3_add_39 : decode cX3_add 39 = .ok (.iload 6, 2) := by decide +kernel
theorem dX3_add_41 : decode cX3_add 41 = .ok (.iconst 0, 1) := by decide +kernel
theorem dX3_add_42 : decode cX3_add 42 = .ok (.iastore, 1) := by decide +kernel
theorem dX3_add_43 : decode cX3_add 43 = .ok (.aload_n 0, 1) := by decide +kernel
theorem dX3_add_44 : decode cX3_add 44 = .ok (.getfield 21, 3) := by decide +kernel
theorem dX3_add_47 : decode cX3_add 47 = .ok (.iload 6, 2) := by decide +kernel
theorem dX3_add_49 : decode cX3_add 49 = .ok (.iload_n 2, 1) := by decide +kernel
theorem dX3_add_50 : decode cX3_add 50 = .ok (.iastore, 1) := by decide +kernel
theorem dX3_add_51 : decode cX3_add 51 = .ok (.aload_n 0, 1) := by decide +kernel
theorem dX3_add_52 : decode cX3_add 52 = .ok (.getfield 24, 3) := by decide +kernel
theorem dX3_add_55 : decode cX3_add 55 = .ok (.iload 6, 2) := by decide +kernel
theorem dX3_add_57 : decode cX3_add 57 = .ok (.iload_n 3, 1) := by decide +kernel
theorem dX3_add_58 : decode cX3_add 58 = .ok (.iastore, 1) := by decide +kernel
theorem dX3_add_59 : decode cX3_add 59 = .ok (.aload_n 0, 1) := by decide +kernel
theorem dX3_add_60 : decode cX3_add 60 = .ok (.getfield 27, 3) := by decide +kernel
theorem dX3_add_63 : decode cX3_add 63 = .ok (.iload 6, 2) := by decide +kernel
theorem dX3_add_65 : decode cX3_add 65 = .ok (.iload 5, 2) := by decide +kernel
theorem dX3_add_67 : decode cX3_add 67 = .ok (.iastore, 1) := by decide +kernel
theorem dX3_add_68 : decode cX3_add 68 = .ok (.aload_n 0, 1) := by decide +kernel
theorem dX3_add_69 : decode cX3_add 69 = .ok (.getfield 30, 3) := by decide +kernel
theorem dX3_add_72 : decode cX3_add 72 = .ok (.iload 6, 2) := by decide +kernel
theorem dX3_add_74 : decode cX3_add 74 = .ok (.iload 4, 2) := by decide +kernel
theorem dX3_add_76 : decode cX3_add 76 = .ok (.bastore, 1) := by decide +kernel
theorem dX3_add_77 : decode cX3_add 77 = .ok (.iload 6, 2) := by decide +kernel
theorem dX3_add_79 : decode cX3_add 79 = .ok (.ireturn, 1) := by decide +kernel
set_option maxRecDepth 20000 in
theorem ggX3_isLaunchedBy_X3_isAmong : GoodIn wsX3_isLaunchedBy wsX3_isAmong := goodIn_r _ [5] (by decide +kernel) (by decide +kernel)
set_option maxRecDepth 20000 in
theorem gX3_isLaunchedBy_X3_isAmong : GoodIn wsX3_isLaunchedBy (va_wsS RX3 42 yX3_isAmong wsX3_isAmong) := goodIn_app (goodIn_of _ (by decide +kernel)) ggX3_isLaunchedBy_X3_isAmong
theorem dX3_isLaunchedBy_0 : decode cX3_isLaunchedBy 0 = .ok (.aload_n 0, 1) := by decide +kernel
theorem dX3_isLaunchedBy_1 : decode cX3_isLaunchedBy 1 = .ok (.getfield 9, 3) := by decide +kernel
theorem dX3_isLaunchedBy_4 : decode cX3_isLaunchedBy 4 = .ok (.iload_n 1, 1) := by decide +kernel
theorem dX3_isLaunchedBy_5 : decode cX3_isLaunchedBy 5 = .ok (.iaload, 1) := by decide +kernel
theorem dX3_isLaunchedBy_6 : decode cX3_isLaunchedBy 6 = .ok (.iload_n 2, 1) := by decide +kernel
theorem dX3_isLaunchedBy_7 : decode cX3_isLaunchedBy 7 = .ok (.invokestatic 42, 3) := by decide +kernel
theorem dX3_isLaunchedBy_10 : decode cX3_isLaunchedBy 10 = .ok (.ireturn, 1) := by decide +kernel
theorem dX3_canDodge_0 : decode cX3_canDodge 0 = .ok (.aload_n 0, 1) := by decide +kernel
theorem dX3_canDodge_1 : decode cX3_canDodge 1 = .ok (.getfield 18, 3) := by decide +kernel
theorem dX3_canDodge_4 : decode cX3_canDodge 4 = .ok (.iload_n 1, 1) := by decide +kernel
theorem dX3_canDodge_5 : decode cX3_canDodge 5 = .ok (.iaload, 1) := by decide +kernel
theorem dX3_canDodge_6 : decode cX3_canDodge 6 = .ok (.ifCond .ne 17, 3) := by decide +kernel
theorem dX3_canDodge_9 : decode cX3_canDodge 9 = .ok (.aload_n 0, 1) := by decide +kernel
theorem dX3_canDodge_10 : decode cX3_canDodge 10 = .ok (.getfield 24, 3) := by decide +kernel
theorem dX3_canDodge_13 : decode cX3_canDodge 13 = .ok (.iload_n 1, 1) := by decide +kernel
theorem dX3_canDodge_14 : decode cX3_canDodge 14 = .ok (.iaload, 1) := by decide +kernel
theorem dX3_canDodge_15 : decode cX3_canDodge 15 = .ok (.iconst 1, 1) := by decide +kernel
theorem dX3_canDodge_16 : decode cX3_canDodge 16 = .ok (.if_icmp .lt 7, 3) := by decide +kernel
theorem dX3_canDodge_19 : decode cX3_canDodge 19 = .ok (.iconst 1, 1) := by decide +kernel
theorem dX3_canDodge_20 : decode cX3_canDodge 20 = .ok (.goto 4, 3) := by decide +kernel
theorem dX3_canDodge_23 : decode cX3_canDodge 23 = .ok (.iconst 0, 1) := by decide +kernel
theorem dX3_canDodge_24 : decode cX3_canDodge 24 = .ok (.ireturn, 1) := by decide +kernel
theorem dX3_dodge_0 : decode cX3_dodge 0 = .ok (.aload_n 0, 1) := by decide +kernel
theorem dX3_dodge_1 : decode cX3_dodge 1 = .ok (.getfield 24, 3) := by decide +kernel
theorem dX3_dodge_4 : decode cX3_dodge 4 = .ok (.iload_n 1, 1) := by decide +kernel
theorem dX3_dodge_5 : decode cX3_dodge 5 = .ok (.dup2, 1) := by decide +kernel
theorem dX3_dodge_6 : decode cX3_dodge 6 = .ok (.iaload, 1) := by decide +kernel
theorem dX3_dodge_7 : decode cX3_dodge 7 = .ok (.iconst 1, 1) := by decide +kernel
theorem dX3_dodge_8 : decode cX3_dodge 8 = .ok (.isub, 1) := by decide +kernel
theorem dX3_dodge_9 : decode cX3_dodge 9 = .ok (.iastore, 1) := by decide +kernel
theorem dX3_dodge_10 : decode cX3_dodge 10 = .ok (.return_, 1) := by decide +kernel
theorem dX3_isAmong_0 : decode cX3_isAmong 0 = .ok (.iload_n 0, 1) := by decide +kernel
theorem dX3_isAmong_1 : decode cX3_isAmong 1 = .ok (.iload_n 1, 1) := by decide +kernel
theorem dX3_isAmong_2 : decode cX3_isAmong 2 = .ok (.ishr, 1) := by decide +kernel
theorem dX3_isAmong_3 : decode cX3_isAmong 3 = .ok (.iconst 1, 1) := by decide +kernel
theorem dX3_isAmong_4 : decode cX3_isAmong 4 = .ok (.iand, 1) := by decide +kernel
theorem dX3_isAmong_5 : decode cX3_isAmong 5 = .ok (.iconst 1, 1) := by decide +kernel
theorem dX3_isAmong_6 : decode cX3_isAmong 6 = .ok (.if_icmp .ne 7, 3) := by decide +kernel
theorem dX3_isAmong_9 : decode cX3_isAmong 9 = .ok (.iconst 1, 1) := by decide +kernel
theorem dX3_isAmong_10 : decode cX3_isAmong 10 = .ok (.goto 4, 3) := by decide +kernel
theorem dX3_isAmong_13 : decode cX3_isAmong 13 = .ok (.iconst 0, 1) := by decide +kernel
theorem dX3_isAmong_14 : decode cX3_isAmong 14 = .ok (.ireturn, 1) := by decide +kernel
set_option maxRecDepth 20000 in
theorem ggX3_lowestLand_X3_isAmong : GoodIn wsX3_lowestLand wsX3_isAmong := goodIn_r _ [4] (by decide +kernel) (by decide +kernel)
set_option maxRecDepth 20000 in
theorem gX3_lowestLand_X3_isAmong : GoodIn wsX3_lowestLand (va_wsS RX3 42 yX3_isAmong wsX3_isAmong) := goodIn_app (goodIn_of _ (by decide +kernel)) ggX3_lowestLand_X3_isAmong
theorem dX3_lowestLand_0 : decode cX3_lowestLand 0 = .ok (.iconst 0, 1) := by decide +kernel
theorem dX3_lowestLand_1 : decode cX3_lowestLand 1 = .ok (.istore_n 1, 1) := by decide +kernel
theorem dX3_lowestLand_2 : decode cX3_lowestLand 2 = .ok (.iload_n 1, 1) := by decide +kernel
theorem dX3_lowestLand_3 : decode cX3_lowestLand 3 = .ok (.bipush 8, 2) := by decide +kernel
theorem dX3_lowestLand_5 : decode cX3_lowestLand 5 = .ok (.if_icmp .ge 19, 3) := by decide +kernel
theorem dX3_lowestLand_8 : decode cX3_lowestLand 8 = .ok (.iload_n 0, 1) := by decide +kernel
theorem dX3_lowestLand_9 : decode cX3_lowestLand 9 = .ok (.iload_n 1, 1) := by decide +kernel
theorem dX3_lowestLand_10 : decode cX3_lowestLand 10 = .ok (.invokestatic 42, 3) := by decide +kernel
theorem dX3_lowestLand_13 : decode cX3_lowestLand 13 = .ok (.ifCond .eq 5, 3) := by decide +kernel
theorem dX3_lowestLand_16 : decode cX3_lowestLand 16 = .ok (.iload_n 1, 1) := by decide +kernel
theorem dX3_lowestLand_17 : decode cX3_lowestLand 17 = .ok (.ireturn, 1) := by decide +kernel
theorem dX3_lowestLand_18 : decode cX3_lowestLand 18 = .ok (.iinc 1 1, 3) := by decide +kernel
theorem dX3_lowestLand_21 : decode cX3_lowestLand 21 = .ok (.goto (-19), 3) := by decide +kernel
theorem dX3_lowestLand_24 : decode cX3_lowestLand 24 = .ok (.iconst (-1), 1) := by decide +kernel
theorem dX3_lowestLand_25 : decode cX3_lowestLand 25 = .ok (.ireturn, 1) := by decide +kernel
set_option maxRecDepth 20000 in
theorem ggX4_init_X1_init : GoodIn wsX4_init wsX1_init := goodIn_r _ [26, 27, 2, 3, 20, 28, 29, 30, 31, 32, 33, 34, 35, 36, 37, 38, 39, 60, 61, 62, 63, 64, 65, 66, 67, 68, 69, 70, 71, 72] (by decide +kernel) (by decide +kernel)
set_option maxRecDepth 20000 in
theorem gX4_init_X1_init_n9 : GoodIn wsX4_init (wsX1_init) := ggX4_init_X1_init
set_option maxRecDepth 20000 in
theorem ggX4_init_X3_init : GoodIn wsX4_init wsX3_init := goodIn_r _ [41, 42, 2, 3, 20, 43, 44, 45, 46, 47, 48, 34, 49, 80, 81, 82, 83, 84, 85, 86, 87] (by decide +kernel) (by decide +kernel)
set_option maxRecDepth 20000 in
theorem gX4_init_X3_init_n18 : GoodIn wsX4_init (wsX3_init) := ggX4_init_X3_init
set_option maxRecDepth 20000 in
theorem ggX4_init_X2_init : GoodIn wsX4_init wsX2_init := goodIn_r _ [51, 52, 2, 3, 20, 53, 54, 55, 56, 88, 89, 90, 91, 92] (by decide +kernel) (by decide +kernel)
set_option maxRecDepth 20000 in
theorem gX4_init_X2_init_n25 : GoodIn wsX4_init (wsX2_init) := ggX4_init_X2_init
