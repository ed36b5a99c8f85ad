theorem dX4_init_0 : decode cX4_init 0 = .ok (.aload_n 0, 1) := by decide +kernel
theorem dX4_init_1 : decode cX4_init 1 = .ok (.invokespecial 1, 3) := by decide +kernel
theorem dX4_init_4 : decode cX4_init 4 = .ok (.aload_n 0, 1) := by decide +kernel
theorem dX4_init_5 : decode cX4_init 5 = .ok (.iconst 4, 1) := by decide +kernel
theorem dX4_init_6 : decode cX4_init 6 = .ok (.newarray .int, 2) := by decide +kernel
theorem dX4_init_8 : decode cX4_init 8 = .ok (.putfield 7, 3) := by decide +kernel
theorem dX4_init_11 : decode cX4_init 11 = .ok (.aload_n 0, 1) := by decide +kernel
theorem dX4_init_12 : decode cX4_init 12 = .ok (.iconst 4, 1) := by decide +kernel
theorem dX4_init_13 : decode cX4_init 13 = .ok (.newarray .long, 2) := by decide +kernel
theorem dX4_init_15 : decode cX4_init 15 = .ok (.putfield 13, 3) := by decide +kernel
theorem dX4_init_18 : decode cX4_init 18 = .ok (.aload_n 0, 1) := by decide +kernel
theorem dX4_init_19 : decode cX4_init 19 = .ok (.bipush 8, 2) := by decide +kernel
theorem dX4_init_21 : decode cX4_init 21 = .ok (.newarray .int, 2) := by decide +kernel
theorem dX4_init_23 : decode cX4_init 23 = .ok (.putfield 17, 3) := by decide +kernel
theorem dX4_init_26 : decode cX4_init 26 = .ok (.aload_n 0, 1) := by decide +kernel
theorem dX4_init_27 : decode cX4_init 27 = .ok (.bipush 8, 2) := by decide +kernel
theorem dX4_init_29 : decode cX4_init 29 = .ok (.newarray .int, 2) := by decide +kernel
theorem dX4_init_31 : decode cX4_init 31 = .ok (.putfield 20, 3) := by decide +kernel
theorem dX4_init_34 : decode cX4_init 34 = .ok (.aload_n 0, 1) := by decide +kernel
theorem dX4_init_35 : decode cX4_init 35 = .ok (.bipush 8, 2) := by decide +kernel
theorem dX4_init_37 : decode cX4_init 37 = .ok (.newarray .int, 2) := by decide +kernel
theorem dX4_init_39 : decode cX4_init 39 = .ok (.putfield 23, 3) := by decide +kernel
theorem dX4_init_42 : decode cX4_init 42 = .ok (.aload_n 0, 1) := by decide +kernel
theorem dX4_init_43 : decode cX4_init 43 = .ok (.bipush 8, 2) := by decide +kernel
theorem dX4_init_45 : decode cX4_init 45 = .ok (.newarray .long, 2) := by decide +kernel
theorem dX4_init_47 : decode cX4_init 47 = .ok (.putfield 26, 3) := by decide +kernel
theorem dX4_init_50 : decode cX4_init 50 = .ok (.aload_n 0, 1) := by decide +kernel
theorem dX4_init_51 : decode cX4_init 51 = .ok (.bipush 8, 2) := by decide +kernel
theorem dX4_init_53 : decode cX4_init 53 = .ok (.newarray .long, 2) := by decide +kernel
theorem dX4_init_55 : decode cX4_init 55 = .ok (.putfield 29, 3) := by decide +kernel
theorem dX4_init_58 : decode cX4_init 58 = .ok (.aload_n 0, 1) := by decide +kernel
theorem dX4_init_59 : decode cX4_init 59 = .ok (.bipush 8, 2) := by decide +kernel
theorem dX4_init_61 : decode cX4_init 61 = .ok (.newarray .long, 2) := by decide +kernel
theorem dX4_init_63 : decode cX4_init 63 = .ok (.putfield 32, 3) := by decide +kernel
theorem dX4_init_66 : decode cX4_init 66 = .ok (.aload_n 0, 1) := by decide +kernel
theorem dX4_init_67 : decode cX4_init 67 = .ok (.bipush 8, 2) := by decide +kernel
theorem dX4_init_69 : decode cX4_init 69 = .ok (.newarray .long, 2) := by decide +kernel
theorem dX4_init_71 : decode cX4_init 71 = .ok (.putfield 35, 3) := by decide +kernel
theorem dX4_init_74 : decode cX4_init 74 = .ok (.aload_n 0, 1) := by decide +kernel
theorem dX4_init_75 : decode cX4_init 75 = .ok (.bipush 8, 2) := by decide +kernel
theorem dX4_init_77 : decode cX4_init 77 = .ok (.newarray .boolean, 2) := by decide +kernel
theorem dX4_init_79 : decode cX4_init 79 = .ok (.putfield 38, 3) := by decide +kernel
theorem dX4_init_82 : decode cX4_init 82 = .ok (.aload_n 0, 1) := by decide +kernel
theorem dX4_init_83 : decode cX4_init 83 = .ok (.sipush 128, 3) := by decide +kernel
theorem dX4_init_86 : decode cX4_init 86 = .ok (.newarray .boolean, 2) := by decide +kernel
theorem dX4_init_88 : decode cX4_init 88 = .ok (.putfield 42, 3) := by decide +kernel
theorem dX4_init_91 : decode cX4_init 91 = .ok (.aload_n 0, 1) := by decide +kernel
theorem dX4_init_92 : decode cX4_init 92 = .ok (.sipush 512, 3) := by decide +kernel
theorem dX4_init_95 : decode cX4_init 95 = .ok (.newarray .long, 2) := by decide +kernel
theorem dX4_init_97 : decode cX4_init 97 = .ok (.putfield 45, 3) := by decide +kernel
theorem dX4_init_100 : decode cX4_init 100 = .ok (.aload_n 0, 1) := by decide +kernel
theorem dX4_init_101 : decode cX4_init 101 = .ok (.bipush 16, 2) := by decide +kernel
theorem dX4_init_103 : decode cX4_init 103 = .ok (.newarray .long, 2) := by decide +kernel
theorem dX4_init_105 : decode cX4_init 105 = .ok (.putfield 48, 3) := by decide +kernel
theorem dX4_init_108 : decode cX4_init 108 = .ok (.aload_n 0, 1) := by decide +kernel
theorem dX4_init_109 : decode cX4_init 109 = .ok (.bipush 16, 2) := by decide +kernel
theorem dX4_init_111 : decode cX4_init 111 = .ok (.newarray .int, 2) := by decide +kernel
theorem dX4_init_113 : decode cX4_init 113 = .ok (.putfield 51, 3) := by decide +kernel
theorem dX4_init_116 : decode cX4_init 116 = .ok (.aload_n 0, 1) := by decide +kernel
theorem dX4_init_117 : decode cX4_init 117 = .ok (.bipush 16, 2) := by decide +kernel
theorem dX4_init_119 : decode cX4_init 119 = .ok (.newarray .int, 2) := by decide +kernel
theorem dX4_init_121 : decode cX4_init 121 = .ok (.putfield 54, 3) := by decide +kernel
theorem dX4_init_124 : decode cX4_init 124 = .ok (.aload_n 0, 1) := by decide +kernel
theorem dX4_init_125 : decode cX4_init 125 = .ok (.sipush 256, 3) := by decide +kernel
theorem dX4_init_128 : decode cX4_init 128 = .ok (.newarray .int, 2) := by decide +kernel
theorem dX4_init_130 : decode cX4_init 130 = .ok (.putfield 57, 3) := by decide +kernel
theorem dX4_init_133 : decode cX4_init 133 = .ok (.aload_n 0, 1) := by decide +kernel
theorem dX4_init_134 : decode cX4_init 134 = .ok (.sipush 256, 3) := by decide +kernel
theorem dX4_init_137 : decode cX4_init 137 = .ok (.newarray .long, 2) := by decide +kernel
theorem dX4_init_139 : decode cX4_init 139 = .ok (.putfield 60, 3) := by decide +kernel
theorem dX4_init_142 : decode cX4_init 142 = .ok (.aload_n 0, 1) := by decide +kernel
theorem dX4_init_143 : decode cX4_init 143 = .ok (.sipush 256, 3) := by decide +kernel
theorem dX4_init_146 : decode cX4_init 146 = .ok (.newarray .int, 2) := by decide +kernel
theorem dX4_init_148 : decode cX4_init 148 = .ok (.putfield 63, 3) := by decide +kernel
theorem dX4_init_151 : decode cX4_init 151 = .ok (.return_, 1) := by decide +kernel
theorem dX4_receive_0 : decode cX4_receive 0 = .ok (.aload_n 0, 1) := by decide +kernel
theorem dX4_receive_1 : decode cX4_receive 1 = .ok (.getfield 13, 3) := by decide +kernel
theorem dX4_receive_4 : decode cX4_receive 4 = .ok (.iload_n 1, 1) := by decide +kernel
theorem dX4_receive_5 : decode cX4_receive 5 = .ok (.laload, 1) := by decide +kernel
theorem dX4_receive_6 : decode cX4_receive 6 = .ok (.lload_n 2, 1) := by decide +kernel
theorem dX4_receive_7 : decode cX4_receive 7 = .ok (.lcmp, 1) := by decide +kernel
theorem dX4_receive_8 : decode cX4_receive 8 = .ok (.ifCond .le 12, 3) := by decide +kernel
theorem dX4_receive_11 : decode cX4_receive 11 = .ok (.aload_n 0, 1) := by decide +kernel
theorem dX4_receive_12 : decode cX4_receive 12 = .ok (.getfield 13, 3) := by decide +kernel
theorem dX4_receive_15 : decode cX4_receive 15 = .ok (.iload_n 1, 1) := by decide +kernel
theorem dX4_receive_16 : decode cX4_receive 16 = .ok (.laload, 1) := by decide +kernel
theorem dX4_receive_17 : decode cX4_receive 17 = .ok (.goto 4, 3) := by decide +kernel
theorem dX4_receive_20 : decode cX4_receive 20 = .ok (.lload_n 2, 1) := by decide +kernel
theorem dX4_receive_21 : decode cX4_receive 21 = .ok (.lconst 1, 1) := by decide +kernel
theorem dX4_receive_22 : decode cX4_receive 22 = .ok (.ladd, 1) := by decide +kernel
theorem dX4_receive_23 : decode cX4_receive 23 = .ok (.lstore 4, 2) := by decide +kernel
theorem dX4_receive_25 : decode cX4_receive 25 = .ok (.aload_n 0, 1) := by decide +kernel
theorem dX4_receive_26 : decode cX4_receive 26 = .ok (.getfield 7, 3) := by decide +kernel
theorem dX4_receive_29 : decode cX4_receive 29 = .ok (.iload_n 1, 1) := by decide +kernel
theorem dX4_receive_30 : decode cX4_receive 30 = .ok (.iaload, 1) := by decide +kernel
theorem dX4_receive_31 : decode cX4_receive 31 = .ok (.i2l, 1) := by decide +kernel
theorem dX4_receive_32 : decode cX4_receive 32 = .ok (.bipush 20, 2) := by decide +kernel
theorem dX4_receive_34 : decode cX4_receive 34 = .ok (.lshl, 1) := by decide +kernel
theorem dX4_receive_35 : decode cX4_receive 35 = .ok (.lstore 6, 2) := by decide +kernel
theorem dX4_receive_37 : decode cX4_receive 37 = .ok (.aload_n 0, 1) := by decide +kernel
theorem dX4_receive_38 : decode cX4_receive 38 = .ok (.getfield 13, 3) := by decide +kernel
theorem dX4_receive_41 : decode cX4_receive 41 = .ok (.iload_n 1, 1) := by decide +kernel
theorem dX4_receive_42 : decode cX4_receive 42 = .ok (.lload 4, 2) := by decide +kernel
theorem dX4_receive_44 : decode cX4_receive 44 = .ok (.lload 6, 2) := by decide +kernel
theorem dX4_receive_46 : decode cX4_receive 46 = .ok (.lcmp, 1) := by decide +kernel
theorem dX4_receive_47 : decode cX4_receive 47 = .ok (.ifCond .le 8, 3) := by decide +kernel
theorem dX4_receive_50 : decode cX4_receive 50 = .ok (.lload 4, 2) := by decide +kernel
theorem dX4_receive_52 : decode cX4_receive 52 = .ok (.goto 5, 3) := by decide +kernel
theorem dX4_receive_55 : decode cX4_receive 55 = .ok (.lload 6, 2) := by decide +kernel
theorem dX4_receive_57 : decode cX4_receive 57 = .ok (.lastore, 1) := by decide +kernel
theorem dX4_receive_58 : decode cX4_receive 58 = .ok (.return_, 1) := by decide +kernel
set_option maxRecDepth 20000 in
theorem ggX4_event_X4_receive : GoodIn wsX4_event wsX4_receive := goodIn_r _ [6, 1, 7, 8, 9, 10, 11, 12, 13, 14, 15, 16, 17, 18, 19, 20, 21, 22, 23, 24, 25, 26, 27, 28] (by decide +kernel) (by decide +kernel)
set_option maxRecDepth 20000 in
theorem gX4_event_X4_receive : GoodIn wsX4_event (wsV RX4 66 RX4 yX4_receive wsX4_receive) := goodIn_app (goodIn_of _ (by decide +kernel)) ggX4_event_X4_receive
theorem dX4_event_0 : decode cX4_event 0 = .ok (.aload_n 0, 1) := by decide +kernel
theorem dX4_event_1 : decode cX4_event 1 = .ok (.iload_n 1, 1) := by decide +kernel
theorem dX4_event_2 : decode cX4_event 2 = .ok (.aload_n 0, 1) := by decide +kernel
theorem dX4_event_3 : decode cX4_event 3 = .ok (.getfield 13, 3) := by decide +kernel
theorem dX4_event_6 : decode cX4_event 6 = .ok (.iload_n 1, 1) := by decide +kernel
theorem dX4_event_7 : decode cX4_event 7 = .ok (.laload, 1) := by decide +kernel
theorem dX4_event_8 : decode cX4_event 8 = .ok (.invokevirtual 66, 3) := by decide +kernel
theorem dX4_event_11 : decode cX4_event 11 = .ok (.return_, 1) := by decide +kernel
set_option maxRecDepth 20000 in
theorem ggX4_tick_X4_event : GoodIn wsX4_tick wsX4_event := goodIn_r _ [7, 8, 9, 10, 11, 6, 12, 1, 13, 14, 15, 16, 17, 18, 19, 20, 21, 22, 23, 24, 25, 26, 27, 28, 29, 30, 31, 32, 33] (by decide +kernel) (by decide +kernel)
set_option maxRecDepth 20000 in
theorem gX4_tick_X4_event : GoodIn wsX4_tick (wsV RX4 72 RX4 yX4_event wsX4_event) := goodIn_app (goodIn_of _ (by decide +kernel)) ggX4_tick_X4_event
theorem dX4_tick_0 : decode cX4_tick 0 = .ok (.iload_n 1, 1) := by decide +kernel
theorem dX4_tick_1 : decode cX4_tick 1 = .ok (.ifCond .lt 8, 3) := by decide +kernel
theorem dX4_tick_4 : decode cX4_tick 4 = .ok (.iload_n 1, 1) := by decide +kernel
theorem dX4_tick_5 : decode cX4_tick 5 = .ok (.iconst 3, 1) := by decide +kernel
theorem dX4_tick_6 : decode cX4_tick 6 = .ok (.if_icmp .le 5, 3) := by decide +kernel
theorem dX4_tick_9 : decode cX4_tick 9 = .ok (.iconst (-1), 1) := by decide +kernel
theorem dX4_tick_10 : decode cX4_tick 10 = .ok (.ireturn, 1) := by decide +kernel
theorem dX4_tick_11 : decode cX4_tick 11 = .ok (.iload_n 2, 1) := by decide +kernel
theorem dX4_tick_12 : decode cX4_tick 12 = .ok (.aload_n 0, 1) := by decide +kernel
theorem dX4_tick_13 : decode cX4_tick 13 = .ok (.getfield 7, 3) := by decide +kernel
theorem dX4_tick_16 : decode cX4_tick 16 = .ok (.iload_n 1, 1) := by decide +kernel
theorem dX4_tick_17 : decode cX4_tick 17 = .ok (.iaload, 1) := by decide +kernel
theorem dX4_tick_18 : decode cX4_tick 18 = .ok (.if_icmp .ge 6, 3) := by decide +kernel
theorem dX4_tick_21 : decode cX4_tick 21 = .ok (.bipush (-2), 2) := by decide +kernel
theorem dX4_tick_23 : decode cX4_tick 23 = .ok (.ireturn, 1) := by decide +kernel
theorem dX4_tick_24 : decode cX4_tick 24 = .ok (.iconst 0, 1) := by decide +kernel
theorem dX4_tick_25 : decode cX4_tick 25 = .ok (.istore_n 3, 1) := by decide +kernel
theorem dX4_tick_26 : decode cX4_tick 26 = .ok (.iload_n 3, 1) := by decide +kernel
theorem dX4_tick_27 : decode cX4_tick 27 = .ok (.iconst 4, 1) := by decide +kernel
theorem dX4_tick_28 : decode cX4_tick 28 = .ok (.if_icmp .ge 34, 3) := by decide +kernel
theorem dX4_tick_31 : decode cX4_tick 31 = .ok (.iload_n 3, 1) := by decide +kernel
theorem dX4_tick_32 : decode cX4_tick 32 = .ok (.iload_n 1, 1) := by decide +kernel
theorem dX4_tick_33 : decode cX4_tick 33 = .ok (.if_icmp .eq 23, 3) := by decide +kernel
theorem dX4_tick_36 : decode cX4_tick 36 = .ok (.iload_n 2, 1) := by decide +kernel
theorem dX4_tick_37 : decode cX4_tick 37 = .ok (.i2l, 1) := by decide +kernel
theorem dX4_tick_38 : decode cX4_tick 38 = .ok (.aload_n 0, 1) := by decide +kernel
theorem dX4_tick_39 : decode cX4_tick 39 = .ok (.getfield 7, 3) := by decide +kernel
theorem dX4_tick_42 : decode cX4_tick 42 = .ok (.iload_n 3, 1) := by decide +kernel
theorem dX4_tick_43 : decode cX4_tick 43 = .ok (.iaload, 1) := by decide +kernel
theorem dX4_tick_44 : decode cX4_tick 44 = .ok (.i2l, 1) := by decide +kernel
theorem dX4_tick_45 : decode cX4_tick 45 = .ok (.lsub, 1) := by decide +kernel
theorem dX4_tick_46 : decode cX4_tick 46 = .ok (.ldc2_w 70, 3) := by decide +kernel
theorem dX4_tick_49 : decode cX4_tick 49 = .ok (.lcmp, 1) := by decide +kernel
theorem dX4_tick_50 : decode cX4_tick 50 = .ok (.ifCond .le 6, 3) := by decide +kernel
theorem dX4_tick_53 : decode cX4_tick 53 = .ok (.bipush (-2), 2) := by decide +kernel
theorem dX4_tick_55 : decode cX4_tick 55 = .ok (.ireturn, 1) := by decide +kernel
theorem dX4_tick_56 : decode cX4_tick 56 = .ok (.iinc 3 1, 3) := by decide +kernel
theorem dX4_tick_59 : decode cX4_tick 59 = .ok (.goto (-33), 3) := by decide +kernel
theorem dX4_tick_62 : decode cX4_tick 62 = .ok (.aload_n 0, 1) := by decide +kernel
theorem dX4_tick_63 : decode cX4_tick 63 = .ok (.getfield 7, 3) := by decide +kernel
theorem dX4_tick_66 : decode cX4_tick 66 = .ok (.iload_n 1, 1) := by decide +kernel
theorem dX4_tick_67 : decode cX4_tick 67 = .ok (.iload_n 2, 1) := by decide +kernel
theorem dX4_tick_68 : decode cX4_tick 68 = .ok (.iastore, 1) := by decide +kernel
theorem dX4_tick_69 : decode cX4_tick 69 = .ok (.aload_n 0, 1) := by decide +kernel
theorem dX4_tick_70 : decode cX4_tick 70 = .ok (.iload_n 1, 1) := by decide +kernel
theorem dX4_tick_71 : decode cX4_tick 71 = .ok (.invokevirtual 72, 3) := by decide +kernel
theorem dX4_tick_74 : decode cX4_tick 74 = .ok (.iconst 0, 1) := by decide +kernel
theorem dX4_tick_75 : decode cX4_tick 75 = .ok (.ireturn, 1) := by decide +kernel
theorem dX4_reading_0 : decode cX4_reading 0 = .ok (.iload_n 1, 1) := by decide +kernel
theorem dX4_reading_1 : decode cX4_reading 1 = .ok (.ifCond .lt 8, 3) := by decide +kernel
theorem dX4_reading_4 : decode cX4_reading 4 = .ok (.iload_n 1, 1) := by decide +kernel
theorem dX4_reading_5 : decode cX4_reading 5 = .ok (.iconst 3, 1) := by decide +kernel
theorem dX4_reading_6 : decode cX4_reading 6 = .ok (.if_icmp .le 5, 3) := by decide +kernel
theorem dX4_reading_9 : decode cX4_reading 9 = .ok (.iconst (-1), 1) := by decide +kernel
theorem dX4_reading_10 : decode cX4_reading 10 = .ok (.ireturn, 1) := by decide +kernel
theorem dX4_reading_11 : decode cX4_reading 11 = .ok (.aload_n 0, 1) := by decide +kernel
theorem dX4_reading_12 : decode cX4_reading 12 = .ok (.getfield 7, 3) := by decide +kernel
theorem dX4_reading_15 : decode cX4_reading 15 = .ok (.iload_n 1, 1) := by decide +kernel
theorem dX4_reading_16 : decode cX4_reading 16 = .ok (.iaload, 1) := by decide +kernel
theorem dX4_reading_17 : decode cX4_reading 17 = .ok (.ireturn, 1) := by decide +kernel
theorem dX4_clock_0 : decode cX4_clock 0 = .ok (.iload_n 1, 1) := by decide +kernel
theorem dX4_clock_1 : decode cX4_clock 1 = .ok (.ifCond .lt 8, 3) := by decide +kernel
theorem dX4_clock_4 : decode cX4_clock 4 = .ok (.iload_n 1, 1) := by decide +kernel
theorem dX4_clock_5 : decode cX4_clock 5 = .ok (.iconst 3, 1) := by decide +kernel
theorem dX4_clock_6 : decode cX4_clock 6 = .ok (.if_icmp .le 7, 3) := by decide +kernel
theorem dX4_clock_9 : decode cX4_clock 9 = .ok (.ldc2_w 76, 3) := by decide +kernel
theorem dX4_clock_12 : decode cX4_clock 12 = .ok (.lreturn, 1) := by decide +kernel
theorem dX4_clock_13 : decode cX4_clock 13 = .ok (.aload_n 0, 1) := by decide +kernel
theorem dX4_clock_14 : decode cX4_clock 14 = .ok (.getfield 13, 3) := by decide +kernel
theorem dX4_clock_17 : decode cX4_clock 17 = .ok (.iload_n 1, 1) := by decide +kernel
theorem dX4_clock_18 : decode cX4_clock 18 = .ok (.laload, 1) := by decide +kernel
theorem dX4_clock_19 : decode cX4_clock 19 = .ok (.lreturn, 1) := by decide +kernel
theorem dX4_find_0 : decode cX4_find 0 = .ok (.iconst (-1), 1) := by decide +kernel
theorem dX4_find_1 : decode cX4_find 1 = .ok (.istore 6, 2) := by decide +kernel
theorem dX4_find_3 : decode cX4_find 3 = .ok (.iconst 0, 1) := by decide +kernel
theorem dX4_find_4 : decode cX4_find 4 = .ok (.istore 7, 2) := by decide +kernel
theorem dX4_find_6 : decode cX4_find 6 = .ok (.iload 7, 2) := by decide +kernel
theorem dX4_find_8 : decode cX4_find 8 = .ok (.aload_n 0, 1) := by decide +kernel
theorem dX4_find_9 : decode cX4_find 9 = .ok (.getfield 78, 3) := by decide +kernel
theorem dX4_find_12 : decode cX4_find 12 = .ok (.if_icmp .ge 72, 3) := by decide +kernel
theorem dX4_find_15 : decode cX4_find 15 = .ok (.aload_n 0, 1) := by decide +kernel
theorem dX4_find_16 : decode cX4_find 16 = .ok (.getfield 57, 3) := by decide +kernel
theorem dX4_find_19 : decode cX4_find 19 = .ok (.iload 7, 2) := by decide +kernel
theorem dX4_find_21 : decode cX4_find 21 = .ok (.iaload, 1) := by decide +kernel
theorem dX4_find_22 : decode cX4_find 22 = .ok (.iload_n 1, 1) := by decide +kernel
theorem dX4_find_23 : decode cX4_find 23 = .ok (.if_icmp .ne 55, 3) := by decide +kernel
theorem dX4_find_26 : decode cX4_find 26 = .ok (.aload_n 0, 1) := by decide +kernel
theorem dX4_find_27 : decode cX4_find 27 = .ok (.getfield 60, 3) := by decide +kernel
theorem dX4_find_30 : decode cX4_find 30 = .ok (.iload 7, 2) := by decide +kernel
theorem dX4_find_32 : decode cX4_find 32 = .ok (.laload, 1) := by decide +kernel
theorem dX4_find_33 : decode cX4_find 33 = .ok (.lload_n 2, 1) := by decide +kernel
theorem dX4_find_34 : decode cX4_find 34 = .ok (.lcmp, 1) := by decide +kernel
theorem dX4_find_35 : decode cX4_find 35 = .ok (.ifCond .le 43, 3) := by decide +kernel
theorem dX4_find_38 : decode cX4_find 38 = .ok (.aload_n 0, 1) := by decide +kernel
theorem dX4_find_39 : decode cX4_find 39 = .ok (.getfield 60, 3) := by decide +kernel
theorem dX4_find_42 : decode cX4_find 42 = .ok (.iload 7, 2) := by decide +kernel
theorem dX4_find_44 : decode cX4_find 44 = .ok (.laload, 1) := by decide +kernel
theorem dX4_find_45 : decode cX4_find 45 = .ok (.lload 4, 2) := by decide +kernel
theorem dX4_find_47 : decode cX4_find 47 = .ok (.lcmp, 1) := by decide +kernel
theorem dX4_find_48 : decode cX4_find 48 = .ok (.ifCond .gt 30, 3) := by decide +kernel
theorem dX4_find_51 : decode cX4_find 51 = .ok (.iload 6, 2) := by decide +kernel
theorem dX4_find_53 : decode cX4_find 53 = .ok (.ifCond .lt 21, 3) := by decide +kernel
theorem dX4_find_56 : decode cX4_find 56 = .ok (.aload_n 0, 1) := by decide +kernel
theorem dX4_find_57 : decode cX4_find 57 = .ok (.getfield 60, 3) := by decide +kernel
theorem dX4_find_60 : decode cX4_find 60 = .ok (.iload 7, 2) := by decide +kernel
theorem dX4_find_62 : decode cX4_find 62 = .ok (.laload, 1) := by decide +kernel
theorem dX4_find_63 : decode cX4_find 63 = .ok (.aload_n 0, 1) := by decide +kernel
theorem dX4_find_64 : decode cX4_find 64 = .ok (.getfield 60, 3) := by decide +kernel
theorem dX4_find_67 : decode cX4_find 67 = .ok (.iload 6, 2) := by decide +kernel
theorem dX4_find_69 : decode cX4_find 69 = .ok (.laload, 1) := by decide +kernel
theorem dX4_find_70 : decode cX4_find 70 = .ok (.lcmp, 1) := by decide +kernel
theorem dX4_find_71 : decode cX4_find 71 = .ok (.ifCond .le 7, 3) := by decide +kernel
theorem dX4_find_74 : decode cX4_find 74 = .ok (.iload 7, 2) := by decide +kernel
theorem dX4_find_76 : decode cX4_find 76 = .ok (.istore 6, 2) := by decide +kernel
theorem dX4_find_78 : decode cX4_find 78 = .ok (.iinc 7 1, 3) := by decide +kernel
theorem dX4_find_81 : decode cX4_find 81 = .ok (.goto (-75), 3) := by decide +kernel
theorem dX4_find_84 : decode cX4_find 84 = .ok (.iload 6, 2) := by decide +kernel
theorem dX4_find_86 : decode cX4_find 86 = .ok (.ireturn, 1) := by decide +kernel
theorem dX4_versions_0 : decode cX4_versions 0 = .ok (.iload_n 1, 1) := by decide +kernel
theorem dX4_versions_1 : decode cX4_versions 1 = .ok (.ifCond .lt 9, 3) := by decide +kernel
theorem dX4_versions_4 : decode cX4_versions 4 = .ok (.iload_n 1, 1) := by decide +kernel
theorem dX4_versions_5 : decode cX4_versions 5 = .ok (.bipush 15, 2) := by decide +kernel
theorem dX4_versions_7 : decode cX4_versions 7 = .ok (.if_icmp .le 5, 3) := by decide +kernel
theorem dX4_versions_10 : decode cX4_versions 10 = .ok (.iconst (-1), 1) := by decide +kernel
theorem dX4_versions_11 : decode cX4_versions 11 = .ok (.ireturn, 1) := by decide +kernel
theorem dX4_versions_12 : decode cX4_versions 12 = .ok (.iconst 0, 1) := by decide +kernel
theorem dX4_versions_13 : decode cX4_versions 13 = .ok (.istore_n 2, 1) := by decide +kernel
theorem dX4_versions_14 : decode cX4_versions 14 = .ok (.iconst 0, 1) := by decide +kernel
theorem dX4_versions_15 : decode cX4_versions 15 = .ok (.istore_n 3, 1) := by decide +kernel
theorem dX4_versions_16 : decode cX4_versions 16 = .ok (.iload_n 3, 1) := by decide +kernel
theorem dX4_versions_17 : decode cX4_versions 17 = .ok (.aload_n 0, 1) := by decide +kernel
theorem dX4_versions_18 : decode cX4_versions 18 = .ok (.getfield 78, 3) := by decide +kernel
theorem dX4_versions_21 : decode cX4_versions 21 = .ok (.if_icmp .ge 23, 3) := by decide +kernel
theorem dX4_versions_24 : decode cX4_versions 24 = .ok (.aload_n 0, 1) := by decide +kernel
theorem dX4_versions_25 : decode cX4_versions 25 = .ok (.getfield 57, 3) := by decide +kernel
theorem dX4_versions_28 : decode cX4_versions 28 = .ok (.iload_n 3, 1) := by decide +kernel
theorem dX4_versions_29 : decode cX4_versions 29 = .ok (.iaload, 1) := by decide +kernel
theorem dX4_versions_30 : decode cX4_versions 30 = .ok (.iload_n 1, 1) := by decide +kernel
theorem dX4_versions_31 : decode cX4_versions 31 = .ok (.if_icmp .ne 7, 3) := by decide +kernel
theorem dX4_versions_34 : decode cX4_versions 34 = .ok (.iload_n 2, 1) := by decide +kernel
theorem dX4_versions_35 : decode cX4_versions 35 = .ok (.iconst 1, 1) := by decide +kernel
theorem dX4_versions_36 : decode cX4_versions 36 = .ok (.iadd, 1) := by decide +kernel
theorem dX4_versions_37 : decode cX4_versions 37 = .ok (.istore_n 2, 1) := by decide +kernel
theorem dX4_versions_38 : decode cX4_versions 38 = .ok (.iinc 3 1, 3) := by decide +kernel
theorem dX4_versions_41 : decode cX4_versions 41 = .ok (.goto (-25), 3) := by decide +kernel
theorem dX4_versions_44 : decode cX4_versions 44 = .ok (.iload_n 2, 1) := by decide +kernel
theorem dX4_versions_45 : decode cX4_versions 45 = .ok (.ireturn, 1) := by decide +kernel
theorem dX4_settle_0 : decode cX4_settle 0 = .ok (.aload_n 0, 1) := by decide +kernel
theorem dX4_settle_1 : decode cX4_settle 1 = .ok (.getfield 51, 3) := by decide +kernel
theorem dX4_settle_4 : decode cX4_settle 4 = .ok (.iload_n 1, 1) := by decide +kernel
theorem dX4_settle_5 : decode cX4_settle 5 = .ok (.iaload, 1) := by decide +kernel
theorem dX4_settle_6 : decode cX4_settle 6 = .ok (.iconst 1, 1) := by decide +kernel
theorem dX4_settle_7 : decode cX4_settle 7 = .ok (.isub, 1) := by decide +kernel
theorem dX4_settle_8 : decode cX4_settle 8 = .ok (.istore_n 2, 1) := by decide +kernel
theorem dX4_settle_9 : decode cX4_settle 9 = .ok (.aload_n 0, 1) := by decide +kernel
theorem dX4_settle_10 : decode cX4_settle 10 = .ok (.getfield 17, 3) := by decide +kernel
theorem dX4_settle_13 : decode cX4_settle 13 = .ok (.iload_n 2, 1) := by decide +kernel
theorem dX4_settle_14 : decode cX4_settle 14 = .ok (.iaload, 1) := by decide +kernel
theorem dX4_settle_15 : decode cX4_settle 15 = .ok (.iconst 2, 1) := by decide +kernel
theorem dX4_settle_16 : decode cX4_settle 16 = .ok (.if_icmp .ne 53, 3) := by decide +kernel
theorem dX4_settle_19 : decode cX4_settle 19 = .ok (.aload_n 0, 1) := by decide +kernel
theorem dX4_settle_20 : decode cX4_settle 20 = .ok (.getfield 57, 3) := by decide +kernel
theorem dX4_settle_23 : decode cX4_settle 23 = .ok (.aload_n 0, 1) := by decide +kernel
theorem dX4_settle_24 : decode cX4_settle 24 = .ok (.getfield 78, 3) := by decide +kernel
theorem dX4_settle_27 : decode cX4_settle 27 = .ok (.iload_n 1, 1) := by decide +kernel
theorem dX4_settle_28 : decode cX4_settle 28 = .ok (.iastore, 1) := by decide +kernel
theorem dX4_settle_29 : decode cX4_settle 29 = .ok (.aload_n 0, 1) := by decide +kernel
theorem dX4_settle_30 : decode cX4_settle 30 = .ok (.getfield 60, 3) := by decide +kernel
theorem dX4_settle_33 : decode cX4_settle 33 = .ok (.aload_n 0, 1) := by decide +kernel
theorem dX4_settle_34 : decode cX4_settle 34 = .ok (.getfield 78, 3) := by decide +kernel
theorem dX4_settle_37 : decode cX4_settle 37 = .ok (.aload_n 0, 1) := by decide +kernel
theorem dX4_settle_38 : decode cX4_settle 38 = .ok (.getfield 32, 3) := by decide +kernel
theorem dX4_settle_41 : decode cX4_settle 41 = .ok (.iload_n 2, 1) := by decide +kernel
theorem dX4_settle_42 : decode cX4_settle 42 = .ok (.laload, 1) := by decide +kernel
theorem dX4_settle_43 : decode cX4_settle 43 = .ok (.lastore, 1) := by decide +kernel
theorem dX4_settle_44 : decode cX4_settle 44 = .ok (.aload_n 0, 1) := by decide +kernel
theorem dX4_settle_45 : decode cX4_settle 45 = .ok (.getfield 63, 3) := by decide +kernel
theorem dX4_settle_48 : decode cX4_settle 48 = .ok (.aload_n 0, 1) := by decide +kernel
theorem dX4_settle_49 : decode cX4_settle 49 = .ok (.getfield 78, 3) := by decide +kernel
theorem dX4_settle_52 : decode cX4_settle 52 = .ok (.aload_n 0, 1) := by decide +kernel
theorem dX4_settle_53 : decode cX4_settle 53 = .ok (.getfield 54, 3) := by decide +kernel
theorem dX4_settle_56 : decode cX4_settle 56 = .ok (.iload_n 1, 1) := by decide +kernel
theorem dX4_settle_57 : decode cX4_settle 57 = .ok (.iaload, 1) := by decide +kernel
theorem dX4_settle_58 : decode cX4_settle 58 = .ok (.iastore, 1) := by decide +kernel
theorem dX4_settle_59 : decode cX4_settle 59 = .ok (.aload_n 0, 1) := by decide +kernel
theorem dX4_settle_60 : decode cX4_settle 60 = .ok (.aload_n 0, 1) := by decide +kernel
theorem dX4_settle_61 : decode cX4_settle 61 = .ok (.getfield 78, 3) := by decide +kernel
theorem dX4_settle_64 : decode cX4_settle 64 = .ok (.iconst 1, 1) := by decide +kernel
theorem dX4_settle_65 : decode cX4_settle 65 = .ok (.iadd, 1) := by decide +kernel
theorem dX4_settle_66 : decode cX4_settle 66 = .ok (.putfield 78, 3) := by decide +kernel
theorem dX4_settle_69 : decode cX4_settle 69 = .ok (.aload_n 0, 1) := by decide +kernel
theorem dX4_settle_70 : decode cX4_settle 70 = .ok (.getfield 51, 3) := by decide +kernel
theorem dX4_settle_73 : decode cX4_settle 73 = .ok (.iload_n 1, 1) := by decide +kernel
theorem dX4_settle_74 : decode cX4_settle 74 = .ok (.iconst 0, 1) := by decide +kernel
theorem dX4_settle_75 : decode cX4_settle 75 = .ok (.iastore, 1) := by decide +kernel
theorem dX4_settle_76 : decode cX4_settle 76 = .ok (.return_, 1) := by decide +kernel
set_option maxRecDepth 20000 in
theorem ggX4_meet_X4_receive : GoodIn wsX4_meet wsX4_receive := goodIn_r _ [11, 3, 5, 22, 23, 24, 25, 26, 27, 28, 29, 30, 31, 32, 33, 34, 35, 36, 37, 38, 39, 40, 41, 42] (by decide +kernel) (by decide +kernel)
set_option maxRecDepth 20000 in
theorem gX4_meet_X4_receive : GoodIn wsX4_meet (wsV RX4 66 RX4 yX4_receive wsX4_receive) := goodIn_app (goodIn_of _ (by decide +kernel)) ggX4_meet_X4_receive
set_option maxRecDepth 20000 in
theorem ggX4_meet_X4_settle : GoodIn wsX4_meet wsX4_settle := goodIn_r _ [15, 1, 4, 16, 17, 18, 19, 20, 21, 22, 23, 24, 25, 26, 27, 28, 29, 30, 31, 32, 33, 34, 35, 36, 37, 38, 39, 40, 41, 42] (by decide +kernel) (by decide +kernel)
set_option maxRecDepth 20000 in
theorem gX4_meet_X4_settle : GoodIn wsX4_meet (wsV RX4 82 RX4 yX4_settle wsX4_settle) := goodIn_app (goodIn_of _ (by decide +kernel)) ggX4_meet_X4_settle
theorem dX4_meet_0 : decode cX4_meet 0 = .ok (.aload_n 0, 1) := by decide +kernel
theorem dX4_meet_1 : decode cX4_meet 1 = .ok (.getfield 51, 3) := by decide +kernel
theorem dX4_meet_4 : decode cX4_meet 4 = .ok (.iload_n 1, 1) := by decide +kernel
theorem dX4_meet_5 : decode cX4_meet 5 = .ok (.iaload, 1) := by decide +kernel
theorem dX4_meet_6 : decode cX4_meet 6 = .ok (.iconst 1, 1) := by decide +kernel
theorem dX4_meet_7 : decode cX4_meet 7 = .ok (.isub, 1) := by decide +kernel
theorem dX4_meet_8 : decode cX4_meet 8 = .ok (.istore_n 2, 1) := by decide +kernel
theorem dX4_meet_9 : decode cX4_meet 9 = .ok (.iload_n 2, 1) := by decide +kernel
theorem dX4_meet_10 : decode cX4_meet 10 = .ok (.ifCond .ge 5, 3) := by decide +kernel
theorem dX4_meet_13 : decode cX4_meet 13 = .ok (.iconst (-1), 1) := by decide +kernel
theorem dX4_meet_14 : decode cX4_meet 14 = .ok (.ireturn, 1) := by decide +kernel
theorem dX4_meet_15 : decode cX4_meet 15 = .ok (.iload_n 1, 1) := by decide +kernel
theorem dX4_meet_16 : decode cX4_meet 16 = .ok (.iconst 3, 1) := by decide +kernel
theorem dX4_meet_17 : decode cX4_meet 17 = .ok (.iand, 1) := by decide +kernel
theorem dX4_meet_18 : decode cX4_meet 18 = .ok (.istore_n 3, 1) := by decide +kernel
theorem dX4_meet_19 : decode cX4_meet 19 = .ok (.aload_n 0, 1) := by decide +kernel
theorem dX4_meet_20 : decode cX4_meet 20 = .ok (.getfield 20, 3) := by decide +kernel
theorem dX4_meet_23 : decode cX4_meet 23 = .ok (.iload_n 2, 1) := by decide +kernel
theorem dX4_meet_24 : decode cX4_meet 24 = .ok (.iaload, 1) := by decide +kernel
theorem dX4_meet_25 : decode cX4_meet 25 = .ok (.istore 4, 2) := by decide +kernel
theorem dX4_meet_27 : decode cX4_meet 27 = .ok (.aload_n 0, 1) := by decide +kernel
theorem dX4_meet_28 : decode cX4_meet 28 = .ok (.iload 4, 2) := by decide +kernel
theorem dX4_meet_30 : decode cX4_meet 30 = .ok (.aload_n 0, 1) := by decide +kernel
theorem dX4_meet_31 : decode cX4_meet 31 = .ok (.getfield 13, 3) := by decide +kernel
theorem dX4_meet_34 : decode cX4_meet 34 = .ok (.iload_n 3, 1) := by decide +kernel
theorem dX4_meet_35 : decode cX4_meet 35 = .ok (.laload, 1) := by decide +kernel
theorem dX4_meet_36 : decode cX4_meet 36 = .ok (.invokevirtual 66, 3) := by decide +kernel
theorem dX4_meet_39 : decode cX4_meet 39 = .ok (.aload_n 0, 1) := by decide +kernel
theorem dX4_meet_40 : decode cX4_meet 40 = .ok (.iload_n 3, 1) := by decide +kernel
theorem dX4_meet_41 : decode cX4_meet 41 = .ok (.aload_n 0, 1) := by decide +kernel
theorem dX4_meet_42 : decode cX4_meet 42 = .ok (.getfield 13, 3) := by decide +kernel
theorem dX4_meet_45 : decode cX4_meet 45 = .ok (.iload 4, 2) := by decide +kernel
theorem dX4_meet_47 : decode cX4_meet 47 = .ok (.laload, 1) := by decide +kernel
theorem dX4_meet_48 : decode cX4_meet 48 = .ok (.invokevirtual 66, 3) := by decide +kernel
theorem dX4_meet_51 : decode cX4_meet 51 = .ok (.aload_n 0, 1) := by decide +kernel
theorem dX4_meet_52 : decode cX4_meet 52 = .ok (.getfield 17, 3) := by decide +kernel
theorem dX4_meet_55 : decode cX4_meet 55 = .ok (.iload_n 2, 1) := by decide +kernel
theorem dX4_meet_56 : decode cX4_meet 56 = .ok (.iaload, 1) := by decide +kernel
theorem dX4_meet_57 : decode cX4_meet 57 = .ok (.iconst 1, 1) := by decide +kernel
theorem dX4_meet_58 : decode cX4_meet 58 = .ok (.if_icmp .ne 29, 3) := by decide +kernel
theorem dX4_meet_61 : decode cX4_meet 61 = .ok (.aload_n 0, 1) := by decide +kernel
theorem dX4_meet_62 : decode cX4_meet 62 = .ok (.getfield 7, 3) := by decide +kernel
theorem dX4_meet_65 : decode cX4_meet 65 = .ok (.iload 4, 2) := by decide +kernel
theorem dX4_meet_67 : decode cX4_meet 67 = .ok (.iaload, 1) := by decide +kernel
theorem dX4_meet_68 : decode cX4_meet 68 = .ok (.aload_n 0, 1) := by decide +kernel
theorem dX4_meet_69 : decode cX4_meet 69 = .ok (.getfield 23, 3) := by decide +kernel
theorem dX4_meet_72 : decode cX4_meet 72 = .ok (.iload_n 2, 1) := by decide +kernel
theorem dX4_meet_73 : decode cX4_meet 73 = .ok (.iaload, 1) := by decide +kernel
theorem dX4_meet_74 : decode cX4_meet 74 = .ok (.isub, 1) := by decide +kernel
theorem dX4_meet_75 : decode cX4_meet 75 = .ok (.bipush 40, 2) := by decide +kernel
theorem dX4_meet_77 : decode cX4_meet 77 = .ok (.if_icmp .le 10, 3) := by decide +kernel
theorem dX4_meet_80 : decode cX4_meet 80 = .ok (.aload_n 0, 1) := by decide +kernel
theorem dX4_meet_81 : decode cX4_meet 81 = .ok (.getfield 17, 3) := by decide +kernel
theorem dX4_meet_84 : decode cX4_meet 84 = .ok (.iload_n 2, 1) := by decide +kernel
theorem dX4_meet_85 : decode cX4_meet 85 = .ok (.iconst 3, 1) := by decide +kernel
theorem dX4_meet_86 : decode cX4_meet 86 = .ok (.iastore, 1) := by decide +kernel
theorem dX4_meet_87 : decode cX4_meet 87 = .ok (.aload_n 0, 1) := by decide +kernel
theorem dX4_meet_88 : decode cX4_meet 88 = .ok (.getfield 17, 3) := by decide +kernel
theorem dX4_meet_91 : decode cX4_meet 91 = .ok (.iload_n 2, 1) := by decide +kernel
theorem dX4_meet_92 : decode cX4_meet 92 = .ok (.iaload, 1) := by decide +kernel
theorem dX4_meet_93 : decode cX4_meet 93 = .ok (.iconst 1, 1) := by decide +kernel
theorem dX4_meet_94 : decode cX4_meet 94 = .ok (.if_icmp .ne 5, 3) := by decide +kernel
theorem dX4_meet_97 : decode cX4_meet 97 = .ok (.iload_n 2, 1) := by decide +kernel
theorem dX4_meet_98 : decode cX4_meet 98 = .ok (.ireturn, 1) := by decide +kernel
theorem dX4_meet_99 : decode cX4_meet 99 = .ok (.aload_n 0, 1) := by decide +kernel
theorem dX4_meet_100 : decode cX4_meet 100 = .ok (.iload_n 1, 1) := by decide +kernel
theorem dX4_meet_101 : decode cX4_meet 101 = .ok (.invokevirtual 82, 3) := by decide +kernel
theorem dX4_meet_104 : decode cX4_meet 104 = .ok (.iconst (-1), 1) := by decide +kernel
theorem dX4_meet_105 : decode cX4_meet 105 = .ok (.ireturn, 1) := by decide +kernel
theorem dX4_restart_0 : decode cX4_restart 0 = .ok (.iconst 0, 1) := by decide +kernel
theorem dX4_restart_1 : decode cX4_restart 1 = .ok (.istore 4, 2) := by decide +kernel
theorem dX4_restart_3 : decode cX4_restart 3 = .ok (.iload 4, 2) := by decide +kernel
theorem dX4_restart_5 : decode cX4_restart 5 = .ok (.bipush 16, 2) := by decide +kernel
theorem dX4_restart_7 : decode cX4_restart 7 = .ok (.if_icmp .ge 43, 3) := by decide +kernel
theorem dX4_restart_10 : decode cX4_restart 10 = .ok (.aload_n 0, 1) := by decide +kernel
theorem dX4_restart_11 : decode cX4_restart 11 = .ok (.getfield 51, 3) := by decide +kernel
theorem dX4_restart_14 : decode cX4_restart 14 = .ok (.iload 4, 2) := by decide +kernel
theorem dX4_restart_16 : decode cX4_restart 16 = .ok (.iaload, 1) := by decide +kernel
theorem dX4_restart_17 : decode cX4_restart 17 = .ok (.iload_n 1, 1) := by decide +kernel
theorem dX4_restart_18 : decode cX4_restart 18 = .ok (.iconst 1, 1) := by decide +kernel
theorem dX4_restart_19 : decode cX4_restart 19 = .ok (.iadd, 1) := by decide +kernel
theorem dX4_restart_20 : decode cX4_restart 20 = .ok (.if_icmp .ne 11, 3) := by decide +kernel
theorem dX4_restart_23 : decode cX4_restart 23 = .ok (.aload_n 0, 1) := by decide +kernel
theorem dX4_restart_24 : decode cX4_restart 24 = .ok (.getfield 51, 3) := by decide +kernel
theorem dX4_restart_27 : decode cX4_restart 27 = .ok (.iload 4, 2) := by decide +kernel
theorem dX4_restart_29 : decode cX4_restart 29 = .ok (.iconst 0, 1) := by decide +kernel
theorem dX4_restart_30 : decode cX4_restart 30 = .ok (.iastore, 1) := by decide +kernel
theorem dX4_restart_31 : decode cX4_restart 31 = .ok (.aload_n 0, 1) := by decide +kernel
theorem dX4_restart_32 : decode cX4_restart 32 = .ok (.getfield 42, 3) := by decide +kernel
theorem dX4_restart_35 : decode cX4_restart 35 = .ok (.iload_n 1, 1) := by decide +kernel
theorem dX4_restart_36 : decode cX4_restart 36 = .ok (.bipush 16, 2) := by decide +kernel
theorem dX4_restart_38 : decode cX4_restart 38 = .ok (.imul, 1) := by decide +kernel
theorem dX4_restart_39 : decode cX4_restart 39 = .ok (.iload 4, 2) := by decide +kernel
theorem dX4_restart_41 : decode cX4_restart 41 = .ok (.iadd, 1) := by decide +kernel
theorem dX4_restart_42 : decode cX4_restart 42 = .ok (.iconst 0, 1) := by decide +kernel
theorem dX4_restart_43 : decode cX4_restart 43 = .ok (.bastore, 1) := by decide +kernel
theorem dX4_restart_44 : decode cX4_restart 44 = .ok (.iinc 4 1, 3) := by decide +kernel
theorem dX4_restart_47 : decode cX4_restart 47 = .ok (.goto (-44), 3) := by decide +kernel
theorem dX4_restart_50 : decode cX4_restart 50 = .ok (.lload_n 2, 1) := by decide +kernel
theorem dX4_restart_51 : decode cX4_restart 51 = .ok (.aload_n 0, 1) := by decide +kernel
theorem dX4_restart_52 : decode cX4_restart 52 = .ok (.getfield 32, 3) := by decide +kernel
theorem dX4_restart_55 : decode cX4_restart 55 = .ok (.iload_n 1, 1) := by decide +kernel
theorem dX4_restart_56 : decode cX4_restart 56 = .ok (.laload, 1) := by decide +kernel
theorem dX4_restart_57 : decode cX4_restart 57 = .ok (.lcmp, 1) := by decide +kernel
theorem dX4_restart_58 : decode cX4_restart 58 = .ok (.ifCond .le 10, 3) := by decide +kernel
theorem dX4_restart_61 : decode cX4_restart 61 = .ok (.aload_n 0, 1) := by decide +kernel
theorem dX4_restart_62 : decode cX4_restart 62 = .ok (.getfield 32, 3) := by decide +kernel
theorem dX4_restart_65 : decode cX4_restart 65 = .ok (.iload_n 1, 1) := by decide +kernel
theorem dX4_restart_66 : decode cX4_restart 66 = .ok (.lload_n 2, 1) := by decide +kernel
theorem dX4_restart_67 : decode cX4_restart 67 = .ok (.lastore, 1) := by decide +kernel
theorem dX4_restart_68 : decode cX4_restart 68 = .ok (.aload_n 0, 1) := by decide +kernel
theorem dX4_restart_69 : decode cX4_restart 69 = .ok (.getfield 29, 3) := by decide +kernel
theorem dX4_restart_72 : decode cX4_restart 72 = .ok (.iload_n 1, 1) := by decide +kernel
theorem dX4_restart_73 : decode cX4_restart 73 = .ok (.aload_n 0, 1) := by decide +kernel
theorem dX4_restart_74 : decode cX4_restart 74 = .ok (.getfield 32, 3) := by decide +kernel
theorem dX4_restart_77 : decode cX4_restart 77 = .ok (.iload_n 1, 1) := by decide +kernel
theorem dX4_restart_78 : decode cX4_restart 78 = .ok (.laload, 1) := by decide +kernel
theorem dX4_restart_79 : decode cX4_restart 79 = .ok (.lastore, 1) := by decide +kernel
theorem dX4_restart_80 : decode cX4_restart 80 = .ok (.aload_n 0, 1) := by decide +kernel
theorem dX4_restart_81 : decode cX4_restart 81 = .ok (.getfield 35, 3) := by decide +kernel
theorem dX4_restart_84 : decode cX4_restart 84 = .ok (.iload_n 1, 1) := by decide +kernel
theorem dX4_restart_85 : decode cX4_restart 85 = .ok (.laload, 1) := by decide +kernel
theorem dX4_restart_86 : decode cX4_restart 86 = .ok (.aload_n 0, 1) := by decide +kernel
theorem dX4_restart_87 : decode cX4_restart 87 = .ok (.getfield 29, 3) := by decide +kernel
theorem dX4_restart_90 : decode cX4_restart 90 = .ok (.iload_n 1, 1) := by decide +kernel
theorem dX4_restart_91 : decode cX4_restart 91 = .ok (.laload, 1) := by decide +kernel
theorem dX4_restart_92 : decode cX4_restart 92 = .ok (.lcmp, 1) := by decide +kernel
theorem dX4_restart_93 : decode cX4_restart 93 = .ok (.ifCond .ge 15, 3) := by decide +kernel
theorem dX4_restart_96 : decode cX4_restart 96 = .ok (.aload_n 0, 1) := by decide +kernel
theorem dX4_restart_97 : decode cX4_restart 97 = .ok (.getfield 35, 3) := by decide +kernel
theorem dX4_restart_100 : decode cX4_restart 100 = .ok (.iload_n 1, 1) := by decide +kernel
theorem dX4_restart_101 : decode cX4_restart 101 = .ok (.aload_n 0, 1) := by decide +kernel
theorem dX4_restart_102 : decode cX4_restart 102 = .ok (.getfield 29, 3) := by decide +kernel
theorem dX4_restart_105 : decode cX4_restart 105 = .ok (.iload_n 1, 1) := by decide +kernel
theorem dX4_restart_106 : decode cX4_restart 106 = .ok (.laload, 1) := by decide +kernel
theorem dX4_restart_107 : decode cX4_restart 107 = .ok (.lastore, 1) := by decide +kernel
theorem dX4_restart_108 : decode cX4_restart 108 = .ok (.return_, 1) := by decide +kernel
set_option maxRecDepth 20000 in
theorem ggX4_begin_X4_event : GoodIn wsX4_begin wsX4_event := goodIn_r _ [19, 8, 20, 21, 22, 18, 23, 4, 24, 25, 26, 27, 28, 29, 30, 31, 32, 33, 34, 35, 36, 37, 38, 39, 40, 41, 42, 43, 44] (by decide +kernel) (by decide +kernel)
set_option maxRecDepth 20000 in
theorem gX4_begin_X4_event : GoodIn wsX4_begin (wsV RX4 72 RX4 yX4_event wsX4_event) := goodIn_app (goodIn_of _ (by decide +kernel)) ggX4_begin_X4_event
theorem dX4_begin_0 : decode cX4_begin 0 = .ok (.iload_n 1, 1) := by decide +kernel
theorem dX4_begin_1 : decode cX4_begin 1 = .ok (.ifCond .lt 8, 3) := by decide +kernel
theorem dX4_begin_4 : decode cX4_begin 4 = .ok (.iload_n 1, 1) := by decide +kernel
theorem dX4_begin_5 : decode cX4_begin 5 = .ok (.iconst 3, 1) := by decide +kernel
theorem dX4_begin_6 : decode cX4_begin 6 = .ok (.if_icmp .le 5, 3) := by decide +kernel
theorem dX4_begin_9 : decode cX4_begin 9 = .ok (.iconst (-1), 1) := by decide +kernel
theorem dX4_begin_10 : decode cX4_begin 10 = .ok (.ireturn, 1) := by decide +kernel
theorem dX4_begin_11 : decode cX4_begin 11 = .ok (.iconst 0, 1) := by decide +kernel
theorem dX4_begin_12 : decode cX4_begin 12 = .ok (.istore_n 2, 1) := by decide +kernel
theorem dX4_begin_13 : decode cX4_begin 13 = .ok (.iload_n 2, 1) := by decide +kernel
theorem dX4_begin_14 : decode cX4_begin 14 = .ok (.bipush 8, 2) := by decide +kernel
theorem dX4_begin_16 : decode cX4_begin 16 = .ok (.if_icmp .ge 18, 3) := by decide +kernel
theorem dX4_begin_19 : decode cX4_begin 19 = .ok (.aload_n 0, 1) := by decide +kernel
theorem dX4_begin_20 : decode cX4_begin 20 = .ok (.getfield 17, 3) := by decide +kernel
theorem dX4_begin_23 : decode cX4_begin 23 = .ok (.iload_n 2, 1) := by decide +kernel
theorem dX4_begin_24 : decode cX4_begin 24 = .ok (.iaload, 1) := by decide +kernel
theorem dX4_begin_25 : decode cX4_begin 25 = .ok (.ifCond .eq 9, 3) := by decide +kernel
theorem dX4_begin_28 : decode cX4_begin 28 = .ok (.iinc 2 1, 3) := by decide +kernel
theorem dX4_begin_31 : decode cX4_begin 31 = .ok (.goto (-18), 3) := by decide +kernel
theorem dX4_begin_34 : decode cX4_begin 34 = .ok (.iload_n 2, 1) := by decide +kernel
theorem dX4_begin_35 : decode cX4_begin 35 = .ok (.bipush 8, 2) := by decide +kernel
theorem dX4_begin_37 : decode cX4_begin 37 = .ok (.if_icmp .ne 6, 3) := by decide +kernel
theorem dX4_begin_40 : decode cX4_begin 40 = .ok (.bipush (-3), 2) := by decide +kernel
theorem dX4_begin_42 : decode cX4_begin 42 = .ok (.ireturn, 1) := by decide +kernel
theorem dX4_begin_43 : decode cX4_begin 43 = .ok (.aload_n 0, 1) := by decide +kernel
theorem dX4_begin_44 : decode cX4_begin 44 = .ok (.iload_n 1, 1) := by decide +kernel
theorem dX4_begin_45 : decode cX4_begin 45 = .ok (.invokevirtual 72, 3) := by decide +kernel
theorem dX4_begin_48 : decode cX4_begin 48 = .ok (.aload_n 0, 1) := by decide +kernel
theorem dX4_begin_49 : decode cX4_begin 49 = .ok (.getfield 17, 3) := by decide +kernel
theorem dX4_begin_52 : decode cX4_begin 52 = .ok (.iload_n 2, 1) := by decide +kernel
theorem dX4_begin_53 : decode cX4_begin 53 = .ok (.iconst 1, 1) := by decide +kernel
theorem dX4_begin_54 : decode cX4_begin 54 = .ok (.iastore, 1) := by decide +kernel
theorem dX4_begin_55 : decode cX4_begin 55 = .ok (.aload_n 0, 1) := by decide +kernel
theorem dX4_begin_56 : decode cX4_begin 56 = .ok (.getfield 20, 3) := by decide +kernel
theorem dX4_begin_59 : decode cX4_begin 59 = .ok (.iload_n 2, 1) := by decide +kernel
theorem dX4_begin_60 : decode cX4_begin 60 = .ok (.iload_n 1, 1) := by decide +kernel
theorem dX4_begin_61 : decode cX4_begin 61 = .ok (.iastore, 1) := by decide +kernel
theorem dX4_begin_62 : decode cX4_begin 62 = .ok (.aload_n 0, 1) := by decide +kernel
theorem dX4_begin_63 : decode cX4_begin 63 = .ok (.getfield 23, 3) := by decide +kernel
theorem dX4_begin_66 : decode cX4_begin 66 = .ok (.iload_n 2, 1) := by decide +kernel
theorem dX4_begin_67 : decode cX4_begin 67 = .ok (.aload_n 0, 1) := by decide +kernel
theorem dX4_begin_68 : decode cX4_begin 68 = .ok (.getfield 7, 3) := by decide +kernel
theorem dX4_begin_71 : decode cX4_begin 71 = .ok (.iload_n 1, 1) := by decide +kernel
theorem dX4_begin_72 : decode cX4_begin 72 = .ok (.iaload, 1) := by decide +kernel
theorem dX4_begin_73 : decode cX4_begin 73 = .ok (.iastore, 1) := by decide +kernel
theorem dX4_begin_74 : decode cX4_begin 74 = .ok (.aload_n 0, 1) := by decide +kernel
theorem dX4_begin_75 : decode cX4_begin 75 = .ok (.getfield 26, 3) := by decide +kernel
theorem dX4_begin_78 : decode cX4_begin 78 = .ok (.iload_n 2, 1) := by decide +kernel
theorem dX4_begin_79 : decode cX4_begin 79 = .ok (.aload_n 0, 1) := by decide +kernel
theorem dX4_begin_80 : decode cX4_begin 80 = .ok (.getfield 85, 3) := by decide +kernel
theorem dX4_begin_83 : decode cX4_begin 83 = .ok (.lastore, 1) := by decide +kernel
theorem dX4_begin_84 : decode cX4_begin 84 = .ok (.aload_n 0, 1) := by decide +kernel
theorem dX4_begin_85 : decode cX4_begin 85 = .ok (.aload_n 0, 1) := by decide +kernel
theorem dX4_begin_86 : decode cX4_begin 86 = .ok (.getfield 85, 3) := by decide +kernel
theorem dX4_begin_89 : decode cX4_begin 89 = .ok (.lconst 1, 1) := by decide +kernel
theorem dX4_begin_90 : decode cX4_begin 90 = .ok (.ladd, 1) := by decide +kernel
theorem dX4_begin_91 : decode cX4_begin 91 = .ok (.putfield 85, 3) := by decide +kernel
theorem dX4_begin_94 : decode cX4_begin 94 = .ok (.aload_n 0, 1) := by decide +kernel
theorem dX4_begin_95 : decode cX4_begin 95 = .ok (.getfield 29, 3) := by decide +kernel
theorem dX4_begin_98 : decode cX4_begin 98 = .ok (.iload_n 2, 1) := by decide +kernel
theorem dX4_begin_99 : decode cX4_begin 99 = .ok (.aload_n 0, 1) := by decide +kernel
theorem dX4_begin_100 : decode cX4_begin 100 = .ok (.getfield 13, 3) := by decide +kernel
theorem dX4_begin_103 : decode cX4_begin 103 = .ok (.iload_n 1, 1) := by decide +kernel
theorem dX4_begin_104 : decode cX4_begin 104 = .ok (.laload, 1) := by decide +kernel
theorem dX4_begin_105 : decode cX4_begin 105 = .ok (.lastore, 1) := by decide +kernel
theorem dX4_begin_106 : decode cX4_begin 106 = .ok (.aload_n 0, 1) := by decide +kernel
theorem dX4_begin_107 : decode cX4_begin 107 = .ok (.getfield 32, 3) := by decide +kernel
theorem dX4_begin_110 : decode cX4_begin 110 = .ok (.iload_n 2, 1) := by decide +kernel
theorem dX4_begin_111 : decode cX4_begin 111 = .ok (.aload_n 0, 1) := by decide +kernel
theorem dX4_begin_112 : decode cX4_begin 112 = .ok (.getfield 13, 3) := by decide +kernel
theorem dX4_begin_115 : decode cX4_begin 115 = .ok (.iload_n 1, 1) := by decide +kernel
theorem dX4_begin_116 : decode cX4_begin 116 = .ok (.laload, 1) := by decide +kernel
theorem dX4_begin_117 : decode cX4_begin 117 = .ok (.lastore, 1) := by decide +kernel
theorem dX4_begin_118 : decode cX4_begin 118 = .ok (.aload_n 0, 1) := by decide +kernel
theorem dX4_begin_119 : decode cX4_begin 119 = .ok (.getfield 35, 3) := by decide +kernel
theorem dX4_begin_122 : decode cX4_begin 122 = .ok (.iload_n 2, 1) := by decide +kernel
theorem dX4_begin_123 : decode cX4_begin 123 = .ok (.aload_n 0, 1) := by decide +kernel
theorem dX4_begin_124 : decode cX4_begin 124 = .ok (.getfield 13, 3) := by decide +kernel
theorem dX4_begin_127 : decode cX4_begin 127 = .ok (.iload_n 1, 1) := by decide +kernel
theorem dX4_begin_128 : decode cX4_begin 128 = .ok (.laload, 1) := by decide +kernel
theorem dX4_begin_129 : decode cX4_begin 129 = .ok (.bipush 20, 2) := by decide +kernel
theorem dX4_begin_131 : decode cX4_begin 131 = .ok (.lshr, 1) := by decide +kernel
theorem dX4_begin_132 : decode cX4_begin 132 = .ok (.ldc2_w 70, 3) := by decide +kernel
theorem dX4_begin_135 : decode cX4_begin 135 = .ok (.ladd, 1) := by decide +kernel
theorem dX4_begin_136 : decode cX4_begin 136 = .ok (.bipush 20, 2) := by decide +kernel
theorem dX4_begin_138 : decode cX4_begin 138 = .ok (.lshl, 1) := by decide +kernel
theorem dX4_begin_139 : decode cX4_begin 139 = .ok (.ldc2_w 89, 3) := by decide +kernel
theorem dX4_begin_142 : decode cX4_begin 142 = .ok (.ladd, 1) := by decide +kernel
theorem dX4_begin_143 : decode cX4_begin 143 = .ok (.lastore, 1) := by decide +kernel
theorem dX4_begin_144 : decode cX4_begin 144 = .ok (.aload_n 0, 1) := by decide +kernel
theorem dX4_begin_145 : decode cX4_begin 145 = .ok (.getfield 38, 3) := by decide +kernel
theorem dX4_begin_148 : decode cX4_begin 148 = .ok (.iload_n 2, 1) := by decide +kernel
theorem dX4_begin_149 : decode cX4_begin 149 = .ok (.iconst 0, 1) := by decide +kernel
theorem dX4_begin_150 : decode cX4_begin 150 = .ok (.bastore, 1) := by decide +kernel
theorem dX4_begin_151 : decode cX4_begin 151 = .ok (.iconst 0, 1) := by decide +kernel
theorem dX4_begin_152 : decode cX4_begin 152 = .ok (.istore_n 3, 1) := by decide +kernel
theorem dX4_begin_153 : decode cX4_begin 153 = .ok (.iload_n 3, 1) := by decide +kernel
theorem dX4_begin_154 : decode cX4_begin 154 = .ok (.bipush 16, 2) := by decide +kernel
theorem dX4_begin_156 : decode cX4_begin 156 = .ok (.if_icmp .ge 21, 3) := by decide +kernel
theorem dX4_begin_159 : decode cX4_begin 159 = .ok (.aload_n 0, 1) := by decide +kernel
theorem dX4_begin_160 : decode cX4_begin 160 = .ok (.getfield 42, 3) := by decide +kernel
theorem dX4_begin_163 : decode cX4_begin 163 = .ok (.iload_n 2, 1) := by decide +kernel
theorem dX4_begin_164 : decode cX4_begin 164 = .ok (.bipush 16, 2) := by decide +kernel
theorem dX4_begin_166 : decode cX4_begin 166 = .ok (.imul, 1) := by decide +kernel
theorem dX4_begin_167 : decode cX4_begin 167 = .ok (.iload_n 3, 1) := by decide +kernel
theorem dX4_begin_168 : decode cX4_begin 168 = .ok (.iadd, 1) := by decide +kernel
theorem dX4_begin_169 : decode cX4_begin 169 = .ok (.iconst 0, 1) := by decide +kernel
theorem dX4_begin_170 : decode cX4_begin 170 = .ok (.bastore, 1) := by decide +kernel
theorem dX4_begin_171 : decode cX4_begin 171 = .ok (.iinc 3 1, 3) := by decide +kernel
theorem dX4_begin_174 : decode cX4_begin 174 = .ok (.goto (-21), 3) := by decide +kernel
theorem dX4_begin_177 : decode cX4_begin 177 = .ok (.iload_n 2, 1) := by decide +kernel
theorem dX4_begin_178 : decode cX4_begin 178 = .ok (.ireturn, 1) := by decide +kernel
theorem dX4_refused_0 : decode cX4_refused 0 = .ok (.iload_n 1, 1) := by decide +kernel
theorem dX4_refused_1 : decode cX4_refused 1 = .ok (.ifCond .lt 9, 3) := by decide +kernel
theorem dX4_refused_4 : decode cX4_refused 4 = .ok (.iload_n 1, 1) := by decide +kernel
theorem dX4_refused_5 : decode cX4_refused 5 = .ok (.bipush 7, 2) := by decide +kernel
theorem dX4_refused_7 : decode cX4_refused 7 = .ok (.if_icmp .le 5, 3) := by decide +kernel
theorem dX4_refused_10 : decode cX4_refused 10 = .ok (.iconst (-1), 1) := by decide +kernel
theorem dX4_refused_11 : decode cX4_refused 11 = .ok (.ireturn, 1) := by decide +kernel
theorem dX4_refused_12 : decode cX4_refused 12 = .ok (.aload_n 0, 1) := by decide +kernel
theorem dX4_refused_13 : decode cX4_refused 13 = .ok (.getfield 17, 3) := by decide +kernel
theorem dX4_refused_16 : decode cX4_refused 16 = .ok (.iload_n 1, 1) := by decide +kernel
theorem dX4_refused_17 : decode cX4_refused 17 = .ok (.iaload, 1) := by decide +kernel
theorem dX4_refused_18 : decode cX4_refused 18 = .ok (.ifCond .ne 6, 3) := by decide +kernel
theorem dX4_refused_21 : decode cX4_refused 21 = .ok (.bipush (-4), 2) := by decide +kernel
theorem dX4_refused_23 : decode cX4_refused 23 = .ok (.ireturn, 1) := by decide +kernel
theorem dX4_refused_24 : decode cX4_refused 24 = .ok (.aload_n 0, 1) := by decide +kernel
theorem dX4_refused_25 : decode cX4_refused 25 = .ok (.getfield 17, 3) := by decide +kernel
theorem dX4_refused_28 : decode cX4_refused 28 = .ok (.iload_n 1, 1) := by decide +kernel
theorem dX4_refused_29 : decode cX4_refused 29 = .ok (.iaload, 1) := by decide +kernel
theorem dX4_refused_30 : decode cX4_refused 30 = .ok (.iconst 3, 1) := by decide +kernel
theorem dX4_refused_31 : decode cX4_refused 31 = .ok (.if_icmp .ne 6, 3) := by decide +kernel
theorem dX4_refused_34 : decode cX4_refused 34 = .ok (.bipush (-6), 2) := by decide +kernel
theorem dX4_refused_36 : decode cX4_refused 36 = .ok (.ireturn, 1) := by decide +kernel
theorem dX4_refused_37 : decode cX4_refused 37 = .ok (.aload_n 0, 1) := by decide +kernel
theorem dX4_refused_38 : decode cX4_refused 38 = .ok (.getfield 17, 3) := by decide +kernel
theorem dX4_refused_41 : decode cX4_refused 41 = .ok (.iload_n 1, 1) := by decide +kernel
theorem dX4_refused_42 : decode cX4_refused 42 = .ok (.iaload, 1) := by decide +kernel
theorem dX4_refused_43 : decode cX4_refused 43 = .ok (.iconst 2, 1) := by decide +kernel
theorem dX4_refused_44 : decode cX4_refused 44 = .ok (.if_icmp .ne 6, 3) := by decide +kernel
theorem dX4_refused_47 : decode cX4_refused 47 = .ok (.bipush (-8), 2) := by decide +kernel
theorem dX4_refused_49 : decode cX4_refused 49 = .ok (.ireturn, 1) := by decide +kernel
theorem dX4_refused_50 : decode cX4_refused 50 = .ok (.iconst 0, 1) := by decide +kernel
theorem dX4_refused_51 : decode cX4_refused 51 = .ok (.ireturn, 1) := by decide +kernel
set_option maxRecDepth 20000 in
theorem ggX4_stopped_X4_refused : GoodIn wsX4_stopped wsX4_refused := goodIn_r _ [6, 7, 8, 9, 10, 11, 12, 13, 14, 15, 16, 17, 18, 19, 20, 21, 22, 23, 24, 25, 26, 27, 28] (by decide +kernel) (by decide +kernel)
set_option maxRecDepth 20000 in
theorem gX4_stopped_X4_refused : GoodIn wsX4_stopped (wsV RX4 91 RX4 yX4_refused wsX4_refused) := goodIn_app (goodIn_of _ (by decide +kernel)) ggX4_stopped_X4_refused
theorem dX4_stopped_0 : decode cX4_stopped 0 = .ok (.aload_n 0, 1) := by decide +kernel
theorem dX4_stopped_1 : decode cX4_stopped 1 = .ok (.iload_n 1, 1) := by decide +kernel
theorem dX4_stopped_2 : decode cX4_stopped 2 = .ok (.invokevirtual 91, 3) := by decide +kernel
theorem dX4_stopped_5 : decode cX4_stopped 5 = .ok (.istore_n 2, 1) := by decide +kernel
theorem dX4_stopped_6 : decode cX4_stopped 6 = .ok (.iload_n 2, 1) := by decide +kernel
theorem dX4_stopped_7 : decode cX4_stopped 7 = .ok (.ifCond .ne 21, 3) := by decide +kernel
theorem dX4_stopped_10 : decode cX4_stopped 10 = .ok (.aload_n 0, 1) := by decide +kernel
theorem dX4_stopped_11 : decode cX4_stopped 11 = .ok (.getfield 38, 3) := by decide +kernel
theorem dX4_stopped_14 : decode cX4_stopped 14 = .ok (.iload_n 1, 1) := by decide +kernel
theorem dX4_stopped_15 : decode cX4_stopped 15 = .ok (.baload, 1) := by decide +kernel
theorem dX4_stopped_16 : decode cX4_stopped 16 = .ok (.ifCond .eq 12, 3) := by decide +kernel
theorem dX4_stopped_19 : decode cX4_stopped 19 = .ok (.aload_n 0, 1) := by decide +kernel
theorem dX4_stopped_20 : decode cX4_stopped 20 = .ok (.getfield 38, 3) := by decide +kernel
theorem dX4_stopped_23 : decode cX4_stopped 23 = .ok (.iload_n 1, 1) := by decide +kernel
theorem dX4_stopped_24 : decode cX4_stopped 24 = .ok (.iconst 0, 1) := by decide +kernel
theorem dX4_stopped_25 : decode cX4_stopped 25 = .ok (.bastore, 1) := by decide +kernel
theorem dX4_stopped_26 : decode cX4_stopped 26 = .ok (.iconst 1, 1) := by decide +kernel
theorem dX4_stopped_27 : decode cX4_stopped 27 = .ok (.ireturn, 1) := by decide +kernel
theorem dX4_stopped_28 : decode cX4_stopped 28 = .ok (.iload_n 2, 1) := by decide +kernel
theorem dX4_stopped_29 : decode cX4_stopped 29 = .ok (.ireturn, 1) := by decide +kernel
set_option maxRecDepth 20000 in
theorem ggX4_read_X4_stopped : GoodIn wsX4_read wsX4_stopped := goodIn_r _ [19, 20, 21, 22, 23, 18, 24, 25, 54, 55, 56, 57, 58, 59, 60, 61, 62, 63, 64, 65, 66, 67, 68, 69, 70, 71, 72, 73, 74] (by decide +kernel) (by decide +kernel)
set_option maxRecDepth 20000 in
theorem gX4_read_X4_stopped : GoodIn wsX4_read (wsV RX4 97 RX4 yX4_stopped wsX4_stopped) := goodIn_app (goodIn_of _ (by decide +kernel)) ggX4_read_X4_stopped
set_option maxRecDepth 20000 in
theorem ggX4_read_X4_event : GoodIn wsX4_read wsX4_event := goodIn_r _ [29, 4, 30, 31, 32, 18, 33, 34, 54, 55, 56, 57, 58, 59, 60, 61, 62, 63, 64, 65, 66, 67, 68, 69, 70, 71, 72, 73, 74] (by decide +kernel) (by decide +kernel)
set_option maxRecDepth 20000 in
theorem gX4_read_X4_event : GoodIn wsX4_read (wsV RX4 72 RX4 yX4_event wsX4_event) := goodIn_app (goodIn_of _ (by decide +kernel)) ggX4_read_X4_event
set_option maxRecDepth 20000 in
theorem ggX4_read_X4_receive : GoodIn wsX4_read wsX4_receive := goodIn_r _ [33, 4, 34, 54, 55, 56, 57, 58, 59, 60, 61, 62, 63, 64, 65, 66, 67, 68, 69, 70, 71, 72, 73, 74] (by decide +kernel) (by decide +kernel)
set_option maxRecDepth 20000 in
theorem gX4_read_X4_receive : GoodIn wsX4_read (wsV RX4 66 RX4 yX4_receive wsX4_receive) := goodIn_app (goodIn_of _ (by decide +kernel)) ggX4_read_X4_receive
set_option maxRecDepth 20000 in
theorem ggX4_read_X4_meet : GoodIn wsX4_read wsX4_meet := goodIn_r _ [38, 5, 3, 4, 25, 34, 39, 30, 31, 32, 18, 33, 40, 41, 42, 43, 44, 45, 10, 7, 14, 6, 54, 55, 56, 57, 58, 59, 60, 61, 62, 63, 64, 65, 66, 67, 68, 69, 70, 71, 72, 73, 74] (by decide +kernel) (by decide +kernel)
set_option maxRecDepth 20000 in
theorem gX4_read_X4_meet : GoodIn wsX4_read (wsV RX4 102 RX4 yX4_meet wsX4_meet) := goodIn_app (goodIn_of _ (by decide +kernel)) ggX4_read_X4_meet
set_option maxRecDepth 20000 in
theorem ggX4_read_X4_find : GoodIn wsX4_read wsX4_find := goodIn_r _ [49, 45, 44, 10, 54, 55, 56, 57, 58, 59, 60, 61, 62, 63, 64, 65, 66, 67, 68, 69, 70, 71, 72, 73, 74] (by decide +kernel) (by decide +kernel)
set_option maxRecDepth 20000 in
theorem gX4_read_X4_find : GoodIn wsX4_read (wsV RX4 105 RX4 yX4_find wsX4_find) := goodIn_app (goodIn_of _ (by decide +kernel)) ggX4_read_X4_find
set_option maxRecDepth 20000 in
theorem ggX4_read_X4_restart : GoodIn wsX4_read wsX4_restart := goodIn_r _ [53, 5, 13, 7, 8, 9, 54, 55, 56, 57, 58, 59, 60, 61, 62, 63, 64, 65, 66, 67, 68, 69, 70, 71, 72, 73, 74] (by decide +kernel) (by decide +kernel)
set_option maxRecDepth 20000 in
theorem gX4_read_X4_restart : GoodIn wsX4_read (wsV RX4 109 RX4 yX4_restart wsX4_restart) := goodIn_app (goodIn_of _ (by decide +kernel)) ggX4_read_X4_restart
theorem dX4_read_0 : decode cX4_read 0 = .ok (.iload_n 1, 1) := by decide +kernel
theorem dX4_read_1 : decode cX4_read 1 = .ok (.ifCond .lt 19, 3) := by decide +kernel
theorem dX4_read_4 : decode cX4_read 4 = .ok (.iload_n 1, 1) := by decide +kernel
theorem dX4_read_5 : decode cX4_read 5 = .ok (.bipush 7, 2) := by decide +kernel
theorem dX4_read_7 : decode cX4_read 7 = .ok (.if_icmp .gt 13, 3) := by decide +kernel
theorem dX4_read_10 : decode cX4_read 10 = .ok (.iload_n 2, 1) := by decide +kernel
theorem dX4_read_11 : decode cX4_read 11 = .ok (.ifCond .lt 9, 3) := by decide +kernel
theorem dX4_read_14 : decode cX4_read 14 = .ok (.iload_n 2, 1) := by decide +kernel
theorem dX4_read_15 : decode cX4_read 15 = .ok (.bipush 15, 2) := by decide +kernel
theorem dX4_read_17 : decode cX4_read 17 = .ok (.if_icmp .le 7, 3) := by decide +kernel
theorem dX4_read_20 : decode cX4_read 20 = .ok (.ldc2_w 95, 3) := by decide +kernel
theorem dX4_read_23 : decode cX4_read 23 = .ok (.lreturn, 1) := by decide +kernel
theorem dX4_read_24 : decode cX4_read 24 = .ok (.aload_n 0, 1) := by decide +kernel
theorem dX4_read_25 : decode cX4_read 25 = .ok (.iload_n 1, 1) := by decide +kernel
theorem dX4_read_26 : decode cX4_read 26 = .ok (.invokevirtual 97, 3) := by decide +kernel
theorem dX4_read_29 : decode cX4_read 29 = .ok (.istore_n 3, 1) := by decide +kernel
theorem dX4_read_30 : decode cX4_read 30 = .ok (.iload_n 3, 1) := by decide +kernel
theorem dX4_read_31 : decode cX4_read 31 = .ok (.ifCond .eq 10, 3) := by decide +kernel
theorem dX4_read_34 : decode cX4_read 34 = .ok (.ldc2_w 100, 3) := by decide +kernel
theorem dX4_read_37 : decode cX4_read 37 = .ok (.iload_n 3, 1) := by decide +kernel
theorem dX4_read_38 : decode cX4_read 38 = .ok (.i2l, 1) := by decide +kernel
theorem dX4_read_39 : decode cX4_read 39 = .ok (.ladd, 1) := by decide +kernel
theorem dX4_read_40 : decode cX4_read 40 = .ok (.lreturn, 1) := by decide +kernel
theorem dX4_read_41 : decode cX4_read 41 = .ok (.aload_n 0, 1) := by decide +kernel
theorem dX4_read_42 : decode cX4_read 42 = .ok (.getfield 20, 3) := by decide +kernel
theorem dX4_read_45 : decode cX4_read 45 = .ok (.iload_n 1, 1) := by decide +kernel
theorem dX4_read_46 : decode cX4_read 46 = .ok (.iaload, 1) := by decide +kernel
theorem dX4_read_47 : decode cX4_read 47 = .ok (.istore 4, 2) := by decide +kernel
theorem dX4_read_49 : decode cX4_read 49 = .ok (.iload_n 2, 1) := by decide +kernel
theorem dX4_read_50 : decode cX4_read 50 = .ok (.iconst 3, 1) := by decide +kernel
theorem dX4_read_51 : decode cX4_read 51 = .ok (.iand, 1) := by decide +kernel
theorem dX4_read_52 : decode cX4_read 52 = .ok (.istore 5, 2) := by decide +kernel
theorem dX4_read_54 : decode cX4_read 54 = .ok (.aload_n 0, 1) := by decide +kernel
theorem dX4_read_55 : decode cX4_read 55 = .ok (.iload 4, 2) := by decide +kernel
theorem dX4_read_57 : decode cX4_read 57 = .ok (.invokevirtual 72, 3) := by decide +kernel
theorem dX4_read_60 : decode cX4_read 60 = .ok (.aload_n 0, 1) := by decide +kernel
theorem dX4_read_61 : decode cX4_read 61 = .ok (.iload 5, 2) := by decide +kernel
theorem dX4_read_63 : decode cX4_read 63 = .ok (.aload_n 0, 1) := by decide +kernel
theorem dX4_read_64 : decode cX4_read 64 = .ok (.getfield 13, 3) := by decide +kernel
theorem dX4_read_67 : decode cX4_read 67 = .ok (.iload 4, 2) := by decide +kernel
theorem dX4_read_69 : decode cX4_read 69 = .ok (.laload, 1) := by decide +kernel
theorem dX4_read_70 : decode cX4_read 70 = .ok (.invokevirtual 66, 3) := by decide +kernel
theorem dX4_read_73 : decode cX4_read 73 = .ok (.aload_n 0, 1) := by decide +kernel
theorem dX4_read_74 : decode cX4_read 74 = .ok (.getfield 51, 3) := by decide +kernel
theorem dX4_read_77 : decode cX4_read 77 = .ok (.iload_n 2, 1) := by decide +kernel
theorem dX4_read_78 : decode cX4_read 78 = .ok (.iaload, 1) := by decide +kernel
theorem dX4_read_79 : decode cX4_read 79 = .ok (.iload_n 1, 1) := by decide +kernel
theorem dX4_read_80 : decode cX4_read 80 = .ok (.iconst 1, 1) := by decide +kernel
theorem dX4_read_81 : decode cX4_read 81 = .ok (.iadd, 1) := by decide +kernel
theorem dX4_read_82 : decode cX4_read 82 = .ok (.if_icmp .ne 15, 3) := by decide +kernel
theorem dX4_read_85 : decode cX4_read 85 = .ok (.aload_n 0, 1) := by decide +kernel
theorem dX4_read_86 : decode cX4_read 86 = .ok (.getfield 54, 3) := by decide +kernel
theorem dX4_read_89 : decode cX4_read 89 = .ok (.iload_n 2, 1) := by decide +kernel
theorem dX4_read_90 : decode cX4_read 90 = .ok (.iaload, 1) := by decide +kernel
theorem dX4_read_91 : decode cX4_read 91 = .ok (.i2l, 1) := by decide +kernel
theorem dX4_read_92 : decode cX4_read 92 = .ok (.lstore 6, 2) := by decide +kernel
theorem dX4_read_94 : decode cX4_read 94 = .ok (.goto 164, 3) := by decide +kernel
theorem dX4_read_97 : decode cX4_read 97 = .ok (.aload_n 0, 1) := by decide +kernel
theorem dX4_read_98 : decode cX4_read 98 = .ok (.iload_n 2, 1) := by decide +kernel
theorem dX4_read_99 : decode cX4_read 99 = .ok (.invokevirtual 102, 3) := by decide +kernel
theorem dX4_read_102 : decode cX4_read 102 = .ok (.istore 8, 2) := by decide +kernel
theorem dX4_read_104 : decode cX4_read 104 = .ok (.iload 8, 2) := by decide +kernel
theorem dX4_read_106 : decode cX4_read 106 = .ok (.ifCond .lt 35, 3) := by decide +kernel
theorem dX4_read_109 : decode cX4_read 109 = .ok (.aload_n 0, 1) := by decide +kernel
theorem dX4_read_110 : decode cX4_read 110 = .ok (.getfield 32, 3) := by decide +kernel
theorem dX4_read_113 : decode cX4_read 113 = .ok (.iload 8, 2) := by decide +kernel
theorem dX4_read_115 : decode cX4_read 115 = .ok (.laload, 1) := by decide +kernel
theorem dX4_read_116 : decode cX4_read 116 = .ok (.aload_n 0, 1) := by decide +kernel
theorem dX4_read_117 : decode cX4_read 117 = .ok (.getfield 29, 3) := by decide +kernel
theorem dX4_read_120 : decode cX4_read 120 = .ok (.iload_n 1, 1) := by decide +kernel
theorem dX4_read_121 : decode cX4_read 121 = .ok (.laload, 1) := by decide +kernel
theorem dX4_read_122 : decode cX4_read 122 = .ok (.lcmp, 1) := by decide +kernel
theorem dX4_read_123 : decode cX4_read 123 = .ok (.ifCond .gt 18, 3) := by decide +kernel
theorem dX4_read_126 : decode cX4_read 126 = .ok (.aload_n 0, 1) := by decide +kernel
theorem dX4_read_127 : decode cX4_read 127 = .ok (.getfield 32, 3) := by decide +kernel
theorem dX4_read_130 : decode cX4_read 130 = .ok (.iload 8, 2) := by decide +kernel
theorem dX4_read_132 : decode cX4_read 132 = .ok (.aload_n 0, 1) := by decide +kernel
theorem dX4_read_133 : decode cX4_read 133 = .ok (.getfield 29, 3) := by decide +kernel
theorem dX4_read_136 : decode cX4_read 136 = .ok (.iload_n 1, 1) := by decide +kernel
theorem dX4_read_137 : decode cX4_read 137 = .ok (.laload, 1) := by decide +kernel
theorem dX4_read_138 : decode cX4_read 138 = .ok (.lconst 1, 1) := by decide +kernel
theorem dX4_read_139 : decode cX4_read 139 = .ok (.ladd, 1) := by decide +kernel
theorem dX4_read_140 : decode cX4_read 140 = .ok (.lastore, 1) := by decide +kernel
theorem dX4_read_141 : decode cX4_read 141 = .ok (.aload_n 0, 1) := by decide +kernel
theorem dX4_read_142 : decode cX4_read 142 = .ok (.iload_n 2, 1) := by decide +kernel
theorem dX4_read_143 : decode cX4_read 143 = .ok (.aload_n 0, 1) := by decide +kernel
theorem dX4_read_144 : decode cX4_read 144 = .ok (.getfield 29, 3) := by decide +kernel
theorem dX4_read_147 : decode cX4_read 147 = .ok (.iload_n 1, 1) := by decide +kernel
theorem dX4_read_148 : decode cX4_read 148 = .ok (.laload, 1) := by decide +kernel
theorem dX4_read_149 : decode cX4_read 149 = .ok (.aload_n 0, 1) := by decide +kernel
theorem dX4_read_150 : decode cX4_read 150 = .ok (.getfield 35, 3) := by decide +kernel
theorem dX4_read_153 : decode cX4_read 153 = .ok (.iload_n 1, 1) := by decide +kernel
theorem dX4_read_154 : decode cX4_read 154 = .ok (.laload, 1) := by decide +kernel
theorem dX4_read_155 : decode cX4_read 155 = .ok (.invokevirtual 105, 3) := by decide +kernel
theorem dX4_read_158 : decode cX4_read 158 = .ok (.istore 9, 2) := by decide +kernel
theorem dX4_read_160 : decode cX4_read 160 = .ok (.iload 9, 2) := by decide +kernel
theorem dX4_read_162 : decode cX4_read 162 = .ok (.ifCond .lt 23, 3) := by decide +kernel
theorem dX4_read_165 : decode cX4_read 165 = .ok (.aload_n 0, 1) := by decide +kernel
theorem dX4_read_166 : decode cX4_read 166 = .ok (.iload_n 1, 1) := by decide +kernel
theorem dX4_read_167 : decode cX4_read 167 = .ok (.aload_n 0, 1) := by decide +kernel
theorem dX4_read_168 : decode cX4_read 168 = .ok (.getfield 60, 3) := by decide +kernel
theorem dX4_read_171 : decode cX4_read 171 = .ok (.iload 9, 2) := by decide +kernel
theorem dX4_read_173 : decode cX4_read 173 = .ok (.laload, 1) := by decide +kernel
theorem dX4_read_174 : decode cX4_read 174 = .ok (.invokevirtual 109, 3) := by decide +kernel
theorem dX4_read_177 : decode cX4_read 177 = .ok (.ldc2_w 112, 3) := by decide +kernel
theorem dX4_read_180 : decode cX4_read 180 = .ok (.lstore 6, 2) := by decide +kernel
theorem dX4_read_182 : decode cX4_read 182 = .ok (.goto 76, 3) := by decide +kernel
theorem dX4_read_185 : decode cX4_read 185 = .ok (.aload_n 0, 1) := by decide +kernel
theorem dX4_read_186 : decode cX4_read 186 = .ok (.getfield 48, 3) := by decide +kernel
theorem dX4_read_189 : decode cX4_read 189 = .ok (.iload_n 2, 1) := by decide +kernel
theorem dX4_read_190 : decode cX4_read 190 = .ok (.laload, 1) := by decide +kernel
theorem dX4_read_191 : decode cX4_read 191 = .ok (.aload_n 0, 1) := by decide +kernel
theorem dX4_read_192 : decode cX4_read 192 = .ok (.getfield 29, 3) := by decide +kernel
theorem dX4_read_195 : decode cX4_read 195 = .ok (.iload_n 1, 1) := by decide +kernel
theorem dX4_read_196 : decode cX4_read 196 = .ok (.laload, 1) := by decide +kernel
theorem dX4_read_197 : decode cX4_read 197 = .ok (.lcmp, 1) := by decide +kernel
theorem dX4_read_198 : decode cX4_read 198 = .ok (.ifCond .ge 15, 3) := by decide +kernel
theorem dX4_read_201 : decode cX4_read 201 = .ok (.aload_n 0, 1) := by decide +kernel
theorem dX4_read_202 : decode cX4_read 202 = .ok (.getfield 48, 3) := by decide +kernel
theorem dX4_read_205 : decode cX4_read 205 = .ok (.iload_n 2, 1) := by decide +kernel
theorem dX4_read_206 : decode cX4_read 206 = .ok (.aload_n 0, 1) := by decide +kernel
theorem dX4_read_207 : decode cX4_read 207 = .ok (.getfield 29, 3) := by decide +kernel
theorem dX4_read_210 : decode cX4_read 210 = .ok (.iload_n 1, 1) := by decide +kernel
theorem dX4_read_211 : decode cX4_read 211 = .ok (.laload, 1) := by decide +kernel
theorem dX4_read_212 : decode cX4_read 212 = .ok (.lastore, 1) := by decide +kernel
theorem dX4_read_213 : decode cX4_read 213 = .ok (.aload_n 0, 1) := by decide +kernel
theorem dX4_read_214 : decode cX4_read 214 = .ok (.getfield 42, 3) := by decide +kernel
theorem dX4_read_217 : decode cX4_read 217 = .ok (.iload_n 1, 1) := by decide +kernel
theorem dX4_read_218 : decode cX4_read 218 = .ok (.bipush 16, 2) := by decide +kernel
theorem dX4_read_220 : decode cX4_read 220 = .ok (.imul, 1) := by decide +kernel
theorem dX4_read_221 : decode cX4_read 221 = .ok (.iload_n 2, 1) := by decide +kernel
theorem dX4_read_222 : decode cX4_read 222 = .ok (.iadd, 1) := by decide +kernel
theorem dX4_read_223 : decode cX4_read 223 = .ok (.iconst 1, 1) := by decide +kernel
theorem dX4_read_224 : decode cX4_read 224 = .ok (.bastore, 1) := by decide +kernel
theorem dX4_read_225 : decode cX4_read 225 = .ok (.aload_n 0, 1) := by decide +kernel
theorem dX4_read_226 : decode cX4_read 226 = .ok (.iload_n 2, 1) := by decide +kernel
theorem dX4_read_227 : decode cX4_read 227 = .ok (.lconst 0, 1) := by decide +kernel
theorem dX4_read_228 : decode cX4_read 228 = .ok (.aload_n 0, 1) := by decide +kernel
theorem dX4_read_229 : decode cX4_read 229 = .ok (.getfield 29, 3) := by decide +kernel
theorem dX4_read_232 : decode cX4_read 232 = .ok (.iload_n 1, 1) := by decide +kernel
theorem dX4_read_233 : decode cX4_read 233 = .ok (.laload, 1) := by decide +kernel
theorem dX4_read_234 : decode cX4_read 234 = .ok (.invokevirtual 105, 3) := by decide +kernel
theorem dX4_read_237 : decode cX4_read 237 = .ok (.istore 10, 2) := by decide +kernel
theorem dX4_read_239 : decode cX4_read 239 = .ok (.iload 10, 2) := by decide +kernel
theorem dX4_read_241 : decode cX4_read 241 = .ok (.ifCond .ge 7, 3) := by decide +kernel
theorem dX4_read_244 : decode cX4_read 244 = .ok (.lconst 0, 1) := by decide +kernel
theorem dX4_read_245 : decode cX4_read 245 = .ok (.goto 11, 3) := by decide +kernel
theorem dX4_read_248 : decode cX4_read 248 = .ok (.aload_n 0, 1) := by decide +kernel
theorem dX4_read_249 : decode cX4_read 249 = .ok (.getfield 63, 3) := by decide +kernel
theorem dX4_read_252 : decode cX4_read 252 = .ok (.iload 10, 2) := by decide +kernel
theorem dX4_read_254 : decode cX4_read 254 = .ok (.iaload, 1) := by decide +kernel
theorem dX4_read_255 : decode cX4_read 255 = .ok (.i2l, 1) := by decide +kernel
theorem dX4_read_256 : decode cX4_read 256 = .ok (.lstore 6, 2) := by decide +kernel
theorem dX4_read_258 : decode cX4_read 258 = .ok (.aload_n 0, 1) := by decide +kernel
theorem dX4_read_259 : decode cX4_read 259 = .ok (.iload 4, 2) := by decide +kernel
theorem dX4_read_261 : decode cX4_read 261 = .ok (.aload_n 0, 1) := by decide +kernel
theorem dX4_read_262 : decode cX4_read 262 = .ok (.getfield 13, 3) := by decide +kernel
theorem dX4_read_265 : decode cX4_read 265 = .ok (.iload 5, 2) := by decide +kernel
theorem dX4_read_267 : decode cX4_read 267 = .ok (.laload, 1) := by decide +kernel
theorem dX4_read_268 : decode cX4_read 268 = .ok (.invokevirtual 66, 3) := by decide +kernel
theorem dX4_read_271 : decode cX4_read 271 = .ok (.lload 6, 2) := by decide +kernel
theorem dX4_read_273 : decode cX4_read 273 = .ok (.lreturn, 1) := by decide +kernel
set_option maxRecDepth 20000 in
theorem ggX4_write_X4_stopped : GoodIn wsX4_write wsX4_stopped := goodIn_r _ [15, 6, 16, 17, 18, 14, 19, 20, 57, 58, 59, 60, 61, 62, 63, 64, 65, 66, 67, 68, 69, 70, 71, 72, 73, 74, 75, 76, 77] (by decide +kernel) (by decide +kernel)
set_option maxRecDepth 20000 in
theorem gX4_write_X4_stopped : GoodIn wsX4_write (wsV RX4 97 RX4 yX4_stopped wsX4_stopped) := goodIn_app (goodIn_of _ (by decide +kernel)) ggX4_write_X4_stopped
set_option maxRecDepth 20000 in
theorem ggX4_write_X4_event : GoodIn wsX4_write wsX4_event := goodIn_r _ [24, 2, 25, 26, 27, 14, 28, 29, 57, 58, 59, 60, 61, 62, 63, 64, 65, 66, 67, 68, 69, 70, 71, 72, 73, 74, 75, 76, 77] (by decide +kernel) (by decide +kernel)
set_option maxRecDepth 20000 in
theorem gX4_write_X4_event : GoodIn wsX4_write (wsV RX4 72 RX4 yX4_event wsX4_event) := goodIn_app (goodIn_of _ (by decide +kernel)) ggX4_write_X4_event
set_option maxRecDepth 20000 in
theorem ggX4_write_X4_receive : GoodIn wsX4_write wsX4_receive := goodIn_r _ [28, 2, 29, 57, 58, 59, 60, 61, 62, 63, 64, 65, 66, 67, 68, 69, 70, 71, 72, 73, 74, 75, 76, 77] (by decide +kernel) (by decide +kernel)
set_option maxRecDepth 20000 in
theorem gX4_write_X4_receive : GoodIn wsX4_write (wsV RX4 66 RX4 yX4_receive wsX4_receive) := goodIn_app (goodIn_of _ (by decide +kernel)) ggX4_write_X4_receive
set_option maxRecDepth 20000 in
theorem ggX4_write_X4_meet : GoodIn wsX4_write wsX4_meet := goodIn_r _ [33, 3, 1, 2, 20, 29, 34, 25, 26, 27, 14, 28, 35, 36, 37, 38, 39, 40, 9, 10, 41, 4, 57, 58, 59, 60, 61, 62, 63, 64, 65, 66, 67, 68, 69, 70, 71, 72, 73, 74, 75, 76, 77] (by decide +kernel) (by decide +kernel)
set_option maxRecDepth 20000 in
theorem gX4_write_X4_meet : GoodIn wsX4_write (wsV RX4 102 RX4 yX4_meet wsX4_meet) := goodIn_app (goodIn_of _ (by decide +kernel)) ggX4_write_X4_meet
set_option maxRecDepth 20000 in
theorem ggX4_write_X4_restart : GoodIn wsX4_write wsX4_restart := goodIn_r _ [45, 3, 46, 10, 47, 48, 57, 58, 59, 60, 61, 62, 63, 64, 65, 66, 67, 68, 69, 70, 71, 72, 73, 74, 75, 76, 77] (by decide +kernel) (by decide +kernel)
set_option maxRecDepth 20000 in
theorem gX4_write_X4_restart : GoodIn wsX4_write (wsV RX4 109 RX4 yX4_restart wsX4_restart) := goodIn_app (goodIn_of _ (by decide +kernel)) ggX4_write_X4_restart
set_option maxRecDepth 20000 in
theorem ggX4_write_X4_versions : GoodIn wsX4_write wsX4_versions := goodIn_r _ [52, 40, 39, 57, 58, 59, 60, 61, 62, 63, 64, 65, 66, 67, 68, 69, 70, 71, 72, 73, 74, 75, 76, 77] (by decide +kernel) (by decide +kernel)
set_option maxRecDepth 20000 in
theorem gX4_write_X4_versions : GoodIn wsX4_write (wsV RX4 114 RX4 yX4_versions wsX4_versions) := goodIn_app (goodIn_of _ (by decide +kernel)) ggX4_write_X4_versions
set_option maxRecDepth 20000 in
theorem ggX4_write_X4_find : GoodIn wsX4_write wsX4_find := goodIn_r _ [56, 40, 39, 9, 57, 58, 59, 60, 61, 62, 63, 64, 65, 66, 67, 68, 69, 70, 71, 72, 73, 74, 75, 76, 77] (by decide +kernel) (by decide +kernel)
set_option maxRecDepth 20000 in
theorem gX4_write_X4_find : GoodIn wsX4_write (wsV RX4 105 RX4 yX4_find wsX4_find) := goodIn_app (goodIn_of _ (by decide +kernel)) ggX4_write_X4_find
theorem dX4_write_0 : decode cX4_write 0 = .ok (.iload_n 1, 1) := by decide +kernel
theorem dX4_write_1 : decode cX4_write 1 = .ok (.ifCond .lt 19, 3) := by decide +kernel
theorem dX4_write_4 : decode cX4_write 4 = .ok (.iload_n 1, 1) := by decide +kernel
theorem dX4_write_5 : decode cX4_write 5 = .ok (.bipush 7, 2) := by decide +kernel
theorem dX4_write_7 : decode cX4_write 7 = .ok (.if_icmp .gt 13, 3) := by decide +kernel
theorem dX4_write_10 : decode cX4_write 10 = .ok (.iload_n 2, 1) := by decide +kernel
theorem dX4_write_11 : decode cX4_write 11 = .ok (.ifCond .lt 9, 3) := by decide +kernel
theorem dX4_write_14 : decode cX4_write 14 = .ok (.iload_n 2, 1) := by decide +kernel
theorem dX4_write_15 : decode cX4_write 15 = .ok (.bipush 15, 2) := by decide +kernel
theorem dX4_write_17 : decode cX4_write 17 = .ok (.if_icmp .le 5, 3) := by decide +kernel
theorem dX4_write_20 : decode cX4_write 20 = .ok (.iconst (-1), 1) := by decide +kernel
theorem dX4_write_21 : decode cX4_write 21 = .ok (.ireturn, 1) := by decide +kernel
theorem dX4_write_22 : decode cX4_write 22 = .ok (.aload_n 0, 1) := by decide +kernel
theorem dX4_write_23 : decode cX4_write 23 = .ok (.iload_n 1, 1) := by decide +kernel
theorem dX4_write_24 : decode cX4_write 24 = .ok (.invokevirtual 97, 3) := by decide +kernel
theorem dX4_write_27 : decode cX4_write 27 = .ok (.istore 4, 2) := by decide +kernel
theorem dX4_write_29 : decode cX4_write 29 = .ok (.iload 4, 2) := by decide +kernel
theorem dX4_write_31 : decode cX4_write 31 = .ok (.ifCond .eq 6, 3) := by decide +kernel
theorem dX4_write_34 : decode cX4_write 34 = .ok (.iload 4, 2) := by decide +kernel
theorem dX4_write_36 : decode cX4_write 36 = .ok (.ireturn, 1) := by decide +kernel
theorem dX4_write_37 : decode cX4_write 37 = .ok (.aload_n 0, 1) := by decide +kernel
theorem dX4_write_38 : decode cX4_write 38 = .ok (.getfield 20, 3) := by decide +kernel
theorem dX4_write_41 : decode cX4_write 41 = .ok (.iload_n 1, 1) := by decide +kernel
theorem dX4_write_42 : decode cX4_write 42 = .ok (.iaload, 1) := by decide +kernel
theorem dX4_write_43 : decode cX4_write 43 = .ok (.istore 5, 2) := by decide +kernel
theorem dX4_write_45 : decode cX4_write 45 = .ok (.iload_n 2, 1) := by decide +kernel
theorem dX4_write_46 : decode cX4_write 46 = .ok (.iconst 3, 1) := by decide +kernel
theorem dX4_write_47 : decode cX4_write 47 = .ok (.iand, 1) := by decide +kernel
theorem dX4_write_48 : decode cX4_write 48 = .ok (.istore 6, 2) := by decide +kernel
theorem dX4_write_50 : decode cX4_write 50 = .ok (.aload_n 0, 1) := by decide +kernel
theorem dX4_write_51 : decode cX4_write 51 = .ok (.iload 5, 2) := by decide +kernel
theorem dX4_write_53 : decode cX4_write 53 = .ok (.invokevirtual 72, 3) := by decide +kernel
theorem dX4_write_56 : decode cX4_write 56 = .ok (.aload_n 0, 1) := by decide +kernel
theorem dX4_write_57 : decode cX4_write 57 = .ok (.iload 6, 2) := by decide +kernel
theorem dX4_write_59 : decode cX4_write 59 = .ok (.aload_n 0, 1) := by decide +kernel
theorem dX4_write_60 : decode cX4_write 60 = .ok (.getfield 13, 3) := by decide +kernel
theorem dX4_write_63 : decode cX4_write 63 = .ok (.iload 5, 2) := by decide +kernel
theorem dX4_write_65 : decode cX4_write 65 = .ok (.laload, 1) := by decide +kernel
theorem dX4_write_66 : decode cX4_write 66 = .ok (.invokevirtual 66, 3) := by decide +kernel
theorem dX4_write_69 : decode cX4_write 69 = .ok (.iconst 0, 1) := by decide +kernel
theorem dX4_write_70 : decode cX4_write 70 = .ok (.istore 7, 2) := by decide +kernel
theorem dX4_write_72 : decode cX4_write 72 = .ok (.aload_n 0, 1) := by decide +kernel
theorem dX4_write_73 : decode cX4_write 73 = .ok (.getfield 51, 3) := by decide +kernel
theorem dX4_write_76 : decode cX4_write 76 = .ok (.iload_n 2, 1) := by decide +kernel
theorem dX4_write_77 : decode cX4_write 77 = .ok (.iaload, 1) := by decide +kernel
theorem dX4_write_78 : decode cX4_write 78 = .ok (.iload_n 1, 1) := by decide +kernel
theorem dX4_write_79 : decode cX4_write 79 = .ok (.iconst 1, 1) := by decide +kernel
theorem dX4_write_80 : decode cX4_write 80 = .ok (.iadd, 1) := by decide +kernel
theorem dX4_write_81 : decode cX4_write 81 = .ok (.if_icmp .ne 13, 3) := by decide +kernel
theorem dX4_write_84 : decode cX4_write 84 = .ok (.aload_n 0, 1) := by decide +kernel
theorem dX4_write_85 : decode cX4_write 85 = .ok (.getfield 54, 3) := by decide +kernel
theorem dX4_write_88 : decode cX4_write 88 = .ok (.iload_n 2, 1) := by decide +kernel
theorem dX4_write_89 : decode cX4_write 89 = .ok (.iload_n 3, 1) := by decide +kernel
theorem dX4_write_90 : decode cX4_write 90 = .ok (.iastore, 1) := by decide +kernel
theorem dX4_write_91 : decode cX4_write 91 = .ok (.goto 160, 3) := by decide +kernel
theorem dX4_write_94 : decode cX4_write 94 = .ok (.aload_n 0, 1) := by decide +kernel
theorem dX4_write_95 : decode cX4_write 95 = .ok (.iload_n 2, 1) := by decide +kernel
theorem dX4_write_96 : decode cX4_write 96 = .ok (.invokevirtual 102, 3) := by decide +kernel
theorem dX4_write_99 : decode cX4_write 99 = .ok (.istore 8, 2) := by decide +kernel
theorem dX4_write_101 : decode cX4_write 101 = .ok (.iload 8, 2) := by decide +kernel
theorem dX4_write_103 : decode cX4_write 103 = .ok (.ifCond .lt 27, 3) := by decide +kernel
theorem dX4_write_106 : decode cX4_write 106 = .ok (.aload_n 0, 1) := by decide +kernel
theorem dX4_write_107 : decode cX4_write 107 = .ok (.getfield 26, 3) := by decide +kernel
theorem dX4_write_110 : decode cX4_write 110 = .ok (.iload_n 1, 1) := by decide +kernel
theorem dX4_write_111 : decode cX4_write 111 = .ok (.laload, 1) := by decide +kernel
theorem dX4_write_112 : decode cX4_write 112 = .ok (.aload_n 0, 1) := by decide +kernel
theorem dX4_write_113 : decode cX4_write 113 = .ok (.getfield 26, 3) := by decide +kernel
theorem dX4_write_116 : decode cX4_write 116 = .ok (.iload 8, 2) := by decide +kernel
theorem dX4_write_118 : decode cX4_write 118 = .ok (.laload, 1) := by decide +kernel
theorem dX4_write_119 : decode cX4_write 119 = .ok (.lcmp, 1) := by decide +kernel
theorem dX4_write_120 : decode cX4_write 120 = .ok (.ifCond .le 10, 3) := by decide +kernel
theorem dX4_write_123 : decode cX4_write 123 = .ok (.bipush (-5), 2) := by decide +kernel
theorem dX4_write_125 : decode cX4_write 125 = .ok (.istore 7, 2) := by decide +kernel
theorem dX4_write_127 : decode cX4_write 127 = .ok (.goto 124, 3) := by decide +kernel
theorem dX4_write_130 : decode cX4_write 130 = .ok (.iload 8, 2) := by decide +kernel
theorem dX4_write_132 : decode cX4_write 132 = .ok (.ifCond .lt 18, 3) := by decide +kernel
theorem dX4_write_135 : decode cX4_write 135 = .ok (.aload_n 0, 1) := by decide +kernel
theorem dX4_write_136 : decode cX4_write 136 = .ok (.iload 8, 2) := by decide +kernel
theorem dX4_write_138 : decode cX4_write 138 = .ok (.lconst 0, 1) := by decide +kernel
theorem dX4_write_139 : decode cX4_write 139 = .ok (.invokevirtual 109, 3) := by decide +kernel
theorem dX4_write_142 : decode cX4_write 142 = .ok (.aload_n 0, 1) := by decide +kernel
theorem dX4_write_143 : decode cX4_write 143 = .ok (.getfield 38, 3) := by decide +kernel
theorem dX4_write_146 : decode cX4_write 146 = .ok (.iload 8, 2) := by decide +kernel
theorem dX4_write_148 : decode cX4_write 148 = .ok (.iconst 1, 1) := by decide +kernel
theorem dX4_write_149 : decode cX4_write 149 = .ok (.bastore, 1) := by decide +kernel
theorem dX4_write_150 : decode cX4_write 150 = .ok (.aload_n 0, 1) := by decide +kernel
theorem dX4_write_151 : decode cX4_write 151 = .ok (.iload_n 2, 1) := by decide +kernel
theorem dX4_write_152 : decode cX4_write 152 = .ok (.invokevirtual 114, 3) := by decide +kernel
theorem dX4_write_155 : decode cX4_write 155 = .ok (.bipush 16, 2) := by decide +kernel
theorem dX4_write_157 : decode cX4_write 157 = .ok (.if_icmp .ne 10, 3) := by decide +kernel
theorem dX4_write_160 : decode cX4_write 160 = .ok (.bipush (-7), 2) := by decide +kernel
theorem dX4_write_162 : decode cX4_write 162 = .ok (.istore 7, 2) := by decide +kernel
theorem dX4_write_164 : decode cX4_write 164 = .ok (.goto 87, 3) := by decide +kernel
theorem dX4_write_167 : decode cX4_write 167 = .ok (.aload_n 0, 1) := by decide +kernel
theorem dX4_write_168 : decode cX4_write 168 = .ok (.getfield 48, 3) := by decide +kernel
theorem dX4_write_171 : decode cX4_write 171 = .ok (.iload_n 2, 1) := by decide +kernel
theorem dX4_write_172 : decode cX4_write 172 = .ok (.laload, 1) := by decide +kernel
theorem dX4_write_173 : decode cX4_write 173 = .ok (.lstore 9, 2) := by decide +kernel
theorem dX4_write_175 : decode cX4_write 175 = .ok (.aload_n 0, 1) := by decide +kernel
theorem dX4_write_176 : decode cX4_write 176 = .ok (.iload_n 2, 1) := by decide +kernel
theorem dX4_write_177 : decode cX4_write 177 = .ok (.lconst 0, 1) := by decide +kernel
theorem dX4_write_178 : decode cX4_write 178 = .ok (.ldc2_w 117, 3) := by decide +kernel
theorem dX4_write_181 : decode cX4_write 181 = .ok (.invokevirtual 105, 3) := by decide +kernel
theorem dX4_write_184 : decode cX4_write 184 = .ok (.istore 11, 2) := by decide +kernel
theorem dX4_write_186 : decode cX4_write 186 = .ok (.iload 11, 2) := by decide +kernel
theorem dX4_write_188 : decode cX4_write 188 = .ok (.ifCond .lt 25, 3) := by decide +kernel
theorem dX4_write_191 : decode cX4_write 191 = .ok (.aload_n 0, 1) := by decide +kernel
theorem dX4_write_192 : decode cX4_write 192 = .ok (.getfield 60, 3) := by decide +kernel
theorem dX4_write_195 : decode cX4_write 195 = .ok (.iload 11, 2) := by decide +kernel
theorem dX4_write_197 : decode cX4_write 197 = .ok (.laload, 1) := by decide +kernel
theorem dX4_write_198 : decode cX4_write 198 = .ok (.lload 9, 2) := by decide +kernel
theorem dX4_write_200 : decode cX4_write 200 = .ok (.lcmp, 1) := by decide +kernel
theorem dX4_write_201 : decode cX4_write 201 = .ok (.ifCond .le 12, 3) := by decide +kernel
theorem dX4_write_204 : decode cX4_write 204 = .ok (.aload_n 0, 1) := by decide +kernel
theorem dX4_write_205 : decode cX4_write 205 = .ok (.getfield 60, 3) := by decide +kernel
theorem dX4_write_208 : decode cX4_write 208 = .ok (.iload 11, 2) := by decide +kernel
theorem dX4_write_210 : decode cX4_write 210 = .ok (.laload, 1) := by decide +kernel
theorem dX4_write_211 : decode cX4_write 211 = .ok (.lstore 9, 2) := by decide +kernel
theorem dX4_write_213 : decode cX4_write 213 = .ok (.aload_n 0, 1) := by decide +kernel
theorem dX4_write_214 : decode cX4_write 214 = .ok (.getfield 32, 3) := by decide +kernel
theorem dX4_write_217 : decode cX4_write 217 = .ok (.iload_n 1, 1) := by decide +kernel
theorem dX4_write_218 : decode cX4_write 218 = .ok (.laload, 1) := by decide +kernel
theorem dX4_write_219 : decode cX4_write 219 = .ok (.lload 9, 2) := by decide +kernel
theorem dX4_write_221 : decode cX4_write 221 = .ok (.lcmp, 1) := by decide +kernel
theorem dX4_write_222 : decode cX4_write 222 = .ok (.ifCond .gt 13, 3) := by decide +kernel
theorem dX4_write_225 : decode cX4_write 225 = .ok (.aload_n 0, 1) := by decide +kernel
theorem dX4_write_226 : decode cX4_write 226 = .ok (.getfield 32, 3) := by decide +kernel
theorem dX4_write_229 : decode cX4_write 229 = .ok (.iload_n 1, 1) := by decide +kernel
theorem dX4_write_230 : decode cX4_write 230 = .ok (.lload 9, 2) := by decide +kernel
theorem dX4_write_232 : decode cX4_write 232 = .ok (.lconst 1, 1) := by decide +kernel
theorem dX4_write_233 : decode cX4_write 233 = .ok (.ladd, 1) := by decide +kernel
theorem dX4_write_234 : decode cX4_write 234 = .ok (.lastore, 1) := by decide +kernel
theorem dX4_write_235 : decode cX4_write 235 = .ok (.aload_n 0, 1) := by decide +kernel
theorem dX4_write_236 : decode cX4_write 236 = .ok (.getfield 51, 3) := by decide +kernel
theorem dX4_write_239 : decode cX4_write 239 = .ok (.iload_n 2, 1) := by decide +kernel
theorem dX4_write_240 : decode cX4_write 240 = .ok (.iload_n 1, 1) := by decide +kernel
theorem dX4_write_241 : decode cX4_write 241 = .ok (.iconst 1, 1) := by decide +kernel
theorem dX4_write_242 : decode cX4_write 242 = .ok (.iadd, 1) := by decide +kernel
theorem dX4_write_243 : decode cX4_write 243 = .ok (.iastore, 1) := by decide +kernel
theorem dX4_write_244 : decode cX4_write 244 = .ok (.aload_n 0, 1) := by decide +kernel
theorem dX4_write_245 : decode cX4_write 245 = .ok (.getfield 54, 3) := by decide +kernel
theorem dX4_write_248 : decode cX4_write 248 = .ok (.iload_n 2, 1) := by decide +kernel
theorem dX4_write_249 : decode cX4_write 249 = .ok (.iload_n 3, 1) := by decide +kernel
theorem dX4_write_250 : decode cX4_write 250 = .ok (.iastore, 1) := by decide +kernel
theorem dX4_write_251 : decode cX4_write 251 = .ok (.aload_n 0, 1) := by decide +kernel
theorem dX4_write_252 : decode cX4_write 252 = .ok (.iload 5, 2) := by decide +kernel
theorem dX4_write_254 : decode cX4_write 254 = .ok (.aload_n 0, 1) := by decide +kernel
theorem dX4_write_255 : decode cX4_write 255 = .ok (.getfield 13, 3) := by decide +kernel
theorem dX4_write_258 : decode cX4_write 258 = .ok (.iload 6, 2) := by decide +kernel
theorem dX4_write_260 : decode cX4_write 260 = .ok (.laload, 1) := by decide +kernel
theorem dX4_write_261 : decode cX4_write 261 = .ok (.invokevirtual 66, 3) := by decide +kernel
theorem dX4_write_264 : decode cX4_write 264 = .ok (.iload 7, 2) := by decide +kernel
theorem dX4_write_266 : decode cX4_write 266 = .ok (.ireturn, 1) := by decide +kernel
set_option maxRecDepth 20000 in
theorem ggX4_commit_X4_stopped : GoodIn wsX4_commit wsX4_stopped := goodIn_r _ [15, 16, 17, 18, 19, 14, 20, 8, 53, 54, 55, 56, 57, 58, 59, 60, 61, 62, 63, 64, 65, 66, 67, 68, 69, 70, 71, 72, 73] (by decide +kernel) (by decide +kernel)
set_option maxRecDepth 20000 in
theorem gX4_commit_X4_stopped : GoodIn wsX4_commit (wsV RX4 97 RX4 yX4_stopped wsX4_stopped) := goodIn_app (goodIn_of _ (by decide +kernel)) ggX4_commit_X4_stopped
set_option maxRecDepth 20000 in
theorem ggX4_commit_X4_event : GoodIn wsX4_commit wsX4_event := goodIn_r _ [24, 5, 25, 26, 27, 14, 28, 29, 53, 54, 55, 56, 57, 58, 59, 60, 61, 62, 63, 64, 65, 66, 67, 68, 69, 70, 71, 72, 73] (by decide +kernel) (by decide +kernel)
set_option maxRecDepth 20000 in
theorem gX4_commit_X4_event : GoodIn wsX4_commit (wsV RX4 72 RX4 yX4_event wsX4_event) := goodIn_app (goodIn_of _ (by decide +kernel)) ggX4_commit_X4_event
set_option maxRecDepth 20000 in
theorem ggX4_commit_X4_receive : GoodIn wsX4_commit wsX4_receive := goodIn_r _ [28, 5, 29, 53, 54, 55, 56, 57, 58, 59, 60, 61, 62, 63, 64, 65, 66, 67, 68, 69, 70, 71, 72, 73] (by decide +kernel) (by decide +kernel)
set_option maxRecDepth 20000 in
theorem gX4_commit_X4_receive : GoodIn wsX4_commit (wsV RX4 66 RX4 yX4_receive wsX4_receive) := goodIn_app (goodIn_of _ (by decide +kernel)) ggX4_commit_X4_receive
set_option maxRecDepth 20000 in
theorem ggX4_commit_X4_meet : GoodIn wsX4_commit wsX4_meet := goodIn_r _ [33, 6, 1, 5, 8, 29, 34, 25, 26, 27, 14, 28, 35, 36, 37, 38, 39, 40, 41, 2, 42, 43, 53, 54, 55, 56, 57, 58, 59, 60, 61, 62, 63, 64, 65, 66, 67, 68, 69, 70, 71, 72, 73] (by decide +kernel) (by decide +kernel)
set_option maxRecDepth 20000 in
theorem gX4_commit_X4_meet : GoodIn wsX4_commit (wsV RX4 102 RX4 yX4_meet wsX4_meet) := goodIn_app (goodIn_of _ (by decide +kernel)) ggX4_commit_X4_meet
set_option maxRecDepth 20000 in
theorem ggX4_commit_X4_find : GoodIn wsX4_commit wsX4_find := goodIn_r _ [47, 40, 39, 41, 53, 54, 55, 56, 57, 58, 59, 60, 61, 62, 63, 64, 65, 66, 67, 68, 69, 70, 71, 72, 73] (by decide +kernel) (by decide +kernel)
set_option maxRecDepth 20000 in
theorem gX4_commit_X4_find : GoodIn wsX4_commit (wsV RX4 105 RX4 yX4_find wsX4_find) := goodIn_app (goodIn_of _ (by decide +kernel)) ggX4_commit_X4_find
set_option maxRecDepth 20000 in
theorem ggX4_commit_X4_restart : GoodIn wsX4_commit wsX4_restart := goodIn_r _ [51, 6, 4, 2, 3, 52, 53, 54, 55, 56, 57, 58, 59, 60, 61, 62, 63, 64, 65, 66, 67, 68, 69, 70, 71, 72, 73] (by decide +kernel) (by decide +kernel)
set_option maxRecDepth 20000 in
theorem gX4_commit_X4_restart : GoodIn wsX4_commit (wsV RX4 109 RX4 yX4_restart wsX4_restart) := goodIn_app (goodIn_of _ (by decide +kernel)) ggX4_commit_X4_restart
theorem dX4_commit_0 : decode cX4_commit 0 = .ok (.aload_n 0, 1) := by decide +kernel
theorem dX4_commit_1 : decode cX4_commit 1 = .ok (.iload_n 1, 1) := by decide +kernel
theorem dX4_commit_2 : decode cX4_commit 2 = .ok (.invokevirtual 97, 3) := by decide +kernel
theorem dX4_commit_5 : decode cX4_commit 5 = .ok (.istore_n 2, 1) := by decide +kernel
theorem dX4_commit_6 : decode cX4_commit 6 = .ok (.iload_n 2, 1) := by decide +kernel
theorem dX4_commit_7 : decode cX4_commit 7 = .ok (.ifCond .eq 5, 3) := by decide +kernel
theorem dX4_commit_10 : decode cX4_commit 10 = .ok (.iload_n 2, 1) := by decide +kernel
theorem dX4_commit_11 : decode cX4_commit 11 = .ok (.ireturn, 1) := by decide +kernel
theorem dX4_commit_12 : decode cX4_commit 12 = .ok (.aload_n 0, 1) := by decide +kernel
theorem dX4_commit_13 : decode cX4_commit 13 = .ok (.getfield 20, 3) := by decide +kernel
theorem dX4_commit_16 : decode cX4_commit 16 = .ok (.iload_n 1, 1) := by decide +kernel
theorem dX4_commit_17 : decode cX4_commit 17 = .ok (.iaload, 1) := by decide +kernel
theorem dX4_commit_18 : decode cX4_commit 18 = .ok (.istore_n 3, 1) := by decide +kernel
theorem dX4_commit_19 : decode cX4_commit 19 = .ok (.aload_n 0, 1) := by decide +kernel
theorem dX4_commit_20 : decode cX4_commit 20 = .ok (.iload_n 3, 1) := by decide +kernel
theorem dX4_commit_21 : decode cX4_commit 21 = .ok (.invokevirtual 72, 3) := by decide +kernel
theorem dX4_commit_24 : decode cX4_commit 24 = .ok (.aload_n 0, 1) := by decide +kernel
theorem dX4_commit_25 : decode cX4_commit 25 = .ok (.getfield 32, 3) := by decide +kernel
theorem dX4_commit_28 : decode cX4_commit 28 = .ok (.iload_n 1, 1) := by decide +kernel
theorem dX4_commit_29 : decode cX4_commit 29 = .ok (.laload, 1) := by decide +kernel
theorem dX4_commit_30 : decode cX4_commit 30 = .ok (.aload_n 0, 1) := by decide +kernel
theorem dX4_commit_31 : decode cX4_commit 31 = .ok (.getfield 29, 3) := by decide +kernel
theorem dX4_commit_34 : decode cX4_commit 34 = .ok (.iload_n 1, 1) := by decide +kernel
theorem dX4_commit_35 : decode cX4_commit 35 = .ok (.laload, 1) := by decide +kernel
theorem dX4_commit_36 : decode cX4_commit 36 = .ok (.lcmp, 1) := by decide +kernel
theorem dX4_commit_37 : decode cX4_commit 37 = .ok (.ifCond .le 201, 3) := by decide +kernel
theorem dX4_commit_40 : decode cX4_commit 40 = .ok (.iconst 0, 1) := by decide +kernel
theorem dX4_commit_41 : decode cX4_commit 41 = .ok (.istore 4, 2) := by decide +kernel
theorem dX4_commit_43 : decode cX4_commit 43 = .ok (.iload 4, 2) := by decide +kernel
theorem dX4_commit_45 : decode cX4_commit 45 = .ok (.bipush 16, 2) := by decide +kernel
theorem dX4_commit_47 : decode cX4_commit 47 = .ok (.if_icmp .ge 191, 3) := by decide +kernel
theorem dX4_commit_50 : decode cX4_commit 50 = .ok (.aload_n 0, 1) := by decide +kernel
theorem dX4_commit_51 : decode cX4_commit 51 = .ok (.getfield 42, 3) := by decide +kernel
theorem dX4_commit_54 : decode cX4_commit 54 = .ok (.iload_n 1, 1) := by decide +kernel
theorem dX4_commit_55 : decode cX4_commit 55 = .ok (.bipush 16, 2) := by decide +kernel
theorem dX4_commit_57 : decode cX4_commit 57 = .ok (.imul, 1) := by decide +kernel
theorem dX4_commit_58 : decode cX4_commit 58 = .ok (.iload 4, 2) := by decide +kernel
theorem dX4_commit_60 : decode cX4_commit 60 = .ok (.iadd, 1) := by decide +kernel
theorem dX4_commit_61 : decode cX4_commit 61 = .ok (.baload, 1) := by decide +kernel
theorem dX4_commit_62 : decode cX4_commit 62 = .ok (.ifCond .ne 6, 3) := by decide +kernel
theorem dX4_commit_65 : decode cX4_commit 65 = .ok (.goto 167, 3) := by decide +kernel
theorem dX4_commit_68 : decode cX4_commit 68 = .ok (.iload 4, 2) := by decide +kernel
theorem dX4_commit_70 : decode cX4_commit 70 = .ok (.iconst 3, 1) := by decide +kernel
theorem dX4_commit_71 : decode cX4_commit 71 = .ok (.iand, 1) := by decide +kernel
theorem dX4_commit_72 : decode cX4_commit 72 = .ok (.istore 5, 2) := by decide +kernel
theorem dX4_commit_74 : decode cX4_commit 74 = .ok (.aload_n 0, 1) := by decide +kernel
theorem dX4_commit_75 : decode cX4_commit 75 = .ok (.iload 5, 2) := by decide +kernel
theorem dX4_commit_77 : decode cX4_commit 77 = .ok (.aload_n 0, 1) := by decide +kernel
theorem dX4_commit_78 : decode cX4_commit 78 = .ok (.getfield 13, 3) := by decide +kernel
theorem dX4_commit_81 : decode cX4_commit 81 = .ok (.iload_n 3, 1) := by decide +kernel
theorem dX4_commit_82 : decode cX4_commit 82 = .ok (.laload, 1) := by decide +kernel
theorem dX4_commit_83 : decode cX4_commit 83 = .ok (.invokevirtual 66, 3) := by decide +kernel
theorem dX4_commit_86 : decode cX4_commit 86 = .ok (.aload_n 0, 1) := by decide +kernel
theorem dX4_commit_87 : decode cX4_commit 87 = .ok (.getfield 51, 3) := by decide +kernel
theorem dX4_commit_90 : decode cX4_commit 90 = .ok (.iload 4, 2) := by decide +kernel
theorem dX4_commit_92 : decode cX4_commit 92 = .ok (.iaload, 1) := by decide +kernel
theorem dX4_commit_93 : decode cX4_commit 93 = .ok (.iload_n 1, 1) := by decide +kernel
theorem dX4_commit_94 : decode cX4_commit 94 = .ok (.iconst 1, 1) := by decide +kernel
theorem dX4_commit_95 : decode cX4_commit 95 = .ok (.iadd, 1) := by decide +kernel
theorem dX4_commit_96 : decode cX4_commit 96 = .ok (.if_icmp .eq 48, 3) := by decide +kernel
theorem dX4_commit_99 : decode cX4_commit 99 = .ok (.aload_n 0, 1) := by decide +kernel
theorem dX4_commit_100 : decode cX4_commit 100 = .ok (.iload 4, 2) := by decide +kernel
theorem dX4_commit_102 : decode cX4_commit 102 = .ok (.invokevirtual 102, 3) := by decide +kernel
theorem dX4_commit_105 : decode cX4_commit 105 = .ok (.istore 6, 2) := by decide +kernel
theorem dX4_commit_107 : decode cX4_commit 107 = .ok (.iload 6, 2) := by decide +kernel
theorem dX4_commit_109 : decode cX4_commit 109 = .ok (.ifCond .lt 35, 3) := by decide +kernel
theorem dX4_commit_112 : decode cX4_commit 112 = .ok (.aload_n 0, 1) := by decide +kernel
theorem dX4_commit_113 : decode cX4_commit 113 = .ok (.getfield 32, 3) := by decide +kernel
theorem dX4_commit_116 : decode cX4_commit 116 = .ok (.iload 6, 2) := by decide +kernel
theorem dX4_commit_118 : decode cX4_commit 118 = .ok (.laload, 1) := by decide +kernel
theorem dX4_commit_119 : decode cX4_commit 119 = .ok (.aload_n 0, 1) := by decide +kernel
theorem dX4_commit_120 : decode cX4_commit 120 = .ok (.getfield 32, 3) := by decide +kernel
theorem dX4_commit_123 : decode cX4_commit 123 = .ok (.iload_n 1, 1) := by decide +kernel
theorem dX4_commit_124 : decode cX4_commit 124 = .ok (.laload, 1) := by decide +kernel
theorem dX4_commit_125 : decode cX4_commit 125 = .ok (.lcmp, 1) := by decide +kernel
theorem dX4_commit_126 : decode cX4_commit 126 = .ok (.ifCond .gt 18, 3) := by decide +kernel
theorem dX4_commit_129 : decode cX4_commit 129 = .ok (.aload_n 0, 1) := by decide +kernel
theorem dX4_commit_130 : decode cX4_commit 130 = .ok (.getfield 32, 3) := by decide +kernel
theorem dX4_commit_133 : decode cX4_commit 133 = .ok (.iload 6, 2) := by decide +kernel
theorem dX4_commit_135 : decode cX4_commit 135 = .ok (.aload_n 0, 1) := by decide +kernel
theorem dX4_commit_136 : decode cX4_commit 136 = .ok (.getfield 32, 3) := by decide +kernel
theorem dX4_commit_139 : decode cX4_commit 139 = .ok (.iload_n 1, 1) := by decide +kernel
theorem dX4_commit_140 : decode cX4_commit 140 = .ok (.laload, 1) := by decide +kernel
theorem dX4_commit_141 : decode cX4_commit 141 = .ok (.lconst 1, 1) := by decide +kernel
theorem dX4_commit_142 : decode cX4_commit 142 = .ok (.ladd, 1) := by decide +kernel
theorem dX4_commit_143 : decode cX4_commit 143 = .ok (.lastore, 1) := by decide +kernel
theorem dX4_commit_144 : decode cX4_commit 144 = .ok (.aload_n 0, 1) := by decide +kernel
theorem dX4_commit_145 : decode cX4_commit 145 = .ok (.iload 4, 2) := by decide +kernel
theorem dX4_commit_147 : decode cX4_commit 147 = .ok (.aload_n 0, 1) := by decide +kernel
theorem dX4_commit_148 : decode cX4_commit 148 = .ok (.getfield 29, 3) := by decide +kernel
theorem dX4_commit_151 : decode cX4_commit 151 = .ok (.iload_n 1, 1) := by decide +kernel
theorem dX4_commit_152 : decode cX4_commit 152 = .ok (.laload, 1) := by decide +kernel
theorem dX4_commit_153 : decode cX4_commit 153 = .ok (.aload_n 0, 1) := by decide +kernel
theorem dX4_commit_154 : decode cX4_commit 154 = .ok (.getfield 32, 3) := by decide +kernel
theorem dX4_commit_157 : decode cX4_commit 157 = .ok (.iload_n 1, 1) := by decide +kernel
theorem dX4_commit_158 : decode cX4_commit 158 = .ok (.laload, 1) := by decide +kernel
theorem dX4_commit_159 : decode cX4_commit 159 = .ok (.invokevirtual 105, 3) := by decide +kernel
theorem dX4_commit_162 : decode cX4_commit 162 = .ok (.ifCond .lt 7, 3) := by decide +kernel
theorem dX4_commit_165 : decode cX4_commit 165 = .ok (.iconst 1, 1) := by decide +kernel
theorem dX4_commit_166 : decode cX4_commit 166 = .ok (.goto 4, 3) := by decide +kernel
theorem dX4_commit_169 : decode cX4_commit 169 = .ok (.iconst 0, 1) := by decide +kernel
theorem dX4_commit_170 : decode cX4_commit 170 = .ok (.istore 6, 2) := by decide +kernel
theorem dX4_commit_172 : decode cX4_commit 172 = .ok (.iload 6, 2) := by decide +kernel
theorem dX4_commit_174 : decode cX4_commit 174 = .ok (.ifCond .ne 33, 3) := by decide +kernel
theorem dX4_commit_177 : decode cX4_commit 177 = .ok (.aload_n 0, 1) := by decide +kernel
theorem dX4_commit_178 : decode cX4_commit 178 = .ok (.getfield 48, 3) := by decide +kernel
theorem dX4_commit_181 : decode cX4_commit 181 = .ok (.iload 4, 2) := by decide +kernel
theorem dX4_commit_183 : decode cX4_commit 183 = .ok (.laload, 1) := by decide +kernel
theorem dX4_commit_184 : decode cX4_commit 184 = .ok (.aload_n 0, 1) := by decide +kernel
theorem dX4_commit_185 : decode cX4_commit 185 = .ok (.getfield 32, 3) := by decide +kernel
theorem dX4_commit_188 : decode cX4_commit 188 = .ok (.iload_n 1, 1) := by decide +kernel
theorem dX4_commit_189 : decode cX4_commit 189 = .ok (.laload, 1) := by decide +kernel
theorem dX4_commit_190 : decode cX4_commit 190 = .ok (.lcmp, 1) := by decide +kernel
theorem dX4_commit_191 : decode cX4_commit 191 = .ok (.ifCond .ge 16, 3) := by decide +kernel
theorem dX4_commit_194 : decode cX4_commit 194 = .ok (.aload_n 0, 1) := by decide +kernel
theorem dX4_commit_195 : decode cX4_commit 195 = .ok (.getfield 48, 3) := by decide +kernel
theorem dX4_commit_198 : decode cX4_commit 198 = .ok (.iload 4, 2) := by decide +kernel
theorem dX4_commit_200 : decode cX4_commit 200 = .ok (.aload_n 0, 1) := by decide +kernel
theorem dX4_commit_201 : decode cX4_commit 201 = .ok (.getfield 32, 3) := by decide +kernel
theorem dX4_commit_204 : decode cX4_commit 204 = .ok (.iload_n 1, 1) := by decide +kernel
theorem dX4_commit_205 : decode cX4_commit 205 = .ok (.laload, 1) := by decide +kernel
theorem dX4_commit_206 : decode cX4_commit 206 = .ok (.lastore, 1) := by decide +kernel
theorem dX4_commit_207 : decode cX4_commit 207 = .ok (.aload_n 0, 1) := by decide +kernel
theorem dX4_commit_208 : decode cX4_commit 208 = .ok (.iload_n 3, 1) := by decide +kernel
theorem dX4_commit_209 : decode cX4_commit 209 = .ok (.aload_n 0, 1) := by decide +kernel
theorem dX4_commit_210 : decode cX4_commit 210 = .ok (.getfield 13, 3) := by decide +kernel
theorem dX4_commit_213 : decode cX4_commit 213 = .ok (.iload 5, 2) := by decide +kernel
theorem dX4_commit_215 : decode cX4_commit 215 = .ok (.laload, 1) := by decide +kernel
theorem dX4_commit_216 : decode cX4_commit 216 = .ok (.invokevirtual 66, 3) := by decide +kernel
theorem dX4_commit_219 : decode cX4_commit 219 = .ok (.iload 6, 2) := by decide +kernel
theorem dX4_commit_221 : decode cX4_commit 221 = .ok (.ifCond .eq 11, 3) := by decide +kernel
theorem dX4_commit_224 : decode cX4_commit 224 = .ok (.aload_n 0, 1) := by decide +kernel
theorem dX4_commit_225 : decode cX4_commit 225 = .ok (.iload_n 1, 1) := by decide +kernel
theorem dX4_commit_226 : decode cX4_commit 226 = .ok (.lconst 0, 1) := by decide +kernel
theorem dX4_commit_227 : decode cX4_commit 227 = .ok (.invokevirtual 109, 3) := by decide +kernel
theorem dX4_commit_230 : decode cX4_commit 230 = .ok (.iconst 1, 1) := by decide +kernel
theorem dX4_commit_231 : decode cX4_commit 231 = .ok (.ireturn, 1) := by decide +kernel
theorem dX4_commit_232 : decode cX4_commit 232 = .ok (.iinc 4 1, 3) := by decide +kernel
theorem dX4_commit_235 : decode cX4_commit 235 = .ok (.goto (-192), 3) := by decide +kernel
theorem dX4_commit_238 : decode cX4_commit 238 = .ok (.aload_n 0, 1) := by decide +kernel
theorem dX4_commit_239 : decode cX4_commit 239 = .ok (.getfield 29, 3) := by decide +kernel
theorem dX4_commit_242 : decode cX4_commit 242 = .ok (.iload_n 1, 1) := by decide +kernel
theorem dX4_commit_243 : decode cX4_commit 243 = .ok (.aload_n 0, 1) := by decide +kernel
theorem dX4_commit_244 : decode cX4_commit 244 = .ok (.getfield 32, 3) := by decide +kernel
theorem dX4_commit_247 : decode cX4_commit 247 = .ok (.iload_n 1, 1) := by decide +kernel
theorem dX4_commit_248 : decode cX4_commit 248 = .ok (.laload, 1) := by decide +kernel
theorem dX4_commit_249 : decode cX4_commit 249 = .ok (.lastore, 1) := by decide +kernel
theorem dX4_commit_250 : decode cX4_commit 250 = .ok (.aload_n 0, 1) := by decide +kernel
theorem dX4_commit_251 : decode cX4_commit 251 = .ok (.getfield 17, 3) := by decide +kernel
theorem dX4_commit_254 : decode cX4_commit 254 = .ok (.iload_n 1, 1) := by decide +kernel
theorem dX4_commit_255 : decode cX4_commit 255 = .ok (.iconst 2, 1) := by decide +kernel
theorem dX4_commit_256 : decode cX4_commit 256 = .ok (.iastore, 1) := by decide +kernel
theorem dX4_commit_257 : decode cX4_commit 257 = .ok (.aload_n 0, 1) := by decide +kernel
theorem dX4_commit_258 : decode cX4_commit 258 = .ok (.getfield 45, 3) := by decide +kernel
theorem dX4_commit_261 : decode cX4_commit 261 = .ok (.aload_n 0, 1) := by decide +kernel
theorem dX4_commit_262 : decode cX4_commit 262 = .ok (.getfield 119, 3) := by decide +kernel
theorem dX4_commit_265 : decode cX4_commit 265 = .ok (.aload_n 0, 1) := by decide +kernel
theorem dX4_commit_266 : decode cX4_commit 266 = .ok (.getfield 32, 3) := by decide +kernel
theorem dX4_commit_269 : decode cX4_commit 269 = .ok (.iload_n 1, 1) := by decide +kernel
theorem dX4_commit_270 : decode cX4_commit 270 = .ok (.laload, 1) := by decide +kernel
theorem dX4_commit_271 : decode cX4_commit 271 = .ok (.lastore, 1) := by decide +kernel
theorem dX4_commit_272 : decode cX4_commit 272 = .ok (.aload_n 0, 1) := by decide +kernel
theorem dX4_commit_273 : decode cX4_commit 273 = .ok (.aload_n 0, 1) := by decide +kernel
theorem dX4_commit_274 : decode cX4_commit 274 = .ok (.getfield 119, 3) := by decide +kernel
theorem dX4_commit_277 : decode cX4_commit 277 = .ok (.iconst 1, 1) := by decide +kernel
theorem dX4_commit_278 : decode cX4_commit 278 = .ok (.iadd, 1) := by decide +kernel
theorem dX4_commit_279 : decode cX4_commit 279 = .ok (.putfield 119, 3) := by decide +kernel
theorem dX4_commit_282 : decode cX4_commit 282 = .ok (.iconst 0, 1) := by decide +kernel
theorem dX4_commit_283 : decode cX4_commit 283 = .ok (.ireturn, 1) := by decide +kernel
set_option maxRecDepth 20000 in
theorem ggX4_abort_X4_refused : GoodIn wsX4_abort wsX4_refused := goodIn_r _ [6, 1, 7, 8, 9, 10, 11, 12, 13, 14, 15, 16, 17, 18, 19, 20, 21, 22, 23, 24, 25, 26, 27] (by decide +kernel) (by decide +kernel)
set_option maxRecDepth 20000 in
theorem gX4_abort_X4_refused : GoodIn wsX4_abort (wsV RX4 91 RX4 yX4_refused wsX4_refused) := goodIn_app (goodIn_of _ (by decide +kernel)) ggX4_abort_X4_refused
theorem dX4_abort_0 : decode cX4_abort 0 = .ok (.aload_n 0, 1) := by decide +kernel
theorem dX4_abort_1 : decode cX4_abort 1 = .ok (.iload_n 1, 1) := by decide +kernel
theorem dX4_abort_2 : decode cX4_abort 2 = .ok (.invokevirtual 91, 3) := by decide +kernel
theorem dX4_abort_5 : decode cX4_abort 5 = .ok (.istore_n 2, 1) := by decide +kernel
theorem dX4_abort_6 : decode cX4_abort 6 = .ok (.iload_n 2, 1) := by decide +kernel
theorem dX4_abort_7 : decode cX4_abort 7 = .ok (.ifCond .eq 5, 3) := by decide +kernel
theorem dX4_abort_10 : decode cX4_abort 10 = .ok (.iload_n 2, 1) := by decide +kernel
theorem dX4_abort_11 : decode cX4_abort 11 = .ok (.ireturn, 1) := by decide +kernel
theorem dX4_abort_12 : decode cX4_abort 12 = .ok (.aload_n 0, 1) := by decide +kernel
theorem dX4_abort_13 : decode cX4_abort 13 = .ok (.getfield 17, 3) := by decide +kernel
theorem dX4_abort_16 : decode cX4_abort 16 = .ok (.iload_n 1, 1) := by decide +kernel
theorem dX4_abort_17 : decode cX4_abort 17 = .ok (.iconst 3, 1) := by decide +kernel
theorem dX4_abort_18 : decode cX4_abort 18 = .ok (.iastore, 1) := by decide +kernel
theorem dX4_abort_19 : decode cX4_abort 19 = .ok (.iconst 0, 1) := by decide +kernel
theorem dX4_abort_20 : decode cX4_abort 20 = .ok (.ireturn, 1) := by decide +kernel
set_option maxRecDepth 20000 in
theorem ggX4_heartbeat_X4_refused : GoodIn wsX4_heartbeat wsX4_refused := goodIn_r _ [8, 9, 19, 20, 21, 22, 23, 24, 25, 26, 27, 28, 29, 30, 31, 32, 33, 34, 35, 36, 37, 38, 39] (by decide +kernel) (by decide +kernel)
set_option maxRecDepth 20000 in
theorem gX4_heartbeat_X4_refused : GoodIn wsX4_heartbeat (wsV RX4 91 RX4 yX4_refused wsX4_refused) := goodIn_app (goodIn_of _ (by decide +kernel)) ggX4_heartbeat_X4_refused
set_option maxRecDepth 20000 in
theorem ggX4_heartbeat_X4_event : GoodIn wsX4_heartbeat wsX4_event := goodIn_r _ [13, 14, 15, 16, 17, 7, 18, 3, 19, 20, 21, 22, 23, 24, 25, 26, 27, 28, 29, 30, 31, 32, 33, 34, 35, 36, 37, 38, 39] (by decide +kernel) (by decide +kernel)
set_option maxRecDepth 20000 in
theorem gX4_heartbeat_X4_event : GoodIn wsX4_heartbeat (wsV RX4 72 RX4 yX4_event wsX4_event) := goodIn_app (goodIn_of _ (by decide +kernel)) ggX4_heartbeat_X4_event
theorem dX4_heartbeat_0 : decode cX4_heartbeat 0 = .ok (.aload_n 0, 1) := by decide +kernel
theorem dX4_heartbeat_1 : decode cX4_heartbeat 1 = .ok (.iload_n 1, 1) := by decide +kernel
theorem dX4_heartbeat_2 : decode cX4_heartbeat 2 = .ok (.invokevirtual 91, 3) := by decide +kernel
theorem dX4_heartbeat_5 : decode cX4_heartbeat 5 = .ok (.istore_n 2, 1) := by decide +kernel
theorem dX4_heartbeat_6 : decode cX4_heartbeat 6 = .ok (.iload_n 2, 1) := by decide +kernel
theorem dX4_heartbeat_7 : decode cX4_heartbeat 7 = .ok (.ifCond .eq 5, 3) := by decide +kernel
theorem dX4_heartbeat_10 : decode cX4_heartbeat 10 = .ok (.iload_n 2, 1) := by decide +kernel
theorem dX4_heartbeat_11 : decode cX4_heartbeat 11 = .ok (.ireturn, 1) := by decide +kernel
theorem dX4_heartbeat_12 : decode cX4_heartbeat 12 = .ok (.aload_n 0, 1) := by decide +kernel
theorem dX4_heartbeat_13 : decode cX4_heartbeat 13 = .ok (.aload_n 0, 1) := by decide +kernel
theorem dX4_heartbeat_14 : decode cX4_heartbeat 14 = .ok (.getfield 20, 3) := by decide +kernel
theorem dX4_heartbeat_17 : decode cX4_heartbeat 17 = .ok (.iload_n 1, 1) := by decide +kernel
theorem dX4_heartbeat_18 : decode cX4_heartbeat 18 = .ok (.iaload, 1) := by decide +kernel
theorem dX4_heartbeat_19 : decode cX4_heartbeat 19 = .ok (.invokevirtual 72, 3) := by decide +kernel
theorem dX4_heartbeat_22 : decode cX4_heartbeat 22 = .ok (.aload_n 0, 1) := by decide +kernel
theorem dX4_heartbeat_23 : decode cX4_heartbeat 23 = .ok (.getfield 23, 3) := by decide +kernel
theorem dX4_heartbeat_26 : decode cX4_heartbeat 26 = .ok (.iload_n 1, 1) := by decide +kernel
theorem dX4_heartbeat_27 : decode cX4_heartbeat 27 = .ok (.aload_n 0, 1) := by decide +kernel
theorem dX4_heartbeat_28 : decode cX4_heartbeat 28 = .ok (.getfield 7, 3) := by decide +kernel
theorem dX4_heartbeat_31 : decode cX4_heartbeat 31 = .ok (.aload_n 0, 1) := by decide +kernel
theorem dX4_heartbeat_32 : decode cX4_heartbeat 32 = .ok (.getfield 20, 3) := by decide +kernel
theorem dX4_heartbeat_35 : decode cX4_heartbeat 35 = .ok (.iload_n 1, 1) := by decide +kernel
theorem dX4_heartbeat_36 : decode cX4_heartbeat 36 = .ok (.iaload, 1) := by decide +kernel
theorem dX4_heartbeat_37 : decode cX4_heartbeat 37 = .ok (.iaload, 1) := by decide +kernel
theorem dX4_heartbeat_38 : decode cX4_heartbeat 38 = .ok (.iastore, 1) := by decide +kernel
theorem dX4_heartbeat_39 : decode cX4_heartbeat 39 = .ok (.iconst 0, 1) := by decide +kernel
theorem dX4_heartbeat_40 : decode cX4_heartbeat 40 = .ok (.ireturn, 1) := by decide +kernel
set_option maxRecDepth 20000 in
theorem ggX4_clean_X4_receive : GoodIn wsX4_clean wsX4_receive := goodIn_r _ [9, 3, 10, 21, 22, 23, 24, 25, 26, 27, 28, 29, 30, 31, 32, 33, 34, 35, 36, 37, 38, 39, 40, 41] (by decide +kernel) (by decide +kernel)
set_option maxRecDepth 20000 in
theorem gX4_clean_X4_receive : GoodIn wsX4_clean (wsV RX4 66 RX4 yX4_receive wsX4_receive) := goodIn_app (goodIn_of _ (by decide +kernel)) ggX4_clean_X4_receive
set_option maxRecDepth 20000 in
theorem ggX4_clean_X4_settle : GoodIn wsX4_clean wsX4_settle := goodIn_r _ [14, 2, 1, 15, 16, 17, 18, 19, 20, 21, 22, 23, 24, 25, 26, 27, 28, 29, 30, 31, 32, 33, 34, 35, 36, 37, 38, 39, 40, 41] (by decide +kernel) (by decide +kernel)
set_option maxRecDepth 20000 in
theorem gX4_clean_X4_settle : GoodIn wsX4_clean (wsV RX4 82 RX4 yX4_settle wsX4_settle) := goodIn_app (goodIn_of _ (by decide +kernel)) ggX4_clean_X4_settle
theorem dX4_clean_0 : decode cX4_clean 0 = .ok (.iload_n 1, 1) := by decide +kernel
theorem dX4_clean_1 : decode cX4_clean 1 = .ok (.ifCond .lt 9, 3) := by decide +kernel
theorem dX4_clean_4 : decode cX4_clean 4 = .ok (.iload_n 1, 1) := by decide +kernel
theorem dX4_clean_5 : decode cX4_clean 5 = .ok (.bipush 7, 2) := by decide +kernel
theorem dX4_clean_7 : decode cX4_clean 7 = .ok (.if_icmp .le 5, 3) := by decide +kernel
theorem dX4_clean_10 : decode cX4_clean 10 = .ok (.iconst (-1), 1) := by decide +kernel
theorem dX4_clean_11 : decode cX4_clean 11 = .ok (.ireturn, 1) := by decide +kernel
theorem dX4_clean_12 : decode cX4_clean 12 = .ok (.aload_n 0, 1) := by decide +kernel
theorem dX4_clean_13 : decode cX4_clean 13 = .ok (.getfield 17, 3) := by decide +kernel
theorem dX4_clean_16 : decode cX4_clean 16 = .ok (.iload_n 1, 1) := by decide +kernel
theorem dX4_clean_17 : decode cX4_clean 17 = .ok (.iaload, 1) := by decide +kernel
theorem dX4_clean_18 : decode cX4_clean 18 = .ok (.ifCond .ne 6, 3) := by decide +kernel
theorem dX4_clean_21 : decode cX4_clean 21 = .ok (.bipush (-4), 2) := by decide +kernel
theorem dX4_clean_23 : decode cX4_clean 23 = .ok (.ireturn, 1) := by decide +kernel
theorem dX4_clean_24 : decode cX4_clean 24 = .ok (.aload_n 0, 1) := by decide +kernel
theorem dX4_clean_25 : decode cX4_clean 25 = .ok (.getfield 17, 3) := by decide +kernel
theorem dX4_clean_28 : decode cX4_clean 28 = .ok (.iload_n 1, 1) := by decide +kernel
theorem dX4_clean_29 : decode cX4_clean 29 = .ok (.iaload, 1) := by decide +kernel
theorem dX4_clean_30 : decode cX4_clean 30 = .ok (.iconst 1, 1) := by decide +kernel
theorem dX4_clean_31 : decode cX4_clean 31 = .ok (.if_icmp .ne 6, 3) := by decide +kernel
theorem dX4_clean_34 : decode cX4_clean 34 = .ok (.bipush (-9), 2) := by decide +kernel
theorem dX4_clean_36 : decode cX4_clean 36 = .ok (.ireturn, 1) := by decide +kernel
theorem dX4_clean_37 : decode cX4_clean 37 = .ok (.iconst 0, 1) := by decide +kernel
theorem dX4_clean_38 : decode cX4_clean 38 = .ok (.istore_n 2, 1) := by decide +kernel
theorem dX4_clean_39 : decode cX4_clean 39 = .ok (.iload_n 2, 1) := by decide +kernel
theorem dX4_clean_40 : decode cX4_clean 40 = .ok (.bipush 16, 2) := by decide +kernel
theorem dX4_clean_42 : decode cX4_clean 42 = .ok (.if_icmp .ge 44, 3) := by decide +kernel
theorem dX4_clean_45 : decode cX4_clean 45 = .ok (.aload_n 0, 1) := by decide +kernel
theorem dX4_clean_46 : decode cX4_clean 46 = .ok (.getfield 51, 3) := by decide +kernel
theorem dX4_clean_49 : decode cX4_clean 49 = .ok (.iload_n 2, 1) := by decide +kernel
theorem dX4_clean_50 : decode cX4_clean 50 = .ok (.iaload, 1) := by decide +kernel
theorem dX4_clean_51 : decode cX4_clean 51 = .ok (.iload_n 1, 1) := by decide +kernel
theorem dX4_clean_52 : decode cX4_clean 52 = .ok (.iconst 1, 1) := by decide +kernel
theorem dX4_clean_53 : decode cX4_clean 53 = .ok (.iadd, 1) := by decide +kernel
theorem dX4_clean_54 : decode cX4_clean 54 = .ok (.if_icmp .ne 26, 3) := by decide +kernel
theorem dX4_clean_57 : decode cX4_clean 57 = .ok (.aload_n 0, 1) := by decide +kernel
theorem dX4_clean_58 : decode cX4_clean 58 = .ok (.iload_n 2, 1) := by decide +kernel
theorem dX4_clean_59 : decode cX4_clean 59 = .ok (.iconst 3, 1) := by decide +kernel
theorem dX4_clean_60 : decode cX4_clean 60 = .ok (.iand, 1) := by decide +kernel
theorem dX4_clean_61 : decode cX4_clean 61 = .ok (.aload_n 0, 1) := by decide +kernel
theorem dX4_clean_62 : decode cX4_clean 62 = .ok (.getfield 13, 3) := by decide +kernel
theorem dX4_clean_65 : decode cX4_clean 65 = .ok (.aload_n 0, 1) := by decide +kernel
theorem dX4_clean_66 : decode cX4_clean 66 = .ok (.getfield 20, 3) := by decide +kernel
theorem dX4_clean_69 : decode cX4_clean 69 = .ok (.iload_n 1, 1) := by decide +kernel
theorem dX4_clean_70 : decode cX4_clean 70 = .ok (.iaload, 1) := by decide +kernel
theorem dX4_clean_71 : decode cX4_clean 71 = .ok (.laload, 1) := by decide +kernel
theorem dX4_clean_72 : decode cX4_clean 72 = .ok (.invokevirtual 66, 3) := by decide +kernel
theorem dX4_clean_75 : decode cX4_clean 75 = .ok (.aload_n 0, 1) := by decide +kernel
theorem dX4_clean_76 : decode cX4_clean 76 = .ok (.iload_n 2, 1) := by decide +kernel
theorem dX4_clean_77 : decode cX4_clean 77 = .ok (.invokevirtual 82, 3) := by decide +kernel
theorem dX4_clean_80 : decode cX4_clean 80 = .ok (.iinc 2 1, 3) := by decide +kernel
theorem dX4_clean_83 : decode cX4_clean 83 = .ok (.goto (-44), 3) := by decide +kernel
theorem dX4_clean_86 : decode cX4_clean 86 = .ok (.aload_n 0, 1) := by decide +kernel
theorem dX4_clean_87 : decode cX4_clean 87 = .ok (.getfield 17, 3) := by decide +kernel
theorem dX4_clean_90 : decode cX4_clean 90 = .ok (.iload_n 1, 1) := by decide +kernel
theorem dX4_clean_91 : decode cX4_clean 91 = .ok (.iconst 0, 1) := by decide +kernel
theorem dX4_clean_92 : decode cX4_clean 92 = .ok (.iastore, 1) := by decide +kernel
theorem dX4_clean_93 : decode cX4_clean 93 = .ok (.iconst 0, 1) := by decide +kernel
theorem dX4_clean_94 : decode cX4_clean 94 = .ok (.ireturn, 1) := by decide +kernel
theorem dX4_state_0 : decode cX4_state 0 = .ok (.iload_n 1, 1) := by decide +kernel
theorem dX4_state_1 : decode cX4_state 1 = .ok (.ifCond .lt 9, 3) := by decide +kernel
theorem dX4_state_4 : decode cX4_state 4 = .ok (.iload_n 1, 1) := by decide +kernel
theorem dX4_state_5 : decode cX4_state 5 = .ok (.bipush 7, 2) := by decide +kernel
theorem dX4_state_7 : decode cX4_state 7 = .ok (.if_icmp .le 5, 3) := by decide +kernel
theorem dX4_state_10 : decode cX4_state 10 = .ok (.iconst (-1), 1) := by decide +kernel
theorem dX4_state_11 : decode cX4_state 11 = .ok (.ireturn, 1) := by decide +kernel
theorem dX4_state_12 : decode cX4_state 12 = .ok (.aload_n 0, 1) := by decide +kernel
theorem dX4_state_13 : decode cX4_state 13 = .ok (.getfield 17, 3) := by decide +kernel
theorem dX4_state_16 : decode cX4_state 16 = .ok (.iload_n 1, 1) := by decide +kernel
theorem dX4_state_17 : decode cX4_state 17 = .ok (.iaload, 1) := by decide +kernel
theorem dX4_state_18 : decode cX4_state 18 = .ok (.ireturn, 1) := by decide +kernel
theorem dX4_stamp_0 : decode cX4_stamp 0 = .ok (.iload_n 1, 1) := by decide +kernel
theorem dX4_stamp_1 : decode cX4_stamp 1 = .ok (.ifCond .lt 28, 3) := by decide +kernel
theorem dX4_stamp_4 : decode cX4_stamp 4 = .ok (.iload_n 1, 1) := by decide +kernel
theorem dX4_stamp_5 : decode cX4_stamp 5 = .ok (.bipush 7, 2) := by decide +kernel
theorem dX4_stamp_7 : decode cX4_stamp 7 = .ok (.if_icmp .gt 22, 3) := by decide +kernel
theorem dX4_stamp_10 : decode cX4_stamp 10 = .ok (.aload_n 0, 1) := by decide +kernel
theorem dX4_stamp_11 : decode cX4_stamp 11 = .ok (.getfield 17, 3) := by decide +kernel
theorem dX4_stamp_14 : decode cX4_stamp 14 = .ok (.iload_n 1, 1) := by decide +kernel
theorem dX4_stamp_15 : decode cX4_stamp 15 = .ok (.iaload, 1) := by decide +kernel
theorem dX4_stamp_16 : decode cX4_stamp 16 = .ok (.ifCond .eq 13, 3) := by decide +kernel
theorem dX4_stamp_19 : decode cX4_stamp 19 = .ok (.aload_n 0, 1) := by decide +kernel
theorem dX4_stamp_20 : decode cX4_stamp 20 = .ok (.getfield 17, 3) := by decide +kernel
theorem dX4_stamp_23 : decode cX4_stamp 23 = .ok (.iload_n 1, 1) := by decide +kernel
theorem dX4_stamp_24 : decode cX4_stamp 24 = .ok (.iaload, 1) := by decide +kernel
theorem dX4_stamp_25 : decode cX4_stamp 25 = .ok (.iconst 3, 1) := by decide +kernel
theorem dX4_stamp_26 : decode cX4_stamp 26 = .ok (.if_icmp .ne 7, 3) := by decide +kernel
theorem dX4_stamp_29 : decode cX4_stamp 29 = .ok (.ldc2_w 76, 3) := by decide +kernel
theorem dX4_stamp_32 : decode cX4_stamp 32 = .ok (.lreturn, 1) := by decide +kernel
theorem dX4_stamp_33 : decode cX4_stamp 33 = .ok (.aload_n 0, 1) := by decide +kernel
theorem dX4_stamp_34 : decode cX4_stamp 34 = .ok (.getfield 29, 3) := by decide +kernel
theorem dX4_stamp_37 : decode cX4_stamp 37 = .ok (.iload_n 1, 1) := by decide +kernel
theorem dX4_stamp_38 : decode cX4_stamp 38 = .ok (.laload, 1) := by decide +kernel
theorem dX4_stamp_39 : decode cX4_stamp 39 = .ok (.lreturn, 1) := by decide +kernel
theorem dX4_committed_0 : decode cX4_committed 0 = .ok (.iload_n 1, 1) := by decide +kernel
theorem dX4_committed_1 : decode cX4_committed 1 = .ok (.ifCond .lt 11, 3) := by decide +kernel
theorem dX4_committed_4 : decode cX4_committed 4 = .ok (.iload_n 1, 1) := by decide +kernel
theorem dX4_committed_5 : decode cX4_committed 5 = .ok (.aload_n 0, 1) := by decide +kernel
theorem dX4_committed_6 : decode cX4_committed 6 = .ok (.getfield 119, 3) := by decide +kernel
theorem dX4_committed_9 : decode cX4_committed 9 = .ok (.if_icmp .lt 7, 3) := by decide +kernel
theorem dX4_committed_12 : decode cX4_committed 12 = .ok (.ldc2_w 76, 3) := by decide +kernel
theorem dX4_committed_15 : decode cX4_committed 15 = .ok (.lreturn, 1) := by decide +kernel
theorem dX4_committed_16 : decode cX4_committed 16 = .ok (.aload_n 0, 1) := by decide +kernel
theorem dX4_committed_17 : decode cX4_committed 17 = .ok (.getfield 45, 3) := by decide +kernel
theorem dX4_committed_20 : decode cX4_committed 20 = .ok (.iload_n 1, 1) := by decide +kernel
theorem dX4_committed_21 : decode cX4_committed 21 = .ok (.laload, 1) := by decide +kernel
theorem dX4_committed_22 : decode cX4_committed 22 = .ok (.lreturn, 1) := by decide +kernel
theorem dJ9_max_f86c9_0 : decode cJ9_max_f86c9 0 = .ok (.lload_n 0, 1) := by decide +kernel
theorem dJ9_max_f86c9_1 : decode cJ9_max_f86c9 1 = .ok (.lload_n 2, 1) := by decide +kernel
theorem dJ9_max_f86c9_2 : decode cJ9_max_f86c9 2 = .ok (.lcmp, 1) := by decide +kernel
theorem dJ9_max_f86c9_3 : decode cJ9_max_f86c9 3 = .ok (.ifCond .lt 7, 3) := by decide +kernel
theorem dJ9_max_f86c9_6 : decode cJ9_max_f86c9 6 = .ok (.lload_n 0, 1) := by decide +kernel
theorem dJ9_max_f86c9_7 : decode cJ9_max_f86c9 7 = .ok (.goto 4, 3) := by decide +kernel
theorem dJ9_max_f86c9_10 : decode cJ9_max_f86c9 10 = .ok (.lload_n 2, 1) := by decide +kernel
theorem dJ9_max_f86c9_11 : decode cJ9_max_f86c9 11 = .ok (.lreturn, 1) := by decide +kernel
