theorem dX3_init_0 : decode cX3_init 0 = .ok (.aload_n 0, 1) := by decide +kernel
theorem dX3_init_1 : decode cX3_init 1 = .ok (.invokespecial 1, 3) := by decide +kernel
theorem dX3_init_4 : decode cX3_init 4 = .ok (.aload_n 0, 1) := by decide +kernel
theorem dX3_init_5 : decode cX3_init 5 = .ok (.iconst 4, 1) := by decide +kernel
theorem dX3_init_6 : decode cX3_init 6 = .ok (.anewarray 9, 3) := by decide +kernel
theorem dX3_init_9 : decode cX3_init 9 = .ok (.putfield 11, 3) := by decide +kernel
theorem dX3_init_12 : decode cX3_init 12 = .ok (.iconst 0, 1) := by decide +kernel
theorem dX3_init_13 : decode cX3_init 13 = .ok (.istore_n 1, 1) := by decide +kernel
theorem dX3_init_14 : decode cX3_init 14 = .ok (.iload_n 1, 1) := by decide +kernel
theorem dX3_init_15 : decode cX3_init 15 = .ok (.iconst 4, 1) := by decide +kernel
theorem dX3_init_16 : decode cX3_init 16 = .ok (.if_icmp .ge 22, 3) := by decide +kernel
theorem dX3_init_19 : decode cX3_init 19 = .ok (.aload_n 0, 1) := by decide +kernel
theorem dX3_init_20 : decode cX3_init 20 = .ok (.getfield 11, 3) := by decide +kernel
theorem dX3_init_23 : decode cX3_init 23 = .ok (.iload_n 1, 1) := by decide +kernel
theorem dX3_init_24 : decode cX3_init 24 = .ok (.new 9, 3) := by decide +kernel
theorem dX3_init_27 : decode cX3_init 27 = .ok (.dup, 1) := by decide +kernel
theorem dX3_init_28 : decode cX3_init 28 = .ok (.invokespecial 15, 3) := by decide +kernel
theorem dX3_init_31 : decode cX3_init 31 = .ok (.aastore, 1) := by decide +kernel
theorem dX3_init_32 : decode cX3_init 32 = .ok (.iinc 1 1, 3) := by decide +kernel
theorem dX3_init_35 : decode cX3_init 35 = .ok (.goto (-21), 3) := by decide +kernel
theorem dX3_init_38 : decode cX3_init 38 = .ok (.aload_n 0, 1) := by decide +kernel
theorem dX3_init_39 : decode cX3_init 39 = .ok (.bipush 16, 2) := by decide +kernel
theorem dX3_init_41 : decode cX3_init 41 = .ok (.anewarray 16, 3) := by decide +kernel
theorem dX3_init_44 : decode cX3_init 44 = .ok (.putfield 18, 3) := by decide +kernel
theorem dX3_init_47 : decode cX3_init 47 = .ok (.iconst 0, 1) := by decide +kernel
theorem dX3_init_48 : decode cX3_init 48 = .ok (.istore_n 1, 1) := by decide +kernel
theorem dX3_init_49 : decode cX3_init 49 = .ok (.iload_n 1, 1) := by decide +kernel
theorem dX3_init_50 : decode cX3_init 50 = .ok (.bipush 16, 2) := by decide +kernel
theorem dX3_init_52 : decode cX3_init 52 = .ok (.if_icmp .ge 33, 3) := by decide +kernel
theorem dX3_init_55 : decode cX3_init 55 = .ok (.aload_n 0, 1) := by decide +kernel
theorem dX3_init_56 : decode cX3_init 56 = .ok (.getfield 18, 3) := by decide +kernel
theorem dX3_init_59 : decode cX3_init 59 = .ok (.iload_n 1, 1) := by decide +kernel
theorem dX3_init_60 : decode cX3_init 60 = .ok (.new 16, 3) := by decide +kernel
theorem dX3_init_63 : decode cX3_init 63 = .ok (.dup, 1) := by decide +kernel
theorem dX3_init_64 : decode cX3_init 64 = .ok (.iconst 1, 1) := by decide +kernel
theorem dX3_init_65 : decode cX3_init 65 = .ok (.iload_n 1, 1) := by decide +kernel
theorem dX3_init_66 : decode cX3_init 66 = .ok (.ishl, 1) := by decide +kernel
theorem dX3_init_67 : decode cX3_init 67 = .ok (.aload_n 0, 1) := by decide +kernel
theorem dX3_init_68 : decode cX3_init 68 = .ok (.getfield 11, 3) := by decide +kernel
theorem dX3_init_71 : decode cX3_init 71 = .ok (.iload_n 1, 1) := by decide +kernel
theorem dX3_init_72 : decode cX3_init 72 = .ok (.iconst 4, 1) := by decide +kernel
theorem dX3_init_73 : decode cX3_init 73 = .ok (.irem, 1) := by decide +kernel
theorem dX3_init_74 : decode cX3_init 74 = .ok (.aaload, 1) := by decide +kernel
theorem dX3_init_75 : decode cX3_init 75 = .ok (.invokespecial 22, 3) := by decide +kernel
theorem dX3_init_78 : decode cX3_init 78 = .ok (.aastore, 1) := by decide +kernel
theorem dX3_init_79 : decode cX3_init 79 = .ok (.iinc 1 1, 3) := by decide +kernel
theorem dX3_init_82 : decode cX3_init 82 = .ok (.goto (-33), 3) := by decide +kernel
theorem dX3_init_85 : decode cX3_init 85 = .ok (.aload_n 0, 1) := by decide +kernel
theorem dX3_init_86 : decode cX3_init 86 = .ok (.bipush 8, 2) := by decide +kernel
theorem dX3_init_88 : decode cX3_init 88 = .ok (.anewarray 25, 3) := by decide +kernel
theorem dX3_init_91 : decode cX3_init 91 = .ok (.putfield 27, 3) := by decide +kernel
theorem dX3_init_94 : decode cX3_init 94 = .ok (.iconst 0, 1) := by decide +kernel
theorem dX3_init_95 : decode cX3_init 95 = .ok (.istore_n 1, 1) := by decide +kernel
theorem dX3_init_96 : decode cX3_init 96 = .ok (.iload_n 1, 1) := by decide +kernel
theorem dX3_init_97 : decode cX3_init 97 = .ok (.bipush 8, 2) := by decide +kernel
theorem dX3_init_99 : decode cX3_init 99 = .ok (.if_icmp .ge 28, 3) := by decide +kernel
theorem dX3_init_102 : decode cX3_init 102 = .ok (.aload_n 0, 1) := by decide +kernel
theorem dX3_init_103 : decode cX3_init 103 = .ok (.getfield 27, 3) := by decide +kernel
theorem dX3_init_106 : decode cX3_init 106 = .ok (.iload_n 1, 1) := by decide +kernel
theorem dX3_init_107 : decode cX3_init 107 = .ok (.new 25, 3) := by decide +kernel
theorem dX3_init_110 : decode cX3_init 110 = .ok (.dup, 1) := by decide +kernel
theorem dX3_init_111 : decode cX3_init 111 = .ok (.aload_n 0, 1) := by decide +kernel
theorem dX3_init_112 : decode cX3_init 112 = .ok (.getfield 11, 3) := by decide +kernel
theorem dX3_init_115 : decode cX3_init 115 = .ok (.iconst 0, 1) := by decide +kernel
theorem dX3_init_116 : decode cX3_init 116 = .ok (.aaload, 1) := by decide +kernel
theorem dX3_init_117 : decode cX3_init 117 = .ok (.invokespecial 31, 3) := by decide +kernel
theorem dX3_init_120 : decode cX3_init 120 = .ok (.aastore, 1) := by decide +kernel
theorem dX3_init_121 : decode cX3_init 121 = .ok (.iinc 1 1, 3) := by decide +kernel
theorem dX3_init_124 : decode cX3_init 124 = .ok (.goto (-28), 3) := by decide +kernel
theorem dX3_init_127 : decode cX3_init 127 = .ok (.aload_n 0, 1) := by decide +kernel
theorem dX3_init_128 : decode cX3_init 128 = .ok (.sipush 256, 3) := by decide +kernel
theorem dX3_init_131 : decode cX3_init 131 = .ok (.newarray .long, 2) := by decide +kernel
theorem dX3_init_133 : decode cX3_init 133 = .ok (.putfield 34, 3) := by decide +kernel
theorem dX3_init_136 : decode cX3_init 136 = .ok (.return_, 1) := by decide +kernel
set_option maxRecDepth 20000 in
theorem ggX3_tick_X3_nodeAt : GoodIn wsX3_tick wsX3_nodeAt := goodIn_r _ [5, 6, 28, 29, 30, 31, 32, 33] (by decide +kernel) (by decide +kernel)
set_option maxRecDepth 20000 in
theorem gX3_tick_X3_nodeAt : GoodIn wsX3_tick (wsV RX3 38 RX3 yX3_nodeAt wsX3_nodeAt) := goodIn_app (goodIn_of _ (by decide +kernel)) ggX3_tick_X3_nodeAt
set_option maxRecDepth 20000 in
theorem ggX3_tick_X3_runsAhead : GoodIn wsX3_tick wsX3_runsAhead := goodIn_r _ [10, 6, 28, 29, 30, 31, 32, 33, 26, 27] (by decide +kernel) (by decide +kernel)
set_option maxRecDepth 20000 in
theorem gX3_tick_X3_runsAhead : GoodIn wsX3_tick (wsV RX3 46 RX3 yX3_runsAhead wsX3_runsAhead) := goodIn_app (goodIn_of _ (by decide +kernel)) ggX3_tick_X3_runsAhead
set_option maxRecDepth 20000 in
theorem ggX3_tick_X1_haveEvent : GoodIn wsX3_tick wsX1_haveEvent := goodIn_r _ [14, 15, 16, 17, 18, 12, 19, 20, 21, 22, 23, 24, 25, 26, 27] (by decide +kernel) (by decide +kernel)
set_option maxRecDepth 20000 in
theorem gX3_tick_X1_haveEvent_n50 : GoodIn wsX3_tick (wsX1_haveEvent) := ggX3_tick_X1_haveEvent
theorem dX3_tick_0 : decode cX3_tick 0 = .ok (.aload_n 0, 1) := by decide +kernel
theorem dX3_tick_1 : decode cX3_tick 1 = .ok (.iload_n 1, 1) := by decide +kernel
theorem dX3_tick_2 : decode cX3_tick 2 = .ok (.invokevirtual 38, 3) := by decide +kernel
theorem dX3_tick_5 : decode cX3_tick 5 = .ok (.astore_n 3, 1) := by decide +kernel
theorem dX3_tick_6 : decode cX3_tick 6 = .ok (.aload_n 3, 1) := by decide +kernel
theorem dX3_tick_7 : decode cX3_tick 7 = .ok (.ifnonnull 5, 3) := by decide +kernel
theorem dX3_tick_10 : decode cX3_tick 10 = .ok (.iconst (-1), 1) := by decide +kernel
theorem dX3_tick_11 : decode cX3_tick 11 = .ok (.ireturn, 1) := by decide +kernel
theorem dX3_tick_12 : decode cX3_tick 12 = .ok (.iload_n 2, 1) := by decide +kernel
theorem dX3_tick_13 : decode cX3_tick 13 = .ok (.aload_n 3, 1) := by decide +kernel
theorem dX3_tick_14 : decode cX3_tick 14 = .ok (.getfield 42, 3) := by decide +kernel
theorem dX3_tick_17 : decode cX3_tick 17 = .ok (.if_icmp .lt 12, 3) := by decide +kernel
theorem dX3_tick_20 : decode cX3_tick 20 = .ok (.aload_n 0, 1) := by decide +kernel
theorem dX3_tick_21 : decode cX3_tick 21 = .ok (.aload_n 3, 1) := by decide +kernel
theorem dX3_tick_22 : decode cX3_tick 22 = .ok (.iload_n 2, 1) := by decide +kernel
theorem dX3_tick_23 : decode cX3_tick 23 = .ok (.invokevirtual 46, 3) := by decide +kernel
theorem dX3_tick_26 : decode cX3_tick 26 = .ok (.ifCond .eq 6, 3) := by decide +kernel
theorem dX3_tick_29 : decode cX3_tick 29 = .ok (.bipush (-2), 2) := by decide +kernel
theorem dX3_tick_31 : decode cX3_tick 31 = .ok (.ireturn, 1) := by decide +kernel
theorem dX3_tick_32 : decode cX3_tick 32 = .ok (.aload_n 3, 1) := by decide +kernel
theorem dX3_tick_33 : decode cX3_tick 33 = .ok (.iload_n 2, 1) := by decide +kernel
theorem dX3_tick_34 : decode cX3_tick 34 = .ok (.putfield 42, 3) := by decide +kernel
theorem dX3_tick_37 : decode cX3_tick 37 = .ok (.aload_n 3, 1) := by decide +kernel
theorem dX3_tick_38 : decode cX3_tick 38 = .ok (.invokevirtual 50, 3) := by decide +kernel
theorem dX3_tick_41 : decode cX3_tick 41 = .ok (.iconst 0, 1) := by decide +kernel
theorem dX3_tick_42 : decode cX3_tick 42 = .ok (.ireturn, 1) := by decide +kernel
set_option maxRecDepth 20000 in
theorem ggX3_reading_X3_nodeAt : GoodIn wsX3_reading wsX3_nodeAt := goodIn_r _ [5, 6, 9, 10, 11, 12, 13, 14] (by decide +kernel) (by decide +kernel)
set_option maxRecDepth 20000 in
theorem gX3_reading_X3_nodeAt : GoodIn wsX3_reading (wsV RX3 38 RX3 yX3_nodeAt wsX3_nodeAt) := goodIn_app (goodIn_of _ (by decide +kernel)) ggX3_reading_X3_nodeAt
theorem dX3_reading_0 : decode cX3_reading 0 = .ok (.aload_n 0, 1) := by decide +kernel
theorem dX3_reading_1 : decode cX3_reading 1 = .ok (.iload_n 1, 1) := by decide +kernel
theorem dX3_reading_2 : decode cX3_reading 2 = .ok (.invokevirtual 38, 3) := by decide +kernel
theorem dX3_reading_5 : decode cX3_reading 5 = .ok (.astore_n 2, 1) := by decide +kernel
theorem dX3_reading_6 : decode cX3_reading 6 = .ok (.aload_n 2, 1) := by decide +kernel
theorem dX3_reading_7 : decode cX3_reading 7 = .ok (.ifnonnull 7, 3) := by decide +kernel
theorem dX3_reading_10 : decode cX3_reading 10 = .ok (.iconst (-1), 1) := by decide +kernel
theorem dX3_reading_11 : decode cX3_reading 11 = .ok (.goto 7, 3) := by decide +kernel
theorem dX3_reading_14 : decode cX3_reading 14 = .ok (.aload_n 2, 1) := by decide +kernel
theorem dX3_reading_15 : decode cX3_reading 15 = .ok (.getfield 42, 3) := by decide +kernel
theorem dX3_reading_18 : decode cX3_reading 18 = .ok (.ireturn, 1) := by decide +kernel
set_option maxRecDepth 20000 in
theorem ggX3_clock_X3_nodeAt : GoodIn wsX3_clock wsX3_nodeAt := goodIn_r _ [6, 7, 10, 11, 12, 13, 14, 15] (by decide +kernel) (by decide +kernel)
set_option maxRecDepth 20000 in
theorem gX3_clock_X3_nodeAt : GoodIn wsX3_clock (wsV RX3 38 RX3 yX3_nodeAt wsX3_nodeAt) := goodIn_app (goodIn_of _ (by decide +kernel)) ggX3_clock_X3_nodeAt
theorem dX3_clock_0 : decode cX3_clock 0 = .ok (.aload_n 0, 1) := by decide +kernel
theorem dX3_clock_1 : decode cX3_clock 1 = .ok (.iload_n 1, 1) := by decide +kernel
theorem dX3_clock_2 : decode cX3_clock 2 = .ok (.invokevirtual 38, 3) := by decide +kernel
theorem dX3_clock_5 : decode cX3_clock 5 = .ok (.astore_n 2, 1) := by decide +kernel
theorem dX3_clock_6 : decode cX3_clock 6 = .ok (.aload_n 2, 1) := by decide +kernel
theorem dX3_clock_7 : decode cX3_clock 7 = .ok (.ifnonnull 9, 3) := by decide +kernel
theorem dX3_clock_10 : decode cX3_clock 10 = .ok (.ldc2_w 53, 3) := by decide +kernel
theorem dX3_clock_13 : decode cX3_clock 13 = .ok (.goto 7, 3) := by decide +kernel
theorem dX3_clock_16 : decode cX3_clock 16 = .ok (.aload_n 2, 1) := by decide +kernel
theorem dX3_clock_17 : decode cX3_clock 17 = .ok (.getfield 55, 3) := by decide +kernel
theorem dX3_clock_20 : decode cX3_clock 20 = .ok (.lreturn, 1) := by decide +kernel
set_option maxRecDepth 20000 in
theorem ggX3_begin_X3_nodeAt : GoodIn wsX3_begin wsX3_nodeAt := goodIn_r _ [7, 8, 44, 45, 46, 47, 48, 49] (by decide +kernel) (by decide +kernel)
set_option maxRecDepth 20000 in
theorem gX3_begin_X3_nodeAt : GoodIn wsX3_begin (wsV RX3 38 RX3 yX3_nodeAt wsX3_nodeAt) := goodIn_app (goodIn_of _ (by decide +kernel)) ggX3_begin_X3_nodeAt
set_option maxRecDepth 20000 in
theorem ggX3_begin_X3_leastFreeSlot : GoodIn wsX3_begin wsX3_leastFreeSlot := goodIn_r _ [12, 1, 44, 45, 46, 47, 48, 49, 50, 51, 52, 53, 54, 55, 56, 57, 58] (by decide +kernel) (by decide +kernel)
set_option maxRecDepth 20000 in
theorem gX3_begin_X3_leastFreeSlot : GoodIn wsX3_begin (wsV RX3 59 RX3 yX3_leastFreeSlot wsX3_leastFreeSlot) := goodIn_app (goodIn_of _ (by decide +kernel)) ggX3_begin_X3_leastFreeSlot
set_option maxRecDepth 20000 in
theorem ggX3_begin_X1_haveEvent : GoodIn wsX3_begin wsX1_haveEvent := goodIn_r _ [16, 17, 18, 19, 20, 14, 21, 22, 23, 24, 25, 26, 27, 59, 60] (by decide +kernel) (by decide +kernel)
set_option maxRecDepth 20000 in
theorem gX3_begin_X1_haveEvent_n50 : GoodIn wsX3_begin (wsX1_haveEvent) := ggX3_begin_X1_haveEvent
set_option maxRecDepth 20000 in
theorem ggX3_begin_X2_start : GoodIn wsX3_begin wsX2_start := goodIn_r _ [31, 32, 33, 34, 35, 36, 37, 38, 39, 40, 41, 42, 43, 50, 51, 52, 53, 54, 55, 56, 57, 58, 59, 60] (by decide +kernel) (by decide +kernel)
set_option maxRecDepth 20000 in
theorem gX3_begin_X2_start_n66 : GoodIn wsX3_begin (wsX2_start) := ggX3_begin_X2_start
theorem dX3_begin_0 : decode cX3_begin 0 = .ok (.aload_n 0, 1) := by decide +kernel
theorem dX3_begin_1 : decode cX3_begin 1 = .ok (.iload_n 1, 1) := by decide +kernel
theorem dX3_begin_2 : decode cX3_begin 2 = .ok (.invokevirtual 38, 3) := by decide +kernel
theorem dX3_begin_5 : decode cX3_begin 5 = .ok (.astore_n 2, 1) := by decide +kernel
theorem dX3_begin_6 : decode cX3_begin 6 = .ok (.aload_n 2, 1) := by decide +kernel
theorem dX3_begin_7 : decode cX3_begin 7 = .ok (.ifnonnull 5, 3) := by decide +kernel
theorem dX3_begin_10 : decode cX3_begin 10 = .ok (.iconst (-1), 1) := by decide +kernel
theorem dX3_begin_11 : decode cX3_begin 11 = .ok (.ireturn, 1) := by decide +kernel
theorem dX3_begin_12 : decode cX3_begin 12 = .ok (.aload_n 0, 1) := by decide +kernel
theorem dX3_begin_13 : decode cX3_begin 13 = .ok (.invokevirtual 59, 3) := by decide +kernel
theorem dX3_begin_16 : decode cX3_begin 16 = .ok (.istore_n 3, 1) := by decide +kernel
theorem dX3_begin_17 : decode cX3_begin 17 = .ok (.iload_n 3, 1) := by decide +kernel
theorem dX3_begin_18 : decode cX3_begin 18 = .ok (.iconst (-1), 1) := by decide +kernel
theorem dX3_begin_19 : decode cX3_begin 19 = .ok (.if_icmp .ne 6, 3) := by decide +kernel
theorem dX3_begin_22 : decode cX3_begin 22 = .ok (.bipush (-3), 2) := by decide +kernel
theorem dX3_begin_24 : decode cX3_begin 24 = .ok (.ireturn, 1) := by decide +kernel
theorem dX3_begin_25 : decode cX3_begin 25 = .ok (.aload_n 2, 1) := by decide +kernel
theorem dX3_begin_26 : decode cX3_begin 26 = .ok (.invokevirtual 50, 3) := by decide +kernel
theorem dX3_begin_29 : decode cX3_begin 29 = .ok (.aload_n 0, 1) := by decide +kernel
theorem dX3_begin_30 : decode cX3_begin 30 = .ok (.getfield 27, 3) := by decide +kernel
theorem dX3_begin_33 : decode cX3_begin 33 = .ok (.iload_n 3, 1) := by decide +kernel
theorem dX3_begin_34 : decode cX3_begin 34 = .ok (.aaload, 1) := by decide +kernel
theorem dX3_begin_35 : decode cX3_begin 35 = .ok (.aload_n 2, 1) := by decide +kernel
theorem dX3_begin_36 : decode cX3_begin 36 = .ok (.aload_n 0, 1) := by decide +kernel
theorem dX3_begin_37 : decode cX3_begin 37 = .ok (.getfield 63, 3) := by decide +kernel
theorem dX3_begin_40 : decode cX3_begin 40 = .ok (.invokevirtual 66, 3) := by decide +kernel
theorem dX3_begin_43 : decode cX3_begin 43 = .ok (.aload_n 0, 1) := by decide +kernel
theorem dX3_begin_44 : decode cX3_begin 44 = .ok (.dup, 1) := by decide +kernel
theorem dX3_begin_45 : decode cX3_begin 45 = .ok (.getfield 63, 3) := by decide +kernel
theorem dX3_begin_48 : decode cX3_begin 48 = .ok (.iconst 1, 1) := by decide +kernel
theorem dX3_begin_49 : decode cX3_begin 49 = .ok (.iadd, 1) := by decide +kernel
theorem dX3_begin_50 : decode cX3_begin 50 = .ok (.putfield 63, 3) := by decide +kernel
theorem dX3_begin_53 : decode cX3_begin 53 = .ok (.iload_n 3, 1) := by decide +kernel
theorem dX3_begin_54 : decode cX3_begin 54 = .ok (.ireturn, 1) := by decide +kernel
set_option maxRecDepth 20000 in
theorem ggX3_read_X3_transactionAt : GoodIn wsX3_read wsX3_transactionAt := goodIn_r _ [7, 8, 116, 117, 118, 119, 120, 121] (by decide +kernel) (by decide +kernel)
set_option maxRecDepth 20000 in
theorem gX3_read_X3_transactionAt : GoodIn wsX3_read (wsV RX3 70 RX3 yX3_transactionAt wsX3_transactionAt) := goodIn_app (goodIn_of _ (by decide +kernel)) ggX3_read_X3_transactionAt
set_option maxRecDepth 20000 in
theorem ggX3_read_X3_keyAt : GoodIn wsX3_read wsX3_keyAt := goodIn_r _ [12, 13, 116, 117, 118, 119, 120, 121] (by decide +kernel) (by decide +kernel)
set_option maxRecDepth 20000 in
theorem gX3_read_X3_keyAt : GoodIn wsX3_read (wsV RX3 74 RX3 yX3_keyAt wsX3_keyAt) := goodIn_app (goodIn_of _ (by decide +kernel)) ggX3_read_X3_keyAt
set_option maxRecDepth 20000 in
theorem ggX3_read_X2_takeStoppingCode : GoodIn wsX3_read wsX2_takeStoppingCode := goodIn_r _ [17, 18, 19, 20, 21, 15, 22, 23, 97, 98, 99, 100, 101, 102, 103, 104, 105] (by decide +kernel) (by decide +kernel)
set_option maxRecDepth 20000 in
theorem gX3_read_X2_takeStoppingCode_n80 : GoodIn wsX3_read (wsX2_takeStoppingCode) := ggX3_read_X2_takeStoppingCode
set_option maxRecDepth 20000 in
theorem ggX3_read_X1_haveEvent : GoodIn wsX3_read wsX1_haveEvent := goodIn_r _ [27, 28, 29, 30, 31, 25, 32, 33, 34, 35, 36, 37, 38, 114, 115] (by decide +kernel) (by decide +kernel)
set_option maxRecDepth 20000 in
theorem gX3_read_X1_haveEvent_n50 : GoodIn wsX3_read (wsX1_haveEvent) := ggX3_read_X1_haveEvent
set_option maxRecDepth 20000 in
theorem ggX3_read_X1_takeIn : GoodIn wsX3_read wsX1_takeIn := goodIn_r _ [32, 28, 33, 34, 35, 36, 37, 38, 114, 115] (by decide +kernel) (by decide +kernel)
set_option maxRecDepth 20000 in
theorem gX3_read_X1_takeIn_n92 : GoodIn wsX3_read (wsX1_takeIn) := ggX3_read_X1_takeIn
set_option maxRecDepth 20000 in
theorem ggX3_read_X3_readAtOwner : GoodIn wsX3_read wsX3_readAtOwner := goodIn_r _ [42, 43, 44, 45, 46, 6, 47, 30, 25, 31, 32, 28, 33, 34, 35, 36, 37, 38, 48, 15, 49, 50, 23, 51, 52, 53, 54, 55, 56, 57, 58, 59, 60, 61, 62, 63, 64, 65, 66, 67, 68, 69, 70, 71, 72, 73, 74, 75, 76, 77, 78, 79, 80, 81, 82, 13, 83, 84, 85, 86, 87, 88, 89, 90, 91, 92, 93, 94, 95, 96, 106, 107, 108, 109, 110, 111, 112, 113, 97, 98, 99, 100, 101, 102, 103, 104, 105, 114, 115, 116, 117, 118, 119, 120, 121] (by decide +kernel) (by decide +kernel)
set_option maxRecDepth 20000 in
theorem gX3_read_X3_readAtOwner : GoodIn wsX3_read (wsV RX3 96 RX3 yX3_readAtOwner wsX3_readAtOwner) := goodIn_app (goodIn_of _ (by decide +kernel)) ggX3_read_X3_readAtOwner
theorem dX3_read_0 : decode cX3_read 0 = .ok (.aload_n 0, 1) := by decide +kernel
theorem dX3_read_1 : decode cX3_read 1 = .ok (.iload_n 1, 1) := by decide +kernel
theorem dX3_read_2 : decode cX3_read 2 = .ok (.invokevirtual 70, 3) := by decide +kernel
theorem dX3_read_5 : decode cX3_read 5 = .ok (.astore_n 3, 1) := by decide +kernel
theorem dX3_read_6 : decode cX3_read 6 = .ok (.aload_n 0, 1) := by decide +kernel
theorem dX3_read_7 : decode cX3_read 7 = .ok (.iload_n 2, 1) := by decide +kernel
theorem dX3_read_8 : decode cX3_read 8 = .ok (.invokevirtual 74, 3) := by decide +kernel
theorem dX3_read_11 : decode cX3_read 11 = .ok (.astore 4, 2) := by decide +kernel
theorem dX3_read_13 : decode cX3_read 13 = .ok (.aload_n 3, 1) := by decide +kernel
theorem dX3_read_14 : decode cX3_read 14 = .ok (.ifnull 8, 3) := by decide +kernel
theorem dX3_read_17 : decode cX3_read 17 = .ok (.aload 4, 2) := by decide +kernel
theorem dX3_read_19 : decode cX3_read 19 = .ok (.ifnonnull 7, 3) := by decide +kernel
theorem dX3_read_22 : decode cX3_read 22 = .ok (.ldc2_w 78, 3) := by decide +kernel
theorem dX3_read_25 : decode cX3_read 25 = .ok (.lreturn, 1) := by decide +kernel
theorem dX3_read_26 : decode cX3_read 26 = .ok (.aload_n 3, 1) := by decide +kernel
theorem dX3_read_27 : decode cX3_read 27 = .ok (.invokevirtual 80, 3) := by decide +kernel
theorem dX3_read_30 : decode cX3_read 30 = .ok (.istore 5, 2) := by decide +kernel
theorem dX3_read_32 : decode cX3_read 32 = .ok (.iload 5, 2) := by decide +kernel
theorem dX3_read_34 : decode cX3_read 34 = .ok (.ifCond .eq 11, 3) := by decide +kernel
theorem dX3_read_37 : decode cX3_read 37 = .ok (.ldc2_w 83, 3) := by decide +kernel
theorem dX3_read_40 : decode cX3_read 40 = .ok (.iload 5, 2) := by decide +kernel
theorem dX3_read_42 : decode cX3_read 42 = .ok (.i2l, 1) := by decide +kernel
theorem dX3_read_43 : decode cX3_read 43 = .ok (.ladd, 1) := by decide +kernel
theorem dX3_read_44 : decode cX3_read 44 = .ok (.lreturn, 1) := by decide +kernel
theorem dX3_read_45 : decode cX3_read 45 = .ok (.aload_n 3, 1) := by decide +kernel
theorem dX3_read_46 : decode cX3_read 46 = .ok (.getfield 85, 3) := by decide +kernel
theorem dX3_read_49 : decode cX3_read 49 = .ok (.invokevirtual 50, 3) := by decide +kernel
theorem dX3_read_52 : decode cX3_read 52 = .ok (.aload 4, 2) := by decide +kernel
theorem dX3_read_54 : decode cX3_read 54 = .ok (.getfield 89, 3) := by decide +kernel
theorem dX3_read_57 : decode cX3_read 57 = .ok (.aload_n 3, 1) := by decide +kernel
theorem dX3_read_58 : decode cX3_read 58 = .ok (.getfield 85, 3) := by decide +kernel
theorem dX3_read_61 : decode cX3_read 61 = .ok (.getfield 55, 3) := by decide +kernel
theorem dX3_read_64 : decode cX3_read 64 = .ok (.invokevirtual 92, 3) := by decide +kernel
theorem dX3_read_67 : decode cX3_read 67 = .ok (.aload_n 0, 1) := by decide +kernel
theorem dX3_read_68 : decode cX3_read 68 = .ok (.aload_n 3, 1) := by decide +kernel
theorem dX3_read_69 : decode cX3_read 69 = .ok (.aload 4, 2) := by decide +kernel
theorem dX3_read_71 : decode cX3_read 71 = .ok (.invokevirtual 96, 3) := by decide +kernel
theorem dX3_read_74 : decode cX3_read 74 = .ok (.lstore 6, 2) := by decide +kernel
theorem dX3_read_76 : decode cX3_read 76 = .ok (.aload_n 3, 1) := by decide +kernel
theorem dX3_read_77 : decode cX3_read 77 = .ok (.getfield 85, 3) := by decide +kernel
theorem dX3_read_80 : decode cX3_read 80 = .ok (.aload 4, 2) := by decide +kernel
theorem dX3_read_82 : decode cX3_read 82 = .ok (.getfield 89, 3) := by decide +kernel
theorem dX3_read_85 : decode cX3_read 85 = .ok (.getfield 55, 3) := by decide +kernel
theorem dX3_read_88 : decode cX3_read 88 = .ok (.invokevirtual 92, 3) := by decide +kernel
theorem dX3_read_91 : decode cX3_read 91 = .ok (.lload 6, 2) := by decide +kernel
theorem dX3_read_93 : decode cX3_read 93 = .ok (.lreturn, 1) := by decide +kernel
set_option maxRecDepth 20000 in
theorem ggX3_write_X3_transactionAt : GoodIn wsX3_write wsX3_transactionAt := goodIn_r _ [5, 6, 106, 107, 108, 109, 110, 111] (by decide +kernel) (by decide +kernel)
set_option maxRecDepth 20000 in
theorem gX3_write_X3_transactionAt : GoodIn wsX3_write (wsV RX3 70 RX3 yX3_transactionAt wsX3_transactionAt) := goodIn_app (goodIn_of _ (by decide +kernel)) ggX3_write_X3_transactionAt
set_option maxRecDepth 20000 in
theorem ggX3_write_X3_keyAt : GoodIn wsX3_write wsX3_keyAt := goodIn_r _ [10, 11, 106, 107, 108, 109, 110, 111] (by decide +kernel) (by decide +kernel)
set_option maxRecDepth 20000 in
theorem gX3_write_X3_keyAt : GoodIn wsX3_write (wsV RX3 74 RX3 yX3_keyAt wsX3_keyAt) := goodIn_app (goodIn_of _ (by decide +kernel)) ggX3_write_X3_keyAt
set_option maxRecDepth 20000 in
theorem ggX3_write_X2_takeStoppingCode : GoodIn wsX3_write wsX2_takeStoppingCode := goodIn_r _ [15, 16, 17, 18, 19, 13, 20, 21, 87, 88, 89, 90, 91, 92, 93, 94, 95] (by decide +kernel) (by decide +kernel)
set_option maxRecDepth 20000 in
theorem gX3_write_X2_takeStoppingCode_n80 : GoodIn wsX3_write (wsX2_takeStoppingCode) := ggX3_write_X2_takeStoppingCode
set_option maxRecDepth 20000 in
theorem ggX3_write_X1_haveEvent : GoodIn wsX3_write wsX1_haveEvent := goodIn_r _ [25, 26, 27, 28, 29, 23, 30, 31, 32, 33, 34, 35, 36, 104, 105] (by decide +kernel) (by decide +kernel)
set_option maxRecDepth 20000 in
theorem gX3_write_X1_haveEvent_n50 : GoodIn wsX3_write (wsX1_haveEvent) := ggX3_write_X1_haveEvent
set_option maxRecDepth 20000 in
theorem ggX3_write_X1_takeIn : GoodIn wsX3_write wsX1_takeIn := goodIn_r _ [30, 26, 31, 32, 33, 34, 35, 36, 104, 105] (by decide +kernel) (by decide +kernel)
set_option maxRecDepth 20000 in
theorem gX3_write_X1_takeIn_n92 : GoodIn wsX3_write (wsX1_takeIn) := ggX3_write_X1_takeIn
set_option maxRecDepth 20000 in
theorem ggX3_write_X3_writeAtOwner : GoodIn wsX3_write wsX3_writeAtOwner := goodIn_r _ [40, 41, 42, 43, 44, 4, 45, 28, 23, 29, 30, 26, 31, 32, 33, 34, 35, 36, 46, 13, 47, 48, 21, 49, 50, 51, 52, 53, 54, 55, 56, 57, 58, 59, 60, 61, 62, 63, 64, 65, 66, 67, 11, 68, 69, 70, 71, 72, 73, 74, 75, 76, 77, 78, 79, 80, 81, 82, 83, 84, 85, 86, 96, 97, 98, 99, 100, 101, 102, 103, 87, 88, 89, 90, 91, 92, 93, 94, 95, 104, 105, 106, 107, 108, 109, 110, 111] (by decide +kernel) (by decide +kernel)
set_option maxRecDepth 20000 in
theorem gX3_write_X3_writeAtOwner : GoodIn wsX3_write (wsV RX3 100 RX3 yX3_writeAtOwner wsX3_writeAtOwner) := goodIn_app (goodIn_of _ (by decide +kernel)) ggX3_write_X3_writeAtOwner
theorem dX3_write_0 : decode cX3_write 0 = .ok (.aload_n 0, 1) := by decide +kernel
theorem dX3_write_1 : decode cX3_write 1 = .ok (.iload_n 1, 1) := by decide +kernel
theorem dX3_write_2 : decode cX3_write 2 = .ok (.invokevirtual 70, 3) := by decide +kernel
theorem dX3_write_5 : decode cX3_write 5 = .ok (.astore 4, 2) := by decide +kernel
theorem dX3_write_7 : decode cX3_write 7 = .ok (.aload_n 0, 1) := by decide +kernel
theorem dX3_write_8 : decode cX3_write 8 = .ok (.iload_n 2, 1) := by decide +kernel
theorem dX3_write_9 : decode cX3_write 9 = .ok (.invokevirtual 74, 3) := by decide +kernel
theorem dX3_write_12 : decode cX3_write 12 = .ok (.astore 5, 2) := by decide +kernel
theorem dX3_write_14 : decode cX3_write 14 = .ok (.aload 4, 2) := by decide +kernel
theorem dX3_write_16 : decode cX3_write 16 = .ok (.ifnull 8, 3) := by decide +kernel
theorem dX3_write_19 : decode cX3_write 19 = .ok (.aload 5, 2) := by decide +kernel
theorem dX3_write_21 : decode cX3_write 21 = .ok (.ifnonnull 5, 3) := by decide +kernel
theorem dX3_write_24 : decode cX3_write 24 = .ok (.iconst (-1), 1) := by decide +kernel
theorem dX3_write_25 : decode cX3_write 25 = .ok (.ireturn, 1) := by decide +kernel
theorem dX3_write_26 : decode cX3_write 26 = .ok (.aload 4, 2) := by decide +kernel
theorem dX3_write_28 : decode cX3_write 28 = .ok (.invokevirtual 80, 3) := by decide +kernel
theorem dX3_write_31 : decode cX3_write 31 = .ok (.istore 6, 2) := by decide +kernel
theorem dX3_write_33 : decode cX3_write 33 = .ok (.iload 6, 2) := by decide +kernel
theorem dX3_write_35 : decode cX3_write 35 = .ok (.ifCond .eq 6, 3) := by decide +kernel
theorem dX3_write_38 : decode cX3_write 38 = .ok (.iload 6, 2) := by decide +kernel
theorem dX3_write_40 : decode cX3_write 40 = .ok (.ireturn, 1) := by decide +kernel
theorem dX3_write_41 : decode cX3_write 41 = .ok (.aload 4, 2) := by decide +kernel
theorem dX3_write_43 : decode cX3_write 43 = .ok (.getfield 85, 3) := by decide +kernel
theorem dX3_write_46 : decode cX3_write 46 = .ok (.invokevirtual 50, 3) := by decide +kernel
theorem dX3_write_49 : decode cX3_write 49 = .ok (.aload 5, 2) := by decide +kernel
theorem dX3_write_51 : decode cX3_write 51 = .ok (.getfield 89, 3) := by decide +kernel
theorem dX3_write_54 : decode cX3_write 54 = .ok (.aload 4, 2) := by decide +kernel
theorem dX3_write_56 : decode cX3_write 56 = .ok (.getfield 85, 3) := by decide +kernel
theorem dX3_write_59 : decode cX3_write 59 = .ok (.getfield 55, 3) := by decide +kernel
theorem dX3_write_62 : decode cX3_write 62 = .ok (.invokevirtual 92, 3) := by decide +kernel
theorem dX3_write_65 : decode cX3_write 65 = .ok (.aload_n 0, 1) := by decide +kernel
theorem dX3_write_66 : decode cX3_write 66 = .ok (.aload 4, 2) := by decide +kernel
theorem dX3_write_68 : decode cX3_write 68 = .ok (.aload 5, 2) := by decide +kernel
theorem dX3_write_70 : decode cX3_write 70 = .ok (.iload_n 3, 1) := by decide +kernel
theorem dX3_write_71 : decode cX3_write 71 = .ok (.invokevirtual 100, 3) := by decide +kernel
theorem dX3_write_74 : decode cX3_write 74 = .ok (.istore 7, 2) := by decide +kernel
theorem dX3_write_76 : decode cX3_write 76 = .ok (.aload 4, 2) := by decide +kernel
theorem dX3_write_78 : decode cX3_write 78 = .ok (.getfield 85, 3) := by decide +kernel
theorem dX3_write_81 : decode cX3_write 81 = .ok (.aload 5, 2) := by decide +kernel
theorem dX3_write_83 : decode cX3_write 83 = .ok (.getfield 89, 3) := by decide +kernel
theorem dX3_write_86 : decode cX3_write 86 = .ok (.getfield 55, 3) := by decide +kernel
theorem dX3_write_89 : decode cX3_write 89 = .ok (.invokevirtual 92, 3) := by decide +kernel
theorem dX3_write_92 : decode cX3_write 92 = .ok (.iload 7, 2) := by decide +kernel
theorem dX3_write_94 : decode cX3_write 94 = .ok (.ireturn, 1) := by decide +kernel
set_option maxRecDepth 20000 in
theorem ggX3_commit_X3_transactionAt : GoodIn wsX3_commit wsX3_transactionAt := goodIn_r _ [5, 6, 105, 106, 107, 108, 109, 110] (by decide +kernel) (by decide +kernel)
set_option maxRecDepth 20000 in
theorem gX3_commit_X3_transactionAt : GoodIn wsX3_commit (wsV RX3 70 RX3 yX3_transactionAt wsX3_transactionAt) := goodIn_app (goodIn_of _ (by decide +kernel)) ggX3_commit_X3_transactionAt
set_option maxRecDepth 20000 in
theorem ggX3_commit_X2_takeStoppingCode : GoodIn wsX3_commit wsX2_takeStoppingCode := goodIn_r _ [10, 11, 12, 13, 14, 8, 15, 16, 96, 97, 98, 99, 100, 101, 102, 103, 104] (by decide +kernel) (by decide +kernel)
set_option maxRecDepth 20000 in
theorem gX3_commit_X2_takeStoppingCode_n80 : GoodIn wsX3_commit (wsX2_takeStoppingCode) := ggX3_commit_X2_takeStoppingCode
set_option maxRecDepth 20000 in
theorem ggX3_commit_X1_haveEvent : GoodIn wsX3_commit wsX1_haveEvent := goodIn_r _ [20, 21, 22, 23, 24, 18, 25, 26, 27, 28, 29, 30, 31, 111, 112] (by decide +kernel) (by decide +kernel)
set_option maxRecDepth 20000 in
theorem gX3_commit_X1_haveEvent_n50 : GoodIn wsX3_commit (wsX1_haveEvent) := ggX3_commit_X1_haveEvent
set_option maxRecDepth 20000 in
theorem ggX3_commit_X3_moveReadsToWriteStamp : GoodIn wsX3_commit wsX3_moveReadsToWriteStamp := goodIn_r _ [35, 36, 37, 38, 4, 39, 40, 23, 18, 24, 25, 21, 26, 27, 28, 29, 30, 31, 41, 42, 43, 44, 8, 45, 46, 16, 47, 48, 49, 50, 51, 52, 53, 54, 55, 56, 57, 58, 59, 60, 61, 62, 63, 64, 65, 66, 67, 68, 69, 70, 71, 72, 73, 74, 75, 76, 77, 78, 79, 105, 106, 107, 108, 109, 110, 96, 97, 98, 99, 100, 101, 102, 103, 104, 113, 114, 115, 116, 117, 118, 119, 120, 111, 112] (by decide +kernel) (by decide +kernel)
set_option maxRecDepth 20000 in
theorem gX3_commit_X3_moveReadsToWriteStamp : GoodIn wsX3_commit (wsV RX3 110 RX3 yX3_moveReadsToWriteStamp wsX3_moveReadsToWriteStamp) := goodIn_app (goodIn_of _ (by decide +kernel)) ggX3_commit_X3_moveReadsToWriteStamp
set_option maxRecDepth 20000 in
theorem ggX3_commit_X3_restart : GoodIn wsX3_commit wsX3_restart := goodIn_r _ [83, 36, 84, 8, 85, 86, 87, 65, 66, 27, 28, 29, 88, 89, 105, 106, 107, 108, 109, 110, 113, 114, 115, 116, 117, 118, 119, 120, 96, 97, 98, 99, 100, 101, 102, 103, 104] (by decide +kernel) (by decide +kernel)
set_option maxRecDepth 20000 in
theorem gX3_commit_X3_restart : GoodIn wsX3_commit (wsV RX3 114 RX3 yX3_restart wsX3_restart) := goodIn_app (goodIn_of _ (by decide +kernel)) ggX3_commit_X3_restart
set_option maxRecDepth 20000 in
theorem ggX3_commit_X3_logCommit : GoodIn wsX3_commit wsX3_logCommit := goodIn_r _ [93, 94, 95, 105, 106, 107, 108, 109, 110] (by decide +kernel) (by decide +kernel)
set_option maxRecDepth 20000 in
theorem gX3_commit_X3_logCommit : GoodIn wsX3_commit (wsV RX3 121 RX3 yX3_logCommit wsX3_logCommit) := goodIn_app (goodIn_of _ (by decide +kernel)) ggX3_commit_X3_logCommit
theorem dX3_commit_0 : decode cX3_commit 0 = .ok (.aload_n 0, 1) := by decide +kernel
theorem dX3_commit_1 : decode cX3_commit 1 = .ok (.iload_n 1, 1) := by decide +kernel
theorem dX3_commit_2 : decode cX3_commit 2 = .ok (.invokevirtual 70, 3) := by decide +kernel
theorem dX3_commit_5 : decode cX3_commit 5 = .ok (.astore_n 2, 1) := by decide +kernel
theorem dX3_commit_6 : decode cX3_commit 6 = .ok (.aload_n 2, 1) := by decide +kernel
theorem dX3_commit_7 : decode cX3_commit 7 = .ok (.ifnonnull 5, 3) := by decide +kernel
theorem dX3_commit_10 : decode cX3_commit 10 = .ok (.iconst (-1), 1) := by decide +kernel
theorem dX3_commit_11 : decode cX3_commit 11 = .ok (.ireturn, 1) := by decide +kernel
theorem dX3_commit_12 : decode cX3_commit 12 = .ok (.aload_n 2, 1) := by decide +kernel
theorem dX3_commit_13 : decode cX3_commit 13 = .ok (.invokevirtual 80, 3) := by decide +kernel
theorem dX3_commit_16 : decode cX3_commit 16 = .ok (.istore_n 3, 1) := by decide +kernel
theorem dX3_commit_17 : decode cX3_commit 17 = .ok (.iload_n 3, 1) := by decide +kernel
theorem dX3_commit_18 : decode cX3_commit 18 = .ok (.ifCond .eq 5, 3) := by decide +kernel
theorem dX3_commit_21 : decode cX3_commit 21 = .ok (.iload_n 3, 1) := by decide +kernel
theorem dX3_commit_22 : decode cX3_commit 22 = .ok (.ireturn, 1) := by decide +kernel
theorem dX3_commit_23 : decode cX3_commit 23 = .ok (.aload_n 2, 1) := by decide +kernel
theorem dX3_commit_24 : decode cX3_commit 24 = .ok (.getfield 85, 3) := by decide +kernel
theorem dX3_commit_27 : decode cX3_commit 27 = .ok (.invokevirtual 50, 3) := by decide +kernel
theorem dX3_commit_30 : decode cX3_commit 30 = .ok (.aload_n 2, 1) := by decide +kernel
theorem dX3_commit_31 : decode cX3_commit 31 = .ok (.getfield 104, 3) := by decide +kernel
theorem dX3_commit_34 : decode cX3_commit 34 = .ok (.aload_n 2, 1) := by decide +kernel
theorem dX3_commit_35 : decode cX3_commit 35 = .ok (.getfield 107, 3) := by decide +kernel
theorem dX3_commit_38 : decode cX3_commit 38 = .ok (.lcmp, 1) := by decide +kernel
theorem dX3_commit_39 : decode cX3_commit 39 = .ok (.ifCond .le 19, 3) := by decide +kernel
theorem dX3_commit_42 : decode cX3_commit 42 = .ok (.aload_n 0, 1) := by decide +kernel
theorem dX3_commit_43 : decode cX3_commit 43 = .ok (.aload_n 2, 1) := by decide +kernel
theorem dX3_commit_44 : decode cX3_commit 44 = .ok (.invokevirtual 110, 3) := by decide +kernel
theorem dX3_commit_47 : decode cX3_commit 47 = .ok (.ifCond .ne 11, 3) := by decide +kernel
theorem dX3_commit_50 : decode cX3_commit 50 = .ok (.aload_n 0, 1) := by decide +kernel
theorem dX3_commit_51 : decode cX3_commit 51 = .ok (.aload_n 2, 1) := by decide +kernel
theorem dX3_commit_52 : decode cX3_commit 52 = .ok (.lconst 0, 1) := by decide +kernel
theorem dX3_commit_53 : decode cX3_commit 53 = .ok (.invokevirtual 114, 3) := by decide +kernel
theorem dX3_commit_56 : decode cX3_commit 56 = .ok (.iconst 1, 1) := by decide +kernel
theorem dX3_commit_57 : decode cX3_commit 57 = .ok (.ireturn, 1) := by decide +kernel
theorem dX3_commit_58 : decode cX3_commit 58 = .ok (.aload_n 2, 1) := by decide +kernel
theorem dX3_commit_59 : decode cX3_commit 59 = .ok (.aload_n 2, 1) := by decide +kernel
theorem dX3_commit_60 : decode cX3_commit 60 = .ok (.getfield 104, 3) := by decide +kernel
theorem dX3_commit_63 : decode cX3_commit 63 = .ok (.putfield 107, 3) := by decide +kernel
theorem dX3_commit_66 : decode cX3_commit 66 = .ok (.aload_n 2, 1) := by decide +kernel
theorem dX3_commit_67 : decode cX3_commit 67 = .ok (.iconst 2, 1) := by decide +kernel
theorem dX3_commit_68 : decode cX3_commit 68 = .ok (.putfield 118, 3) := by decide +kernel
theorem dX3_commit_71 : decode cX3_commit 71 = .ok (.aload_n 0, 1) := by decide +kernel
theorem dX3_commit_72 : decode cX3_commit 72 = .ok (.aload_n 2, 1) := by decide +kernel
theorem dX3_commit_73 : decode cX3_commit 73 = .ok (.getfield 104, 3) := by decide +kernel
theorem dX3_commit_76 : decode cX3_commit 76 = .ok (.invokevirtual 121, 3) := by decide +kernel
theorem dX3_commit_79 : decode cX3_commit 79 = .ok (.iconst 0, 1) := by decide +kernel
theorem dX3_commit_80 : decode cX3_commit 80 = .ok (.ireturn, 1) := by decide +kernel
set_option maxRecDepth 20000 in
theorem ggX3_abort_X3_transactionAt : GoodIn wsX3_abort wsX3_transactionAt := goodIn_r _ [5, 6, 21, 22, 23, 24, 25, 26] (by decide +kernel) (by decide +kernel)
set_option maxRecDepth 20000 in
theorem gX3_abort_X3_transactionAt : GoodIn wsX3_abort (wsV RX3 70 RX3 yX3_transactionAt wsX3_transactionAt) := goodIn_app (goodIn_of _ (by decide +kernel)) ggX3_abort_X3_transactionAt
set_option maxRecDepth 20000 in
theorem ggX3_abort_X2_codeOfState : GoodIn wsX3_abort wsX2_codeOfState := goodIn_r _ [10, 11, 12, 13, 14, 15, 16, 17, 18, 19, 20] (by decide +kernel) (by decide +kernel)
set_option maxRecDepth 20000 in
theorem gX3_abort_X2_codeOfState_n124 : GoodIn wsX3_abort (wsX2_codeOfState) := ggX3_abort_X2_codeOfState
theorem dX3_abort_0 : decode cX3_abort 0 = .ok (.aload_n 0, 1) := by decide +kernel
theorem dX3_abort_1 : decode cX3_abort 1 = .ok (.iload_n 1, 1) := by decide +kernel
theorem dX3_abort_2 : decode cX3_abort 2 = .ok (.invokevirtual 70, 3) := by decide +kernel
theorem dX3_abort_5 : decode cX3_abort 5 = .ok (.astore_n 2, 1) := by decide +kernel
theorem dX3_abort_6 : decode cX3_abort 6 = .ok (.aload_n 2, 1) := by decide +kernel
theorem dX3_abort_7 : decode cX3_abort 7 = .ok (.ifnonnull 5, 3) := by decide +kernel
theorem dX3_abort_10 : decode cX3_abort 10 = .ok (.iconst (-1), 1) := by decide +kernel
theorem dX3_abort_11 : decode cX3_abort 11 = .ok (.ireturn, 1) := by decide +kernel
theorem dX3_abort_12 : decode cX3_abort 12 = .ok (.aload_n 2, 1) := by decide +kernel
theorem dX3_abort_13 : decode cX3_abort 13 = .ok (.invokevirtual 124, 3) := by decide +kernel
theorem dX3_abort_16 : decode cX3_abort 16 = .ok (.istore_n 3, 1) := by decide +kernel
theorem dX3_abort_17 : decode cX3_abort 17 = .ok (.iload_n 3, 1) := by decide +kernel
theorem dX3_abort_18 : decode cX3_abort 18 = .ok (.ifCond .ne 8, 3) := by decide +kernel
theorem dX3_abort_21 : decode cX3_abort 21 = .ok (.aload_n 2, 1) := by decide +kernel
theorem dX3_abort_22 : decode cX3_abort 22 = .ok (.iconst 3, 1) := by decide +kernel
theorem dX3_abort_23 : decode cX3_abort 23 = .ok (.putfield 118, 3) := by decide +kernel
theorem dX3_abort_26 : decode cX3_abort 26 = .ok (.iload_n 3, 1) := by decide +kernel
theorem dX3_abort_27 : decode cX3_abort 27 = .ok (.ireturn, 1) := by decide +kernel
set_option maxRecDepth 20000 in
theorem ggX3_heartbeat_X3_transactionAt : GoodIn wsX3_heartbeat wsX3_transactionAt := goodIn_r _ [5, 6, 38, 39, 40, 41, 42, 43] (by decide +kernel) (by decide +kernel)
set_option maxRecDepth 20000 in
theorem gX3_heartbeat_X3_transactionAt : GoodIn wsX3_heartbeat (wsV RX3 70 RX3 yX3_transactionAt wsX3_transactionAt) := goodIn_app (goodIn_of _ (by decide +kernel)) ggX3_heartbeat_X3_transactionAt
set_option maxRecDepth 20000 in
theorem ggX3_heartbeat_X2_codeOfState : GoodIn wsX3_heartbeat wsX2_codeOfState := goodIn_r _ [10, 11, 27, 28, 29, 30, 31, 32, 33, 34, 35] (by decide +kernel) (by decide +kernel)
set_option maxRecDepth 20000 in
theorem gX3_heartbeat_X2_codeOfState_n124 : GoodIn wsX3_heartbeat (wsX2_codeOfState) := ggX3_heartbeat_X2_codeOfState
set_option maxRecDepth 20000 in
theorem ggX3_heartbeat_X1_haveEvent : GoodIn wsX3_heartbeat wsX1_haveEvent := goodIn_r _ [15, 16, 17, 18, 19, 13, 20, 21, 22, 23, 24, 25, 26, 36, 37] (by decide +kernel) (by decide +kernel)
set_option maxRecDepth 20000 in
theorem gX3_heartbeat_X1_haveEvent_n50 : GoodIn wsX3_heartbeat (wsX1_haveEvent) := ggX3_heartbeat_X1_haveEvent
theorem dX3_heartbeat_0 : decode cX3_heartbeat 0 = .ok (.aload_n 0, 1) := by decide +kernel
theorem dX3_heartbeat_1 : decode cX3_heartbeat 1 = .ok (.iload_n 1, 1) := by decide +kernel
theorem dX3_heartbeat_2 : decode cX3_heartbeat 2 = .ok (.invokevirtual 70, 3) := by decide +kernel
theorem dX3_heartbeat_5 : decode cX3_heartbeat 5 = .ok (.astore_n 2, 1) := by decide +kernel
theorem dX3_heartbeat_6 : decode cX3_heartbeat 6 = .ok (.aload_n 2, 1) := by decide +kernel
theorem dX3_heartbeat_7 : decode cX3_heartbeat 7 = .ok (.ifnonnull 5, 3) := by decide +kernel
theorem dX3_heartbeat_10 : decode cX3_heartbeat 10 = .ok (.iconst (-1), 1) := by decide +kernel
theorem dX3_heartbeat_11 : decode cX3_heartbeat 11 = .ok (.ireturn, 1) := by decide +kernel
theorem dX3_heartbeat_12 : decode cX3_heartbeat 12 = .ok (.aload_n 2, 1) := by decide +kernel
theorem dX3_heartbeat_13 : decode cX3_heartbeat 13 = .ok (.invokevirtual 124, 3) := by decide +kernel
theorem dX3_heartbeat_16 : decode cX3_heartbeat 16 = .ok (.istore_n 3, 1) := by decide +kernel
theorem dX3_heartbeat_17 : decode cX3_heartbeat 17 = .ok (.iload_n 3, 1) := by decide +kernel
theorem dX3_heartbeat_18 : decode cX3_heartbeat 18 = .ok (.ifCond .ne 21, 3) := by decide +kernel
theorem dX3_heartbeat_21 : decode cX3_heartbeat 21 = .ok (.aload_n 2, 1) := by decide +kernel
theorem dX3_heartbeat_22 : decode cX3_heartbeat 22 = .ok (.getfield 85, 3) := by decide +kernel
theorem dX3_heartbeat_25 : decode cX3_heartbeat 25 = .ok (.invokevirtual 50, 3) := by decide +kernel
theorem dX3_heartbeat_28 : decode cX3_heartbeat 28 = .ok (.aload_n 2, 1) := by decide +kernel
theorem dX3_heartbeat_29 : decode cX3_heartbeat 29 = .ok (.aload_n 2, 1) := by decide +kernel
theorem dX3_heartbeat_30 : decode cX3_heartbeat 30 = .ok (.getfield 85, 3) := by decide +kernel
theorem dX3_heartbeat_33 : decode cX3_heartbeat 33 = .ok (.getfield 42, 3) := by decide +kernel
theorem dX3_heartbeat_36 : decode cX3_heartbeat 36 = .ok (.putfield 127, 3) := by decide +kernel
theorem dX3_heartbeat_39 : decode cX3_heartbeat 39 = .ok (.iload_n 3, 1) := by decide +kernel
theorem dX3_heartbeat_40 : decode cX3_heartbeat 40 = .ok (.ireturn, 1) := by decide +kernel
set_option maxRecDepth 20000 in
theorem ggX3_clean_X3_transactionAt : GoodIn wsX3_clean wsX3_transactionAt := goodIn_r _ [6, 7, 41, 42, 43, 44, 45, 46] (by decide +kernel) (by decide +kernel)
set_option maxRecDepth 20000 in
theorem gX3_clean_X3_transactionAt : GoodIn wsX3_clean (wsV RX3 70 RX3 yX3_transactionAt wsX3_transactionAt) := goodIn_app (goodIn_of _ (by decide +kernel)) ggX3_clean_X3_transactionAt
set_option maxRecDepth 20000 in
theorem ggX3_clean_X1_takeIn : GoodIn wsX3_clean wsX1_takeIn := goodIn_r _ [11, 12, 13, 14, 15, 16, 17, 18, 55, 56] (by decide +kernel) (by decide +kernel)
set_option maxRecDepth 20000 in
theorem gX3_clean_X1_takeIn_n92 : GoodIn wsX3_clean (wsX1_takeIn) := ggX3_clean_X1_takeIn
set_option maxRecDepth 20000 in
theorem ggX3_clean_X0_settleIntent : GoodIn wsX3_clean wsX0_settleIntent := goodIn_r _ [22, 23, 24, 25, 26, 27, 20, 28, 29, 30, 31, 47, 48, 49, 50, 51, 52, 53, 54, 32, 33, 34, 35, 36, 37, 38, 39, 40] (by decide +kernel) (by decide +kernel)
set_option maxRecDepth 20000 in
theorem gX3_clean_X0_settleIntent_n134 : GoodIn wsX3_clean (wsX0_settleIntent) := ggX3_clean_X0_settleIntent
theorem dX3_clean_0 : decode cX3_clean 0 = .ok (.aload_n 0, 1) := by decide +kernel
theorem dX3_clean_1 : decode cX3_clean 1 = .ok (.iload_n 1, 1) := by decide +kernel
theorem dX3_clean_2 : decode cX3_clean 2 = .ok (.invokevirtual 70, 3) := by decide +kernel
theorem dX3_clean_5 : decode cX3_clean 5 = .ok (.astore_n 2, 1) := by decide +kernel
theorem dX3_clean_6 : decode cX3_clean 6 = .ok (.aload_n 2, 1) := by decide +kernel
theorem dX3_clean_7 : decode cX3_clean 7 = .ok (.ifnonnull 5, 3) := by decide +kernel
theorem dX3_clean_10 : decode cX3_clean 10 = .ok (.iconst (-1), 1) := by decide +kernel
theorem dX3_clean_11 : decode cX3_clean 11 = .ok (.ireturn, 1) := by decide +kernel
theorem dX3_clean_12 : decode cX3_clean 12 = .ok (.aload_n 2, 1) := by decide +kernel
theorem dX3_clean_13 : decode cX3_clean 13 = .ok (.getfield 118, 3) := by decide +kernel
theorem dX3_clean_16 : decode cX3_clean 16 = .ok (.ifCond .ne 6, 3) := by decide +kernel
theorem dX3_clean_19 : decode cX3_clean 19 = .ok (.bipush (-4), 2) := by decide +kernel
theorem dX3_clean_21 : decode cX3_clean 21 = .ok (.ireturn, 1) := by decide +kernel
theorem dX3_clean_22 : decode cX3_clean 22 = .ok (.aload_n 2, 1) := by decide +kernel
theorem dX3_clean_23 : decode cX3_clean 23 = .ok (.getfield 118, 3) := by decide +kernel
theorem dX3_clean_26 : decode cX3_clean 26 = .ok (.iconst 1, 1) := by decide +kernel
theorem dX3_clean_27 : decode cX3_clean 27 = .ok (.if_icmp .ne 6, 3) := by decide +kernel
theorem dX3_clean_30 : decode cX3_clean 30 = .ok (.bipush (-9), 2) := by decide +kernel
theorem dX3_clean_32 : decode cX3_clean 32 = .ok (.ireturn, 1) := by decide +kernel
theorem dX3_clean_33 : decode cX3_clean 33 = .ok (.aload_n 0, 1) := by decide +kernel
theorem dX3_clean_34 : decode cX3_clean 34 = .ok (.getfield 18, 3) := by decide +kernel
theorem dX3_clean_37 : decode cX3_clean 37 = .ok (.astore_n 3, 1) := by decide +kernel
theorem dX3_clean_38 : decode cX3_clean 38 = .ok (.aload_n 3, 1) := by decide +kernel
theorem dX3_clean_39 : decode cX3_clean 39 = .ok (.arraylength, 1) := by decide +kernel
theorem dX3_clean_40 : decode cX3_clean 40 = .ok (.istore 4, 2) := by decide +kernel
theorem dX3_clean_42 : decode cX3_clean 42 = .ok (.iconst 0, 1) := by decide +kernel
theorem dX3_clean_43 : decode cX3_clean 43 = .ok (.istore 5, 2) := by decide +kernel
theorem dX3_clean_45 : decode cX3_clean 45 = .ok (.iload 5, 2) := by decide +kernel
theorem dX3_clean_47 : decode cX3_clean 47 = .ok (.iload 4, 2) := by decide +kernel
theorem dX3_clean_49 : decode cX3_clean 49 = .ok (.if_icmp .ge 44, 3) := by decide +kernel
theorem dX3_clean_52 : decode cX3_clean 52 = .ok (.aload_n 3, 1) := by decide +kernel
theorem dX3_clean_53 : decode cX3_clean 53 = .ok (.iload 5, 2) := by decide +kernel
theorem dX3_clean_55 : decode cX3_clean 55 = .ok (.aaload, 1) := by decide +kernel
theorem dX3_clean_56 : decode cX3_clean 56 = .ok (.astore 6, 2) := by decide +kernel
theorem dX3_clean_58 : decode cX3_clean 58 = .ok (.aload 6, 2) := by decide +kernel
theorem dX3_clean_60 : decode cX3_clean 60 = .ok (.getfield 130, 3) := by decide +kernel
theorem dX3_clean_63 : decode cX3_clean 63 = .ok (.aload_n 2, 1) := by decide +kernel
theorem dX3_clean_64 : decode cX3_clean 64 = .ok (.if_acmp .ne 23, 3) := by decide +kernel
theorem dX3_clean_67 : decode cX3_clean 67 = .ok (.aload 6, 2) := by decide +kernel
theorem dX3_clean_69 : decode cX3_clean 69 = .ok (.getfield 89, 3) := by decide +kernel
theorem dX3_clean_72 : decode cX3_clean 72 = .ok (.aload_n 2, 1) := by decide +kernel
theorem dX3_clean_73 : decode cX3_clean 73 = .ok (.getfield 85, 3) := by decide +kernel
theorem dX3_clean_76 : decode cX3_clean 76 = .ok (.getfield 55, 3) := by decide +kernel
theorem dX3_clean_79 : decode cX3_clean 79 = .ok (.invokevirtual 92, 3) := by decide +kernel
theorem dX3_clean_82 : decode cX3_clean 82 = .ok (.aload 6, 2) := by decide +kernel
theorem dX3_clean_84 : decode cX3_clean 84 = .ok (.invokevirtual 134, 3) := by decide +kernel
theorem dX3_clean_87 : decode cX3_clean 87 = .ok (.iinc 5 1, 3) := by decide +kernel
theorem dX3_clean_90 : decode cX3_clean 90 = .ok (.goto (-45), 3) := by decide +kernel
theorem dX3_clean_93 : decode cX3_clean 93 = .ok (.aload_n 2, 1) := by decide +kernel
theorem dX3_clean_94 : decode cX3_clean 94 = .ok (.iconst 0, 1) := by decide +kernel
theorem dX3_clean_95 : decode cX3_clean 95 = .ok (.putfield 118, 3) := by decide +kernel
theorem dX3_clean_98 : decode cX3_clean 98 = .ok (.iconst 0, 1) := by decide +kernel
theorem dX3_clean_99 : decode cX3_clean 99 = .ok (.ireturn, 1) := by decide +kernel
set_option maxRecDepth 20000 in
theorem ggX3_state_X3_transactionAt : GoodIn wsX3_state wsX3_transactionAt := goodIn_r _ [5, 6, 16, 17, 18, 19, 20, 21] (by decide +kernel) (by decide +kernel)
set_option maxRecDepth 20000 in
theorem gX3_state_X3_transactionAt : GoodIn wsX3_state (wsV RX3 70 RX3 yX3_transactionAt wsX3_transactionAt) := goodIn_app (goodIn_of _ (by decide +kernel)) ggX3_state_X3_transactionAt
theorem dX3_state_0 : decode cX3_state 0 = .ok (.aload_n 0, 1) := by decide +kernel
theorem dX3_state_1 : decode cX3_state 1 = .ok (.iload_n 1, 1) := by decide +kernel
theorem dX3_state_2 : decode cX3_state 2 = .ok (.invokevirtual 70, 3) := by decide +kernel
theorem dX3_state_5 : decode cX3_state 5 = .ok (.astore_n 2, 1) := by decide +kernel
theorem dX3_state_6 : decode cX3_state 6 = .ok (.aload_n 2, 1) := by decide +kernel
theorem dX3_state_7 : decode cX3_state 7 = .ok (.ifnonnull 7, 3) := by decide +kernel
theorem dX3_state_10 : decode cX3_state 10 = .ok (.iconst (-1), 1) := by decide +kernel
theorem dX3_state_11 : decode cX3_state 11 = .ok (.goto 7, 3) := by decide +kernel
theorem dX3_state_14 : decode cX3_state 14 = .ok (.aload_n 2, 1) := by decide +kernel
theorem dX3_state_15 : decode cX3_state 15 = .ok (.getfield 118, 3) := by decide +kernel
theorem dX3_state_18 : decode cX3_state 18 = .ok (.ireturn, 1) := by decide +kernel
set_option maxRecDepth 20000 in
theorem ggX3_stamp_X3_transactionAt : GoodIn wsX3_stamp wsX3_transactionAt := goodIn_r _ [6, 7, 17, 18, 19, 20, 21, 22] (by decide +kernel) (by decide +kernel)
set_option maxRecDepth 20000 in
theorem gX3_stamp_X3_transactionAt : GoodIn wsX3_stamp (wsV RX3 70 RX3 yX3_transactionAt wsX3_transactionAt) := goodIn_app (goodIn_of _ (by decide +kernel)) ggX3_stamp_X3_transactionAt
theorem dX3_stamp_0 : decode cX3_stamp 0 = .ok (.aload_n 0, 1) := by decide +kernel
theorem dX3_stamp_1 : decode cX3_stamp 1 = .ok (.iload_n 1, 1) := by decide +kernel
theorem dX3_stamp_2 : decode cX3_stamp 2 = .ok (.invokevirtual 70, 3) := by decide +kernel
theorem dX3_stamp_5 : decode cX3_stamp 5 = .ok (.astore_n 2, 1) := by decide +kernel
theorem dX3_stamp_6 : decode cX3_stamp 6 = .ok (.aload_n 2, 1) := by decide +kernel
theorem dX3_stamp_7 : decode cX3_stamp 7 = .ok (.ifnull 18, 3) := by decide +kernel
theorem dX3_stamp_10 : decode cX3_stamp 10 = .ok (.aload_n 2, 1) := by decide +kernel
theorem dX3_stamp_11 : decode cX3_stamp 11 = .ok (.getfield 118, 3) := by decide +kernel
theorem dX3_stamp_14 : decode cX3_stamp 14 = .ok (.ifCond .eq 11, 3) := by decide +kernel
theorem dX3_stamp_17 : decode cX3_stamp 17 = .ok (.aload_n 2, 1) := by decide +kernel
theorem dX3_stamp_18 : decode cX3_stamp 18 = .ok (.getfield 118, 3) := by decide +kernel
theorem dX3_stamp_21 : decode cX3_stamp 21 = .ok (.iconst 3, 1) := by decide +kernel
theorem dX3_stamp_22 : decode cX3_stamp 22 = .ok (.if_icmp .ne 7, 3) := by decide +kernel
theorem dX3_stamp_25 : decode cX3_stamp 25 = .ok (.ldc2_w 53, 3) := by decide +kernel
theorem dX3_stamp_28 : decode cX3_stamp 28 = .ok (.lreturn, 1) := by decide +kernel
theorem dX3_stamp_29 : decode cX3_stamp 29 = .ok (.aload_n 2, 1) := by decide +kernel
theorem dX3_stamp_30 : decode cX3_stamp 30 = .ok (.getfield 107, 3) := by decide +kernel
theorem dX3_stamp_33 : decode cX3_stamp 33 = .ok (.lreturn, 1) := by decide +kernel
set_option maxRecDepth 20000 in
theorem ggX3_versions_X3_keyAt : GoodIn wsX3_versions wsX3_keyAt := goodIn_r _ [5, 6, 15, 16, 17, 18, 19, 20] (by decide +kernel) (by decide +kernel)
set_option maxRecDepth 20000 in
theorem gX3_versions_X3_keyAt : GoodIn wsX3_versions (wsV RX3 74 RX3 yX3_keyAt wsX3_keyAt) := goodIn_app (goodIn_of _ (by decide +kernel)) ggX3_versions_X3_keyAt
theorem dX3_versions_0 : decode cX3_versions 0 = .ok (.aload_n 0, 1) := by decide +kernel
theorem dX3_versions_1 : decode cX3_versions 1 = .ok (.iload_n 1, 1) := by decide +kernel
theorem dX3_versions_2 : decode cX3_versions 2 = .ok (.invokevirtual 74, 3) := by decide +kernel
theorem dX3_versions_5 : decode cX3_versions 5 = .ok (.astore_n 2, 1) := by decide +kernel
theorem dX3_versions_6 : decode cX3_versions 6 = .ok (.aload_n 2, 1) := by decide +kernel
theorem dX3_versions_7 : decode cX3_versions 7 = .ok (.ifnonnull 7, 3) := by decide +kernel
theorem dX3_versions_10 : decode cX3_versions 10 = .ok (.iconst (-1), 1) := by decide +kernel
theorem dX3_versions_11 : decode cX3_versions 11 = .ok (.goto 7, 3) := by decide +kernel
theorem dX3_versions_14 : decode cX3_versions 14 = .ok (.aload_n 2, 1) := by decide +kernel
theorem dX3_versions_15 : decode cX3_versions 15 = .ok (.getfield 137, 3) := by decide +kernel
theorem dX3_versions_18 : decode cX3_versions 18 = .ok (.ireturn, 1) := by decide +kernel
theorem dX3_committed_0 : decode cX3_committed 0 = .ok (.iload_n 1, 1) := by decide +kernel
theorem dX3_committed_1 : decode cX3_committed 1 = .ok (.ifCond .lt 11, 3) := by decide +kernel
theorem dX3_committed_4 : decode cX3_committed 4 = .ok (.iload_n 1, 1) := by decide +kernel
theorem dX3_committed_5 : decode cX3_committed 5 = .ok (.aload_n 0, 1) := by decide +kernel
theorem dX3_committed_6 : decode cX3_committed 6 = .ok (.getfield 140, 3) := by decide +kernel
theorem dX3_committed_9 : decode cX3_committed 9 = .ok (.if_icmp .lt 9, 3) := by decide +kernel
theorem dX3_committed_12 : decode cX3_committed 12 = .ok (.ldc2_w 53, 3) := by decide +kernel
theorem dX3_committed_15 : decode cX3_committed 15 = .ok (.goto 9, 3) := by decide +kernel
theorem dX3_committed_18 : decode cX3_committed 18 = .ok (.aload_n 0, 1) := by decide +kernel
theorem dX3_committed_19 : decode cX3_committed 19 = .ok (.getfield 34, 3) := by decide +kernel
theorem dX3_committed_22 : decode cX3_committed 22 = .ok (.iload_n 1, 1) := by decide +kernel
theorem dX3_committed_23 : decode cX3_committed 23 = .ok (.laload, 1) := by decide +kernel
theorem dX3_committed_24 : decode cX3_committed 24 = .ok (.lreturn, 1) := by decide +kernel
theorem dX3_nodeAt_0 : decode cX3_nodeAt 0 = .ok (.iload_n 1, 1) := by decide +kernel
theorem dX3_nodeAt_1 : decode cX3_nodeAt 1 = .ok (.ifCond .lt 8, 3) := by decide +kernel
theorem dX3_nodeAt_4 : decode cX3_nodeAt 4 = .ok (.iload_n 1, 1) := by decide +kernel
theorem dX3_nodeAt_5 : decode cX3_nodeAt 5 = .ok (.iconst 4, 1) := by decide +kernel
theorem dX3_nodeAt_6 : decode cX3_nodeAt 6 = .ok (.if_icmp .lt 7, 3) := by decide +kernel
theorem dX3_nodeAt_9 : decode cX3_nodeAt 9 = .ok (.aconst_null, 1) := by decide +kernel
theorem dX3_nodeAt_10 : decode cX3_nodeAt 10 = .ok (.goto 9, 3) := by decide +kernel
theorem dX3_nodeAt_13 : decode cX3_nodeAt 13 = .ok (.aload_n 0, 1) := by decide +kernel
theorem dX3_nodeAt_14 : decode cX3_nodeAt 14 = .ok (.getfield 11, 3) := by decide +kernel
theorem dX3_nodeAt_17 : decode cX3_nodeAt 17 = .ok (.iload_n 1, 1) := by decide +kernel
theorem dX3_nodeAt_18 : decode cX3_nodeAt 18 = .ok (.aaload, 1) := by decide +kernel
theorem dX3_nodeAt_19 : decode cX3_nodeAt 19 = .ok (.areturn, 1) := by decide +kernel
theorem dX3_keyAt_0 : decode cX3_keyAt 0 = .ok (.iload_n 1, 1) := by decide +kernel
theorem dX3_keyAt_1 : decode cX3_keyAt 1 = .ok (.ifCond .lt 9, 3) := by decide +kernel
theorem dX3_keyAt_4 : decode cX3_keyAt 4 = .ok (.iload_n 1, 1) := by decide +kernel
theorem dX3_keyAt_5 : decode cX3_keyAt 5 = .ok (.bipush 16, 2) := by decide +kernel
theorem dX3_keyAt_7 : decode cX3_keyAt 7 = .ok (.if_icmp .lt 7, 3) := by decide +kernel
theorem dX3_keyAt_10 : decode cX3_keyAt 10 = .ok (.aconst_null, 1) := by decide +kernel
theorem dX3_keyAt_11 : decode cX3_keyAt 11 = .ok (.goto 9, 3) := by decide +kernel
theorem dX3_keyAt_14 : decode cX3_keyAt 14 = .ok (.aload_n 0, 1) := by decide +kernel
theorem dX3_keyAt_15 : decode cX3_keyAt 15 = .ok (.getfield 18, 3) := by decide +kernel
theorem dX3_keyAt_18 : decode cX3_keyAt 18 = .ok (.iload_n 1, 1) := by decide +kernel
theorem dX3_keyAt_19 : decode cX3_keyAt 19 = .ok (.aaload, 1) := by decide +kernel
theorem dX3_keyAt_20 : decode cX3_keyAt 20 = .ok (.areturn, 1) := by decide +kernel
theorem dX3_transactionAt_0 : decode cX3_transactionAt 0 = .ok (.iload_n 1, 1) := by decide +kernel
theorem dX3_transactionAt_1 : decode cX3_transactionAt 1 = .ok (.ifCond .lt 9, 3) := by decide +kernel
theorem dX3_transactionAt_4 : decode cX3_transactionAt 4 = .ok (.iload_n 1, 1) := by decide +kernel
theorem dX3_transactionAt_5 : decode cX3_transactionAt 5 = .ok (.bipush 8, 2) := by decide +kernel
theorem dX3_transactionAt_7 : decode cX3_transactionAt 7 = .ok (.if_icmp .lt 7, 3) := by decide +kernel
theorem dX3_transactionAt_10 : decode cX3_transactionAt 10 = .ok (.aconst_null, 1) := by decide +kernel
theorem dX3_transactionAt_11 : decode cX3_transactionAt 11 = .ok (.goto 9, 3) := by decide +kernel
theorem dX3_transactionAt_14 : decode cX3_transactionAt 14 = .ok (.aload_n 0, 1) := by decide +kernel
theorem dX3_transactionAt_15 : decode cX3_transactionAt 15 = .ok (.getfield 27, 3) := by decide +kernel
theorem dX3_transactionAt_18 : decode cX3_transactionAt 18 = .ok (.iload_n 1, 1) := by decide +kernel
theorem dX3_transactionAt_19 : decode cX3_transactionAt 19 = .ok (.aaload, 1) := by decide +kernel
theorem dX3_transactionAt_20 : decode cX3_transactionAt 20 = .ok (.areturn, 1) := by decide +kernel
theorem dX3_leastFreeSlot_0 : decode cX3_leastFreeSlot 0 = .ok (.iconst 0, 1) := by decide +kernel
theorem dX3_leastFreeSlot_1 : decode cX3_leastFreeSlot 1 = .ok (.istore_n 1, 1) := by decide +kernel
theorem dX3_leastFreeSlot_2 : decode cX3_leastFreeSlot 2 = .ok (.iload_n 1, 1) := by decide +kernel
theorem dX3_leastFreeSlot_3 : decode cX3_leastFreeSlot 3 = .ok (.bipush 8, 2) := by decide +kernel
theorem dX3_leastFreeSlot_5 : decode cX3_leastFreeSlot 5 = .ok (.if_icmp .ge 23, 3) := by decide +kernel
theorem dX3_leastFreeSlot_8 : decode cX3_leastFreeSlot 8 = .ok (.aload_n 0, 1) := by decide +kernel
theorem dX3_leastFreeSlot_9 : decode cX3_leastFreeSlot 9 = .ok (.getfield 27, 3) := by decide +kernel
theorem dX3_leastFreeSlot_12 : decode cX3_leastFreeSlot 12 = .ok (.iload_n 1, 1) := by decide +kernel
theorem dX3_leastFreeSlot_13 : decode cX3_leastFreeSlot 13 = .ok (.aaload, 1) := by decide +kernel
theorem dX3_leastFreeSlot_14 : decode cX3_leastFreeSlot 14 = .ok (.getfield 118, 3) := by decide +kernel
theorem dX3_leastFreeSlot_17 : decode cX3_leastFreeSlot 17 = .ok (.ifCond .ne 5, 3) := by decide +kernel
theorem dX3_leastFreeSlot_20 : decode cX3_leastFreeSlot 20 = .ok (.iload_n 1, 1) := by decide +kernel
theorem dX3_leastFreeSlot_21 : decode cX3_leastFreeSlot 21 = .ok (.ireturn, 1) := by decide +kernel
theorem dX3_leastFreeSlot_22 : decode cX3_leastFreeSlot 22 = .ok (.iinc 1 1, 3) := by decide +kernel
theorem dX3_leastFreeSlot_25 : decode cX3_leastFreeSlot 25 = .ok (.goto (-23), 3) := by decide +kernel
theorem dX3_leastFreeSlot_28 : decode cX3_leastFreeSlot 28 = .ok (.iconst (-1), 1) := by decide +kernel
theorem dX3_leastFreeSlot_29 : decode cX3_leastFreeSlot 29 = .ok (.ireturn, 1) := by decide +kernel
theorem dX3_runsAhead_0 : decode cX3_runsAhead 0 = .ok (.aload_n 0, 1) := by decide +kernel
theorem dX3_runsAhead_1 : decode cX3_runsAhead 1 = .ok (.getfield 11, 3) := by decide +kernel
theorem dX3_runsAhead_4 : decode cX3_runsAhead 4 = .ok (.astore_n 3, 1) := by decide +kernel
theorem dX3_runsAhead_5 : decode cX3_runsAhead 5 = .ok (.aload_n 3, 1) := by decide +kernel
theorem dX3_runsAhead_6 : decode cX3_runsAhead 6 = .ok (.arraylength, 1) := by decide +kernel
theorem dX3_runsAhead_7 : decode cX3_runsAhead 7 = .ok (.istore 4, 2) := by decide +kernel
theorem dX3_runsAhead_9 : decode cX3_runsAhead 9 = .ok (.iconst 0, 1) := by decide +kernel
theorem dX3_runsAhead_10 : decode cX3_runsAhead 10 = .ok (.istore 5, 2) := by decide +kernel
theorem dX3_runsAhead_12 : decode cX3_runsAhead 12 = .ok (.iload 5, 2) := by decide +kernel
theorem dX3_runsAhead_14 : decode cX3_runsAhead 14 = .ok (.iload 4, 2) := by decide +kernel
theorem dX3_runsAhead_16 : decode cX3_runsAhead 16 = .ok (.if_icmp .ge 35, 3) := by decide +kernel
theorem dX3_runsAhead_19 : decode cX3_runsAhead 19 = .ok (.aload_n 3, 1) := by decide +kernel
theorem dX3_runsAhead_20 : decode cX3_runsAhead 20 = .ok (.iload 5, 2) := by decide +kernel
theorem dX3_runsAhead_22 : decode cX3_runsAhead 22 = .ok (.aaload, 1) := by decide +kernel
theorem dX3_runsAhead_23 : decode cX3_runsAhead 23 = .ok (.astore 6, 2) := by decide +kernel
theorem dX3_runsAhead_25 : decode cX3_runsAhead 25 = .ok (.aload 6, 2) := by decide +kernel
theorem dX3_runsAhead_27 : decode cX3_runsAhead 27 = .ok (.aload_n 1, 1) := by decide +kernel
theorem dX3_runsAhead_28 : decode cX3_runsAhead 28 = .ok (.if_acmp .eq 17, 3) := by decide +kernel
theorem dX3_runsAhead_31 : decode cX3_runsAhead 31 = .ok (.iload_n 2, 1) := by decide +kernel
theorem dX3_runsAhead_32 : decode cX3_runsAhead 32 = .ok (.aload 6, 2) := by decide +kernel
theorem dX3_runsAhead_34 : decode cX3_runsAhead 34 = .ok (.getfield 42, 3) := by decide +kernel
theorem dX3_runsAhead_37 : decode cX3_runsAhead 37 = .ok (.isub, 1) := by decide +kernel
theorem dX3_runsAhead_38 : decode cX3_runsAhead 38 = .ok (.bipush 10, 2) := by decide +kernel
theorem dX3_runsAhead_40 : decode cX3_runsAhead 40 = .ok (.if_icmp .le 5, 3) := by decide +kernel
theorem dX3_runsAhead_43 : decode cX3_runsAhead 43 = .ok (.iconst 1, 1) := by decide +kernel
theorem dX3_runsAhead_44 : decode cX3_runsAhead 44 = .ok (.ireturn, 1) := by decide +kernel
theorem dX3_runsAhead_45 : decode cX3_runsAhead 45 = .ok (.iinc 5 1, 3) := by decide +kernel
theorem dX3_runsAhead_48 : decode cX3_runsAhead 48 = .ok (.goto (-36), 3) := by decide +kernel
theorem dX3_runsAhead_51 : decode cX3_runsAhead 51 = .ok (.iconst 0, 1) := by decide +kernel
theorem dX3_runsAhead_52 : decode cX3_runsAhead 52 = .ok (.ireturn, 1) := by decide +kernel
set_option maxRecDepth 20000 in
theorem ggX3_readAtOwner_X3_lookUp : GoodIn wsX3_readAtOwner wsX3_lookUp := goodIn_r _ [6, 7, 8, 9, 10, 11, 12, 13, 14, 15, 16, 17, 18, 19, 20, 21, 22, 23, 24, 25, 26, 27, 28, 29, 30, 31, 32, 33, 34, 35, 36, 37, 70, 71, 72, 73, 74, 75, 76, 77, 78, 79, 80, 81, 82, 83, 84, 85, 86, 87, 88] (by decide +kernel) (by decide +kernel)
set_option maxRecDepth 20000 in
theorem gX3_readAtOwner_X3_lookUp : GoodIn wsX3_readAtOwner (va_wsS RX3 146 yX3_lookUp wsX3_lookUp) := goodIn_app (goodIn_of _ (by decide +kernel)) ggX3_readAtOwner_X3_lookUp
set_option maxRecDepth 20000 in
theorem ggX3_readAtOwner_X2_pushWriteStampAbove : GoodIn wsX3_readAtOwner wsX2_pushWriteStampAbove := goodIn_r _ [40, 41, 42, 13, 14, 15, 78, 79, 80, 81, 82, 83, 84, 85, 86] (by decide +kernel) (by decide +kernel)
set_option maxRecDepth 20000 in
theorem gX3_readAtOwner_X2_pushWriteStampAbove_n150 : GoodIn wsX3_readAtOwner (wsX2_pushWriteStampAbove) := ggX3_readAtOwner_X2_pushWriteStampAbove
set_option maxRecDepth 20000 in
theorem ggX3_readAtOwner_X0_greatestStampIn : GoodIn wsX3_readAtOwner wsX0_greatestStampIn := goodIn_r _ [45, 46, 36, 47, 48, 49, 26, 50, 35, 70, 71, 72, 73, 74, 75, 76, 77] (by decide +kernel) (by decide +kernel)
set_option maxRecDepth 20000 in
theorem gX3_readAtOwner_X0_greatestStampIn_n156 : GoodIn wsX3_readAtOwner (wsX0_greatestStampIn) := ggX3_readAtOwner_X0_greatestStampIn
set_option maxRecDepth 20000 in
theorem ggX3_readAtOwner_X3_restart : GoodIn wsX3_readAtOwner wsX3_restart := goodIn_r _ [54, 55, 56, 19, 57, 58, 59, 41, 42, 13, 14, 15, 60, 61, 89, 90, 91, 92, 93, 94, 70, 71, 72, 73, 74, 75, 76, 77, 78, 79, 80, 81, 82, 83, 84, 85, 86] (by decide +kernel) (by decide +kernel)
set_option maxRecDepth 20000 in
theorem gX3_readAtOwner_X3_restart : GoodIn wsX3_readAtOwner (wsV RX3 114 RX3 yX3_restart wsX3_restart) := goodIn_app (goodIn_of _ (by decide +kernel)) ggX3_readAtOwner_X3_restart
set_option maxRecDepth 20000 in
theorem ggX3_readAtOwner_X0_raiseReadMark : GoodIn wsX3_readAtOwner wsX0_raiseReadMark := goodIn_r _ [64, 65, 66, 13, 14, 15, 70, 71, 72, 73, 74, 75, 76, 77] (by decide +kernel) (by decide +kernel)
set_option maxRecDepth 20000 in
theorem gX3_readAtOwner_X0_raiseReadMark_n162 : GoodIn wsX3_readAtOwner (wsX0_raiseReadMark) := ggX3_readAtOwner_X0_raiseReadMark
set_option maxRecDepth 20000 in
theorem ggX3_readAtOwner_X0_valueAt : GoodIn wsX3_readAtOwner wsX0_valueAt := goodIn_r _ [69, 46, 37, 47, 48, 49, 26, 50, 35, 36, 70, 71, 72, 73, 74, 75, 76, 77] (by decide +kernel) (by decide +kernel)
set_option maxRecDepth 20000 in
theorem gX3_readAtOwner_X0_valueAt_n171 : GoodIn wsX3_readAtOwner (wsX0_valueAt) := ggX3_readAtOwner_X0_valueAt
theorem dX3_readAtOwner_0 : decode cX3_readAtOwner 0 = .ok (.aload_n 2, 1) := by decide +kernel
theorem dX3_readAtOwner_1 : decode cX3_readAtOwner 1 = .ok (.getfield 130, 3) := by decide +kernel
theorem dX3_readAtOwner_4 : decode cX3_readAtOwner 4 = .ok (.aload_n 1, 1) := by decide +kernel
theorem dX3_readAtOwner_5 : decode cX3_readAtOwner 5 = .ok (.if_acmp .ne 9, 3) := by decide +kernel
theorem dX3_readAtOwner_8 : decode cX3_readAtOwner 8 = .ok (.aload_n 2, 1) := by decide +kernel
theorem dX3_readAtOwner_9 : decode cX3_readAtOwner 9 = .ok (.getfield 143, 3) := by decide +kernel
theorem dX3_readAtOwner_12 : decode cX3_readAtOwner 12 = .ok (.i2l, 1) := by decide +kernel
theorem dX3_readAtOwner_13 : decode cX3_readAtOwner 13 = .ok (.lreturn, 1) := by decide +kernel
theorem dX3_readAtOwner_14 : decode cX3_readAtOwner 14 = .ok (.aload_n 2, 1) := by decide +kernel
theorem dX3_readAtOwner_15 : decode cX3_readAtOwner 15 = .ok (.aload_n 1, 1) := by decide +kernel
theorem dX3_readAtOwner_16 : decode cX3_readAtOwner 16 = .ok (.invokestatic 146, 3) := by decide +kernel
theorem dX3_readAtOwner_19 : decode cX3_readAtOwner 19 = .ok (.astore_n 3, 1) := by decide +kernel
theorem dX3_readAtOwner_20 : decode cX3_readAtOwner 20 = .ok (.aload_n 3, 1) := by decide +kernel
theorem dX3_readAtOwner_21 : decode cX3_readAtOwner 21 = .ok (.ifnull 11, 3) := by decide +kernel
theorem dX3_readAtOwner_24 : decode cX3_readAtOwner 24 = .ok (.aload_n 3, 1) := by decide +kernel
theorem dX3_readAtOwner_25 : decode cX3_readAtOwner 25 = .ok (.aload_n 1, 1) := by decide +kernel
theorem dX3_readAtOwner_26 : decode cX3_readAtOwner 26 = .ok (.getfield 107, 3) := by decide +kernel
theorem dX3_readAtOwner_29 : decode cX3_readAtOwner 29 = .ok (.invokevirtual 150, 3) := by decide +kernel
theorem dX3_readAtOwner_32 : decode cX3_readAtOwner 32 = .ok (.aload_n 2, 1) := by decide +kernel
theorem dX3_readAtOwner_33 : decode cX3_readAtOwner 33 = .ok (.aload_n 1, 1) := by decide +kernel
theorem dX3_readAtOwner_34 : decode cX3_readAtOwner 34 = .ok (.getfield 107, 3) := by decide +kernel
theorem dX3_readAtOwner_37 : decode cX3_readAtOwner 37 = .ok (.aload_n 1, 1) := by decide +kernel
theorem dX3_readAtOwner_38 : decode cX3_readAtOwner 38 = .ok (.getfield 153, 3) := by decide +kernel
theorem dX3_readAtOwner_41 : decode cX3_readAtOwner 41 = .ok (.invokevirtual 156, 3) := by decide +kernel
theorem dX3_readAtOwner_44 : decode cX3_readAtOwner 44 = .ok (.lstore 4, 2) := by decide +kernel
theorem dX3_readAtOwner_46 : decode cX3_readAtOwner 46 = .ok (.lload 4, 2) := by decide +kernel
theorem dX3_readAtOwner_48 : decode cX3_readAtOwner 48 = .ok (.ldc2_w 53, 3) := by decide +kernel
theorem dX3_readAtOwner_51 : decode cX3_readAtOwner 51 = .ok (.lcmp, 1) := by decide +kernel
theorem dX3_readAtOwner_52 : decode cX3_readAtOwner 52 = .ok (.ifCond .eq 14, 3) := by decide +kernel
theorem dX3_readAtOwner_55 : decode cX3_readAtOwner 55 = .ok (.aload_n 0, 1) := by decide +kernel
theorem dX3_readAtOwner_56 : decode cX3_readAtOwner 56 = .ok (.aload_n 1, 1) := by decide +kernel
theorem dX3_readAtOwner_57 : decode cX3_readAtOwner 57 = .ok (.lload 4, 2) := by decide +kernel
theorem dX3_readAtOwner_59 : decode cX3_readAtOwner 59 = .ok (.invokevirtual 114, 3) := by decide +kernel
theorem dX3_readAtOwner_62 : decode cX3_readAtOwner 62 = .ok (.ldc2_w 160, 3) := by decide +kernel
theorem dX3_readAtOwner_65 : decode cX3_readAtOwner 65 = .ok (.lreturn, 1) := by decide +kernel
theorem dX3_readAtOwner_66 : decode cX3_readAtOwner 66 = .ok (.aload_n 2, 1) := by decide +kernel
theorem dX3_readAtOwner_67 : decode cX3_readAtOwner 67 = .ok (.aload_n 1, 1) := by decide +kernel
theorem dX3_readAtOwner_68 : decode cX3_readAtOwner 68 = .ok (.getfield 107, 3) := by decide +kernel
theorem dX3_readAtOwner_71 : decode cX3_readAtOwner 71 = .ok (.invokevirtual 162, 3) := by decide +kernel
theorem dX3_readAtOwner_74 : decode cX3_readAtOwner 74 = .ok (.aload_n 1, 1) := by decide +kernel
theorem dX3_readAtOwner_75 : decode cX3_readAtOwner 75 = .ok (.dup, 1) := by decide +kernel
theorem dX3_readAtOwner_76 : decode cX3_readAtOwner 76 = .ok (.getfield 165, 3) := by decide +kernel
theorem dX3_readAtOwner_79 : decode cX3_readAtOwner 79 = .ok (.aload_n 2, 1) := by decide +kernel
theorem dX3_readAtOwner_80 : decode cX3_readAtOwner 80 = .ok (.getfield 168, 3) := by decide +kernel
theorem dX3_readAtOwner_83 : decode cX3_readAtOwner 83 = .ok (.ior, 1) := by decide +kernel
theorem dX3_readAtOwner_84 : decode cX3_readAtOwner 84 = .ok (.putfield 165, 3) := by decide +kernel
theorem dX3_readAtOwner_87 : decode cX3_readAtOwner 87 = .ok (.aload_n 2, 1) := by decide +kernel
theorem dX3_readAtOwner_88 : decode cX3_readAtOwner 88 = .ok (.aload_n 1, 1) := by decide +kernel
theorem dX3_readAtOwner_89 : decode cX3_readAtOwner 89 = .ok (.getfield 107, 3) := by decide +kernel
theorem dX3_readAtOwner_92 : decode cX3_readAtOwner 92 = .ok (.invokevirtual 171, 3) := by decide +kernel
theorem dX3_readAtOwner_95 : decode cX3_readAtOwner 95 = .ok (.i2l, 1) := by decide +kernel
theorem dX3_readAtOwner_96 : decode cX3_readAtOwner 96 = .ok (.lreturn, 1) := by decide +kernel
set_option maxRecDepth 20000 in
theorem ggX3_writeAtOwner_X3_lookUp : GoodIn wsX3_writeAtOwner wsX3_lookUp := goodIn_r _ [6, 7, 8, 9, 10, 11, 12, 13, 14, 15, 16, 17, 18, 19, 20, 21, 22, 23, 24, 25, 26, 27, 28, 29, 30, 31, 32, 33, 34, 35, 36, 37, 62, 63, 64, 65, 66, 67, 68, 69, 70, 71, 72, 73, 74, 75, 76, 77, 78, 79, 80] (by decide +kernel) (by decide +kernel)
set_option maxRecDepth 20000 in
theorem gX3_writeAtOwner_X3_lookUp : GoodIn wsX3_writeAtOwner (va_wsS RX3 146 yX3_lookUp wsX3_lookUp) := goodIn_app (goodIn_of _ (by decide +kernel)) ggX3_writeAtOwner_X3_lookUp
set_option maxRecDepth 20000 in
theorem ggX3_writeAtOwner_X3_restart : GoodIn wsX3_writeAtOwner wsX3_restart := goodIn_r _ [41, 42, 43, 19, 44, 45, 46, 47, 48, 13, 14, 15, 49, 50, 81, 82, 83, 84, 85, 86, 62, 63, 64, 65, 66, 67, 68, 69, 70, 71, 72, 73, 74, 75, 76, 77, 78] (by decide +kernel) (by decide +kernel)
set_option maxRecDepth 20000 in
theorem gX3_writeAtOwner_X3_restart : GoodIn wsX3_writeAtOwner (wsV RX3 114 RX3 yX3_restart wsX3_restart) := goodIn_app (goodIn_of _ (by decide +kernel)) ggX3_writeAtOwner_X3_restart
set_option maxRecDepth 20000 in
theorem ggX3_writeAtOwner_X2_pushWriteStampAbove : GoodIn wsX3_writeAtOwner wsX2_pushWriteStampAbove := goodIn_r _ [53, 47, 48, 13, 14, 15, 70, 71, 72, 73, 74, 75, 76, 77, 78] (by decide +kernel) (by decide +kernel)
set_option maxRecDepth 20000 in
theorem gX3_writeAtOwner_X2_pushWriteStampAbove_n150 : GoodIn wsX3_writeAtOwner (wsX2_pushWriteStampAbove) := ggX3_writeAtOwner_X2_pushWriteStampAbove
set_option maxRecDepth 20000 in
theorem ggX3_writeAtOwner_X0_greatestStampIn : GoodIn wsX3_writeAtOwner wsX0_greatestStampIn := goodIn_r _ [56, 57, 36, 58, 59, 60, 26, 61, 35, 62, 63, 64, 65, 66, 67, 68, 69] (by decide +kernel) (by decide +kernel)
set_option maxRecDepth 20000 in
theorem gX3_writeAtOwner_X0_greatestStampIn_n156 : GoodIn wsX3_writeAtOwner (wsX0_greatestStampIn) := ggX3_writeAtOwner_X0_greatestStampIn
theorem dX3_writeAtOwner_0 : decode cX3_writeAtOwner 0 = .ok (.aload_n 2, 1) := by decide +kernel
theorem dX3_writeAtOwner_1 : decode cX3_writeAtOwner 1 = .ok (.getfield 130, 3) := by decide +kernel
theorem dX3_writeAtOwner_4 : decode cX3_writeAtOwner 4 = .ok (.aload_n 1, 1) := by decide +kernel
theorem dX3_writeAtOwner_5 : decode cX3_writeAtOwner 5 = .ok (.if_acmp .ne 10, 3) := by decide +kernel
theorem dX3_writeAtOwner_8 : decode cX3_writeAtOwner 8 = .ok (.aload_n 2, 1) := by decide +kernel
theorem dX3_writeAtOwner_9 : decode cX3_writeAtOwner 9 = .ok (.iload_n 3, 1) := by decide +kernel
theorem dX3_writeAtOwner_10 : decode cX3_writeAtOwner 10 = .ok (.putfield 143, 3) := by decide +kernel
theorem dX3_writeAtOwner_13 : decode cX3_writeAtOwner 13 = .ok (.iconst 0, 1) := by decide +kernel
theorem dX3_writeAtOwner_14 : decode cX3_writeAtOwner 14 = .ok (.ireturn, 1) := by decide +kernel
theorem dX3_writeAtOwner_15 : decode cX3_writeAtOwner 15 = .ok (.aload_n 2, 1) := by decide +kernel
theorem dX3_writeAtOwner_16 : decode cX3_writeAtOwner 16 = .ok (.aload_n 1, 1) := by decide +kernel
theorem dX3_writeAtOwner_17 : decode cX3_writeAtOwner 17 = .ok (.invokestatic 146, 3) := by decide +kernel
theorem dX3_writeAtOwner_20 : decode cX3_writeAtOwner 20 = .ok (.astore 4, 2) := by decide +kernel
theorem dX3_writeAtOwner_22 : decode cX3_writeAtOwner 22 = .ok (.aload 4, 2) := by decide +kernel
theorem dX3_writeAtOwner_24 : decode cX3_writeAtOwner 24 = .ok (.ifnull 31, 3) := by decide +kernel
theorem dX3_writeAtOwner_27 : decode cX3_writeAtOwner 27 = .ok (.aload 4, 2) := by decide +kernel
theorem dX3_writeAtOwner_29 : decode cX3_writeAtOwner 29 = .ok (.getfield 175, 3) := by decide +kernel
theorem dX3_writeAtOwner_32 : decode cX3_writeAtOwner 32 = .ok (.aload_n 1, 1) := by decide +kernel
theorem dX3_writeAtOwner_33 : decode cX3_writeAtOwner 33 = .ok (.getfield 175, 3) := by decide +kernel
theorem dX3_writeAtOwner_36 : decode cX3_writeAtOwner 36 = .ok (.if_icmp .ge 6, 3) := by decide +kernel
theorem dX3_writeAtOwner_39 : decode cX3_writeAtOwner 39 = .ok (.bipush (-5), 2) := by decide +kernel
theorem dX3_writeAtOwner_41 : decode cX3_writeAtOwner 41 = .ok (.ireturn, 1) := by decide +kernel
theorem dX3_writeAtOwner_42 : decode cX3_writeAtOwner 42 = .ok (.aload_n 0, 1) := by decide +kernel
theorem dX3_writeAtOwner_43 : decode cX3_writeAtOwner 43 = .ok (.aload 4, 2) := by decide +kernel
theorem dX3_writeAtOwner_45 : decode cX3_writeAtOwner 45 = .ok (.lconst 0, 1) := by decide +kernel
theorem dX3_writeAtOwner_46 : decode cX3_writeAtOwner 46 = .ok (.invokevirtual 114, 3) := by decide +kernel
theorem dX3_writeAtOwner_49 : decode cX3_writeAtOwner 49 = .ok (.aload 4, 2) := by decide +kernel
theorem dX3_writeAtOwner_51 : decode cX3_writeAtOwner 51 = .ok (.iconst 1, 1) := by decide +kernel
theorem dX3_writeAtOwner_52 : decode cX3_writeAtOwner 52 = .ok (.putfield 178, 3) := by decide +kernel
theorem dX3_writeAtOwner_55 : decode cX3_writeAtOwner 55 = .ok (.aload_n 2, 1) := by decide +kernel
theorem dX3_writeAtOwner_56 : decode cX3_writeAtOwner 56 = .ok (.getfield 137, 3) := by decide +kernel
theorem dX3_writeAtOwner_59 : decode cX3_writeAtOwner 59 = .ok (.bipush 16, 2) := by decide +kernel
theorem dX3_writeAtOwner_61 : decode cX3_writeAtOwner 61 = .ok (.if_icmp .lt 6, 3) := by decide +kernel
theorem dX3_writeAtOwner_64 : decode cX3_writeAtOwner 64 = .ok (.bipush (-7), 2) := by decide +kernel
theorem dX3_writeAtOwner_66 : decode cX3_writeAtOwner 66 = .ok (.ireturn, 1) := by decide +kernel
theorem dX3_writeAtOwner_67 : decode cX3_writeAtOwner 67 = .ok (.aload_n 1, 1) := by decide +kernel
theorem dX3_writeAtOwner_68 : decode cX3_writeAtOwner 68 = .ok (.aload_n 2, 1) := by decide +kernel
theorem dX3_writeAtOwner_69 : decode cX3_writeAtOwner 69 = .ok (.getfield 182, 3) := by decide +kernel
theorem dX3_writeAtOwner_72 : decode cX3_writeAtOwner 72 = .ok (.invokevirtual 150, 3) := by decide +kernel
theorem dX3_writeAtOwner_75 : decode cX3_writeAtOwner 75 = .ok (.aload_n 1, 1) := by decide +kernel
theorem dX3_writeAtOwner_76 : decode cX3_writeAtOwner 76 = .ok (.aload_n 2, 1) := by decide +kernel
theorem dX3_writeAtOwner_77 : decode cX3_writeAtOwner 77 = .ok (.ldc2_w 53, 3) := by decide +kernel
theorem dX3_writeAtOwner_80 : decode cX3_writeAtOwner 80 = .ok (.ldc2_w 187, 3) := by decide +kernel
theorem dX3_writeAtOwner_83 : decode cX3_writeAtOwner 83 = .ok (.invokevirtual 156, 3) := by decide +kernel
theorem dX3_writeAtOwner_86 : decode cX3_writeAtOwner 86 = .ok (.invokevirtual 150, 3) := by decide +kernel
theorem dX3_writeAtOwner_89 : decode cX3_writeAtOwner 89 = .ok (.aload_n 2, 1) := by decide +kernel
theorem dX3_writeAtOwner_90 : decode cX3_writeAtOwner 90 = .ok (.aload_n 1, 1) := by decide +kernel
theorem dX3_writeAtOwner_91 : decode cX3_writeAtOwner 91 = .ok (.putfield 130, 3) := by decide +kernel
theorem dX3_writeAtOwner_94 : decode cX3_writeAtOwner 94 = .ok (.aload_n 2, 1) := by decide +kernel
theorem dX3_writeAtOwner_95 : decode cX3_writeAtOwner 95 = .ok (.iload_n 3, 1) := by decide +kernel
theorem dX3_writeAtOwner_96 : decode cX3_writeAtOwner 96 = .ok (.putfield 143, 3) := by decide +kernel
theorem dX3_writeAtOwner_99 : decode cX3_writeAtOwner 99 = .ok (.iconst 0, 1) := by decide +kernel
theorem dX3_writeAtOwner_100 : decode cX3_writeAtOwner 100 = .ok (.ireturn, 1) := by decide +kernel
set_option maxRecDepth 20000 in
theorem ggX3_moveReadsToWriteStamp_X3_moveReadToWriteStamp : GoodIn wsX3_moveReadsToWriteStamp wsX3_moveReadToWriteStamp := goodIn_r _ [5, 6, 7, 8, 9, 10, 11, 12, 13, 14, 15, 16, 17, 18, 19, 4, 20, 21, 22, 23, 24, 25, 26, 27, 28, 29, 30, 31, 32, 33, 34, 35, 36, 37, 38, 39, 40, 41, 42, 43, 44, 45, 46, 47, 48, 49, 50, 51, 52, 53, 54, 55, 56, 57, 58, 74, 75, 76, 77, 78, 79, 80, 81, 65, 66, 67, 68, 69, 70, 71, 72, 73, 82, 83] (by decide +kernel) (by decide +kernel)
set_option maxRecDepth 20000 in
theorem gX3_moveReadsToWriteStamp_X3_moveReadToWriteStamp : GoodIn wsX3_moveReadsToWriteStamp (va_wsS RX3 189 yX3_moveReadToWriteStamp wsX3_moveReadToWriteStamp) := goodIn_app (goodIn_of _ (by decide +kernel)) ggX3_moveReadsToWriteStamp_X3_moveReadToWriteStamp
theorem dX3_moveReadsToWriteStamp_0 : decode cX3_moveReadsToWriteStamp 0 = .ok (.aload_n 0, 1) := by decide +kernel
theorem dX3_moveReadsToWriteStamp_1 : decode cX3_moveReadsToWriteStamp 1 = .ok (.getfield 18, 3) := by decide +kernel
theorem dX3_moveReadsToWriteStamp_4 : decode cX3_moveReadsToWriteStamp 4 = .ok (.astore_n 2, 1) := by decide +kernel
theorem dX3_moveReadsToWriteStamp_5 : decode cX3_moveReadsToWriteStamp 5 = .ok (.aload_n 2, 1) := by decide +kernel
theorem dX3_moveReadsToWriteStamp_6 : decode cX3_moveReadsToWriteStamp 6 = .ok (.arraylength, 1) := by decide +kernel
theorem dX3_moveReadsToWriteStamp_7 : decode cX3_moveReadsToWriteStamp 7 = .ok (.istore_n 3, 1) := by decide +kernel
theorem dX3_moveReadsToWriteStamp_8 : decode cX3_moveReadsToWriteStamp 8 = .ok (.iconst 0, 1) := by decide +kernel
theorem dX3_moveReadsToWriteStamp_9 : decode cX3_moveReadsToWriteStamp 9 = .ok (.istore 4, 2) := by decide +kernel
theorem dX3_moveReadsToWriteStamp_11 : decode cX3_moveReadsToWriteStamp 11 = .ok (.iload 4, 2) := by decide +kernel
theorem dX3_moveReadsToWriteStamp_13 : decode cX3_moveReadsToWriteStamp 13 = .ok (.iload_n 3, 1) := by decide +kernel
theorem dX3_moveReadsToWriteStamp_14 : decode cX3_moveReadsToWriteStamp 14 = .ok (.if_icmp .ge 39, 3) := by decide +kernel
theorem dX3_moveReadsToWriteStamp_17 : decode cX3_moveReadsToWriteStamp 17 = .ok (.aload_n 2, 1) := by decide +kernel
theorem dX3_moveReadsToWriteStamp_18 : decode cX3_moveReadsToWriteStamp 18 = .ok (.iload 4, 2) := by decide +kernel
theorem dX3_moveReadsToWriteStamp_20 : decode cX3_moveReadsToWriteStamp 20 = .ok (.aaload, 1) := by decide +kernel
theorem dX3_moveReadsToWriteStamp_21 : decode cX3_moveReadsToWriteStamp 21 = .ok (.astore 5, 2) := by decide +kernel
theorem dX3_moveReadsToWriteStamp_23 : decode cX3_moveReadsToWriteStamp 23 = .ok (.aload_n 1, 1) := by decide +kernel
theorem dX3_moveReadsToWriteStamp_24 : decode cX3_moveReadsToWriteStamp 24 = .ok (.getfield 165, 3) := by decide +kernel
theorem dX3_moveReadsToWriteStamp_27 : decode cX3_moveReadsToWriteStamp 27 = .ok (.aload 5, 2) := by decide +kernel
theorem dX3_moveReadsToWriteStamp_29 : decode cX3_moveReadsToWriteStamp 29 = .ok (.getfield 168, 3) := by decide +kernel
theorem dX3_moveReadsToWriteStamp_32 : decode cX3_moveReadsToWriteStamp 32 = .ok (.iand, 1) := by decide +kernel
theorem dX3_moveReadsToWriteStamp_33 : decode cX3_moveReadsToWriteStamp 33 = .ok (.ifCond .eq 14, 3) := by decide +kernel
theorem dX3_moveReadsToWriteStamp_36 : decode cX3_moveReadsToWriteStamp 36 = .ok (.aload_n 1, 1) := by decide +kernel
theorem dX3_moveReadsToWriteStamp_37 : decode cX3_moveReadsToWriteStamp 37 = .ok (.aload 5, 2) := by decide +kernel
theorem dX3_moveReadsToWriteStamp_39 : decode cX3_moveReadsToWriteStamp 39 = .ok (.invokestatic 189, 3) := by decide +kernel
theorem dX3_moveReadsToWriteStamp_42 : decode cX3_moveReadsToWriteStamp 42 = .ok (.ifCond .ne 5, 3) := by decide +kernel
theorem dX3_moveReadsToWriteStamp_45 : decode cX3_moveReadsToWriteStamp 45 = .ok (.iconst 0, 1) := by decide +kernel
theorem dX3_moveReadsToWriteStamp_46 : decode cX3_moveReadsToWriteStamp 46 = .ok (.ireturn, 1) := by decide +kernel
theorem dX3_moveReadsToWriteStamp_47 : decode cX3_moveReadsToWriteStamp 47 = .ok (.iinc 4 1, 3) := by decide +kernel
theorem dX3_moveReadsToWriteStamp_50 : decode cX3_moveReadsToWriteStamp 50 = .ok (.goto (-39), 3) := by decide +kernel
theorem dX3_moveReadsToWriteStamp_53 : decode cX3_moveReadsToWriteStamp 53 = .ok (.iconst 1, 1) := by decide +kernel
theorem dX3_moveReadsToWriteStamp_54 : decode cX3_moveReadsToWriteStamp 54 = .ok (.ireturn, 1) := by decide +kernel
set_option maxRecDepth 20000 in
theorem ggX3_moveReadToWriteStamp_X1_takeIn : GoodIn wsX3_moveReadToWriteStamp wsX1_takeIn := goodIn_r _ [5, 6, 7, 8, 9, 10, 11, 12, 72, 73] (by decide +kernel) (by decide +kernel)
set_option maxRecDepth 20000 in
theorem gX3_moveReadToWriteStamp_X1_takeIn_n92 : GoodIn wsX3_moveReadToWriteStamp (wsX1_takeIn) := ggX3_moveReadToWriteStamp_X1_takeIn
set_option maxRecDepth 20000 in
theorem ggX3_moveReadToWriteStamp_X3_lookUp : GoodIn wsX3_moveReadToWriteStamp wsX3_lookUp := goodIn_r _ [16, 2, 3, 4, 5, 6, 7, 8, 9, 10, 11, 12, 17, 18, 19, 20, 21, 22, 23, 24, 25, 26, 27, 28, 29, 30, 31, 32, 33, 34, 35, 36, 55, 56, 57, 58, 59, 60, 61, 62, 63, 64, 65, 66, 67, 68, 69, 70, 71, 72, 73] (by decide +kernel) (by decide +kernel)
set_option maxRecDepth 20000 in
theorem gX3_moveReadToWriteStamp_X3_lookUp : GoodIn wsX3_moveReadToWriteStamp (va_wsS RX3 146 yX3_lookUp wsX3_lookUp) := goodIn_app (goodIn_of _ (by decide +kernel)) ggX3_moveReadToWriteStamp_X3_lookUp
set_option maxRecDepth 20000 in
theorem ggX3_moveReadToWriteStamp_X2_pushWriteStampAbove : GoodIn wsX3_moveReadToWriteStamp wsX2_pushWriteStampAbove := goodIn_r _ [39, 40, 41, 8, 9, 10, 63, 64, 65, 66, 67, 68, 69, 70, 71] (by decide +kernel) (by decide +kernel)
set_option maxRecDepth 20000 in
theorem gX3_moveReadToWriteStamp_X2_pushWriteStampAbove_n150 : GoodIn wsX3_moveReadToWriteStamp (wsX2_pushWriteStampAbove) := ggX3_moveReadToWriteStamp_X2_pushWriteStampAbove
set_option maxRecDepth 20000 in
theorem ggX3_moveReadToWriteStamp_X0_greatestStampIn : GoodIn wsX3_moveReadToWriteStamp wsX0_greatestStampIn := goodIn_r _ [44, 45, 35, 46, 47, 48, 25, 49, 34, 55, 56, 57, 58, 59, 60, 61, 62] (by decide +kernel) (by decide +kernel)
set_option maxRecDepth 20000 in
theorem gX3_moveReadToWriteStamp_X0_greatestStampIn_n156 : GoodIn wsX3_moveReadToWriteStamp (wsX0_greatestStampIn) := ggX3_moveReadToWriteStamp_X0_greatestStampIn
set_option maxRecDepth 20000 in
theorem ggX3_moveReadToWriteStamp_X0_raiseReadMark : GoodIn wsX3_moveReadToWriteStamp wsX0_raiseReadMark := goodIn_r _ [52, 53, 54, 8, 9, 10, 55, 56, 57, 58, 59, 60, 61, 62] (by decide +kernel) (by decide +kernel)
set_option maxRecDepth 20000 in
theorem gX3_moveReadToWriteStamp_X0_raiseReadMark_n162 : GoodIn wsX3_moveReadToWriteStamp (wsX0_raiseReadMark) := ggX3_moveReadToWriteStamp_X0_raiseReadMark
theorem dX3_moveReadToWriteStamp_0 : decode cX3_moveReadToWriteStamp 0 = .ok (.aload_n 1, 1) := by decide +kernel
theorem dX3_moveReadToWriteStamp_1 : decode cX3_moveReadToWriteStamp 1 = .ok (.getfield 89, 3) := by decide +kernel
theorem dX3_moveReadToWriteStamp_4 : decode cX3_moveReadToWriteStamp 4 = .ok (.aload_n 0, 1) := by decide +kernel
theorem dX3_moveReadToWriteStamp_5 : decode cX3_moveReadToWriteStamp 5 = .ok (.getfield 85, 3) := by decide +kernel
theorem dX3_moveReadToWriteStamp_8 : decode cX3_moveReadToWriteStamp 8 = .ok (.getfield 55, 3) := by decide +kernel
theorem dX3_moveReadToWriteStamp_11 : decode cX3_moveReadToWriteStamp 11 = .ok (.invokevirtual 92, 3) := by decide +kernel
theorem dX3_moveReadToWriteStamp_14 : decode cX3_moveReadToWriteStamp 14 = .ok (.aload_n 1, 1) := by decide +kernel
theorem dX3_moveReadToWriteStamp_15 : decode cX3_moveReadToWriteStamp 15 = .ok (.aload_n 0, 1) := by decide +kernel
theorem dX3_moveReadToWriteStamp_16 : decode cX3_moveReadToWriteStamp 16 = .ok (.invokestatic 146, 3) := by decide +kernel
theorem dX3_moveReadToWriteStamp_19 : decode cX3_moveReadToWriteStamp 19 = .ok (.astore_n 2, 1) := by decide +kernel
theorem dX3_moveReadToWriteStamp_20 : decode cX3_moveReadToWriteStamp 20 = .ok (.aload_n 2, 1) := by decide +kernel
theorem dX3_moveReadToWriteStamp_21 : decode cX3_moveReadToWriteStamp 21 = .ok (.ifnull 11, 3) := by decide +kernel
theorem dX3_moveReadToWriteStamp_24 : decode cX3_moveReadToWriteStamp 24 = .ok (.aload_n 2, 1) := by decide +kernel
theorem dX3_moveReadToWriteStamp_25 : decode cX3_moveReadToWriteStamp 25 = .ok (.aload_n 0, 1) := by decide +kernel
theorem dX3_moveReadToWriteStamp_26 : decode cX3_moveReadToWriteStamp 26 = .ok (.getfield 104, 3) := by decide +kernel
theorem dX3_moveReadToWriteStamp_29 : decode cX3_moveReadToWriteStamp 29 = .ok (.invokevirtual 150, 3) := by decide +kernel
theorem dX3_moveReadToWriteStamp_32 : decode cX3_moveReadToWriteStamp 32 = .ok (.aload_n 1, 1) := by decide +kernel
theorem dX3_moveReadToWriteStamp_33 : decode cX3_moveReadToWriteStamp 33 = .ok (.aload_n 0, 1) := by decide +kernel
theorem dX3_moveReadToWriteStamp_34 : decode cX3_moveReadToWriteStamp 34 = .ok (.getfield 107, 3) := by decide +kernel
theorem dX3_moveReadToWriteStamp_37 : decode cX3_moveReadToWriteStamp 37 = .ok (.aload_n 0, 1) := by decide +kernel
theorem dX3_moveReadToWriteStamp_38 : decode cX3_moveReadToWriteStamp 38 = .ok (.getfield 104, 3) := by decide +kernel
theorem dX3_moveReadToWriteStamp_41 : decode cX3_moveReadToWriteStamp 41 = .ok (.invokevirtual 156, 3) := by decide +kernel
theorem dX3_moveReadToWriteStamp_44 : decode cX3_moveReadToWriteStamp 44 = .ok (.ldc2_w 53, 3) := by decide +kernel
theorem dX3_moveReadToWriteStamp_47 : decode cX3_moveReadToWriteStamp 47 = .ok (.lcmp, 1) := by decide +kernel
theorem dX3_moveReadToWriteStamp_48 : decode cX3_moveReadToWriteStamp 48 = .ok (.ifCond .eq 7, 3) := by decide +kernel
theorem dX3_moveReadToWriteStamp_51 : decode cX3_moveReadToWriteStamp 51 = .ok (.iconst 1, 1) := by decide +kernel
theorem dX3_moveReadToWriteStamp_52 : decode cX3_moveReadToWriteStamp 52 = .ok (.goto 4, 3) := by decide +kernel
theorem dX3_moveReadToWriteStamp_55 : decode cX3_moveReadToWriteStamp 55 = .ok (.iconst 0, 1) := by decide +kernel
theorem dX3_moveReadToWriteStamp_56 : decode cX3_moveReadToWriteStamp 56 = .ok (.istore_n 3, 1) := by decide +kernel
theorem dX3_moveReadToWriteStamp_57 : decode cX3_moveReadToWriteStamp 57 = .ok (.iload_n 3, 1) := by decide +kernel
theorem dX3_moveReadToWriteStamp_58 : decode cX3_moveReadToWriteStamp 58 = .ok (.ifCond .ne 11, 3) := by decide +kernel
theorem dX3_moveReadToWriteStamp_61 : decode cX3_moveReadToWriteStamp 61 = .ok (.aload_n 1, 1) := by decide +kernel
theorem dX3_moveReadToWriteStamp_62 : decode cX3_moveReadToWriteStamp 62 = .ok (.aload_n 0, 1) := by decide +kernel
theorem dX3_moveReadToWriteStamp_63 : decode cX3_moveReadToWriteStamp 63 = .ok (.getfield 104, 3) := by decide +kernel
theorem dX3_moveReadToWriteStamp_66 : decode cX3_moveReadToWriteStamp 66 = .ok (.invokevirtual 162, 3) := by decide +kernel
theorem dX3_moveReadToWriteStamp_69 : decode cX3_moveReadToWriteStamp 69 = .ok (.aload_n 0, 1) := by decide +kernel
theorem dX3_moveReadToWriteStamp_70 : decode cX3_moveReadToWriteStamp 70 = .ok (.getfield 85, 3) := by decide +kernel
theorem dX3_moveReadToWriteStamp_73 : decode cX3_moveReadToWriteStamp 73 = .ok (.aload_n 1, 1) := by decide +kernel
theorem dX3_moveReadToWriteStamp_74 : decode cX3_moveReadToWriteStamp 74 = .ok (.getfield 89, 3) := by decide +kernel
theorem dX3_moveReadToWriteStamp_77 : decode cX3_moveReadToWriteStamp 77 = .ok (.getfield 55, 3) := by decide +kernel
theorem dX3_moveReadToWriteStamp_80 : decode cX3_moveReadToWriteStamp 80 = .ok (.invokevirtual 92, 3) := by decide +kernel
theorem dX3_moveReadToWriteStamp_83 : decode cX3_moveReadToWriteStamp 83 = .ok (.iload_n 3, 1) := by decide +kernel
theorem dX3_moveReadToWriteStamp_84 : decode cX3_moveReadToWriteStamp 84 = .ok (.ifCond .ne 7, 3) := by decide +kernel
theorem dX3_moveReadToWriteStamp_87 : decode cX3_moveReadToWriteStamp 87 = .ok (.iconst 1, 1) := by decide +kernel
theorem dX3_moveReadToWriteStamp_88 : decode cX3_moveReadToWriteStamp 88 = .ok (.goto 4, 3) := by decide +kernel
theorem dX3_moveReadToWriteStamp_91 : decode cX3_moveReadToWriteStamp 91 = .ok (.iconst 0, 1) := by decide +kernel
theorem dX3_moveReadToWriteStamp_92 : decode cX3_moveReadToWriteStamp 92 = .ok (.ireturn, 1) := by decide +kernel
set_option maxRecDepth 20000 in
theorem ggX3_lookUp_X1_takeIn : GoodIn wsX3_lookUp wsX1_takeIn := goodIn_r _ [4, 5, 6, 7, 8, 9, 10, 11, 49, 50] (by decide +kernel) (by decide +kernel)
set_option maxRecDepth 20000 in
theorem gX3_lookUp_X1_takeIn_n92 : GoodIn wsX3_lookUp (wsX1_takeIn) := ggX3_lookUp_X1_takeIn
set_option maxRecDepth 20000 in
theorem ggX3_lookUp_X2_abortIfSilent : GoodIn wsX3_lookUp wsX2_abortIfSilent := goodIn_r _ [15, 16, 17, 18, 40, 41, 42, 43, 44, 45, 46, 47, 48, 49, 50] (by decide +kernel) (by decide +kernel)
set_option maxRecDepth 20000 in
theorem gX3_lookUp_X2_abortIfSilent_n193 : GoodIn wsX3_lookUp (wsX2_abortIfSilent) := ggX3_lookUp_X2_abortIfSilent
set_option maxRecDepth 20000 in
theorem ggX3_lookUp_X0_settleIntent : GoodIn wsX3_lookUp wsX0_settleIntent := goodIn_r _ [22, 23, 24, 25, 26, 27, 20, 28, 29, 30, 31, 32, 33, 34, 35, 36, 37, 38, 39, 40, 41, 42, 43, 44, 45, 46, 47, 48] (by decide +kernel) (by decide +kernel)
set_option maxRecDepth 20000 in
theorem gX3_lookUp_X0_settleIntent_n134 : GoodIn wsX3_lookUp (wsX0_settleIntent) := ggX3_lookUp_X0_settleIntent
theorem dX3_lookUp_0 : decode cX3_lookUp 0 = .ok (.aload_n 0, 1) := by decide +kernel
theorem dX3_lookUp_1 : decode cX3_lookUp 1 = .ok (.getfield 130, 3) := by decide +kernel
theorem dX3_lookUp_4 : decode cX3_lookUp 4 = .ok (.astore_n 2, 1) := by decide +kernel
theorem dX3_lookUp_5 : decode cX3_lookUp 5 = .ok (.aload_n 2, 1) := by decide +kernel
theorem dX3_lookUp_6 : decode cX3_lookUp 6 = .ok (.ifnull 8, 3) := by decide +kernel
theorem dX3_lookUp_9 : decode cX3_lookUp 9 = .ok (.aload_n 2, 1) := by decide +kernel
theorem dX3_lookUp_10 : decode cX3_lookUp 10 = .ok (.aload_n 1, 1) := by decide +kernel
theorem dX3_lookUp_11 : decode cX3_lookUp 11 = .ok (.if_acmp .ne 5, 3) := by decide +kernel
theorem dX3_lookUp_14 : decode cX3_lookUp 14 = .ok (.aconst_null, 1) := by decide +kernel
theorem dX3_lookUp_15 : decode cX3_lookUp 15 = .ok (.areturn, 1) := by decide +kernel
theorem dX3_lookUp_16 : decode cX3_lookUp 16 = .ok (.aload_n 2, 1) := by decide +kernel
theorem dX3_lookUp_17 : decode cX3_lookUp 17 = .ok (.getfield 85, 3) := by decide +kernel
theorem dX3_lookUp_20 : decode cX3_lookUp 20 = .ok (.aload_n 0, 1) := by decide +kernel
theorem dX3_lookUp_21 : decode cX3_lookUp 21 = .ok (.getfield 89, 3) := by decide +kernel
theorem dX3_lookUp_24 : decode cX3_lookUp 24 = .ok (.getfield 55, 3) := by decide +kernel
theorem dX3_lookUp_27 : decode cX3_lookUp 27 = .ok (.invokevirtual 92, 3) := by decide +kernel
theorem dX3_lookUp_30 : decode cX3_lookUp 30 = .ok (.aload_n 0, 1) := by decide +kernel
theorem dX3_lookUp_31 : decode cX3_lookUp 31 = .ok (.getfield 89, 3) := by decide +kernel
theorem dX3_lookUp_34 : decode cX3_lookUp 34 = .ok (.aload_n 2, 1) := by decide +kernel
theorem dX3_lookUp_35 : decode cX3_lookUp 35 = .ok (.getfield 85, 3) := by decide +kernel
theorem dX3_lookUp_38 : decode cX3_lookUp 38 = .ok (.getfield 55, 3) := by decide +kernel
theorem dX3_lookUp_41 : decode cX3_lookUp 41 = .ok (.invokevirtual 92, 3) := by decide +kernel
theorem dX3_lookUp_44 : decode cX3_lookUp 44 = .ok (.aload_n 2, 1) := by decide +kernel
theorem dX3_lookUp_45 : decode cX3_lookUp 45 = .ok (.invokevirtual 193, 3) := by decide +kernel
theorem dX3_lookUp_48 : decode cX3_lookUp 48 = .ok (.aload_n 2, 1) := by decide +kernel
theorem dX3_lookUp_49 : decode cX3_lookUp 49 = .ok (.getfield 118, 3) := by decide +kernel
theorem dX3_lookUp_52 : decode cX3_lookUp 52 = .ok (.iconst 1, 1) := by decide +kernel
theorem dX3_lookUp_53 : decode cX3_lookUp 53 = .ok (.if_icmp .ne 5, 3) := by decide +kernel
theorem dX3_lookUp_56 : decode cX3_lookUp 56 = .ok (.aload_n 2, 1) := by decide +kernel
theorem dX3_lookUp_57 : decode cX3_lookUp 57 = .ok (.areturn, 1) := by decide +kernel
theorem dX3_lookUp_58 : decode cX3_lookUp 58 = .ok (.aload_n 0, 1) := by decide +kernel
theorem dX3_lookUp_59 : decode cX3_lookUp 59 = .ok (.invokevirtual 134, 3) := by decide +kernel
theorem dX3_lookUp_62 : decode cX3_lookUp 62 = .ok (.aconst_null, 1) := by decide +kernel
theorem dX3_lookUp_63 : decode cX3_lookUp 63 = .ok (.areturn, 1) := by decide +kernel
set_option maxRecDepth 20000 in
theorem ggX3_restart_X2_moveTo : GoodIn wsX3_restart wsX2_moveTo := goodIn_r _ [5, 6, 7, 8, 9, 10, 11, 12, 13, 28, 29, 30, 31, 32, 33, 34, 35, 36] (by decide +kernel) (by decide +kernel)
set_option maxRecDepth 20000 in
theorem gX3_restart_X2_moveTo_n196 : GoodIn wsX3_restart (wsX2_moveTo) := ggX3_restart_X2_moveTo
theorem dX3_restart_0 : decode cX3_restart 0 = .ok (.aload_n 0, 1) := by decide +kernel
theorem dX3_restart_1 : decode cX3_restart 1 = .ok (.getfield 18, 3) := by decide +kernel
theorem dX3_restart_4 : decode cX3_restart 4 = .ok (.astore 4, 2) := by decide +kernel
theorem dX3_restart_6 : decode cX3_restart 6 = .ok (.aload 4, 2) := by decide +kernel
theorem dX3_restart_8 : decode cX3_restart 8 = .ok (.arraylength, 1) := by decide +kernel
theorem dX3_restart_9 : decode cX3_restart 9 = .ok (.istore 5, 2) := by decide +kernel
theorem dX3_restart_11 : decode cX3_restart 11 = .ok (.iconst 0, 1) := by decide +kernel
theorem dX3_restart_12 : decode cX3_restart 12 = .ok (.istore 6, 2) := by decide +kernel
theorem dX3_restart_14 : decode cX3_restart 14 = .ok (.iload 6, 2) := by decide +kernel
theorem dX3_restart_16 : decode cX3_restart 16 = .ok (.iload 5, 2) := by decide +kernel
theorem dX3_restart_18 : decode cX3_restart 18 = .ok (.if_icmp .ge 31, 3) := by decide +kernel
theorem dX3_restart_21 : decode cX3_restart 21 = .ok (.aload 4, 2) := by decide +kernel
theorem dX3_restart_23 : decode cX3_restart 23 = .ok (.iload 6, 2) := by decide +kernel
theorem dX3_restart_25 : decode cX3_restart 25 = .ok (.aaload, 1) := by decide +kernel
theorem dX3_restart_26 : decode cX3_restart 26 = .ok (.astore 7, 2) := by decide +kernel
theorem dX3_restart_28 : decode cX3_restart 28 = .ok (.aload 7, 2) := by decide +kernel
theorem dX3_restart_30 : decode cX3_restart 30 = .ok (.getfield 130, 3) := by decide +kernel
theorem dX3_restart_33 : decode cX3_restart 33 = .ok (.aload_n 1, 1) := by decide +kernel
theorem dX3_restart_34 : decode cX3_restart 34 = .ok (.if_acmp .ne 9, 3) := by decide +kernel
theorem dX3_restart_37 : decode cX3_restart 37 = .ok (.aload 7, 2) := by decide +kernel
theorem dX3_restart_39 : decode cX3_restart 39 = .ok (.aconst_null, 1) := by decide +kernel
theorem dX3_restart_40 : decode cX3_restart 40 = .ok (.putfield 130, 3) := by decide +kernel
theorem dX3_restart_43 : decode cX3_restart 43 = .ok (.iinc 6 1, 3) := by decide +kernel
theorem dX3_restart_46 : decode cX3_restart 46 = .ok (.goto (-32), 3) := by decide +kernel
theorem dX3_restart_49 : decode cX3_restart 49 = .ok (.aload_n 1, 1) := by decide +kernel
theorem dX3_restart_50 : decode cX3_restart 50 = .ok (.lload_n 2, 1) := by decide +kernel
theorem dX3_restart_51 : decode cX3_restart 51 = .ok (.invokevirtual 196, 3) := by decide +kernel
theorem dX3_restart_54 : decode cX3_restart 54 = .ok (.return_, 1) := by decide +kernel
theorem dX3_logCommit_0 : decode cX3_logCommit 0 = .ok (.aload_n 0, 1) := by decide +kernel
theorem dX3_logCommit_1 : decode cX3_logCommit 1 = .ok (.getfield 140, 3) := by decide +kernel
theorem dX3_logCommit_4 : decode cX3_logCommit 4 = .ok (.sipush 256, 3) := by decide +kernel
theorem dX3_logCommit_7 : decode cX3_logCommit 7 = .ok (.if_icmp .ge 23, 3) := by decide +kernel
theorem dX3_logCommit_10 : decode cX3_logCommit 10 = .ok (.aload_n 0, 1) := by decide +kernel
theorem dX3_logCommit_11 : decode cX3_logCommit 11 = .ok (.getfield 34, 3) := by decide +kernel
theorem dX3_logCommit_14 : decode cX3_logCommit 14 = .ok (.aload_n 0, 1) := by decide +kernel
theorem dX3_logCommit_15 : decode cX3_logCommit 15 = .ok (.getfield 140, 3) := by decide +kernel
theorem dX3_logCommit_18 : decode cX3_logCommit 18 = .ok (.lload_n 1, 1) := by decide +kernel
theorem dX3_logCommit_19 : decode cX3_logCommit 19 = .ok (.lastore, 1) := by decide +kernel
theorem dX3_logCommit_20 : decode cX3_logCommit 20 = .ok (.aload_n 0, 1) := by decide +kernel
theorem dX3_logCommit_21 : decode cX3_logCommit 21 = .ok (.dup, 1) := by decide +kernel
theorem dX3_logCommit_22 : decode cX3_logCommit 22 = .ok (.getfield 140, 3) := by decide +kernel
theorem dX3_logCommit_25 : decode cX3_logCommit 25 = .ok (.iconst 1, 1) := by decide +kernel
theorem dX3_logCommit_26 : decode cX3_logCommit 26 = .ok (.iadd, 1) := by decide +kernel
theorem dX3_logCommit_27 : decode cX3_logCommit 27 = .ok (.putfield 140, 3) := by decide +kernel
theorem dX3_logCommit_30 : decode cX3_logCommit 30 = .ok (.return_, 1) := by decide +kernel
