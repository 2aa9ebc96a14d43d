theorem dX6_init_6 : decode cX6_init 6 = .ok (.putfield 9, 3) := by decide +kernel
theorem dX6_init_9 : decode cX6_init 9 = .ok (.aload_n 0, 1) := by decide +kernel
theorem dX6_init_10 : decode cX6_init 10 = .ok (.iconst 0, 1) := by decide +kernel
theorem dX6_init_11 : decode cX6_init 11 = .ok (.putfield 15, 3) := by decide +kernel
theorem dX6_init_14 : decode cX6_init 14 = .ok (.aload_n 0, 1) := by decide +kernel
theorem dX6_init_15 : decode cX6_init 15 = .ok (.iconst 0, 1) := by decide +kernel
theorem dX6_init_16 : decode cX6_init 16 = .ok (.putfield 18, 3) := by decide +kernel
theorem dX6_init_19 : decode cX6_init 19 = .ok (.aload_n 0, 1) := by decide +kernel
theorem dX6_init_20 : decode cX6_init 20 = .ok (.iconst 0, 1) := by decide +kernel
theorem dX6_init_21 : decode cX6_init 21 = .ok (.putfield 22, 3) := by decide +kernel
theorem dX6_init_24 : decode cX6_init 24 = .ok (.aload_n 0, 1) := by decide +kernel
theorem dX6_init_25 : decode cX6_init 25 = .ok (.iconst 0, 1) := by decide +kernel
theorem dX6_init_26 : decode cX6_init 26 = .ok (.putfield 25, 3) := by decide +kernel
theorem dX6_init_29 : decode cX6_init 29 = .ok (.aload_n 0, 1) := by decide +kernel
theorem dX6_init_30 : decode cX6_init 30 = .ok (.iconst 0, 1) := by decide +kernel
theorem dX6_init_31 : decode cX6_init 31 = .ok (.putfield 28, 3) := by decide +kernel
theorem dX6_init_34 : decode cX6_init 34 = .ok (.aload_n 0, 1) := by decide +kernel
theorem dX6_init_35 : decode cX6_init 35 = .ok (.iconst 0, 1) := by decide +kernel
theorem dX6_init_36 : decode cX6_init 36 = .ok (.putfield 31, 3) := by decide +kernel
theorem dX6_init_39 : decode cX6_init 39 = .ok (.aload_n 0, 1) := by decide +kernel
theorem dX6_init_40 : decode cX6_init 40 = .ok (.iconst 0, 1) := by decide +kernel
theorem dX6_init_41 : decode cX6_init 41 = .ok (.putfield 34, 3) := by decide +kernel
theorem dX6_init_44 : decode cX6_init 44 = .ok (.aload_n 0, 1) := by decide +kernel
theorem dX6_init_45 : decode cX6_init 45 = .ok (.iconst 0, 1) := by decide +kernel
theorem dX6_init_46 : decode cX6_init 46 = .ok (.putfield 37, 3) := by decide +kernel
theorem dX6_init_49 : decode cX6_init 49 = .ok (.aload_n 0, 1) := by decide +kernel
theorem dX6_init_50 : decode cX6_init 50 = .ok (.iconst 0, 1) := by decide +kernel
theorem dX6_init_51 : decode cX6_init 51 = .ok (.putfield 40, 3) := by decide +kernel
theorem dX6_init_54 : decode cX6_init 54 = .ok (.aload_n 0, 1) := by decide +kernel
theorem dX6_init_55 : decode cX6_init 55 = .ok (.bipush 6, 2) := by decide +kernel
theorem dX6_init_57 : decode cX6_init 57 = .ok (.newarray .int, 2) := by decide +kernel
theorem dX6_init_59 : decode cX6_init 59 = .ok (.putfield 43, 3) := by decide +kernel
theorem dX6_init_62 : decode cX6_init 62 = .ok (.aload_n 0, 1) := by decide +kernel
theorem dX6_init_63 : decode cX6_init 63 = .ok (.bipush 6, 2) := by decide +kernel
theorem dX6_init_65 : decode cX6_init 65 = .ok (.newarray .int, 2) := by decide +kernel
theorem dX6_init_67 : decode cX6_init 67 = .ok (.putfield 47, 3) := by decide +kernel
theorem dX6_init_70 : decode cX6_init 70 = .ok (.aload_n 0, 1) := by decide +kernel
theorem dX6_init_71 : decode cX6_init 71 = .ok (.bipush 6, 2) := by decide +kernel
theorem dX6_init_73 : decode cX6_init 73 = .ok (.newarray .int, 2) := by decide +kernel
theorem dX6_init_75 : decode cX6_init 75 = .ok (.putfield 50, 3) := by decide +kernel
theorem dX6_init_78 : decode cX6_init 78 = .ok (.return_, 1) := by decide +kernel
theorem dX6_begin_0 : decode cX6_begin 0 = .ok (.aload_n 0, 1) := by decide +kernel
theorem dX6_begin_1 : decode cX6_begin 1 = .ok (.iload_n 1, 1) := by decide +kernel
theorem dX6_begin_2 : decode cX6_begin 2 = .ok (.putfield 9, 3) := by decide +kernel
theorem dX6_begin_5 : decode cX6_begin 5 = .ok (.aload_n 0, 1) := by decide +kernel
theorem dX6_begin_6 : decode cX6_begin 6 = .ok (.iload_n 2, 1) := by decide +kernel
theorem dX6_begin_7 : decode cX6_begin 7 = .ok (.putfield 15, 3) := by decide +kernel
theorem dX6_begin_10 : decode cX6_begin 10 = .ok (.aload_n 0, 1) := by decide +kernel
theorem dX6_begin_11 : decode cX6_begin 11 = .ok (.iload_n 3, 1) := by decide +kernel
theorem dX6_begin_12 : decode cX6_begin 12 = .ok (.putfield 18, 3) := by decide +kernel
theorem dX6_begin_15 : decode cX6_begin 15 = .ok (.aload_n 0, 1) := by decide +kernel
theorem dX6_begin_16 : decode cX6_begin 16 = .ok (.iconst 0, 1) := by decide +kernel
theorem dX6_begin_17 : decode cX6_begin 17 = .ok (.putfield 22, 3) := by decide +kernel
theorem dX6_begin_20 : decode cX6_begin 20 = .ok (.aload_n 0, 1) := by decide +kernel
theorem dX6_begin_21 : decode cX6_begin 21 = .ok (.iconst 0, 1) := by decide +kernel
theorem dX6_begin_22 : decode cX6_begin 22 = .ok (.putfield 25, 3) := by decide +kernel
theorem dX6_begin_25 : decode cX6_begin 25 = .ok (.aload_n 0, 1) := by decide +kernel
theorem dX6_begin_26 : decode cX6_begin 26 = .ok (.iconst 0, 1) := by decide +kernel
theorem dX6_begin_27 : decode cX6_begin 27 = .ok (.putfield 28, 3) := by decide +kernel
theorem dX6_begin_30 : decode cX6_begin 30 = .ok (.aload_n 0, 1) := by decide +kernel
theorem dX6_begin_31 : decode cX6_begin 31 = .ok (.iconst 0, 1) := by decide +kernel
theorem dX6_begin_32 : decode cX6_begin 32 = .ok (.putfield 31, 3) := by decide +kernel
theorem dX6_begin_35 : decode cX6_begin 35 = .ok (.aload_n 0, 1) := by decide +kernel
theorem dX6_begin_36 : decode cX6_begin 36 = .ok (.iconst 0, 1) := by decide +kernel
theorem dX6_begin_37 : decode cX6_begin 37 = .ok (.putfield 34, 3) := by decide +kernel
theorem dX6_begin_40 : decode cX6_begin 40 = .ok (.aload_n 0, 1) := by decide +kernel
theorem dX6_begin_41 : decode cX6_begin 41 = .ok (.iconst 0, 1) := by decide +kernel
theorem dX6_begin_42 : decode cX6_begin 42 = .ok (.putfield 37, 3) := by decide +kernel
theorem dX6_begin_45 : decode cX6_begin 45 = .ok (.aload_n 0, 1) := by decide +kernel
theorem dX6_begin_46 : decode cX6_begin 46 = .ok (.iconst 0, 1) := by decide +kernel
theorem dX6_begin_47 : decode cX6_begin 47 = .ok (.putfield 40, 3) := by decide +kernel
theorem dX6_begin_50 : decode cX6_begin 50 = .ok (.return_, 1) := by decide +kernel
theorem dX6_copyFrom_0 : decode cX6_copyFrom 0 = .ok (.aload_n 0, 1) := by decide +kernel
theorem dX6_copyFrom_1 : decode cX6_copyFrom 1 = .ok (.aload_n 1, 1) := by decide +kernel
theorem dX6_copyFrom_2 : decode cX6_copyFrom 2 = .ok (.getfield 9, 3) := by decide +kernel
theorem dX6_copyFrom_5 : decode cX6_copyFrom 5 = .ok (.putfield 9, 3) := by decide +kernel
theorem dX6_copyFrom_8 : decode cX6_copyFrom 8 = .ok (.aload_n 0, 1) := by decide +kernel
theorem dX6_copyFrom_9 : decode cX6_copyFrom 9 = .ok (.aload_n 1, 1) := by decide +kernel
theorem dX6_copyFrom_10 : decode cX6_copyFrom 10 = .ok (.getfield 15, 3) := by decide +kernel
theorem dX6_copyFrom_13 : decode cX6_copyFrom 13 = .ok (.putfield 15, 3) := by decide +kernel
theorem dX6_copyFrom_16 : decode cX6_copyFrom 16 = .ok (.aload_n 0, 1) := by decide +kernel
theorem dX6_copyFrom_17 : decode cX6_copyFrom 17 = .ok (.aload_n 1, 1) := by decide +kernel
theorem dX6_copyFrom_18 : decode cX6_copyFrom 18 = .ok (.getfield 18, 3) := by decide +kernel
theorem dX6_copyFrom_21 : decode cX6_copyFrom 21 = .ok (.putfield 18, 3) := by decide +kernel
theorem dX6_copyFrom_24 : decode cX6_copyFrom 24 = .ok (.aload_n 0, 1) := by decide +kernel
theorem dX6_copyFrom_25 : decode cX6_copyFrom 25 = .ok (.aload_n 1, 1) := by decide +kernel
theorem dX6_copyFrom_26 : decode cX6_copyFrom 26 = .ok (.getfield 22, 3) := by decide +kernel
theorem dX6_copyFrom_29 : decode cX6_copyFrom 29 = .ok (.putfield 22, 3) := by decide +kernel
theorem dX6_copyFrom_32 : decode cX6_copyFrom 32 = .ok (.aload_n 0, 1) := by decide +kernel
theorem dX6_copyFrom_33 : decode cX6_copyFrom 33 = .ok (.aload_n 1, 1) := by decide +kernel
theorem dX6_copyFrom_34 : decode cX6_copyFrom 34 = .ok (.getfield 25, 3) := by decide +kernel
theorem dX6_copyFrom_37 : decode cX6_copyFrom 37 = .ok (.putfield 25, 3) := by decide +kernel
theorem dX6_copyFrom_40 : decode cX6_copyFrom 40 = .ok (.aload_n 0, 1) := by decide +kernel
theorem dX6_copyFrom_41 : decode cX6_copyFrom 41 = .ok (.aload_n 1, 1) := by decide +kernel
theorem dX6_copyFrom_42 : decode cX6_copyFrom 42 = .ok (.getfield 28, 3) := by decide +kernel
theorem dX6_copyFrom_45 : decode cX6_copyFrom 45 = .ok (.putfield 28, 3) := by decide +kernel
theorem dX6_copyFrom_48 : decode cX6_copyFrom 48 = .ok (.aload_n 0, 1) := by decide +kernel
theorem dX6_copyFrom_49 : decode cX6_copyFrom 49 = .ok (.aload_n 1, 1) := by decide +kernel
theorem dX6_copyFrom_50 : decode cX6_copyFrom 50 = .ok (.getfield 31, 3) := by decide +kernel
theorem dX6_copyFrom_53 : decode cX6_copyFrom 53 = .ok (.putfield 31, 3) := by decide +kernel
theorem dX6_copyFrom_56 : decode cX6_copyFrom 56 = .ok (.aload_n 0, 1) := by decide +kernel
theorem dX6_copyFrom_57 : decode cX6_copyFrom 57 = .ok (.aload_n 1, 1) := by decide +kernel
theorem dX6_copyFrom_58 : decode cX6_copyFrom 58 = .ok (.getfield 34, 3) := by decide +kernel
theorem dX6_copyFrom_61 : decode cX6_copyFrom 61 = .ok (.putfield 34, 3) := by decide +kernel
theorem dX6_copyFrom_64 : decode cX6_copyFrom 64 = .ok (.aload_n 0, 1) := by decide +kernel
theorem dX6_copyFrom_65 : decode cX6_copyFrom 65 = .ok (.aload_n 1, 1) := by decide +kernel
theorem dX6_copyFrom_66 : decode cX6_copyFrom 66 = .ok (.getfield 37, 3) := by decide +kernel
theorem dX6_copyFrom_69 : decode cX6_copyFrom 69 = .ok (.putfield 37, 3) := by decide +kernel
theorem dX6_copyFrom_72 : decode cX6_copyFrom 72 = .ok (.aload_n 0, 1) := by decide +kernel
theorem dX6_copyFrom_73 : decode cX6_copyFrom 73 = .ok (.aload_n 1, 1) := by decide +kernel
theorem dX6_copyFrom_74 : decode cX6_copyFrom 74 = .ok (.getfield 40, 3) := by decide +kernel
theorem dX6_copyFrom_77 : decode cX6_copyFrom 77 = .ok (.putfield 40, 3) := by decide +kernel
theorem dX6_copyFrom_80 : decode cX6_copyFrom 80 = .ok (.aload_n 1, 1) := by decide +kernel
theorem dX6_copyFrom_81 : decode cX6_copyFrom 81 = .ok (.getfield 43, 3) := by decide +kernel
theorem dX6_copyFrom_84 : decode cX6_copyFrom 84 = .ok (.iconst 0, 1) := by decide +kernel
theorem dX6_copyFrom_85 : decode cX6_copyFrom 85 = .ok (.aload_n 0, 1) := by decide +kernel
theorem dX6_copyFrom_86 : decode cX6_copyFrom 86 = .ok (.getfield 43, 3) := by decide +kernel
theorem dX6_copyFrom_89 : decode cX6_copyFrom 89 = .ok (.iconst 0, 1) := by decide +kernel
theorem dX6_copyFrom_90 : decode cX6_copyFrom 90 = .ok (.bipush 6, 2) := by decide +kernel
theorem dX6_copyFrom_92 : decode cX6_copyFrom 92 = .ok (.invokestatic 53, 3) := by decide +kernel
theorem dX6_copyFrom_95 : decode cX6_copyFrom 95 = .ok (.aload_n 1, 1) := by decide +kernel
theorem dX6_copyFrom_96 : decode cX6_copyFrom 96 = .ok (.getfield 47, 3) := by decide +kernel
theorem dX6_copyFrom_99 : decode cX6_copyFrom 99 = .ok (.iconst 0, 1) := by decide +kernel
theorem dX6_copyFrom_100 : decode cX6_copyFrom 100 = .ok (.aload_n 0, 1) := by decide +kernel
theorem dX6_copyFrom_101 : decode cX6_copyFrom 101 = .ok (.getfield 47, 3) := by decide +kernel
theorem dX6_copyFrom_104 : decode cX6_copyFrom 104 = .ok (.iconst 0, 1) := by decide +kernel
theorem dX6_copyFrom_105 : decode cX6_copyFrom 105 = .ok (.bipush 6, 2) := by decide +kernel
theorem dX6_copyFrom_107 : decode cX6_copyFrom 107 = .ok (.invokestatic 53, 3) := by decide +kernel
theorem dX6_copyFrom_110 : decode cX6_copyFrom 110 = .ok (.aload_n 1, 1) := by decide +kernel
theorem dX6_copyFrom_111 : decode cX6_copyFrom 111 = .ok (.getfield 50, 3) := by decide +kernel
theorem dX6_copyFrom_114 : decode cX6_copyFrom 114 = .ok (.iconst 0, 1) := by decide +kernel
theorem dX6_copyFrom_115 : decode cX6_copyFrom 115 = .ok (.aload_n 0, 1) := by decide +kernel
theorem dX6_copyFrom_116 : decode cX6_copyFrom 116 = .ok (.getfield 50, 3) := by decide +kernel
theorem dX6_copyFrom_119 : decode cX6_copyFrom 119 = .ok (.iconst 0, 1) := by decide +kernel
theorem dX6_copyFrom_120 : decode cX6_copyFrom 120 = .ok (.bipush 6, 2) := by decide +kernel
theorem dX6_copyFrom_122 : decode cX6_copyFrom 122 = .ok (.invokestatic 53, 3) := by decide +kernel
theorem dX6_copyFrom_125 : decode cX6_copyFrom 125 = .ok (.return_, 1) := by decide +kernel
set_option maxRecDepth 20000 in
theorem ggX6_takePush_X6_lookWhetherItFalls : GoodIn wsX6_takePush wsX6_lookWhetherItFalls := goodIn_r _ [6, 1, 7, 8, 9, 10, 11, 12, 13, 14, 15, 16, 17, 18, 19, 20] (by decide +kernel) (by decide +kernel)
set_option maxRecDepth 20000 in
theorem gX6_takePush_X6_lookWhetherItFalls : GoodIn wsX6_takePush (wsV RX6 59 RX6 yX6_lookWhetherItFalls wsX6_lookWhetherItFalls) := goodIn_app (goodIn_of _ (by decide +kernel)) ggX6_takePush_X6_lookWhetherItFalls
theorem dX6_takePush_0 : decode cX6_takePush 0 = .ok (.aload_n 0, 1) := by decide +kernel
theorem dX6_takePush_1 : decode cX6_takePush 1 = .ok (.dup, 1) := by decide +kernel
theorem dX6_takePush_2 : decode cX6_takePush 2 = .ok (.getfield 22, 3) := by decide +kernel
theorem dX6_takePush_5 : decode cX6_takePush 5 = .ok (.iload_n 1, 1) := by decide +kernel
theorem dX6_takePush_6 : decode cX6_takePush 6 = .ok (.iadd, 1) := by decide +kernel
theorem dX6_takePush_7 : decode cX6_takePush 7 = .ok (.putfield 22, 3) := by decide +kernel
theorem dX6_takePush_10 : decode cX6_takePush 10 = .ok (.aload_n 0, 1) := by decide +kernel
theorem dX6_takePush_11 : decode cX6_takePush 11 = .ok (.invokevirtual 59, 3) := by decide +kernel
theorem dX6_takePush_14 : decode cX6_takePush 14 = .ok (.return_, 1) := by decide +kernel
set_option maxRecDepth 20000 in
theorem ggX6_goOn_X6_doTick : GoodIn wsX6_goOn wsX6_doTick := goodIn_r _ [6, 7, 8, 9, 10, 11, 12, 13, 14, 15, 16, 17, 18, 19, 20, 21, 5, 22, 23, 24, 25, 26, 27, 28, 29, 30, 31, 32, 33, 34, 35, 36, 37, 38, 39, 40, 41, 42, 43, 44, 45, 1, 46, 47, 48, 49, 50, 51, 52, 53, 54, 55, 56, 57, 58, 59, 60, 61] (by decide +kernel) (by decide +kernel)
set_option maxRecDepth 20000 in
theorem gX6_goOn_X6_doTick : GoodIn wsX6_goOn (wsV RX6 62 RX6 yX6_doTick wsX6_doTick) := goodIn_app (goodIn_of _ (by decide +kernel)) ggX6_goOn_X6_doTick
theorem dX6_goOn_0 : decode cX6_goOn 0 = .ok (.iconst 0, 1) := by decide +kernel
theorem dX6_goOn_1 : decode cX6_goOn 1 = .ok (.istore 4, 2) := by decide +kernel
theorem dX6_goOn_3 : decode cX6_goOn 3 = .ok (.iload 4, 2) := by decide +kernel
theorem dX6_goOn_5 : decode cX6_goOn 5 = .ok (.iload_n 1, 1) := by decide +kernel
theorem dX6_goOn_6 : decode cX6_goOn 6 = .ok (.if_icmp .ge 22, 3) := by decide +kernel
theorem dX6_goOn_9 : decode cX6_goOn 9 = .ok (.aload_n 0, 1) := by decide +kernel
theorem dX6_goOn_10 : decode cX6_goOn 10 = .ok (.getfield 40, 3) := by decide +kernel
theorem dX6_goOn_13 : decode cX6_goOn 13 = .ok (.ifCond .ne 15, 3) := by decide +kernel
theorem dX6_goOn_16 : decode cX6_goOn 16 = .ok (.aload_n 0, 1) := by decide +kernel
theorem dX6_goOn_17 : decode cX6_goOn 17 = .ok (.aload_n 2, 1) := by decide +kernel
theorem dX6_goOn_18 : decode cX6_goOn 18 = .ok (.aload_n 3, 1) := by decide +kernel
theorem dX6_goOn_19 : decode cX6_goOn 19 = .ok (.invokevirtual 62, 3) := by decide +kernel
theorem dX6_goOn_22 : decode cX6_goOn 22 = .ok (.iinc 4 1, 3) := by decide +kernel
theorem dX6_goOn_25 : decode cX6_goOn 25 = .ok (.goto (-22), 3) := by decide +kernel
theorem dX6_goOn_28 : decode cX6_goOn 28 = .ok (.iload 4, 2) := by decide +kernel
theorem dX6_goOn_30 : decode cX6_goOn 30 = .ok (.ireturn, 1) := by decide +kernel
set_option maxRecDepth 20000 in
theorem ggX6_doTick_X6_remember : GoodIn wsX6_doTick wsX6_remember := goodIn_r _ [17, 12, 18, 7, 19, 10, 20, 8, 21, 22, 23, 24, 42, 43, 44, 45, 46, 47, 48, 49, 50, 51, 52, 53, 54] (by decide +kernel) (by decide +kernel)
set_option maxRecDepth 20000 in
theorem gX6_doTick_X6_remember : GoodIn wsX6_doTick (wsV RX6 66 RX6 yX6_remember wsX6_remember) := goodIn_app (goodIn_of _ (by decide +kernel)) ggX6_doTick_X6_remember
set_option maxRecDepth 20000 in
theorem ggX6_doTick_X6_handOf : GoodIn wsX6_doTick wsX6_handOf := goodIn_r _ [28, 12, 18, 19, 20, 29, 21, 22, 23, 24, 30, 31, 32, 33, 34, 4, 35, 36, 3, 5, 42, 43, 44, 45, 46, 47, 48, 49, 50, 51, 52, 53, 54, 56, 57] (by decide +kernel) (by decide +kernel)
set_option maxRecDepth 20000 in
theorem gX6_doTick_X6_handOf : GoodIn wsX6_doTick (wsV RX6 69 RX6 yX6_handOf wsX6_handOf) := goodIn_app (goodIn_of _ (by decide +kernel)) ggX6_doTick_X6_handOf
set_option maxRecDepth 20000 in
theorem ggX6_doTick_X8_clamp : GoodIn wsX6_doTick wsX8_clamp := goodIn_r _ [32, 33, 34, 4, 35, 36, 3, 5] (by decide +kernel) (by decide +kernel)
set_option maxRecDepth 20000 in
theorem gX6_doTick_X8_clamp_n85 : GoodIn wsX6_doTick (wsX8_clamp) := ggX6_doTick_X8_clamp
set_option maxRecDepth 20000 in
theorem ggX6_doTick_X6_lookWhetherItFalls : GoodIn wsX6_doTick wsX6_lookWhetherItFalls := goodIn_r _ [40, 7, 41, 42, 43, 44, 45, 46, 47, 48, 49, 50, 51, 52, 53, 54] (by decide +kernel) (by decide +kernel)
set_option maxRecDepth 20000 in
theorem gX6_doTick_X6_lookWhetherItFalls : GoodIn wsX6_doTick (wsV RX6 59 RX6 yX6_lookWhetherItFalls wsX6_lookWhetherItFalls) := goodIn_app (goodIn_of _ (by decide +kernel)) ggX6_doTick_X6_lookWhetherItFalls
theorem dX6_doTick_0 : decode cX6_doTick 0 = .ok (.aload_n 0, 1) := by decide +kernel
theorem dX6_doTick_1 : decode cX6_doTick 1 = .ok (.invokevirtual 66, 3) := by decide +kernel
theorem dX6_doTick_4 : decode cX6_doTick 4 = .ok (.aload_n 0, 1) := by decide +kernel
theorem dX6_doTick_5 : decode cX6_doTick 5 = .ok (.aload_n 0, 1) := by decide +kernel
theorem dX6_doTick_6 : decode cX6_doTick 6 = .ok (.aload_n 2, 1) := by decide +kernel
theorem dX6_doTick_7 : decode cX6_doTick 7 = .ok (.invokevirtual 69, 3) := by decide +kernel
theorem dX6_doTick_10 : decode cX6_doTick 10 = .ok (.putfield 34, 3) := by decide +kernel
theorem dX6_doTick_13 : decode cX6_doTick 13 = .ok (.aload_n 1, 1) := by decide +kernel
theorem dX6_doTick_14 : decode cX6_doTick 14 = .ok (.getfield 73, 3) := by decide +kernel
theorem dX6_doTick_17 : decode cX6_doTick 17 = .ok (.astore_n 3, 1) := by decide +kernel
theorem dX6_doTick_18 : decode cX6_doTick 18 = .ok (.iconst 1, 1) := by decide +kernel
theorem dX6_doTick_19 : decode cX6_doTick 19 = .ok (.aload_n 3, 1) := by decide +kernel
theorem dX6_doTick_20 : decode cX6_doTick 20 = .ok (.iconst 4, 1) := by decide +kernel
theorem dX6_doTick_21 : decode cX6_doTick 21 = .ok (.iaload, 1) := by decide +kernel
theorem dX6_doTick_22 : decode cX6_doTick 22 = .ok (.invokestatic 78, 3) := by decide +kernel
theorem dX6_doTick_25 : decode cX6_doTick 25 = .ok (.istore 4, 2) := by decide +kernel
theorem dX6_doTick_27 : decode cX6_doTick 27 = .ok (.aload_n 0, 1) := by decide +kernel
theorem dX6_doTick_28 : decode cX6_doTick 28 = .ok (.getfield 15, 3) := by decide +kernel
theorem dX6_doTick_31 : decode cX6_doTick 31 = .ok (.aload_n 0, 1) := by decide +kernel
theorem dX6_doTick_32 : decode cX6_doTick 32 = .ok (.getfield 15, 3) := by decide +kernel
theorem dX6_doTick_35 : decode cX6_doTick 35 = .ok (.imul, 1) := by decide +kernel
theorem dX6_doTick_36 : decode cX6_doTick 36 = .ok (.istore 5, 2) := by decide +kernel
theorem dX6_doTick_38 : decode cX6_doTick 38 = .ok (.aload_n 3, 1) := by decide +kernel
theorem dX6_doTick_39 : decode cX6_doTick 39 = .ok (.iconst 0, 1) := by decide +kernel
theorem dX6_doTick_40 : decode cX6_doTick 40 = .ok (.iaload, 1) := by decide +kernel
theorem dX6_doTick_41 : decode cX6_doTick 41 = .ok (.aload_n 0, 1) := by decide +kernel
theorem dX6_doTick_42 : decode cX6_doTick 42 = .ok (.getfield 15, 3) := by decide +kernel
theorem dX6_doTick_45 : decode cX6_doTick 45 = .ok (.imul, 1) := by decide +kernel
theorem dX6_doTick_46 : decode cX6_doTick 46 = .ok (.istore 6, 2) := by decide +kernel
theorem dX6_doTick_48 : decode cX6_doTick 48 = .ok (.aload_n 3, 1) := by decide +kernel
theorem dX6_doTick_49 : decode cX6_doTick 49 = .ok (.iconst 1, 1) := by decide +kernel
theorem dX6_doTick_50 : decode cX6_doTick 50 = .ok (.iaload, 1) := by decide +kernel
theorem dX6_doTick_51 : decode cX6_doTick 51 = .ok (.istore 7, 2) := by decide +kernel
theorem dX6_doTick_53 : decode cX6_doTick 53 = .ok (.aload_n 3, 1) := by decide +kernel
theorem dX6_doTick_54 : decode cX6_doTick 54 = .ok (.iconst 3, 1) := by decide +kernel
theorem dX6_doTick_55 : decode cX6_doTick 55 = .ok (.iaload, 1) := by decide +kernel
theorem dX6_doTick_56 : decode cX6_doTick 56 = .ok (.aload_n 0, 1) := by decide +kernel
theorem dX6_doTick_57 : decode cX6_doTick 57 = .ok (.getfield 22, 3) := by decide +kernel
theorem dX6_doTick_60 : decode cX6_doTick 60 = .ok (.imul, 1) := by decide +kernel
theorem dX6_doTick_61 : decode cX6_doTick 61 = .ok (.iload 5, 2) := by decide +kernel
theorem dX6_doTick_63 : decode cX6_doTick 63 = .ok (.aload_n 0, 1) := by decide +kernel
theorem dX6_doTick_64 : decode cX6_doTick 64 = .ok (.getfield 25, 3) := by decide +kernel
theorem dX6_doTick_67 : decode cX6_doTick 67 = .ok (.imul, 1) := by decide +kernel
theorem dX6_doTick_68 : decode cX6_doTick 68 = .ok (.iload 4, 2) := by decide +kernel
theorem dX6_doTick_70 : decode cX6_doTick 70 = .ok (.idiv, 1) := by decide +kernel
theorem dX6_doTick_71 : decode cX6_doTick 71 = .ok (.isub, 1) := by decide +kernel
theorem dX6_doTick_72 : decode cX6_doTick 72 = .ok (.iload 6, 2) := by decide +kernel
theorem dX6_doTick_74 : decode cX6_doTick 74 = .ok (.aload_n 0, 1) := by decide +kernel
theorem dX6_doTick_75 : decode cX6_doTick 75 = .ok (.getfield 31, 3) := by decide +kernel
theorem dX6_doTick_78 : decode cX6_doTick 78 = .ok (.imul, 1) := by decide +kernel
theorem dX6_doTick_79 : decode cX6_doTick 79 = .ok (.bipush 10, 2) := by decide +kernel
theorem dX6_doTick_81 : decode cX6_doTick 81 = .ok (.idiv, 1) := by decide +kernel
theorem dX6_doTick_82 : decode cX6_doTick 82 = .ok (.isub, 1) := by decide +kernel
theorem dX6_doTick_83 : decode cX6_doTick 83 = .ok (.istore 8, 2) := by decide +kernel
theorem dX6_doTick_85 : decode cX6_doTick 85 = .ok (.iload 7, 2) := by decide +kernel
theorem dX6_doTick_87 : decode cX6_doTick 87 = .ok (.aload_n 3, 1) := by decide +kernel
theorem dX6_doTick_88 : decode cX6_doTick 88 = .ok (.iconst 2, 1) := by decide +kernel
theorem dX6_doTick_89 : decode cX6_doTick 89 = .ok (.iaload, 1) := by decide +kernel
theorem dX6_doTick_90 : decode cX6_doTick 90 = .ok (.iadd, 1) := by decide +kernel
theorem dX6_doTick_91 : decode cX6_doTick 91 = .ok (.aload_n 0, 1) := by decide +kernel
theorem dX6_doTick_92 : decode cX6_doTick 92 = .ok (.getfield 22, 3) := by decide +kernel
theorem dX6_doTick_95 : decode cX6_doTick 95 = .ok (.imul, 1) := by decide +kernel
theorem dX6_doTick_96 : decode cX6_doTick 96 = .ok (.iload 6, 2) := by decide +kernel
theorem dX6_doTick_98 : decode cX6_doTick 98 = .ok (.aload_n 0, 1) := by decide +kernel
theorem dX6_doTick_99 : decode cX6_doTick 99 = .ok (.getfield 28, 3) := by decide +kernel
theorem dX6_doTick_102 : decode cX6_doTick 102 = .ok (.imul, 1) := by decide +kernel
theorem dX6_doTick_103 : decode cX6_doTick 103 = .ok (.bipush 10, 2) := by decide +kernel
theorem dX6_doTick_105 : decode cX6_doTick 105 = .ok (.idiv, 1) := by decide +kernel
theorem dX6_doTick_106 : decode cX6_doTick 106 = .ok (.iadd, 1) := by decide +kernel
theorem dX6_doTick_107 : decode cX6_doTick 107 = .ok (.iload 7, 2) := by decide +kernel
theorem dX6_doTick_109 : decode cX6_doTick 109 = .ok (.iload 5, 2) := by decide +kernel
theorem dX6_doTick_111 : decode cX6_doTick 111 = .ok (.imul, 1) := by decide +kernel
theorem dX6_doTick_112 : decode cX6_doTick 112 = .ok (.aload_n 0, 1) := by decide +kernel
theorem dX6_doTick_113 : decode cX6_doTick 113 = .ok (.getfield 25, 3) := by decide +kernel
theorem dX6_doTick_116 : decode cX6_doTick 116 = .ok (.imul, 1) := by decide +kernel
theorem dX6_doTick_117 : decode cX6_doTick 117 = .ok (.bipush 10, 2) := by decide +kernel
theorem dX6_doTick_119 : decode cX6_doTick 119 = .ok (.iload 4, 2) := by decide +kernel
theorem dX6_doTick_121 : decode cX6_doTick 121 = .ok (.imul, 1) := by decide +kernel
theorem dX6_doTick_122 : decode cX6_doTick 122 = .ok (.idiv, 1) := by decide +kernel
theorem dX6_doTick_123 : decode cX6_doTick 123 = .ok (.isub, 1) := by decide +kernel
theorem dX6_doTick_124 : decode cX6_doTick 124 = .ok (.aload_n 3, 1) := by decide +kernel
theorem dX6_doTick_125 : decode cX6_doTick 125 = .ok (.iconst 5, 1) := by decide +kernel
theorem dX6_doTick_126 : decode cX6_doTick 126 = .ok (.iaload, 1) := by decide +kernel
theorem dX6_doTick_127 : decode cX6_doTick 127 = .ok (.aload_n 0, 1) := by decide +kernel
theorem dX6_doTick_128 : decode cX6_doTick 128 = .ok (.getfield 31, 3) := by decide +kernel
theorem dX6_doTick_131 : decode cX6_doTick 131 = .ok (.imul, 1) := by decide +kernel
theorem dX6_doTick_132 : decode cX6_doTick 132 = .ok (.isub, 1) := by decide +kernel
theorem dX6_doTick_133 : decode cX6_doTick 133 = .ok (.aload_n 0, 1) := by decide +kernel
theorem dX6_doTick_134 : decode cX6_doTick 134 = .ok (.getfield 34, 3) := by decide +kernel
theorem dX6_doTick_137 : decode cX6_doTick 137 = .ok (.iadd, 1) := by decide +kernel
theorem dX6_doTick_138 : decode cX6_doTick 138 = .ok (.istore 9, 2) := by decide +kernel
theorem dX6_doTick_140 : decode cX6_doTick 140 = .ok (.aload_n 0, 1) := by decide +kernel
theorem dX6_doTick_141 : decode cX6_doTick 141 = .ok (.aload_n 0, 1) := by decide +kernel
theorem dX6_doTick_142 : decode cX6_doTick 142 = .ok (.getfield 28, 3) := by decide +kernel
theorem dX6_doTick_145 : decode cX6_doTick 145 = .ok (.iload 8, 2) := by decide +kernel
theorem dX6_doTick_147 : decode cX6_doTick 147 = .ok (.bipush 20, 2) := by decide +kernel
theorem dX6_doTick_149 : decode cX6_doTick 149 = .ok (.idiv, 1) := by decide +kernel
theorem dX6_doTick_150 : decode cX6_doTick 150 = .ok (.iadd, 1) := by decide +kernel
theorem dX6_doTick_151 : decode cX6_doTick 151 = .ok (.ldc 84, 2) := by decide +kernel
theorem dX6_doTick_153 : decode cX6_doTick 153 = .ok (.invokestatic 85, 3) := by decide +kernel
theorem dX6_doTick_156 : decode cX6_doTick 156 = .ok (.putfield 28, 3) := by decide +kernel
theorem dX6_doTick_159 : decode cX6_doTick 159 = .ok (.aload_n 0, 1) := by decide +kernel
theorem dX6_doTick_160 : decode cX6_doTick 160 = .ok (.aload_n 0, 1) := by decide +kernel
theorem dX6_doTick_161 : decode cX6_doTick 161 = .ok (.getfield 31, 3) := by decide +kernel
theorem dX6_doTick_164 : decode cX6_doTick 164 = .ok (.iload 9, 2) := by decide +kernel
theorem dX6_doTick_166 : decode cX6_doTick 166 = .ok (.bipush 20, 2) := by decide +kernel
theorem dX6_doTick_168 : decode cX6_doTick 168 = .ok (.idiv, 1) := by decide +kernel
theorem dX6_doTick_169 : decode cX6_doTick 169 = .ok (.iadd, 1) := by decide +kernel
theorem dX6_doTick_170 : decode cX6_doTick 170 = .ok (.ldc 84, 2) := by decide +kernel
theorem dX6_doTick_172 : decode cX6_doTick 172 = .ok (.invokestatic 85, 3) := by decide +kernel
theorem dX6_doTick_175 : decode cX6_doTick 175 = .ok (.putfield 31, 3) := by decide +kernel
theorem dX6_doTick_178 : decode cX6_doTick 178 = .ok (.aload_n 0, 1) := by decide +kernel
theorem dX6_doTick_179 : decode cX6_doTick 179 = .ok (.dup, 1) := by decide +kernel
theorem dX6_doTick_180 : decode cX6_doTick 180 = .ok (.getfield 22, 3) := by decide +kernel
theorem dX6_doTick_183 : decode cX6_doTick 183 = .ok (.aload_n 0, 1) := by decide +kernel
theorem dX6_doTick_184 : decode cX6_doTick 184 = .ok (.getfield 28, 3) := by decide +kernel
theorem dX6_doTick_187 : decode cX6_doTick 187 = .ok (.bipush 20, 2) := by decide +kernel
theorem dX6_doTick_189 : decode cX6_doTick 189 = .ok (.idiv, 1) := by decide +kernel
theorem dX6_doTick_190 : decode cX6_doTick 190 = .ok (.iadd, 1) := by decide +kernel
theorem dX6_doTick_191 : decode cX6_doTick 191 = .ok (.putfield 22, 3) := by decide +kernel
theorem dX6_doTick_194 : decode cX6_doTick 194 = .ok (.aload_n 0, 1) := by decide +kernel
theorem dX6_doTick_195 : decode cX6_doTick 195 = .ok (.aload_n 0, 1) := by decide +kernel
theorem dX6_doTick_196 : decode cX6_doTick 196 = .ok (.getfield 25, 3) := by decide +kernel
theorem dX6_doTick_199 : decode cX6_doTick 199 = .ok (.aload_n 0, 1) := by decide +kernel
theorem dX6_doTick_200 : decode cX6_doTick 200 = .ok (.getfield 31, 3) := by decide +kernel
theorem dX6_doTick_203 : decode cX6_doTick 203 = .ok (.bipush 20, 2) := by decide +kernel
theorem dX6_doTick_205 : decode cX6_doTick 205 = .ok (.idiv, 1) := by decide +kernel
theorem dX6_doTick_206 : decode cX6_doTick 206 = .ok (.iadd, 1) := by decide +kernel
theorem dX6_doTick_207 : decode cX6_doTick 207 = .ok (.sipush 10000, 3) := by decide +kernel
theorem dX6_doTick_210 : decode cX6_doTick 210 = .ok (.invokestatic 85, 3) := by decide +kernel
theorem dX6_doTick_213 : decode cX6_doTick 213 = .ok (.putfield 25, 3) := by decide +kernel
theorem dX6_doTick_216 : decode cX6_doTick 216 = .ok (.aload_n 0, 1) := by decide +kernel
theorem dX6_doTick_217 : decode cX6_doTick 217 = .ok (.dup, 1) := by decide +kernel
theorem dX6_doTick_218 : decode cX6_doTick 218 = .ok (.getfield 37, 3) := by decide +kernel
theorem dX6_doTick_221 : decode cX6_doTick 221 = .ok (.iconst 1, 1) := by decide +kernel
theorem dX6_doTick_222 : decode cX6_doTick 222 = .ok (.iadd, 1) := by decide +kernel
theorem dX6_doTick_223 : decode cX6_doTick 223 = .ok (.putfield 37, 3) := by decide +kernel
theorem dX6_doTick_226 : decode cX6_doTick 226 = .ok (.aload_n 0, 1) := by decide +kernel
theorem dX6_doTick_227 : decode cX6_doTick 227 = .ok (.invokevirtual 59, 3) := by decide +kernel
theorem dX6_doTick_230 : decode cX6_doTick 230 = .ok (.return_, 1) := by decide +kernel
set_option maxRecDepth 20000 in
theorem ggX6_remember_J9_floorMod_7cf53 : GoodIn wsX6_remember wsJ9_floorMod_7cf53 := goodIn_r _ [11] (by decide +kernel) (by decide +kernel)
set_option maxRecDepth 20000 in
theorem gX6_remember_J9_floorMod_7cf53 : GoodIn wsX6_remember (va_wsS RX6 88 yJ9_floorMod_7cf53 wsJ9_floorMod_7cf53) := goodIn_app (goodIn_of _ (by decide +kernel)) ggX6_remember_J9_floorMod_7cf53
theorem dX6_remember_0 : decode cX6_remember 0 = .ok (.aload_n 0, 1) := by decide +kernel
theorem dX6_remember_1 : decode cX6_remember 1 = .ok (.getfield 37, 3) := by decide +kernel
theorem dX6_remember_4 : decode cX6_remember 4 = .ok (.bipush 6, 2) := by decide +kernel
theorem dX6_remember_6 : decode cX6_remember 6 = .ok (.invokestatic 88, 3) := by decide +kernel
theorem dX6_remember_9 : decode cX6_remember 9 = .ok (.istore_n 1, 1) := by decide +kernel
theorem dX6_remember_10 : decode cX6_remember 10 = .ok (.aload_n 0, 1) := by decide +kernel
theorem dX6_remember_11 : decode cX6_remember 11 = .ok (.getfield 43, 3) := by decide +kernel
theorem dX6_remember_14 : decode cX6_remember 14 = .ok (.iload_n 1, 1) := by decide +kernel
theorem dX6_remember_15 : decode cX6_remember 15 = .ok (.aload_n 0, 1) := by decide +kernel
theorem dX6_remember_16 : decode cX6_remember 16 = .ok (.getfield 22, 3) := by decide +kernel
theorem dX6_remember_19 : decode cX6_remember 19 = .ok (.iastore, 1) := by decide +kernel
theorem dX6_remember_20 : decode cX6_remember 20 = .ok (.aload_n 0, 1) := by decide +kernel
theorem dX6_remember_21 : decode cX6_remember 21 = .ok (.getfield 47, 3) := by decide +kernel
theorem dX6_remember_24 : decode cX6_remember 24 = .ok (.iload_n 1, 1) := by decide +kernel
theorem dX6_remember_25 : decode cX6_remember 25 = .ok (.aload_n 0, 1) := by decide +kernel
theorem dX6_remember_26 : decode cX6_remember 26 = .ok (.getfield 28, 3) := by decide +kernel
theorem dX6_remember_29 : decode cX6_remember 29 = .ok (.iastore, 1) := by decide +kernel
theorem dX6_remember_30 : decode cX6_remember 30 = .ok (.aload_n 0, 1) := by decide +kernel
theorem dX6_remember_31 : decode cX6_remember 31 = .ok (.getfield 50, 3) := by decide +kernel
theorem dX6_remember_34 : decode cX6_remember 34 = .ok (.iload_n 1, 1) := by decide +kernel
theorem dX6_remember_35 : decode cX6_remember 35 = .ok (.aload_n 0, 1) := by decide +kernel
theorem dX6_remember_36 : decode cX6_remember 36 = .ok (.getfield 25, 3) := by decide +kernel
theorem dX6_remember_39 : decode cX6_remember 39 = .ok (.iastore, 1) := by decide +kernel
theorem dX6_remember_40 : decode cX6_remember 40 = .ok (.return_, 1) := by decide +kernel
set_option maxRecDepth 20000 in
theorem ggX6_handOf_J9_floorMod_7cf53 : GoodIn wsX6_handOf wsJ9_floorMod_7cf53 := goodIn_r _ [9] (by decide +kernel) (by decide +kernel)
set_option maxRecDepth 20000 in
theorem gX6_handOf_J9_floorMod_7cf53 : GoodIn wsX6_handOf (va_wsS RX6 88 yJ9_floorMod_7cf53 wsJ9_floorMod_7cf53) := goodIn_app (goodIn_of _ (by decide +kernel)) ggX6_handOf_J9_floorMod_7cf53
set_option maxRecDepth 20000 in
theorem ggX6_handOf_X8_clamp : GoodIn wsX6_handOf wsX8_clamp := goodIn_r _ [12, 13, 14, 15, 16, 17, 18, 19] (by decide +kernel) (by decide +kernel)
set_option maxRecDepth 20000 in
theorem gX6_handOf_X8_clamp_n85 : GoodIn wsX6_handOf (wsX8_clamp) := ggX6_handOf_X8_clamp
theorem dX6_handOf_0 : decode cX6_handOf 0 = .ok (.aload_n 0, 1) := by decide +kernel
theorem dX6_handOf_1 : decode cX6_handOf 1 = .ok (.getfield 37, 3) := by decide +kernel
theorem dX6_handOf_4 : decode cX6_handOf 4 = .ok (.aload_n 1, 1) := by decide +kernel
theorem dX6_handOf_5 : decode cX6_handOf 5 = .ok (.getfield 91, 3) := by decide +kernel
theorem dX6_handOf_8 : decode cX6_handOf 8 = .ok (.iconst 3, 1) := by decide +kernel
theorem dX6_handOf_9 : decode cX6_handOf 9 = .ok (.iaload, 1) := by decide +kernel
theorem dX6_handOf_10 : decode cX6_handOf 10 = .ok (.isub, 1) := by decide +kernel
theorem dX6_handOf_11 : decode cX6_handOf 11 = .ok (.istore_n 2, 1) := by decide +kernel
theorem dX6_handOf_12 : decode cX6_handOf 12 = .ok (.iload_n 2, 1) := by decide +kernel
theorem dX6_handOf_13 : decode cX6_handOf 13 = .ok (.ifCond .ge 5, 3) := by decide +kernel
theorem dX6_handOf_16 : decode cX6_handOf 16 = .ok (.iconst 0, 1) := by decide +kernel
theorem dX6_handOf_17 : decode cX6_handOf 17 = .ok (.ireturn, 1) := by decide +kernel
theorem dX6_handOf_18 : decode cX6_handOf 18 = .ok (.iload_n 2, 1) := by decide +kernel
theorem dX6_handOf_19 : decode cX6_handOf 19 = .ok (.bipush 6, 2) := by decide +kernel
theorem dX6_handOf_21 : decode cX6_handOf 21 = .ok (.invokestatic 88, 3) := by decide +kernel
theorem dX6_handOf_24 : decode cX6_handOf 24 = .ok (.istore_n 3, 1) := by decide +kernel
theorem dX6_handOf_25 : decode cX6_handOf 25 = .ok (.aload_n 1, 1) := by decide +kernel
theorem dX6_handOf_26 : decode cX6_handOf 26 = .ok (.getfield 91, 3) := by decide +kernel
theorem dX6_handOf_29 : decode cX6_handOf 29 = .ok (.iconst 0, 1) := by decide +kernel
theorem dX6_handOf_30 : decode cX6_handOf 30 = .ok (.iaload, 1) := by decide +kernel
theorem dX6_handOf_31 : decode cX6_handOf 31 = .ok (.aload_n 0, 1) := by decide +kernel
theorem dX6_handOf_32 : decode cX6_handOf 32 = .ok (.getfield 43, 3) := by decide +kernel
theorem dX6_handOf_35 : decode cX6_handOf 35 = .ok (.iload_n 3, 1) := by decide +kernel
theorem dX6_handOf_36 : decode cX6_handOf 36 = .ok (.iaload, 1) := by decide +kernel
theorem dX6_handOf_37 : decode cX6_handOf 37 = .ok (.imul, 1) := by decide +kernel
theorem dX6_handOf_38 : decode cX6_handOf 38 = .ok (.aload_n 1, 1) := by decide +kernel
theorem dX6_handOf_39 : decode cX6_handOf 39 = .ok (.getfield 91, 3) := by decide +kernel
theorem dX6_handOf_42 : decode cX6_handOf 42 = .ok (.iconst 1, 1) := by decide +kernel
theorem dX6_handOf_43 : decode cX6_handOf 43 = .ok (.iaload, 1) := by decide +kernel
theorem dX6_handOf_44 : decode cX6_handOf 44 = .ok (.aload_n 0, 1) := by decide +kernel
theorem dX6_handOf_45 : decode cX6_handOf 45 = .ok (.getfield 47, 3) := by decide +kernel
theorem dX6_handOf_48 : decode cX6_handOf 48 = .ok (.iload_n 3, 1) := by decide +kernel
theorem dX6_handOf_49 : decode cX6_handOf 49 = .ok (.iaload, 1) := by decide +kernel
theorem dX6_handOf_50 : decode cX6_handOf 50 = .ok (.imul, 1) := by decide +kernel
theorem dX6_handOf_51 : decode cX6_handOf 51 = .ok (.iadd, 1) := by decide +kernel
theorem dX6_handOf_52 : decode cX6_handOf 52 = .ok (.aload_n 1, 1) := by decide +kernel
theorem dX6_handOf_53 : decode cX6_handOf 53 = .ok (.getfield 91, 3) := by decide +kernel
theorem dX6_handOf_56 : decode cX6_handOf 56 = .ok (.iconst 2, 1) := by decide +kernel
theorem dX6_handOf_57 : decode cX6_handOf 57 = .ok (.iaload, 1) := by decide +kernel
theorem dX6_handOf_58 : decode cX6_handOf 58 = .ok (.aload_n 0, 1) := by decide +kernel
theorem dX6_handOf_59 : decode cX6_handOf 59 = .ok (.getfield 50, 3) := by decide +kernel
theorem dX6_handOf_62 : decode cX6_handOf 62 = .ok (.iload_n 3, 1) := by decide +kernel
theorem dX6_handOf_63 : decode cX6_handOf 63 = .ok (.iaload, 1) := by decide +kernel
theorem dX6_handOf_64 : decode cX6_handOf 64 = .ok (.imul, 1) := by decide +kernel
theorem dX6_handOf_65 : decode cX6_handOf 65 = .ok (.iadd, 1) := by decide +kernel
theorem dX6_handOf_66 : decode cX6_handOf 66 = .ok (.istore 4, 2) := by decide +kernel
theorem dX6_handOf_68 : decode cX6_handOf 68 = .ok (.iload 4, 2) := by decide +kernel
theorem dX6_handOf_70 : decode cX6_handOf 70 = .ok (.bipush 10, 2) := by decide +kernel
theorem dX6_handOf_72 : decode cX6_handOf 72 = .ok (.idiv, 1) := by decide +kernel
theorem dX6_handOf_73 : decode cX6_handOf 73 = .ok (.aload_n 1, 1) := by decide +kernel
theorem dX6_handOf_74 : decode cX6_handOf 74 = .ok (.getfield 91, 3) := by decide +kernel
theorem dX6_handOf_77 : decode cX6_handOf 77 = .ok (.iconst 4, 1) := by decide +kernel
theorem dX6_handOf_78 : decode cX6_handOf 78 = .ok (.iaload, 1) := by decide +kernel
theorem dX6_handOf_79 : decode cX6_handOf 79 = .ok (.invokestatic 85, 3) := by decide +kernel
theorem dX6_handOf_82 : decode cX6_handOf 82 = .ok (.istore 5, 2) := by decide +kernel
theorem dX6_handOf_84 : decode cX6_handOf 84 = .ok (.aload_n 0, 1) := by decide +kernel
theorem dX6_handOf_85 : decode cX6_handOf 85 = .ok (.getfield 18, 3) := by decide +kernel
theorem dX6_handOf_88 : decode cX6_handOf 88 = .ok (.ifCond .eq 9, 3) := by decide +kernel
theorem dX6_handOf_91 : decode cX6_handOf 91 = .ok (.iload 5, 2) := by decide +kernel
theorem dX6_handOf_93 : decode cX6_handOf 93 = .ok (.ineg, 1) := by decide +kernel
theorem dX6_handOf_94 : decode cX6_handOf 94 = .ok (.goto 5, 3) := by decide +kernel
theorem dX6_handOf_97 : decode cX6_handOf 97 = .ok (.iload 5, 2) := by decide +kernel
theorem dX6_handOf_99 : decode cX6_handOf 99 = .ok (.ireturn, 1) := by decide +kernel
theorem dX6_lookWhetherItFalls_0 : decode cX6_lookWhetherItFalls 0 = .ok (.aload_n 0, 1) := by decide +kernel
theorem dX6_lookWhetherItFalls_1 : decode cX6_lookWhetherItFalls 1 = .ok (.aload_n 0, 1) := by decide +kernel
theorem dX6_lookWhetherItFalls_2 : decode cX6_lookWhetherItFalls 2 = .ok (.getfield 22, 3) := by decide +kernel
theorem dX6_lookWhetherItFalls_5 : decode cX6_lookWhetherItFalls 5 = .ok (.sipush 1000, 3) := by decide +kernel
theorem dX6_lookWhetherItFalls_8 : decode cX6_lookWhetherItFalls 8 = .ok (.if_icmp .gt 13, 3) := by decide +kernel
theorem dX6_lookWhetherItFalls_11 : decode cX6_lookWhetherItFalls 11 = .ok (.aload_n 0, 1) := by decide +kernel
theorem dX6_lookWhetherItFalls_12 : decode cX6_lookWhetherItFalls 12 = .ok (.getfield 22, 3) := by decide +kernel
theorem dX6_lookWhetherItFalls_15 : decode cX6_lookWhetherItFalls 15 = .ok (.sipush (-1000), 3) := by decide +kernel
theorem dX6_lookWhetherItFalls_18 : decode cX6_lookWhetherItFalls 18 = .ok (.if_icmp .ge 7, 3) := by decide +kernel
theorem dX6_lookWhetherItFalls_21 : decode cX6_lookWhetherItFalls 21 = .ok (.iconst 1, 1) := by decide +kernel
theorem dX6_lookWhetherItFalls_22 : decode cX6_lookWhetherItFalls 22 = .ok (.goto 4, 3) := by decide +kernel
theorem dX6_lookWhetherItFalls_25 : decode cX6_lookWhetherItFalls 25 = .ok (.iconst 0, 1) := by decide +kernel
theorem dX6_lookWhetherItFalls_26 : decode cX6_lookWhetherItFalls 26 = .ok (.putfield 40, 3) := by decide +kernel
theorem dX6_lookWhetherItFalls_29 : decode cX6_lookWhetherItFalls 29 = .ok (.return_, 1) := by decide +kernel
theorem dX7_init_0 : decode cX7_init 0 = .ok (.aload_n 0, 1) := by decide +kernel
theorem dX7_init_1 : decode cX7_init 1 = .ok (.invokespecial 1, 3) := by decide +kernel
theorem dX7_init_4 : decode cX7_init 4 = .ok (.aload_n 0, 1) := by decide +kernel
theorem dX7_init_5 : decode cX7_init 5 = .ok (.iconst 5, 1) := by decide +kernel
theorem dX7_init_6 : decode cX7_init 6 = .ok (.newarray .int, 2) := by decide +kernel
theorem dX7_init_8 : decode cX7_init 8 = .ok (.putfield 9, 3) := by decide +kernel
theorem dX7_init_11 : decode cX7_init 11 = .ok (.aload_n 0, 1) := by decide +kernel
theorem dX7_init_12 : decode cX7_init 12 = .ok (.iconst 0, 1) := by decide +kernel
theorem dX7_init_13 : decode cX7_init 13 = .ok (.putfield 13, 3) := by decide +kernel
theorem dX7_init_16 : decode cX7_init 16 = .ok (.getstatic 17, 3) := by decide +kernel
theorem dX7_init_19 : decode cX7_init 19 = .ok (.iconst 0, 1) := by decide +kernel
theorem dX7_init_20 : decode cX7_init 20 = .ok (.aload_n 0, 1) := by decide +kernel
theorem dX7_init_21 : decode cX7_init 21 = .ok (.getfield 9, 3) := by decide +kernel
theorem dX7_init_24 : decode cX7_init 24 = .ok (.iconst 0, 1) := by decide +kernel
theorem dX7_init_25 : decode cX7_init 25 = .ok (.iconst 5, 1) := by decide +kernel
theorem dX7_init_26 : decode cX7_init 26 = .ok (.invokestatic 20, 3) := by decide +kernel
theorem dX7_init_29 : decode cX7_init 29 = .ok (.return_, 1) := by decide +kernel
theorem dX7_forget_0 : decode cX7_forget 0 = .ok (.getstatic 17, 3) := by decide +kernel
theorem dX7_forget_3 : decode cX7_forget 3 = .ok (.iconst 0, 1) := by decide +kernel
theorem dX7_forget_4 : decode cX7_forget 4 = .ok (.aload_n 0, 1) := by decide +kernel
theorem dX7_forget_5 : decode cX7_forget 5 = .ok (.getfield 9, 3) := by decide +kernel
theorem dX7_forget_8 : decode cX7_forget 8 = .ok (.iconst 0, 1) := by decide +kernel
theorem dX7_forget_9 : decode cX7_forget 9 = .ok (.iconst 5, 1) := by decide +kernel
theorem dX7_forget_10 : decode cX7_forget 10 = .ok (.invokestatic 20, 3) := by decide +kernel
theorem dX7_forget_13 : decode cX7_forget 13 = .ok (.aload_n 0, 1) := by decide +kernel
theorem dX7_forget_14 : decode cX7_forget 14 = .ok (.iconst 0, 1) := by decide +kernel
theorem dX7_forget_15 : decode cX7_forget 15 = .ok (.putfield 13, 3) := by decide +kernel
theorem dX7_forget_18 : decode cX7_forget 18 = .ok (.return_, 1) := by decide +kernel
theorem dX7_copyFrom_0 : decode cX7_copyFrom 0 = .ok (.aload_n 1, 1) := by decide +kernel
theorem dX7_copyFrom_1 : decode cX7_copyFrom 1 = .ok (.getfield 9, 3) := by decide +kernel
theorem dX7_copyFrom_4 : decode cX7_copyFrom 4 = .ok (.iconst 0, 1) := by decide +kernel
theorem dX7_copyFrom_5 : decode cX7_copyFrom 5 = .ok (.aload_n 0, 1) := by decide +kernel
theorem dX7_copyFrom_6 : decode cX7_copyFrom 6 = .ok (.getfield 9, 3) := by decide +kernel
theorem dX7_copyFrom_9 : decode cX7_copyFrom 9 = .ok (.iconst 0, 1) := by decide +kernel
theorem dX7_copyFrom_10 : decode cX7_copyFrom 10 = .ok (.iconst 5, 1) := by decide +kernel
theorem dX7_copyFrom_11 : decode cX7_copyFrom 11 = .ok (.invokestatic 20, 3) := by decide +kernel
theorem dX7_copyFrom_14 : decode cX7_copyFrom 14 = .ok (.aload_n 0, 1) := by decide +kernel
theorem dX7_copyFrom_15 : decode cX7_copyFrom 15 = .ok (.aload_n 1, 1) := by decide +kernel
theorem dX7_copyFrom_16 : decode cX7_copyFrom 16 = .ok (.getfield 13, 3) := by decide +kernel
theorem dX7_copyFrom_19 : decode cX7_copyFrom 19 = .ok (.putfield 13, 3) := by decide +kernel
theorem dX7_copyFrom_22 : decode cX7_copyFrom 22 = .ok (.return_, 1) := by decide +kernel
theorem dX7_wasTold_0 : decode cX7_wasTold 0 = .ok (.aload_n 0, 1) := by decide +kernel
theorem dX7_wasTold_1 : decode cX7_wasTold 1 = .ok (.getfield 13, 3) := by decide +kernel
theorem dX7_wasTold_4 : decode cX7_wasTold 4 = .ok (.iconst 1, 1) := by decide +kernel
theorem dX7_wasTold_5 : decode cX7_wasTold 5 = .ok (.iload_n 1, 1) := by decide +kernel
theorem dX7_wasTold_6 : decode cX7_wasTold 6 = .ok (.ishl, 1) := by decide +kernel
theorem dX7_wasTold_7 : decode cX7_wasTold 7 = .ok (.iand, 1) := by decide +kernel
theorem dX7_wasTold_8 : decode cX7_wasTold 8 = .ok (.ifCond .eq 7, 3) := by decide +kernel
theorem dX7_wasTold_11 : decode cX7_wasTold 11 = .ok (.iconst 1, 1) := by decide +kernel
theorem dX7_wasTold_12 : decode cX7_wasTold 12 = .ok (.goto 4, 3) := by decide +kernel
theorem dX7_wasTold_15 : decode cX7_wasTold 15 = .ok (.iconst 0, 1) := by decide +kernel
theorem dX7_wasTold_16 : decode cX7_wasTold 16 = .ok (.ireturn, 1) := by decide +kernel
set_option maxRecDepth 20000 in
theorem ggX7_tell_X8_within : GoodIn wsX7_tell wsX8_within := goodIn_r _ [5] (by decide +kernel) (by decide +kernel)
set_option maxRecDepth 20000 in
theorem gX7_tell_X8_within_n26 : GoodIn wsX7_tell (wsX8_within) := ggX7_tell_X8_within
theorem dX7_tell_0 : decode cX7_tell 0 = .ok (.iload_n 1, 1) := by decide +kernel
theorem dX7_tell_1 : decode cX7_tell 1 = .ok (.iconst 0, 1) := by decide +kernel
theorem dX7_tell_2 : decode cX7_tell 2 = .ok (.iconst 4, 1) := by decide +kernel
theorem dX7_tell_3 : decode cX7_tell 3 = .ok (.invokestatic 26, 3) := by decide +kernel
theorem dX7_tell_6 : decode cX7_tell 6 = .ok (.ifCond .eq 22, 3) := by decide +kernel
theorem dX7_tell_9 : decode cX7_tell 9 = .ok (.aload_n 0, 1) := by decide +kernel
theorem dX7_tell_10 : decode cX7_tell 10 = .ok (.getfield 9, 3) := by decide +kernel
theorem dX7_tell_13 : decode cX7_tell 13 = .ok (.iload_n 1, 1) := by decide +kernel
theorem dX7_tell_14 : decode cX7_tell 14 = .ok (.iload_n 2, 1) := by decide +kernel
theorem dX7_tell_15 : decode cX7_tell 15 = .ok (.iastore, 1) := by decide +kernel
theorem dX7_tell_16 : decode cX7_tell 16 = .ok (.aload_n 0, 1) := by decide +kernel
theorem dX7_tell_17 : decode cX7_tell 17 = .ok (.dup, 1) := by decide +kernel
theorem dX7_tell_18 : decode cX7_tell 18 = .ok (.getfield 13, 3) := by decide +kernel
theorem dX7_tell_21 : decode cX7_tell 21 = .ok (.iconst 1, 1) := by decide +kernel
theorem dX7_tell_22 : decode cX7_tell 22 = .ok (.iload_n 1, 1) := by decide +kernel
theorem dX7_tell_23 : decode cX7_tell 23 = .ok (.ishl, 1) := by decide +kernel
theorem dX7_tell_24 : decode cX7_tell 24 = .ok (.ior, 1) := by decide +kernel
theorem dX7_tell_25 : decode cX7_tell 25 = .ok (.putfield 13, 3) := by decide +kernel
theorem dX7_tell_28 : decode cX7_tell 28 = .ok (.return_, 1) := by decide +kernel
set_option maxRecDepth 20000 in
theorem ggX7_itemCount_J6_bitCount_0f7a4 : GoodIn wsX7_itemCount wsJ6_bitCount_0f7a4 := goodIn_r _ [5, 6, 7, 8] (by decide +kernel) (by decide +kernel)
set_option maxRecDepth 20000 in
theorem gX7_itemCount_J6_bitCount_0f7a4 : GoodIn wsX7_itemCount (va_wsS RX7 32 yJ6_bitCount_0f7a4 wsJ6_bitCount_0f7a4) := goodIn_app (goodIn_of _ (by decide +kernel)) ggX7_itemCount_J6_bitCount_0f7a4
theorem dX7_itemCount_0 : decode cX7_itemCount 0 = .ok (.aload_n 0, 1) := by decide +kernel
theorem dX7_itemCount_1 : decode cX7_itemCount 1 = .ok (.getfield 13, 3) := by decide +kernel
theorem dX7_itemCount_4 : decode cX7_itemCount 4 = .ok (.invokestatic 32, 3) := by decide +kernel
theorem dX7_itemCount_7 : decode cX7_itemCount 7 = .ok (.ireturn, 1) := by decide +kernel
set_option maxRecDepth 20000 in
theorem ggX8_init_X0_init : GoodIn wsX8_init wsX0_init := goodIn_r _ [46, 47, 2, 3, 17, 48, 49, 50, 51, 52, 130] (by decide +kernel) (by decide +kernel)
set_option maxRecDepth 20000 in
theorem gX8_init_X0_init_n15 : GoodIn wsX8_init (wsX0_init) := ggX8_init_X0_init
set_option maxRecDepth 20000 in
theorem ggX8_init_X1_init : GoodIn wsX8_init wsX1_init := goodIn_r _ [54, 55, 2, 3, 56, 6, 7, 57, 45, 46, 47, 17, 48, 49, 50, 51, 52, 130, 131] (by decide +kernel) (by decide +kernel)
set_option maxRecDepth 20000 in
theorem gX8_init_X1_init_n22 : GoodIn wsX8_init (wsX1_init) := ggX8_init_X1_init
set_option maxRecDepth 20000 in
theorem ggX8_init_X2_init : GoodIn wsX8_init wsX2_init := goodIn_r _ [59, 60, 2, 3, 61, 6, 7, 62, 17, 63, 64, 45, 46, 47, 48, 49, 50, 51, 52, 65, 66, 15, 67, 130, 132, 133, 134] (by decide +kernel) (by decide +kernel)
set_option maxRecDepth 20000 in
theorem gX8_init_X2_init_n29 : GoodIn wsX8_init (wsX2_init) := ggX8_init_X2_init
set_option maxRecDepth 20000 in
theorem ggX8_init_X5_init : GoodIn wsX8_init wsX5_init := goodIn_r _ [69, 70, 2, 3, 17, 71, 72, 73, 74, 75, 76, 135, 136, 137, 138, 139, 140] (by decide +kernel) (by decide +kernel)
set_option maxRecDepth 20000 in
theorem gX8_init_X5_init_n44 : GoodIn wsX8_init (wsX5_init) := ggX8_init_X5_init
set_option maxRecDepth 20000 in
theorem ggX8_init_X7_init : GoodIn wsX8_init wsX7_init := goodIn_r _ [78, 79, 2, 3, 17, 80, 81, 82, 83, 50, 51, 52, 141, 142] (by decide +kernel) (by decide +kernel)
set_option maxRecDepth 20000 in
theorem gX8_init_X7_init_n51 : GoodIn wsX8_init (wsX7_init) := ggX8_init_X7_init
set_option maxRecDepth 20000 in
theorem ggX8_init_X6_init : GoodIn wsX8_init wsX6_init := goodIn_r _ [85, 86, 2, 3, 87, 88, 89, 90, 91, 92, 93, 94, 95, 96, 17, 97, 98, 99, 143, 144, 145, 146, 147, 148, 149, 150, 151, 152, 153, 154, 155] (by decide +kernel) (by decide +kernel)
set_option maxRecDepth 20000 in
theorem gX8_init_X6_init_n61 : GoodIn wsX8_init (wsX6_init) := ggX8_init_X6_init
set_option maxRecDepth 20000 in
theorem ggX8_init_X3_init : GoodIn wsX8_init wsX3_init := goodIn_r _ [101, 102, 2, 3, 17, 103, 104, 105, 156, 157] (by decide +kernel) (by decide +kernel)
set_option maxRecDepth 20000 in
theorem gX8_init_X3_init_n71 : GoodIn wsX8_init (wsX3_init) := ggX8_init_X3_init
set_option maxRecDepth 20000 in
theorem ggX8_init_X4_init : GoodIn wsX8_init wsX4_init := goodIn_r _ [107, 108, 2, 3, 109, 30, 31, 110, 111, 35, 36, 112, 113, 84, 85, 86, 87, 88, 89, 90, 91, 92, 93, 94, 95, 96, 17, 97, 98, 99, 100, 101, 102, 103, 104, 105, 143, 144, 145, 146, 147, 148, 149, 150, 151, 152, 153, 154, 155, 158, 159, 160, 156, 157] (by decide +kernel) (by decide +kernel)
set_option maxRecDepth 20000 in
theorem gX8_init_X4_init_n92 : GoodIn wsX8_init (wsX4_init) := ggX8_init_X4_init
theorem dX8_init_0 : decode cX8_init 0 = .ok (.aload_n 0, 1) := by decide +kernel
theorem dX8_init_1 : decode cX8_init 1 = .ok (.invokespecial 1, 3) := by decide +kernel
theorem dX8_init_4 : decode cX8_init 4 = .ok (.aload_n 0, 1) := by decide +kernel
theorem dX8_init_5 : decode cX8_init 5 = .ok (.iconst 4, 1) := by decide +kernel
theorem dX8_init_6 : decode cX8_init 6 = .ok (.anewarray 9, 3) := by decide +kernel
theorem dX8_init_9 : decode cX8_init 9 = .ok (.putfield 11, 3) := by decide +kernel
theorem dX8_init_12 : decode cX8_init 12 = .ok (.aload_n 0, 1) := by decide +kernel
theorem dX8_init_13 : decode cX8_init 13 = .ok (.new 9, 3) := by decide +kernel
theorem dX8_init_16 : decode cX8_init 16 = .ok (.dup, 1) := by decide +kernel
theorem dX8_init_17 : decode cX8_init 17 = .ok (.invokespecial 15, 3) := by decide +kernel
theorem dX8_init_20 : decode cX8_init 20 = .ok (.putfield 16, 3) := by decide +kernel
theorem dX8_init_23 : decode cX8_init 23 = .ok (.aload_n 0, 1) := by decide +kernel
theorem dX8_init_24 : decode cX8_init 24 = .ok (.new 20, 3) := by decide +kernel
theorem dX8_init_27 : decode cX8_init 27 = .ok (.dup, 1) := by decide +kernel
theorem dX8_init_28 : decode cX8_init 28 = .ok (.invokespecial 22, 3) := by decide +kernel
theorem dX8_init_31 : decode cX8_init 31 = .ok (.putfield 23, 3) := by decide +kernel
theorem dX8_init_34 : decode cX8_init 34 = .ok (.aload_n 0, 1) := by decide +kernel
theorem dX8_init_35 : decode cX8_init 35 = .ok (.new 27, 3) := by decide +kernel
theorem dX8_init_38 : decode cX8_init 38 = .ok (.dup, 1) := by decide +kernel
theorem dX8_init_39 : decode cX8_init 39 = .ok (.invokespecial 29, 3) := by decide +kernel
theorem dX8_init_42 : decode cX8_init 42 = .ok (.putfield 30, 3) := by decide +kernel
theorem dX8_init_45 : decode cX8_init 45 = .ok (.aload_n 0, 1) := by decide +kernel
theorem dX8_init_46 : decode cX8_init 46 = .ok (.sipush 200, 3) := by decide +kernel
theorem dX8_init_49 : decode cX8_init 49 = .ok (.newarray .int, 2) := by decide +kernel
theorem dX8_init_51 : decode cX8_init 51 = .ok (.putfield 34, 3) := by decide +kernel
theorem dX8_init_54 : decode cX8_init 54 = .ok (.aload_n 0, 1) := by decide +kernel
theorem dX8_init_55 : decode cX8_init 55 = .ok (.iconst 0, 1) := by decide +kernel
theorem dX8_init_56 : decode cX8_init 56 = .ok (.putfield 38, 3) := by decide +kernel
theorem dX8_init_59 : decode cX8_init 59 = .ok (.aload_n 0, 1) := by decide +kernel
theorem dX8_init_60 : decode cX8_init 60 = .ok (.new 42, 3) := by decide +kernel
theorem dX8_init_63 : decode cX8_init 63 = .ok (.dup, 1) := by decide +kernel
theorem dX8_init_64 : decode cX8_init 64 = .ok (.invokespecial 44, 3) := by decide +kernel
theorem dX8_init_67 : decode cX8_init 67 = .ok (.putfield 45, 3) := by decide +kernel
theorem dX8_init_70 : decode cX8_init 70 = .ok (.aload_n 0, 1) := by decide +kernel
theorem dX8_init_71 : decode cX8_init 71 = .ok (.new 49, 3) := by decide +kernel
theorem dX8_init_74 : decode cX8_init 74 = .ok (.dup, 1) := by decide +kernel
theorem dX8_init_75 : decode cX8_init 75 = .ok (.invokespecial 51, 3) := by decide +kernel
theorem dX8_init_78 : decode cX8_init 78 = .ok (.putfield 52, 3) := by decide +kernel
theorem dX8_init_81 : decode cX8_init 81 = .ok (.aload_n 0, 1) := by decide +kernel
theorem dX8_init_82 : decode cX8_init 82 = .ok (.new 49, 3) := by decide +kernel
theorem dX8_init_85 : decode cX8_init 85 = .ok (.dup, 1) := by decide +kernel
theorem dX8_init_86 : decode cX8_init 86 = .ok (.invokespecial 51, 3) := by decide +kernel
theorem dX8_init_89 : decode cX8_init 89 = .ok (.putfield 56, 3) := by decide +kernel
theorem dX8_init_92 : decode cX8_init 92 = .ok (.aload_n 0, 1) := by decide +kernel
theorem dX8_init_93 : decode cX8_init 93 = .ok (.new 59, 3) := by decide +kernel
theorem dX8_init_96 : decode cX8_init 96 = .ok (.dup, 1) := by decide +kernel
theorem dX8_init_97 : decode cX8_init 97 = .ok (.invokespecial 61, 3) := by decide +kernel
theorem dX8_init_100 : decode cX8_init 100 = .ok (.putfield 62, 3) := by decide +kernel
theorem dX8_init_103 : decode cX8_init 103 = .ok (.aload_n 0, 1) := by decide +kernel
theorem dX8_init_104 : decode cX8_init 104 = .ok (.new 59, 3) := by decide +kernel
theorem dX8_init_107 : decode cX8_init 107 = .ok (.dup, 1) := by decide +kernel
theorem dX8_init_108 : decode cX8_init 108 = .ok (.invokespecial 61, 3) := by decide +kernel
theorem dX8_init_111 : decode cX8_init 111 = .ok (.putfield 66, 3) := by decide +kernel
theorem dX8_init_114 : decode cX8_init 114 = .ok (.aload_n 0, 1) := by decide +kernel
theorem dX8_init_115 : decode cX8_init 115 = .ok (.new 69, 3) := by decide +kernel
theorem dX8_init_118 : decode cX8_init 118 = .ok (.dup, 1) := by decide +kernel
theorem dX8_init_119 : decode cX8_init 119 = .ok (.invokespecial 71, 3) := by decide +kernel
theorem dX8_init_122 : decode cX8_init 122 = .ok (.putfield 72, 3) := by decide +kernel
theorem dX8_init_125 : decode cX8_init 125 = .ok (.aload_n 0, 1) := by decide +kernel
theorem dX8_init_126 : decode cX8_init 126 = .ok (.iconst 5, 1) := by decide +kernel
theorem dX8_init_127 : decode cX8_init 127 = .ok (.putfield 76, 3) := by decide +kernel
theorem dX8_init_130 : decode cX8_init 130 = .ok (.aload_n 0, 1) := by decide +kernel
theorem dX8_init_131 : decode cX8_init 131 = .ok (.iconst 3, 1) := by decide +kernel
theorem dX8_init_132 : decode cX8_init 132 = .ok (.putfield 79, 3) := by decide +kernel
theorem dX8_init_135 : decode cX8_init 135 = .ok (.aload_n 0, 1) := by decide +kernel
theorem dX8_init_136 : decode cX8_init 136 = .ok (.iconst 2, 1) := by decide +kernel
theorem dX8_init_137 : decode cX8_init 137 = .ok (.anewarray 82, 3) := by decide +kernel
theorem dX8_init_140 : decode cX8_init 140 = .ok (.putfield 84, 3) := by decide +kernel
theorem dX8_init_143 : decode cX8_init 143 = .ok (.aload_n 0, 1) := by decide +kernel
theorem dX8_init_144 : decode cX8_init 144 = .ok (.lconst 0, 1) := by decide +kernel
theorem dX8_init_145 : decode cX8_init 145 = .ok (.putfield 88, 3) := by decide +kernel
theorem dX8_init_148 : decode cX8_init 148 = .ok (.iconst 0, 1) := by decide +kernel
theorem dX8_init_149 : decode cX8_init 149 = .ok (.istore_n 1, 1) := by decide +kernel
theorem dX8_init_150 : decode cX8_init 150 = .ok (.iload_n 1, 1) := by decide +kernel
theorem dX8_init_151 : decode cX8_init 151 = .ok (.iconst 4, 1) := by decide +kernel
theorem dX8_init_152 : decode cX8_init 152 = .ok (.if_icmp .ge 22, 3) := by decide +kernel
theorem dX8_init_155 : decode cX8_init 155 = .ok (.aload_n 0, 1) := by decide +kernel
theorem dX8_init_156 : decode cX8_init 156 = .ok (.getfield 11, 3) := by decide +kernel
theorem dX8_init_159 : decode cX8_init 159 = .ok (.iload_n 1, 1) := by decide +kernel
theorem dX8_init_160 : decode cX8_init 160 = .ok (.new 9, 3) := by decide +kernel
theorem dX8_init_163 : decode cX8_init 163 = .ok (.dup, 1) := by decide +kernel
theorem dX8_init_164 : decode cX8_init 164 = .ok (.invokespecial 15, 3) := by decide +kernel
theorem dX8_init_167 : decode cX8_init 167 = .ok (.aastore, 1) := by decide +kernel
theorem dX8_init_168 : decode cX8_init 168 = .ok (.iinc 1 1, 3) := by decide +kernel
theorem dX8_init_171 : decode cX8_init 171 = .ok (.goto (-21), 3) := by decide +kernel
theorem dX8_init_174 : decode cX8_init 174 = .ok (.iconst 0, 1) := by decide +kernel
theorem dX8_init_175 : decode cX8_init 175 = .ok (.istore_n 1, 1) := by decide +kernel
theorem dX8_init_176 : decode cX8_init 176 = .ok (.iload_n 1, 1) := by decide +kernel
theorem dX8_init_177 : decode cX8_init 177 = .ok (.iconst 2, 1) := by decide +kernel
theorem dX8_init_178 : decode cX8_init 178 = .ok (.if_icmp .ge 22, 3) := by decide +kernel
theorem dX8_init_181 : decode cX8_init 181 = .ok (.aload_n 0, 1) := by decide +kernel
theorem dX8_init_182 : decode cX8_init 182 = .ok (.getfield 84, 3) := by decide +kernel
theorem dX8_init_185 : decode cX8_init 185 = .ok (.iload_n 1, 1) := by decide +kernel
theorem dX8_init_186 : decode cX8_init 186 = .ok (.new 82, 3) := by decide +kernel
theorem dX8_init_189 : decode cX8_init 189 = .ok (.dup, 1) := by decide +kernel
theorem dX8_init_190 : decode cX8_init 190 = .ok (.invokespecial 92, 3) := by decide +kernel
theorem dX8_init_193 : decode cX8_init 193 = .ok (.aastore, 1) := by decide +kernel
theorem dX8_init_194 : decode cX8_init 194 = .ok (.iinc 1 1, 3) := by decide +kernel
theorem dX8_init_197 : decode cX8_init 197 = .ok (.goto (-21), 3) := by decide +kernel
theorem dX8_init_200 : decode cX8_init 200 = .ok (.return_, 1) := by decide +kernel
set_option maxRecDepth 20000 in
theorem ggX8_number_X8_isBicycle : GoodIn wsX8_number wsX8_isBicycle := goodIn_r _ [8, 9, 10, 7, 11] (by decide +kernel) (by decide +kernel)
set_option maxRecDepth 20000 in
theorem gX8_number_X8_isBicycle : GoodIn wsX8_number (va_wsS RX8 93 yX8_isBicycle wsX8_isBicycle) := goodIn_app (goodIn_of _ (by decide +kernel)) ggX8_number_X8_isBicycle
set_option maxRecDepth 20000 in
theorem ggX8_number_X8_isNumber : GoodIn wsX8_number wsX8_isNumber := goodIn_r _ [14, 9, 10, 7, 11] (by decide +kernel) (by decide +kernel)
set_option maxRecDepth 20000 in
theorem gX8_number_X8_isNumber : GoodIn wsX8_number (va_wsS RX8 97 yX8_isNumber wsX8_isNumber) := goodIn_app (goodIn_of _ (by decide +kernel)) ggX8_number_X8_isNumber
set_option maxRecDepth 20000 in
theorem ggX8_number_X8_within : GoodIn wsX8_number wsX8_within := goodIn_r _ [11] (by decide +kernel) (by decide +kernel)
set_option maxRecDepth 20000 in
theorem gX8_number_X8_within : GoodIn wsX8_number (va_wsS RX8 106 yX8_within wsX8_within) := goodIn_app (goodIn_of _ (by decide +kernel)) ggX8_number_X8_within
set_option maxRecDepth 20000 in
theorem ggX8_number_X0_valueOf : GoodIn wsX8_number wsX0_valueOf := goodIn_r _ [18, 19, 13, 7, 14, 9, 10, 11, 39] (by decide +kernel) (by decide +kernel)
set_option maxRecDepth 20000 in
theorem gX8_number_X0_valueOf_n111 : GoodIn wsX8_number (wsX0_valueOf) := ggX8_number_X0_valueOf
set_option maxRecDepth 20000 in
theorem ggX8_number_X0_put : GoodIn wsX8_number wsX0_put := goodIn_r _ [22, 19, 13, 7, 14, 9, 10, 11, 39] (by decide +kernel) (by decide +kernel)
set_option maxRecDepth 20000 in
theorem gX8_number_X0_put_n115 : GoodIn wsX8_number (wsX0_put) := ggX8_number_X0_put
theorem dX8_number_0 : decode cX8_number 0 = .ok (.iload_n 1, 1) := by decide +kernel
theorem dX8_number_1 : decode cX8_number 1 = .ok (.invokestatic 93, 3) := by decide +kernel
theorem dX8_number_4 : decode cX8_number 4 = .ok (.ifCond .eq 27, 3) := by decide +kernel
theorem dX8_number_7 : decode cX8_number 7 = .ok (.iload_n 2, 1) := by decide +kernel
theorem dX8_number_8 : decode cX8_number 8 = .ok (.invokestatic 97, 3) := by decide +kernel
theorem dX8_number_11 : decode cX8_number 11 = .ok (.ifCond .eq 20, 3) := by decide +kernel
theorem dX8_number_14 : decode cX8_number 14 = .ok (.iload_n 3, 1) := by decide +kernel
theorem dX8_number_15 : decode cX8_number 15 = .ok (.getstatic 100, 3) := by decide +kernel
theorem dX8_number_18 : decode cX8_number 18 = .ok (.iload_n 2, 1) := by decide +kernel
theorem dX8_number_19 : decode cX8_number 19 = .ok (.iaload, 1) := by decide +kernel
theorem dX8_number_20 : decode cX8_number 20 = .ok (.getstatic 103, 3) := by decide +kernel
theorem dX8_number_23 : decode cX8_number 23 = .ok (.iload_n 2, 1) := by decide +kernel
theorem dX8_number_24 : decode cX8_number 24 = .ok (.iaload, 1) := by decide +kernel
theorem dX8_number_25 : decode cX8_number 25 = .ok (.invokestatic 106, 3) := by decide +kernel
theorem dX8_number_28 : decode cX8_number 28 = .ok (.ifCond .ne 6, 3) := by decide +kernel
theorem dX8_number_31 : decode cX8_number 31 = .ok (.ldc 110, 2) := by decide +kernel
theorem dX8_number_33 : decode cX8_number 33 = .ok (.ireturn, 1) := by decide +kernel
theorem dX8_number_34 : decode cX8_number 34 = .ok (.aload_n 0, 1) := by decide +kernel
theorem dX8_number_35 : decode cX8_number 35 = .ok (.getfield 11, 3) := by decide +kernel
theorem dX8_number_38 : decode cX8_number 38 = .ok (.iload_n 1, 1) := by decide +kernel
theorem dX8_number_39 : decode cX8_number 39 = .ok (.aaload, 1) := by decide +kernel
theorem dX8_number_40 : decode cX8_number 40 = .ok (.iload_n 2, 1) := by decide +kernel
theorem dX8_number_41 : decode cX8_number 41 = .ok (.invokevirtual 111, 3) := by decide +kernel
theorem dX8_number_44 : decode cX8_number 44 = .ok (.istore 4, 2) := by decide +kernel
theorem dX8_number_46 : decode cX8_number 46 = .ok (.aload_n 0, 1) := by decide +kernel
theorem dX8_number_47 : decode cX8_number 47 = .ok (.getfield 11, 3) := by decide +kernel
theorem dX8_number_50 : decode cX8_number 50 = .ok (.iload_n 1, 1) := by decide +kernel
theorem dX8_number_51 : decode cX8_number 51 = .ok (.aaload, 1) := by decide +kernel
theorem dX8_number_52 : decode cX8_number 52 = .ok (.iload_n 2, 1) := by decide +kernel
theorem dX8_number_53 : decode cX8_number 53 = .ok (.iload_n 3, 1) := by decide +kernel
theorem dX8_number_54 : decode cX8_number 54 = .ok (.invokevirtual 115, 3) := by decide +kernel
theorem dX8_number_57 : decode cX8_number 57 = .ok (.iload 4, 2) := by decide +kernel
theorem dX8_number_59 : decode cX8_number 59 = .ok (.ireturn, 1) := by decide +kernel
set_option maxRecDepth 20000 in
theorem ggX8_has_X8_isBicycle : GoodIn wsX8_has wsX8_isBicycle := goodIn_r _ [6, 7, 8, 5, 9] (by decide +kernel) (by decide +kernel)
set_option maxRecDepth 20000 in
theorem gX8_has_X8_isBicycle : GoodIn wsX8_has (va_wsS RX8 93 yX8_isBicycle wsX8_isBicycle) := goodIn_app (goodIn_of _ (by decide +kernel)) ggX8_has_X8_isBicycle
set_option maxRecDepth 20000 in
theorem ggX8_has_X8_isNumber : GoodIn wsX8_has wsX8_isNumber := goodIn_r _ [12, 7, 8, 5, 9] (by decide +kernel) (by decide +kernel)
set_option maxRecDepth 20000 in
theorem gX8_has_X8_isNumber : GoodIn wsX8_has (va_wsS RX8 97 yX8_isNumber wsX8_isNumber) := goodIn_app (goodIn_of _ (by decide +kernel)) ggX8_has_X8_isNumber
set_option maxRecDepth 20000 in
theorem ggX8_has_X0_valueOf : GoodIn wsX8_has wsX0_valueOf := goodIn_r _ [16, 17, 11, 5, 12, 7, 8, 9, 34] (by decide +kernel) (by decide +kernel)
set_option maxRecDepth 20000 in
theorem gX8_has_X0_valueOf_n111 : GoodIn wsX8_has (wsX0_valueOf) := ggX8_has_X0_valueOf
theorem dX8_has_0 : decode cX8_has 0 = .ok (.iload_n 1, 1) := by decide +kernel
theorem dX8_has_1 : decode cX8_has 1 = .ok (.invokestatic 93, 3) := by decide +kernel
theorem dX8_has_4 : decode cX8_has 4 = .ok (.ifCond .eq 23, 3) := by decide +kernel
theorem dX8_has_7 : decode cX8_has 7 = .ok (.iload_n 2, 1) := by decide +kernel
theorem dX8_has_8 : decode cX8_has 8 = .ok (.invokestatic 97, 3) := by decide +kernel
theorem dX8_has_11 : decode cX8_has 11 = .ok (.ifCond .eq 16, 3) := by decide +kernel
theorem dX8_has_14 : decode cX8_has 14 = .ok (.aload_n 0, 1) := by decide +kernel
theorem dX8_has_15 : decode cX8_has 15 = .ok (.getfield 11, 3) := by decide +kernel
theorem dX8_has_18 : decode cX8_has 18 = .ok (.iload_n 1, 1) := by decide +kernel
theorem dX8_has_19 : decode cX8_has 19 = .ok (.aaload, 1) := by decide +kernel
theorem dX8_has_20 : decode cX8_has 20 = .ok (.iload_n 2, 1) := by decide +kernel
theorem dX8_has_21 : decode cX8_has 21 = .ok (.invokevirtual 111, 3) := by decide +kernel
theorem dX8_has_24 : decode cX8_has 24 = .ok (.goto 5, 3) := by decide +kernel
theorem dX8_has_27 : decode cX8_has 27 = .ok (.ldc 110, 2) := by decide +kernel
theorem dX8_has_29 : decode cX8_has 29 = .ok (.ireturn, 1) := by decide +kernel
set_option maxRecDepth 20000 in
theorem ggX8_sign_X8_isBicycle : GoodIn wsX8_sign wsX8_isBicycle := goodIn_r _ [6, 7, 8, 5, 9] (by decide +kernel) (by decide +kernel)
set_option maxRecDepth 20000 in
theorem gX8_sign_X8_isBicycle : GoodIn wsX8_sign (va_wsS RX8 93 yX8_isBicycle wsX8_isBicycle) := goodIn_app (goodIn_of _ (by decide +kernel)) ggX8_sign_X8_isBicycle
set_option maxRecDepth 20000 in
theorem ggX8_sign_X8_isSpeed : GoodIn wsX8_sign wsX8_isSpeed := goodIn_r _ [12, 7, 8, 5, 9] (by decide +kernel) (by decide +kernel)
set_option maxRecDepth 20000 in
theorem gX8_sign_X8_isSpeed : GoodIn wsX8_sign (va_wsS RX8 119 yX8_isSpeed wsX8_isSpeed) := goodIn_app (goodIn_of _ (by decide +kernel)) ggX8_sign_X8_isSpeed
set_option maxRecDepth 20000 in
theorem ggX8_sign_X8_isHand : GoodIn wsX8_sign wsX8_isHand := goodIn_r _ [15, 7, 8, 5, 9] (by decide +kernel) (by decide +kernel)
set_option maxRecDepth 20000 in
theorem gX8_sign_X8_isHand : GoodIn wsX8_sign (va_wsS RX8 122 yX8_isHand wsX8_isHand) := goodIn_app (goodIn_of _ (by decide +kernel)) ggX8_sign_X8_isHand
set_option maxRecDepth 20000 in
theorem ggX8_sign_X8_within : GoodIn wsX8_sign wsX8_within := goodIn_r _ [9] (by decide +kernel) (by decide +kernel)
set_option maxRecDepth 20000 in
theorem gX8_sign_X8_within : GoodIn wsX8_sign (va_wsS RX8 106 yX8_within wsX8_within) := goodIn_app (goodIn_of _ (by decide +kernel)) ggX8_sign_X8_within
set_option maxRecDepth 20000 in
theorem ggX8_sign_X0_signThree : GoodIn wsX8_sign wsX0_signThree := goodIn_r _ [19, 20, 21, 48] (by decide +kernel) (by decide +kernel)
set_option maxRecDepth 20000 in
theorem gX8_sign_X0_signThree_n129 : GoodIn wsX8_sign (wsX0_signThree) := ggX8_sign_X0_signThree
set_option maxRecDepth 20000 in
theorem ggX8_sign_X0_signTwo : GoodIn wsX8_sign wsX0_signTwo := goodIn_r _ [24, 21, 25, 20, 48] (by decide +kernel) (by decide +kernel)
set_option maxRecDepth 20000 in
theorem gX8_sign_X0_signTwo_n133 : GoodIn wsX8_sign (wsX0_signTwo) := ggX8_sign_X0_signTwo
set_option maxRecDepth 20000 in
theorem ggX8_sign_X0_signOne : GoodIn wsX8_sign wsX0_signOne := goodIn_r _ [28, 21, 25, 20, 48] (by decide +kernel) (by decide +kernel)
set_option maxRecDepth 20000 in
theorem gX8_sign_X0_signOne_n137 : GoodIn wsX8_sign (wsX0_signOne) := ggX8_sign_X0_signOne
set_option maxRecDepth 20000 in
theorem ggX8_sign_X0_signZero : GoodIn wsX8_sign wsX0_signZero := goodIn_r _ [31, 20, 21, 25, 48] (by decide +kernel) (by decide +kernel)
set_option maxRecDepth 20000 in
theorem gX8_sign_X0_signZero_n141 : GoodIn wsX8_sign (wsX0_signZero) := ggX8_sign_X0_signZero
theorem dX8_sign_0 : decode cX8_sign 0 = .ok (.iload_n 1, 1) := by decide +kernel
theorem dX8_sign_1 : decode cX8_sign 1 = .ok (.invokestatic 93, 3) := by decide +kernel
theorem dX8_sign_4 : decode cX8_sign 4 = .ok (.ifCond .eq 35, 3) := by decide +kernel
theorem dX8_sign_7 : decode cX8_sign 7 = .ok (.iload_n 2, 1) := by decide +kernel
theorem dX8_sign_8 : decode cX8_sign 8 = .ok (.invokestatic 119, 3) := by decide +kernel
theorem dX8_sign_11 : decode cX8_sign 11 = .ok (.ifCond .eq 28, 3) := by decide +kernel
theorem dX8_sign_14 : decode cX8_sign 14 = .ok (.iload_n 3, 1) := by decide +kernel
theorem dX8_sign_15 : decode cX8_sign 15 = .ok (.invokestatic 122, 3) := by decide +kernel
theorem dX8_sign_18 : decode cX8_sign 18 = .ok (.ifCond .eq 21, 3) := by decide +kernel
theorem dX8_sign_21 : decode cX8_sign 21 = .ok (.iload 4, 2) := by decide +kernel
theorem dX8_sign_23 : decode cX8_sign 23 = .ok (.invokestatic 122, 3) := by decide +kernel
theorem dX8_sign_26 : decode cX8_sign 26 = .ok (.ifCond .eq 13, 3) := by decide +kernel
theorem dX8_sign_29 : decode cX8_sign 29 = .ok (.iload 5, 2) := by decide +kernel
theorem dX8_sign_31 : decode cX8_sign 31 = .ok (.iconst 0, 1) := by decide +kernel
theorem dX8_sign_32 : decode cX8_sign 32 = .ok (.iconst 3, 1) := by decide +kernel
theorem dX8_sign_33 : decode cX8_sign 33 = .ok (.invokestatic 106, 3) := by decide +kernel
theorem dX8_sign_36 : decode cX8_sign 36 = .ok (.ifCond .ne 7, 3) := by decide +kernel
theorem dX8_sign_39 : decode cX8_sign 39 = .ok (.ldc2_w 127, 3) := by decide +kernel
theorem dX8_sign_42 : decode cX8_sign 42 = .ok (.lreturn, 1) := by decide +kernel
theorem dX8_sign_43 : decode cX8_sign 43 = .ok (.aload_n 0, 1) := by decide +kernel
theorem dX8_sign_44 : decode cX8_sign 44 = .ok (.getfield 11, 3) := by decide +kernel
theorem dX8_sign_47 : decode cX8_sign 47 = .ok (.iload_n 1, 1) := by decide +kernel
theorem dX8_sign_48 : decode cX8_sign 48 = .ok (.aaload, 1) := by decide +kernel
theorem dX8_sign_49 : decode cX8_sign 49 = .ok (.astore 6, 2) := by decide +kernel
theorem dX8_sign_51 : decode cX8_sign 51 = .ok (.iload 5, 2) := by decide +kernel
theorem dX8_sign_53 : decode cX8_sign 53 = .ok (.tableswitch 52 1 3 #[42, 33, 27], 27) := by decide +kernel
theorem dX8_sign_80 : decode cX8_sign 80 = .ok (.aload 6, 2) := by decide +kernel
theorem dX8_sign_82 : decode cX8_sign 82 = .ok (.invokevirtual 129, 3) := by decide +kernel
theorem dX8_sign_85 : decode cX8_sign 85 = .ok (.lreturn, 1) := by decide +kernel
theorem dX8_sign_86 : decode cX8_sign 86 = .ok (.aload 6, 2) := by decide +kernel
theorem dX8_sign_88 : decode cX8_sign 88 = .ok (.iload_n 2, 1) := by decide +kernel
theorem dX8_sign_89 : decode cX8_sign 89 = .ok (.iload 4, 2) := by decide +kernel
theorem dX8_sign_91 : decode cX8_sign 91 = .ok (.invokevirtual 133, 3) := by decide +kernel
theorem dX8_sign_94 : decode cX8_sign 94 = .ok (.lreturn, 1) := by decide +kernel
theorem dX8_sign_95 : decode cX8_sign 95 = .ok (.aload 6, 2) := by decide +kernel
theorem dX8_sign_97 : decode cX8_sign 97 = .ok (.iload_n 2, 1) := by decide +kernel
theorem dX8_sign_98 : decode cX8_sign 98 = .ok (.iload_n 3, 1) := by decide +kernel
theorem dX8_sign_99 : decode cX8_sign 99 = .ok (.iload 4, 2) := by decide +kernel
theorem dX8_sign_101 : decode cX8_sign 101 = .ok (.invokevirtual 137, 3) := by decide +kernel
theorem dX8_sign_104 : decode cX8_sign 104 = .ok (.lreturn, 1) := by decide +kernel
theorem dX8_sign_105 : decode cX8_sign 105 = .ok (.aload 6, 2) := by decide +kernel
theorem dX8_sign_107 : decode cX8_sign 107 = .ok (.iload_n 2, 1) := by decide +kernel
theorem dX8_sign_108 : decode cX8_sign 108 = .ok (.iload_n 3, 1) := by decide +kernel
theorem dX8_sign_109 : decode cX8_sign 109 = .ok (.invokevirtual 141, 3) := by decide +kernel
theorem dX8_sign_112 : decode cX8_sign 112 = .ok (.lreturn, 1) := by decide +kernel
set_option maxRecDepth 20000 in
theorem ggX8_stays_X8_isBicycle : GoodIn wsX8_stays wsX8_isBicycle := goodIn_r _ [5, 6, 7, 4, 8] (by decide +kernel) (by decide +kernel)
set_option maxRecDepth 20000 in
theorem gX8_stays_X8_isBicycle : GoodIn wsX8_stays (va_wsS RX8 93 yX8_isBicycle wsX8_isBicycle) := goodIn_app (goodIn_of _ (by decide +kernel)) ggX8_stays_X8_isBicycle
set_option maxRecDepth 20000 in
theorem ggX8_stays_X8_isSpeed : GoodIn wsX8_stays wsX8_isSpeed := goodIn_r _ [11, 6, 7, 4, 8] (by decide +kernel) (by decide +kernel)
set_option maxRecDepth 20000 in
theorem gX8_stays_X8_isSpeed : GoodIn wsX8_stays (va_wsS RX8 119 yX8_isSpeed wsX8_isSpeed) := goodIn_app (goodIn_of _ (by decide +kernel)) ggX8_stays_X8_isSpeed
set_option maxRecDepth 20000 in
theorem ggX8_stays_X8_isHand : GoodIn wsX8_stays wsX8_isHand := goodIn_r _ [14, 6, 7, 4, 8] (by decide +kernel) (by decide +kernel)
set_option maxRecDepth 20000 in
theorem gX8_stays_X8_isHand : GoodIn wsX8_stays (va_wsS RX8 122 yX8_isHand wsX8_isHand) := goodIn_app (goodIn_of _ (by decide +kernel)) ggX8_stays_X8_isHand
set_option maxRecDepth 20000 in
theorem ggX8_stays_X0_staysUp : GoodIn wsX8_stays wsX0_staysUp := goodIn_r _ [18, 19, 20, 21, 22, 23, 16, 24, 25, 26, 27, 28, 29, 30, 31, 32, 33, 34, 35, 36, 37, 54] (by decide +kernel) (by decide +kernel)
set_option maxRecDepth 20000 in
theorem gX8_stays_X0_staysUp_n144 : GoodIn wsX8_stays (wsX0_staysUp) := ggX8_stays_X0_staysUp
set_option maxRecDepth 20000 in
theorem ggX8_stays_X0_signZero : GoodIn wsX8_stays wsX0_signZero := goodIn_r _ [24, 19, 20, 25, 54] (by decide +kernel) (by decide +kernel)
set_option maxRecDepth 20000 in
theorem gX8_stays_X0_signZero_n141 : GoodIn wsX8_stays (wsX0_signZero) := ggX8_stays_X0_signZero
theorem dX8_stays_0 : decode cX8_stays 0 = .ok (.iload_n 1, 1) := by decide +kernel
theorem dX8_stays_1 : decode cX8_stays 1 = .ok (.invokestatic 93, 3) := by decide +kernel
theorem dX8_stays_4 : decode cX8_stays 4 = .ok (.ifCond .eq 25, 3) := by decide +kernel
theorem dX8_stays_7 : decode cX8_stays 7 = .ok (.iload_n 2, 1) := by decide +kernel
theorem dX8_stays_8 : decode cX8_stays 8 = .ok (.invokestatic 119, 3) := by decide +kernel
theorem dX8_stays_11 : decode cX8_stays 11 = .ok (.ifCond .eq 18, 3) := by decide +kernel
theorem dX8_stays_14 : decode cX8_stays 14 = .ok (.iload_n 3, 1) := by decide +kernel
theorem dX8_stays_15 : decode cX8_stays 15 = .ok (.invokestatic 122, 3) := by decide +kernel
theorem dX8_stays_18 : decode cX8_stays 18 = .ok (.ifCond .eq 11, 3) := by decide +kernel
theorem dX8_stays_21 : decode cX8_stays 21 = .ok (.iload 4, 2) := by decide +kernel
theorem dX8_stays_23 : decode cX8_stays 23 = .ok (.invokestatic 122, 3) := by decide +kernel
theorem dX8_stays_26 : decode cX8_stays 26 = .ok (.ifCond .ne 5, 3) := by decide +kernel
theorem dX8_stays_29 : decode cX8_stays 29 = .ok (.iconst (-1), 1) := by decide +kernel
theorem dX8_stays_30 : decode cX8_stays 30 = .ok (.ireturn, 1) := by decide +kernel
theorem dX8_stays_31 : decode cX8_stays 31 = .ok (.aload_n 0, 1) := by decide +kernel
theorem dX8_stays_32 : decode cX8_stays 32 = .ok (.getfield 11, 3) := by decide +kernel
theorem dX8_stays_35 : decode cX8_stays 35 = .ok (.iload_n 1, 1) := by decide +kernel
theorem dX8_stays_36 : decode cX8_stays 36 = .ok (.aaload, 1) := by decide +kernel
theorem dX8_stays_37 : decode cX8_stays 37 = .ok (.iload_n 2, 1) := by decide +kernel
theorem dX8_stays_38 : decode cX8_stays 38 = .ok (.iload_n 3, 1) := by decide +kernel
theorem dX8_stays_39 : decode cX8_stays 39 = .ok (.iload 4, 2) := by decide +kernel
theorem dX8_stays_41 : decode cX8_stays 41 = .ok (.invokevirtual 144, 3) := by decide +kernel
theorem dX8_stays_44 : decode cX8_stays 44 = .ok (.ifCond .eq 5, 3) := by decide +kernel
theorem dX8_stays_47 : decode cX8_stays 47 = .ok (.iconst 0, 1) := by decide +kernel
theorem dX8_stays_48 : decode cX8_stays 48 = .ok (.ireturn, 1) := by decide +kernel
theorem dX8_stays_49 : decode cX8_stays 49 = .ok (.aload_n 0, 1) := by decide +kernel
theorem dX8_stays_50 : decode cX8_stays 50 = .ok (.getfield 11, 3) := by decide +kernel
theorem dX8_stays_53 : decode cX8_stays 53 = .ok (.iload_n 1, 1) := by decide +kernel
theorem dX8_stays_54 : decode cX8_stays 54 = .ok (.aaload, 1) := by decide +kernel
theorem dX8_stays_55 : decode cX8_stays 55 = .ok (.iload_n 2, 1) := by decide +kernel
theorem dX8_stays_56 : decode cX8_stays 56 = .ok (.iload_n 3, 1) := by decide +kernel
theorem dX8_stays_57 : decode cX8_stays 57 = .ok (.invokevirtual 141, 3) := by decide +kernel
theorem dX8_stays_60 : decode cX8_stays 60 = .ok (.lconst 0, 1) := by decide +kernel
theorem dX8_stays_61 : decode cX8_stays 61 = .ok (.lcmp, 1) := by decide +kernel
theorem dX8_stays_62 : decode cX8_stays 62 = .ok (.ifCond .gt 7, 3) := by decide +kernel
theorem dX8_stays_65 : decode cX8_stays 65 = .ok (.iconst 1, 1) := by decide +kernel
theorem dX8_stays_66 : decode cX8_stays 66 = .ok (.goto 4, 3) := by decide +kernel
theorem dX8_stays_69 : decode cX8_stays 69 = .ok (.iconst 2, 1) := by decide +kernel
theorem dX8_stays_70 : decode cX8_stays 70 = .ok (.ireturn, 1) := by decide +kernel
set_option maxRecDepth 20000 in
theorem ggX8_range_X8_isBicycle : GoodIn wsX8_range wsX8_isBicycle := goodIn_r _ [6, 7, 8, 5, 9] (by decide +kernel) (by decide +kernel)
set_option maxRecDepth 20000 in
theorem gX8_range_X8_isBicycle : GoodIn wsX8_range (va_wsS RX8 93 yX8_isBicycle wsX8_isBicycle) := goodIn_app (goodIn_of _ (by decide +kernel)) ggX8_range_X8_isBicycle
set_option maxRecDepth 20000 in
theorem ggX8_range_X0_speeds : GoodIn wsX8_range wsX0_speeds := goodIn_r _ [13, 14, 15, 16, 17, 11, 18, 19, 20, 21, 22, 23, 24, 25, 26, 27, 28, 29, 30, 31, 32, 33, 34, 35, 36, 53] (by decide +kernel) (by decide +kernel)
set_option maxRecDepth 20000 in
theorem gX8_range_X0_speeds_n147 : GoodIn wsX8_range (wsX0_speeds) := ggX8_range_X0_speeds
theorem dX8_range_0 : decode cX8_range 0 = .ok (.iload_n 1, 1) := by decide +kernel
theorem dX8_range_1 : decode cX8_range 1 = .ok (.invokestatic 93, 3) := by decide +kernel
theorem dX8_range_4 : decode cX8_range 4 = .ok (.ifCond .eq 15, 3) := by decide +kernel
theorem dX8_range_7 : decode cX8_range 7 = .ok (.aload_n 0, 1) := by decide +kernel
theorem dX8_range_8 : decode cX8_range 8 = .ok (.getfield 11, 3) := by decide +kernel
theorem dX8_range_11 : decode cX8_range 11 = .ok (.iload_n 1, 1) := by decide +kernel
theorem dX8_range_12 : decode cX8_range 12 = .ok (.aaload, 1) := by decide +kernel
theorem dX8_range_13 : decode cX8_range 13 = .ok (.invokevirtual 147, 3) := by decide +kernel
theorem dX8_range_16 : decode cX8_range 16 = .ok (.goto 6, 3) := by decide +kernel
theorem dX8_range_19 : decode cX8_range 19 = .ok (.ldc2_w 150, 3) := by decide +kernel
theorem dX8_range_22 : decode cX8_range 22 = .ok (.lreturn, 1) := by decide +kernel
set_option maxRecDepth 20000 in
theorem ggX8_without_X8_isBicycle : GoodIn wsX8_without wsX8_isBicycle := goodIn_r _ [6, 7, 8, 5, 9] (by decide +kernel) (by decide +kernel)
set_option maxRecDepth 20000 in
theorem gX8_without_X8_isBicycle : GoodIn wsX8_without (va_wsS RX8 93 yX8_isBicycle wsX8_isBicycle) := goodIn_app (goodIn_of _ (by decide +kernel)) ggX8_without_X8_isBicycle
set_option maxRecDepth 20000 in
theorem ggX8_without_X8_isReason : GoodIn wsX8_without wsX8_isReason := goodIn_r _ [12, 7, 8, 5, 9] (by decide +kernel) (by decide +kernel)
set_option maxRecDepth 20000 in
theorem gX8_without_X8_isReason : GoodIn wsX8_without (va_wsS RX8 152 yX8_isReason wsX8_isReason) := goodIn_app (goodIn_of _ (by decide +kernel)) ggX8_without_X8_isReason
set_option maxRecDepth 20000 in
theorem ggX8_without_X8_speedsWith : GoodIn wsX8_without wsX8_speedsWith := goodIn_r _ [16, 17, 18, 19, 20, 21, 22, 23, 24, 25, 26, 27, 28, 29, 30, 5, 31, 7, 8, 9, 32, 33, 34, 35, 36, 37, 38, 39, 40, 41, 42, 43, 44, 45, 46, 47, 48, 49, 50, 51, 52, 53, 54, 55, 56, 57, 58, 59, 60, 61, 62, 63, 64, 65, 66, 67, 68, 69, 70, 71, 72, 73] (by decide +kernel) (by decide +kernel)
set_option maxRecDepth 20000 in
theorem gX8_without_X8_speedsWith : GoodIn wsX8_without (wsV RX8 155 RX8 yX8_speedsWith wsX8_speedsWith) := goodIn_app (goodIn_of _ (by decide +kernel)) ggX8_without_X8_speedsWith
theorem dX8_without_0 : decode cX8_without 0 = .ok (.iload_n 1, 1) := by decide +kernel
theorem dX8_without_1 : decode cX8_without 1 = .ok (.invokestatic 93, 3) := by decide +kernel
theorem dX8_without_4 : decode cX8_without 4 = .ok (.ifCond .eq 10, 3) := by decide +kernel
theorem dX8_without_7 : decode cX8_without 7 = .ok (.iload_n 2, 1) := by decide +kernel
theorem dX8_without_8 : decode cX8_without 8 = .ok (.invokestatic 152, 3) := by decide +kernel
theorem dX8_without_11 : decode cX8_without 11 = .ok (.ifCond .ne 7, 3) := by decide +kernel
theorem dX8_without_14 : decode cX8_without 14 = .ok (.ldc2_w 150, 3) := by decide +kernel
theorem dX8_without_17 : decode cX8_without 17 = .ok (.lreturn, 1) := by decide +kernel
theorem dX8_without_18 : decode cX8_without 18 = .ok (.aload_n 0, 1) := by decide +kernel
theorem dX8_without_19 : decode cX8_without 19 = .ok (.aload_n 0, 1) := by decide +kernel
theorem dX8_without_20 : decode cX8_without 20 = .ok (.getfield 11, 3) := by decide +kernel
theorem dX8_without_23 : decode cX8_without 23 = .ok (.iload_n 1, 1) := by decide +kernel
theorem dX8_without_24 : decode cX8_without 24 = .ok (.aaload, 1) := by decide +kernel
theorem dX8_without_25 : decode cX8_without 25 = .ok (.iload_n 2, 1) := by decide +kernel
theorem dX8_without_26 : decode cX8_without 26 = .ok (.iconst 0, 1) := by decide +kernel
theorem dX8_without_27 : decode cX8_without 27 = .ok (.invokevirtual 155, 3) := by decide +kernel
theorem dX8_without_30 : decode cX8_without 30 = .ok (.lreturn, 1) := by decide +kernel
set_option maxRecDepth 20000 in
theorem ggX8_reason_X8_isBicycle : GoodIn wsX8_reason wsX8_isBicycle := goodIn_r _ [7, 8, 9, 6, 10] (by decide +kernel) (by decide +kernel)
set_option maxRecDepth 20000 in
theorem gX8_reason_X8_isBicycle : GoodIn wsX8_reason (va_wsS RX8 93 yX8_isBicycle wsX8_isBicycle) := goodIn_app (goodIn_of _ (by decide +kernel)) ggX8_reason_X8_isBicycle
set_option maxRecDepth 20000 in
theorem ggX8_reason_X8_isReason : GoodIn wsX8_reason wsX8_isReason := goodIn_r _ [13, 8, 9, 6, 10] (by decide +kernel) (by decide +kernel)
set_option maxRecDepth 20000 in
theorem gX8_reason_X8_isReason : GoodIn wsX8_reason (va_wsS RX8 152 yX8_isReason wsX8_isReason) := goodIn_app (goodIn_of _ (by decide +kernel)) ggX8_reason_X8_isReason
set_option maxRecDepth 20000 in
theorem ggX8_reason_X8_within : GoodIn wsX8_reason wsX8_within := goodIn_r _ [10] (by decide +kernel) (by decide +kernel)
set_option maxRecDepth 20000 in
theorem gX8_reason_X8_within : GoodIn wsX8_reason (va_wsS RX8 106 yX8_within wsX8_within) := goodIn_app (goodIn_of _ (by decide +kernel)) ggX8_reason_X8_within
set_option maxRecDepth 20000 in
theorem ggX8_reason_X0_speeds : GoodIn wsX8_reason wsX0_speeds := goodIn_r _ [17, 18, 19, 20, 21, 15, 22, 23, 24, 25, 26, 27, 28, 29, 30, 31, 32, 33, 34, 35, 36, 37, 38, 39, 40, 99] (by decide +kernel) (by decide +kernel)
set_option maxRecDepth 20000 in
theorem gX8_reason_X0_speeds_n147 : GoodIn wsX8_reason (wsX0_speeds) := ggX8_reason_X0_speeds
set_option maxRecDepth 20000 in
theorem ggX8_reason_X8_speedsWith : GoodIn wsX8_reason wsX8_speedsWith := goodIn_r _ [44, 45, 46, 15, 47, 48, 18, 49, 50, 51, 52, 53, 54, 55, 56, 6, 57, 8, 9, 10, 14, 16, 17, 19, 20, 21, 22, 23, 24, 25, 26, 27, 28, 29, 30, 31, 32, 33, 34, 35, 36, 37, 38, 39, 40, 83, 84, 85, 86, 87, 88, 89, 90, 91, 92, 93, 94, 95, 96, 97, 98, 99] (by decide +kernel) (by decide +kernel)
set_option maxRecDepth 20000 in
theorem gX8_reason_X8_speedsWith : GoodIn wsX8_reason (wsV RX8 155 RX8 yX8_speedsWith wsX8_speedsWith) := goodIn_app (goodIn_of _ (by decide +kernel)) ggX8_reason_X8_speedsWith
set_option maxRecDepth 20000 in
theorem ggX8_reason_X1_leastWithout : GoodIn wsX8_reason wsX1_leastWithout := goodIn_r _ [61, 62, 63, 64, 59, 65, 66, 67, 68, 69, 70, 71, 72, 73, 74, 75, 76, 14, 15, 16, 17, 18, 19, 20, 21, 22, 23, 24, 25, 26, 27, 28, 29, 30, 31, 32, 33, 34, 35, 36, 37, 38, 39, 40, 53, 54, 55, 56, 6, 57, 8, 9, 10, 77, 78, 79, 100, 99] (by decide +kernel) (by decide +kernel)
set_option maxRecDepth 20000 in
theorem gX8_reason_X1_leastWithout_n159 : GoodIn wsX8_reason (wsX1_leastWithout) := ggX8_reason_X1_leastWithout
set_option maxRecDepth 20000 in
theorem ggX8_reason_X1_valueFound : GoodIn wsX8_reason wsX1_valueFound := goodIn_r _ [82, 66, 77, 15, 78, 79, 18, 56, 6, 57, 8, 9, 10, 100, 99] (by decide +kernel) (by decide +kernel)
set_option maxRecDepth 20000 in
theorem gX8_reason_X1_valueFound_n163 : GoodIn wsX8_reason (wsX1_valueFound) := ggX8_reason_X1_valueFound
theorem dX8_reason_0 : decode cX8_reason 0 = .ok (.iload_n 1, 1) := by decide +kernel
theorem dX8_reason_1 : decode cX8_reason 1 = .ok (.invokestatic 93, 3) := by decide +kernel
theorem dX8_reason_4 : decode cX8_reason 4 = .ok (.ifCond .eq 20, 3) := by decide +kernel
theorem dX8_reason_7 : decode cX8_reason 7 = .ok (.iload_n 2, 1) := by decide +kernel
theorem dX8_reason_8 : decode cX8_reason 8 = .ok (.invokestatic 152, 3) := by decide +kernel
theorem dX8_reason_11 : decode cX8_reason 11 = .ok (.ifCond .eq 13, 3) := by decide +kernel
theorem dX8_reason_14 : decode cX8_reason 14 = .ok (.iload_n 3, 1) := by decide +kernel
theorem dX8_reason_15 : decode cX8_reason 15 = .ok (.iconst 0, 1) := by decide +kernel
theorem dX8_reason_16 : decode cX8_reason 16 = .ok (.bipush 7, 2) := by decide +kernel
theorem dX8_reason_18 : decode cX8_reason 18 = .ok (.invokestatic 106, 3) := by decide +kernel
theorem dX8_reason_21 : decode cX8_reason 21 = .ok (.ifCond .ne 6, 3) := by decide +kernel
theorem dX8_reason_24 : decode cX8_reason 24 = .ok (.ldc 110, 2) := by decide +kernel
theorem dX8_reason_26 : decode cX8_reason 26 = .ok (.ireturn, 1) := by decide +kernel
theorem dX8_reason_27 : decode cX8_reason 27 = .ok (.iload_n 3, 1) := by decide +kernel
theorem dX8_reason_28 : decode cX8_reason 28 = .ok (.ifCond .ne 52, 3) := by decide +kernel
theorem dX8_reason_31 : decode cX8_reason 31 = .ok (.aload_n 0, 1) := by decide +kernel
theorem dX8_reason_32 : decode cX8_reason 32 = .ok (.getfield 11, 3) := by decide +kernel
theorem dX8_reason_35 : decode cX8_reason 35 = .ok (.iload_n 1, 1) := by decide +kernel
theorem dX8_reason_36 : decode cX8_reason 36 = .ok (.aaload, 1) := by decide +kernel
theorem dX8_reason_37 : decode cX8_reason 37 = .ok (.invokevirtual 147, 3) := by decide +kernel
theorem dX8_reason_40 : decode cX8_reason 40 = .ok (.lconst 0, 1) := by decide +kernel
theorem dX8_reason_41 : decode cX8_reason 41 = .ok (.lcmp, 1) := by decide +kernel
theorem dX8_reason_42 : decode cX8_reason 42 = .ok (.ifCond .eq 24, 3) := by decide +kernel
theorem dX8_reason_45 : decode cX8_reason 45 = .ok (.aload_n 0, 1) := by decide +kernel
theorem dX8_reason_46 : decode cX8_reason 46 = .ok (.aload_n 0, 1) := by decide +kernel
theorem dX8_reason_47 : decode cX8_reason 47 = .ok (.getfield 11, 3) := by decide +kernel
theorem dX8_reason_50 : decode cX8_reason 50 = .ok (.iload_n 1, 1) := by decide +kernel
theorem dX8_reason_51 : decode cX8_reason 51 = .ok (.aaload, 1) := by decide +kernel
theorem dX8_reason_52 : decode cX8_reason 52 = .ok (.iload_n 2, 1) := by decide +kernel
theorem dX8_reason_53 : decode cX8_reason 53 = .ok (.iconst 0, 1) := by decide +kernel
theorem dX8_reason_54 : decode cX8_reason 54 = .ok (.invokevirtual 155, 3) := by decide +kernel
theorem dX8_reason_57 : decode cX8_reason 57 = .ok (.lconst 0, 1) := by decide +kernel
theorem dX8_reason_58 : decode cX8_reason 58 = .ok (.lcmp, 1) := by decide +kernel
theorem dX8_reason_59 : decode cX8_reason 59 = .ok (.ifCond .ne 7, 3) := by decide +kernel
theorem dX8_reason_62 : decode cX8_reason 62 = .ok (.iconst 1, 1) := by decide +kernel
theorem dX8_reason_63 : decode cX8_reason 63 = .ok (.goto 4, 3) := by decide +kernel
theorem dX8_reason_66 : decode cX8_reason 66 = .ok (.iconst 0, 1) := by decide +kernel
theorem dX8_reason_67 : decode cX8_reason 67 = .ok (.istore 4, 2) := by decide +kernel
theorem dX8_reason_69 : decode cX8_reason 69 = .ok (.iload 4, 2) := by decide +kernel
theorem dX8_reason_71 : decode cX8_reason 71 = .ok (.ifCond .eq 7, 3) := by decide +kernel
theorem dX8_reason_74 : decode cX8_reason 74 = .ok (.iconst 1, 1) := by decide +kernel
theorem dX8_reason_75 : decode cX8_reason 75 = .ok (.goto 4, 3) := by decide +kernel
theorem dX8_reason_78 : decode cX8_reason 78 = .ok (.iconst 0, 1) := by decide +kernel
theorem dX8_reason_79 : decode cX8_reason 79 = .ok (.ireturn, 1) := by decide +kernel
theorem dX8_reason_80 : decode cX8_reason 80 = .ok (.aload_n 0, 1) := by decide +kernel
theorem dX8_reason_81 : decode cX8_reason 81 = .ok (.getfield 23, 3) := by decide +kernel
theorem dX8_reason_84 : decode cX8_reason 84 = .ok (.aload_n 0, 1) := by decide +kernel
theorem dX8_reason_85 : decode cX8_reason 85 = .ok (.getfield 11, 3) := by decide +kernel
theorem dX8_reason_88 : decode cX8_reason 88 = .ok (.iload_n 1, 1) := by decide +kernel
theorem dX8_reason_89 : decode cX8_reason 89 = .ok (.aaload, 1) := by decide +kernel
theorem dX8_reason_90 : decode cX8_reason 90 = .ok (.iload_n 2, 1) := by decide +kernel
theorem dX8_reason_91 : decode cX8_reason 91 = .ok (.invokevirtual 159, 3) := by decide +kernel
theorem dX8_reason_94 : decode cX8_reason 94 = .ok (.istore 4, 2) := by decide +kernel
theorem dX8_reason_96 : decode cX8_reason 96 = .ok (.iload 4, 2) := by decide +kernel
theorem dX8_reason_98 : decode cX8_reason 98 = .ok (.bipush (-9), 2) := by decide +kernel
theorem dX8_reason_100 : decode cX8_reason 100 = .ok (.if_icmp .ne 6, 3) := by decide +kernel
theorem dX8_reason_103 : decode cX8_reason 103 = .ok (.ldc 110, 2) := by decide +kernel
theorem dX8_reason_105 : decode cX8_reason 105 = .ok (.ireturn, 1) := by decide +kernel
theorem dX8_reason_106 : decode cX8_reason 106 = .ok (.iload_n 3, 1) := by decide +kernel
theorem dX8_reason_107 : decode cX8_reason 107 = .ok (.iconst 1, 1) := by decide +kernel
theorem dX8_reason_108 : decode cX8_reason 108 = .ok (.if_icmp .ne 8, 3) := by decide +kernel
theorem dX8_reason_111 : decode cX8_reason 111 = .ok (.iload 4, 2) := by decide +kernel
theorem dX8_reason_113 : decode cX8_reason 113 = .ok (.goto 13, 3) := by decide +kernel
theorem dX8_reason_116 : decode cX8_reason 116 = .ok (.aload_n 0, 1) := by decide +kernel
theorem dX8_reason_117 : decode cX8_reason 117 = .ok (.getfield 23, 3) := by decide +kernel
theorem dX8_reason_120 : decode cX8_reason 120 = .ok (.iload_n 3, 1) := by decide +kernel
theorem dX8_reason_121 : decode cX8_reason 121 = .ok (.iconst 2, 1) := by decide +kernel
theorem dX8_reason_122 : decode cX8_reason 122 = .ok (.isub, 1) := by decide +kernel
theorem dX8_reason_123 : decode cX8_reason 123 = .ok (.invokevirtual 163, 3) := by decide +kernel
theorem dX8_reason_126 : decode cX8_reason 126 = .ok (.ireturn, 1) := by decide +kernel
set_option maxRecDepth 20000 in
theorem ggX8_moves_X8_isBicycle : GoodIn wsX8_moves wsX8_isBicycle := goodIn_r _ [8, 9, 10, 7, 11] (by decide +kernel) (by decide +kernel)
set_option maxRecDepth 20000 in
theorem gX8_moves_X8_isBicycle : GoodIn wsX8_moves (va_wsS RX8 93 yX8_isBicycle wsX8_isBicycle) := goodIn_app (goodIn_of _ (by decide +kernel)) ggX8_moves_X8_isBicycle
set_option maxRecDepth 20000 in
theorem ggX8_moves_X8_isNumber : GoodIn wsX8_moves wsX8_isNumber := goodIn_r _ [14, 9, 10, 7, 11] (by decide +kernel) (by decide +kernel)
set_option maxRecDepth 20000 in
theorem gX8_moves_X8_isNumber : GoodIn wsX8_moves (va_wsS RX8 97 yX8_isNumber wsX8_isNumber) := goodIn_app (goodIn_of _ (by decide +kernel)) ggX8_moves_X8_isNumber
set_option maxRecDepth 20000 in
theorem ggX8_moves_X8_isFlag : GoodIn wsX8_moves wsX8_isFlag := goodIn_r _ [17, 9, 10, 7, 11] (by decide +kernel) (by decide +kernel)
set_option maxRecDepth 20000 in
theorem gX8_moves_X8_isFlag : GoodIn wsX8_moves (va_wsS RX8 166 yX8_isFlag wsX8_isFlag) := goodIn_app (goodIn_of _ (by decide +kernel)) ggX8_moves_X8_isFlag
set_option maxRecDepth 20000 in
theorem ggX8_moves_X0_valueOf : GoodIn wsX8_moves wsX0_valueOf := goodIn_r _ [21, 22, 13, 7, 14, 9, 10, 11, 91] (by decide +kernel) (by decide +kernel)
set_option maxRecDepth 20000 in
theorem gX8_moves_X0_valueOf_n111 : GoodIn wsX8_moves (wsX0_valueOf) := ggX8_moves_X0_valueOf
set_option maxRecDepth 20000 in
theorem ggX8_moves_X8_within : GoodIn wsX8_moves wsX8_within := goodIn_r _ [11] (by decide +kernel) (by decide +kernel)
set_option maxRecDepth 20000 in
theorem gX8_moves_X8_within : GoodIn wsX8_moves (va_wsS RX8 106 yX8_within wsX8_within) := goodIn_app (goodIn_of _ (by decide +kernel)) ggX8_moves_X8_within
set_option maxRecDepth 20000 in
theorem ggX8_moves_X8_speedsWith : GoodIn wsX8_moves wsX8_speedsWith := goodIn_r _ [26, 27, 28, 19, 29, 30, 22, 31, 32, 33, 34, 35, 36, 37, 13, 7, 14, 9, 10, 11, 38, 39, 40, 41, 42, 43, 44, 45, 46, 47, 48, 49, 50, 51, 52, 53, 54, 55, 56, 57, 58, 59, 60, 61, 62, 75, 76, 77, 78, 79, 80, 81, 82, 83, 84, 85, 86, 87, 88, 89, 90, 91] (by decide +kernel) (by decide +kernel)
set_option maxRecDepth 20000 in
theorem gX8_moves_X8_speedsWith : GoodIn wsX8_moves (wsV RX8 155 RX8 yX8_speedsWith wsX8_speedsWith) := goodIn_app (goodIn_of _ (by decide +kernel)) ggX8_moves_X8_speedsWith
set_option maxRecDepth 20000 in
theorem ggX8_moves_J13_bitCount_95d88 : GoodIn wsX8_moves wsJ13_bitCount_95d88 := goodIn_r _ [66, 67, 68, 69] (by decide +kernel) (by decide +kernel)
set_option maxRecDepth 20000 in
theorem gX8_moves_J13_bitCount_95d88 : GoodIn wsX8_moves (va_wsS RX8 169 yJ13_bitCount_95d88 wsJ13_bitCount_95d88) := goodIn_app (goodIn_of _ (by decide +kernel)) ggX8_moves_J13_bitCount_95d88
set_option maxRecDepth 20000 in
theorem ggX8_moves_X0_speedCount : GoodIn wsX8_moves wsX0_speedCount := goodIn_r _ [72, 73, 38, 39, 19, 40, 22, 41, 42, 43, 44, 45, 46, 47, 48, 49, 50, 51, 52, 53, 54, 55, 56, 57, 58, 59, 60, 61, 62, 74, 64, 65, 66, 67, 68, 69, 91] (by decide +kernel) (by decide +kernel)
set_option maxRecDepth 20000 in
theorem gX8_moves_X0_speedCount_n173 : GoodIn wsX8_moves (wsX0_speedCount) := ggX8_moves_X0_speedCount
theorem dX8_moves_0 : decode cX8_moves 0 = .ok (.iload_n 1, 1) := by decide +kernel
theorem dX8_moves_1 : decode cX8_moves 1 = .ok (.invokestatic 93, 3) := by decide +kernel
theorem dX8_moves_4 : decode cX8_moves 4 = .ok (.ifCond .eq 17, 3) := by decide +kernel
theorem dX8_moves_7 : decode cX8_moves 7 = .ok (.iload_n 2, 1) := by decide +kernel
theorem dX8_moves_8 : decode cX8_moves 8 = .ok (.invokestatic 97, 3) := by decide +kernel
theorem dX8_moves_11 : decode cX8_moves 11 = .ok (.ifCond .eq 10, 3) := by decide +kernel
theorem dX8_moves_14 : decode cX8_moves 14 = .ok (.iload_n 3, 1) := by decide +kernel
theorem dX8_moves_15 : decode cX8_moves 15 = .ok (.invokestatic 166, 3) := by decide +kernel
theorem dX8_moves_18 : decode cX8_moves 18 = .ok (.ifCond .ne 6, 3) := by decide +kernel
theorem dX8_moves_21 : decode cX8_moves 21 = .ok (.ldc 110, 2) := by decide +kernel
theorem dX8_moves_23 : decode cX8_moves 23 = .ok (.ireturn, 1) := by decide +kernel
theorem dX8_moves_24 : decode cX8_moves 24 = .ok (.aload_n 0, 1) := by decide +kernel
theorem dX8_moves_25 : decode cX8_moves 25 = .ok (.getfield 11, 3) := by decide +kernel
theorem dX8_moves_28 : decode cX8_moves 28 = .ok (.iload_n 1, 1) := by decide +kernel
theorem dX8_moves_29 : decode cX8_moves 29 = .ok (.aaload, 1) := by decide +kernel
theorem dX8_moves_30 : decode cX8_moves 30 = .ok (.iload_n 2, 1) := by decide +kernel
theorem dX8_moves_31 : decode cX8_moves 31 = .ok (.invokevirtual 111, 3) := by decide +kernel
theorem dX8_moves_34 : decode cX8_moves 34 = .ok (.iload_n 3, 1) := by decide +kernel
theorem dX8_moves_35 : decode cX8_moves 35 = .ok (.iconst 1, 1) := by decide +kernel
theorem dX8_moves_36 : decode cX8_moves 36 = .ok (.if_icmp .ne 7, 3) := by decide +kernel
theorem dX8_moves_39 : decode cX8_moves 39 = .ok (.iconst 1, 1) := by decide +kernel
theorem dX8_moves_40 : decode cX8_moves 40 = .ok (.goto 4, 3) := by decide +kernel
theorem dX8_moves_43 : decode cX8_moves 43 = .ok (.iconst (-1), 1) := by decide +kernel
theorem dX8_moves_44 : decode cX8_moves 44 = .ok (.iadd, 1) := by decide +kernel
theorem dX8_moves_45 : decode cX8_moves 45 = .ok (.istore 4, 2) := by decide +kernel
theorem dX8_moves_47 : decode cX8_moves 47 = .ok (.iload 4, 2) := by decide +kernel
theorem dX8_moves_49 : decode cX8_moves 49 = .ok (.getstatic 100, 3) := by decide +kernel
theorem dX8_moves_52 : decode cX8_moves 52 = .ok (.iload_n 2, 1) := by decide +kernel
theorem dX8_moves_53 : decode cX8_moves 53 = .ok (.iaload, 1) := by decide +kernel
theorem dX8_moves_54 : decode cX8_moves 54 = .ok (.getstatic 103, 3) := by decide +kernel
theorem dX8_moves_57 : decode cX8_moves 57 = .ok (.iload_n 2, 1) := by decide +kernel
theorem dX8_moves_58 : decode cX8_moves 58 = .ok (.iaload, 1) := by decide +kernel
theorem dX8_moves_59 : decode cX8_moves 59 = .ok (.invokestatic 106, 3) := by decide +kernel
theorem dX8_moves_62 : decode cX8_moves 62 = .ok (.ifCond .ne 5, 3) := by decide +kernel
theorem dX8_moves_65 : decode cX8_moves 65 = .ok (.iconst 0, 1) := by decide +kernel
theorem dX8_moves_66 : decode cX8_moves 66 = .ok (.ireturn, 1) := by decide +kernel
theorem dX8_moves_67 : decode cX8_moves 67 = .ok (.aload_n 0, 1) := by decide +kernel
theorem dX8_moves_68 : decode cX8_moves 68 = .ok (.aload_n 0, 1) := by decide +kernel
theorem dX8_moves_69 : decode cX8_moves 69 = .ok (.getfield 11, 3) := by decide +kernel
theorem dX8_moves_72 : decode cX8_moves 72 = .ok (.iload_n 1, 1) := by decide +kernel
theorem dX8_moves_73 : decode cX8_moves 73 = .ok (.aaload, 1) := by decide +kernel
theorem dX8_moves_74 : decode cX8_moves 74 = .ok (.iload_n 2, 1) := by decide +kernel
theorem dX8_moves_75 : decode cX8_moves 75 = .ok (.iload 4, 2) := by decide +kernel
theorem dX8_moves_77 : decode cX8_moves 77 = .ok (.invokevirtual 155, 3) := by decide +kernel
theorem dX8_moves_80 : decode cX8_moves 80 = .ok (.invokestatic 169, 3) := by decide +kernel
theorem dX8_moves_83 : decode cX8_moves 83 = .ok (.aload_n 0, 1) := by decide +kernel
theorem dX8_moves_84 : decode cX8_moves 84 = .ok (.getfield 11, 3) := by decide +kernel
theorem dX8_moves_87 : decode cX8_moves 87 = .ok (.iload_n 1, 1) := by decide +kernel
theorem dX8_moves_88 : decode cX8_moves 88 = .ok (.aaload, 1) := by decide +kernel
theorem dX8_moves_89 : decode cX8_moves 89 = .ok (.invokevirtual 173, 3) := by decide +kernel
theorem dX8_moves_92 : decode cX8_moves 92 = .ok (.isub, 1) := by decide +kernel
theorem dX8_moves_93 : decode cX8_moves 93 = .ok (.ireturn, 1) := by decide +kernel
set_option maxRecDepth 20000 in
theorem ggX8_grid_X8_isBicycle : GoodIn wsX8_grid wsX8_isBicycle := goodIn_r _ [9, 10, 11, 8, 12] (by decide +kernel) (by decide +kernel)
set_option maxRecDepth 20000 in
theorem gX8_grid_X8_isBicycle : GoodIn wsX8_grid (va_wsS RX8 93 yX8_isBicycle wsX8_isBicycle) := goodIn_app (goodIn_of _ (by decide +kernel)) ggX8_grid_X8_isBicycle
set_option maxRecDepth 20000 in
theorem ggX8_grid_X8_isNumber : GoodIn wsX8_grid wsX8_isNumber := goodIn_r _ [15, 10, 11, 8, 12] (by decide +kernel) (by decide +kernel)
set_option maxRecDepth 20000 in
theorem gX8_grid_X8_isNumber : GoodIn wsX8_grid (va_wsS RX8 97 yX8_isNumber wsX8_isNumber) := goodIn_app (goodIn_of _ (by decide +kernel)) ggX8_grid_X8_isNumber
set_option maxRecDepth 20000 in
theorem ggX8_grid_X8_within : GoodIn wsX8_grid wsX8_within := goodIn_r _ [12] (by decide +kernel) (by decide +kernel)
set_option maxRecDepth 20000 in
theorem gX8_grid_X8_within : GoodIn wsX8_grid (va_wsS RX8 106 yX8_within wsX8_within) := goodIn_app (goodIn_of _ (by decide +kernel)) ggX8_grid_X8_within
set_option maxRecDepth 20000 in
theorem ggX8_grid_X0_copyFrom : GoodIn wsX8_grid wsX0_copyFrom := goodIn_r _ [19, 20, 21, 22, 23, 24, 69] (by decide +kernel) (by decide +kernel)
set_option maxRecDepth 20000 in
theorem gX8_grid_X0_copyFrom_n177 : GoodIn wsX8_grid (wsX0_copyFrom) := ggX8_grid_X0_copyFrom
set_option maxRecDepth 20000 in
theorem ggX8_grid_X0_put : GoodIn wsX8_grid wsX0_put := goodIn_r _ [27, 20, 14, 8, 15, 10, 11, 12, 69] (by decide +kernel) (by decide +kernel)
set_option maxRecDepth 20000 in
theorem gX8_grid_X0_put_n115 : GoodIn wsX8_grid (wsX0_put) := ggX8_grid_X0_put
set_option maxRecDepth 20000 in
theorem ggX8_grid_X0_speeds : GoodIn wsX8_grid wsX0_speeds := goodIn_r _ [30, 20, 31, 32, 33, 17, 34, 35, 36, 37, 38, 39, 40, 41, 42, 43, 44, 45, 46, 47, 48, 49, 50, 51, 52, 69] (by decide +kernel) (by decide +kernel)
set_option maxRecDepth 20000 in
theorem gX8_grid_X0_speeds_n147 : GoodIn wsX8_grid (wsX0_speeds) := ggX8_grid_X0_speeds
theorem dX8_grid_0 : decode cX8_grid 0 = .ok (.iload_n 1, 1) := by decide +kernel
theorem dX8_grid_1 : decode cX8_grid 1 = .ok (.invokestatic 93, 3) := by decide +kernel
theorem dX8_grid_4 : decode cX8_grid 4 = .ok (.ifCond .eq 32, 3) := by decide +kernel
theorem dX8_grid_7 : decode cX8_grid 7 = .ok (.iload_n 2, 1) := by decide +kernel
theorem dX8_grid_8 : decode cX8_grid 8 = .ok (.invokestatic 97, 3) := by decide +kernel
theorem dX8_grid_11 : decode cX8_grid 11 = .ok (.ifCond .eq 25, 3) := by decide +kernel
theorem dX8_grid_14 : decode cX8_grid 14 = .ok (.iload_n 3, 1) := by decide +kernel
theorem dX8_grid_15 : decode cX8_grid 15 = .ok (.invokestatic 97, 3) := by decide +kernel
theorem dX8_grid_18 : decode cX8_grid 18 = .ok (.ifCond .eq 18, 3) := by decide +kernel
theorem dX8_grid_21 : decode cX8_grid 21 = .ok (.iload_n 2, 1) := by decide +kernel
theorem dX8_grid_22 : decode cX8_grid 22 = .ok (.iload_n 3, 1) := by decide +kernel
theorem dX8_grid_23 : decode cX8_grid 23 = .ok (.if_icmp .eq 13, 3) := by decide +kernel
theorem dX8_grid_26 : decode cX8_grid 26 = .ok (.iload 4, 2) := by decide +kernel
theorem dX8_grid_28 : decode cX8_grid 28 = .ok (.iconst 0, 1) := by decide +kernel
theorem dX8_grid_29 : decode cX8_grid 29 = .ok (.iconst 2, 1) := by decide +kernel
theorem dX8_grid_30 : decode cX8_grid 30 = .ok (.invokestatic 106, 3) := by decide +kernel
theorem dX8_grid_33 : decode cX8_grid 33 = .ok (.ifCond .ne 6, 3) := by decide +kernel
theorem dX8_grid_36 : decode cX8_grid 36 = .ok (.ldc 110, 2) := by decide +kernel
theorem dX8_grid_38 : decode cX8_grid 38 = .ok (.ireturn, 1) := by decide +kernel
theorem dX8_grid_39 : decode cX8_grid 39 = .ok (.aload_n 0, 1) := by decide +kernel
theorem dX8_grid_40 : decode cX8_grid 40 = .ok (.getfield 16, 3) := by decide +kernel
theorem dX8_grid_43 : decode cX8_grid 43 = .ok (.aload_n 0, 1) := by decide +kernel
theorem dX8_grid_44 : decode cX8_grid 44 = .ok (.getfield 11, 3) := by decide +kernel
theorem dX8_grid_47 : decode cX8_grid 47 = .ok (.iload_n 1, 1) := by decide +kernel
theorem dX8_grid_48 : decode cX8_grid 48 = .ok (.aaload, 1) := by decide +kernel
theorem dX8_grid_49 : decode cX8_grid 49 = .ok (.invokevirtual 177, 3) := by decide +kernel
theorem dX8_grid_52 : decode cX8_grid 52 = .ok (.iconst 0, 1) := by decide +kernel
theorem dX8_grid_53 : decode cX8_grid 53 = .ok (.istore 5, 2) := by decide +kernel
theorem dX8_grid_55 : decode cX8_grid 55 = .ok (.getstatic 100, 3) := by decide +kernel
theorem dX8_grid_58 : decode cX8_grid 58 = .ok (.iload_n 2, 1) := by decide +kernel
theorem dX8_grid_59 : decode cX8_grid 59 = .ok (.iaload, 1) := by decide +kernel
theorem dX8_grid_60 : decode cX8_grid 60 = .ok (.istore 6, 2) := by decide +kernel
theorem dX8_grid_62 : decode cX8_grid 62 = .ok (.iload 6, 2) := by decide +kernel
theorem dX8_grid_64 : decode cX8_grid 64 = .ok (.getstatic 103, 3) := by decide +kernel
theorem dX8_grid_67 : decode cX8_grid 67 = .ok (.iload_n 2, 1) := by decide +kernel
theorem dX8_grid_68 : decode cX8_grid 68 = .ok (.iaload, 1) := by decide +kernel
theorem dX8_grid_69 : decode cX8_grid 69 = .ok (.if_icmp .gt 89, 3) := by decide +kernel
theorem dX8_grid_72 : decode cX8_grid 72 = .ok (.aload_n 0, 1) := by decide +kernel
theorem dX8_grid_73 : decode cX8_grid 73 = .ok (.getfield 16, 3) := by decide +kernel
theorem dX8_grid_76 : decode cX8_grid 76 = .ok (.iload_n 2, 1) := by decide +kernel
theorem dX8_grid_77 : decode cX8_grid 77 = .ok (.iload 6, 2) := by decide +kernel
theorem dX8_grid_79 : decode cX8_grid 79 = .ok (.invokevirtual 115, 3) := by decide +kernel
theorem dX8_grid_82 : decode cX8_grid 82 = .ok (.getstatic 100, 3) := by decide +kernel
theorem dX8_grid_85 : decode cX8_grid 85 = .ok (.iload_n 3, 1) := by decide +kernel
theorem dX8_grid_86 : decode cX8_grid 86 = .ok (.iaload, 1) := by decide +kernel
theorem dX8_grid_87 : decode cX8_grid 87 = .ok (.istore 7, 2) := by decide +kernel
theorem dX8_grid_89 : decode cX8_grid 89 = .ok (.iload 7, 2) := by decide +kernel
theorem dX8_grid_91 : decode cX8_grid 91 = .ok (.getstatic 103, 3) := by decide +kernel
theorem dX8_grid_94 : decode cX8_grid 94 = .ok (.iload_n 3, 1) := by decide +kernel
theorem dX8_grid_95 : decode cX8_grid 95 = .ok (.iaload, 1) := by decide +kernel
theorem dX8_grid_96 : decode cX8_grid 96 = .ok (.if_icmp .gt 56, 3) := by decide +kernel
theorem dX8_grid_99 : decode cX8_grid 99 = .ok (.aload_n 0, 1) := by decide +kernel
theorem dX8_grid_100 : decode cX8_grid 100 = .ok (.getfield 16, 3) := by decide +kernel
theorem dX8_grid_103 : decode cX8_grid 103 = .ok (.iload_n 3, 1) := by decide +kernel
theorem dX8_grid_104 : decode cX8_grid 104 = .ok (.iload 7, 2) := by decide +kernel
theorem dX8_grid_106 : decode cX8_grid 106 = .ok (.invokevirtual 115, 3) := by decide +kernel
theorem dX8_grid_109 : decode cX8_grid 109 = .ok (.aload_n 0, 1) := by decide +kernel
theorem dX8_grid_110 : decode cX8_grid 110 = .ok (.getfield 16, 3) := by decide +kernel
theorem dX8_grid_113 : decode cX8_grid 113 = .ok (.invokevirtual 147, 3) := by decide +kernel
theorem dX8_grid_116 : decode cX8_grid 116 = .ok (.lconst 0, 1) := by decide +kernel
theorem dX8_grid_117 : decode cX8_grid 117 = .ok (.lcmp, 1) := by decide +kernel
theorem dX8_grid_118 : decode cX8_grid 118 = .ok (.ifCond .ne 6, 3) := by decide +kernel
theorem dX8_grid_121 : decode cX8_grid 121 = .ok (.goto 25, 3) := by decide +kernel
theorem dX8_grid_124 : decode cX8_grid 124 = .ok (.iload 4, 2) := by decide +kernel
theorem dX8_grid_126 : decode cX8_grid 126 = .ok (.ifCond .eq 17, 3) := by decide +kernel
theorem dX8_grid_129 : decode cX8_grid 129 = .ok (.iload 4, 2) := by decide +kernel
theorem dX8_grid_131 : decode cX8_grid 131 = .ok (.iconst 1, 1) := by decide +kernel
theorem dX8_grid_132 : decode cX8_grid 132 = .ok (.if_icmp .ne 8, 3) := by decide +kernel
theorem dX8_grid_135 : decode cX8_grid 135 = .ok (.iload 6, 2) := by decide +kernel
theorem dX8_grid_137 : decode cX8_grid 137 = .ok (.goto 5, 3) := by decide +kernel
theorem dX8_grid_140 : decode cX8_grid 140 = .ok (.iload 7, 2) := by decide +kernel
theorem dX8_grid_142 : decode cX8_grid 142 = .ok (.ireturn, 1) := by decide +kernel
theorem dX8_grid_143 : decode cX8_grid 143 = .ok (.iinc 5 1, 3) := by decide +kernel
theorem dX8_grid_146 : decode cX8_grid 146 = .ok (.iinc 7 1, 3) := by decide +kernel
theorem dX8_grid_149 : decode cX8_grid 149 = .ok (.goto (-60), 3) := by decide +kernel
theorem dX8_grid_152 : decode cX8_grid 152 = .ok (.iinc 6 1, 3) := by decide +kernel
theorem dX8_grid_155 : decode cX8_grid 155 = .ok (.goto (-93), 3) := by decide +kernel
theorem dX8_grid_158 : decode cX8_grid 158 = .ok (.iload 4, 2) := by decide +kernel
theorem dX8_grid_160 : decode cX8_grid 160 = .ok (.ifCond .ne 8, 3) := by decide +kernel
theorem dX8_grid_163 : decode cX8_grid 163 = .ok (.iload 5, 2) := by decide +kernel
theorem dX8_grid_165 : decode cX8_grid 165 = .ok (.goto 5, 3) := by decide +kernel
theorem dX8_grid_168 : decode cX8_grid 168 = .ok (.ldc 110, 2) := by decide +kernel
theorem dX8_grid_170 : decode cX8_grid 170 = .ok (.ireturn, 1) := by decide +kernel
set_option maxRecDepth 20000 in
theorem ggX8_least_X8_isBicycle : GoodIn wsX8_least wsX8_isBicycle := goodIn_r _ [6, 7, 8, 5, 9] (by decide +kernel) (by decide +kernel)
set_option maxRecDepth 20000 in
theorem gX8_least_X8_isBicycle : GoodIn wsX8_least (va_wsS RX8 93 yX8_isBicycle wsX8_isBicycle) := goodIn_app (goodIn_of _ (by decide +kernel)) ggX8_least_X8_isBicycle
set_option maxRecDepth 20000 in
theorem ggX8_least_X8_isSpeed : GoodIn wsX8_least wsX8_isSpeed := goodIn_r _ [12, 7, 8, 5, 9] (by decide +kernel) (by decide +kernel)
set_option maxRecDepth 20000 in
theorem gX8_least_X8_isSpeed : GoodIn wsX8_least (va_wsS RX8 119 yX8_isSpeed wsX8_isSpeed) := goodIn_app (goodIn_of _ (by decide +kernel)) ggX8_least_X8_isSpeed
set_option maxRecDepth 20000 in
theorem ggX8_least_X8_isHand : GoodIn wsX8_least wsX8_isHand := goodIn_r _ [15, 7, 8, 5, 9] (by decide +kernel) (by decide +kernel)
set_option maxRecDepth 20000 in
theorem gX8_least_X8_isHand : GoodIn wsX8_least (va_wsS RX8 122 yX8_isHand wsX8_isHand) := goodIn_app (goodIn_of _ (by decide +kernel)) ggX8_least_X8_isHand
set_option maxRecDepth 20000 in
theorem ggX8_least_X0_staysUp : GoodIn wsX8_least wsX0_staysUp := goodIn_r _ [19, 20, 21, 22, 23, 24, 17, 25, 26, 27, 28, 29, 30, 31, 32, 33, 34, 35, 36, 37, 38, 55] (by decide +kernel) (by decide +kernel)
set_option maxRecDepth 20000 in
theorem gX8_least_X0_staysUp_n144 : GoodIn wsX8_least (wsX0_staysUp) := ggX8_least_X0_staysUp
theorem dX8_least_0 : decode cX8_least 0 = .ok (.iload_n 1, 1) := by decide +kernel
theorem dX8_least_1 : decode cX8_least 1 = .ok (.invokestatic 93, 3) := by decide +kernel
theorem dX8_least_4 : decode cX8_least 4 = .ok (.ifCond .eq 17, 3) := by decide +kernel
theorem dX8_least_7 : decode cX8_least 7 = .ok (.iload_n 2, 1) := by decide +kernel
theorem dX8_least_8 : decode cX8_least 8 = .ok (.invokestatic 119, 3) := by decide +kernel
theorem dX8_least_11 : decode cX8_least 11 = .ok (.ifCond .eq 10, 3) := by decide +kernel
theorem dX8_least_14 : decode cX8_least 14 = .ok (.iload_n 3, 1) := by decide +kernel
theorem dX8_least_15 : decode cX8_least 15 = .ok (.invokestatic 122, 3) := by decide +kernel
theorem dX8_least_18 : decode cX8_least 18 = .ok (.ifCond .ne 6, 3) := by decide +kernel
theorem dX8_least_21 : decode cX8_least 21 = .ok (.ldc 110, 2) := by decide +kernel
theorem dX8_least_23 : decode cX8_least 23 = .ok (.ireturn, 1) := by decide +kernel
theorem dX8_least_24 : decode cX8_least 24 = .ok (.iconst 0, 1) := by decide +kernel
theorem dX8_least_25 : decode cX8_least 25 = .ok (.istore 4, 2) := by decide +kernel
theorem dX8_least_27 : decode cX8_least 27 = .ok (.iload 4, 2) := by decide +kernel
theorem dX8_least_29 : decode cX8_least 29 = .ok (.bipush 99, 2) := by decide +kernel
theorem dX8_least_31 : decode cX8_least 31 = .ok (.if_icmp .gt 49, 3) := by decide +kernel
theorem dX8_least_34 : decode cX8_least 34 = .ok (.aload_n 0, 1) := by decide +kernel
theorem dX8_least_35 : decode cX8_least 35 = .ok (.getfield 11, 3) := by decide +kernel
theorem dX8_least_38 : decode cX8_least 38 = .ok (.iload_n 1, 1) := by decide +kernel
theorem dX8_least_39 : decode cX8_least 39 = .ok (.aaload, 1) := by decide +kernel
theorem dX8_least_40 : decode cX8_least 40 = .ok (.iload_n 2, 1) := by decide +kernel
theorem dX8_least_41 : decode cX8_least 41 = .ok (.iload 4, 2) := by decide +kernel
theorem dX8_least_43 : decode cX8_least 43 = .ok (.iload_n 3, 1) := by decide +kernel
theorem dX8_least_44 : decode cX8_least 44 = .ok (.invokevirtual 144, 3) := by decide +kernel
theorem dX8_least_47 : decode cX8_least 47 = .ok (.ifCond .eq 6, 3) := by decide +kernel
theorem dX8_least_50 : decode cX8_least 50 = .ok (.iload 4, 2) := by decide +kernel
theorem dX8_least_52 : decode cX8_least 52 = .ok (.ireturn, 1) := by decide +kernel
theorem dX8_least_53 : decode cX8_least 53 = .ok (.aload_n 0, 1) := by decide +kernel
theorem dX8_least_54 : decode cX8_least 54 = .ok (.getfield 11, 3) := by decide +kernel
theorem dX8_least_57 : decode cX8_least 57 = .ok (.iload_n 1, 1) := by decide +kernel
theorem dX8_least_58 : decode cX8_least 58 = .ok (.aaload, 1) := by decide +kernel
theorem dX8_least_59 : decode cX8_least 59 = .ok (.iload_n 2, 1) := by decide +kernel
theorem dX8_least_60 : decode cX8_least 60 = .ok (.iload 4, 2) := by decide +kernel
theorem dX8_least_62 : decode cX8_least 62 = .ok (.ineg, 1) := by decide +kernel
theorem dX8_least_63 : decode cX8_least 63 = .ok (.iload_n 3, 1) := by decide +kernel
theorem dX8_least_64 : decode cX8_least 64 = .ok (.invokevirtual 144, 3) := by decide +kernel
theorem dX8_least_67 : decode cX8_least 67 = .ok (.ifCond .eq 7, 3) := by decide +kernel
theorem dX8_least_70 : decode cX8_least 70 = .ok (.iload 4, 2) := by decide +kernel
theorem dX8_least_72 : decode cX8_least 72 = .ok (.ineg, 1) := by decide +kernel
theorem dX8_least_73 : decode cX8_least 73 = .ok (.ireturn, 1) := by decide +kernel
theorem dX8_least_74 : decode cX8_least 74 = .ok (.iinc 4 1, 3) := by decide +kernel
theorem dX8_least_77 : decode cX8_least 77 = .ok (.goto (-50), 3) := by decide +kernel
theorem dX8_least_80 : decode cX8_least 80 = .ok (.ldc 110, 2) := by decide +kernel
theorem dX8_least_82 : decode cX8_least 82 = .ok (.ireturn, 1) := by decide +kernel
set_option maxRecDepth 20000 in
theorem ggX8_spread_X8_isBicycle : GoodIn wsX8_spread wsX8_isBicycle := goodIn_r _ [6, 7, 8, 5, 9] (by decide +kernel) (by decide +kernel)
set_option maxRecDepth 20000 in
theorem gX8_spread_X8_isBicycle : GoodIn wsX8_spread (va_wsS RX8 93 yX8_isBicycle wsX8_isBicycle) := goodIn_app (goodIn_of _ (by decide +kernel)) ggX8_spread_X8_isBicycle
set_option maxRecDepth 20000 in
theorem ggX8_spread_X8_within : GoodIn wsX8_spread wsX8_within := goodIn_r _ [9] (by decide +kernel) (by decide +kernel)
set_option maxRecDepth 20000 in
theorem gX8_spread_X8_within : GoodIn wsX8_spread (va_wsS RX8 106 yX8_within wsX8_within) := goodIn_app (goodIn_of _ (by decide +kernel)) ggX8_spread_X8_within
set_option maxRecDepth 20000 in
theorem ggX8_spread_X2_weigh : GoodIn wsX8_spread wsX2_weigh := goodIn_r _ [13, 14, 15, 16, 17, 18, 19, 11, 20, 21, 22, 23, 24, 25, 26, 5, 27, 7, 8, 9, 28, 29, 30, 31, 32, 33, 34, 35, 36, 37, 38, 39, 40, 41, 42, 43, 44, 45, 46, 47, 48, 49, 50, 51, 52, 53, 54, 55, 56, 57, 58, 59, 60, 61, 62, 63, 64, 65, 66, 93, 94, 95, 96] (by decide +kernel) (by decide +kernel)
set_option maxRecDepth 20000 in
theorem gX8_spread_X2_weigh_n181 : GoodIn wsX8_spread (wsX2_weigh) := ggX8_spread_X2_weigh
set_option maxRecDepth 20000 in
theorem ggX8_spread_X2_spreadOf : GoodIn wsX8_spread wsX2_spreadOf := goodIn_r _ [69, 15, 14, 70, 71, 72, 73, 74, 75, 76, 93, 94, 95] (by decide +kernel) (by decide +kernel)
set_option maxRecDepth 20000 in
theorem gX8_spread_X2_spreadOf_n185 : GoodIn wsX8_spread (wsX2_spreadOf) := ggX8_spread_X2_spreadOf
theorem dX8_spread_0 : decode cX8_spread 0 = .ok (.iload_n 1, 1) := by decide +kernel
theorem dX8_spread_1 : decode cX8_spread 1 = .ok (.invokestatic 93, 3) := by decide +kernel
theorem dX8_spread_4 : decode cX8_spread 4 = .ok (.ifCond .eq 13, 3) := by decide +kernel
theorem dX8_spread_7 : decode cX8_spread 7 = .ok (.iload_n 2, 1) := by decide +kernel
theorem dX8_spread_8 : decode cX8_spread 8 = .ok (.iconst 0, 1) := by decide +kernel
theorem dX8_spread_9 : decode cX8_spread 9 = .ok (.bipush 63, 2) := by decide +kernel
theorem dX8_spread_11 : decode cX8_spread 11 = .ok (.invokestatic 106, 3) := by decide +kernel
theorem dX8_spread_14 : decode cX8_spread 14 = .ok (.ifCond .ne 5, 3) := by decide +kernel
theorem dX8_spread_17 : decode cX8_spread 17 = .ok (.iconst (-1), 1) := by decide +kernel
theorem dX8_spread_18 : decode cX8_spread 18 = .ok (.ireturn, 1) := by decide +kernel
theorem dX8_spread_19 : decode cX8_spread 19 = .ok (.aload_n 0, 1) := by decide +kernel
theorem dX8_spread_20 : decode cX8_spread 20 = .ok (.getfield 30, 3) := by decide +kernel
theorem dX8_spread_23 : decode cX8_spread 23 = .ok (.aload_n 0, 1) := by decide +kernel
theorem dX8_spread_24 : decode cX8_spread 24 = .ok (.getfield 11, 3) := by decide +kernel
theorem dX8_spread_27 : decode cX8_spread 27 = .ok (.iload_n 1, 1) := by decide +kernel
theorem dX8_spread_28 : decode cX8_spread 28 = .ok (.aaload, 1) := by decide +kernel
theorem dX8_spread_29 : decode cX8_spread 29 = .ok (.iload_n 2, 1) := by decide +kernel
theorem dX8_spread_30 : decode cX8_spread 30 = .ok (.invokevirtual 181, 3) := by decide +kernel
theorem dX8_spread_33 : decode cX8_spread 33 = .ok (.aload_n 0, 1) := by decide +kernel
theorem dX8_spread_34 : decode cX8_spread 34 = .ok (.getfield 30, 3) := by decide +kernel
theorem dX8_spread_37 : decode cX8_spread 37 = .ok (.iload_n 2, 1) := by decide +kernel
theorem dX8_spread_38 : decode cX8_spread 38 = .ok (.invokevirtual 185, 3) := by decide +kernel
theorem dX8_spread_41 : decode cX8_spread 41 = .ok (.ireturn, 1) := by decide +kernel
set_option maxRecDepth 20000 in
theorem ggX8_fewest_X8_isBicycle : GoodIn wsX8_fewest wsX8_isBicycle := goodIn_r _ [6, 7, 8, 5, 9] (by decide +kernel) (by decide +kernel)
set_option maxRecDepth 20000 in
theorem gX8_fewest_X8_isBicycle : GoodIn wsX8_fewest (va_wsS RX8 93 yX8_isBicycle wsX8_isBicycle) := goodIn_app (goodIn_of _ (by decide +kernel)) ggX8_fewest_X8_isBicycle
set_option maxRecDepth 20000 in
theorem ggX8_fewest_X8_within : GoodIn wsX8_fewest wsX8_within := goodIn_r _ [9] (by decide +kernel) (by decide +kernel)
set_option maxRecDepth 20000 in
theorem gX8_fewest_X8_within : GoodIn wsX8_fewest (va_wsS RX8 106 yX8_within wsX8_within) := goodIn_app (goodIn_of _ (by decide +kernel)) ggX8_fewest_X8_within
set_option maxRecDepth 20000 in
theorem ggX8_fewest_X8_isFlag : GoodIn wsX8_fewest wsX8_isFlag := goodIn_r _ [12, 7, 8, 5, 9] (by decide +kernel) (by decide +kernel)
set_option maxRecDepth 20000 in
theorem gX8_fewest_X8_isFlag : GoodIn wsX8_fewest (va_wsS RX8 166 yX8_isFlag wsX8_isFlag) := goodIn_app (goodIn_of _ (by decide +kernel)) ggX8_fewest_X8_isFlag
set_option maxRecDepth 20000 in
theorem ggX8_fewest_X2_weigh : GoodIn wsX8_fewest wsX2_weigh := goodIn_r _ [16, 17, 18, 19, 20, 21, 22, 14, 23, 24, 25, 26, 27, 28, 29, 5, 30, 7, 8, 9, 31, 32, 33, 34, 35, 36, 37, 38, 39, 40, 41, 42, 43, 44, 45, 46, 47, 48, 49, 50, 51, 52, 53, 54, 55, 56, 57, 58, 59, 60, 61, 62, 63, 64, 65, 66, 67, 68, 69, 108, 109, 110, 111] (by decide +kernel) (by decide +kernel)
set_option maxRecDepth 20000 in
theorem gX8_fewest_X2_weigh_n181 : GoodIn wsX8_fewest (wsX2_weigh) := ggX8_fewest_X2_weigh
set_option maxRecDepth 20000 in
theorem ggX8_fewest_X2_fewestFor : GoodIn wsX8_fewest wsX2_fewestFor := goodIn_r _ [72, 73, 74, 75, 76, 77, 78, 79, 80, 81, 82, 14, 83, 18, 17, 84, 85, 86, 87, 88, 89, 90, 108, 109, 110] (by decide +kernel) (by decide +kernel)
set_option maxRecDepth 20000 in
theorem gX8_fewest_X2_fewestFor_n188 : GoodIn wsX8_fewest (wsX2_fewestFor) := ggX8_fewest_X2_fewestFor
set_option maxRecDepth 20000 in
theorem ggX8_fewest_J6_bitCount_0f7a4 : GoodIn wsX8_fewest wsJ6_bitCount_0f7a4 := goodIn_r _ [76, 77, 78, 79] (by decide +kernel) (by decide +kernel)
set_option maxRecDepth 20000 in
theorem gX8_fewest_J6_bitCount_0f7a4 : GoodIn wsX8_fewest (va_wsS RX8 191 yJ6_bitCount_0f7a4 wsJ6_bitCount_0f7a4) := goodIn_app (goodIn_of _ (by decide +kernel)) ggX8_fewest_J6_bitCount_0f7a4
theorem dX8_fewest_0 : decode cX8_fewest 0 = .ok (.iload_n 1, 1) := by decide +kernel
theorem dX8_fewest_1 : decode cX8_fewest 1 = .ok (.invokestatic 93, 3) := by decide +kernel
theorem dX8_fewest_4 : decode cX8_fewest 4 = .ok (.ifCond .eq 20, 3) := by decide +kernel
theorem dX8_fewest_7 : decode cX8_fewest 7 = .ok (.iload_n 2, 1) := by decide +kernel
theorem dX8_fewest_8 : decode cX8_fewest 8 = .ok (.iconst 0, 1) := by decide +kernel
theorem dX8_fewest_9 : decode cX8_fewest 9 = .ok (.bipush 40, 2) := by decide +kernel
theorem dX8_fewest_11 : decode cX8_fewest 11 = .ok (.invokestatic 106, 3) := by decide +kernel
theorem dX8_fewest_14 : decode cX8_fewest 14 = .ok (.ifCond .eq 10, 3) := by decide +kernel
theorem dX8_fewest_17 : decode cX8_fewest 17 = .ok (.iload_n 3, 1) := by decide +kernel
theorem dX8_fewest_18 : decode cX8_fewest 18 = .ok (.invokestatic 166, 3) := by decide +kernel
theorem dX8_fewest_21 : decode cX8_fewest 21 = .ok (.ifCond .ne 5, 3) := by decide +kernel
theorem dX8_fewest_24 : decode cX8_fewest 24 = .ok (.iconst (-1), 1) := by decide +kernel
theorem dX8_fewest_25 : decode cX8_fewest 25 = .ok (.ireturn, 1) := by decide +kernel
theorem dX8_fewest_26 : decode cX8_fewest 26 = .ok (.aload_n 0, 1) := by decide +kernel
theorem dX8_fewest_27 : decode cX8_fewest 27 = .ok (.getfield 30, 3) := by decide +kernel
theorem dX8_fewest_30 : decode cX8_fewest 30 = .ok (.aload_n 0, 1) := by decide +kernel
theorem dX8_fewest_31 : decode cX8_fewest 31 = .ok (.getfield 11, 3) := by decide +kernel
theorem dX8_fewest_34 : decode cX8_fewest 34 = .ok (.iload_n 1, 1) := by decide +kernel
theorem dX8_fewest_35 : decode cX8_fewest 35 = .ok (.aaload, 1) := by decide +kernel
theorem dX8_fewest_36 : decode cX8_fewest 36 = .ok (.iconst 0, 1) := by decide +kernel
theorem dX8_fewest_37 : decode cX8_fewest 37 = .ok (.invokevirtual 181, 3) := by decide +kernel
theorem dX8_fewest_40 : decode cX8_fewest 40 = .ok (.aload_n 0, 1) := by decide +kernel
theorem dX8_fewest_41 : decode cX8_fewest 41 = .ok (.getfield 30, 3) := by decide +kernel
theorem dX8_fewest_44 : decode cX8_fewest 44 = .ok (.iload_n 2, 1) := by decide +kernel
theorem dX8_fewest_45 : decode cX8_fewest 45 = .ok (.invokevirtual 188, 3) := by decide +kernel
theorem dX8_fewest_48 : decode cX8_fewest 48 = .ok (.istore 4, 2) := by decide +kernel
theorem dX8_fewest_50 : decode cX8_fewest 50 = .ok (.iload_n 3, 1) := by decide +kernel
theorem dX8_fewest_51 : decode cX8_fewest 51 = .ok (.ifCond .ne 11, 3) := by decide +kernel
theorem dX8_fewest_54 : decode cX8_fewest 54 = .ok (.iload 4, 2) := by decide +kernel
theorem dX8_fewest_56 : decode cX8_fewest 56 = .ok (.invokestatic 191, 3) := by decide +kernel
theorem dX8_fewest_59 : decode cX8_fewest 59 = .ok (.goto 5, 3) := by decide +kernel
theorem dX8_fewest_62 : decode cX8_fewest 62 = .ok (.iload 4, 2) := by decide +kernel
theorem dX8_fewest_64 : decode cX8_fewest 64 = .ok (.ireturn, 1) := by decide +kernel
set_option maxRecDepth 20000 in
theorem ggX8_type_X8_within : GoodIn wsX8_type wsX8_within := goodIn_r _ [6] (by decide +kernel) (by decide +kernel)
set_option maxRecDepth 20000 in
theorem gX8_type_X8_within : GoodIn wsX8_type (va_wsS RX8 106 yX8_within wsX8_within) := goodIn_app (goodIn_of _ (by decide +kernel)) ggX8_type_X8_within
theorem dX8_type_0 : decode cX8_type 0 = .ok (.iload_n 3, 1) := by decide +kernel
theorem dX8_type_1 : decode cX8_type 1 = .ok (.iconst 1, 1) := by decide +kernel
theorem dX8_type_2 : decode cX8_type 2 = .ok (.bipush 8, 2) := by decide +kernel
theorem dX8_type_4 : decode cX8_type 4 = .ok (.invokestatic 106, 3) := by decide +kernel
theorem dX8_type_7 : decode cX8_type 7 = .ok (.ifCond .ne 5, 3) := by decide +kernel
theorem dX8_type_10 : decode cX8_type 10 = .ok (.iconst (-1), 1) := by decide +kernel
theorem dX8_type_11 : decode cX8_type 11 = .ok (.ireturn, 1) := by decide +kernel
theorem dX8_type_12 : decode cX8_type 12 = .ok (.aload_n 0, 1) := by decide +kernel
theorem dX8_type_13 : decode cX8_type 13 = .ok (.getfield 38, 3) := by decide +kernel
theorem dX8_type_16 : decode cX8_type 16 = .ok (.iload_n 3, 1) := by decide +kernel
theorem dX8_type_17 : decode cX8_type 17 = .ok (.iadd, 1) := by decide +kernel
theorem dX8_type_18 : decode cX8_type 18 = .ok (.sipush 200, 3) := by decide +kernel
theorem dX8_type_21 : decode cX8_type 21 = .ok (.if_icmp .le 6, 3) := by decide +kernel
theorem dX8_type_24 : decode cX8_type 24 = .ok (.bipush (-3), 2) := by decide +kernel
theorem dX8_type_26 : decode cX8_type 26 = .ok (.ireturn, 1) := by decide +kernel
theorem dX8_type_27 : decode cX8_type 27 = .ok (.iload_n 3, 1) := by decide +kernel
theorem dX8_type_28 : decode cX8_type 28 = .ok (.iconst 1, 1) := by decide +kernel
theorem dX8_type_29 : decode cX8_type 29 = .ok (.isub, 1) := by decide +kernel
theorem dX8_type_30 : decode cX8_type 30 = .ok (.istore 4, 2) := by decide +kernel
theorem dX8_type_32 : decode cX8_type 32 = .ok (.iload 4, 2) := by decide +kernel
theorem dX8_type_34 : decode cX8_type 34 = .ok (.ifCond .lt 40, 3) := by decide +kernel
theorem dX8_type_37 : decode cX8_type 37 = .ok (.aload_n 0, 1) := by decide +kernel
theorem dX8_type_38 : decode cX8_type 38 = .ok (.getfield 34, 3) := by decide +kernel
theorem dX8_type_41 : decode cX8_type 41 = .ok (.aload_n 0, 1) := by decide +kernel
theorem dX8_type_42 : decode cX8_type 42 = .ok (.getfield 38, 3) := by decide +kernel
theorem dX8_type_45 : decode cX8_type 45 = .ok (.lload_n 1, 1) := by decide +kernel
theorem dX8_type_46 : decode cX8_type 46 = .ok (.bipush 8, 2) := by decide +kernel
theorem dX8_type_48 : decode cX8_type 48 = .ok (.iload 4, 2) := by decide +kernel
theorem dX8_type_50 : decode cX8_type 50 = .ok (.imul, 1) := by decide +kernel
theorem dX8_type_51 : decode cX8_type 51 = .ok (.lushr, 1) := by decide +kernel
theorem dX8_type_52 : decode cX8_type 52 = .ok (.l2i, 1) := by decide +kernel
theorem dX8_type_53 : decode cX8_type 53 = .ok (.sipush 255, 3) := by decide +kernel
theorem dX8_type_56 : decode cX8_type 56 = .ok (.iand, 1) := by decide +kernel
theorem dX8_type_57 : decode cX8_type 57 = .ok (.iastore, 1) := by decide +kernel
theorem dX8_type_58 : decode cX8_type 58 = .ok (.aload_n 0, 1) := by decide +kernel
theorem dX8_type_59 : decode cX8_type 59 = .ok (.dup, 1) := by decide +kernel
theorem dX8_type_60 : decode cX8_type 60 = .ok (.getfield 38, 3) := by decide +kernel
theorem dX8_type_63 : decode cX8_type 63 = .ok (.iconst 1, 1) := by decide +kernel
theorem dX8_type_64 : decode cX8_type 64 = .ok (.iadd, 1) := by decide +kernel
theorem dX8_type_65 : decode cX8_type 65 = .ok (.putfield 38, 3) := by decide +kernel
theorem dX8_type_68 : decode cX8_type 68 = .ok (.iinc 4 (-1), 3) := by decide +kernel
theorem dX8_type_71 : decode cX8_type 71 = .ok (.goto (-39), 3) := by decide +kernel
theorem dX8_type_74 : decode cX8_type 74 = .ok (.aload_n 0, 1) := by decide +kernel
theorem dX8_type_75 : decode cX8_type 75 = .ok (.getfield 38, 3) := by decide +kernel
theorem dX8_type_78 : decode cX8_type 78 = .ok (.ireturn, 1) := by decide +kernel
theorem dX8_clear_0 : decode cX8_clear 0 = .ok (.aload_n 0, 1) := by decide +kernel
theorem dX8_clear_1 : decode cX8_clear 1 = .ok (.getfield 38, 3) := by decide +kernel
theorem dX8_clear_4 : decode cX8_clear 4 = .ok (.istore_n 1, 1) := by decide +kernel
theorem dX8_clear_5 : decode cX8_clear 5 = .ok (.aload_n 0, 1) := by decide +kernel
theorem dX8_clear_6 : decode cX8_clear 6 = .ok (.iconst 0, 1) := by decide +kernel
theorem dX8_clear_7 : decode cX8_clear 7 = .ok (.putfield 38, 3) := by decide +kernel
theorem dX8_clear_10 : decode cX8_clear 10 = .ok (.iload_n 1, 1) := by decide +kernel
theorem dX8_clear_11 : decode cX8_clear 11 = .ok (.ireturn, 1) := by decide +kernel
set_option maxRecDepth 20000 in
theorem ggX8_rider_X5_faultOf : GoodIn wsX8_rider wsX5_faultOf := goodIn_r _ [9, 10, 11, 12, 13, 14, 15, 16, 17, 18, 19, 20, 21, 22, 23, 24, 25, 26, 27, 28, 29, 30, 31, 32, 7, 33, 34, 35, 36, 37, 38, 39, 40, 41, 42, 43, 44, 45, 46, 47, 48, 49, 50, 51, 52, 53, 54, 55, 56, 57, 58, 59, 60, 61, 62, 63, 64, 65, 66, 67, 68, 69, 70, 71, 72, 73, 74, 75, 76, 77, 78, 79, 80, 81, 82, 83, 84, 85, 86, 87, 88, 89, 90, 91, 92, 93, 94, 95, 96, 97, 98, 99, 100, 101, 102, 103, 104, 105, 106, 136, 137, 138, 139, 140, 141, 142, 143] (by decide +kernel) (by decide +kernel)
set_option maxRecDepth 20000 in
theorem gX8_rider_X5_faultOf_n195 : GoodIn wsX8_rider (wsX5_faultOf) := ggX8_rider_X5_faultOf
set_option maxRecDepth 20000 in
theorem ggX8_rider_X7_copyFrom : GoodIn wsX8_rider wsX7_copyFrom := goodIn_r _ [109, 24, 25, 26, 27, 28, 29, 142, 143] (by decide +kernel) (by decide +kernel)
set_option maxRecDepth 20000 in
theorem gX8_rider_X7_copyFrom_n199 : GoodIn wsX8_rider (wsX7_copyFrom) := ggX8_rider_X7_copyFrom
set_option maxRecDepth 20000 in
theorem ggX8_rider_X7_itemCount : GoodIn wsX8_rider wsX7_itemCount := goodIn_r _ [112, 29, 113, 114, 115, 116, 117, 118, 119, 142, 143] (by decide +kernel) (by decide +kernel)
set_option maxRecDepth 20000 in
theorem gX8_rider_X7_itemCount_n202 : GoodIn wsX8_rider (wsX7_itemCount) := ggX8_rider_X7_itemCount
theorem dX8_rider_0 : decode cX8_rider 0 = .ok (.aload_n 0, 1) := by decide +kernel
theorem dX8_rider_1 : decode cX8_rider 1 = .ok (.getfield 45, 3) := by decide +kernel
theorem dX8_rider_4 : decode cX8_rider 4 = .ok (.aload_n 0, 1) := by decide +kernel
theorem dX8_rider_5 : decode cX8_rider 5 = .ok (.getfield 34, 3) := by decide +kernel
theorem dX8_rider_8 : decode cX8_rider 8 = .ok (.aload_n 0, 1) := by decide +kernel
theorem dX8_rider_9 : decode cX8_rider 9 = .ok (.getfield 38, 3) := by decide +kernel
theorem dX8_rider_12 : decode cX8_rider 12 = .ok (.aload_n 0, 1) := by decide +kernel
theorem dX8_rider_13 : decode cX8_rider 13 = .ok (.getfield 52, 3) := by decide +kernel
theorem dX8_rider_16 : decode cX8_rider 16 = .ok (.invokevirtual 195, 3) := by decide +kernel
theorem dX8_rider_19 : decode cX8_rider 19 = .ok (.istore_n 1, 1) := by decide +kernel
theorem dX8_rider_20 : decode cX8_rider 20 = .ok (.iload_n 1, 1) := by decide +kernel
theorem dX8_rider_21 : decode cX8_rider 21 = .ok (.ifCond .lt 8, 3) := by decide +kernel
theorem dX8_rider_24 : decode cX8_rider 24 = .ok (.bipush (-10), 2) := by decide +kernel
theorem dX8_rider_26 : decode cX8_rider 26 = .ok (.iload_n 1, 1) := by decide +kernel
theorem dX8_rider_27 : decode cX8_rider 27 = .ok (.isub, 1) := by decide +kernel
theorem dX8_rider_28 : decode cX8_rider 28 = .ok (.ireturn, 1) := by decide +kernel
theorem dX8_rider_29 : decode cX8_rider 29 = .ok (.aload_n 0, 1) := by decide +kernel
theorem dX8_rider_30 : decode cX8_rider 30 = .ok (.getfield 56, 3) := by decide +kernel
theorem dX8_rider_33 : decode cX8_rider 33 = .ok (.aload_n 0, 1) := by decide +kernel
theorem dX8_rider_34 : decode cX8_rider 34 = .ok (.getfield 52, 3) := by decide +kernel
theorem dX8_rider_37 : decode cX8_rider 37 = .ok (.invokevirtual 199, 3) := by decide +kernel
theorem dX8_rider_40 : decode cX8_rider 40 = .ok (.aload_n 0, 1) := by decide +kernel
theorem dX8_rider_41 : decode cX8_rider 41 = .ok (.iconst 0, 1) := by decide +kernel
theorem dX8_rider_42 : decode cX8_rider 42 = .ok (.putfield 38, 3) := by decide +kernel
theorem dX8_rider_45 : decode cX8_rider 45 = .ok (.aload_n 0, 1) := by decide +kernel
theorem dX8_rider_46 : decode cX8_rider 46 = .ok (.getfield 56, 3) := by decide +kernel
theorem dX8_rider_49 : decode cX8_rider 49 = .ok (.invokevirtual 202, 3) := by decide +kernel
theorem dX8_rider_52 : decode cX8_rider 52 = .ok (.ireturn, 1) := by decide +kernel
set_option maxRecDepth 20000 in
theorem ggX8_ride_X8_isBicycle : GoodIn wsX8_ride wsX8_isBicycle := goodIn_r _ [5, 6, 7, 4, 8] (by decide +kernel) (by decide +kernel)
set_option maxRecDepth 20000 in
theorem gX8_ride_X8_isBicycle : GoodIn wsX8_ride (va_wsS RX8 93 yX8_isBicycle wsX8_isBicycle) := goodIn_app (goodIn_of _ (by decide +kernel)) ggX8_ride_X8_isBicycle
set_option maxRecDepth 20000 in
theorem ggX8_ride_X8_isSpeed : GoodIn wsX8_ride wsX8_isSpeed := goodIn_r _ [11, 6, 7, 4, 8] (by decide +kernel) (by decide +kernel)
set_option maxRecDepth 20000 in
theorem gX8_ride_X8_isSpeed : GoodIn wsX8_ride (va_wsS RX8 119 yX8_isSpeed wsX8_isSpeed) := goodIn_app (goodIn_of _ (by decide +kernel)) ggX8_ride_X8_isSpeed
set_option maxRecDepth 20000 in
theorem ggX8_ride_X8_isFlag : GoodIn wsX8_ride wsX8_isFlag := goodIn_r _ [14, 6, 7, 4, 8] (by decide +kernel) (by decide +kernel)
set_option maxRecDepth 20000 in
theorem gX8_ride_X8_isFlag : GoodIn wsX8_ride (va_wsS RX8 166 yX8_isFlag wsX8_isFlag) := goodIn_app (goodIn_of _ (by decide +kernel)) ggX8_ride_X8_isFlag
set_option maxRecDepth 20000 in
theorem ggX8_ride_X6_begin : GoodIn wsX8_ride wsX6_begin := goodIn_r _ [18, 19, 20, 21, 22, 23, 24, 25, 26, 27, 28, 45, 46, 47, 48, 49, 50, 51, 52, 53, 54, 55, 56, 57] (by decide +kernel) (by decide +kernel)
set_option maxRecDepth 20000 in
theorem gX8_ride_X6_begin_n208 : GoodIn wsX8_ride (wsX6_begin) := ggX8_ride_X6_begin
