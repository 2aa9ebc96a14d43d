theorem dX8_ride_0 : decode cX8_ride 0 = .ok (.iload_n 1, 1) := by decide +kernel
theorem dX8_ride_1 : decode cX8_ride 1 = .ok (.invokestatic 93, 3) := by decide +kernel
theorem dX8_ride_4 : decode cX8_ride 4 = .ok (.ifCond .eq 17, 3) := by decide +kernel
theorem dX8_ride_7 : decode cX8_ride 7 = .ok (.iload_n 2, 1) := by decide +kernel
theorem dX8_ride_8 : decode cX8_ride 8 = .ok (.invokestatic 119, 3) := by decide +kernel
theorem dX8_ride_11 : decode cX8_ride 11 = .ok (.ifCond .eq 10, 3) := by decide +kernel
theorem dX8_ride_14 : decode cX8_ride 14 = .ok (.iload_n 3, 1) := by decide +kernel
theorem dX8_ride_15 : decode cX8_ride 15 = .ok (.invokestatic 166, 3) := by decide +kernel
theorem dX8_ride_18 : decode cX8_ride 18 = .ok (.ifCond .ne 5, 3) := by decide +kernel
theorem dX8_ride_21 : decode cX8_ride 21 = .ok (.iconst (-1), 1) := by decide +kernel
theorem dX8_ride_22 : decode cX8_ride 22 = .ok (.ireturn, 1) := by decide +kernel
theorem dX8_ride_23 : decode cX8_ride 23 = .ok (.aload_n 0, 1) := by decide +kernel
theorem dX8_ride_24 : decode cX8_ride 24 = .ok (.getfield 62, 3) := by decide +kernel
theorem dX8_ride_27 : decode cX8_ride 27 = .ok (.getfield 205, 3) := by decide +kernel
theorem dX8_ride_30 : decode cX8_ride 30 = .ok (.istore 4, 2) := by decide +kernel
theorem dX8_ride_32 : decode cX8_ride 32 = .ok (.aload_n 0, 1) := by decide +kernel
theorem dX8_ride_33 : decode cX8_ride 33 = .ok (.getfield 62, 3) := by decide +kernel
theorem dX8_ride_36 : decode cX8_ride 36 = .ok (.iload_n 1, 1) := by decide +kernel
theorem dX8_ride_37 : decode cX8_ride 37 = .ok (.iload_n 2, 1) := by decide +kernel
theorem dX8_ride_38 : decode cX8_ride 38 = .ok (.iload_n 3, 1) := by decide +kernel
theorem dX8_ride_39 : decode cX8_ride 39 = .ok (.iconst 1, 1) := by decide +kernel
theorem dX8_ride_40 : decode cX8_ride 40 = .ok (.if_icmp .ne 7, 3) := by decide +kernel
theorem dX8_ride_43 : decode cX8_ride 43 = .ok (.iconst 1, 1) := by decide +kernel
theorem dX8_ride_44 : decode cX8_ride 44 = .ok (.goto 4, 3) := by decide +kernel
theorem dX8_ride_47 : decode cX8_ride 47 = .ok (.iconst 0, 1) := by decide +kernel
theorem dX8_ride_48 : decode cX8_ride 48 = .ok (.invokevirtual 208, 3) := by decide +kernel
theorem dX8_ride_51 : decode cX8_ride 51 = .ok (.iload 4, 2) := by decide +kernel
theorem dX8_ride_53 : decode cX8_ride 53 = .ok (.ireturn, 1) := by decide +kernel
set_option maxRecDepth 20000 in
theorem ggX8_push_X8_within : GoodIn wsX8_push wsX8_within := goodIn_r _ [6] (by decide +kernel) (by decide +kernel)
set_option maxRecDepth 20000 in
theorem gX8_push_X8_within : GoodIn wsX8_push (va_wsS RX8 106 yX8_within wsX8_within) := goodIn_app (goodIn_of _ (by decide +kernel)) ggX8_push_X8_within
set_option maxRecDepth 20000 in
theorem ggX8_push_X6_takePush : GoodIn wsX8_push wsX6_takePush := goodIn_r _ [10, 11, 12, 13, 14, 8, 15, 16, 33, 34, 35, 36, 37, 38, 39, 40, 41, 42, 43, 44, 45] (by decide +kernel) (by decide +kernel)
set_option maxRecDepth 20000 in
theorem gX8_push_X6_takePush_n216 : GoodIn wsX8_push (wsX6_takePush) := ggX8_push_X6_takePush
theorem dX8_push_0 : decode cX8_push 0 = .ok (.iload_n 1, 1) := by decide +kernel
theorem dX8_push_1 : decode cX8_push 1 = .ok (.sipush (-1000), 3) := by decide +kernel
theorem dX8_push_4 : decode cX8_push 4 = .ok (.sipush 1000, 3) := by decide +kernel
theorem dX8_push_7 : decode cX8_push 7 = .ok (.invokestatic 106, 3) := by decide +kernel
theorem dX8_push_10 : decode cX8_push 10 = .ok (.ifCond .eq 13, 3) := by decide +kernel
theorem dX8_push_13 : decode cX8_push 13 = .ok (.aload_n 0, 1) := by decide +kernel
theorem dX8_push_14 : decode cX8_push 14 = .ok (.getfield 62, 3) := by decide +kernel
theorem dX8_push_17 : decode cX8_push 17 = .ok (.getfield 212, 3) := by decide +kernel
theorem dX8_push_20 : decode cX8_push 20 = .ok (.ifCond .eq 6, 3) := by decide +kernel
theorem dX8_push_23 : decode cX8_push 23 = .ok (.ldc 110, 2) := by decide +kernel
theorem dX8_push_25 : decode cX8_push 25 = .ok (.ireturn, 1) := by decide +kernel
theorem dX8_push_26 : decode cX8_push 26 = .ok (.aload_n 0, 1) := by decide +kernel
theorem dX8_push_27 : decode cX8_push 27 = .ok (.getfield 62, 3) := by decide +kernel
theorem dX8_push_30 : decode cX8_push 30 = .ok (.iload_n 1, 1) := by decide +kernel
theorem dX8_push_31 : decode cX8_push 31 = .ok (.invokevirtual 216, 3) := by decide +kernel
theorem dX8_push_34 : decode cX8_push 34 = .ok (.aload_n 0, 1) := by decide +kernel
theorem dX8_push_35 : decode cX8_push 35 = .ok (.getfield 62, 3) := by decide +kernel
theorem dX8_push_38 : decode cX8_push 38 = .ok (.getfield 220, 3) := by decide +kernel
theorem dX8_push_41 : decode cX8_push 41 = .ok (.ireturn, 1) := by decide +kernel
set_option maxRecDepth 20000 in
theorem ggX8_ticks_X8_within : GoodIn wsX8_ticks wsX8_within := goodIn_r _ [7] (by decide +kernel) (by decide +kernel)
set_option maxRecDepth 20000 in
theorem gX8_ticks_X8_within : GoodIn wsX8_ticks (va_wsS RX8 106 yX8_within wsX8_within) := goodIn_app (goodIn_of _ (by decide +kernel)) ggX8_ticks_X8_within
set_option maxRecDepth 20000 in
theorem ggX8_ticks_X6_goOn : GoodIn wsX8_ticks wsX6_goOn := goodIn_r _ [11, 12, 13, 14, 15, 9, 16, 17, 18, 19, 20, 21, 22, 23, 24, 25, 26, 27, 28, 29, 30, 31, 32, 33, 34, 35, 36, 37, 38, 39, 40, 41, 42, 43, 44, 45, 6, 46, 47, 48, 49, 50, 51, 52, 53, 54, 71, 72, 73, 74, 75, 76, 77, 78, 79, 80, 81, 82, 83, 84, 85, 86] (by decide +kernel) (by decide +kernel)
set_option maxRecDepth 20000 in
theorem gX8_ticks_X6_goOn_n226 : GoodIn wsX8_ticks (wsX6_goOn) := ggX8_ticks_X6_goOn
theorem dX8_ticks_0 : decode cX8_ticks 0 = .ok (.iload_n 1, 1) := by decide +kernel
theorem dX8_ticks_1 : decode cX8_ticks 1 = .ok (.iconst 1, 1) := by decide +kernel
theorem dX8_ticks_2 : decode cX8_ticks 2 = .ok (.sipush 200, 3) := by decide +kernel
theorem dX8_ticks_5 : decode cX8_ticks 5 = .ok (.invokestatic 106, 3) := by decide +kernel
theorem dX8_ticks_8 : decode cX8_ticks 8 = .ok (.ifCond .ne 5, 3) := by decide +kernel
theorem dX8_ticks_11 : decode cX8_ticks 11 = .ok (.iconst (-1), 1) := by decide +kernel
theorem dX8_ticks_12 : decode cX8_ticks 12 = .ok (.ireturn, 1) := by decide +kernel
theorem dX8_ticks_13 : decode cX8_ticks 13 = .ok (.aload_n 0, 1) := by decide +kernel
theorem dX8_ticks_14 : decode cX8_ticks 14 = .ok (.getfield 62, 3) := by decide +kernel
theorem dX8_ticks_17 : decode cX8_ticks 17 = .ok (.getfield 212, 3) := by decide +kernel
theorem dX8_ticks_20 : decode cX8_ticks 20 = .ok (.ifCond .eq 6, 3) := by decide +kernel
theorem dX8_ticks_23 : decode cX8_ticks 23 = .ok (.bipush (-2), 2) := by decide +kernel
theorem dX8_ticks_25 : decode cX8_ticks 25 = .ok (.ireturn, 1) := by decide +kernel
theorem dX8_ticks_26 : decode cX8_ticks 26 = .ok (.aload_n 0, 1) := by decide +kernel
theorem dX8_ticks_27 : decode cX8_ticks 27 = .ok (.getfield 62, 3) := by decide +kernel
theorem dX8_ticks_30 : decode cX8_ticks 30 = .ok (.iload_n 1, 1) := by decide +kernel
theorem dX8_ticks_31 : decode cX8_ticks 31 = .ok (.aload_n 0, 1) := by decide +kernel
theorem dX8_ticks_32 : decode cX8_ticks 32 = .ok (.getfield 11, 3) := by decide +kernel
theorem dX8_ticks_35 : decode cX8_ticks 35 = .ok (.aload_n 0, 1) := by decide +kernel
theorem dX8_ticks_36 : decode cX8_ticks 36 = .ok (.getfield 62, 3) := by decide +kernel
theorem dX8_ticks_39 : decode cX8_ticks 39 = .ok (.getfield 223, 3) := by decide +kernel
theorem dX8_ticks_42 : decode cX8_ticks 42 = .ok (.aaload, 1) := by decide +kernel
theorem dX8_ticks_43 : decode cX8_ticks 43 = .ok (.aload_n 0, 1) := by decide +kernel
theorem dX8_ticks_44 : decode cX8_ticks 44 = .ok (.getfield 56, 3) := by decide +kernel
theorem dX8_ticks_47 : decode cX8_ticks 47 = .ok (.invokevirtual 226, 3) := by decide +kernel
theorem dX8_ticks_50 : decode cX8_ticks 50 = .ok (.ireturn, 1) := by decide +kernel
theorem dX8_at_0 : decode cX8_at 0 = .ok (.iload_n 1, 1) := by decide +kernel
theorem dX8_at_1 : decode cX8_at 1 = .ok (.tableswitch 107 0 6 #[43, 51, 59, 67, 75, 83, 99], 43) := by decide +kernel
theorem dX8_at_44 : decode cX8_at 44 = .ok (.aload_n 0, 1) := by decide +kernel
theorem dX8_at_45 : decode cX8_at 45 = .ok (.getfield 62, 3) := by decide +kernel
theorem dX8_at_48 : decode cX8_at 48 = .ok (.getfield 220, 3) := by decide +kernel
theorem dX8_at_51 : decode cX8_at 51 = .ok (.ireturn, 1) := by decide +kernel
theorem dX8_at_52 : decode cX8_at 52 = .ok (.aload_n 0, 1) := by decide +kernel
theorem dX8_at_53 : decode cX8_at 53 = .ok (.getfield 62, 3) := by decide +kernel
theorem dX8_at_56 : decode cX8_at 56 = .ok (.getfield 230, 3) := by decide +kernel
theorem dX8_at_59 : decode cX8_at 59 = .ok (.ireturn, 1) := by decide +kernel
theorem dX8_at_60 : decode cX8_at 60 = .ok (.aload_n 0, 1) := by decide +kernel
theorem dX8_at_61 : decode cX8_at 61 = .ok (.getfield 62, 3) := by decide +kernel
theorem dX8_at_64 : decode cX8_at 64 = .ok (.getfield 233, 3) := by decide +kernel
theorem dX8_at_67 : decode cX8_at 67 = .ok (.ireturn, 1) := by decide +kernel
theorem dX8_at_68 : decode cX8_at 68 = .ok (.aload_n 0, 1) := by decide +kernel
theorem dX8_at_69 : decode cX8_at 69 = .ok (.getfield 62, 3) := by decide +kernel
theorem dX8_at_72 : decode cX8_at 72 = .ok (.getfield 236, 3) := by decide +kernel
theorem dX8_at_75 : decode cX8_at 75 = .ok (.ireturn, 1) := by decide +kernel
theorem dX8_at_76 : decode cX8_at 76 = .ok (.aload_n 0, 1) := by decide +kernel
theorem dX8_at_77 : decode cX8_at 77 = .ok (.getfield 62, 3) := by decide +kernel
theorem dX8_at_80 : decode cX8_at 80 = .ok (.getfield 205, 3) := by decide +kernel
theorem dX8_at_83 : decode cX8_at 83 = .ok (.ireturn, 1) := by decide +kernel
theorem dX8_at_84 : decode cX8_at 84 = .ok (.aload_n 0, 1) := by decide +kernel
theorem dX8_at_85 : decode cX8_at 85 = .ok (.getfield 62, 3) := by decide +kernel
theorem dX8_at_88 : decode cX8_at 88 = .ok (.getfield 212, 3) := by decide +kernel
theorem dX8_at_91 : decode cX8_at 91 = .ok (.ifCond .eq 7, 3) := by decide +kernel
theorem dX8_at_94 : decode cX8_at 94 = .ok (.iconst 1, 1) := by decide +kernel
theorem dX8_at_95 : decode cX8_at 95 = .ok (.goto 4, 3) := by decide +kernel
theorem dX8_at_98 : decode cX8_at 98 = .ok (.iconst 0, 1) := by decide +kernel
theorem dX8_at_99 : decode cX8_at 99 = .ok (.ireturn, 1) := by decide +kernel
theorem dX8_at_100 : decode cX8_at 100 = .ok (.aload_n 0, 1) := by decide +kernel
theorem dX8_at_101 : decode cX8_at 101 = .ok (.getfield 62, 3) := by decide +kernel
theorem dX8_at_104 : decode cX8_at 104 = .ok (.getfield 239, 3) := by decide +kernel
theorem dX8_at_107 : decode cX8_at 107 = .ok (.ireturn, 1) := by decide +kernel
theorem dX8_at_108 : decode cX8_at 108 = .ok (.ldc 110, 2) := by decide +kernel
theorem dX8_at_110 : decode cX8_at 110 = .ok (.ireturn, 1) := by decide +kernel
set_option maxRecDepth 20000 in
theorem ggX8_bears_X8_within : GoodIn wsX8_bears wsX8_within := goodIn_r _ [8] (by decide +kernel) (by decide +kernel)
set_option maxRecDepth 20000 in
theorem gX8_bears_X8_within : GoodIn wsX8_bears (va_wsS RX8 106 yX8_within wsX8_within) := goodIn_app (goodIn_of _ (by decide +kernel)) ggX8_bears_X8_within
set_option maxRecDepth 20000 in
theorem ggX8_bears_X6_begin : GoodIn wsX8_bears wsX6_begin := goodIn_r _ [12, 13, 14, 15, 16, 17, 18, 19, 20, 21, 22, 79, 80, 81, 82, 83, 84, 85, 86, 87, 88, 89, 90, 91] (by decide +kernel) (by decide +kernel)
set_option maxRecDepth 20000 in
theorem gX8_bears_X6_begin_n208 : GoodIn wsX8_bears (wsX6_begin) := ggX8_bears_X6_begin
set_option maxRecDepth 20000 in
theorem ggX8_bears_X6_takePush : GoodIn wsX8_bears wsX6_takePush := goodIn_r _ [25, 16, 26, 27, 28, 10, 29, 22, 79, 80, 81, 82, 83, 84, 85, 86, 87, 88, 89, 90, 91] (by decide +kernel) (by decide +kernel)
set_option maxRecDepth 20000 in
theorem gX8_bears_X6_takePush_n216 : GoodIn wsX8_bears (wsX6_takePush) := ggX8_bears_X6_takePush
set_option maxRecDepth 20000 in
theorem ggX8_bears_X6_goOn : GoodIn wsX8_bears wsX6_goOn := goodIn_r _ [32, 22, 33, 34, 35, 10, 36, 20, 37, 38, 39, 40, 14, 16, 17, 19, 18, 41, 21, 42, 43, 44, 45, 46, 47, 48, 49, 50, 51, 52, 53, 54, 55, 56, 15, 57, 7, 58, 59, 60, 61, 62, 26, 27, 28, 29, 79, 80, 81, 82, 83, 84, 85, 86, 87, 88, 89, 90, 91, 92, 93, 94] (by decide +kernel) (by decide +kernel)
set_option maxRecDepth 20000 in
theorem gX8_bears_X6_goOn_n226 : GoodIn wsX8_bears (wsX6_goOn) := ggX8_bears_X6_goOn
theorem dX8_bears_0 : decode cX8_bears 0 = .ok (.iload_n 1, 1) := by decide +kernel
theorem dX8_bears_1 : decode cX8_bears 1 = .ok (.iconst 1, 1) := by decide +kernel
theorem dX8_bears_2 : decode cX8_bears 2 = .ok (.sipush 200, 3) := by decide +kernel
theorem dX8_bears_5 : decode cX8_bears 5 = .ok (.invokestatic 106, 3) := by decide +kernel
theorem dX8_bears_8 : decode cX8_bears 8 = .ok (.ifCond .ne 5, 3) := by decide +kernel
theorem dX8_bears_11 : decode cX8_bears 11 = .ok (.iconst (-1), 1) := by decide +kernel
theorem dX8_bears_12 : decode cX8_bears 12 = .ok (.ireturn, 1) := by decide +kernel
theorem dX8_bears_13 : decode cX8_bears 13 = .ok (.iconst 1, 1) := by decide +kernel
theorem dX8_bears_14 : decode cX8_bears 14 = .ok (.istore_n 2, 1) := by decide +kernel
theorem dX8_bears_15 : decode cX8_bears 15 = .ok (.iload_n 2, 1) := by decide +kernel
theorem dX8_bears_16 : decode cX8_bears 16 = .ok (.sipush 1000, 3) := by decide +kernel
theorem dX8_bears_19 : decode cX8_bears 19 = .ok (.if_icmp .gt 82, 3) := by decide +kernel
theorem dX8_bears_22 : decode cX8_bears 22 = .ok (.aload_n 0, 1) := by decide +kernel
theorem dX8_bears_23 : decode cX8_bears 23 = .ok (.getfield 66, 3) := by decide +kernel
theorem dX8_bears_26 : decode cX8_bears 26 = .ok (.aload_n 0, 1) := by decide +kernel
theorem dX8_bears_27 : decode cX8_bears 27 = .ok (.getfield 62, 3) := by decide +kernel
theorem dX8_bears_30 : decode cX8_bears 30 = .ok (.getfield 223, 3) := by decide +kernel
theorem dX8_bears_33 : decode cX8_bears 33 = .ok (.aload_n 0, 1) := by decide +kernel
theorem dX8_bears_34 : decode cX8_bears 34 = .ok (.getfield 62, 3) := by decide +kernel
theorem dX8_bears_37 : decode cX8_bears 37 = .ok (.getfield 242, 3) := by decide +kernel
theorem dX8_bears_40 : decode cX8_bears 40 = .ok (.aload_n 0, 1) := by decide +kernel
theorem dX8_bears_41 : decode cX8_bears 41 = .ok (.getfield 62, 3) := by decide +kernel
theorem dX8_bears_44 : decode cX8_bears 44 = .ok (.getfield 245, 3) := by decide +kernel
theorem dX8_bears_47 : decode cX8_bears 47 = .ok (.invokevirtual 208, 3) := by decide +kernel
theorem dX8_bears_50 : decode cX8_bears 50 = .ok (.aload_n 0, 1) := by decide +kernel
theorem dX8_bears_51 : decode cX8_bears 51 = .ok (.getfield 66, 3) := by decide +kernel
theorem dX8_bears_54 : decode cX8_bears 54 = .ok (.iload_n 2, 1) := by decide +kernel
theorem dX8_bears_55 : decode cX8_bears 55 = .ok (.invokevirtual 216, 3) := by decide +kernel
theorem dX8_bears_58 : decode cX8_bears 58 = .ok (.aload_n 0, 1) := by decide +kernel
theorem dX8_bears_59 : decode cX8_bears 59 = .ok (.getfield 66, 3) := by decide +kernel
theorem dX8_bears_62 : decode cX8_bears 62 = .ok (.iload_n 1, 1) := by decide +kernel
theorem dX8_bears_63 : decode cX8_bears 63 = .ok (.aload_n 0, 1) := by decide +kernel
theorem dX8_bears_64 : decode cX8_bears 64 = .ok (.getfield 11, 3) := by decide +kernel
theorem dX8_bears_67 : decode cX8_bears 67 = .ok (.aload_n 0, 1) := by decide +kernel
theorem dX8_bears_68 : decode cX8_bears 68 = .ok (.getfield 62, 3) := by decide +kernel
theorem dX8_bears_71 : decode cX8_bears 71 = .ok (.getfield 223, 3) := by decide +kernel
theorem dX8_bears_74 : decode cX8_bears 74 = .ok (.aaload, 1) := by decide +kernel
theorem dX8_bears_75 : decode cX8_bears 75 = .ok (.aload_n 0, 1) := by decide +kernel
theorem dX8_bears_76 : decode cX8_bears 76 = .ok (.getfield 56, 3) := by decide +kernel
theorem dX8_bears_79 : decode cX8_bears 79 = .ok (.invokevirtual 226, 3) := by decide +kernel
theorem dX8_bears_82 : decode cX8_bears 82 = .ok (.pop, 1) := by decide +kernel
theorem dX8_bears_83 : decode cX8_bears 83 = .ok (.aload_n 0, 1) := by decide +kernel
theorem dX8_bears_84 : decode cX8_bears 84 = .ok (.getfield 66, 3) := by decide +kernel
theorem dX8_bears_87 : decode cX8_bears 87 = .ok (.getfield 212, 3) := by decide +kernel
theorem dX8_bears_90 : decode cX8_bears 90 = .ok (.ifCond .eq 5, 3) := by decide +kernel
theorem dX8_bears_93 : decode cX8_bears 93 = .ok (.iload_n 2, 1) := by decide +kernel
theorem dX8_bears_94 : decode cX8_bears 94 = .ok (.ireturn, 1) := by decide +kernel
theorem dX8_bears_95 : decode cX8_bears 95 = .ok (.iinc 2 1, 3) := by decide +kernel
theorem dX8_bears_98 : decode cX8_bears 98 = .ok (.goto (-83), 3) := by decide +kernel
theorem dX8_bears_101 : decode cX8_bears 101 = .ok (.bipush (-9), 2) := by decide +kernel
theorem dX8_bears_103 : decode cX8_bears 103 = .ok (.ireturn, 1) := by decide +kernel
set_option maxRecDepth 20000 in
theorem ggX8_weeks_X8_isBar : GoodIn wsX8_weeks wsX8_isBar := goodIn_r _ [7, 8, 9, 6, 10] (by decide +kernel) (by decide +kernel)
set_option maxRecDepth 20000 in
theorem gX8_weeks_X8_isBar : GoodIn wsX8_weeks (va_wsS RX8 248 yX8_isBar wsX8_isBar) := goodIn_app (goodIn_of _ (by decide +kernel)) ggX8_weeks_X8_isBar
set_option maxRecDepth 20000 in
theorem ggX8_weeks_X8_within : GoodIn wsX8_weeks wsX8_within := goodIn_r _ [10] (by decide +kernel) (by decide +kernel)
set_option maxRecDepth 20000 in
theorem gX8_weeks_X8_within : GoodIn wsX8_weeks (va_wsS RX8 106 yX8_within wsX8_within) := goodIn_app (goodIn_of _ (by decide +kernel)) ggX8_weeks_X8_within
set_option maxRecDepth 20000 in
theorem ggX8_weeks_X3_practise : GoodIn wsX8_weeks wsX3_practise := goodIn_r _ [14, 15, 16, 17, 18, 19, 20, 21, 22, 23, 5, 6, 7, 8, 9, 10, 43, 44] (by decide +kernel) (by decide +kernel)
set_option maxRecDepth 20000 in
theorem gX8_weeks_X3_practise_n251 : GoodIn wsX8_weeks (wsX3_practise) := ggX8_weeks_X3_practise
set_option maxRecDepth 20000 in
theorem ggX8_weeks_X3_valueOf : GoodIn wsX8_weeks wsX3_valueOf := goodIn_r _ [26, 15, 5, 6, 7, 8, 9, 10, 43, 44] (by decide +kernel) (by decide +kernel)
set_option maxRecDepth 20000 in
theorem gX8_weeks_X3_valueOf_n255 : GoodIn wsX8_weeks (wsX3_valueOf) := ggX8_weeks_X3_valueOf
theorem dX8_weeks_0 : decode cX8_weeks 0 = .ok (.iload_n 1, 1) := by decide +kernel
theorem dX8_weeks_1 : decode cX8_weeks 1 = .ok (.invokestatic 248, 3) := by decide +kernel
theorem dX8_weeks_4 : decode cX8_weeks 4 = .ok (.ifCond .eq 13, 3) := by decide +kernel
theorem dX8_weeks_7 : decode cX8_weeks 7 = .ok (.iload_n 2, 1) := by decide +kernel
theorem dX8_weeks_8 : decode cX8_weeks 8 = .ok (.iconst 1, 1) := by decide +kernel
theorem dX8_weeks_9 : decode cX8_weeks 9 = .ok (.bipush 50, 2) := by decide +kernel
theorem dX8_weeks_11 : decode cX8_weeks 11 = .ok (.invokestatic 106, 3) := by decide +kernel
theorem dX8_weeks_14 : decode cX8_weeks 14 = .ok (.ifCond .ne 5, 3) := by decide +kernel
theorem dX8_weeks_17 : decode cX8_weeks 17 = .ok (.iconst (-1), 1) := by decide +kernel
theorem dX8_weeks_18 : decode cX8_weeks 18 = .ok (.ireturn, 1) := by decide +kernel
theorem dX8_weeks_19 : decode cX8_weeks 19 = .ok (.iconst 0, 1) := by decide +kernel
theorem dX8_weeks_20 : decode cX8_weeks 20 = .ok (.istore_n 3, 1) := by decide +kernel
theorem dX8_weeks_21 : decode cX8_weeks 21 = .ok (.iload_n 3, 1) := by decide +kernel
theorem dX8_weeks_22 : decode cX8_weeks 22 = .ok (.iload_n 2, 1) := by decide +kernel
theorem dX8_weeks_23 : decode cX8_weeks 23 = .ok (.if_icmp .ge 25, 3) := by decide +kernel
theorem dX8_weeks_26 : decode cX8_weeks 26 = .ok (.aload_n 0, 1) := by decide +kernel
theorem dX8_weeks_27 : decode cX8_weeks 27 = .ok (.getfield 72, 3) := by decide +kernel
theorem dX8_weeks_30 : decode cX8_weeks 30 = .ok (.iload_n 1, 1) := by decide +kernel
theorem dX8_weeks_31 : decode cX8_weeks 31 = .ok (.aload_n 0, 1) := by decide +kernel
theorem dX8_weeks_32 : decode cX8_weeks 32 = .ok (.getfield 76, 3) := by decide +kernel
theorem dX8_weeks_35 : decode cX8_weeks 35 = .ok (.aload_n 0, 1) := by decide +kernel
theorem dX8_weeks_36 : decode cX8_weeks 36 = .ok (.getfield 79, 3) := by decide +kernel
theorem dX8_weeks_39 : decode cX8_weeks 39 = .ok (.invokevirtual 251, 3) := by decide +kernel
theorem dX8_weeks_42 : decode cX8_weeks 42 = .ok (.iinc 3 1, 3) := by decide +kernel
theorem dX8_weeks_45 : decode cX8_weeks 45 = .ok (.goto (-24), 3) := by decide +kernel
theorem dX8_weeks_48 : decode cX8_weeks 48 = .ok (.aload_n 0, 1) := by decide +kernel
theorem dX8_weeks_49 : decode cX8_weeks 49 = .ok (.getfield 72, 3) := by decide +kernel
theorem dX8_weeks_52 : decode cX8_weeks 52 = .ok (.iload_n 1, 1) := by decide +kernel
theorem dX8_weeks_53 : decode cX8_weeks 53 = .ok (.invokevirtual 255, 3) := by decide +kernel
theorem dX8_weeks_56 : decode cX8_weeks 56 = .ok (.ireturn, 1) := by decide +kernel
set_option maxRecDepth 20000 in
theorem ggX8_tune_X8_isFlag : GoodIn wsX8_tune wsX8_isFlag := goodIn_r _ [6, 7, 8, 5, 9] (by decide +kernel) (by decide +kernel)
set_option maxRecDepth 20000 in
theorem gX8_tune_X8_isFlag : GoodIn wsX8_tune (va_wsS RX8 166 yX8_isFlag wsX8_isFlag) := goodIn_app (goodIn_of _ (by decide +kernel)) ggX8_tune_X8_isFlag
set_option maxRecDepth 20000 in
theorem ggX8_tune_X8_within : GoodIn wsX8_tune wsX8_within := goodIn_r _ [9] (by decide +kernel) (by decide +kernel)
set_option maxRecDepth 20000 in
theorem gX8_tune_X8_within : GoodIn wsX8_tune (va_wsS RX8 106 yX8_within wsX8_within) := goodIn_app (goodIn_of _ (by decide +kernel)) ggX8_tune_X8_within
theorem dX8_tune_0 : decode cX8_tune 0 = .ok (.iload_n 1, 1) := by decide +kernel
theorem dX8_tune_1 : decode cX8_tune 1 = .ok (.invokestatic 166, 3) := by decide +kernel
theorem dX8_tune_4 : decode cX8_tune 4 = .ok (.ifCond .eq 21, 3) := by decide +kernel
theorem dX8_tune_7 : decode cX8_tune 7 = .ok (.iload_n 2, 1) := by decide +kernel
theorem dX8_tune_8 : decode cX8_tune 8 = .ok (.iload_n 1, 1) := by decide +kernel
theorem dX8_tune_9 : decode cX8_tune 9 = .ok (.ifCond .ne 7, 3) := by decide +kernel
theorem dX8_tune_12 : decode cX8_tune 12 = .ok (.iconst 1, 1) := by decide +kernel
theorem dX8_tune_13 : decode cX8_tune 13 = .ok (.goto 4, 3) := by decide +kernel
theorem dX8_tune_16 : decode cX8_tune 16 = .ok (.iconst 0, 1) := by decide +kernel
theorem dX8_tune_17 : decode cX8_tune 17 = .ok (.bipush 50, 2) := by decide +kernel
theorem dX8_tune_19 : decode cX8_tune 19 = .ok (.invokestatic 106, 3) := by decide +kernel
theorem dX8_tune_22 : decode cX8_tune 22 = .ok (.ifCond .ne 5, 3) := by decide +kernel
theorem dX8_tune_25 : decode cX8_tune 25 = .ok (.iconst (-1), 1) := by decide +kernel
theorem dX8_tune_26 : decode cX8_tune 26 = .ok (.ireturn, 1) := by decide +kernel
theorem dX8_tune_27 : decode cX8_tune 27 = .ok (.iload_n 1, 1) := by decide +kernel
theorem dX8_tune_28 : decode cX8_tune 28 = .ok (.ifCond .ne 16, 3) := by decide +kernel
theorem dX8_tune_31 : decode cX8_tune 31 = .ok (.aload_n 0, 1) := by decide +kernel
theorem dX8_tune_32 : decode cX8_tune 32 = .ok (.getfield 76, 3) := by decide +kernel
theorem dX8_tune_35 : decode cX8_tune 35 = .ok (.istore_n 3, 1) := by decide +kernel
theorem dX8_tune_36 : decode cX8_tune 36 = .ok (.aload_n 0, 1) := by decide +kernel
theorem dX8_tune_37 : decode cX8_tune 37 = .ok (.iload_n 2, 1) := by decide +kernel
theorem dX8_tune_38 : decode cX8_tune 38 = .ok (.putfield 76, 3) := by decide +kernel
theorem dX8_tune_41 : decode cX8_tune 41 = .ok (.goto 13, 3) := by decide +kernel
theorem dX8_tune_44 : decode cX8_tune 44 = .ok (.aload_n 0, 1) := by decide +kernel
theorem dX8_tune_45 : decode cX8_tune 45 = .ok (.getfield 79, 3) := by decide +kernel
theorem dX8_tune_48 : decode cX8_tune 48 = .ok (.istore_n 3, 1) := by decide +kernel
theorem dX8_tune_49 : decode cX8_tune 49 = .ok (.aload_n 0, 1) := by decide +kernel
theorem dX8_tune_50 : decode cX8_tune 50 = .ok (.iload_n 2, 1) := by decide +kernel
theorem dX8_tune_51 : decode cX8_tune 51 = .ok (.putfield 79, 3) := by decide +kernel
theorem dX8_tune_54 : decode cX8_tune 54 = .ok (.iload_n 3, 1) := by decide +kernel
theorem dX8_tune_55 : decode cX8_tune 55 = .ok (.ireturn, 1) := by decide +kernel
set_option maxRecDepth 20000 in
theorem ggX8_habit_X8_isBar : GoodIn wsX8_habit wsX8_isBar := goodIn_r _ [6, 7, 8, 5, 9] (by decide +kernel) (by decide +kernel)
set_option maxRecDepth 20000 in
theorem gX8_habit_X8_isBar : GoodIn wsX8_habit (va_wsS RX8 248 yX8_isBar wsX8_isBar) := goodIn_app (goodIn_of _ (by decide +kernel)) ggX8_habit_X8_isBar
set_option maxRecDepth 20000 in
theorem ggX8_habit_X8_isFlag : GoodIn wsX8_habit wsX8_isFlag := goodIn_r _ [12, 7, 8, 5, 9] (by decide +kernel) (by decide +kernel)
set_option maxRecDepth 20000 in
theorem gX8_habit_X8_isFlag : GoodIn wsX8_habit (va_wsS RX8 166 yX8_isFlag wsX8_isFlag) := goodIn_app (goodIn_of _ (by decide +kernel)) ggX8_habit_X8_isFlag
set_option maxRecDepth 20000 in
theorem ggX8_habit_X3_valueOf : GoodIn wsX8_habit wsX3_valueOf := goodIn_r _ [16, 17, 4, 5, 6, 7, 8, 9, 45, 46] (by decide +kernel) (by decide +kernel)
set_option maxRecDepth 20000 in
theorem gX8_habit_X3_valueOf_n255 : GoodIn wsX8_habit (wsX3_valueOf) := ggX8_habit_X3_valueOf
set_option maxRecDepth 20000 in
theorem ggX8_habit_X3_weeksTillWhole : GoodIn wsX8_habit wsX3_weeksTillWhole := goodIn_r _ [20, 17, 21, 22, 23, 24, 25, 26, 27, 28, 4, 5, 6, 7, 8, 9, 45, 46] (by decide +kernel) (by decide +kernel)
set_option maxRecDepth 20000 in
theorem gX8_habit_X3_weeksTillWhole_n256 : GoodIn wsX8_habit (wsX3_weeksTillWhole) := ggX8_habit_X3_weeksTillWhole
theorem dX8_habit_0 : decode cX8_habit 0 = .ok (.iload_n 1, 1) := by decide +kernel
theorem dX8_habit_1 : decode cX8_habit 1 = .ok (.invokestatic 248, 3) := by decide +kernel
theorem dX8_habit_4 : decode cX8_habit 4 = .ok (.ifCond .eq 10, 3) := by decide +kernel
theorem dX8_habit_7 : decode cX8_habit 7 = .ok (.iload_n 2, 1) := by decide +kernel
theorem dX8_habit_8 : decode cX8_habit 8 = .ok (.invokestatic 166, 3) := by decide +kernel
theorem dX8_habit_11 : decode cX8_habit 11 = .ok (.ifCond .ne 5, 3) := by decide +kernel
theorem dX8_habit_14 : decode cX8_habit 14 = .ok (.iconst (-1), 1) := by decide +kernel
theorem dX8_habit_15 : decode cX8_habit 15 = .ok (.ireturn, 1) := by decide +kernel
theorem dX8_habit_16 : decode cX8_habit 16 = .ok (.iload_n 2, 1) := by decide +kernel
theorem dX8_habit_17 : decode cX8_habit 17 = .ok (.ifCond .ne 14, 3) := by decide +kernel
theorem dX8_habit_20 : decode cX8_habit 20 = .ok (.aload_n 0, 1) := by decide +kernel
theorem dX8_habit_21 : decode cX8_habit 21 = .ok (.getfield 72, 3) := by decide +kernel
theorem dX8_habit_24 : decode cX8_habit 24 = .ok (.iload_n 1, 1) := by decide +kernel
theorem dX8_habit_25 : decode cX8_habit 25 = .ok (.invokevirtual 255, 3) := by decide +kernel
theorem dX8_habit_28 : decode cX8_habit 28 = .ok (.goto 15, 3) := by decide +kernel
theorem dX8_habit_31 : decode cX8_habit 31 = .ok (.aload_n 0, 1) := by decide +kernel
theorem dX8_habit_32 : decode cX8_habit 32 = .ok (.getfield 72, 3) := by decide +kernel
theorem dX8_habit_35 : decode cX8_habit 35 = .ok (.iload_n 1, 1) := by decide +kernel
theorem dX8_habit_36 : decode cX8_habit 36 = .ok (.aload_n 0, 1) := by decide +kernel
theorem dX8_habit_37 : decode cX8_habit 37 = .ok (.getfield 76, 3) := by decide +kernel
theorem dX8_habit_40 : decode cX8_habit 40 = .ok (.invokevirtual 256, 3) := by decide +kernel
theorem dX8_habit_43 : decode cX8_habit 43 = .ok (.ireturn, 1) := by decide +kernel
set_option maxRecDepth 20000 in
theorem ggX8_score_X8_within : GoodIn wsX8_score wsX8_within := goodIn_r _ [6] (by decide +kernel) (by decide +kernel)
set_option maxRecDepth 20000 in
theorem gX8_score_X8_within : GoodIn wsX8_score (va_wsS RX8 106 yX8_within wsX8_within) := goodIn_app (goodIn_of _ (by decide +kernel)) ggX8_score_X8_within
set_option maxRecDepth 20000 in
theorem ggX8_score_X8_isBicycle : GoodIn wsX8_score wsX8_isBicycle := goodIn_r _ [9, 3, 4, 5, 6] (by decide +kernel) (by decide +kernel)
set_option maxRecDepth 20000 in
theorem gX8_score_X8_isBicycle : GoodIn wsX8_score (va_wsS RX8 93 yX8_isBicycle wsX8_isBicycle) := goodIn_app (goodIn_of _ (by decide +kernel)) ggX8_score_X8_isBicycle
set_option maxRecDepth 20000 in
theorem ggX8_score_X8_askKind : GoodIn wsX8_score wsX8_askKind := goodIn_r _ [13, 14, 15, 16, 17, 3, 4, 5, 6, 10, 11, 12, 18, 19, 20, 21, 22, 23, 24, 25, 26, 27, 28, 29, 30, 31, 32, 33, 34, 35, 36, 37, 38, 39, 40, 41, 42, 43, 44, 45, 46, 47, 48, 49, 50, 51, 52, 53, 54, 55, 56, 57, 58, 59, 60, 61, 62, 63, 64, 65, 66, 67, 68, 69, 70, 71, 72, 73, 74, 75, 76, 77, 78, 79, 80, 81, 82, 83, 84, 85, 86, 87, 88, 89, 90, 91, 92, 93, 94, 95, 96, 97, 98, 99, 100, 101, 102] (by decide +kernel) (by decide +kernel)
set_option maxRecDepth 20000 in
theorem gX8_score_X8_askKind : GoodIn wsX8_score (wsV RX8 260 RX8 yX8_askKind wsX8_askKind) := goodIn_app (goodIn_of _ (by decide +kernel)) ggX8_score_X8_askKind
theorem dX8_score_0 : decode cX8_score 0 = .ok (.iload_n 1, 1) := by decide +kernel
theorem dX8_score_1 : decode cX8_score 1 = .ok (.iconst 0, 1) := by decide +kernel
theorem dX8_score_2 : decode cX8_score 2 = .ok (.bipush 6, 2) := by decide +kernel
theorem dX8_score_4 : decode cX8_score 4 = .ok (.invokestatic 106, 3) := by decide +kernel
theorem dX8_score_7 : decode cX8_score 7 = .ok (.ifCond .eq 10, 3) := by decide +kernel
theorem dX8_score_10 : decode cX8_score 10 = .ok (.iload_n 2, 1) := by decide +kernel
theorem dX8_score_11 : decode cX8_score 11 = .ok (.invokestatic 93, 3) := by decide +kernel
theorem dX8_score_14 : decode cX8_score 14 = .ok (.ifCond .ne 6, 3) := by decide +kernel
theorem dX8_score_17 : decode cX8_score 17 = .ok (.ldc 110, 2) := by decide +kernel
theorem dX8_score_19 : decode cX8_score 19 = .ok (.ireturn, 1) := by decide +kernel
theorem dX8_score_20 : decode cX8_score 20 = .ok (.aload_n 0, 1) := by decide +kernel
theorem dX8_score_21 : decode cX8_score 21 = .ok (.iload_n 1, 1) := by decide +kernel
theorem dX8_score_22 : decode cX8_score 22 = .ok (.aload_n 0, 1) := by decide +kernel
theorem dX8_score_23 : decode cX8_score 23 = .ok (.getfield 11, 3) := by decide +kernel
theorem dX8_score_26 : decode cX8_score 26 = .ok (.iload_n 2, 1) := by decide +kernel
theorem dX8_score_27 : decode cX8_score 27 = .ok (.aaload, 1) := by decide +kernel
theorem dX8_score_28 : decode cX8_score 28 = .ok (.iconst 1, 1) := by decide +kernel
theorem dX8_score_29 : decode cX8_score 29 = .ok (.invokevirtual 260, 3) := by decide +kernel
theorem dX8_score_32 : decode cX8_score 32 = .ok (.ireturn, 1) := by decide +kernel
set_option maxRecDepth 20000 in
theorem ggX8_keep_X8_isImage : GoodIn wsX8_keep wsX8_isImage := goodIn_r _ [7, 8, 9, 6, 10] (by decide +kernel) (by decide +kernel)
set_option maxRecDepth 20000 in
theorem gX8_keep_X8_isImage : GoodIn wsX8_keep (va_wsS RX8 264 yX8_isImage wsX8_isImage) := goodIn_app (goodIn_of _ (by decide +kernel)) ggX8_keep_X8_isImage
set_option maxRecDepth 20000 in
theorem ggX8_keep_X4_take : GoodIn wsX8_keep wsX4_take := goodIn_r _ [14, 15, 16, 17, 18, 19, 20, 21, 22, 23, 24, 25, 26, 27, 28, 29, 30, 31, 32, 33, 34, 35, 36, 37, 38, 39, 40, 41, 42, 43, 44, 74, 75, 76, 61, 62, 63, 64, 65, 66, 67, 68, 69, 70, 71, 72, 73, 77, 78] (by decide +kernel) (by decide +kernel)
set_option maxRecDepth 20000 in
theorem gX8_keep_X4_take_n267 : GoodIn wsX8_keep (wsX4_take) := ggX8_keep_X4_take
theorem dX8_keep_0 : decode cX8_keep 0 = .ok (.iload_n 1, 1) := by decide +kernel
theorem dX8_keep_1 : decode cX8_keep 1 = .ok (.invokestatic 264, 3) := by decide +kernel
theorem dX8_keep_4 : decode cX8_keep 4 = .ok (.ifCond .ne 5, 3) := by decide +kernel
theorem dX8_keep_7 : decode cX8_keep 7 = .ok (.iconst (-1), 1) := by decide +kernel
theorem dX8_keep_8 : decode cX8_keep 8 = .ok (.ireturn, 1) := by decide +kernel
theorem dX8_keep_9 : decode cX8_keep 9 = .ok (.aload_n 0, 1) := by decide +kernel
theorem dX8_keep_10 : decode cX8_keep 10 = .ok (.getfield 84, 3) := by decide +kernel
theorem dX8_keep_13 : decode cX8_keep 13 = .ok (.iload_n 1, 1) := by decide +kernel
theorem dX8_keep_14 : decode cX8_keep 14 = .ok (.aaload, 1) := by decide +kernel
theorem dX8_keep_15 : decode cX8_keep 15 = .ok (.aload_n 0, 1) := by decide +kernel
theorem dX8_keep_16 : decode cX8_keep 16 = .ok (.getfield 62, 3) := by decide +kernel
theorem dX8_keep_19 : decode cX8_keep 19 = .ok (.aload_n 0, 1) := by decide +kernel
theorem dX8_keep_20 : decode cX8_keep 20 = .ok (.getfield 72, 3) := by decide +kernel
theorem dX8_keep_23 : decode cX8_keep 23 = .ok (.invokevirtual 267, 3) := by decide +kernel
theorem dX8_keep_26 : decode cX8_keep 26 = .ok (.aload_n 0, 1) := by decide +kernel
theorem dX8_keep_27 : decode cX8_keep 27 = .ok (.getfield 62, 3) := by decide +kernel
theorem dX8_keep_30 : decode cX8_keep 30 = .ok (.getfield 205, 3) := by decide +kernel
theorem dX8_keep_33 : decode cX8_keep 33 = .ok (.ireturn, 1) := by decide +kernel
set_option maxRecDepth 20000 in
theorem ggX8_back_X8_isImage : GoodIn wsX8_back wsX8_isImage := goodIn_r _ [7, 8, 9, 6, 10] (by decide +kernel) (by decide +kernel)
set_option maxRecDepth 20000 in
theorem gX8_back_X8_isImage : GoodIn wsX8_back (va_wsS RX8 264 yX8_isImage wsX8_isImage) := goodIn_app (goodIn_of _ (by decide +kernel)) ggX8_back_X8_isImage
set_option maxRecDepth 20000 in
theorem ggX8_back_X4_giveBack : GoodIn wsX8_back wsX4_giveBack := goodIn_r _ [14, 15, 16, 17, 18, 19, 20, 21, 22, 23, 24, 25, 26, 27, 28, 29, 30, 31, 32, 33, 34, 35, 36, 37, 38, 39, 40, 41, 42, 43, 60, 61, 62, 63, 64, 65, 66, 67, 68, 69, 70, 71, 72, 73, 74, 75, 76, 77] (by decide +kernel) (by decide +kernel)
set_option maxRecDepth 20000 in
theorem gX8_back_X4_giveBack_n274 : GoodIn wsX8_back (wsX4_giveBack) := ggX8_back_X4_giveBack
theorem dX8_back_0 : decode cX8_back 0 = .ok (.iload_n 1, 1) := by decide +kernel
theorem dX8_back_1 : decode cX8_back 1 = .ok (.invokestatic 264, 3) := by decide +kernel
theorem dX8_back_4 : decode cX8_back 4 = .ok (.ifCond .ne 5, 3) := by decide +kernel
theorem dX8_back_7 : decode cX8_back 7 = .ok (.iconst (-1), 1) := by decide +kernel
theorem dX8_back_8 : decode cX8_back 8 = .ok (.ireturn, 1) := by decide +kernel
theorem dX8_back_9 : decode cX8_back 9 = .ok (.aload_n 0, 1) := by decide +kernel
theorem dX8_back_10 : decode cX8_back 10 = .ok (.getfield 84, 3) := by decide +kernel
theorem dX8_back_13 : decode cX8_back 13 = .ok (.iload_n 1, 1) := by decide +kernel
theorem dX8_back_14 : decode cX8_back 14 = .ok (.aaload, 1) := by decide +kernel
theorem dX8_back_15 : decode cX8_back 15 = .ok (.getfield 271, 3) := by decide +kernel
theorem dX8_back_18 : decode cX8_back 18 = .ok (.ifCond .ne 6, 3) := by decide +kernel
theorem dX8_back_21 : decode cX8_back 21 = .ok (.bipush (-2), 2) := by decide +kernel
theorem dX8_back_23 : decode cX8_back 23 = .ok (.ireturn, 1) := by decide +kernel
theorem dX8_back_24 : decode cX8_back 24 = .ok (.aload_n 0, 1) := by decide +kernel
theorem dX8_back_25 : decode cX8_back 25 = .ok (.getfield 84, 3) := by decide +kernel
theorem dX8_back_28 : decode cX8_back 28 = .ok (.iload_n 1, 1) := by decide +kernel
theorem dX8_back_29 : decode cX8_back 29 = .ok (.aaload, 1) := by decide +kernel
theorem dX8_back_30 : decode cX8_back 30 = .ok (.aload_n 0, 1) := by decide +kernel
theorem dX8_back_31 : decode cX8_back 31 = .ok (.getfield 62, 3) := by decide +kernel
theorem dX8_back_34 : decode cX8_back 34 = .ok (.aload_n 0, 1) := by decide +kernel
theorem dX8_back_35 : decode cX8_back 35 = .ok (.getfield 72, 3) := by decide +kernel
theorem dX8_back_38 : decode cX8_back 38 = .ok (.invokevirtual 274, 3) := by decide +kernel
theorem dX8_back_41 : decode cX8_back 41 = .ok (.aload_n 0, 1) := by decide +kernel
theorem dX8_back_42 : decode cX8_back 42 = .ok (.getfield 62, 3) := by decide +kernel
theorem dX8_back_45 : decode cX8_back 45 = .ok (.getfield 205, 3) := by decide +kernel
theorem dX8_back_48 : decode cX8_back 48 = .ok (.ireturn, 1) := by decide +kernel
set_option maxRecDepth 20000 in
theorem ggX8_count_X7_itemCount : GoodIn wsX8_count wsX7_itemCount := goodIn_r _ [6, 7, 8, 9, 10, 11, 12, 13, 14, 75, 76] (by decide +kernel) (by decide +kernel)
set_option maxRecDepth 20000 in
theorem gX8_count_X7_itemCount_n202 : GoodIn wsX8_count (wsX7_itemCount) := ggX8_count_X7_itemCount
set_option maxRecDepth 20000 in
theorem ggX8_count_X8_speedsOfAll : GoodIn wsX8_count wsX8_speedsOfAll := goodIn_r _ [19, 20, 21, 22, 23, 24, 25, 26, 27, 28, 29, 30, 31, 32, 33, 34, 35, 36, 37, 38, 39, 40, 41, 42, 43, 44, 45, 46, 47, 48, 49, 50, 51, 52, 53, 54, 55, 56, 57, 58, 59, 60, 61, 62, 63, 64, 65, 66, 67, 68, 69, 70, 71, 72, 73, 74, 77] (by decide +kernel) (by decide +kernel)
set_option maxRecDepth 20000 in
theorem gX8_count_X8_speedsOfAll : GoodIn wsX8_count (wsV RX8 277 RX8 yX8_speedsOfAll wsX8_speedsOfAll) := goodIn_app (goodIn_of _ (by decide +kernel)) ggX8_count_X8_speedsOfAll
theorem dX8_count_0 : decode cX8_count 0 = .ok (.iload_n 1, 1) := by decide +kernel
theorem dX8_count_1 : decode cX8_count 1 = .ok (.tableswitch 45 0 2 #[27, 35, 40], 27) := by decide +kernel
theorem dX8_count_28 : decode cX8_count 28 = .ok (.aload_n 0, 1) := by decide +kernel
theorem dX8_count_29 : decode cX8_count 29 = .ok (.getfield 56, 3) := by decide +kernel
theorem dX8_count_32 : decode cX8_count 32 = .ok (.invokevirtual 202, 3) := by decide +kernel
theorem dX8_count_35 : decode cX8_count 35 = .ok (.ireturn, 1) := by decide +kernel
theorem dX8_count_36 : decode cX8_count 36 = .ok (.aload_n 0, 1) := by decide +kernel
theorem dX8_count_37 : decode cX8_count 37 = .ok (.getfield 38, 3) := by decide +kernel
theorem dX8_count_40 : decode cX8_count 40 = .ok (.ireturn, 1) := by decide +kernel
theorem dX8_count_41 : decode cX8_count 41 = .ok (.aload_n 0, 1) := by decide +kernel
theorem dX8_count_42 : decode cX8_count 42 = .ok (.invokevirtual 277, 3) := by decide +kernel
theorem dX8_count_45 : decode cX8_count 45 = .ok (.ireturn, 1) := by decide +kernel
theorem dX8_count_46 : decode cX8_count 46 = .ok (.iconst (-1), 1) := by decide +kernel
theorem dX8_count_47 : decode cX8_count 47 = .ok (.ireturn, 1) := by decide +kernel
theorem dX8_trace_0 : decode cX8_trace 0 = .ok (.aload_n 0, 1) := by decide +kernel
theorem dX8_trace_1 : decode cX8_trace 1 = .ok (.getfield 88, 3) := by decide +kernel
theorem dX8_trace_4 : decode cX8_trace 4 = .ok (.lreturn, 1) := by decide +kernel
set_option maxRecDepth 20000 in
theorem ggX8_askKind_X8_within : GoodIn wsX8_askKind wsX8_within := goodIn_r _ [8] (by decide +kernel) (by decide +kernel)
set_option maxRecDepth 20000 in
theorem gX8_askKind_X8_within : GoodIn wsX8_askKind (va_wsS RX8 106 yX8_within wsX8_within) := goodIn_app (goodIn_of _ (by decide +kernel)) ggX8_askKind_X8_within
set_option maxRecDepth 20000 in
theorem ggX8_askKind_X8_askKind : GoodIn wsX8_askKind wsX8_askKind := goodIn_r _ [0, 1, 2, 3, 4, 5, 6, 7, 8, 9, 10, 11, 12, 13, 14, 15, 16, 17, 18, 19, 20, 21, 22, 23, 24, 25, 26, 27, 28, 29, 30, 31, 32, 33, 34, 35, 36, 37, 38, 39, 40, 41, 42, 43, 44, 45, 46, 47, 48, 49, 50, 51, 52, 53, 54, 55, 56, 57, 58, 59, 60, 61, 62, 63, 64, 65, 66, 67, 68, 69, 70, 71, 72, 73, 74, 75, 76, 77, 78, 79, 80, 81, 82, 83, 84, 85, 86, 87, 88, 89, 90, 91, 92, 93, 94, 95, 96] (by decide +kernel) (by decide +kernel)
set_option maxRecDepth 20000 in
theorem gX8_askKind_X8_askKind : GoodIn wsX8_askKind (wsV RX8 260 RX8 yX8_askKind wsX8_askKind) := goodIn_app (goodIn_of _ (by decide +kernel)) ggX8_askKind_X8_askKind
set_option maxRecDepth 20000 in
theorem ggX8_askKind_X0_valueOf : GoodIn wsX8_askKind wsX0_valueOf := goodIn_r _ [15, 16, 17, 7, 18, 5, 6, 8, 94] (by decide +kernel) (by decide +kernel)
set_option maxRecDepth 20000 in
theorem gX8_askKind_X0_valueOf_n111 : GoodIn wsX8_askKind (wsX0_valueOf) := ggX8_askKind_X0_valueOf
set_option maxRecDepth 20000 in
theorem ggX8_askKind_X8_speedsWith : GoodIn wsX8_askKind wsX8_speedsWith := goodIn_r _ [22, 23, 24, 13, 25, 26, 16, 27, 28, 29, 30, 31, 32, 33, 17, 7, 18, 5, 6, 8, 34, 35, 36, 37, 38, 39, 40, 41, 42, 43, 44, 45, 46, 47, 48, 49, 50, 51, 52, 53, 54, 55, 56, 57, 58, 78, 79, 80, 81, 82, 83, 84, 85, 86, 87, 88, 89, 90, 91, 92, 93, 94] (by decide +kernel) (by decide +kernel)
set_option maxRecDepth 20000 in
theorem gX8_askKind_X8_speedsWith : GoodIn wsX8_askKind (wsV RX8 155 RX8 yX8_speedsWith wsX8_speedsWith) := goodIn_app (goodIn_of _ (by decide +kernel)) ggX8_askKind_X8_speedsWith
set_option maxRecDepth 20000 in
theorem ggX8_askKind_J13_bitCount_95d88 : GoodIn wsX8_askKind wsJ13_bitCount_95d88 := goodIn_r _ [62, 63, 64, 65] (by decide +kernel) (by decide +kernel)
set_option maxRecDepth 20000 in
theorem gX8_askKind_J13_bitCount_95d88 : GoodIn wsX8_askKind (va_wsS RX8 169 yJ13_bitCount_95d88 wsJ13_bitCount_95d88) := goodIn_app (goodIn_of _ (by decide +kernel)) ggX8_askKind_J13_bitCount_95d88
set_option maxRecDepth 20000 in
theorem ggX8_askKind_X3_valueOf : GoodIn wsX8_askKind wsX3_valueOf := goodIn_r _ [69, 70, 71, 7, 72, 5, 6, 8, 95, 96] (by decide +kernel) (by decide +kernel)
set_option maxRecDepth 20000 in
theorem gX8_askKind_X3_valueOf_n255 : GoodIn wsX8_askKind (wsX3_valueOf) := ggX8_askKind_X3_valueOf
set_option maxRecDepth 20000 in
theorem ggX8_askKind_X0_speedCount : GoodIn wsX8_askKind wsX0_speedCount := goodIn_r _ [75, 76, 34, 35, 13, 36, 16, 37, 38, 39, 40, 41, 42, 43, 44, 45, 46, 47, 48, 49, 50, 51, 52, 53, 54, 55, 56, 57, 58, 77, 60, 61, 62, 63, 64, 65, 94] (by decide +kernel) (by decide +kernel)
set_option maxRecDepth 20000 in
theorem gX8_askKind_X0_speedCount_n173 : GoodIn wsX8_askKind (wsX0_speedCount) := ggX8_askKind_X0_speedCount
theorem dX8_askKind_0 : decode cX8_askKind 0 = .ok (.iload_n 1, 1) := by decide +kernel
theorem dX8_askKind_1 : decode cX8_askKind 1 = .ok (.iconst 0, 1) := by decide +kernel
theorem dX8_askKind_2 : decode cX8_askKind 2 = .ok (.bipush 6, 2) := by decide +kernel
theorem dX8_askKind_4 : decode cX8_askKind 4 = .ok (.invokestatic 106, 3) := by decide +kernel
theorem dX8_askKind_7 : decode cX8_askKind 7 = .ok (.ifCond .eq 8, 3) := by decide +kernel
theorem dX8_askKind_10 : decode cX8_askKind 10 = .ok (.iload_n 3, 1) := by decide +kernel
theorem dX8_askKind_11 : decode cX8_askKind 11 = .ok (.iconst 3, 1) := by decide +kernel
theorem dX8_askKind_12 : decode cX8_askKind 12 = .ok (.if_icmp .le 5, 3) := by decide +kernel
theorem dX8_askKind_15 : decode cX8_askKind 15 = .ok (.iconst 0, 1) := by decide +kernel
theorem dX8_askKind_16 : decode cX8_askKind 16 = .ok (.ireturn, 1) := by decide +kernel
theorem dX8_askKind_17 : decode cX8_askKind 17 = .ok (.aload_n 0, 1) := by decide +kernel
theorem dX8_askKind_18 : decode cX8_askKind 18 = .ok (.dup, 1) := by decide +kernel
theorem dX8_askKind_19 : decode cX8_askKind 19 = .ok (.getfield 88, 3) := by decide +kernel
theorem dX8_askKind_22 : decode cX8_askKind 22 = .ok (.getstatic 280, 3) := by decide +kernel
theorem dX8_askKind_25 : decode cX8_askKind 25 = .ok (.iload_n 1, 1) := by decide +kernel
theorem dX8_askKind_26 : decode cX8_askKind 26 = .ok (.iaload, 1) := by decide +kernel
theorem dX8_askKind_27 : decode cX8_askKind 27 = .ok (.i2l, 1) := by decide +kernel
theorem dX8_askKind_28 : decode cX8_askKind 28 = .ok (.ladd, 1) := by decide +kernel
theorem dX8_askKind_29 : decode cX8_askKind 29 = .ok (.putfield 88, 3) := by decide +kernel
theorem dX8_askKind_32 : decode cX8_askKind 32 = .ok (.aload_n 0, 1) := by decide +kernel
theorem dX8_askKind_33 : decode cX8_askKind 33 = .ok (.getstatic 283, 3) := by decide +kernel
theorem dX8_askKind_36 : decode cX8_askKind 36 = .ok (.iload_n 1, 1) := by decide +kernel
theorem dX8_askKind_37 : decode cX8_askKind 37 = .ok (.iaload, 1) := by decide +kernel
theorem dX8_askKind_38 : decode cX8_askKind 38 = .ok (.aload_n 2, 1) := by decide +kernel
theorem dX8_askKind_39 : decode cX8_askKind 39 = .ok (.iload_n 3, 1) := by decide +kernel
theorem dX8_askKind_40 : decode cX8_askKind 40 = .ok (.iconst 1, 1) := by decide +kernel
theorem dX8_askKind_41 : decode cX8_askKind 41 = .ok (.iadd, 1) := by decide +kernel
theorem dX8_askKind_42 : decode cX8_askKind 42 = .ok (.invokevirtual 260, 3) := by decide +kernel
theorem dX8_askKind_45 : decode cX8_askKind 45 = .ok (.istore 4, 2) := by decide +kernel
theorem dX8_askKind_47 : decode cX8_askKind 47 = .ok (.iload_n 1, 1) := by decide +kernel
theorem dX8_askKind_48 : decode cX8_askKind 48 = .ok (.tableswitch 112 1 6 #[40, 49, 63, 77, 88, 103], 40) := by decide +kernel
theorem dX8_askKind_88 : decode cX8_askKind 88 = .ok (.iload 4, 2) := by decide +kernel
theorem dX8_askKind_90 : decode cX8_askKind 90 = .ok (.aload_n 2, 1) := by decide +kernel
theorem dX8_askKind_91 : decode cX8_askKind 91 = .ok (.iconst 1, 1) := by decide +kernel
theorem dX8_askKind_92 : decode cX8_askKind 92 = .ok (.invokevirtual 111, 3) := by decide +kernel
theorem dX8_askKind_95 : decode cX8_askKind 95 = .ok (.iadd, 1) := by decide +kernel
theorem dX8_askKind_96 : decode cX8_askKind 96 = .ok (.ireturn, 1) := by decide +kernel
theorem dX8_askKind_97 : decode cX8_askKind 97 = .ok (.iload 4, 2) := by decide +kernel
theorem dX8_askKind_99 : decode cX8_askKind 99 = .ok (.aload_n 0, 1) := by decide +kernel
theorem dX8_askKind_100 : decode cX8_askKind 100 = .ok (.aload_n 2, 1) := by decide +kernel
theorem dX8_askKind_101 : decode cX8_askKind 101 = .ok (.iconst 0, 1) := by decide +kernel
theorem dX8_askKind_102 : decode cX8_askKind 102 = .ok (.iconst 0, 1) := by decide +kernel
theorem dX8_askKind_103 : decode cX8_askKind 103 = .ok (.invokevirtual 155, 3) := by decide +kernel
theorem dX8_askKind_106 : decode cX8_askKind 106 = .ok (.invokestatic 169, 3) := by decide +kernel
theorem dX8_askKind_109 : decode cX8_askKind 109 = .ok (.isub, 1) := by decide +kernel
theorem dX8_askKind_110 : decode cX8_askKind 110 = .ok (.ireturn, 1) := by decide +kernel
theorem dX8_askKind_111 : decode cX8_askKind 111 = .ok (.iload 4, 2) := by decide +kernel
theorem dX8_askKind_113 : decode cX8_askKind 113 = .ok (.aload_n 0, 1) := by decide +kernel
theorem dX8_askKind_114 : decode cX8_askKind 114 = .ok (.aload_n 2, 1) := by decide +kernel
theorem dX8_askKind_115 : decode cX8_askKind 115 = .ok (.iconst 1, 1) := by decide +kernel
theorem dX8_askKind_116 : decode cX8_askKind 116 = .ok (.iconst 0, 1) := by decide +kernel
theorem dX8_askKind_117 : decode cX8_askKind 117 = .ok (.invokevirtual 155, 3) := by decide +kernel
theorem dX8_askKind_120 : decode cX8_askKind 120 = .ok (.invokestatic 169, 3) := by decide +kernel
theorem dX8_askKind_123 : decode cX8_askKind 123 = .ok (.isub, 1) := by decide +kernel
theorem dX8_askKind_124 : decode cX8_askKind 124 = .ok (.ireturn, 1) := by decide +kernel
theorem dX8_askKind_125 : decode cX8_askKind 125 = .ok (.iconst 2, 1) := by decide +kernel
theorem dX8_askKind_126 : decode cX8_askKind 126 = .ok (.iload 4, 2) := by decide +kernel
theorem dX8_askKind_128 : decode cX8_askKind 128 = .ok (.imul, 1) := by decide +kernel
theorem dX8_askKind_129 : decode cX8_askKind 129 = .ok (.aload_n 2, 1) := by decide +kernel
theorem dX8_askKind_130 : decode cX8_askKind 130 = .ok (.iconst 0, 1) := by decide +kernel
theorem dX8_askKind_131 : decode cX8_askKind 131 = .ok (.invokevirtual 111, 3) := by decide +kernel
theorem dX8_askKind_134 : decode cX8_askKind 134 = .ok (.iadd, 1) := by decide +kernel
theorem dX8_askKind_135 : decode cX8_askKind 135 = .ok (.ireturn, 1) := by decide +kernel
theorem dX8_askKind_136 : decode cX8_askKind 136 = .ok (.iload 4, 2) := by decide +kernel
theorem dX8_askKind_138 : decode cX8_askKind 138 = .ok (.aload_n 0, 1) := by decide +kernel
theorem dX8_askKind_139 : decode cX8_askKind 139 = .ok (.getfield 72, 3) := by decide +kernel
theorem dX8_askKind_142 : decode cX8_askKind 142 = .ok (.iconst 1, 1) := by decide +kernel
theorem dX8_askKind_143 : decode cX8_askKind 143 = .ok (.invokevirtual 255, 3) := by decide +kernel
theorem dX8_askKind_146 : decode cX8_askKind 146 = .ok (.bipush 10, 2) := by decide +kernel
theorem dX8_askKind_148 : decode cX8_askKind 148 = .ok (.idiv, 1) := by decide +kernel
theorem dX8_askKind_149 : decode cX8_askKind 149 = .ok (.isub, 1) := by decide +kernel
theorem dX8_askKind_150 : decode cX8_askKind 150 = .ok (.ireturn, 1) := by decide +kernel
theorem dX8_askKind_151 : decode cX8_askKind 151 = .ok (.iload 4, 2) := by decide +kernel
theorem dX8_askKind_153 : decode cX8_askKind 153 = .ok (.aload_n 2, 1) := by decide +kernel
theorem dX8_askKind_154 : decode cX8_askKind 154 = .ok (.iconst 3, 1) := by decide +kernel
theorem dX8_askKind_155 : decode cX8_askKind 155 = .ok (.invokevirtual 111, 3) := by decide +kernel
theorem dX8_askKind_158 : decode cX8_askKind 158 = .ok (.imul, 1) := by decide +kernel
theorem dX8_askKind_159 : decode cX8_askKind 159 = .ok (.ireturn, 1) := by decide +kernel
theorem dX8_askKind_160 : decode cX8_askKind 160 = .ok (.aload_n 2, 1) := by decide +kernel
theorem dX8_askKind_161 : decode cX8_askKind 161 = .ok (.invokevirtual 173, 3) := by decide +kernel
theorem dX8_askKind_164 : decode cX8_askKind 164 = .ok (.ireturn, 1) := by decide +kernel
set_option maxRecDepth 20000 in
theorem ggX8_speedsWith_X0_copyFrom : GoodIn wsX8_speedsWith wsX0_copyFrom := goodIn_r _ [5, 6, 7, 8, 9, 10, 61] (by decide +kernel) (by decide +kernel)
set_option maxRecDepth 20000 in
theorem gX8_speedsWith_X0_copyFrom_n177 : GoodIn wsX8_speedsWith (wsX0_copyFrom) := ggX8_speedsWith_X0_copyFrom
set_option maxRecDepth 20000 in
theorem ggX8_speedsWith_X0_put : GoodIn wsX8_speedsWith wsX0_put := goodIn_r _ [13, 6, 14, 15, 16, 17, 18, 19, 61] (by decide +kernel) (by decide +kernel)
set_option maxRecDepth 20000 in
theorem gX8_speedsWith_X0_put_n115 : GoodIn wsX8_speedsWith (wsX0_put) := ggX8_speedsWith_X0_put
set_option maxRecDepth 20000 in
theorem ggX8_speedsWith_X0_speeds : GoodIn wsX8_speedsWith wsX0_speeds := goodIn_r _ [22, 6, 23, 24, 25, 3, 26, 27, 28, 29, 30, 31, 32, 33, 34, 35, 36, 37, 38, 39, 40, 41, 42, 43, 44, 61] (by decide +kernel) (by decide +kernel)
set_option maxRecDepth 20000 in
theorem gX8_speedsWith_X0_speeds_n147 : GoodIn wsX8_speedsWith (wsX0_speeds) := ggX8_speedsWith_X0_speeds
theorem dX8_speedsWith_0 : decode cX8_speedsWith 0 = .ok (.aload_n 0, 1) := by decide +kernel
theorem dX8_speedsWith_1 : decode cX8_speedsWith 1 = .ok (.getfield 16, 3) := by decide +kernel
theorem dX8_speedsWith_4 : decode cX8_speedsWith 4 = .ok (.aload_n 1, 1) := by decide +kernel
theorem dX8_speedsWith_5 : decode cX8_speedsWith 5 = .ok (.invokevirtual 177, 3) := by decide +kernel
theorem dX8_speedsWith_8 : decode cX8_speedsWith 8 = .ok (.aload_n 0, 1) := by decide +kernel
theorem dX8_speedsWith_9 : decode cX8_speedsWith 9 = .ok (.getfield 16, 3) := by decide +kernel
theorem dX8_speedsWith_12 : decode cX8_speedsWith 12 = .ok (.iload_n 2, 1) := by decide +kernel
theorem dX8_speedsWith_13 : decode cX8_speedsWith 13 = .ok (.iload_n 3, 1) := by decide +kernel
theorem dX8_speedsWith_14 : decode cX8_speedsWith 14 = .ok (.invokevirtual 115, 3) := by decide +kernel
theorem dX8_speedsWith_17 : decode cX8_speedsWith 17 = .ok (.aload_n 0, 1) := by decide +kernel
theorem dX8_speedsWith_18 : decode cX8_speedsWith 18 = .ok (.getfield 16, 3) := by decide +kernel
theorem dX8_speedsWith_21 : decode cX8_speedsWith 21 = .ok (.invokevirtual 147, 3) := by decide +kernel
theorem dX8_speedsWith_24 : decode cX8_speedsWith 24 = .ok (.lreturn, 1) := by decide +kernel
set_option maxRecDepth 20000 in
theorem ggX8_speedsOfAll_X0_speedCount : GoodIn wsX8_speedsOfAll wsX0_speedCount := goodIn_r _ [5, 6, 7, 8, 3, 9, 10, 11, 12, 13, 14, 15, 16, 17, 18, 19, 20, 21, 22, 23, 24, 25, 26, 27, 28, 29, 30, 31, 32, 33, 34, 35, 36, 37, 38, 39, 56] (by decide +kernel) (by decide +kernel)
set_option maxRecDepth 20000 in
theorem gX8_speedsOfAll_X0_speedCount_n173 : GoodIn wsX8_speedsOfAll (wsX0_speedCount) := ggX8_speedsOfAll_X0_speedCount
theorem dX8_speedsOfAll_0 : decode cX8_speedsOfAll 0 = .ok (.iconst 0, 1) := by decide +kernel
theorem dX8_speedsOfAll_1 : decode cX8_speedsOfAll 1 = .ok (.istore_n 1, 1) := by decide +kernel
theorem dX8_speedsOfAll_2 : decode cX8_speedsOfAll 2 = .ok (.iconst 0, 1) := by decide +kernel
theorem dX8_speedsOfAll_3 : decode cX8_speedsOfAll 3 = .ok (.istore_n 2, 1) := by decide +kernel
theorem dX8_speedsOfAll_4 : decode cX8_speedsOfAll 4 = .ok (.iload_n 2, 1) := by decide +kernel
theorem dX8_speedsOfAll_5 : decode cX8_speedsOfAll 5 = .ok (.iconst 4, 1) := by decide +kernel
theorem dX8_speedsOfAll_6 : decode cX8_speedsOfAll 6 = .ok (.if_icmp .ge 21, 3) := by decide +kernel
theorem dX8_speedsOfAll_9 : decode cX8_speedsOfAll 9 = .ok (.iload_n 1, 1) := by decide +kernel
theorem dX8_speedsOfAll_10 : decode cX8_speedsOfAll 10 = .ok (.aload_n 0, 1) := by decide +kernel
theorem dX8_speedsOfAll_11 : decode cX8_speedsOfAll 11 = .ok (.getfield 11, 3) := by decide +kernel
theorem dX8_speedsOfAll_14 : decode cX8_speedsOfAll 14 = .ok (.iload_n 2, 1) := by decide +kernel
theorem dX8_speedsOfAll_15 : decode cX8_speedsOfAll 15 = .ok (.aaload, 1) := by decide +kernel
theorem dX8_speedsOfAll_16 : decode cX8_speedsOfAll 16 = .ok (.invokevirtual 173, 3) := by decide +kernel
theorem dX8_speedsOfAll_19 : decode cX8_speedsOfAll 19 = .ok (.iadd, 1) := by decide +kernel
theorem dX8_speedsOfAll_20 : decode cX8_speedsOfAll 20 = .ok (.istore_n 1, 1) := by decide +kernel
theorem dX8_speedsOfAll_21 : decode cX8_speedsOfAll 21 = .ok (.iinc 2 1, 3) := by decide +kernel
theorem dX8_speedsOfAll_24 : decode cX8_speedsOfAll 24 = .ok (.goto (-20), 3) := by decide +kernel
theorem dX8_speedsOfAll_27 : decode cX8_speedsOfAll 27 = .ok (.iload_n 1, 1) := by decide +kernel
theorem dX8_speedsOfAll_28 : decode cX8_speedsOfAll 28 = .ok (.ireturn, 1) := by decide +kernel
theorem dX8_within_0 : decode cX8_within 0 = .ok (.iload_n 0, 1) := by decide +kernel
theorem dX8_within_1 : decode cX8_within 1 = .ok (.iload_n 1, 1) := by decide +kernel
theorem dX8_within_2 : decode cX8_within 2 = .ok (.if_icmp .lt 12, 3) := by decide +kernel
theorem dX8_within_5 : decode cX8_within 5 = .ok (.iload_n 0, 1) := by decide +kernel
theorem dX8_within_6 : decode cX8_within 6 = .ok (.iload_n 2, 1) := by decide +kernel
theorem dX8_within_7 : decode cX8_within 7 = .ok (.if_icmp .gt 7, 3) := by decide +kernel
theorem dX8_within_10 : decode cX8_within 10 = .ok (.iconst 1, 1) := by decide +kernel
theorem dX8_within_11 : decode cX8_within 11 = .ok (.goto 4, 3) := by decide +kernel
theorem dX8_within_14 : decode cX8_within 14 = .ok (.iconst 0, 1) := by decide +kernel
theorem dX8_within_15 : decode cX8_within 15 = .ok (.ireturn, 1) := by decide +kernel
theorem dX8_clamp_0 : decode cX8_clamp 0 = .ok (.iload_n 1, 1) := by decide +kernel
theorem dX8_clamp_1 : decode cX8_clamp 1 = .ok (.ineg, 1) := by decide +kernel
theorem dX8_clamp_2 : decode cX8_clamp 2 = .ok (.iload_n 1, 1) := by decide +kernel
theorem dX8_clamp_3 : decode cX8_clamp 3 = .ok (.iload_n 0, 1) := by decide +kernel
theorem dX8_clamp_4 : decode cX8_clamp 4 = .ok (.invokestatic 286, 3) := by decide +kernel
theorem dX8_clamp_7 : decode cX8_clamp 7 = .ok (.invokestatic 291, 3) := by decide +kernel
theorem dX8_clamp_10 : decode cX8_clamp 10 = .ok (.ireturn, 1) := by decide +kernel
set_option maxRecDepth 20000 in
theorem ggX8_isBicycle_X8_within : GoodIn wsX8_isBicycle wsX8_within := goodIn_r _ [4] (by decide +kernel) (by decide +kernel)
set_option maxRecDepth 20000 in
theorem gX8_isBicycle_X8_within : GoodIn wsX8_isBicycle (va_wsS RX8 106 yX8_within wsX8_within) := goodIn_app (goodIn_of _ (by decide +kernel)) ggX8_isBicycle_X8_within
theorem dX8_isBicycle_0 : decode cX8_isBicycle 0 = .ok (.iload_n 0, 1) := by decide +kernel
theorem dX8_isBicycle_1 : decode cX8_isBicycle 1 = .ok (.iconst 0, 1) := by decide +kernel
theorem dX8_isBicycle_2 : decode cX8_isBicycle 2 = .ok (.iconst 3, 1) := by decide +kernel
theorem dX8_isBicycle_3 : decode cX8_isBicycle 3 = .ok (.invokestatic 106, 3) := by decide +kernel
theorem dX8_isBicycle_6 : decode cX8_isBicycle 6 = .ok (.ireturn, 1) := by decide +kernel
set_option maxRecDepth 20000 in
theorem ggX8_isNumber_X8_within : GoodIn wsX8_isNumber wsX8_within := goodIn_r _ [4] (by decide +kernel) (by decide +kernel)
set_option maxRecDepth 20000 in
theorem gX8_isNumber_X8_within : GoodIn wsX8_isNumber (va_wsS RX8 106 yX8_within wsX8_within) := goodIn_app (goodIn_of _ (by decide +kernel)) ggX8_isNumber_X8_within
theorem dX8_isNumber_0 : decode cX8_isNumber 0 = .ok (.iload_n 0, 1) := by decide +kernel
theorem dX8_isNumber_1 : decode cX8_isNumber 1 = .ok (.iconst 0, 1) := by decide +kernel
theorem dX8_isNumber_2 : decode cX8_isNumber 2 = .ok (.iconst 5, 1) := by decide +kernel
theorem dX8_isNumber_3 : decode cX8_isNumber 3 = .ok (.invokestatic 106, 3) := by decide +kernel
theorem dX8_isNumber_6 : decode cX8_isNumber 6 = .ok (.ireturn, 1) := by decide +kernel
set_option maxRecDepth 20000 in
theorem ggX8_isReason_X8_within : GoodIn wsX8_isReason wsX8_within := goodIn_r _ [4] (by decide +kernel) (by decide +kernel)
set_option maxRecDepth 20000 in
theorem gX8_isReason_X8_within : GoodIn wsX8_isReason (va_wsS RX8 106 yX8_within wsX8_within) := goodIn_app (goodIn_of _ (by decide +kernel)) ggX8_isReason_X8_within
theorem dX8_isReason_0 : decode cX8_isReason 0 = .ok (.iload_n 0, 1) := by decide +kernel
theorem dX8_isReason_1 : decode cX8_isReason 1 = .ok (.iconst 0, 1) := by decide +kernel
theorem dX8_isReason_2 : decode cX8_isReason 2 = .ok (.iconst 2, 1) := by decide +kernel
theorem dX8_isReason_3 : decode cX8_isReason 3 = .ok (.invokestatic 106, 3) := by decide +kernel
theorem dX8_isReason_6 : decode cX8_isReason 6 = .ok (.ireturn, 1) := by decide +kernel
set_option maxRecDepth 20000 in
theorem ggX8_isSpeed_X8_within : GoodIn wsX8_isSpeed wsX8_within := goodIn_r _ [4] (by decide +kernel) (by decide +kernel)
set_option maxRecDepth 20000 in
theorem gX8_isSpeed_X8_within : GoodIn wsX8_isSpeed (va_wsS RX8 106 yX8_within wsX8_within) := goodIn_app (goodIn_of _ (by decide +kernel)) ggX8_isSpeed_X8_within
theorem dX8_isSpeed_0 : decode cX8_isSpeed 0 = .ok (.iload_n 0, 1) := by decide +kernel
theorem dX8_isSpeed_1 : decode cX8_isSpeed 1 = .ok (.iconst 0, 1) := by decide +kernel
theorem dX8_isSpeed_2 : decode cX8_isSpeed 2 = .ok (.bipush 40, 2) := by decide +kernel
theorem dX8_isSpeed_4 : decode cX8_isSpeed 4 = .ok (.invokestatic 106, 3) := by decide +kernel
theorem dX8_isSpeed_7 : decode cX8_isSpeed 7 = .ok (.ireturn, 1) := by decide +kernel
set_option maxRecDepth 20000 in
theorem ggX8_isHand_X8_within : GoodIn wsX8_isHand wsX8_within := goodIn_r _ [4] (by decide +kernel) (by decide +kernel)
set_option maxRecDepth 20000 in
theorem gX8_isHand_X8_within : GoodIn wsX8_isHand (va_wsS RX8 106 yX8_within wsX8_within) := goodIn_app (goodIn_of _ (by decide +kernel)) ggX8_isHand_X8_within
theorem dX8_isHand_0 : decode cX8_isHand 0 = .ok (.iload_n 0, 1) := by decide +kernel
theorem dX8_isHand_1 : decode cX8_isHand 1 = .ok (.bipush (-99), 2) := by decide +kernel
theorem dX8_isHand_3 : decode cX8_isHand 3 = .ok (.bipush 99, 2) := by decide +kernel
theorem dX8_isHand_5 : decode cX8_isHand 5 = .ok (.invokestatic 106, 3) := by decide +kernel
theorem dX8_isHand_8 : decode cX8_isHand 8 = .ok (.ireturn, 1) := by decide +kernel
set_option maxRecDepth 20000 in
theorem ggX8_isFlag_X8_within : GoodIn wsX8_isFlag wsX8_within := goodIn_r _ [4] (by decide +kernel) (by decide +kernel)
set_option maxRecDepth 20000 in
theorem gX8_isFlag_X8_within : GoodIn wsX8_isFlag (va_wsS RX8 106 yX8_within wsX8_within) := goodIn_app (goodIn_of _ (by decide +kernel)) ggX8_isFlag_X8_within
theorem dX8_isFlag_0 : decode cX8_isFlag 0 = .ok (.iload_n 0, 1) := by decide +kernel
theorem dX8_isFlag_1 : decode cX8_isFlag 1 = .ok (.iconst 0, 1) := by decide +kernel
theorem dX8_isFlag_2 : decode cX8_isFlag 2 = .ok (.iconst 1, 1) := by decide +kernel
theorem dX8_isFlag_3 : decode cX8_isFlag 3 = .ok (.invokestatic 106, 3) := by decide +kernel
theorem dX8_isFlag_6 : decode cX8_isFlag 6 = .ok (.ireturn, 1) := by decide +kernel
set_option maxRecDepth 20000 in
theorem ggX8_isBar_X8_within : GoodIn wsX8_isBar wsX8_within := goodIn_r _ [4] (by decide +kernel) (by decide +kernel)
set_option maxRecDepth 20000 in
theorem gX8_isBar_X8_within : GoodIn wsX8_isBar (va_wsS RX8 106 yX8_within wsX8_within) := goodIn_app (goodIn_of _ (by decide +kernel)) ggX8_isBar_X8_within
theorem dX8_isBar_0 : decode cX8_isBar 0 = .ok (.iload_n 0, 1) := by decide +kernel
theorem dX8_isBar_1 : decode cX8_isBar 1 = .ok (.iconst 0, 1) := by decide +kernel
theorem dX8_isBar_2 : decode cX8_isBar 2 = .ok (.iconst 1, 1) := by decide +kernel
theorem dX8_isBar_3 : decode cX8_isBar 3 = .ok (.invokestatic 106, 3) := by decide +kernel
theorem dX8_isBar_6 : decode cX8_isBar 6 = .ok (.ireturn, 1) := by decide +kernel
set_option maxRecDepth 20000 in
theorem ggX8_isImage_X8_within : GoodIn wsX8_isImage wsX8_within := goodIn_r _ [4] (by decide +kernel) (by decide +kernel)
set_option maxRecDepth 20000 in
theorem gX8_isImage_X8_within : GoodIn wsX8_isImage (va_wsS RX8 106 yX8_within wsX8_within) := goodIn_app (goodIn_of _ (by decide +kernel)) ggX8_isImage_X8_within
theorem dX8_isImage_0 : decode cX8_isImage 0 = .ok (.iload_n 0, 1) := by decide +kernel
theorem dX8_isImage_1 : decode cX8_isImage 1 = .ok (.iconst 0, 1) := by decide +kernel
theorem dX8_isImage_2 : decode cX8_isImage 2 = .ok (.iconst 1, 1) := by decide +kernel
theorem dX8_isImage_3 : decode cX8_isImage 3 = .ok (.invokestatic 106, 3) := by decide +kernel
theorem dX8_isImage_6 : decode cX8_isImage 6 = .ok (.ireturn, 1) := by decide +kernel
theorem dX9_init_0 : decode cX9_init 0 = .ok (.aload_n 0, 1) := by decide +kernel
theorem dX9_init_1 : decode cX9_init 1 = .ok (.invokespecial 1, 3) := by decide +kernel
theorem dX9_init_4 : decode cX9_init 4 = .ok (.aload_n 0, 1) := by decide +kernel
theorem dX9_init_5 : decode cX9_init 5 = .ok (.bipush 24, 2) := by decide +kernel
theorem dX9_init_7 : decode cX9_init 7 = .ok (.newarray .int, 2) := by decide +kernel
theorem dX9_init_9 : decode cX9_init 9 = .ok (.putfield 7, 3) := by decide +kernel
theorem dX9_init_12 : decode cX9_init 12 = .ok (.aload_n 0, 1) := by decide +kernel
theorem dX9_init_13 : decode cX9_init 13 = .ok (.bipush 6, 2) := by decide +kernel
theorem dX9_init_15 : decode cX9_init 15 = .ok (.newarray .int, 2) := by decide +kernel
theorem dX9_init_17 : decode cX9_init 17 = .ok (.putfield 13, 3) := by decide +kernel
theorem dX9_init_20 : decode cX9_init 20 = .ok (.aload_n 0, 1) := by decide +kernel
theorem dX9_init_21 : decode cX9_init 21 = .ok (.bipush 29, 2) := by decide +kernel
theorem dX9_init_23 : decode cX9_init 23 = .ok (.newarray .int, 2) := by decide +kernel
theorem dX9_init_25 : decode cX9_init 25 = .ok (.putfield 16, 3) := by decide +kernel
theorem dX9_init_28 : decode cX9_init 28 = .ok (.aload_n 0, 1) := by decide +kernel
theorem dX9_init_29 : decode cX9_init 29 = .ok (.bipush 58, 2) := by decide +kernel
theorem dX9_init_31 : decode cX9_init 31 = .ok (.newarray .int, 2) := by decide +kernel
theorem dX9_init_33 : decode cX9_init 33 = .ok (.putfield 19, 3) := by decide +kernel
theorem dX9_init_36 : decode cX9_init 36 = .ok (.aload_n 0, 1) := by decide +kernel
theorem dX9_init_37 : decode cX9_init 37 = .ok (.bipush 29, 2) := by decide +kernel
theorem dX9_init_39 : decode cX9_init 39 = .ok (.newarray .int, 2) := by decide +kernel
theorem dX9_init_41 : decode cX9_init 41 = .ok (.putfield 22, 3) := by decide +kernel
theorem dX9_init_44 : decode cX9_init 44 = .ok (.aload_n 0, 1) := by decide +kernel
theorem dX9_init_45 : decode cX9_init 45 = .ok (.iconst 2, 1) := by decide +kernel
theorem dX9_init_46 : decode cX9_init 46 = .ok (.newarray .boolean, 2) := by decide +kernel
theorem dX9_init_48 : decode cX9_init 48 = .ok (.putfield 25, 3) := by decide +kernel
theorem dX9_init_51 : decode cX9_init 51 = .ok (.aload_n 0, 1) := by decide +kernel
theorem dX9_init_52 : decode cX9_init 52 = .ok (.bipush 10, 2) := by decide +kernel
theorem dX9_init_54 : decode cX9_init 54 = .ok (.newarray .int, 2) := by decide +kernel
theorem dX9_init_56 : decode cX9_init 56 = .ok (.putfield 29, 3) := by decide +kernel
theorem dX9_init_59 : decode cX9_init 59 = .ok (.aload_n 0, 1) := by decide +kernel
theorem dX9_init_60 : decode cX9_init 60 = .ok (.iconst 5, 1) := by decide +kernel
theorem dX9_init_61 : decode cX9_init 61 = .ok (.putfield 32, 3) := by decide +kernel
theorem dX9_init_64 : decode cX9_init 64 = .ok (.aload_n 0, 1) := by decide +kernel
theorem dX9_init_65 : decode cX9_init 65 = .ok (.iconst 3, 1) := by decide +kernel
theorem dX9_init_66 : decode cX9_init 66 = .ok (.putfield 36, 3) := by decide +kernel
theorem dX9_init_69 : decode cX9_init 69 = .ok (.aload_n 0, 1) := by decide +kernel
theorem dX9_init_70 : decode cX9_init 70 = .ok (.sipush 200, 3) := by decide +kernel
theorem dX9_init_73 : decode cX9_init 73 = .ok (.newarray .int, 2) := by decide +kernel
theorem dX9_init_75 : decode cX9_init 75 = .ok (.putfield 39, 3) := by decide +kernel
theorem dX9_init_78 : decode cX9_init 78 = .ok (.aload_n 0, 1) := by decide +kernel
theorem dX9_init_79 : decode cX9_init 79 = .ok (.sipush 729, 3) := by decide +kernel
theorem dX9_init_82 : decode cX9_init 82 = .ok (.newarray .int, 2) := by decide +kernel
theorem dX9_init_84 : decode cX9_init 84 = .ok (.putfield 42, 3) := by decide +kernel
theorem dX9_init_87 : decode cX9_init 87 = .ok (.aload_n 0, 1) := by decide +kernel
theorem dX9_init_88 : decode cX9_init 88 = .ok (.bipush 6, 2) := by decide +kernel
theorem dX9_init_90 : decode cX9_init 90 = .ok (.newarray .int, 2) := by decide +kernel
theorem dX9_init_92 : decode cX9_init 92 = .ok (.putfield 45, 3) := by decide +kernel
theorem dX9_init_95 : decode cX9_init 95 = .ok (.iconst 0, 1) := by decide +kernel
theorem dX9_init_96 : decode cX9_init 96 = .ok (.istore_n 1, 1) := by decide +kernel
theorem dX9_init_97 : decode cX9_init 97 = .ok (.iload_n 1, 1) := by decide +kernel
theorem dX9_init_98 : decode cX9_init 98 = .ok (.iconst 4, 1) := by decide +kernel
theorem dX9_init_99 : decode cX9_init 99 = .ok (.if_icmp .ge 66, 3) := by decide +kernel
theorem dX9_init_102 : decode cX9_init 102 = .ok (.iconst 0, 1) := by decide +kernel
theorem dX9_init_103 : decode cX9_init 103 = .ok (.istore_n 2, 1) := by decide +kernel
theorem dX9_init_104 : decode cX9_init 104 = .ok (.iload_n 2, 1) := by decide +kernel
theorem dX9_init_105 : decode cX9_init 105 = .ok (.bipush 6, 2) := by decide +kernel
theorem dX9_init_107 : decode cX9_init 107 = .ok (.if_icmp .ge 52, 3) := by decide +kernel
theorem dX9_init_110 : decode cX9_init 110 = .ok (.aload_n 0, 1) := by decide +kernel
theorem dX9_init_111 : decode cX9_init 111 = .ok (.getfield 7, 3) := by decide +kernel
theorem dX9_init_114 : decode cX9_init 114 = .ok (.bipush 6, 2) := by decide +kernel
theorem dX9_init_116 : decode cX9_init 116 = .ok (.iload_n 1, 1) := by decide +kernel
theorem dX9_init_117 : decode cX9_init 117 = .ok (.imul, 1) := by decide +kernel
theorem dX9_init_118 : decode cX9_init 118 = .ok (.iload_n 2, 1) := by decide +kernel
theorem dX9_init_119 : decode cX9_init 119 = .ok (.iadd, 1) := by decide +kernel
theorem dX9_init_120 : decode cX9_init 120 = .ok (.iload_n 2, 1) := by decide +kernel
theorem dX9_init_121 : decode cX9_init 121 = .ok (.ifCond .eq 8, 3) := by decide +kernel
theorem dX9_init_124 : decode cX9_init 124 = .ok (.iload_n 2, 1) := by decide +kernel
theorem dX9_init_125 : decode cX9_init 125 = .ok (.iconst 2, 1) := by decide +kernel
theorem dX9_init_126 : decode cX9_init 126 = .ok (.if_icmp .ne 7, 3) := by decide +kernel
theorem dX9_init_129 : decode cX9_init 129 = .ok (.iconst 2, 1) := by decide +kernel
theorem dX9_init_130 : decode cX9_init 130 = .ok (.goto 22, 3) := by decide +kernel
theorem dX9_init_133 : decode cX9_init 133 = .ok (.iload_n 2, 1) := by decide +kernel
theorem dX9_init_134 : decode cX9_init 134 = .ok (.iconst 3, 1) := by decide +kernel
theorem dX9_init_135 : decode cX9_init 135 = .ok (.if_icmp .ne 7, 3) := by decide +kernel
theorem dX9_init_138 : decode cX9_init 138 = .ok (.iconst 5, 1) := by decide +kernel
theorem dX9_init_139 : decode cX9_init 139 = .ok (.goto 13, 3) := by decide +kernel
theorem dX9_init_142 : decode cX9_init 142 = .ok (.iload_n 2, 1) := by decide +kernel
theorem dX9_init_143 : decode cX9_init 143 = .ok (.iconst 4, 1) := by decide +kernel
theorem dX9_init_144 : decode cX9_init 144 = .ok (.if_icmp .ne 7, 3) := by decide +kernel
theorem dX9_init_147 : decode cX9_init 147 = .ok (.iconst 4, 1) := by decide +kernel
theorem dX9_init_148 : decode cX9_init 148 = .ok (.goto 4, 3) := by decide +kernel
theorem dX9_init_151 : decode cX9_init 151 = .ok (.iconst 3, 1) := by decide +kernel
theorem dX9_init_152 : decode cX9_init 152 = .ok (.iastore, 1) := by decide +kernel
theorem dX9_init_153 : decode cX9_init 153 = .ok (.iinc 2 1, 3) := by decide +kernel
theorem dX9_init_156 : decode cX9_init 156 = .ok (.goto (-52), 3) := by decide +kernel
theorem dX9_init_159 : decode cX9_init 159 = .ok (.iinc 1 1, 3) := by decide +kernel
theorem dX9_init_162 : decode cX9_init 162 = .ok (.goto (-65), 3) := by decide +kernel
theorem dX9_init_165 : decode cX9_init 165 = .ok (.aload_n 0, 1) := by decide +kernel
theorem dX9_init_166 : decode cX9_init 166 = .ok (.getfield 29, 3) := by decide +kernel
theorem dX9_init_169 : decode cX9_init 169 = .ok (.iconst 4, 1) := by decide +kernel
theorem dX9_init_170 : decode cX9_init 170 = .ok (.sipush 999, 3) := by decide +kernel
theorem dX9_init_173 : decode cX9_init 173 = .ok (.iastore, 1) := by decide +kernel
theorem dX9_init_174 : decode cX9_init 174 = .ok (.aload_n 0, 1) := by decide +kernel
theorem dX9_init_175 : decode cX9_init 175 = .ok (.getfield 16, 3) := by decide +kernel
theorem dX9_init_178 : decode cX9_init 178 = .ok (.bipush 25, 2) := by decide +kernel
theorem dX9_init_180 : decode cX9_init 180 = .ok (.bipush 100, 2) := by decide +kernel
theorem dX9_init_182 : decode cX9_init 182 = .ok (.iastore, 1) := by decide +kernel
theorem dX9_init_183 : decode cX9_init 183 = .ok (.aload_n 0, 1) := by decide +kernel
theorem dX9_init_184 : decode cX9_init 184 = .ok (.getfield 16, 3) := by decide +kernel
theorem dX9_init_187 : decode cX9_init 187 = .ok (.bipush 27, 2) := by decide +kernel
theorem dX9_init_189 : decode cX9_init 189 = .ok (.iconst 1, 1) := by decide +kernel
theorem dX9_init_190 : decode cX9_init 190 = .ok (.iastore, 1) := by decide +kernel
theorem dX9_init_191 : decode cX9_init 191 = .ok (.return_, 1) := by decide +kernel
theorem dX9_in_0 : decode cX9_in 0 = .ok (.iload_n 0, 1) := by decide +kernel
theorem dX9_in_1 : decode cX9_in 1 = .ok (.iload_n 1, 1) := by decide +kernel
theorem dX9_in_2 : decode cX9_in 2 = .ok (.if_icmp .lt 12, 3) := by decide +kernel
theorem dX9_in_5 : decode cX9_in 5 = .ok (.iload_n 0, 1) := by decide +kernel
theorem dX9_in_6 : decode cX9_in 6 = .ok (.iload_n 2, 1) := by decide +kernel
theorem dX9_in_7 : decode cX9_in 7 = .ok (.if_icmp .gt 7, 3) := by decide +kernel
theorem dX9_in_10 : decode cX9_in 10 = .ok (.iconst 1, 1) := by decide +kernel
theorem dX9_in_11 : decode cX9_in 11 = .ok (.goto 4, 3) := by decide +kernel
theorem dX9_in_14 : decode cX9_in 14 = .ok (.iconst 0, 1) := by decide +kernel
theorem dX9_in_15 : decode cX9_in 15 = .ok (.ireturn, 1) := by decide +kernel
set_option maxRecDepth 20000 in
theorem ggX9_isBicycle_X9_in : GoodIn wsX9_isBicycle wsX9_in := goodIn_r _ [4] (by decide +kernel) (by decide +kernel)
set_option maxRecDepth 20000 in
theorem gX9_isBicycle_X9_in : GoodIn wsX9_isBicycle (va_wsS RX9 51 yX9_in wsX9_in) := goodIn_app (goodIn_of _ (by decide +kernel)) ggX9_isBicycle_X9_in
theorem dX9_isBicycle_0 : decode cX9_isBicycle 0 = .ok (.iload_n 0, 1) := by decide +kernel
theorem dX9_isBicycle_1 : decode cX9_isBicycle 1 = .ok (.iconst 0, 1) := by decide +kernel
theorem dX9_isBicycle_2 : decode cX9_isBicycle 2 = .ok (.iconst 3, 1) := by decide +kernel
theorem dX9_isBicycle_3 : decode cX9_isBicycle 3 = .ok (.invokestatic 51, 3) := by decide +kernel
theorem dX9_isBicycle_6 : decode cX9_isBicycle 6 = .ok (.ireturn, 1) := by decide +kernel
set_option maxRecDepth 20000 in
theorem ggX9_isNumber_X9_in : GoodIn wsX9_isNumber wsX9_in := goodIn_r _ [4] (by decide +kernel) (by decide +kernel)
set_option maxRecDepth 20000 in
theorem gX9_isNumber_X9_in : GoodIn wsX9_isNumber (va_wsS RX9 51 yX9_in wsX9_in) := goodIn_app (goodIn_of _ (by decide +kernel)) ggX9_isNumber_X9_in
theorem dX9_isNumber_0 : decode cX9_isNumber 0 = .ok (.iload_n 0, 1) := by decide +kernel
theorem dX9_isNumber_1 : decode cX9_isNumber 1 = .ok (.iconst 0, 1) := by decide +kernel
theorem dX9_isNumber_2 : decode cX9_isNumber 2 = .ok (.iconst 5, 1) := by decide +kernel
theorem dX9_isNumber_3 : decode cX9_isNumber 3 = .ok (.invokestatic 51, 3) := by decide +kernel
theorem dX9_isNumber_6 : decode cX9_isNumber 6 = .ok (.ireturn, 1) := by decide +kernel
theorem dX9_bottom_0 : decode cX9_bottom 0 = .ok (.iload_n 0, 1) := by decide +kernel
theorem dX9_bottom_1 : decode cX9_bottom 1 = .ok (.iconst 3, 1) := by decide +kernel
theorem dX9_bottom_2 : decode cX9_bottom 2 = .ok (.if_icmp .ge 8, 3) := by decide +kernel
theorem dX9_bottom_5 : decode cX9_bottom 5 = .ok (.bipush (-9), 2) := by decide +kernel
theorem dX9_bottom_7 : decode cX9_bottom 7 = .ok (.goto 13, 3) := by decide +kernel
theorem dX9_bottom_10 : decode cX9_bottom 10 = .ok (.iload_n 0, 1) := by decide +kernel
theorem dX9_bottom_11 : decode cX9_bottom 11 = .ok (.iconst 5, 1) := by decide +kernel
theorem dX9_bottom_12 : decode cX9_bottom 12 = .ok (.if_icmp .ge 7, 3) := by decide +kernel
theorem dX9_bottom_15 : decode cX9_bottom 15 = .ok (.iconst 1, 1) := by decide +kernel
theorem dX9_bottom_16 : decode cX9_bottom 16 = .ok (.goto 4, 3) := by decide +kernel
theorem dX9_bottom_19 : decode cX9_bottom 19 = .ok (.iconst 0, 1) := by decide +kernel
theorem dX9_bottom_20 : decode cX9_bottom 20 = .ok (.ireturn, 1) := by decide +kernel
set_option maxRecDepth 20000 in
theorem ggX9_mayBe_X9_bottom : GoodIn wsX9_mayBe wsX9_bottom := goodIn_r _ [4] (by decide +kernel) (by decide +kernel)
set_option maxRecDepth 20000 in
theorem gX9_mayBe_X9_bottom : GoodIn wsX9_mayBe (va_wsS RX9 55 yX9_bottom wsX9_bottom) := goodIn_app (goodIn_of _ (by decide +kernel)) ggX9_mayBe_X9_bottom
set_option maxRecDepth 20000 in
theorem ggX9_mayBe_X9_in : GoodIn wsX9_mayBe wsX9_in := goodIn_r _ [7] (by decide +kernel) (by decide +kernel)
set_option maxRecDepth 20000 in
theorem gX9_mayBe_X9_in : GoodIn wsX9_mayBe (va_wsS RX9 51 yX9_in wsX9_in) := goodIn_app (goodIn_of _ (by decide +kernel)) ggX9_mayBe_X9_in
theorem dX9_mayBe_0 : decode cX9_mayBe 0 = .ok (.iload_n 1, 1) := by decide +kernel
theorem dX9_mayBe_1 : decode cX9_mayBe 1 = .ok (.iload_n 0, 1) := by decide +kernel
theorem dX9_mayBe_2 : decode cX9_mayBe 2 = .ok (.invokestatic 55, 3) := by decide +kernel
theorem dX9_mayBe_5 : decode cX9_mayBe 5 = .ok (.bipush 9, 2) := by decide +kernel
theorem dX9_mayBe_7 : decode cX9_mayBe 7 = .ok (.invokestatic 51, 3) := by decide +kernel
theorem dX9_mayBe_10 : decode cX9_mayBe 10 = .ok (.ireturn, 1) := by decide +kernel
set_option maxRecDepth 20000 in
theorem ggX9_number_X9_isBicycle : GoodIn wsX9_number wsX9_isBicycle := goodIn_r _ [7, 8, 9, 6, 10] (by decide +kernel) (by decide +kernel)
set_option maxRecDepth 20000 in
theorem gX9_number_X9_isBicycle : GoodIn wsX9_number (va_wsS RX9 59 yX9_isBicycle wsX9_isBicycle) := goodIn_app (goodIn_of _ (by decide +kernel)) ggX9_number_X9_isBicycle
set_option maxRecDepth 20000 in
theorem ggX9_number_X9_isNumber : GoodIn wsX9_number wsX9_isNumber := goodIn_r _ [13, 8, 9, 6, 10] (by decide +kernel) (by decide +kernel)
set_option maxRecDepth 20000 in
theorem gX9_number_X9_isNumber : GoodIn wsX9_number (va_wsS RX9 63 yX9_isNumber wsX9_isNumber) := goodIn_app (goodIn_of _ (by decide +kernel)) ggX9_number_X9_isNumber
set_option maxRecDepth 20000 in
theorem ggX9_number_X9_mayBe : GoodIn wsX9_number wsX9_mayBe := goodIn_r _ [16, 17, 18, 6, 19, 8, 9, 10] (by decide +kernel) (by decide +kernel)
set_option maxRecDepth 20000 in
theorem gX9_number_X9_mayBe : GoodIn wsX9_number (va_wsS RX9 66 yX9_mayBe wsX9_mayBe) := goodIn_app (goodIn_of _ (by decide +kernel)) ggX9_number_X9_mayBe
theorem dX9_number_0 : decode cX9_number 0 = .ok (.aload_n 0, 1) := by decide +kernel
theorem dX9_number_1 : decode cX9_number 1 = .ok (.iconst 0, 1) := by decide +kernel
theorem dX9_number_2 : decode cX9_number 2 = .ok (.putfield 48, 3) := by decide +kernel
theorem dX9_number_5 : decode cX9_number 5 = .ok (.iload_n 1, 1) := by decide +kernel
theorem dX9_number_6 : decode cX9_number 6 = .ok (.invokestatic 59, 3) := by decide +kernel
theorem dX9_number_9 : decode cX9_number 9 = .ok (.ifCond .eq 18, 3) := by decide +kernel
theorem dX9_number_12 : decode cX9_number 12 = .ok (.iload_n 2, 1) := by decide +kernel
theorem dX9_number_13 : decode cX9_number 13 = .ok (.invokestatic 63, 3) := by decide +kernel
theorem dX9_number_16 : decode cX9_number 16 = .ok (.ifCond .eq 11, 3) := by decide +kernel
theorem dX9_number_19 : decode cX9_number 19 = .ok (.iload_n 2, 1) := by decide +kernel
theorem dX9_number_20 : decode cX9_number 20 = .ok (.iload_n 3, 1) := by decide +kernel
theorem dX9_number_21 : decode cX9_number 21 = .ok (.invokestatic 66, 3) := by decide +kernel
theorem dX9_number_24 : decode cX9_number 24 = .ok (.ifCond .ne 6, 3) := by decide +kernel
theorem dX9_number_27 : decode cX9_number 27 = .ok (.ldc 70, 2) := by decide +kernel
theorem dX9_number_29 : decode cX9_number 29 = .ok (.ireturn, 1) := by decide +kernel
theorem dX9_number_30 : decode cX9_number 30 = .ok (.aload_n 0, 1) := by decide +kernel
theorem dX9_number_31 : decode cX9_number 31 = .ok (.getfield 7, 3) := by decide +kernel
theorem dX9_number_34 : decode cX9_number 34 = .ok (.bipush 6, 2) := by decide +kernel
theorem dX9_number_36 : decode cX9_number 36 = .ok (.iload_n 1, 1) := by decide +kernel
theorem dX9_number_37 : decode cX9_number 37 = .ok (.imul, 1) := by decide +kernel
theorem dX9_number_38 : decode cX9_number 38 = .ok (.iload_n 2, 1) := by decide +kernel
theorem dX9_number_39 : decode cX9_number 39 = .ok (.iadd, 1) := by decide +kernel
theorem dX9_number_40 : decode cX9_number 40 = .ok (.iaload, 1) := by decide +kernel
theorem dX9_number_41 : decode cX9_number 41 = .ok (.istore 4, 2) := by decide +kernel
theorem dX9_number_43 : decode cX9_number 43 = .ok (.aload_n 0, 1) := by decide +kernel
theorem dX9_number_44 : decode cX9_number 44 = .ok (.getfield 7, 3) := by decide +kernel
theorem dX9_number_47 : decode cX9_number 47 = .ok (.bipush 6, 2) := by decide +kernel
theorem dX9_number_49 : decode cX9_number 49 = .ok (.iload_n 1, 1) := by decide +kernel
theorem dX9_number_50 : decode cX9_number 50 = .ok (.imul, 1) := by decide +kernel
theorem dX9_number_51 : decode cX9_number 51 = .ok (.iload_n 2, 1) := by decide +kernel
theorem dX9_number_52 : decode cX9_number 52 = .ok (.iadd, 1) := by decide +kernel
theorem dX9_number_53 : decode cX9_number 53 = .ok (.iload_n 3, 1) := by decide +kernel
theorem dX9_number_54 : decode cX9_number 54 = .ok (.iastore, 1) := by decide +kernel
theorem dX9_number_55 : decode cX9_number 55 = .ok (.iload 4, 2) := by decide +kernel
theorem dX9_number_57 : decode cX9_number 57 = .ok (.ireturn, 1) := by decide +kernel
set_option maxRecDepth 20000 in
theorem ggX9_has_X9_isBicycle : GoodIn wsX9_has wsX9_isBicycle := goodIn_r _ [7, 8, 9, 6, 10] (by decide +kernel) (by decide +kernel)
set_option maxRecDepth 20000 in
theorem gX9_has_X9_isBicycle : GoodIn wsX9_has (va_wsS RX9 59 yX9_isBicycle wsX9_isBicycle) := goodIn_app (goodIn_of _ (by decide +kernel)) ggX9_has_X9_isBicycle
set_option maxRecDepth 20000 in
theorem ggX9_has_X9_isNumber : GoodIn wsX9_has wsX9_isNumber := goodIn_r _ [13, 8, 9, 6, 10] (by decide +kernel) (by decide +kernel)
set_option maxRecDepth 20000 in
theorem gX9_has_X9_isNumber : GoodIn wsX9_has (va_wsS RX9 63 yX9_isNumber wsX9_isNumber) := goodIn_app (goodIn_of _ (by decide +kernel)) ggX9_has_X9_isNumber
theorem dX9_has_0 : decode cX9_has 0 = .ok (.aload_n 0, 1) := by decide +kernel
theorem dX9_has_1 : decode cX9_has 1 = .ok (.iconst 0, 1) := by decide +kernel
theorem dX9_has_2 : decode cX9_has 2 = .ok (.putfield 48, 3) := by decide +kernel
theorem dX9_has_5 : decode cX9_has 5 = .ok (.iload_n 1, 1) := by decide +kernel
theorem dX9_has_6 : decode cX9_has 6 = .ok (.invokestatic 59, 3) := by decide +kernel
theorem dX9_has_9 : decode cX9_has 9 = .ok (.ifCond .eq 24, 3) := by decide +kernel
theorem dX9_has_12 : decode cX9_has 12 = .ok (.iload_n 2, 1) := by decide +kernel
theorem dX9_has_13 : decode cX9_has 13 = .ok (.invokestatic 63, 3) := by decide +kernel
theorem dX9_has_16 : decode cX9_has 16 = .ok (.ifCond .eq 17, 3) := by decide +kernel
theorem dX9_has_19 : decode cX9_has 19 = .ok (.aload_n 0, 1) := by decide +kernel
theorem dX9_has_20 : decode cX9_has 20 = .ok (.getfield 7, 3) := by decide +kernel
theorem dX9_has_23 : decode cX9_has 23 = .ok (.bipush 6, 2) := by decide +kernel
theorem dX9_has_25 : decode cX9_has 25 = .ok (.iload_n 1, 1) := by decide +kernel
theorem dX9_has_26 : decode cX9_has 26 = .ok (.imul, 1) := by decide +kernel
theorem dX9_has_27 : decode cX9_has 27 = .ok (.iload_n 2, 1) := by decide +kernel
theorem dX9_has_28 : decode cX9_has 28 = .ok (.iadd, 1) := by decide +kernel
theorem dX9_has_29 : decode cX9_has 29 = .ok (.iaload, 1) := by decide +kernel
theorem dX9_has_30 : decode cX9_has 30 = .ok (.goto 5, 3) := by decide +kernel
theorem dX9_has_33 : decode cX9_has 33 = .ok (.ldc 70, 2) := by decide +kernel
theorem dX9_has_35 : decode cX9_has 35 = .ok (.ireturn, 1) := by decide +kernel
theorem dX9_takes_0 : decode cX9_takes 0 = .ok (.iconst 0, 1) := by decide +kernel
theorem dX9_takes_1 : decode cX9_takes 1 = .ok (.istore_n 2, 1) := by decide +kernel
theorem dX9_takes_2 : decode cX9_takes 2 = .ok (.iload_n 2, 1) := by decide +kernel
theorem dX9_takes_3 : decode cX9_takes 3 = .ok (.bipush 6, 2) := by decide +kernel
theorem dX9_takes_5 : decode cX9_takes 5 = .ok (.if_icmp .ge 26, 3) := by decide +kernel
theorem dX9_takes_8 : decode cX9_takes 8 = .ok (.aload_n 0, 1) := by decide +kernel
theorem dX9_takes_9 : decode cX9_takes 9 = .ok (.getfield 13, 3) := by decide +kernel
theorem dX9_takes_12 : decode cX9_takes 12 = .ok (.iload_n 2, 1) := by decide +kernel
theorem dX9_takes_13 : decode cX9_takes 13 = .ok (.aload_n 0, 1) := by decide +kernel
theorem dX9_takes_14 : decode cX9_takes 14 = .ok (.getfield 7, 3) := by decide +kernel
theorem dX9_takes_17 : decode cX9_takes 17 = .ok (.bipush 6, 2) := by decide +kernel
theorem dX9_takes_19 : decode cX9_takes 19 = .ok (.iload_n 1, 1) := by decide +kernel
theorem dX9_takes_20 : decode cX9_takes 20 = .ok (.imul, 1) := by decide +kernel
theorem dX9_takes_21 : decode cX9_takes 21 = .ok (.iload_n 2, 1) := by decide +kernel
theorem dX9_takes_22 : decode cX9_takes 22 = .ok (.iadd, 1) := by decide +kernel
theorem dX9_takes_23 : decode cX9_takes 23 = .ok (.iaload, 1) := by decide +kernel
theorem dX9_takes_24 : decode cX9_takes 24 = .ok (.iastore, 1) := by decide +kernel
theorem dX9_takes_25 : decode cX9_takes 25 = .ok (.iinc 2 1, 3) := by decide +kernel
theorem dX9_takes_28 : decode cX9_takes 28 = .ok (.goto (-26), 3) := by decide +kernel
theorem dX9_takes_31 : decode cX9_takes 31 = .ok (.return_, 1) := by decide +kernel
theorem dX9_signOf_0 : decode cX9_signOf 0 = .ok (.aload_n 0, 1) := by decide +kernel
theorem dX9_signOf_1 : decode cX9_signOf 1 = .ok (.getfield 13, 3) := by decide +kernel
theorem dX9_signOf_4 : decode cX9_signOf 4 = .ok (.iconst 4, 1) := by decide +kernel
theorem dX9_signOf_5 : decode cX9_signOf 5 = .ok (.iaload, 1) := by decide +kernel
theorem dX9_signOf_6 : decode cX9_signOf 6 = .ok (.i2l, 1) := by decide +kernel
theorem dX9_signOf_7 : decode cX9_signOf 7 = .ok (.lstore 8, 2) := by decide +kernel
theorem dX9_signOf_9 : decode cX9_signOf 9 = .ok (.aload_n 0, 1) := by decide +kernel
theorem dX9_signOf_10 : decode cX9_signOf 10 = .ok (.getfield 13, 3) := by decide +kernel
theorem dX9_signOf_13 : decode cX9_signOf 13 = .ok (.iconst 1, 1) := by decide +kernel
theorem dX9_signOf_14 : decode cX9_signOf 14 = .ok (.iaload, 1) := by decide +kernel
theorem dX9_signOf_15 : decode cX9_signOf 15 = .ok (.aload_n 0, 1) := by decide +kernel
theorem dX9_signOf_16 : decode cX9_signOf 16 = .ok (.getfield 13, 3) := by decide +kernel
theorem dX9_signOf_19 : decode cX9_signOf 19 = .ok (.iconst 2, 1) := by decide +kernel
theorem dX9_signOf_20 : decode cX9_signOf 20 = .ok (.iaload, 1) := by decide +kernel
theorem dX9_signOf_21 : decode cX9_signOf 21 = .ok (.iadd, 1) := by decide +kernel
theorem dX9_signOf_22 : decode cX9_signOf 22 = .ok (.i2l, 1) := by decide +kernel
theorem dX9_signOf_23 : decode cX9_signOf 23 = .ok (.lload_n 3, 1) := by decide +kernel
theorem dX9_signOf_24 : decode cX9_signOf 24 = .ok (.ladd, 1) := by decide +kernel
theorem dX9_signOf_25 : decode cX9_signOf 25 = .ok (.lstore 10, 2) := by decide +kernel
theorem dX9_signOf_27 : decode cX9_signOf 27 = .ok (.iload 7, 2) := by decide +kernel
theorem dX9_signOf_29 : decode cX9_signOf 29 = .ok (.iconst 3, 1) := by decide +kernel
theorem dX9_signOf_30 : decode cX9_signOf 30 = .ok (.if_icmp .ne 18, 3) := by decide +kernel
theorem dX9_signOf_33 : decode cX9_signOf 33 = .ok (.ldc2_w 71, 3) := by decide +kernel
theorem dX9_signOf_36 : decode cX9_signOf 36 = .ok (.lload 8, 2) := by decide +kernel
theorem dX9_signOf_38 : decode cX9_signOf 38 = .ok (.lmul, 1) := by decide +kernel
theorem dX9_signOf_39 : decode cX9_signOf 39 = .ok (.aload_n 0, 1) := by decide +kernel
theorem dX9_signOf_40 : decode cX9_signOf 40 = .ok (.getfield 13, 3) := by decide +kernel
theorem dX9_signOf_43 : decode cX9_signOf 43 = .ok (.iconst 5, 1) := by decide +kernel
theorem dX9_signOf_44 : decode cX9_signOf 44 = .ok (.iaload, 1) := by decide +kernel
theorem dX9_signOf_45 : decode cX9_signOf 45 = .ok (.i2l, 1) := by decide +kernel
theorem dX9_signOf_46 : decode cX9_signOf 46 = .ok (.lmul, 1) := by decide +kernel
theorem dX9_signOf_47 : decode cX9_signOf 47 = .ok (.lreturn, 1) := by decide +kernel
theorem dX9_signOf_48 : decode cX9_signOf 48 = .ok (.iload 7, 2) := by decide +kernel
theorem dX9_signOf_50 : decode cX9_signOf 50 = .ok (.iconst 2, 1) := by decide +kernel
theorem dX9_signOf_51 : decode cX9_signOf 51 = .ok (.if_icmp .ne 64, 3) := by decide +kernel
theorem dX9_signOf_54 : decode cX9_signOf 54 = .ok (.ldc2_w 73, 3) := by decide +kernel
theorem dX9_signOf_57 : decode cX9_signOf 57 = .ok (.aload_n 0, 1) := by decide +kernel
theorem dX9_signOf_58 : decode cX9_signOf 58 = .ok (.getfield 13, 3) := by decide +kernel
theorem dX9_signOf_61 : decode cX9_signOf 61 = .ok (.iconst 1, 1) := by decide +kernel
theorem dX9_signOf_62 : decode cX9_signOf 62 = .ok (.iaload, 1) := by decide +kernel
theorem dX9_signOf_63 : decode cX9_signOf 63 = .ok (.i2l, 1) := by decide +kernel
theorem dX9_signOf_64 : decode cX9_signOf 64 = .ok (.lmul, 1) := by decide +kernel
theorem dX9_signOf_65 : decode cX9_signOf 65 = .ok (.lload_n 1, 1) := by decide +kernel
theorem dX9_signOf_66 : decode cX9_signOf 66 = .ok (.lmul, 1) := by decide +kernel
theorem dX9_signOf_67 : decode cX9_signOf 67 = .ok (.lload_n 1, 1) := by decide +kernel
theorem dX9_signOf_68 : decode cX9_signOf 68 = .ok (.lmul, 1) := by decide +kernel
theorem dX9_signOf_69 : decode cX9_signOf 69 = .ok (.ldc2_w 71, 3) := by decide +kernel
theorem dX9_signOf_72 : decode cX9_signOf 72 = .ok (.lload 8, 2) := by decide +kernel
theorem dX9_signOf_74 : decode cX9_signOf 74 = .ok (.lmul, 1) := by decide +kernel
theorem dX9_signOf_75 : decode cX9_signOf 75 = .ok (.aload_n 0, 1) := by decide +kernel
theorem dX9_signOf_76 : decode cX9_signOf 76 = .ok (.getfield 13, 3) := by decide +kernel
theorem dX9_signOf_79 : decode cX9_signOf 79 = .ok (.iconst 3, 1) := by decide +kernel
theorem dX9_signOf_80 : decode cX9_signOf 80 = .ok (.iaload, 1) := by decide +kernel
theorem dX9_signOf_81 : decode cX9_signOf 81 = .ok (.i2l, 1) := by decide +kernel
theorem dX9_signOf_82 : decode cX9_signOf 82 = .ok (.lmul, 1) := by decide +kernel
theorem dX9_signOf_83 : decode cX9_signOf 83 = .ok (.lsub, 1) := by decide +kernel
theorem dX9_signOf_84 : decode cX9_signOf 84 = .ok (.lload 8, 2) := by decide +kernel
theorem dX9_signOf_86 : decode cX9_signOf 86 = .ok (.aload_n 0, 1) := by decide +kernel
theorem dX9_signOf_87 : decode cX9_signOf 87 = .ok (.getfield 13, 3) := by decide +kernel
theorem dX9_signOf_90 : decode cX9_signOf 90 = .ok (.iconst 0, 1) := by decide +kernel
theorem dX9_signOf_91 : decode cX9_signOf 91 = .ok (.iaload, 1) := by decide +kernel
theorem dX9_signOf_92 : decode cX9_signOf 92 = .ok (.i2l, 1) := by decide +kernel
theorem dX9_signOf_93 : decode cX9_signOf 93 = .ok (.lmul, 1) := by decide +kernel
theorem dX9_signOf_94 : decode cX9_signOf 94 = .ok (.lload_n 1, 1) := by decide +kernel
theorem dX9_signOf_95 : decode cX9_signOf 95 = .ok (.lmul, 1) := by decide +kernel
theorem dX9_signOf_96 : decode cX9_signOf 96 = .ok (.aload_n 0, 1) := by decide +kernel
theorem dX9_signOf_97 : decode cX9_signOf 97 = .ok (.getfield 13, 3) := by decide +kernel
theorem dX9_signOf_100 : decode cX9_signOf 100 = .ok (.iconst 0, 1) := by decide +kernel
theorem dX9_signOf_101 : decode cX9_signOf 101 = .ok (.iaload, 1) := by decide +kernel
theorem dX9_signOf_102 : decode cX9_signOf 102 = .ok (.i2l, 1) := by decide +kernel
theorem dX9_signOf_103 : decode cX9_signOf 103 = .ok (.lload_n 1, 1) := by decide +kernel
theorem dX9_signOf_104 : decode cX9_signOf 104 = .ok (.lmul, 1) := by decide +kernel
theorem dX9_signOf_105 : decode cX9_signOf 105 = .ok (.ldc2_w 73, 3) := by decide +kernel
theorem dX9_signOf_108 : decode cX9_signOf 108 = .ok (.lload 5, 2) := by decide +kernel
theorem dX9_signOf_110 : decode cX9_signOf 110 = .ok (.lmul, 1) := by decide +kernel
theorem dX9_signOf_111 : decode cX9_signOf 111 = .ok (.ladd, 1) := by decide +kernel
theorem dX9_signOf_112 : decode cX9_signOf 112 = .ok (.lmul, 1) := by decide +kernel
theorem dX9_signOf_113 : decode cX9_signOf 113 = .ok (.ladd, 1) := by decide +kernel
theorem dX9_signOf_114 : decode cX9_signOf 114 = .ok (.lreturn, 1) := by decide +kernel
theorem dX9_signOf_115 : decode cX9_signOf 115 = .ok (.iload 7, 2) := by decide +kernel
theorem dX9_signOf_117 : decode cX9_signOf 117 = .ok (.iconst 1, 1) := by decide +kernel
theorem dX9_signOf_118 : decode cX9_signOf 118 = .ok (.if_icmp .ne 61, 3) := by decide +kernel
theorem dX9_signOf_121 : decode cX9_signOf 121 = .ok (.ldc2_w 73, 3) := by decide +kernel
theorem dX9_signOf_124 : decode cX9_signOf 124 = .ok (.aload_n 0, 1) := by decide +kernel
theorem dX9_signOf_125 : decode cX9_signOf 125 = .ok (.getfield 13, 3) := by decide +kernel
theorem dX9_signOf_128 : decode cX9_signOf 128 = .ok (.iconst 0, 1) := by decide +kernel
theorem dX9_signOf_129 : decode cX9_signOf 129 = .ok (.iaload, 1) := by decide +kernel
theorem dX9_signOf_130 : decode cX9_signOf 130 = .ok (.i2l, 1) := by decide +kernel
theorem dX9_signOf_131 : decode cX9_signOf 131 = .ok (.lmul, 1) := by decide +kernel
theorem dX9_signOf_132 : decode cX9_signOf 132 = .ok (.lload_n 1, 1) := by decide +kernel
theorem dX9_signOf_133 : decode cX9_signOf 133 = .ok (.lmul, 1) := by decide +kernel
theorem dX9_signOf_134 : decode cX9_signOf 134 = .ok (.lload_n 1, 1) := by decide +kernel
theorem dX9_signOf_135 : decode cX9_signOf 135 = .ok (.lload_n 1, 1) := by decide +kernel
theorem dX9_signOf_136 : decode cX9_signOf 136 = .ok (.lmul, 1) := by decide +kernel
theorem dX9_signOf_137 : decode cX9_signOf 137 = .ok (.lload 8, 2) := by decide +kernel
theorem dX9_signOf_139 : decode cX9_signOf 139 = .ok (.lload 10, 2) := by decide +kernel
theorem dX9_signOf_141 : decode cX9_signOf 141 = .ok (.lmul, 1) := by decide +kernel
theorem dX9_signOf_142 : decode cX9_signOf 142 = .ok (.ladd, 1) := by decide +kernel
theorem dX9_signOf_143 : decode cX9_signOf 143 = .ok (.lmul, 1) := by decide +kernel
theorem dX9_signOf_144 : decode cX9_signOf 144 = .ok (.ldc2_w 71, 3) := by decide +kernel
theorem dX9_signOf_147 : decode cX9_signOf 147 = .ok (.lload 8, 2) := by decide +kernel
theorem dX9_signOf_149 : decode cX9_signOf 149 = .ok (.lmul, 1) := by decide +kernel
theorem dX9_signOf_150 : decode cX9_signOf 150 = .ok (.aload_n 0, 1) := by decide +kernel
theorem dX9_signOf_151 : decode cX9_signOf 151 = .ok (.getfield 13, 3) := by decide +kernel
theorem dX9_signOf_154 : decode cX9_signOf 154 = .ok (.iconst 3, 1) := by decide +kernel
theorem dX9_signOf_155 : decode cX9_signOf 155 = .ok (.iaload, 1) := by decide +kernel
theorem dX9_signOf_156 : decode cX9_signOf 156 = .ok (.i2l, 1) := by decide +kernel
theorem dX9_signOf_157 : decode cX9_signOf 157 = .ok (.lmul, 1) := by decide +kernel
theorem dX9_signOf_158 : decode cX9_signOf 158 = .ok (.aload_n 0, 1) := by decide +kernel
theorem dX9_signOf_159 : decode cX9_signOf 159 = .ok (.getfield 13, 3) := by decide +kernel
theorem dX9_signOf_162 : decode cX9_signOf 162 = .ok (.iconst 5, 1) := by decide +kernel
theorem dX9_signOf_163 : decode cX9_signOf 163 = .ok (.iaload, 1) := by decide +kernel
theorem dX9_signOf_164 : decode cX9_signOf 164 = .ok (.i2l, 1) := by decide +kernel
theorem dX9_signOf_165 : decode cX9_signOf 165 = .ok (.lmul, 1) := by decide +kernel
theorem dX9_signOf_166 : decode cX9_signOf 166 = .ok (.lsub, 1) := by decide +kernel
theorem dX9_signOf_167 : decode cX9_signOf 167 = .ok (.ldc2_w 71, 3) := by decide +kernel
theorem dX9_signOf_170 : decode cX9_signOf 170 = .ok (.lload 5, 2) := by decide +kernel
theorem dX9_signOf_172 : decode cX9_signOf 172 = .ok (.lmul, 1) := by decide +kernel
theorem dX9_signOf_173 : decode cX9_signOf 173 = .ok (.lload_n 1, 1) := by decide +kernel
theorem dX9_signOf_174 : decode cX9_signOf 174 = .ok (.lmul, 1) := by decide +kernel
theorem dX9_signOf_175 : decode cX9_signOf 175 = .ok (.lload_n 1, 1) := by decide +kernel
theorem dX9_signOf_176 : decode cX9_signOf 176 = .ok (.lmul, 1) := by decide +kernel
theorem dX9_signOf_177 : decode cX9_signOf 177 = .ok (.ladd, 1) := by decide +kernel
theorem dX9_signOf_178 : decode cX9_signOf 178 = .ok (.lreturn, 1) := by decide +kernel
theorem dX9_signOf_179 : decode cX9_signOf 179 = .ok (.ldc2_w 71, 3) := by decide +kernel
theorem dX9_signOf_182 : decode cX9_signOf 182 = .ok (.lload_n 1, 1) := by decide +kernel
theorem dX9_signOf_183 : decode cX9_signOf 183 = .ok (.lmul, 1) := by decide +kernel
theorem dX9_signOf_184 : decode cX9_signOf 184 = .ok (.lload_n 1, 1) := by decide +kernel
theorem dX9_signOf_185 : decode cX9_signOf 185 = .ok (.lmul, 1) := by decide +kernel
theorem dX9_signOf_186 : decode cX9_signOf 186 = .ok (.lload 10, 2) := by decide +kernel
theorem dX9_signOf_188 : decode cX9_signOf 188 = .ok (.lmul, 1) := by decide +kernel
theorem dX9_signOf_189 : decode cX9_signOf 189 = .ok (.ldc2_w 73, 3) := by decide +kernel
theorem dX9_signOf_192 : decode cX9_signOf 192 = .ok (.aload_n 0, 1) := by decide +kernel
theorem dX9_signOf_193 : decode cX9_signOf 193 = .ok (.getfield 13, 3) := by decide +kernel
theorem dX9_signOf_196 : decode cX9_signOf 196 = .ok (.iconst 3, 1) := by decide +kernel
theorem dX9_signOf_197 : decode cX9_signOf 197 = .ok (.iaload, 1) := by decide +kernel
theorem dX9_signOf_198 : decode cX9_signOf 198 = .ok (.i2l, 1) := by decide +kernel
theorem dX9_signOf_199 : decode cX9_signOf 199 = .ok (.lmul, 1) := by decide +kernel
theorem dX9_signOf_200 : decode cX9_signOf 200 = .ok (.aload_n 0, 1) := by decide +kernel
theorem dX9_signOf_201 : decode cX9_signOf 201 = .ok (.getfield 13, 3) := by decide +kernel
theorem dX9_signOf_204 : decode cX9_signOf 204 = .ok (.iconst 1, 1) := by decide +kernel
theorem dX9_signOf_205 : decode cX9_signOf 205 = .ok (.iaload, 1) := by decide +kernel
theorem dX9_signOf_206 : decode cX9_signOf 206 = .ok (.i2l, 1) := by decide +kernel
theorem dX9_signOf_207 : decode cX9_signOf 207 = .ok (.lmul, 1) := by decide +kernel
theorem dX9_signOf_208 : decode cX9_signOf 208 = .ok (.lload_n 1, 1) := by decide +kernel
theorem dX9_signOf_209 : decode cX9_signOf 209 = .ok (.lmul, 1) := by decide +kernel
theorem dX9_signOf_210 : decode cX9_signOf 210 = .ok (.lload_n 1, 1) := by decide +kernel
theorem dX9_signOf_211 : decode cX9_signOf 211 = .ok (.lmul, 1) := by decide +kernel
theorem dX9_signOf_212 : decode cX9_signOf 212 = .ok (.lsub, 1) := by decide +kernel
theorem dX9_signOf_213 : decode cX9_signOf 213 = .ok (.lreturn, 1) := by decide +kernel
set_option maxRecDepth 20000 in
theorem ggX9_isUp_X9_signOf : GoodIn wsX9_isUp wsX9_signOf := goodIn_r _ [7, 2, 1, 8, 9, 10, 11, 12, 13, 14, 15, 16, 17, 18, 19, 20, 21, 22, 23, 24, 25, 26, 27, 28, 29] (by decide +kernel) (by decide +kernel)
set_option maxRecDepth 20000 in
theorem gX9_isUp_X9_signOf : GoodIn wsX9_isUp (wsV RX9 75 RX9 yX9_signOf wsX9_signOf) := goodIn_app (goodIn_of _ (by decide +kernel)) ggX9_isUp_X9_signOf
theorem dX9_isUp_0 : decode cX9_isUp 0 = .ok (.aload_n 0, 1) := by decide +kernel
theorem dX9_isUp_1 : decode cX9_isUp 1 = .ok (.iload_n 1, 1) := by decide +kernel
theorem dX9_isUp_2 : decode cX9_isUp 2 = .ok (.i2l, 1) := by decide +kernel
theorem dX9_isUp_3 : decode cX9_isUp 3 = .ok (.iload_n 2, 1) := by decide +kernel
theorem dX9_isUp_4 : decode cX9_isUp 4 = .ok (.i2l, 1) := by decide +kernel
theorem dX9_isUp_5 : decode cX9_isUp 5 = .ok (.iload_n 3, 1) := by decide +kernel
theorem dX9_isUp_6 : decode cX9_isUp 6 = .ok (.i2l, 1) := by decide +kernel
theorem dX9_isUp_7 : decode cX9_isUp 7 = .ok (.iconst 3, 1) := by decide +kernel
theorem dX9_isUp_8 : decode cX9_isUp 8 = .ok (.invokevirtual 75, 3) := by decide +kernel
theorem dX9_isUp_11 : decode cX9_isUp 11 = .ok (.lstore 4, 2) := by decide +kernel
theorem dX9_isUp_13 : decode cX9_isUp 13 = .ok (.aload_n 0, 1) := by decide +kernel
theorem dX9_isUp_14 : decode cX9_isUp 14 = .ok (.iload_n 1, 1) := by decide +kernel
theorem dX9_isUp_15 : decode cX9_isUp 15 = .ok (.i2l, 1) := by decide +kernel
theorem dX9_isUp_16 : decode cX9_isUp 16 = .ok (.iload_n 2, 1) := by decide +kernel
theorem dX9_isUp_17 : decode cX9_isUp 17 = .ok (.i2l, 1) := by decide +kernel
theorem dX9_isUp_18 : decode cX9_isUp 18 = .ok (.iload_n 3, 1) := by decide +kernel
theorem dX9_isUp_19 : decode cX9_isUp 19 = .ok (.i2l, 1) := by decide +kernel
theorem dX9_isUp_20 : decode cX9_isUp 20 = .ok (.iconst 2, 1) := by decide +kernel
theorem dX9_isUp_21 : decode cX9_isUp 21 = .ok (.invokevirtual 75, 3) := by decide +kernel
theorem dX9_isUp_24 : decode cX9_isUp 24 = .ok (.lstore 6, 2) := by decide +kernel
theorem dX9_isUp_26 : decode cX9_isUp 26 = .ok (.aload_n 0, 1) := by decide +kernel
theorem dX9_isUp_27 : decode cX9_isUp 27 = .ok (.iload_n 1, 1) := by decide +kernel
theorem dX9_isUp_28 : decode cX9_isUp 28 = .ok (.i2l, 1) := by decide +kernel
theorem dX9_isUp_29 : decode cX9_isUp 29 = .ok (.iload_n 2, 1) := by decide +kernel
theorem dX9_isUp_30 : decode cX9_isUp 30 = .ok (.i2l, 1) := by decide +kernel
theorem dX9_isUp_31 : decode cX9_isUp 31 = .ok (.iload_n 3, 1) := by decide +kernel
theorem dX9_isUp_32 : decode cX9_isUp 32 = .ok (.i2l, 1) := by decide +kernel
theorem dX9_isUp_33 : decode cX9_isUp 33 = .ok (.iconst 1, 1) := by decide +kernel
theorem dX9_isUp_34 : decode cX9_isUp 34 = .ok (.invokevirtual 75, 3) := by decide +kernel
theorem dX9_isUp_37 : decode cX9_isUp 37 = .ok (.lstore 8, 2) := by decide +kernel
theorem dX9_isUp_39 : decode cX9_isUp 39 = .ok (.aload_n 0, 1) := by decide +kernel
theorem dX9_isUp_40 : decode cX9_isUp 40 = .ok (.iload_n 1, 1) := by decide +kernel
theorem dX9_isUp_41 : decode cX9_isUp 41 = .ok (.i2l, 1) := by decide +kernel
theorem dX9_isUp_42 : decode cX9_isUp 42 = .ok (.iload_n 2, 1) := by decide +kernel
theorem dX9_isUp_43 : decode cX9_isUp 43 = .ok (.i2l, 1) := by decide +kernel
theorem dX9_isUp_44 : decode cX9_isUp 44 = .ok (.iload_n 3, 1) := by decide +kernel
theorem dX9_isUp_45 : decode cX9_isUp 45 = .ok (.i2l, 1) := by decide +kernel
theorem dX9_isUp_46 : decode cX9_isUp 46 = .ok (.iconst 0, 1) := by decide +kernel
theorem dX9_isUp_47 : decode cX9_isUp 47 = .ok (.invokevirtual 75, 3) := by decide +kernel
theorem dX9_isUp_50 : decode cX9_isUp 50 = .ok (.lstore 10, 2) := by decide +kernel
theorem dX9_isUp_52 : decode cX9_isUp 52 = .ok (.lload 4, 2) := by decide +kernel
theorem dX9_isUp_54 : decode cX9_isUp 54 = .ok (.lconst 0, 1) := by decide +kernel
theorem dX9_isUp_55 : decode cX9_isUp 55 = .ok (.lcmp, 1) := by decide +kernel
theorem dX9_isUp_56 : decode cX9_isUp 56 = .ok (.ifCond .le 28, 3) := by decide +kernel
theorem dX9_isUp_59 : decode cX9_isUp 59 = .ok (.lload 6, 2) := by decide +kernel
theorem dX9_isUp_61 : decode cX9_isUp 61 = .ok (.lconst 0, 1) := by decide +kernel
theorem dX9_isUp_62 : decode cX9_isUp 62 = .ok (.lcmp, 1) := by decide +kernel
theorem dX9_isUp_63 : decode cX9_isUp 63 = .ok (.ifCond .le 21, 3) := by decide +kernel
theorem dX9_isUp_66 : decode cX9_isUp 66 = .ok (.lload 8, 2) := by decide +kernel
theorem dX9_isUp_68 : decode cX9_isUp 68 = .ok (.lconst 0, 1) := by decide +kernel
theorem dX9_isUp_69 : decode cX9_isUp 69 = .ok (.lcmp, 1) := by decide +kernel
theorem dX9_isUp_70 : decode cX9_isUp 70 = .ok (.ifCond .le 14, 3) := by decide +kernel
theorem dX9_isUp_73 : decode cX9_isUp 73 = .ok (.lload 10, 2) := by decide +kernel
theorem dX9_isUp_75 : decode cX9_isUp 75 = .ok (.lconst 0, 1) := by decide +kernel
theorem dX9_isUp_76 : decode cX9_isUp 76 = .ok (.lcmp, 1) := by decide +kernel
theorem dX9_isUp_77 : decode cX9_isUp 77 = .ok (.ifCond .le 7, 3) := by decide +kernel
theorem dX9_isUp_80 : decode cX9_isUp 80 = .ok (.iconst 1, 1) := by decide +kernel
theorem dX9_isUp_81 : decode cX9_isUp 81 = .ok (.goto 4, 3) := by decide +kernel
theorem dX9_isUp_84 : decode cX9_isUp 84 = .ok (.iconst 0, 1) := by decide +kernel
theorem dX9_isUp_85 : decode cX9_isUp 85 = .ok (.istore 12, 2) := by decide +kernel
theorem dX9_isUp_87 : decode cX9_isUp 87 = .ok (.iload 12, 2) := by decide +kernel
theorem dX9_isUp_89 : decode cX9_isUp 89 = .ok (.ifCond .eq 45, 3) := by decide +kernel
theorem dX9_isUp_92 : decode cX9_isUp 92 = .ok (.lload 4, 2) := by decide +kernel
theorem dX9_isUp_94 : decode cX9_isUp 94 = .ok (.lload 6, 2) := by decide +kernel
theorem dX9_isUp_96 : decode cX9_isUp 96 = .ok (.lmul, 1) := by decide +kernel
theorem dX9_isUp_97 : decode cX9_isUp 97 = .ok (.lload 8, 2) := by decide +kernel
theorem dX9_isUp_99 : decode cX9_isUp 99 = .ok (.lmul, 1) := by decide +kernel
theorem dX9_isUp_100 : decode cX9_isUp 100 = .ok (.ldc2_w 71, 3) := by decide +kernel
theorem dX9_isUp_103 : decode cX9_isUp 103 = .ok (.aload_n 0, 1) := by decide +kernel
theorem dX9_isUp_104 : decode cX9_isUp 104 = .ok (.getfield 13, 3) := by decide +kernel
theorem dX9_isUp_107 : decode cX9_isUp 107 = .ok (.iconst 4, 1) := by decide +kernel
theorem dX9_isUp_108 : decode cX9_isUp 108 = .ok (.iaload, 1) := by decide +kernel
theorem dX9_isUp_109 : decode cX9_isUp 109 = .ok (.i2l, 1) := by decide +kernel
theorem dX9_isUp_110 : decode cX9_isUp 110 = .ok (.lmul, 1) := by decide +kernel
theorem dX9_isUp_111 : decode cX9_isUp 111 = .ok (.lload 8, 2) := by decide +kernel
theorem dX9_isUp_113 : decode cX9_isUp 113 = .ok (.lmul, 1) := by decide +kernel
theorem dX9_isUp_114 : decode cX9_isUp 114 = .ok (.lload 8, 2) := by decide +kernel
theorem dX9_isUp_116 : decode cX9_isUp 116 = .ok (.lmul, 1) := by decide +kernel
theorem dX9_isUp_117 : decode cX9_isUp 117 = .ok (.lload 4, 2) := by decide +kernel
theorem dX9_isUp_119 : decode cX9_isUp 119 = .ok (.lload 4, 2) := by decide +kernel
theorem dX9_isUp_121 : decode cX9_isUp 121 = .ok (.lmul, 1) := by decide +kernel
theorem dX9_isUp_122 : decode cX9_isUp 122 = .ok (.lload 10, 2) := by decide +kernel
theorem dX9_isUp_124 : decode cX9_isUp 124 = .ok (.lmul, 1) := by decide +kernel
theorem dX9_isUp_125 : decode cX9_isUp 125 = .ok (.ladd, 1) := by decide +kernel
theorem dX9_isUp_126 : decode cX9_isUp 126 = .ok (.lcmp, 1) := by decide +kernel
theorem dX9_isUp_127 : decode cX9_isUp 127 = .ok (.ifCond .le 7, 3) := by decide +kernel
theorem dX9_isUp_130 : decode cX9_isUp 130 = .ok (.iconst 1, 1) := by decide +kernel
theorem dX9_isUp_131 : decode cX9_isUp 131 = .ok (.goto 4, 3) := by decide +kernel
theorem dX9_isUp_134 : decode cX9_isUp 134 = .ok (.iconst 0, 1) := by decide +kernel
theorem dX9_isUp_135 : decode cX9_isUp 135 = .ok (.ireturn, 1) := by decide +kernel
set_option maxRecDepth 20000 in
theorem ggX9_isAsked_X9_isBicycle : GoodIn wsX9_isAsked wsX9_isBicycle := goodIn_r _ [4, 5, 6, 3, 7] (by decide +kernel) (by decide +kernel)
set_option maxRecDepth 20000 in
theorem gX9_isAsked_X9_isBicycle : GoodIn wsX9_isAsked (va_wsS RX9 59 yX9_isBicycle wsX9_isBicycle) := goodIn_app (goodIn_of _ (by decide +kernel)) ggX9_isAsked_X9_isBicycle
set_option maxRecDepth 20000 in
theorem ggX9_isAsked_X9_in : GoodIn wsX9_isAsked wsX9_in := goodIn_r _ [7] (by decide +kernel) (by decide +kernel)
set_option maxRecDepth 20000 in
theorem gX9_isAsked_X9_in : GoodIn wsX9_isAsked (va_wsS RX9 51 yX9_in wsX9_in) := goodIn_app (goodIn_of _ (by decide +kernel)) ggX9_isAsked_X9_in
theorem dX9_isAsked_0 : decode cX9_isAsked 0 = .ok (.iload_n 0, 1) := by decide +kernel
theorem dX9_isAsked_1 : decode cX9_isAsked 1 = .ok (.invokestatic 59, 3) := by decide +kernel
theorem dX9_isAsked_4 : decode cX9_isAsked 4 = .ok (.ifCond .eq 39, 3) := by decide +kernel
theorem dX9_isAsked_7 : decode cX9_isAsked 7 = .ok (.iload_n 1, 1) := by decide +kernel
theorem dX9_isAsked_8 : decode cX9_isAsked 8 = .ok (.iconst 0, 1) := by decide +kernel
theorem dX9_isAsked_9 : decode cX9_isAsked 9 = .ok (.bipush 40, 2) := by decide +kernel
theorem dX9_isAsked_11 : decode cX9_isAsked 11 = .ok (.invokestatic 51, 3) := by decide +kernel
theorem dX9_isAsked_14 : decode cX9_isAsked 14 = .ok (.ifCond .eq 29, 3) := by decide +kernel
theorem dX9_isAsked_17 : decode cX9_isAsked 17 = .ok (.iload_n 2, 1) := by decide +kernel
theorem dX9_isAsked_18 : decode cX9_isAsked 18 = .ok (.bipush (-99), 2) := by decide +kernel
theorem dX9_isAsked_20 : decode cX9_isAsked 20 = .ok (.bipush 99, 2) := by decide +kernel
theorem dX9_isAsked_22 : decode cX9_isAsked 22 = .ok (.invokestatic 51, 3) := by decide +kernel
theorem dX9_isAsked_25 : decode cX9_isAsked 25 = .ok (.ifCond .eq 18, 3) := by decide +kernel
theorem dX9_isAsked_28 : decode cX9_isAsked 28 = .ok (.iload_n 3, 1) := by decide +kernel
theorem dX9_isAsked_29 : decode cX9_isAsked 29 = .ok (.bipush (-99), 2) := by decide +kernel
theorem dX9_isAsked_31 : decode cX9_isAsked 31 = .ok (.bipush 99, 2) := by decide +kernel
theorem dX9_isAsked_33 : decode cX9_isAsked 33 = .ok (.invokestatic 51, 3) := by decide +kernel
theorem dX9_isAsked_36 : decode cX9_isAsked 36 = .ok (.ifCond .eq 7, 3) := by decide +kernel
theorem dX9_isAsked_39 : decode cX9_isAsked 39 = .ok (.iconst 1, 1) := by decide +kernel
theorem dX9_isAsked_40 : decode cX9_isAsked 40 = .ok (.goto 4, 3) := by decide +kernel
theorem dX9_isAsked_43 : decode cX9_isAsked 43 = .ok (.iconst 0, 1) := by decide +kernel
theorem dX9_isAsked_44 : decode cX9_isAsked 44 = .ok (.ireturn, 1) := by decide +kernel
set_option maxRecDepth 20000 in
theorem ggX9_sign_X9_isAsked : GoodIn wsX9_sign wsX9_isAsked := goodIn_r _ [6, 7, 8, 5, 9, 10, 11, 12] (by decide +kernel) (by decide +kernel)
set_option maxRecDepth 20000 in
theorem gX9_sign_X9_isAsked : GoodIn wsX9_sign (va_wsS RX9 79 yX9_isAsked wsX9_isAsked) := goodIn_app (goodIn_of _ (by decide +kernel)) ggX9_sign_X9_isAsked
set_option maxRecDepth 20000 in
theorem ggX9_sign_X9_in : GoodIn wsX9_sign wsX9_in := goodIn_r _ [12] (by decide +kernel) (by decide +kernel)
set_option maxRecDepth 20000 in
theorem gX9_sign_X9_in : GoodIn wsX9_sign (va_wsS RX9 51 yX9_in wsX9_in) := goodIn_app (goodIn_of _ (by decide +kernel)) ggX9_sign_X9_in
set_option maxRecDepth 20000 in
theorem ggX9_sign_X9_takes : GoodIn wsX9_sign wsX9_takes := goodIn_r _ [16, 17, 18, 25, 26, 27, 28, 29, 30, 31, 32, 33, 34, 35, 36, 37, 38, 39, 40, 41, 42, 43, 44, 45] (by decide +kernel) (by decide +kernel)
set_option maxRecDepth 20000 in
theorem gX9_sign_X9_takes : GoodIn wsX9_sign (wsV RX9 85 RX9 yX9_takes wsX9_takes) := goodIn_app (goodIn_of _ (by decide +kernel)) ggX9_sign_X9_takes
set_option maxRecDepth 20000 in
theorem ggX9_sign_X9_signOf : GoodIn wsX9_sign wsX9_signOf := goodIn_r _ [22, 17, 23, 24, 25, 26, 27, 28, 29, 30, 31, 32, 33, 34, 35, 36, 37, 38, 39, 40, 41, 42, 43, 44, 45] (by decide +kernel) (by decide +kernel)
set_option maxRecDepth 20000 in
theorem gX9_sign_X9_signOf : GoodIn wsX9_sign (wsV RX9 75 RX9 yX9_signOf wsX9_signOf) := goodIn_app (goodIn_of _ (by decide +kernel)) ggX9_sign_X9_signOf
theorem dX9_sign_0 : decode cX9_sign 0 = .ok (.aload_n 0, 1) := by decide +kernel
theorem dX9_sign_1 : decode cX9_sign 1 = .ok (.iconst 0, 1) := by decide +kernel
theorem dX9_sign_2 : decode cX9_sign 2 = .ok (.putfield 48, 3) := by decide +kernel
theorem dX9_sign_5 : decode cX9_sign 5 = .ok (.iload_n 1, 1) := by decide +kernel
theorem dX9_sign_6 : decode cX9_sign 6 = .ok (.iload_n 2, 1) := by decide +kernel
theorem dX9_sign_7 : decode cX9_sign 7 = .ok (.iload_n 3, 1) := by decide +kernel
theorem dX9_sign_8 : decode cX9_sign 8 = .ok (.iload 4, 2) := by decide +kernel
theorem dX9_sign_10 : decode cX9_sign 10 = .ok (.invokestatic 79, 3) := by decide +kernel
theorem dX9_sign_13 : decode cX9_sign 13 = .ok (.ifCond .eq 13, 3) := by decide +kernel
theorem dX9_sign_16 : decode cX9_sign 16 = .ok (.iload 5, 2) := by decide +kernel
theorem dX9_sign_18 : decode cX9_sign 18 = .ok (.iconst 0, 1) := by decide +kernel
theorem dX9_sign_19 : decode cX9_sign 19 = .ok (.iconst 3, 1) := by decide +kernel
theorem dX9_sign_20 : decode cX9_sign 20 = .ok (.invokestatic 51, 3) := by decide +kernel
theorem dX9_sign_23 : decode cX9_sign 23 = .ok (.ifCond .ne 7, 3) := by decide +kernel
theorem dX9_sign_26 : decode cX9_sign 26 = .ok (.ldc2_w 83, 3) := by decide +kernel
theorem dX9_sign_29 : decode cX9_sign 29 = .ok (.lreturn, 1) := by decide +kernel
theorem dX9_sign_30 : decode cX9_sign 30 = .ok (.aload_n 0, 1) := by decide +kernel
theorem dX9_sign_31 : decode cX9_sign 31 = .ok (.iload_n 1, 1) := by decide +kernel
theorem dX9_sign_32 : decode cX9_sign 32 = .ok (.invokevirtual 85, 3) := by decide +kernel
theorem dX9_sign_35 : decode cX9_sign 35 = .ok (.aload_n 0, 1) := by decide +kernel
theorem dX9_sign_36 : decode cX9_sign 36 = .ok (.iload_n 2, 1) := by decide +kernel
theorem dX9_sign_37 : decode cX9_sign 37 = .ok (.i2l, 1) := by decide +kernel
theorem dX9_sign_38 : decode cX9_sign 38 = .ok (.iload_n 3, 1) := by decide +kernel
theorem dX9_sign_39 : decode cX9_sign 39 = .ok (.i2l, 1) := by decide +kernel
theorem dX9_sign_40 : decode cX9_sign 40 = .ok (.iload 4, 2) := by decide +kernel
theorem dX9_sign_42 : decode cX9_sign 42 = .ok (.i2l, 1) := by decide +kernel
theorem dX9_sign_43 : decode cX9_sign 43 = .ok (.iload 5, 2) := by decide +kernel
theorem dX9_sign_45 : decode cX9_sign 45 = .ok (.invokevirtual 75, 3) := by decide +kernel
theorem dX9_sign_48 : decode cX9_sign 48 = .ok (.lreturn, 1) := by decide +kernel
set_option maxRecDepth 20000 in
theorem ggX9_stays_X9_isAsked : GoodIn wsX9_stays wsX9_isAsked := goodIn_r _ [5, 6, 7, 4, 8, 9, 10, 11] (by decide +kernel) (by decide +kernel)
set_option maxRecDepth 20000 in
theorem gX9_stays_X9_isAsked : GoodIn wsX9_stays (va_wsS RX9 79 yX9_isAsked wsX9_isAsked) := goodIn_app (goodIn_of _ (by decide +kernel)) ggX9_stays_X9_isAsked
set_option maxRecDepth 20000 in
theorem ggX9_stays_X9_takes : GoodIn wsX9_stays wsX9_takes := goodIn_r _ [15, 16, 17, 28, 29, 30, 31, 32, 33, 34, 35, 36, 37, 38, 39, 40, 41, 42, 43, 44, 45, 46, 47, 48] (by decide +kernel) (by decide +kernel)
set_option maxRecDepth 20000 in
theorem gX9_stays_X9_takes : GoodIn wsX9_stays (wsV RX9 85 RX9 yX9_takes wsX9_takes) := goodIn_app (goodIn_of _ (by decide +kernel)) ggX9_stays_X9_takes
set_option maxRecDepth 20000 in
theorem ggX9_stays_X9_isUp : GoodIn wsX9_stays wsX9_isUp := goodIn_r _ [21, 22, 16, 23, 24, 25, 4, 26, 27, 28, 29, 30, 31, 32, 33, 34, 35, 36, 37, 38, 39, 40, 41, 42, 43, 44, 45, 46, 47, 48] (by decide +kernel) (by decide +kernel)
set_option maxRecDepth 20000 in
theorem gX9_stays_X9_isUp : GoodIn wsX9_stays (wsV RX9 89 RX9 yX9_isUp wsX9_isUp) := goodIn_app (goodIn_of _ (by decide +kernel)) ggX9_stays_X9_isUp
set_option maxRecDepth 20000 in
theorem ggX9_stays_X9_signOf : GoodIn wsX9_stays wsX9_signOf := goodIn_r _ [26, 16, 22, 27, 28, 29, 30, 31, 32, 33, 34, 35, 36, 37, 38, 39, 40, 41, 42, 43, 44, 45, 46, 47, 48] (by decide +kernel) (by decide +kernel)
set_option maxRecDepth 20000 in
theorem gX9_stays_X9_signOf : GoodIn wsX9_stays (wsV RX9 75 RX9 yX9_signOf wsX9_signOf) := goodIn_app (goodIn_of _ (by decide +kernel)) ggX9_stays_X9_signOf
theorem dX9_stays_0 : decode cX9_stays 0 = .ok (.aload_n 0, 1) := by decide +kernel
theorem dX9_stays_1 : decode cX9_stays 1 = .ok (.iconst 0, 1) := by decide +kernel
theorem dX9_stays_2 : decode cX9_stays 2 = .ok (.putfield 48, 3) := by decide +kernel
theorem dX9_stays_5 : decode cX9_stays 5 = .ok (.iload_n 1, 1) := by decide +kernel
theorem dX9_stays_6 : decode cX9_stays 6 = .ok (.iload_n 2, 1) := by decide +kernel
theorem dX9_stays_7 : decode cX9_stays 7 = .ok (.iload_n 3, 1) := by decide +kernel
theorem dX9_stays_8 : decode cX9_stays 8 = .ok (.iload 4, 2) := by decide +kernel
theorem dX9_stays_10 : decode cX9_stays 10 = .ok (.invokestatic 79, 3) := by decide +kernel
theorem dX9_stays_13 : decode cX9_stays 13 = .ok (.ifCond .ne 5, 3) := by decide +kernel
theorem dX9_stays_16 : decode cX9_stays 16 = .ok (.iconst (-1), 1) := by decide +kernel
theorem dX9_stays_17 : decode cX9_stays 17 = .ok (.ireturn, 1) := by decide +kernel
theorem dX9_stays_18 : decode cX9_stays 18 = .ok (.aload_n 0, 1) := by decide +kernel
theorem dX9_stays_19 : decode cX9_stays 19 = .ok (.iload_n 1, 1) := by decide +kernel
theorem dX9_stays_20 : decode cX9_stays 20 = .ok (.invokevirtual 85, 3) := by decide +kernel
theorem dX9_stays_23 : decode cX9_stays 23 = .ok (.aload_n 0, 1) := by decide +kernel
theorem dX9_stays_24 : decode cX9_stays 24 = .ok (.iload_n 2, 1) := by decide +kernel
theorem dX9_stays_25 : decode cX9_stays 25 = .ok (.iload_n 3, 1) := by decide +kernel
theorem dX9_stays_26 : decode cX9_stays 26 = .ok (.iload 4, 2) := by decide +kernel
theorem dX9_stays_28 : decode cX9_stays 28 = .ok (.invokevirtual 89, 3) := by decide +kernel
theorem dX9_stays_31 : decode cX9_stays 31 = .ok (.ifCond .eq 7, 3) := by decide +kernel
theorem dX9_stays_34 : decode cX9_stays 34 = .ok (.iconst 0, 1) := by decide +kernel
theorem dX9_stays_35 : decode cX9_stays 35 = .ok (.goto 25, 3) := by decide +kernel
theorem dX9_stays_38 : decode cX9_stays 38 = .ok (.aload_n 0, 1) := by decide +kernel
theorem dX9_stays_39 : decode cX9_stays 39 = .ok (.iload_n 2, 1) := by decide +kernel
theorem dX9_stays_40 : decode cX9_stays 40 = .ok (.i2l, 1) := by decide +kernel
theorem dX9_stays_41 : decode cX9_stays 41 = .ok (.iload_n 3, 1) := by decide +kernel
theorem dX9_stays_42 : decode cX9_stays 42 = .ok (.i2l, 1) := by decide +kernel
theorem dX9_stays_43 : decode cX9_stays 43 = .ok (.iload 4, 2) := by decide +kernel
theorem dX9_stays_45 : decode cX9_stays 45 = .ok (.i2l, 1) := by decide +kernel
theorem dX9_stays_46 : decode cX9_stays 46 = .ok (.iconst 0, 1) := by decide +kernel
theorem dX9_stays_47 : decode cX9_stays 47 = .ok (.invokevirtual 75, 3) := by decide +kernel
theorem dX9_stays_50 : decode cX9_stays 50 = .ok (.lconst 0, 1) := by decide +kernel
theorem dX9_stays_51 : decode cX9_stays 51 = .ok (.lcmp, 1) := by decide +kernel
theorem dX9_stays_52 : decode cX9_stays 52 = .ok (.ifCond .gt 7, 3) := by decide +kernel
theorem dX9_stays_55 : decode cX9_stays 55 = .ok (.iconst 1, 1) := by decide +kernel
theorem dX9_stays_56 : decode cX9_stays 56 = .ok (.goto 4, 3) := by decide +kernel
theorem dX9_stays_59 : decode cX9_stays 59 = .ok (.iconst 2, 1) := by decide +kernel
theorem dX9_stays_60 : decode cX9_stays 60 = .ok (.ireturn, 1) := by decide +kernel
set_option maxRecDepth 20000 in
theorem ggX9_speeds_X9_isUp : GoodIn wsX9_speeds wsX9_isUp := goodIn_r _ [5, 6, 7, 8, 9, 10, 4, 11, 12, 13, 14, 15, 16, 17, 18, 19, 20, 21, 22, 23, 24, 25, 26, 27, 28, 29, 30, 31, 32, 33] (by decide +kernel) (by decide +kernel)
set_option maxRecDepth 20000 in
theorem gX9_speeds_X9_isUp : GoodIn wsX9_speeds (wsV RX9 89 RX9 yX9_isUp wsX9_isUp) := goodIn_app (goodIn_of _ (by decide +kernel)) ggX9_speeds_X9_isUp
theorem dX9_speeds_0 : decode cX9_speeds 0 = .ok (.lconst 0, 1) := by decide +kernel
theorem dX9_speeds_1 : decode cX9_speeds 1 = .ok (.lstore_n 1, 1) := by decide +kernel
theorem dX9_speeds_2 : decode cX9_speeds 2 = .ok (.iconst 0, 1) := by decide +kernel
theorem dX9_speeds_3 : decode cX9_speeds 3 = .ok (.istore_n 3, 1) := by decide +kernel
theorem dX9_speeds_4 : decode cX9_speeds 4 = .ok (.iload_n 3, 1) := by decide +kernel
theorem dX9_speeds_5 : decode cX9_speeds 5 = .ok (.bipush 41, 2) := by decide +kernel
theorem dX9_speeds_7 : decode cX9_speeds 7 = .ok (.if_icmp .ge 29, 3) := by decide +kernel
theorem dX9_speeds_10 : decode cX9_speeds 10 = .ok (.lload_n 1, 1) := by decide +kernel
theorem dX9_speeds_11 : decode cX9_speeds 11 = .ok (.aload_n 0, 1) := by decide +kernel
theorem dX9_speeds_12 : decode cX9_speeds 12 = .ok (.iload_n 3, 1) := by decide +kernel
theorem dX9_speeds_13 : decode cX9_speeds 13 = .ok (.iconst 0, 1) := by decide +kernel
theorem dX9_speeds_14 : decode cX9_speeds 14 = .ok (.iconst 0, 1) := by decide +kernel
theorem dX9_speeds_15 : decode cX9_speeds 15 = .ok (.invokevirtual 89, 3) := by decide +kernel
theorem dX9_speeds_18 : decode cX9_speeds 18 = .ok (.ifCond .eq 9, 3) := by decide +kernel
theorem dX9_speeds_21 : decode cX9_speeds 21 = .ok (.lconst 1, 1) := by decide +kernel
theorem dX9_speeds_22 : decode cX9_speeds 22 = .ok (.iload_n 3, 1) := by decide +kernel
theorem dX9_speeds_23 : decode cX9_speeds 23 = .ok (.lshl, 1) := by decide +kernel
theorem dX9_speeds_24 : decode cX9_speeds 24 = .ok (.goto 4, 3) := by decide +kernel
theorem dX9_speeds_27 : decode cX9_speeds 27 = .ok (.lconst 0, 1) := by decide +kernel
theorem dX9_speeds_28 : decode cX9_speeds 28 = .ok (.lor, 1) := by decide +kernel
theorem dX9_speeds_29 : decode cX9_speeds 29 = .ok (.lstore_n 1, 1) := by decide +kernel
theorem dX9_speeds_30 : decode cX9_speeds 30 = .ok (.iinc 3 1, 3) := by decide +kernel
theorem dX9_speeds_33 : decode cX9_speeds 33 = .ok (.goto (-29), 3) := by decide +kernel
theorem dX9_speeds_36 : decode cX9_speeds 36 = .ok (.lload_n 1, 1) := by decide +kernel
theorem dX9_speeds_37 : decode cX9_speeds 37 = .ok (.lreturn, 1) := by decide +kernel
set_option maxRecDepth 20000 in
theorem ggX9_manySpeeds_X9_isUp : GoodIn wsX9_manySpeeds wsX9_isUp := goodIn_r _ [5, 6, 7, 8, 9, 10, 4, 11, 12, 13, 14, 15, 16, 17, 18, 19, 20, 21, 22, 23, 24, 25, 26, 27, 28, 29, 30, 31, 32, 33] (by decide +kernel) (by decide +kernel)
set_option maxRecDepth 20000 in
theorem gX9_manySpeeds_X9_isUp : GoodIn wsX9_manySpeeds (wsV RX9 89 RX9 yX9_isUp wsX9_isUp) := goodIn_app (goodIn_of _ (by decide +kernel)) ggX9_manySpeeds_X9_isUp
theorem dX9_manySpeeds_0 : decode cX9_manySpeeds 0 = .ok (.iconst 0, 1) := by decide +kernel
theorem dX9_manySpeeds_1 : decode cX9_manySpeeds 1 = .ok (.istore_n 1, 1) := by decide +kernel
theorem dX9_manySpeeds_2 : decode cX9_manySpeeds 2 = .ok (.iconst 0, 1) := by decide +kernel
theorem dX9_manySpeeds_3 : decode cX9_manySpeeds 3 = .ok (.istore_n 2, 1) := by decide +kernel
theorem dX9_manySpeeds_4 : decode cX9_manySpeeds 4 = .ok (.iload_n 2, 1) := by decide +kernel
theorem dX9_manySpeeds_5 : decode cX9_manySpeeds 5 = .ok (.bipush 41, 2) := by decide +kernel
theorem dX9_manySpeeds_7 : decode cX9_manySpeeds 7 = .ok (.if_icmp .ge 27, 3) := by decide +kernel
theorem dX9_manySpeeds_10 : decode cX9_manySpeeds 10 = .ok (.iload_n 1, 1) := by decide +kernel
theorem dX9_manySpeeds_11 : decode cX9_manySpeeds 11 = .ok (.aload_n 0, 1) := by decide +kernel
theorem dX9_manySpeeds_12 : decode cX9_manySpeeds 12 = .ok (.iload_n 2, 1) := by decide +kernel
theorem dX9_manySpeeds_13 : decode cX9_manySpeeds 13 = .ok (.iconst 0, 1) := by decide +kernel
theorem dX9_manySpeeds_14 : decode cX9_manySpeeds 14 = .ok (.iconst 0, 1) := by decide +kernel
theorem dX9_manySpeeds_15 : decode cX9_manySpeeds 15 = .ok (.invokevirtual 89, 3) := by decide +kernel
theorem dX9_manySpeeds_18 : decode cX9_manySpeeds 18 = .ok (.ifCond .eq 7, 3) := by decide +kernel
theorem dX9_manySpeeds_21 : decode cX9_manySpeeds 21 = .ok (.iconst 1, 1) := by decide +kernel
theorem dX9_manySpeeds_22 : decode cX9_manySpeeds 22 = .ok (.goto 4, 3) := by decide +kernel
theorem dX9_manySpeeds_25 : decode cX9_manySpeeds 25 = .ok (.iconst 0, 1) := by decide +kernel
theorem dX9_manySpeeds_26 : decode cX9_manySpeeds 26 = .ok (.iadd, 1) := by decide +kernel
theorem dX9_manySpeeds_27 : decode cX9_manySpeeds 27 = .ok (.istore_n 1, 1) := by decide +kernel
theorem dX9_manySpeeds_28 : decode cX9_manySpeeds 28 = .ok (.iinc 2 1, 3) := by decide +kernel
theorem dX9_manySpeeds_31 : decode cX9_manySpeeds 31 = .ok (.goto (-27), 3) := by decide +kernel
theorem dX9_manySpeeds_34 : decode cX9_manySpeeds 34 = .ok (.iload_n 1, 1) := by decide +kernel
theorem dX9_manySpeeds_35 : decode cX9_manySpeeds 35 = .ok (.ireturn, 1) := by decide +kernel
set_option maxRecDepth 20000 in
theorem ggX9_range_X9_isBicycle : GoodIn wsX9_range wsX9_isBicycle := goodIn_r _ [6, 7, 8, 5, 9] (by decide +kernel) (by decide +kernel)
set_option maxRecDepth 20000 in
theorem gX9_range_X9_isBicycle : GoodIn wsX9_range (va_wsS RX9 59 yX9_isBicycle wsX9_isBicycle) := goodIn_app (goodIn_of _ (by decide +kernel)) ggX9_range_X9_isBicycle
set_option maxRecDepth 20000 in
theorem ggX9_range_X9_takes : GoodIn wsX9_range wsX9_takes := goodIn_r _ [13, 14, 15, 30, 31, 32, 33, 34, 35, 36, 37, 38, 39, 40, 41, 42, 43, 44, 45, 46, 47, 48, 49, 50] (by decide +kernel) (by decide +kernel)
set_option maxRecDepth 20000 in
theorem gX9_range_X9_takes : GoodIn wsX9_range (wsV RX9 85 RX9 yX9_takes wsX9_takes) := goodIn_app (goodIn_of _ (by decide +kernel)) ggX9_range_X9_takes
set_option maxRecDepth 20000 in
theorem ggX9_range_X9_speeds : GoodIn wsX9_range wsX9_speeds := goodIn_r _ [19, 20, 21, 22, 5, 23, 24, 14, 25, 26, 27, 28, 29, 30, 31, 32, 33, 34, 35, 36, 37, 38, 39, 40, 41, 42, 43, 44, 45, 46, 47, 48, 49, 50] (by decide +kernel) (by decide +kernel)
set_option maxRecDepth 20000 in
theorem gX9_range_X9_speeds : GoodIn wsX9_range (wsV RX9 94 RX9 yX9_speeds wsX9_speeds) := goodIn_app (goodIn_of _ (by decide +kernel)) ggX9_range_X9_speeds
theorem dX9_range_0 : decode cX9_range 0 = .ok (.aload_n 0, 1) := by decide +kernel
theorem dX9_range_1 : decode cX9_range 1 = .ok (.iconst 0, 1) := by decide +kernel
theorem dX9_range_2 : decode cX9_range 2 = .ok (.putfield 48, 3) := by decide +kernel
theorem dX9_range_5 : decode cX9_range 5 = .ok (.iload_n 1, 1) := by decide +kernel
theorem dX9_range_6 : decode cX9_range 6 = .ok (.invokestatic 59, 3) := by decide +kernel
theorem dX9_range_9 : decode cX9_range 9 = .ok (.ifCond .ne 7, 3) := by decide +kernel
theorem dX9_range_12 : decode cX9_range 12 = .ok (.ldc2_w 92, 3) := by decide +kernel
theorem dX9_range_15 : decode cX9_range 15 = .ok (.lreturn, 1) := by decide +kernel
theorem dX9_range_16 : decode cX9_range 16 = .ok (.aload_n 0, 1) := by decide +kernel
theorem dX9_range_17 : decode cX9_range 17 = .ok (.iload_n 1, 1) := by decide +kernel
theorem dX9_range_18 : decode cX9_range 18 = .ok (.invokevirtual 85, 3) := by decide +kernel
theorem dX9_range_21 : decode cX9_range 21 = .ok (.aload_n 0, 1) := by decide +kernel
theorem dX9_range_22 : decode cX9_range 22 = .ok (.invokevirtual 94, 3) := by decide +kernel
theorem dX9_range_25 : decode cX9_range 25 = .ok (.lreturn, 1) := by decide +kernel
set_option maxRecDepth 20000 in
theorem ggX9_rangeWithout_X9_takes : GoodIn wsX9_rangeWithout wsX9_takes := goodIn_r _ [6, 1, 7, 22, 23, 24, 25, 26, 27, 28, 29, 30, 31, 32, 33, 34, 35, 36, 37, 38, 39, 40, 41, 42] (by decide +kernel) (by decide +kernel)
set_option maxRecDepth 20000 in
theorem gX9_rangeWithout_X9_takes : GoodIn wsX9_rangeWithout (wsV RX9 85 RX9 yX9_takes wsX9_takes) := goodIn_app (goodIn_of _ (by decide +kernel)) ggX9_rangeWithout_X9_takes
set_option maxRecDepth 20000 in
theorem ggX9_rangeWithout_X9_speeds : GoodIn wsX9_rangeWithout wsX9_speeds := goodIn_r _ [11, 12, 13, 14, 5, 15, 16, 1, 17, 18, 19, 20, 21, 22, 23, 24, 25, 26, 27, 28, 29, 30, 31, 32, 33, 34, 35, 36, 37, 38, 39, 40, 41, 42] (by decide +kernel) (by decide +kernel)
set_option maxRecDepth 20000 in
theorem gX9_rangeWithout_X9_speeds : GoodIn wsX9_rangeWithout (wsV RX9 94 RX9 yX9_speeds wsX9_speeds) := goodIn_app (goodIn_of _ (by decide +kernel)) ggX9_rangeWithout_X9_speeds
theorem dX9_rangeWithout_0 : decode cX9_rangeWithout 0 = .ok (.aload_n 0, 1) := by decide +kernel
theorem dX9_rangeWithout_1 : decode cX9_rangeWithout 1 = .ok (.iload_n 1, 1) := by decide +kernel
theorem dX9_rangeWithout_2 : decode cX9_rangeWithout 2 = .ok (.invokevirtual 85, 3) := by decide +kernel
theorem dX9_rangeWithout_5 : decode cX9_rangeWithout 5 = .ok (.aload_n 0, 1) := by decide +kernel
theorem dX9_rangeWithout_6 : decode cX9_rangeWithout 6 = .ok (.getfield 13, 3) := by decide +kernel
theorem dX9_rangeWithout_9 : decode cX9_rangeWithout 9 = .ok (.iload_n 2, 1) := by decide +kernel
theorem dX9_rangeWithout_10 : decode cX9_rangeWithout 10 = .ok (.iconst 0, 1) := by decide +kernel
theorem dX9_rangeWithout_11 : decode cX9_rangeWithout 11 = .ok (.iastore, 1) := by decide +kernel
theorem dX9_rangeWithout_12 : decode cX9_rangeWithout 12 = .ok (.aload_n 0, 1) := by decide +kernel
theorem dX9_rangeWithout_13 : decode cX9_rangeWithout 13 = .ok (.invokevirtual 94, 3) := by decide +kernel
theorem dX9_rangeWithout_16 : decode cX9_rangeWithout 16 = .ok (.lreturn, 1) := by decide +kernel
set_option maxRecDepth 20000 in
theorem ggX9_without_X9_isBicycle : GoodIn wsX9_without wsX9_isBicycle := goodIn_r _ [6, 7, 8, 5, 9] (by decide +kernel) (by decide +kernel)
set_option maxRecDepth 20000 in
theorem gX9_without_X9_isBicycle : GoodIn wsX9_without (va_wsS RX9 59 yX9_isBicycle wsX9_isBicycle) := goodIn_app (goodIn_of _ (by decide +kernel)) ggX9_without_X9_isBicycle
set_option maxRecDepth 20000 in
theorem ggX9_without_X9_in : GoodIn wsX9_without wsX9_in := goodIn_r _ [9] (by decide +kernel) (by decide +kernel)
set_option maxRecDepth 20000 in
theorem gX9_without_X9_in : GoodIn wsX9_without (va_wsS RX9 51 yX9_in wsX9_in) := goodIn_app (goodIn_of _ (by decide +kernel)) ggX9_without_X9_in
set_option maxRecDepth 20000 in
theorem ggX9_without_X9_rangeWithout : GoodIn wsX9_without wsX9_rangeWithout := goodIn_r _ [13, 14, 15, 16, 17, 5, 18, 19, 20, 21, 22, 23, 24, 25, 26, 27, 28, 29, 30, 31, 32, 33, 34, 35, 36, 37, 38, 39, 40, 41, 42, 43, 44, 45, 46, 47, 48, 49, 50, 51, 52, 53, 54] (by decide +kernel) (by decide +kernel)
set_option maxRecDepth 20000 in
theorem gX9_without_X9_rangeWithout : GoodIn wsX9_without (wsV RX9 98 RX9 yX9_rangeWithout wsX9_rangeWithout) := goodIn_app (goodIn_of _ (by decide +kernel)) ggX9_without_X9_rangeWithout
theorem dX9_without_0 : decode cX9_without 0 = .ok (.aload_n 0, 1) := by decide +kernel
theorem dX9_without_1 : decode cX9_without 1 = .ok (.iconst 0, 1) := by decide +kernel
theorem dX9_without_2 : decode cX9_without 2 = .ok (.putfield 48, 3) := by decide +kernel
theorem dX9_without_5 : decode cX9_without 5 = .ok (.iload_n 1, 1) := by decide +kernel
theorem dX9_without_6 : decode cX9_without 6 = .ok (.invokestatic 59, 3) := by decide +kernel
theorem dX9_without_9 : decode cX9_without 9 = .ok (.ifCond .eq 21, 3) := by decide +kernel
theorem dX9_without_12 : decode cX9_without 12 = .ok (.iload_n 2, 1) := by decide +kernel
theorem dX9_without_13 : decode cX9_without 13 = .ok (.iconst 0, 1) := by decide +kernel
theorem dX9_without_14 : decode cX9_without 14 = .ok (.iconst 2, 1) := by decide +kernel
theorem dX9_without_15 : decode cX9_without 15 = .ok (.invokestatic 51, 3) := by decide +kernel
theorem dX9_without_18 : decode cX9_without 18 = .ok (.ifCond .eq 12, 3) := by decide +kernel
theorem dX9_without_21 : decode cX9_without 21 = .ok (.aload_n 0, 1) := by decide +kernel
theorem dX9_without_22 : decode cX9_without 22 = .ok (.iload_n 1, 1) := by decide +kernel
theorem dX9_without_23 : decode cX9_without 23 = .ok (.iload_n 2, 1) := by decide +kernel
theorem dX9_without_24 : decode cX9_without 24 = .ok (.invokevirtual 98, 3) := by decide +kernel
theorem dX9_without_27 : decode cX9_without 27 = .ok (.goto 6, 3) := by decide +kernel
theorem dX9_without_30 : decode cX9_without 30 = .ok (.ldc2_w 92, 3) := by decide +kernel
theorem dX9_without_33 : decode cX9_without 33 = .ok (.lreturn, 1) := by decide +kernel
set_option maxRecDepth 20000 in
theorem ggX9_allTheSame_X9_mayBe : GoodIn wsX9_allTheSame wsX9_mayBe := goodIn_r _ [8, 9, 10, 7, 11, 12, 13, 14] (by decide +kernel) (by decide +kernel)
set_option maxRecDepth 20000 in
theorem gX9_allTheSame_X9_mayBe : GoodIn wsX9_allTheSame (va_wsS RX9 66 yX9_mayBe wsX9_mayBe) := goodIn_app (goodIn_of _ (by decide +kernel)) ggX9_allTheSame_X9_mayBe
set_option maxRecDepth 20000 in
theorem ggX9_allTheSame_X9_speeds : GoodIn wsX9_allTheSame wsX9_speeds := goodIn_r _ [18, 19, 20, 21, 7, 22, 23, 2, 24, 25, 26, 27, 28, 29, 30, 31, 32, 33, 34, 35, 36, 37, 38, 39, 40, 41, 42, 43, 44, 45, 46, 47, 48, 49] (by decide +kernel) (by decide +kernel)
set_option maxRecDepth 20000 in
theorem gX9_allTheSame_X9_speeds : GoodIn wsX9_allTheSame (wsV RX9 94 RX9 yX9_speeds wsX9_speeds) := goodIn_app (goodIn_of _ (by decide +kernel)) ggX9_allTheSame_X9_speeds
theorem dX9_allTheSame_0 : decode cX9_allTheSame 0 = .ok (.bipush 7, 2) := by decide +kernel
theorem dX9_allTheSame_2 : decode cX9_allTheSame 2 = .ok (.istore_n 3, 1) := by decide +kernel
theorem dX9_allTheSame_3 : decode cX9_allTheSame 3 = .ok (.iconst 0, 1) := by decide +kernel
theorem dX9_allTheSame_4 : decode cX9_allTheSame 4 = .ok (.istore 4, 2) := by decide +kernel
theorem dX9_allTheSame_6 : decode cX9_allTheSame 6 = .ok (.iload 4, 2) := by decide +kernel
theorem dX9_allTheSame_8 : decode cX9_allTheSame 8 = .ok (.ldc 102, 2) := by decide +kernel
theorem dX9_allTheSame_10 : decode cX9_allTheSame 10 = .ok (.if_icmp .ge 187, 3) := by decide +kernel
theorem dX9_allTheSame_13 : decode cX9_allTheSame 13 = .ok (.iload 4, 2) := by decide +kernel
theorem dX9_allTheSame_15 : decode cX9_allTheSame 15 = .ok (.istore 5, 2) := by decide +kernel
theorem dX9_allTheSame_17 : decode cX9_allTheSame 17 = .ok (.iconst 0, 1) := by decide +kernel
theorem dX9_allTheSame_18 : decode cX9_allTheSame 18 = .ok (.istore 6, 2) := by decide +kernel
theorem dX9_allTheSame_20 : decode cX9_allTheSame 20 = .ok (.iconst 1, 1) := by decide +kernel
theorem dX9_allTheSame_21 : decode cX9_allTheSame 21 = .ok (.istore 7, 2) := by decide +kernel
theorem dX9_allTheSame_23 : decode cX9_allTheSame 23 = .ok (.iconst 5, 1) := by decide +kernel
