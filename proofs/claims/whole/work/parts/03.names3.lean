theorem dX8_sign_1 : decode cX8_sign 1 = .ok (.invokestatic 93, 3) := by decide +kernel
theorem dX8_sign_4 : decode cX8_sign 4 = .ok (.ifCond .eq 35, 3) := by decide +kernel
theorem dX8_sign_7 : decode cX8_sign 7 = .ok (.iload_n 2, 1) := by decide +kernel
theorem dX8_sign_8 : decode cX8_sign 8 = .ok (.invokestatic 119, 3) := by decide +kernel
theorem dX8_sign_11 : decode cX8_sign 11 = .ok (.ifCond .eq 28, 3) := by decide +kernel
theorem dX8_sign_14 : decode cX8_sign 14 = .ok (.iload_n 3, 1) := by decide +kernel
theorem dX8_sign_15 : decode cX8_sign 15 = .ok (.invokestatic 122, 3) := by decide +kernel
theorem dX8_sign_18 : decode cX8_sign 18 = .ok (.ifCond .eq 21, 3) := by decide +kernel
theorem dX8_sign_21 : decode cX8_sign 21 = .ok (.iload 4, 2) := by decide +kernel
theorem dX8_sign_23 : decode cX8_sign 23 = .ok (.invokestatic 122, 3) := by decide +kernel
theorem dX8_sign_26 : decode cX8_sign 26 = .ok (.ifCond .eq 13, 3) := by decide +kernel
theorem dX8_sign_29 : decode cX8_sign 29 = .ok (.iload 5, 2) := by decide +kernel
theorem dX8_sign_31 : decode cX8_sign 31 = .ok (.iconst 0, 1) := by decide +kernel
theorem dX8_sign_32 : decode cX8_sign 32 = .ok (.iconst 3, 1) := by decide +kernel
theorem dX8_sign_33 : decode cX8_sign 33 = .ok (.invokestatic 106, 3) := by decide +kernel
theorem dX8_sign_36 : decode cX8_sign 36 = .ok (.ifCond .ne 7, 3) := by decide +kernel
theorem dX8_sign_39 : decode cX8_sign 39 = .ok (.ldc2_w 127, 3) := by decide +kernel
theorem dX8_sign_42 : decode cX8_sign 42 = .ok (.lreturn, 1) := by decide +kernel
theorem dX8_sign_43 : decode cX8_sign 43 = .ok (.aload_n 0, 1) := by decide +kernel
theorem dX8_sign_44 : decode cX8_sign 44 = .ok (.getfield 11, 3) := by decide +kernel
theorem dX8_sign_47 : decode cX8_sign 47 = .ok (.iload_n 1, 1) := by decide +kernel
theorem dX8_sign_48 : decode cX8_sign 48 = .ok (.aaload, 1) := by decide +kernel
theorem dX8_sign_49 : decode cX8_sign 49 = .ok (.astore 6, 2) := by decide +kernel
theorem dX8_sign_51 : decode cX8_sign 51 = .ok (.iload 5, 2) := by decide +kernel
theorem dX8_sign_53 : decode cX8_sign 53 = .ok (.tableswitch 52 1 3 #[42, 33, 27], 27) := by decide +kernel
theorem dX8_sign_80 : decode cX8_sign 80 = .ok (.aload 6, 2) := by decide +kernel
theorem dX8_sign_82 : decode cX8_sign 82 = .ok (.invokevirtual 129, 3) := by decide +kernel
theorem dX8_sign_85 : decode cX8_sign 85 = .ok (.lreturn, 1) := by decide +kernel
theorem dX8_sign_86 : decode cX8_sign 86 = .ok (.aload 6, 2) := by decide +kernel
theorem dX8_sign_88 : decode cX8_sign 88 = .ok (.iload_n 2, 1) := by decide +kernel
theorem dX8_sign_89 : decode cX8_sign 89 = .ok (.iload 4, 2) := by decide +kernel
theorem dX8_sign_91 : decode cX8_sign 91 = .ok (.invokevirtual 133, 3) := by decide +kernel
theorem dX8_sign_94 : decode cX8_sign 94 = .ok (.lreturn, 1) := by decide +kernel
theorem dX8_sign_95 : decode cX8_sign 95 = .ok (.aload 6, 2) := by decide +kernel
theorem dX8_sign_97 : decode cX8_sign 97 = .ok (.iload_n 2, 1) := by decide +kernel
theorem dX8_sign_98 : decode cX8_sign 98 = .ok (.iload_n 3, 1) := by decide +kernel
theorem dX8_sign_99 : decode cX8_sign 99 = .ok (.iload 4, 2) := by decide +kernel
theorem dX8_sign_101 : decode cX8_sign 101 = .ok (.invokevirtual 137, 3) := by decide +kernel
theorem dX8_sign_104 : decode cX8_sign 104 = .ok (.lreturn, 1) := by decide +kernel
theorem dX8_sign_105 : decode cX8_sign 105 = .ok (.aload 6, 2) := by decide +kernel
theorem dX8_sign_107 : decode cX8_sign 107 = .ok (.iload_n 2, 1) := by decide +kernel
theorem dX8_sign_108 : decode cX8_sign 108 = .ok (.iload_n 3, 1) := by decide +kernel
theorem dX8_sign_109 : decode cX8_sign 109 = .ok (.invokevirtual 141, 3) := by decide +kernel
theorem dX8_sign_112 : decode cX8_sign 112 = .ok (.lreturn, 1) := by decide +kernel
set_option maxRecDepth 20000 in
theorem ggX8_stays_X8_isBicycle : GoodIn wsX8_stays wsX8_isBicycle := goodIn_r _ [5, 6, 7, 4, 8] (by decide +kernel) (by decide +kernel)
set_option maxRecDepth 20000 in
theorem gX8_stays_X8_isBicycle : GoodIn wsX8_stays (va_wsS RX8 93 yX8_isBicycle wsX8_isBicycle) := goodIn_app (goodIn_of _ (by decide +kernel)) ggX8_stays_X8_isBicycle
set_option maxRecDepth 20000 in
theorem ggX8_stays_X8_isSpeed : GoodIn wsX8_stays wsX8_isSpeed := goodIn_r _ [11, 6, 7, 4, 8] (by decide +kernel) (by decide +kernel)
set_option maxRecDepth 20000 in
theorem gX8_stays_X8_isSpeed : GoodIn wsX8_stays (va_wsS RX8 119 yX8_isSpeed wsX8_isSpeed) := goodIn_app (goodIn_of _ (by decide +kernel)) ggX8_stays_X8_isSpeed
set_option maxRecDepth 20000 in
theorem ggX8_stays_X8_isHand : GoodIn wsX8_stays wsX8_isHand := goodIn_r _ [14, 6, 7, 4, 8] (by decide +kernel) (by decide +kernel)
set_option maxRecDepth 20000 in
theorem gX8_stays_X8_isHand : GoodIn wsX8_stays (va_wsS RX8 122 yX8_isHand wsX8_isHand) := goodIn_app (goodIn_of _ (by decide +kernel)) ggX8_stays_X8_isHand
set_option maxRecDepth 20000 in
theorem ggX8_stays_X0_staysUp : GoodIn wsX8_stays wsX0_staysUp := goodIn_r _ [18, 19, 20, 21, 22, 23, 16, 24, 25, 26, 27, 28, 29, 30, 31, 32, 33, 34, 35, 36, 37, 54] (by decide +kernel) (by decide +kernel)
set_option maxRecDepth 20000 in
theorem gX8_stays_X0_staysUp_n144 : GoodIn wsX8_stays (wsX0_staysUp) := ggX8_stays_X0_staysUp
set_option maxRecDepth 20000 in
theorem ggX8_stays_X0_signZero : GoodIn wsX8_stays wsX0_signZero := goodIn_r _ [24, 19, 20, 25, 54] (by decide +kernel) (by decide +kernel)
set_option maxRecDepth 20000 in
theorem gX8_stays_X0_signZero_n141 : GoodIn wsX8_stays (wsX0_signZero) := ggX8_stays_X0_signZero
theorem dX8_stays_0 : decode cX8_stays 0 = .ok (.iload_n 1, 1) := by decide +kernel
theorem dX8_stays_1 : decode cX8_stays 1 = .ok (.invokestatic 93, 3) := by decide +kernel
theorem dX8_stays_4 : decode cX8_stays 4 = .ok (.ifCond .eq 25, 3) := by decide +kernel
theorem dX8_stays_7 : decode cX8_stays 7 = .ok (.iload_n 2, 1) := by decide +kernel
theorem dX8_stays_8 : decode cX8_stays 8 = .ok (.invokestatic 119, 3) := by decide +kernel
theorem dX8_stays_11 : decode cX8_stays 11 = .ok (.ifCond .eq 18, 3) := by decide +kernel
theorem dX8_stays_14 : decode cX8_stays 14 = .ok (.iload_n 3, 1) := by decide +kernel
theorem dX8_stays_15 : decode cX8_stays 15 = .ok (.invokestatic 122, 3) := by decide +kernel
theorem dX8_stays_18 : decode cX8_stays 18 = .ok (.ifCond .eq 11, 3) := by decide +kernel
theorem dX8_stays_21 : decode cX8_stays 21 = .ok (.iload 4, 2) := by decide +kernel
theorem dX8_stays_23 : decode cX8_stays 23 = .ok (.invokestatic 122, 3) := by decide +kernel
theorem dX8_stays_26 : decode cX8_stays 26 = .ok (.ifCond .ne 5, 3) := by decide +kernel
theorem dX8_stays_29 : decode cX8_stays 29 = .ok (.iconst (-1), 1) := by decide +kernel
theorem dX8_stays_30 : decode cX8_stays 30 = .ok (.ireturn, 1) := by decide +kernel
theorem dX8_stays_31 : decode cX8_stays 31 = .ok (.aload_n 0, 1) := by decide +kernel
theorem dX8_stays_32 : decode cX8_stays 32 = .ok (.getfield 11, 3) := by decide +kernel
theorem dX8_stays_35 : decode cX8_stays 35 = .ok (.iload_n 1, 1) := by decide +kernel
theorem dX8_stays_36 : decode cX8_stays 36 = .ok (.aaload, 1) := by decide +kernel
theorem dX8_stays_37 : decode cX8_stays 37 = .ok (.iload_n 2, 1) := by decide +kernel
theorem dX8_stays_38 : decode cX8_stays 38 = .ok (.iload_n 3, 1) := by decide +kernel
theorem dX8_stays_39 : decode cX8_stays 39 = .ok (.iload 4, 2) := by decide +kernel
theorem dX8_stays_41 : decode cX8_stays 41 = .ok (.invokevirtual 144, 3) := by decide +kernel
theorem dX8_stays_44 : decode cX8_stays 44 = .ok (.ifCond .eq 5, 3) := by decide +kernel
theorem dX8_stays_47 : decode cX8_stays 47 = .ok (.iconst 0, 1) := by decide +kernel
theorem dX8_stays_48 : decode cX8_stays 48 = .ok (.ireturn, 1) := by decide +kernel
theorem dX8_stays_49 : decode cX8_stays 49 = .ok (.aload_n 0, 1) := by decide +kernel
theorem dX8_stays_50 : decode cX8_stays 50 = .ok (.getfield 11, 3) := by decide +kernel
theorem dX8_stays_53 : decode cX8_stays 53 = .ok (.iload_n 1, 1) := by decide +kernel
theorem dX8_stays_54 : decode cX8_stays 54 = .ok (.aaload, 1) := by decide +kernel
theorem dX8_stays_55 : decode cX8_stays 55 = .ok (.iload_n 2, 1) := by decide +kernel
theorem dX8_stays_56 : decode cX8_stays 56 = .ok (.iload_n 3, 1) := by decide +kernel
theorem dX8_stays_57 : decode cX8_stays 57 = .ok (.invokevirtual 141, 3) := by decide +kernel
theorem dX8_stays_60 : decode cX8_stays 60 = .ok (.lconst 0, 1) := by decide +kernel
theorem dX8_stays_61 : decode cX8_stays 61 = .ok (.lcmp, 1) := by decide +kernel
theorem dX8_stays_62 : decode cX8_stays 62 = .ok (.ifCond .gt 7, 3) := by decide +kernel
theorem dX8_stays_65 : decode cX8_stays 65 = .ok (.iconst 1, 1) := by decide +kernel
theorem dX8_stays_66 : decode cX8_stays 66 = .ok (.goto 4, 3) := by decide +kernel
theorem dX8_stays_69 : decode cX8_stays 69 = .ok (.iconst 2, 1) := by decide +kernel
theorem dX8_stays_70 : decode cX8_stays 70 = .ok (.ireturn, 1) := by decide +kernel
set_option maxRecDepth 20000 in
theorem ggX8_range_X8_isBicycle : GoodIn wsX8_range wsX8_isBicycle := goodIn_r _ [6, 7, 8, 5, 9] (by decide +kernel) (by decide +kernel)
set_option maxRecDepth 20000 in
theorem gX8_range_X8_isBicycle : GoodIn wsX8_range (va_wsS RX8 93 yX8_isBicycle wsX8_isBicycle) := goodIn_app (goodIn_of _ (by decide +kernel)) ggX8_range_X8_isBicycle
set_option maxRecDepth 20000 in
theorem ggX8_range_X0_speeds : GoodIn wsX8_range wsX0_speeds := goodIn_r _ [13, 14, 15, 16, 17, 11, 18, 19, 20, 21, 22, 23, 24, 25, 26, 27, 28, 29, 30, 31, 32, 33, 34, 35, 36, 53] (by decide +kernel) (by decide +kernel)
set_option maxRecDepth 20000 in
theorem gX8_range_X0_speeds_n147 : GoodIn wsX8_range (wsX0_speeds) := ggX8_range_X0_speeds
theorem dX8_range_0 : decode cX8_range 0 = .ok (.iload_n 1, 1) := by decide +kernel
theorem dX8_range_1 : decode cX8_range 1 = .ok (.invokestatic 93, 3) := by decide +kernel
theorem dX8_range_4 : decode cX8_range 4 = .ok (.ifCond .eq 15, 3) := by decide +kernel
theorem dX8_range_7 : decode cX8_range 7 = .ok (.aload_n 0, 1) := by decide +kernel
theorem dX8_range_8 : decode cX8_range 8 = .ok (.getfield 11, 3) := by decide +kernel
theorem dX8_range_11 : decode cX8_range 11 = .ok (.iload_n 1, 1) := by decide +kernel
theorem dX8_range_12 : decode cX8_range 12 = .ok (.aaload, 1) := by decide +kernel
theorem dX8_range_13 : decode cX8_range 13 = .ok (.invokevirtual 147, 3) := by decide +kernel
theorem dX8_range_16 : decode cX8_range 16 = .ok (.goto 6, 3) := by decide +kernel
theorem dX8_range_19 : decode cX8_range 19 = .ok (.ldc2_w 150, 3) := by decide +kernel
theorem dX8_range_22 : decode cX8_range 22 = .ok (.lreturn, 1) := by decide +kernel
set_option maxRecDepth 20000 in
theorem ggX8_without_X8_isBicycle : GoodIn wsX8_without wsX8_isBicycle := goodIn_r _ [6, 7, 8, 5, 9] (by decide +kernel) (by decide +kernel)
set_option maxRecDepth 20000 in
theorem gX8_without_X8_isBicycle : GoodIn wsX8_without (va_wsS RX8 93 yX8_isBicycle wsX8_isBicycle) := goodIn_app (goodIn_of _ (by decide +kernel)) ggX8_without_X8_isBicycle
set_option maxRecDepth 20000 in
theorem ggX8_without_X8_isReason : GoodIn wsX8_without wsX8_isReason := goodIn_r _ [12, 7, 8, 5, 9] (by decide +kernel) (by decide +kernel)
set_option maxRecDepth 20000 in
theorem gX8_without_X8_isReason : GoodIn wsX8_without (va_wsS RX8 152 yX8_isReason wsX8_isReason) := goodIn_app (goodIn_of _ (by decide +kernel)) ggX8_without_X8_isReason
set_option maxRecDepth 20000 in
theorem ggX8_without_X8_speedsWith : GoodIn wsX8_without wsX8_speedsWith := goodIn_r _ [16, 17, 18, 19, 20, 21, 22, 23, 24, 25, 26, 27, 28, 29, 30, 5, 31, 7, 8, 9, 32, 33, 34, 35, 36, 37, 38, 39, 40, 41, 42, 43, 44, 45, 46, 47, 48, 49, 50, 51, 52, 53, 54, 55, 56, 57, 58, 59, 60, 61, 62, 63, 64, 65, 66, 67, 68, 69, 70, 71, 72, 73] (by decide +kernel) (by decide +kernel)
set_option maxRecDepth 20000 in
theorem gX8_without_X8_speedsWith : GoodIn wsX8_without (wsV RX8 155 RX8 yX8_speedsWith wsX8_speedsWith) := goodIn_app (goodIn_of _ (by decide +kernel)) ggX8_without_X8_speedsWith
theorem dX8_without_0 : decode cX8_without 0 = .ok (.iload_n 1, 1) := by decide +kernel
theorem dX8_without_1 : decode cX8_without 1 = .ok (.invokestatic 93, 3) := by decide +kernel
theorem dX8_without_4 : decode cX8_without 4 = .ok (.ifCond .eq 10, 3) := by decide +kernel
theorem dX8_without_7 : decode cX8_without 7 = .ok (.iload_n 2, 1) := by decide +kernel
theorem dX8_without_8 : decode cX8_without 8 = .ok (.invokestatic 152, 3) := by decide +kernel
theorem dX8_without_11 : decode cX8_without 11 = .ok (.ifCond .ne 7, 3) := by decide +kernel
theorem dX8_without_14 : decode cX8_without 14 = .ok (.ldc2_w 150, 3) := by decide +kernel
theorem dX8_without_17 : decode cX8_without 17 = .ok (.lreturn, 1) := by decide +kernel
theorem dX8_without_18 : decode cX8_without 18 = .ok (.aload_n 0, 1) := by decide +kernel
theorem dX8_without_19 : decode cX8_without 19 = .ok (.aload_n 0, 1) := by decide +kernel
theorem dX8_without_20 : decode cX8_without 20 = .ok (.getfield 11, 3) := by decide +kernel
theorem dX8_without_23 : decode cX8_without 23 = .ok (.iload_n 1, 1) := by decide +kernel
theorem dX8_without_24 : decode cX8_without 24 = .ok (.aaload, 1) := by decide +kernel
theorem dX8_without_25 : decode cX8_without 25 = .ok (.iload_n 2, 1) := by decide +kernel
theorem dX8_without_26 : decode cX8_without 26 = .ok (.iconst 0, 1) := by decide +kernel
theorem dX8_without_27 : decode cX8_without 27 = .ok (.invokevirtual 155, 3) := by decide +kernel
theorem dX8_without_30 : decode cX8_without 30 = .ok (.lreturn, 1) := by decide +kernel
set_option maxRecDepth 20000 in
theorem ggX8_reason_X8_isBicycle : GoodIn wsX8_reason wsX8_isBicycle := goodIn_r _ [7, 8, 9, 6, 10] (by decide +kernel) (by decide +kernel)
set_option maxRecDepth 20000 in
theorem gX8_reason_X8_isBicycle : GoodIn wsX8_reason (va_wsS RX8 93 yX8_isBicycle wsX8_isBicycle) := goodIn_app (goodIn_of _ (by decide +kernel)) ggX8_reason_X8_isBicycle
set_option maxRecDepth 20000 in
theorem ggX8_reason_X8_isReason : GoodIn wsX8_reason wsX8_isReason := goodIn_r _ [13, 8, 9, 6, 10] (by decide +kernel) (by decide +kernel)
set_option maxRecDepth 20000 in
theorem gX8_reason_X8_isReason : GoodIn wsX8_reason (va_wsS RX8 152 yX8_isReason wsX8_isReason) := goodIn_app (goodIn_of _ (by decide +kernel)) ggX8_reason_X8_isReason
set_option maxRecDepth 20000 in
theorem ggX8_reason_X8_within : GoodIn wsX8_reason wsX8_within := goodIn_r _ [10] (by decide +kernel) (by decide +kernel)
set_option maxRecDepth 20000 in
theorem gX8_reason_X8_within : GoodIn wsX8_reason (va_wsS RX8 106 yX8_within wsX8_within) := goodIn_app (goodIn_of _ (by decide +kernel)) ggX8_reason_X8_within
set_option maxRecDepth 20000 in
theorem ggX8_reason_X0_speeds : GoodIn wsX8_reason wsX0_speeds := goodIn_r _ [17, 18, 19, 20, 21, 15, 22, 23, 24, 25, 26, 27, 28, 29, 30, 31, 32, 33, 34, 35, 36, 37, 38, 39, 40, 99] (by decide +kernel) (by decide +kernel)
set_option maxRecDepth 20000 in
theorem gX8_reason_X0_speeds_n147 : GoodIn wsX8_reason (wsX0_speeds) := ggX8_reason_X0_speeds
set_option maxRecDepth 20000 in
theorem ggX8_reason_X8_speedsWith : GoodIn wsX8_reason wsX8_speedsWith := goodIn_r _ [44, 45, 46, 15, 47, 48, 18, 49, 50, 51, 52, 53, 54, 55, 56, 6, 57, 8, 9, 10, 14, 16, 17, 19, 20, 21, 22, 23, 24, 25, 26, 27, 28, 29, 30, 31, 32, 33, 34, 35, 36, 37, 38, 39, 40, 83, 84, 85, 86, 87, 88, 89, 90, 91, 92, 93, 94, 95, 96, 97, 98, 99] (by decide +kernel) (by decide +kernel)
set_option maxRecDepth 20000 in
theorem gX8_reason_X8_speedsWith : GoodIn wsX8_reason (wsV RX8 155 RX8 yX8_speedsWith wsX8_speedsWith) := goodIn_app (goodIn_of _ (by decide +kernel)) ggX8_reason_X8_speedsWith
set_option maxRecDepth 20000 in
theorem ggX8_reason_X1_leastWithout : GoodIn wsX8_reason wsX1_leastWithout := goodIn_r _ [61, 62, 63, 64, 59, 65, 66, 67, 68, 69, 70, 71, 72, 73, 74, 75, 76, 14, 15, 16, 17, 18, 19, 20, 21, 22, 23, 24, 25, 26, 27, 28, 29, 30, 31, 32, 33, 34, 35, 36, 37, 38, 39, 40, 53, 54, 55, 56, 6, 57, 8, 9, 10, 77, 78, 79, 100, 99] (by decide +kernel) (by decide +kernel)
set_option maxRecDepth 20000 in
theorem gX8_reason_X1_leastWithout_n159 : GoodIn wsX8_reason (wsX1_leastWithout) := ggX8_reason_X1_leastWithout
set_option maxRecDepth 20000 in
theorem ggX8_reason_X1_valueFound : GoodIn wsX8_reason wsX1_valueFound := goodIn_r _ [82, 66, 77, 15, 78, 79, 18, 56, 6, 57, 8, 9, 10, 100, 99] (by decide +kernel) (by decide +kernel)
set_option maxRecDepth 20000 in
theorem gX8_reason_X1_valueFound_n163 : GoodIn wsX8_reason (wsX1_valueFound) := ggX8_reason_X1_valueFound
theorem dX8_reason_0 : decode cX8_reason 0 = .ok (.iload_n 1, 1) := by decide +kernel
theorem dX8_reason_1 : decode cX8_reason 1 = .ok (.invokestatic 93, 3) := by decide +kernel
theorem dX8_reason_4 : decode cX8_reason 4 = .ok (.ifCond .eq 20, 3) := by decide +kernel
theorem dX8_reason_7 : decode cX8_reason 7 = .ok (.iload_n 2, 1) := by decide +kernel
theorem dX8_reason_8 : decode cX8_reason 8 = .ok (.invokestatic 152, 3) := by decide +kernel
theorem dX8_reason_11 : decode cX8_reason 11 = .ok (.ifCond .eq 13, 3) := by decide +kernel
theorem dX8_reason_14 : decode cX8_reason 14 = .ok (.iload_n 3, 1) := by decide +kernel
theorem dX8_reason_15 : decode cX8_reason 15 = .ok (.iconst 0, 1) := by decide +kernel
theorem dX8_reason_16 : decode cX8_reason 16 = .ok (.bipush 7, 2) := by decide +kernel
theorem dX8_reason_18 : decode cX8_reason 18 = .ok (.invokestatic 106, 3) := by decide +kernel
theorem dX8_reason_21 : decode cX8_reason 21 = .ok (.ifCond .ne 6, 3) := by decide +kernel
theorem dX8_reason_24 : decode cX8_reason 24 = .ok (.ldc 110, 2) := by decide +kernel
theorem dX8_reason_26 : decode cX8_reason 26 = .ok (.ireturn, 1) := by decide +kernel
theorem dX8_reason_27 : decode cX8_reason 27 = .ok (.iload_n 3, 1) := by decide +kernel
theorem dX8_reason_28 : decode cX8_reason 28 = .ok (.ifCond .ne 52, 3) := by decide +kernel
theorem dX8_reason_31 : decode cX8_reason 31 = .ok (.aload_n 0, 1) := by decide +kernel
theorem dX8_reason_32 : decode cX8_reason 32 = .ok (.getfield 11, 3) := by decide +kernel
theorem dX8_reason_35 : decode cX8_reason 35 = .ok (.iload_n 1, 1) := by decide +kernel
theorem dX8_reason_36 : decode cX8_reason 36 = .ok (.aaload, 1) := by decide +kernel
theorem dX8_reason_37 : decode cX8_reason 37 = .ok (.invokevirtual 147, 3) := by decide +kernel
theorem dX8_reason_40 : decode cX8_reason 40 = .ok (.lconst 0, 1) := by decide +kernel
theorem dX8_reason_41 : decode cX8_reason 41 = .ok (.lcmp, 1) := by decide +kernel
theorem dX8_reason_42 : decode cX8_reason 42 = .ok (.ifCond .eq 24, 3) := by decide +kernel
theorem dX8_reason_45 : decode cX8_reason 45 = .ok (.aload_n 0, 1) := by decide +kernel
theorem dX8_reason_46 : decode cX8_reason 46 = .ok (.aload_n 0, 1) := by decide +kernel
theorem dX8_reason_47 : decode cX8_reason 47 = .ok (.getfield 11, 3) := by decide +kernel
theorem dX8_reason_50 : decode cX8_reason 50 = .ok (.iload_n 1, 1) := by decide +kernel
theorem dX8_reason_51 : decode cX8_reason 51 = .ok (.aaload, 1) := by decide +kernel
theorem dX8_reason_52 : decode cX8_reason 52 = .ok (.iload_n 2, 1) := by decide +kernel
theorem dX8_reason_53 : decode cX8_reason 53 = .ok (.iconst 0, 1) := by decide +kernel
theorem dX8_reason_54 : decode cX8_reason 54 = .ok (.invokevirtual 155, 3) := by decide +kernel
theorem dX8_reason_57 : decode cX8_reason 57 = .ok (.lconst 0, 1) := by decide +kernel
theorem dX8_reason_58 : decode cX8_reason 58 = .ok (.lcmp, 1) := by decide +kernel
theorem dX8_reason_59 : decode cX8_reason 59 = .ok (.ifCond .ne 7, 3) := by decide +kernel
theorem dX8_reason_62 : decode cX8_reason 62 = .ok (.iconst 1, 1) := by decide +kernel
theorem dX8_reason_63 : decode cX8_reason 63 = .ok (.goto 4, 3) := by decide +kernel
theorem dX8_reason_66 : decode cX8_reason 66 = .ok (.iconst 0, 1) := by decide +kernel
theorem dX8_reason_67 : decode cX8_reason 67 = .ok (.istore 4, 2) := by decide +kernel
theorem dX8_reason_69 : decode cX8_reason 69 = .ok (.iload 4, 2) := by decide +kernel
theorem dX8_reason_71 : decode cX8_reason 71 = .ok (.ifCond .eq 7, 3) := by decide +kernel
theorem dX8_reason_74 : decode cX8_reason 74 = .ok (.iconst 1, 1) := by decide +kernel
theorem dX8_reason_75 : decode cX8_reason 75 = .ok (.goto 4, 3) := by decide +kernel
theorem dX8_reason_78 : decode cX8_reason 78 = .ok (.iconst 0, 1) := by decide +kernel
theorem dX8_reason_79 : decode cX8_reason 79 = .ok (.ireturn, 1) := by decide +kernel
theorem dX8_reason_80 : decode cX8_reason 80 = .ok (.aload_n 0, 1) := by decide +kernel
theorem dX8_reason_81 : decode cX8_reason 81 = .ok (.getfield 23, 3) := by decide +kernel
theorem dX8_reason_84 : decode cX8_reason 84 = .ok (.aload_n 0, 1) := by decide +kernel
theorem dX8_reason_85 : decode cX8_reason 85 = .ok (.getfield 11, 3) := by decide +kernel
theorem dX8_reason_88 : decode cX8_reason 88 = .ok (.iload_n 1, 1) := by decide +kernel
theorem dX8_reason_89 : decode cX8_reason 89 = .ok (.aaload, 1) := by decide +kernel
theorem dX8_reason_90 : decode cX8_reason 90 = .ok (.iload_n 2, 1) := by decide +kernel
theorem dX8_reason_91 : decode cX8_reason 91 = .ok (.invokevirtual 159, 3) := by decide +kernel
theorem dX8_reason_94 : decode cX8_reason 94 = .ok (.istore 4, 2) := by decide +kernel
theorem dX8_reason_96 : decode cX8_reason 96 = .ok (.iload 4, 2) := by decide +kernel
theorem dX8_reason_98 : decode cX8_reason 98 = .ok (.bipush (-9), 2) := by decide +kernel
theorem dX8_reason_100 : decode cX8_reason 100 = .ok (.if_icmp .ne 6, 3) := by decide +kernel
theorem dX8_reason_103 : decode cX8_reason 103 = .ok (.ldc 110, 2) := by decide +kernel
theorem dX8_reason_105 : decode cX8_reason 105 = .ok (.ireturn, 1) := by decide +kernel
theorem dX8_reason_106 : decode cX8_reason 106 = .ok (.iload_n 3, 1) := by decide +kernel
theorem dX8_reason_107 : decode cX8_reason 107 = .ok (.iconst 1, 1) := by decide +kernel
theorem dX8_reason_108 : decode cX8_reason 108 = .ok (.if_icmp .ne 8, 3) := by decide +kernel
theorem dX8_reason_111 : decode cX8_reason 111 = .ok (.iload 4, 2) := by decide +kernel
theorem dX8_reason_113 : decode cX8_reason 113 = .ok (.goto 13, 3) := by decide +kernel
theorem dX8_reason_116 : decode cX8_reason 116 = .ok (.aload_n 0, 1) := by decide +kernel
theorem dX8_reason_117 : decode cX8_reason 117 = .ok (.getfield 23, 3) := by decide +kernel
theorem dX8_reason_120 : decode cX8_reason 120 = .ok (.iload_n 3, 1) := by decide +kernel
theorem dX8_reason_121 : decode cX8_reason 121 = .ok (.iconst 2, 1) := by decide +kernel
theorem dX8_reason_122 : decode cX8_reason 122 = .ok (.isub, 1) := by decide +kernel
theorem dX8_reason_123 : decode cX8_reason 123 = .ok (.invokevirtual 163, 3) := by decide +kernel
theorem dX8_reason_126 : decode cX8_reason 126 = .ok (.ireturn, 1) := by decide +kernel
set_option maxRecDepth 20000 in
theorem ggX8_moves_X8_isBicycle : GoodIn wsX8_moves wsX8_isBicycle := goodIn_r _ [8, 9, 10, 7, 11] (by decide +kernel) (by decide +kernel)
set_option maxRecDepth 20000 in
theorem gX8_moves_X8_isBicycle : GoodIn wsX8_moves (va_wsS RX8 93 yX8_isBicycle wsX8_isBicycle) := goodIn_app (goodIn_of _ (by decide +kernel)) ggX8_moves_X8_isBicycle
set_option maxRecDepth 20000 in
theorem ggX8_moves_X8_isNumber : GoodIn wsX8_moves wsX8_isNumber := goodIn_r _ [14, 9, 10, 7, 11] (by decide +kernel) (by decide +kernel)
set_option maxRecDepth 20000 in
theorem gX8_moves_X8_isNumber : GoodIn wsX8_moves (va_wsS RX8 97 yX8_isNumber wsX8_isNumber) := goodIn_app (goodIn_of _ (by decide +kernel)) ggX8_moves_X8_isNumber
set_option maxRecDepth 20000 in
theorem ggX8_moves_X8_isFlag : GoodIn wsX8_moves wsX8_isFlag := goodIn_r _ [17, 9, 10, 7, 11] (by decide +kernel) (by decide +kernel)
set_option maxRecDepth 20000 in
theorem gX8_moves_X8_isFlag : GoodIn wsX8_moves (va_wsS RX8 166 yX8_isFlag wsX8_isFlag) := goodIn_app (goodIn_of _ (by decide +kernel)) ggX8_moves_X8_isFlag
set_option maxRecDepth 20000 in
theorem ggX8_moves_X0_valueOf : GoodIn wsX8_moves wsX0_valueOf := goodIn_r _ [21, 22, 13, 7, 14, 9, 10, 11, 91] (by decide +kernel) (by decide +kernel)
set_option maxRecDepth 20000 in
theorem gX8_moves_X0_valueOf_n111 : GoodIn wsX8_moves (wsX0_valueOf) := ggX8_moves_X0_valueOf
set_option maxRecDepth 20000 in
theorem ggX8_moves_X8_within : GoodIn wsX8_moves wsX8_within := goodIn_r _ [11] (by decide +kernel) (by decide +kernel)
set_option maxRecDepth 20000 in
theorem gX8_moves_X8_within : GoodIn wsX8_moves (va_wsS RX8 106 yX8_within wsX8_within) := goodIn_app (goodIn_of _ (by decide +kernel)) ggX8_moves_X8_within
set_option maxRecDepth 20000 in
theorem ggX8_moves_X8_speedsWith : GoodIn wsX8_moves wsX8_speedsWith := goodIn_r _ [26, 27, 28, 19, 29, 30, 22, 31, 32, 33, 34, 35, 36, 37, 13, 7, 14, 9, 10, 11, 38, 39, 40, 41, 42, 43, 44, 45, 46, 47, 48, 49, 50, 51, 52, 53, 54, 55, 56, 57, 58, 59, 60, 61, 62, 75, 76, 77, 78, 79, 80, 81, 82, 83, 84, 85, 86, 87, 88, 89, 90, 91] (by decide +kernel) (by decide +kernel)
set_option maxRecDepth 20000 in
theorem gX8_moves_X8_speedsWith : GoodIn wsX8_moves (wsV RX8 155 RX8 yX8_speedsWith wsX8_speedsWith) := goodIn_app (goodIn_of _ (by decide +kernel)) ggX8_moves_X8_speedsWith
set_option maxRecDepth 20000 in
theorem ggX8_moves_J13_bitCount_95d88 : GoodIn wsX8_moves wsJ13_bitCount_95d88 := goodIn_r _ [66, 67, 68, 69] (by decide +kernel) (by decide +kernel)
set_option maxRecDepth 20000 in
theorem gX8_moves_J13_bitCount_95d88 : GoodIn wsX8_moves (va_wsS RX8 169 yJ13_bitCount_95d88 wsJ13_bitCount_95d88) := goodIn_app (goodIn_of _ (by decide +kernel)) ggX8_moves_J13_bitCount_95d88
set_option maxRecDepth 20000 in
theorem ggX8_moves_X0_speedCount : GoodIn wsX8_moves wsX0_speedCount := goodIn_r _ [72, 73, 38, 39, 19, 40, 22, 41, 42, 43, 44, 45, 46, 47, 48, 49, 50, 51, 52, 53, 54, 55, 56, 57, 58, 59, 60, 61, 62, 74, 64, 65, 66, 67, 68, 69, 91] (by decide +kernel) (by decide +kernel)
set_option maxRecDepth 20000 in
theorem gX8_moves_X0_speedCount_n173 : GoodIn wsX8_moves (wsX0_speedCount) := ggX8_moves_X0_speedCount
theorem dX8_moves_0 : decode cX8_moves 0 = .ok (.iload_n 1, 1) := by decide +kernel
theorem dX8_moves_1 : decode cX8_moves 1 = .ok (.invokestatic 93, 3) := by decide +kernel
theorem dX8_moves_4 : decode cX8_moves 4 = .ok (.ifCond .eq 17, 3) := by decide +kernel
theorem dX8_moves_7 : decode cX8_moves 7 = .ok (.iload_n 2, 1) := by decide +kernel
theorem dX8_moves_8 : decode cX8_moves 8 = .ok (.invokestatic 97, 3) := by decide +kernel
theorem dX8_moves_11 : decode cX8_moves 11 = .ok (.ifCond .eq 10, 3) := by decide +kernel
theorem dX8_moves_14 : decode cX8_moves 14 = .ok (.iload_n 3, 1) := by decide +kernel
theorem dX8_moves_15 : decode cX8_moves 15 = .ok (.invokestatic 166, 3) := by decide +kernel
theorem dX8_moves_18 : decode cX8_moves 18 = .ok (.ifCond .ne 6, 3) := by decide +kernel
theorem dX8_moves_21 : decode cX8_moves 21 = .ok (.ldc 110, 2) := by decide +kernel
theorem dX8_moves_23 : decode cX8_moves 23 = .ok (.ireturn, 1) := by decide +kernel
theorem dX8_moves_24 : decode cX8_moves 24 = .ok (.aload_n 0, 1) := by decide +kernel
theorem dX8_moves_25 : decode cX8_moves 25 = .ok (.getfield 11, 3) := by decide +kernel
theorem dX8_moves_28 : decode cX8_moves 28 = .ok (.iload_n 1, 1) := by decide +kernel
theorem dX8_moves_29 : decode cX8_moves 29 = .ok (.aaload, 1) := by decide +kernel
theorem dX8_moves_30 : decode cX8_moves 30 = .ok (.iload_n 2, 1) := by decide +kernel
theorem dX8_moves_31 : decode cX8_moves 31 = .ok (.invokevirtual 111, 3) := by decide +kernel
theorem dX8_moves_34 : decode cX8_moves 34 = .ok (.iload_n 3, 1) := by decide +kernel
theorem dX8_moves_35 : decode cX8_moves 35 = .ok (.iconst 1, 1) := by decide +kernel
theorem dX8_moves_36 : decode cX8_moves 36 = .ok (.if_icmp .ne 7, 3) := by decide +kernel
theorem dX8_moves_39 : decode cX8_moves 39 = .ok (.iconst 1, 1) := by decide +kernel
theorem dX8_moves_40 : decode cX8_moves 40 = .ok (.goto 4, 3) := by decide +kernel
theorem dX8_moves_43 : decode cX8_moves 43 = .ok (.iconst (-1), 1) := by decide +kernel
theorem dX8_moves_44 : decode cX8_moves 44 = .ok (.iadd, 1) := by decide +kernel
theorem dX8_moves_45 : decode cX8_moves 45 = .ok (.istore 4, 2) := by decide +kernel
theorem dX8_moves_47 : decode cX8_moves 47 = .ok (.iload 4, 2) := by decide +kernel
theorem dX8_moves_49 : decode cX8_moves 49 = .ok (.getstatic 100, 3) := by decide +kernel
theorem dX8_moves_52 : decode cX8_moves 52 = .ok (.iload_n 2, 1) := by decide +kernel
theorem dX8_moves_53 : decode cX8_moves 53 = .ok (.iaload, 1) := by decide +kernel
theorem dX8_moves_54 : decode cX8_moves 54 = .ok (.getstatic 103, 3) := by decide +kernel
theorem dX8_moves_57 : decode cX8_moves 57 = .ok (.iload_n 2, 1) := by decide +kernel
theorem dX8_moves_58 : decode cX8_moves 58 = .ok (.iaload, 1) := by decide +kernel
theorem dX8_moves_59 : decode cX8_moves 59 = .ok (.invokestatic 106, 3) := by decide +kernel
theorem dX8_moves_62 : decode cX8_moves 62 = .ok (.ifCond .ne 5, 3) := by decide +kernel
theorem dX8_moves_65 : decode cX8_moves 65 = .ok (.iconst 0, 1) := by decide +kernel
theorem dX8_moves_66 : decode cX8_moves 66 = .ok (.ireturn, 1) := by decide +kernel
theorem dX8_moves_67 : decode cX8_moves 67 = .ok (.aload_n 0, 1) := by decide +kernel
theorem dX8_moves_68 : decode cX8_moves 68 = .ok (.aload_n 0, 1) := by decide +kernel
theorem dX8_moves_69 : decode cX8_moves 69 = .ok (.getfield 11, 3) := by decide +kernel
theorem dX8_moves_72 : decode cX8_moves 72 = .ok (.iload_n 1, 1) := by decide +kernel
theorem dX8_moves_73 : decode cX8_moves 73 = .ok (.aaload, 1) := by decide +kernel
theorem dX8_moves_74 : decode cX8_moves 74 = .ok (.iload_n 2, 1) := by decide +kernel
theorem dX8_moves_75 : decode cX8_moves 75 = .ok (.iload 4, 2) := by decide +kernel
theorem dX8_moves_77 : decode cX8_moves 77 = .ok (.invokevirtual 155, 3) := by decide +kernel
theorem dX8_moves_80 : decode cX8_moves 80 = .ok (.invokestatic 169, 3) := by decide +kernel
theorem dX8_moves_83 : decode cX8_moves 83 = .ok (.aload_n 0, 1) := by decide +kernel
theorem dX8_moves_84 : decode cX8_moves 84 = .ok (.getfield 11, 3) := by decide +kernel
theorem dX8_moves_87 : decode cX8_moves 87 = .ok (.iload_n 1, 1) := by decide +kernel
theorem dX8_moves_88 : decode cX8_moves 88 = .ok (.aaload, 1) := by decide +kernel
theorem dX8_moves_89 : decode cX8_moves 89 = .ok (.invokevirtual 173, 3) := by decide +kernel
theorem dX8_moves_92 : decode cX8_moves 92 = .ok (.isub, 1) := by decide +kernel
theorem dX8_moves_93 : decode cX8_moves 93 = .ok (.ireturn, 1) := by decide +kernel
set_option maxRecDepth 20000 in
theorem ggX8_grid_X8_isBicycle : GoodIn wsX8_grid wsX8_isBicycle := goodIn_r _ [9, 10, 11, 8, 12] (by decide +kernel) (by decide +kernel)
set_option maxRecDepth 20000 in
theorem gX8_grid_X8_isBicycle : GoodIn wsX8_grid (va_wsS RX8 93 yX8_isBicycle wsX8_isBicycle) := goodIn_app (goodIn_of _ (by decide +kernel)) ggX8_grid_X8_isBicycle
set_option maxRecDepth 20000 in
theorem ggX8_grid_X8_isNumber : GoodIn wsX8_grid wsX8_isNumber := goodIn_r _ [15, 10, 11, 8, 12] (by decide +kernel) (by decide +kernel)
set_option maxRecDepth 20000 in
theorem gX8_grid_X8_isNumber : GoodIn wsX8_grid (va_wsS RX8 97 yX8_isNumber wsX8_isNumber) := goodIn_app (goodIn_of _ (by decide +kernel)) ggX8_grid_X8_isNumber
set_option maxRecDepth 20000 in
theorem ggX8_grid_X8_within : GoodIn wsX8_grid wsX8_within := goodIn_r _ [12] (by decide +kernel) (by decide +kernel)
set_option maxRecDepth 20000 in
theorem gX8_grid_X8_within : GoodIn wsX8_grid (va_wsS RX8 106 yX8_within wsX8_within) := goodIn_app (goodIn_of _ (by decide +kernel)) ggX8_grid_X8_within
set_option maxRecDepth 20000 in
theorem ggX8_grid_X0_copyFrom : GoodIn wsX8_grid wsX0_copyFrom := goodIn_r _ [19, 20, 21, 22, 23, 24, 69] (by decide +kernel) (by decide +kernel)
set_option maxRecDepth 20000 in
theorem gX8_grid_X0_copyFrom_n177 : GoodIn wsX8_grid (wsX0_copyFrom) := ggX8_grid_X0_copyFrom
set_option maxRecDepth 20000 in
theorem ggX8_grid_X0_put : GoodIn wsX8_grid wsX0_put := goodIn_r _ [27, 20, 14, 8, 15, 10, 11, 12, 69] (by decide +kernel) (by decide +kernel)
set_option maxRecDepth 20000 in
theorem gX8_grid_X0_put_n115 : GoodIn wsX8_grid (wsX0_put) := ggX8_grid_X0_put
set_option maxRecDepth 20000 in
theorem ggX8_grid_X0_speeds : GoodIn wsX8_grid wsX0_speeds := goodIn_r _ [30, 20, 31, 32, 33, 17, 34, 35, 36, 37, 38, 39, 40, 41, 42, 43, 44, 45, 46, 47, 48, 49, 50, 51, 52, 69] (by decide +kernel) (by decide +kernel)
set_option maxRecDepth 20000 in
theorem gX8_grid_X0_speeds_n147 : GoodIn wsX8_grid (wsX0_speeds) := ggX8_grid_X0_speeds
theorem dX8_grid_0 : decode cX8_grid 0 = .ok (.iload_n 1, 1) := by decide +kernel
theorem dX8_grid_1 : decode cX8_grid 1 = .ok (.invokestatic 93, 3) := by decide +kernel
theorem dX8_grid_4 : decode cX8_grid 4 = .ok (.ifCond .eq 32, 3) := by decide +kernel
theorem dX8_grid_7 : decode cX8_grid 7 = .ok (.iload_n 2, 1) := by decide +kernel
theorem dX8_grid_8 : decode cX8_grid 8 = .ok (.invokestatic 97, 3) := by decide +kernel
theorem dX8_grid_11 : decode cX8_grid 11 = .ok (.ifCond .eq 25, 3) := by decide +kernel
theorem dX8_grid_14 : decode cX8_grid 14 = .ok (.iload_n 3, 1) := by decide +kernel
theorem dX8_grid_15 : decode cX8_grid 15 = .ok (.invokestatic 97, 3) := by decide +kernel
theorem dX8_grid_18 : decode cX8_grid 18 = .ok (.ifCond .eq 18, 3) := by decide +kernel
theorem dX8_grid_21 : decode cX8_grid 21 = .ok (.iload_n 2, 1) := by decide +kernel
theorem dX8_grid_22 : decode cX8_grid 22 = .ok (.iload_n 3, 1) := by decide +kernel
theorem dX8_grid_23 : decode cX8_grid 23 = .ok (.if_icmp .eq 13, 3) := by decide +kernel
theorem dX8_grid_26 : decode cX8_grid 26 = .ok (.iload 4, 2) := by decide +kernel
theorem dX8_grid_28 : decode cX8_grid 28 = .ok (.iconst 0, 1) := by decide +kernel
theorem dX8_grid_29 : decode cX8_grid 29 = .ok (.iconst 2, 1) := by decide +kernel
theorem dX8_grid_30 : decode cX8_grid 30 = .ok (.invokestatic 106, 3) := by decide +kernel
theorem dX8_grid_33 : decode cX8_grid 33 = .ok (.ifCond .ne 6, 3) := by decide +kernel
theorem dX8_grid_36 : decode cX8_grid 36 = .ok (.ldc 110, 2) := by decide +kernel
theorem dX8_grid_38 : decode cX8_grid 38 = .ok (.ireturn, 1) := by decide +kernel
theorem dX8_grid_39 : decode cX8_grid 39 = .ok (.aload_n 0, 1) := by decide +kernel
theorem dX8_grid_40 : decode cX8_grid 40 = .ok (.getfield 16, 3) := by decide +kernel
theorem dX8_grid_43 : decode cX8_grid 43 = .ok (.aload_n 0, 1) := by decide +kernel
theorem dX8_grid_44 : decode cX8_grid 44 = .ok (.getfield 11, 3) := by decide +kernel
theorem dX8_grid_47 : decode cX8_grid 47 = .ok (.iload_n 1, 1) := by decide +kernel
theorem dX8_grid_48 : decode cX8_grid 48 = .ok (.aaload, 1) := by decide +kernel
theorem dX8_grid_49 : decode cX8_grid 49 = .ok (.invokevirtual 177, 3) := by decide +kernel
theorem dX8_grid_52 : decode cX8_grid 52 = .ok (.iconst 0, 1) := by decide +kernel
theorem dX8_grid_53 : decode cX8_grid 53 = .ok (.istore 5, 2) := by decide +kernel
theorem dX8_grid_55 : decode cX8_grid 55 = .ok (.getstatic 100, 3) := by decide +kernel
theorem dX8_grid_58 : decode cX8_grid 58 = .ok (.iload_n 2, 1) := by decide +kernel
theorem dX8_grid_59 : decode cX8_grid 59 = .ok (.iaload, 1) := by decide +kernel
theorem dX8_grid_60 : decode cX8_grid 60 = .ok (.istore 6, 2) := by decide +kernel
theorem dX8_grid_62 : decode cX8_grid 62 = .ok (.iload 6, 2) := by decide +kernel
theorem dX8_grid_64 : decode cX8_grid 64 = .ok (.getstatic 103, 3) := by decide +kernel
theorem dX8_grid_67 : decode cX8_grid 67 = .ok (.iload_n 2, 1) := by decide +kernel
theorem dX8_grid_68 : decode cX8_grid 68 = .ok (.iaload, 1) := by decide +kernel
theorem dX8_grid_69 : decode cX8_grid 69 = .ok (.if_icmp .gt 89, 3) := by decide +kernel
theorem dX8_grid_72 : decode cX8_grid 72 = .ok (.aload_n 0, 1) := by decide +kernel
theorem dX8_grid_73 : decode cX8_grid 73 = .ok (.getfield 16, 3) := by decide +kernel
theorem dX8_grid_76 : decode cX8_grid 76 = .ok (.iload_n 2, 1) := by decide +kernel
theorem dX8_grid_77 : decode cX8_grid 77 = .ok (.iload 6, 2) := by decide +kernel
theorem dX8_grid_79 : decode cX8_grid 79 = .ok (.invokevirtual 115, 3) := by decide +kernel
theorem dX8_grid_82 : decode cX8_grid 82 = .ok (.getstatic 100, 3) := by decide +kernel
theorem dX8_grid_85 : decode cX8_grid 85 = .ok (.iload_n 3, 1) := by decide +kernel
theorem dX8_grid_86 : decode cX8_grid 86 = .ok (.iaload, 1) := by decide +kernel
theorem dX8_grid_87 : decode cX8_grid 87 = .ok (.istore 7, 2) := by decide +kernel
theorem dX8_grid_89 : decode cX8_grid 89 = .ok (.iload 7, 2) := by decide +kernel
theorem dX8_grid_91 : decode cX8_grid 91 = .ok (.getstatic 103, 3) := by decide +kernel
theorem dX8_grid_94 : decode cX8_grid 94 = .ok (.iload_n 3, 1) := by decide +kernel
theorem dX8_grid_95 : decode cX8_grid 95 = .ok (.iaload, 1) := by decide +kernel
theorem dX8_grid_96 : decode cX8_grid 96 = .ok (.if_icmp .gt 56, 3) := by decide +kernel
theorem dX8_grid_99 : decode cX8_grid 99 = .ok (.aload_n 0, 1) := by decide +kernel
theorem dX8_grid_100 : decode cX8_grid 100 = .ok (.getfield 16, 3) := by decide +kernel
theorem dX8_grid_103 : decode cX8_grid 103 = .ok (.iload_n 3, 1) := by decide +kernel
theorem dX8_grid_104 : decode cX8_grid 104 = .ok (.iload 7, 2) := by decide +kernel
theorem dX8_grid_106 : decode cX8_grid 106 = .ok (.invokevirtual 115, 3) := by decide +kernel
theorem dX8_grid_109 : decode cX8_grid 109 = .ok (.aload_n 0, 1) := by decide +kernel
theorem dX8_grid_110 : decode cX8_grid 110 = .ok (.getfield 16, 3) := by decide +kernel
theorem dX8_grid_113 : decode cX8_grid 113 = .ok (.invokevirtual 147, 3) := by decide +kernel
theorem dX8_grid_116 : decode cX8_grid 116 = .ok (.lconst 0, 1) := by decide +kernel
theorem dX8_grid_117 : decode cX8_grid 117 = .ok (.lcmp, 1) := by decide +kernel
theorem dX8_grid_118 : decode cX8_grid 118 = .ok (.ifCond .ne 6, 3) := by decide +kernel
theorem dX8_grid_121 : decode cX8_grid 121 = .ok (.goto 25, 3) := by decide +kernel
theorem dX8_grid_124 : decode cX8_grid 124 = .ok (.iload 4, 2) := by decide +kernel
theorem dX8_grid_126 : decode cX8_grid 126 = .ok (.ifCond .eq 17, 3) := by decide +kernel
theorem dX8_grid_129 : decode cX8_grid 129 = .ok (.iload 4, 2) := by decide +kernel
theorem dX8_grid_131 : decode cX8_grid 131 = .ok (.iconst 1, 1) := by decide +kernel
theorem dX8_grid_132 : decode cX8_grid 132 = .ok (.if_icmp .ne 8, 3) := by decide +kernel
theorem dX8_grid_135 : decode cX8_grid 135 = .ok (.iload 6, 2) := by decide +kernel
theorem dX8_grid_137 : decode cX8_grid 137 = .ok (.goto 5, 3) := by decide +kernel
theorem dX8_grid_140 : decode cX8_grid 140 = .ok (.iload 7, 2) := by decide +kernel
theorem dX8_grid_142 : decode cX8_grid 142 = .ok (.ireturn, 1) := by decide +kernel
theorem dX8_grid_143 : decode cX8_grid 143 = .ok (.iinc 5 1, 3) := by decide +kernel
theorem dX8_grid_146 : decode cX8_grid 146 = .ok (.iinc 7 1, 3) := by decide +kernel
theorem dX8_grid_149 : decode cX8_grid 149 = .ok (.goto (-60), 3) := by decide +kernel
theorem dX8_grid_152 : decode cX8_grid 152 = .ok (.iinc 6 1, 3) := by decide +kernel
theorem dX8_grid_155 : decode cX8_grid 155 = .ok (.goto (-93), 3) := by decide +kernel
theorem dX8_grid_158 : decode cX8_grid 158 = .ok (.iload 4, 2) := by decide +kernel
theorem dX8_grid_160 : decode cX8_grid 160 = .ok (.ifCond .ne 8, 3) := by decide +kernel
theorem dX8_grid_163 : decode cX8_grid 163 = .ok (.iload 5, 2) := by decide +kernel
theorem dX8_grid_165 : decode cX8_grid 165 = .ok (.goto 5, 3) := by decide +kernel
theorem dX8_grid_168 : decode cX8_grid 168 = .ok (.ldc 110, 2) := by decide +kernel
theorem dX8_grid_170 : decode cX8_grid 170 = .ok (.ireturn, 1) := by decide +kernel
set_option maxRecDepth 20000 in
theorem ggX8_least_X8_isBicycle : GoodIn wsX8_least wsX8_isBicycle := goodIn_r _ [6, 7, 8, 5, 9] (by decide +kernel) (by decide +kernel)
set_option maxRecDepth 20000 in
theorem gX8_least_X8_isBicycle : GoodIn wsX8_least (va_wsS RX8 93 yX8_isBicycle wsX8_isBicycle) := goodIn_app (goodIn_of _ (by decide +kernel)) ggX8_least_X8_isBicycle
set_option maxRecDepth 20000 in
theorem ggX8_least_X8_isSpeed : GoodIn wsX8_least wsX8_isSpeed := goodIn_r _ [12, 7, 8, 5, 9] (by decide +kernel) (by decide +kernel)
set_option maxRecDepth 20000 in
theorem gX8_least_X8_isSpeed : GoodIn wsX8_least (va_wsS RX8 119 yX8_isSpeed wsX8_isSpeed) := goodIn_app (goodIn_of _ (by decide +kernel)) ggX8_least_X8_isSpeed
set_option maxRecDepth 20000 in
theorem ggX8_least_X8_isHand : GoodIn wsX8_least wsX8_isHand := goodIn_r _ [15, 7, 8, 5, 9] (by decide +kernel) (by decide +kernel)
set_option maxRecDepth 20000 in
theorem gX8_least_X8_isHand : GoodIn wsX8_least (va_wsS RX8 122 yX8_isHand wsX8_isHand) := goodIn_app (goodIn_of _ (by decide +kernel)) ggX8_least_X8_isHand
set_option maxRecDepth 20000 in
theorem ggX8_least_X0_staysUp : GoodIn wsX8_least wsX0_staysUp := goodIn_r _ [19, 20, 21, 22, 23, 24, 17, 25, 26, 27, 28, 29, 30, 31, 32, 33, 34, 35, 36, 37, 38, 55] (by decide +kernel) (by decide +kernel)
set_option maxRecDepth 20000 in
theorem gX8_least_X0_staysUp_n144 : GoodIn wsX8_least (wsX0_staysUp) := ggX8_least_X0_staysUp
theorem dX8_least_0 : decode cX8_least 0 = .ok (.iload_n 1, 1) := by decide +kernel
theorem dX8_least_1 : decode cX8_least 1 = .ok (.invokestatic 93, 3) := by decide +kernel
theorem dX8_least_4 : decode cX8_least 4 = .ok (.ifCond .eq 17, 3) := by decide +kernel
theorem dX8_least_7 : decode cX8_least 7 = .ok (.iload_n 2, 1) := by decide +kernel
theorem dX8_least_8 : decode cX8_least 8 = .ok (.invokestatic 119, 3) := by decide +kernel
theorem dX8_least_11 : decode cX8_least 11 = .ok (.ifCond .eq 10, 3) := by decide +kernel
theorem dX8_least_14 : decode cX8_least 14 = .ok (.iload_n 3, 1) := by decide +kernel
theorem dX8_least_15 : decode cX8_least 15 = .ok (.invokestatic 122, 3) := by decide +kernel
theorem dX8_least_18 : decode cX8_least 18 = .ok (.ifCond .ne 6, 3) := by decide +kernel
theorem dX8_least_21 : decode cX8_least 21 = .ok (.ldc 110, 2) := by decide +kernel
theorem dX8_least_23 : decode cX8_least 23 = .ok (.ireturn, 1) := by decide +kernel
theorem dX8_least_24 : decode cX8_least 24 = .ok (.iconst 0, 1) := by decide +kernel
theorem dX8_least_25 : decode cX8_least 25 = .ok (.istore 4, 2) := by decide +kernel
theorem dX8_least_27 : decode cX8_least 27 = .ok (.iload 4, 2) := by decide +kernel
theorem dX8_least_29 : decode cX8_least 29 = .ok (.bipush 99, 2) := by decide +kernel
theorem dX8_least_31 : decode cX8_least 31 = .ok (.if_icmp .gt 49, 3) := by decide +kernel
theorem dX8_least_34 : decode cX8_least 34 = .ok (.aload_n 0, 1) := by decide +kernel
theorem dX8_least_35 : decode cX8_least 35 = .ok (.getfield 11, 3) := by decide +kernel
theorem dX8_least_38 : decode cX8_least 38 = .ok (.iload_n 1, 1) := by decide +kernel
theorem dX8_least_39 : decode cX8_least 39 = .ok (.aaload, 1) := by decide +kernel
theorem dX8_least_40 : decode cX8_least 40 = .ok (.iload_n 2, 1) := by decide +kernel
theorem dX8_least_41 : decode cX8_least 41 = .ok (.iload 4, 2) := by decide +kernel
theorem dX8_least_43 : decode cX8_least 43 = .ok (.iload_n 3, 1) := by decide +kernel
theorem dX8_least_44 : decode cX8_least 44 = .ok (.invokevirtual 144, 3) := by decide +kernel
theorem dX8_least_47 : decode cX8_least 47 = .ok (.ifCond .eq 6, 3) := by decide +kernel
theorem dX8_least_50 : decode cX8_least 50 = .ok (.iload 4, 2) := by decide +kernel
theorem dX8_least_52 : decode cX8_least 52 = .ok (.ireturn, 1) := by decide +kernel
theorem dX8_least_53 : decode cX8_least 53 = .ok (.aload_n 0, 1) := by decide +kernel
theorem dX8_least_54 : decode cX8_least 54 = .ok (.getfield 11, 3) := by decide +kernel
theorem dX8_least_57 : decode cX8_least 57 = .ok (.iload_n 1, 1) := by decide +kernel
theorem dX8_least_58 : decode cX8_least 58 = .ok (.aaload, 1) := by decide +kernel
theorem dX8_least_59 : decode cX8_least 59 = .ok (.iload_n 2, 1) := by decide +kernel
theorem dX8_least_60 : decode cX8_least 60 = .ok (.iload 4, 2) := by decide +kernel
theorem dX8_least_62 : decode cX8_least 62 = .ok (.ineg, 1) := by decide +kernel
theorem dX8_least_63 : decode cX8_least 63 = .ok (.iload_n 3, 1) := by decide +kernel
theorem dX8_least_64 : decode cX8_least 64 = .ok (.invokevirtual 144, 3) := by decide +kernel
theorem dX8_least_67 : decode cX8_least 67 = .ok (.ifCond .eq 7, 3) := by decide +kernel
theorem dX8_least_70 : decode cX8_least 70 = .ok (.iload 4, 2) := by decide +kernel
theorem dX8_least_72 : decode cX8_least 72 = .ok (.ineg, 1) := by decide +kernel
theorem dX8_least_73 : decode cX8_least 73 = .ok (.ireturn, 1) := by decide +kernel
theorem dX8_least_74 : decode cX8_least 74 = .ok (.iinc 4 1, 3) := by decide +kernel
theorem dX8_least_77 : decode cX8_least 77 = .ok (.goto (-50), 3) := by decide +kernel
theorem dX8_least_80 : decode cX8_least 80 = .ok (.ldc 110, 2) := by decide +kernel
theorem dX8_least_82 : decode cX8_least 82 = .ok (.ireturn, 1) := by decide +kernel
set_option maxRecDepth 20000 in
theorem ggX8_spread_X8_isBicycle : GoodIn wsX8_spread wsX8_isBicycle := goodIn_r _ [6, 7, 8, 5, 9] (by decide +kernel) (by decide +kernel)
set_option maxRecDepth 20000 in
theorem gX8_spread_X8_isBicycle : GoodIn wsX8_spread (va_wsS RX8 93 yX8_isBicycle wsX8_isBicycle) := goodIn_app (goodIn_of _ (by decide +kernel)) ggX8_spread_X8_isBicycle
set_option maxRecDepth 20000 in
theorem ggX8_spread_X8_within : GoodIn wsX8_spread wsX8_within := goodIn_r _ [9] (by decide +kernel) (by decide +kernel)
set_option maxRecDepth 20000 in
theorem gX8_spread_X8_within : GoodIn wsX8_spread (va_wsS RX8 106 yX8_within wsX8_within) := goodIn_app (goodIn_of _ (by decide +kernel)) ggX8_spread_X8_within
set_option maxRecDepth 20000 in
theorem ggX8_spread_X2_weigh : GoodIn wsX8_spread wsX2_weigh := goodIn_r _ [13, 14, 15, 16, 17, 18, 19, 11, 20, 21, 22, 23, 24, 25, 26, 5, 27, 7, 8, 9, 28, 29, 30, 31, 32, 33, 34, 35, 36, 37, 38, 39, 40, 41, 42, 43, 44, 45, 46, 47, 48, 49, 50, 51, 52, 53, 54, 55, 56, 57, 58, 59, 60, 61, 62, 63, 64, 65, 66, 93, 94, 95, 96] (by decide +kernel) (by decide +kernel)
set_option maxRecDepth 20000 in
theorem gX8_spread_X2_weigh_n181 : GoodIn wsX8_spread (wsX2_weigh) := ggX8_spread_X2_weigh
set_option maxRecDepth 20000 in
theorem ggX8_spread_X2_spreadOf : GoodIn wsX8_spread wsX2_spreadOf := goodIn_r _ [69, 15, 14, 70, 71, 72, 73, 74, 75, 76, 93, 94, 95] (by decide +kernel) (by decide +kernel)
set_option maxRecDepth 20000 in
theorem gX8_spread_X2_spreadOf_n185 : GoodIn wsX8_spread (wsX2_spreadOf) := ggX8_spread_X2_spreadOf
theorem dX8_spread_0 : decode cX8_spread 0 = .ok (.iload_n 1, 1) := by decide +kernel
theorem dX8_spread_1 : decode cX8_spread 1 = .ok (.invokestatic 93, 3) := by decide +kernel
theorem dX8_spread_4 : decode cX8_spread 4 = .ok (.ifCond .eq 13, 3) := by decide +kernel
theorem dX8_spread_7 : decode cX8_spread 7 = .ok (.iload_n 2, 1) := by decide +kernel
theorem dX8_spread_8 : decode cX8_spread 8 = .ok (.iconst 0, 1) := by decide +kernel
theorem dX8_spread_9 : decode cX8_spread 9 = .ok (.bipush 63, 2) := by decide +kernel
theorem dX8_spread_11 : decode cX8_spread 11 = .ok (.invokestatic 106, 3) := by decide +kernel
theorem dX8_spread_14 : decode cX8_spread 14 = .ok (.ifCond .ne 5, 3) := by decide +kernel
theorem dX8_spread_17 : decode cX8_spread 17 = .ok (.iconst (-1), 1) := by decide +kernel
theorem dX8_spread_18 : decode cX8_spread 18 = .ok (.ireturn, 1) := by decide +kernel
theorem dX8_spread_19 : decode cX8_spread 19 = .ok (.aload_n 0, 1) := by decide +kernel
theorem dX8_spread_20 : decode cX8_spread 20 = .ok (.getfield 30, 3) := by decide +kernel
theorem dX8_spread_23 : decode cX8_spread 23 = .ok (.aload_n 0, 1) := by decide +kernel
theorem dX8_spread_24 : decode cX8_spread 24 = .ok (.getfield 11, 3) := by decide +kernel
theorem dX8_spread_27 : decode cX8_spread 27 = .ok (.iload_n 1, 1) := by decide +kernel
theorem dX8_spread_28 : decode cX8_spread 28 = .ok (.aaload, 1) := by decide +kernel
theorem dX8_spread_29 : decode cX8_spread 29 = .ok (.iload_n 2, 1) := by decide +kernel
theorem dX8_spread_30 : decode cX8_spread 30 = .ok (.invokevirtual 181, 3) := by decide +kernel
theorem dX8_spread_33 : decode cX8_spread 33 = .ok (.aload_n 0, 1) := by decide +kernel
theorem dX8_spread_34 : decode cX8_spread 34 = .ok (.getfield 30, 3) := by decide +kernel
theorem dX8_spread_37 : decode cX8_spread 37 = .ok (.iload_n 2, 1) := by decide +kernel
theorem dX8_spread_38 : decode cX8_spread 38 = .ok (.invokevirtual 185, 3) := by decide +kernel
theorem dX8_spread_41 : decode cX8_spread 41 = .ok (.ireturn, 1) := by decide +kernel
set_option maxRecDepth 20000 in
theorem ggX8_fewest_X8_isBicycle : GoodIn wsX8_fewest wsX8_isBicycle := goodIn_r _ [6, 7, 8, 5, 9] (by decide +kernel) (by decide +kernel)
set_option maxRecDepth 20000 in
theorem gX8_fewest_X8_isBicycle : GoodIn wsX8_fewest (va_wsS RX8 93 yX8_isBicycle wsX8_isBicycle) := goodIn_app (goodIn_of _ (by decide +kernel)) ggX8_fewest_X8_isBicycle
set_option maxRecDepth 20000 in
theorem ggX8_fewest_X8_within : GoodIn wsX8_fewest wsX8_within := goodIn_r _ [9] (by decide +kernel) (by decide +kernel)
set_option maxRecDepth 20000 in
theorem gX8_fewest_X8_within : GoodIn wsX8_fewest (va_wsS RX8 106 yX8_within wsX8_within) := goodIn_app (goodIn_of _ (by decide +kernel)) ggX8_fewest_X8_within
set_option maxRecDepth 20000 in
theorem ggX8_fewest_X8_isFlag : GoodIn wsX8_fewest wsX8_isFlag := goodIn_r _ [12, 7, 8, 5, 9] (by decide +kernel) (by decide +kernel)
set_option maxRecDepth 20000 in
theorem gX8_fewest_X8_isFlag : GoodIn wsX8_fewest (va_wsS RX8 166 yX8_isFlag wsX8_isFlag) := goodIn_app (goodIn_of _ (by decide +kernel)) ggX8_fewest_X8_isFlag
set_option maxRecDepth 20000 in
theorem ggX8_fewest_X2_weigh : GoodIn wsX8_fewest wsX2_weigh := goodIn_r _ [16, 17, 18, 19, 20, 21, 22, 14, 23, 24, 25, 26, 27, 28, 29, 5, 30, 7, 8, 9, 31, 32, 33, 34, 35, 36, 37, 38, 39, 40, 41, 42, 43, 44, 45, 46, 47, 48, 49, 50, 51, 52, 53, 54, 55, 56, 57, 58, 59, 60, 61, 62, 63, 64, 65, 66, 67, 68, 69, 108, 109, 110, 111] (by decide +kernel) (by decide +kernel)
set_option maxRecDepth 20000 in
theorem gX8_fewest_X2_weigh_n181 : GoodIn wsX8_fewest (wsX2_weigh) := ggX8_fewest_X2_weigh
set_option maxRecDepth 20000 in
theorem ggX8_fewest_X2_fewestFor : GoodIn wsX8_fewest wsX2_fewestFor := goodIn_r _ [72, 73, 74, 75, 76, 77, 78, 79, 80, 81, 82, 14, 83, 18, 17, 84, 85, 86, 87, 88, 89, 90, 108, 109, 110] (by decide +kernel) (by decide +kernel)
set_option maxRecDepth 20000 in
theorem gX8_fewest_X2_fewestFor_n188 : GoodIn wsX8_fewest (wsX2_fewestFor) := ggX8_fewest_X2_fewestFor
set_option maxRecDepth 20000 in
theorem ggX8_fewest_J6_bitCount_0f7a4 : GoodIn wsX8_fewest wsJ6_bitCount_0f7a4 := goodIn_r _ [76, 77, 78, 79] (by decide +kernel) (by decide +kernel)
set_option maxRecDepth 20000 in
theorem gX8_fewest_J6_bitCount_0f7a4 : GoodIn wsX8_fewest (va_wsS RX8 191 yJ6_bitCount_0f7a4 wsJ6_bitCount_0f7a4) := goodIn_app (goodIn_of _ (by decide +kernel)) ggX8_fewest_J6_bitCount_0f7a4
theorem dX8_fewest_0 : decode cX8_fewest 0 = .ok (.iload_n 1, 1) := by decide +kernel
theorem dX8_fewest_1 : decode cX8_fewest 1 = .ok (.invokestatic 93, 3) := by decide +kernel
theorem dX8_fewest_4 : decode cX8_fewest 4 = .ok (.ifCond .eq 20, 3) := by decide +kernel
theorem dX8_fewest_7 : decode cX8_fewest 7 = .ok (.iload_n 2, 1) := by decide +kernel
theorem dX8_fewest_8 : decode cX8_fewest 8 = .ok (.iconst 0, 1) := by decide +kernel
theorem dX8_fewest_9 : decode cX8_fewest 9 = .ok (.bipush 40, 2) := by decide +kernel
theorem dX8_fewest_11 : decode cX8_fewest 11 = .ok (.invokestatic 106, 3) := by decide +kernel
theorem dX8_fewest_14 : decode cX8_fewest 14 = .ok (.ifCond .eq 10, 3) := by decide +kernel
theorem dX8_fewest_17 : decode cX8_fewest 17 = .ok (.iload_n 3, 1) := by decide +kernel
theorem dX8_fewest_18 : decode cX8_fewest 18 = .ok (.invokestatic 166, 3) := by decide +kernel
theorem dX8_fewest_21 : decode cX8_fewest 21 = .ok (.ifCond .ne 5, 3) := by decide +kernel
theorem dX8_fewest_24 : decode cX8_fewest 24 = .ok (.iconst (-1), 1) := by decide +kernel
theorem dX8_fewest_25 : decode cX8_fewest 25 = .ok (.ireturn, 1) := by decide +kernel
theorem dX8_fewest_26 : decode cX8_fewest 26 = .ok (.aload_n 0, 1) := by decide +kernel
theorem dX8_fewest_27 : decode cX8_fewest 27 = .ok (.getfield 30, 3) := by decide +kernel
theorem dX8_fewest_30 : decode cX8_fewest 30 = .ok (.aload_n 0, 1) := by decide +kernel
theorem dX8_fewest_31 : decode cX8_fewest 31 = .ok (.getfield 11, 3) := by decide +kernel
theorem dX8_fewest_34 : decode cX8_fewest 34 = .ok (.iload_n 1, 1) := by decide +kernel
theorem dX8_fewest_35 : decode cX8_fewest 35 = .ok (.aaload, 1) := by decide +kernel
theorem dX8_fewest_36 : decode cX8_fewest 36 = .ok (.iconst 0, 1) := by decide +kernel
theorem dX8_fewest_37 : decode cX8_fewest 37 = .ok (.invokevirtual 181, 3) := by decide +kernel
theorem dX8_fewest_40 : decode cX8_fewest 40 = .ok (.aload_n 0, 1) := by decide +kernel
theorem dX8_fewest_41 : decode cX8_fewest 41 = .ok (.getfield 30, 3) := by decide +kernel
theorem dX8_fewest_44 : decode cX8_fewest 44 = .ok (.iload_n 2, 1) := by decide +kernel
theorem dX8_fewest_45 : decode cX8_fewest 45 = .ok (.invokevirtual 188, 3) := by decide +kernel
theorem dX8_fewest_48 : decode cX8_fewest 48 = .ok (.istore 4, 2) := by decide +kernel
theorem dX8_fewest_50 : decode cX8_fewest 50 = .ok (.iload_n 3, 1) := by decide +kernel
theorem dX8_fewest_51 : decode cX8_fewest 51 = .ok (.ifCond .ne 11, 3) := by decide +kernel
theorem dX8_fewest_54 : decode cX8_fewest 54 = .ok (.iload 4, 2) := by decide +kernel
theorem dX8_fewest_56 : decode cX8_fewest 56 = .ok (.invokestatic 191, 3) := by decide +kernel
theorem dX8_fewest_59 : decode cX8_fewest 59 = .ok (.goto 5, 3) := by decide +kernel
theorem dX8_fewest_62 : decode cX8_fewest 62 = .ok (.iload 4, 2) := by decide +kernel
theorem dX8_fewest_64 : decode cX8_fewest 64 = .ok (.ireturn, 1) := by decide +kernel
set_option maxRecDepth 20000 in
theorem ggX8_type_X8_within : GoodIn wsX8_type wsX8_within := goodIn_r _ [6] (by decide +kernel) (by decide +kernel)
set_option maxRecDepth 20000 in
theorem gX8_type_X8_within : GoodIn wsX8_type (va_wsS RX8 106 yX8_within wsX8_within) := goodIn_app (goodIn_of _ (by decide +kernel)) ggX8_type_X8_within
theorem dX8_type_0 : decode cX8_type 0 = .ok (.iload_n 3, 1) := by decide +kernel
theorem dX8_type_1 : decode cX8_type 1 = .ok (.iconst 1, 1) := by decide +kernel
theorem dX8_type_2 : decode cX8_type 2 = .ok (.bipush 8, 2) := by decide +kernel
theorem dX8_type_4 : decode cX8_type 4 = .ok (.invokestatic 106, 3) := by decide +kernel
theorem dX8_type_7 : decode cX8_type 7 = .ok (.ifCond .ne 5, 3) := by decide +kernel
theorem dX8_type_10 : decode cX8_type 10 = .ok (.iconst (-1), 1) := by decide +kernel
theorem dX8_type_11 : decode cX8_type 11 = .ok (.ireturn, 1) := by decide +kernel
theorem dX8_type_12 : decode cX8_type 12 = .ok (.aload_n 0, 1) := by decide +kernel
theorem dX8_type_13 : decode cX8_type 13 = .ok (.getfield 38, 3) := by decide +kernel
theorem dX8_type_16 : decode cX8_type 16 = .ok (.iload_n 3, 1) := by decide +kernel
theorem dX8_type_17 : decode cX8_type 17 = .ok (.iadd, 1) := by decide +kernel
theorem dX8_type_18 : decode cX8_type 18 = .ok (.sipush 200, 3) := by decide +kernel
theorem dX8_type_21 : decode cX8_type 21 = .ok (.if_icmp .le 6, 3) := by decide +kernel
theorem dX8_type_24 : decode cX8_type 24 = .ok (.bipush (-3), 2) := by decide +kernel
theorem dX8_type_26 : decode cX8_type 26 = .ok (.ireturn, 1) := by decide +kernel
theorem dX8_type_27 : decode cX8_type 27 = .ok (.iload_n 3, 1) := by decide +kernel
theorem dX8_type_28 : decode cX8_type 28 = .ok (.iconst 1, 1) := by decide +kernel
theorem dX8_type_29 : decode cX8_type 29 = .ok (.isub, 1) := by decide +kernel
theorem dX8_type_30 : decode cX8_type 30 = .ok (.istore 4, 2) := by decide +kernel
theorem dX8_type_32 : decode cX8_type 32 = .ok (.iload 4, 2) := by decide +kernel
theorem dX8_type_34 : decode cX8_type 34 = .ok (.ifCond .lt 40, 3) := by decide +kernel
theorem dX8_type_37 : decode cX8_type 37 = .ok (.aload_n 0, 1) := by decide +kernel
theorem dX8_type_38 : decode cX8_type 38 = .ok (.getfield 34, 3) := by decide +kernel
theorem dX8_type_41 : decode cX8_type 41 = .ok (.aload_n 0, 1) := by decide +kernel
theorem dX8_type_42 : decode cX8_type 42 = .ok (.getfield 38, 3) := by decide +kernel
theorem dX8_type_45 : decode cX8_type 45 = .ok (.lload_n 1, 1) := by decide +kernel
theorem dX8_type_46 : decode cX8_type 46 = .ok (.bipush 8, 2) := by decide +kernel
theorem dX8_type_48 : decode cX8_type 48 = .ok (.iload 4, 2) := by decide +kernel
theorem dX8_type_50 : decode cX8_type 50 = .ok (.imul, 1) := by decide +kernel
theorem dX8_type_51 : decode cX8_type 51 = .ok (.lushr, 1) := by decide +kernel
theorem dX8_type_52 : decode cX8_type 52 = .ok (.l2i, 1) := by decide +kernel
theorem dX8_type_53 : decode cX8_type 53 = .ok (.sipush 255, 3) := by decide +kernel
theorem dX8_type_56 : decode cX8_type 56 = .ok (.iand, 1) := by decide +kernel
theorem dX8_type_57 : decode cX8_type 57 = .ok (.iastore, 1) := by decide +kernel
theorem dX8_type_58 : decode cX8_type 58 = .ok (.aload_n 0, 1) := by decide +kernel
theorem dX8_type_59 : decode cX8_type 59 = .ok (.dup, 1) := by decide +kernel
theorem dX8_type_60 : decode cX8_type 60 = .ok (.getfield 38, 3) := by decide +kernel
theorem dX8_type_63 : decode cX8_type 63 = .ok (.iconst 1, 1) := by decide +kernel
theorem dX8_type_64 : decode cX8_type 64 = .ok (.iadd, 1) := by decide +kernel
theorem dX8_type_65 : decode cX8_type 65 = .ok (.putfield 38, 3) := by decide +kernel
theorem dX8_type_68 : decode cX8_type 68 = .ok (.iinc 4 (-1), 3) := by decide +kernel
theorem dX8_type_71 : decode cX8_type 71 = .ok (.goto (-39), 3) := by decide +kernel
theorem dX8_type_74 : decode cX8_type 74 = .ok (.aload_n 0, 1) := by decide +kernel
theorem dX8_type_75 : decode cX8_type 75 = .ok (.getfield 38, 3) := by decide +kernel
theorem dX8_type_78 : decode cX8_type 78 = .ok (.ireturn, 1) := by decide +kernel
theorem dX8_clear_0 : decode cX8_clear 0 = .ok (.aload_n 0, 1) := by decide +kernel
theorem dX8_clear_1 : decode cX8_clear 1 = .ok (.getfield 38, 3) := by decide +kernel
theorem dX8_clear_4 : decode cX8_clear 4 = .ok (.istore_n 1, 1) := by decide +kernel
theorem dX8_clear_5 : decode cX8_clear 5 = .ok (.aload_n 0, 1) := by decide +kernel
theorem dX8_clear_6 : decode cX8_clear 6 = .ok (.iconst 0, 1) := by decide +kernel
theorem dX8_clear_7 : decode cX8_clear 7 = .ok (.putfield 38, 3) := by decide +kernel
theorem dX8_clear_10 : decode cX8_clear 10 = .ok (.iload_n 1, 1) := by decide +kernel
theorem dX8_clear_11 : decode cX8_clear 11 = .ok (.ireturn, 1) := by decide +kernel
set_option maxRecDepth 20000 in
theorem ggX8_rider_X5_faultOf : GoodIn wsX8_rider wsX5_faultOf := goodIn_r _ [9, 10, 11, 12, 13, 14, 15, 16, 17, 18, 19, 20, 21, 22, 23, 24, 25, 26, 27, 28, 29, 30, 31, 32, 7, 33, 34, 35, 36, 37, 38, 39, 40, 41, 42, 43, 44, 45, 46, 47, 48, 49, 50, 51, 52, 53, 54, 55, 56, 57, 58, 59, 60, 61, 62, 63, 64, 65, 66, 67, 68, 69, 70, 71, 72, 73, 74, 75, 76, 77, 78, 79, 80, 81, 82, 83, 84, 85, 86, 87, 88, 89, 90, 91, 92, 93, 94, 95, 96, 97, 98, 99, 100, 101, 102, 103, 104, 105, 106, 136, 137, 138, 139, 140, 141, 142, 143] (by decide +kernel) (by decide +kernel)
set_option maxRecDepth 20000 in
theorem gX8_rider_X5_faultOf_n195 : GoodIn wsX8_rider (wsX5_faultOf) := ggX8_rider_X5_faultOf
set_option maxRecDepth 20000 in
theorem ggX8_rider_X7_copyFrom : GoodIn wsX8_rider wsX7_copyFrom := goodIn_r _ [109, 24, 25, 26, 27, 28, 29, 142, 143] (by decide +kernel) (by decide +kernel)
set_option maxRecDepth 20000 in
theorem gX8_rider_X7_copyFrom_n199 : GoodIn wsX8_rider (wsX7_copyFrom) := ggX8_rider_X7_copyFrom
set_option maxRecDepth 20000 in
theorem ggX8_rider_X7_itemCount : GoodIn wsX8_rider wsX7_itemCount := goodIn_r _ [112, 29, 113, 114, 115, 116, 117, 118, 119, 142, 143] (by decide +kernel) (by decide +kernel)
set_option maxRecDepth 20000 in
theorem gX8_rider_X7_itemCount_n202 : GoodIn wsX8_rider (wsX7_itemCount) := ggX8_rider_X7_itemCount
theorem dX8_rider_0 : decode cX8_rider 0 = .ok (.aload_n 0, 1) := by decide +kernel
theorem dX8_rider_1 : decode cX8_rider 1 = .ok (.getfield 45, 3) := by decide +kernel
theorem dX8_rider_4 : decode cX8_rider 4 = .ok (.aload_n 0, 1) := by decide +kernel
theorem dX8_rider_5 : decode cX8_rider 5 = .ok (.getfield 34, 3) := by decide +kernel
theorem dX8_rider_8 : decode cX8_rider 8 = .ok (.aload_n 0, 1) := by decide +kernel
theorem dX8_rider_9 : decode cX8_rider 9 = .ok (.getfield 38, 3) := by decide +kernel
theorem dX8_rider_12 : decode cX8_rider 12 = .ok (.aload_n 0, 1) := by decide +kernel
theorem dX8_rider_13 : decode cX8_rider 13 = .ok (.getfield 52, 3) := by decide +kernel
theorem dX8_rider_16 : decode cX8_rider 16 = .ok (.invokevirtual 195, 3) := by decide +kernel
theorem dX8_rider_19 : decode cX8_rider 19 = .ok (.istore_n 1, 1) := by decide +kernel
theorem dX8_rider_20 : decode cX8_rider 20 = .ok (.iload_n 1, 1) := by decide +kernel
theorem dX8_rider_21 : decode cX8_rider 21 = .ok (.ifCond .lt 8, 3) := by decide +kernel
theorem dX8_rider_24 : decode cX8_rider 24 = .ok (.bipush (-10), 2) := by decide +kernel
theorem dX8_rider_26 : decode cX8_rider 26 = .ok (.iload_n 1, 1) := by decide +kernel
theorem dX8_rider_27 : decode cX8_rider 27 = .ok (.isub, 1) := by decide +kernel
theorem dX8_rider_28 : decode cX8_rider 28 = .ok (.ireturn, 1) := by decide +kernel
theorem dX8_rider_29 : decode cX8_rider 29 = .ok (.aload_n 0, 1) := by decide +kernel
theorem dX8_rider_30 : decode cX8_rider 30 = .ok (.getfield 56, 3) := by decide +kernel
theorem dX8_rider_33 : decode cX8_rider 33 = .ok (.aload_n 0, 1) := by decide +kernel
theorem dX8_rider_34 : decode cX8_rider 34 = .ok (.getfield 52, 3) := by decide +kernel
theorem dX8_rider_37 : decode cX8_rider 37 = .ok (.invokevirtual 199, 3) := by decide +kernel
theorem dX8_rider_40 : decode cX8_rider 40 = .ok (.aload_n 0, 1) := by decide +kernel
theorem dX8_rider_41 : decode cX8_rider 41 = .ok (.iconst 0, 1) := by decide +kernel
theorem dX8_rider_42 : decode cX8_rider 42 = .ok (.putfield 38, 3) := by decide +kernel
theorem dX8_rider_45 : decode cX8_rider 45 = .ok (.aload_n 0, 1) := by decide +kernel
theorem dX8_rider_46 : decode cX8_rider 46 = .ok (.getfield 56, 3) := by decide +kernel
theorem dX8_rider_49 : decode cX8_rider 49 = .ok (.invokevirtual 202, 3) := by decide +kernel
theorem dX8_rider_52 : decode cX8_rider 52 = .ok (.ireturn, 1) := by decide +kernel
set_option maxRecDepth 20000 in
theorem ggX8_ride_X8_isBicycle : GoodIn wsX8_ride wsX8_isBicycle := goodIn_r _ [5, 6, 7, 4, 8] (by decide +kernel) (by decide +kernel)
set_option maxRecDepth 20000 in
theorem gX8_ride_X8_isBicycle : GoodIn wsX8_ride (va_wsS RX8 93 yX8_isBicycle wsX8_isBicycle) := goodIn_app (goodIn_of _ (by decide +kernel)) ggX8_ride_X8_isBicycle
set_option maxRecDepth 20000 in
theorem ggX8_ride_X8_isSpeed : GoodIn wsX8_ride wsX8_isSpeed := goodIn_r _ [11, 6, 7, 4, 8] (by decide +kernel) (by decide +kernel)
set_option maxRecDepth 20000 in
theorem gX8_ride_X8_isSpeed : GoodIn wsX8_ride (va_wsS RX8 119 yX8_isSpeed wsX8_isSpeed) := goodIn_app (goodIn_of _ (by decide +kernel)) ggX8_ride_X8_isSpeed
set_option maxRecDepth 20000 in
theorem ggX8_ride_X8_isFlag : GoodIn wsX8_ride wsX8_isFlag := goodIn_r _ [14, 6, 7, 4, 8] (by decide +kernel) (by decide +kernel)
set_option maxRecDepth 20000 in
theorem gX8_ride_X8_isFlag : GoodIn wsX8_ride (va_wsS RX8 166 yX8_isFlag wsX8_isFlag) := goodIn_app (goodIn_of _ (by decide +kernel)) ggX8_ride_X8_isFlag
set_option maxRecDepth 20000 in
theorem ggX8_ride_X6_begin : GoodIn wsX8_ride wsX6_begin := goodIn_r _ [18, 19, 20, 21, 22, 23, 24, 25, 26, 27, 28, 45, 46, 47, 48, 49, 50, 51, 52, 53, 54, 55, 56, 57] (by decide +kernel) (by decide +kernel)
set_option maxRecDepth 20000 in
theorem gX8_ride_X6_begin_n208 : GoodIn wsX8_ride (wsX6_begin) := ggX8_ride_X6_begin
theorem dX8_ride_0 : decode cX8_ride 0 = .ok (.iload_n 1, 1) := by decide +kernel
theorem dX8_ride_1 : decode cX8_ride 1 = .ok (.invokestatic 93, 3) := by decide +kernel
theorem dX8_ride_4 : decode cX8_ride 4 = .ok (.ifCond .eq 17, 3) := by decide +kernel
theorem dX8_ride_7 : decode cX8_ride 7 = .ok (.iload_n 2, 1) := by decide +kernel
theorem dX8_ride_8 : decode cX8_ride 8 = .ok (.invokestatic 119, 3) := by decide +kernel
theorem dX8_ride_11 : decode cX8_ride 11 = .ok (.ifCond .eq 10, 3) := by decide +kernel
theorem dX8_ride_14 : decode cX8_ride 14 = .ok (.iload_n 3, 1) := by decide +kernel
theorem dX8_ride_15 : decode cX8_ride 15 = .ok (.invokestatic 166, 3) := by decide +kernel
theorem dX8_ride_18 : decode cX8_ride 18 = .ok (.ifCond .ne 5, 3) := by decide +kernel
theorem dX8_ride_21 : decode cX8_ride 21 = .ok (.iconst (-1), 1) := by decide +kernel
theorem dX8_ride_22 : decode cX8_ride 22 = .ok (.ireturn, 1) := by decide +kernel
theorem dX8_ride_23 : decode cX8_ride 23 = .ok (.aload_n 0, 1) := by decide +kernel
theorem dX8_ride_24 : decode cX8_ride 24 = .ok (.getfield 62, 3) := by decide +kernel
theorem dX8_ride_27 : decode cX8_ride 27 = .ok (.getfield 205, 3) := by decide +kernel
theorem dX8_ride_30 : decode cX8_ride 30 = .ok (.istore 4, 2) := by decide +kernel
theorem dX8_ride_32 : decode cX8_ride 32 = .ok (.aload_n 0, 1) := by decide +kernel
theorem dX8_ride_33 : decode cX8_ride 33 = .ok (.getfield 62, 3) := by decide +kernel
theorem dX8_ride_36 : decode cX8_ride 36 = .ok (.iload_n 1, 1) := by decide +kernel
theorem dX8_ride_37 : decode cX8_ride 37 = .ok (.iload_n 2, 1) := by decide +kernel
theorem dX8_ride_38 : decode cX8_ride 38 = .ok (.iload_n 3, 1) := by decide +kernel
theorem dX8_ride_39 : decode cX8_ride 39 = .ok (.iconst 1, 1) := by decide +kernel
theorem dX8_ride_40 : decode cX8_ride 40 = .ok (.if_icmp .ne 7, 3) := by decide +kernel
theorem dX8_ride_43 : decode cX8_ride 43 = .ok (.iconst 1, 1) := by decide +kernel
theorem dX8_ride_44 : decode cX8_ride 44 = .ok (.goto 4, 3) := by decide +kernel
theorem dX8_ride_47 : decode cX8_ride 47 = .ok (.iconst 0, 1) := by decide +kernel
theorem dX8_ride_48 : decode cX8_ride 48 = .ok (.invokevirtual 208, 3) := by decide +kernel
theorem dX8_ride_51 : decode cX8_ride 51 = .ok (.iload 4, 2) := by decide +kernel
theorem dX8_ride_53 : decode cX8_ride 53 = .ok (.ireturn, 1) := by decide +kernel
set_option maxRecDepth 20000 in
theorem ggX8_push_X8_within : GoodIn wsX8_push wsX8_within := goodIn_r _ [6] (by decide +kernel) (by decide +kernel)
set_option maxRecDepth 20000 in
theorem gX8_push_X8_within : GoodIn wsX8_push (va_wsS RX8 106 yX8_within wsX8_within) := goodIn_app (goodIn_of _ (by decide +kernel)) ggX8_push_X8_within
set_option maxRecDepth 20000 in
theorem ggX8_push_X6_takePush : GoodIn wsX8_push wsX6_takePush := goodIn_r _ [10, 11, 12, 13, 14, 8, 15, 16, 33, 34, 35, 36, 37, 38, 39, 40, 41, 42, 43, 44, 45] (by decide +kernel) (by decide +kernel)
set_option maxRecDepth 20000 in
theorem gX8_push_X6_takePush_n216 : GoodIn wsX8_push (wsX6_takePush) := ggX8_push_X6_takePush
theorem dX8_push_0 : decode cX8_push 0 = .ok (.iload_n 1, 1) := by decide +kernel
theorem dX8_push_1 : decode cX8_push 1 = .ok (.sipush (-1000), 3) := by decide +kernel
theorem dX8_push_4 : decode cX8_push 4 = .ok (.sipush 1000, 3) := by decide +kernel
theorem dX8_push_7 : decode cX8_push 7 = .ok (.invokestatic 106, 3) := by decide +kernel
theorem dX8_push_10 : decode cX8_push 10 = .ok (.ifCond .eq 13, 3) := by decide +kernel
theorem dX8_push_13 : decode cX8_push 13 = .ok (.aload_n 0, 1) := by decide +kernel
theorem dX8_push_14 : decode cX8_push 14 = .ok (.getfield 62, 3) := by decide +kernel
theorem dX8_push_17 : decode cX8_push 17 = .ok (.getfield 212, 3) := by decide +kernel
theorem dX8_push_20 : decode cX8_push 20 = .ok (.ifCond .eq 6, 3) := by decide +kernel
theorem dX8_push_23 : decode cX8_push 23 = .ok (.ldc 110, 2) := by decide +kernel
theorem dX8_push_25 : decode cX8_push 25 = .ok (.ireturn, 1) := by decide +kernel
theorem dX8_push_26 : decode cX8_push 26 = .ok (.aload_n 0, 1) := by decide +kernel
theorem dX8_push_27 : decode cX8_push 27 = .ok (.getfield 62, 3) := by decide +kernel
theorem dX8_push_30 : decode cX8_push 30 = .ok (.iload_n 1, 1) := by decide +kernel
theorem dX8_push_31 : decode cX8_push 31 = .ok (.invokevirtual 216, 3) := by decide +kernel
theorem dX8_push_34 : decode cX8_push 34 = .ok (.aload_n 0, 1) := by decide +kernel
theorem dX8_push_35 : decode cX8_push 35 = .ok (.getfield 62, 3) := by decide +kernel
theorem dX8_push_38 : decode cX8_push 38 = .ok (.getfield 220, 3) := by decide +kernel
theorem dX8_push_41 : decode cX8_push 41 = .ok (.ireturn, 1) := by decide +kernel
set_option maxRecDepth 20000 in
theorem ggX8_ticks_X8_within : GoodIn wsX8_ticks wsX8_within := goodIn_r _ [7] (by decide +kernel) (by decide +kernel)
set_option maxRecDepth 20000 in
theorem gX8_ticks_X8_within : GoodIn wsX8_ticks (va_wsS RX8 106 yX8_within wsX8_within) := goodIn_app (goodIn_of _ (by decide +kernel)) ggX8_ticks_X8_within
set_option maxRecDepth 20000 in
theorem ggX8_ticks_X6_goOn : GoodIn wsX8_ticks wsX6_goOn := goodIn_r _ [11, 12, 13, 14, 15, 9, 16, 17, 18, 19, 20, 21, 22, 23, 24, 25, 26, 27, 28, 29, 30, 31, 32, 33, 34, 35, 36, 37, 38, 39, 40, 41, 42, 43, 44, 45, 6, 46, 47, 48, 49, 50, 51, 52, 53, 54, 71, 72, 73, 74, 75, 76, 77, 78, 79, 80, 81, 82, 83, 84, 85, 86] (by decide +kernel) (by decide +kernel)
set_option maxRecDepth 20000 in
theorem gX8_ticks_X6_goOn_n226 : GoodIn wsX8_ticks (wsX6_goOn) := ggX8_ticks_X6_goOn
theorem dX8_ticks_0 : decode cX8_ticks 0 = .ok (.iload_n 1, 1) := by decide +kernel
theorem dX8_ticks_1 : decode cX8_ticks 1 = .ok (.iconst 1, 1) := by decide +kernel
theorem dX8_ticks_2 : decode cX8_ticks 2 = .ok (.sipush 200, 3) := by decide +kernel
theorem dX8_ticks_5 : decode cX8_ticks 5 = .ok (.invokestatic 106, 3) := by decide +kernel
theorem dX8_ticks_8 : decode cX8_ticks 8 = .ok (.ifCond .ne 5, 3) := by decide +kernel
theorem dX8_ticks_11 : decode cX8_ticks 11 = .ok (.iconst (-1), 1) := by decide +kernel
theorem dX8_ticks_12 : decode cX8_ticks 12 = .ok (.ireturn, 1) := by decide +kernel
theorem dX8_ticks_13 : decode cX8_ticks 13 = .ok (.aload_n 0, 1) := by decide +kernel
theorem dX8_ticks_14 : decode cX8_ticks 14 = .ok (.getfield 62, 3) := by decide +kernel
theorem dX8_ticks_17 : decode cX8_ticks 17 = .ok (.getfield 212, 3) := by decide +kernel
theorem dX8_ticks_20 : decode cX8_ticks 20 = .ok (.ifCond .eq 6, 3) := by decide +kernel
theorem dX8_ticks_23 : decode cX8_ticks 23 = .ok (.bipush (-2), 2) := by decide +kernel
theorem dX8_ticks_25 : decode cX8_ticks 25 = .ok (.ireturn, 1) := by decide +kernel
theorem dX8_ticks_26 : decode cX8_ticks 26 = .ok (.aload_n 0, 1) := by decide +kernel
theorem dX8_ticks_27 : decode cX8_ticks 27 = .ok (.getfield 62, 3) := by decide +kernel
theorem dX8_ticks_30 : decode cX8_ticks 30 = .ok (.iload_n 1, 1) := by decide +kernel
theorem dX8_ticks_31 : decode cX8_ticks 31 = .ok (.aload_n 0, 1) := by decide +kernel
theorem dX8_ticks_32 : decode cX8_ticks 32 = .ok (.getfield 11, 3) := by decide +kernel
theorem dX8_ticks_35 : decode cX8_ticks 35 = .ok (.aload_n 0, 1) := by decide +kernel
theorem dX8_ticks_36 : decode cX8_ticks 36 = .ok (.getfield 62, 3) := by decide +kernel
theorem dX8_ticks_39 : decode cX8_ticks 39 = .ok (.getfield 223, 3) := by decide +kernel
theorem dX8_ticks_42 : decode cX8_ticks 42 = .ok (.aaload, 1) := by decide +kernel
theorem dX8_ticks_43 : decode cX8_ticks 43 = .ok (.aload_n 0, 1) := by decide +kernel
theorem dX8_ticks_44 : decode cX8_ticks 44 = .ok (.getfield 56, 3) := by decide +kernel
theorem dX8_ticks_47 : decode cX8_ticks 47 = .ok (.invokevirtual 226, 3) := by decide +kernel
theorem dX8_ticks_50 : decode cX8_ticks 50 = .ok (.ireturn, 1) := by decide +kernel
theorem dX8_at_0 : decode cX8_at 0 = .ok (.iload_n 1, 1) := by decide +kernel
theorem dX8_at_1 : decode cX8_at 1 = .ok (.tableswitch 107 0 6 #[43, 51, 59, 67, 75, 83, 99], 43) := by decide +kernel
theorem dX8_at_44 : decode cX8_at 44 = .ok (.aload_n 0, 1) := by decide +kernel
theorem dX8_at_45 : decode cX8_at 45 = .ok (.getfield 62, 3) := by decide +kernel
theorem dX8_at_48 : decode cX8_at 48 = .ok (.getfield 220, 3) := by decide +kernel
theorem dX8_at_51 : decode cX8_at 51 = .ok (.ireturn, 1) := by decide +kernel
theorem dX8_at_52 : decode cX8_at 52 = .ok (.aload_n 0, 1) := by decide +kernel
theorem dX8_at_53 : decode cX8_at 53 = .ok (.getfield 62, 3) := by decide +kernel
theorem dX8_at_56 : decode cX8_at 56 = .ok (.getfield 230, 3) := by decide +kernel
theorem dX8_at_59 : decode cX8_at 59 = .ok (.ireturn, 1) := by decide +kernel
theorem dX8_at_60 : decode cX8_at 60 = .ok (.aload_n 0, 1) := by decide +kernel
theorem dX8_at_61 : decode cX8_at 61 = .ok (.getfield 62, 3) := by decide +kernel
theorem dX8_at_64 : decode cX8_at 64 = .ok (.getfield 233, 3) := by decide +kernel
theorem dX8_at_67 : decode cX8_at 67 = .ok (.ireturn, 1) := by decide +kernel
theorem dX8_at_68 : decode cX8_at 68 = .ok (.aload_n 0, 1) := by decide +kernel
theorem dX8_at_69 : decode cX8_at 69 = .ok (.getfield 62, 3) := by decide +kernel
theorem dX8_at_72 : decode cX8_at 72 = .ok (.getfield 236, 3) := by decide +kernel
theorem dX8_at_75 : decode cX8_at 75 = .ok (.ireturn, 1) := by decide +kernel
theorem dX8_at_76 : decode cX8_at 76 = .ok (.aload_n 0, 1) := by decide +kernel
theorem dX8_at_77 : decode cX8_at 77 = .ok (.getfield 62, 3) := by decide +kernel
theorem dX8_at_80 : decode cX8_at 80 = .ok (.getfield 205, 3) := by decide +kernel
theorem dX8_at_83 : decode cX8_at 83 = .ok (.ireturn, 1) := by decide +kernel
theorem dX8_at_84 : decode cX8_at 84 = .ok (.aload_n 0, 1) := by decide +kernel
theorem dX8_at_85 : decode cX8_at 85 = .ok (.getfield 62, 3) := by decide +kernel
theorem dX8_at_88 : decode cX8_at 88 = .ok (.getfield 212, 3) := by decide +kernel
theorem dX8_at_91 : decode cX8_at 91 = .ok (.ifCond .eq 7, 3) := by decide +kernel
theorem dX8_at_94 : decode cX8_at 94 = .ok (.iconst 1, 1) := by decide +kernel
theorem dX8_at_95 : decode cX8_at 95 = .ok (.goto 4, 3) := by decide +kernel
theorem dX8_at_98 : decode cX8_at 98 = .ok (.iconst 0, 1) := by decide +kernel
theorem dX8_at_99 : decode cX8_at 99 = .ok (.ireturn, 1) := by decide +kernel
theorem dX8_at_100 : decode cX8_at 100 = .ok (.aload_n 0, 1) := by decide +kernel
theorem dX8_at_101 : decode cX8_at 101 = .ok (.getfield 62, 3) := by decide +kernel
theorem dX8_at_104 : decode cX8_at 104 = .ok (.getfield 239, 3) := by decide +kernel
theorem dX8_at_107 : decode cX8_at 107 = .ok (.ireturn, 1) := by decide +kernel
theorem dX8_at_108 : decode cX8_at 108 = .ok (.ldc 110, 2) := by decide +kernel
theorem dX8_at_110 : decode cX8_at 110 = .ok (.ireturn, 1) := by decide +kernel
set_option maxRecDepth 20000 in
theorem ggX8_bears_X8_within : GoodIn wsX8_bears wsX8_within := goodIn_r _ [8] (by decide +kernel) (by decide +kernel)
set_option maxRecDepth 20000 in
theorem gX8_bears_X8_within : GoodIn wsX8_bears (va_wsS RX8 106 yX8_within wsX8_within) := goodIn_app (goodIn_of _ (by decide +kernel)) ggX8_bears_X8_within
set_option maxRecDepth 20000 in
theorem ggX8_bears_X6_begin : GoodIn wsX8_bears wsX6_begin := goodIn_r _ [12, 13, 14, 15, 16, 17, 18, 19, 20, 21, 22, 79, 80, 81, 82, 83, 84, 85, 86, 87, 88, 89, 90, 91] (by decide +kernel) (by decide +kernel)
set_option maxRecDepth 20000 in
theorem gX8_bears_X6_begin_n208 : GoodIn wsX8_bears (wsX6_begin) := ggX8_bears_X6_begin
set_option maxRecDepth 20000 in
theorem ggX8_bears_X6_takePush : GoodIn wsX8_bears wsX6_takePush := goodIn_r _ [25, 16, 26, 27, 28, 10, 29, 22, 79, 80, 81, 82, 83, 84, 85, 86, 87, 88, 89, 90, 91] (by decide +kernel) (by decide +kernel)
set_option maxRecDepth 20000 in
theorem gX8_bears_X6_takePush_n216 : GoodIn wsX8_bears (wsX6_takePush) := ggX8_bears_X6_takePush
set_option maxRecDepth 20000 in
theorem ggX8_bears_X6_goOn : GoodIn wsX8_bears wsX6_goOn := goodIn_r _ [32, 22, 33, 34, 35, 10, 36, 20, 37, 38, 39, 40, 14, 16, 17, 19, 18, 41, 21, 42, 43, 44, 45, 46, 47, 48, 49, 50, 51, 52, 53, 54, 55, 56, 15, 57, 7, 58, 59, 60, 61, 62, 26, 27, 28, 29, 79, 80, 81, 82, 83, 84, 85, 86, 87, 88, 89, 90, 91, 92, 93, 94] (by decide +kernel) (by decide +kernel)
set_option maxRecDepth 20000 in
theorem gX8_bears_X6_goOn_n226 : GoodIn wsX8_bears (wsX6_goOn) := ggX8_bears_X6_goOn
theorem dX8_bears_0 : decode cX8_bears 0 = .ok (.iload_n 1, 1) := by decide +kernel
theorem dX8_bears_1 : decode cX8_bears 1 = .ok (.iconst 1, 1) := by decide +kernel
theorem dX8_bears_2 : decode cX8_bears 2 = .ok (.sipush 200, 3) := by decide +kernel
theorem dX8_bears_5 : decode cX8_bears 5 = .ok (.invokestatic 106, 3) := by decide +kernel
theorem dX8_bears_8 : decode cX8_bears 8 = .ok (.ifCond .ne 5, 3) := by decide +kernel
theorem dX8_bears_11 : decode cX8_bears 11 = .ok (.iconst (-1), 1) := by decide +kernel
theorem dX8_bears_12 : decode cX8_bears 12 = .ok (.ireturn, 1) := by decide +kernel
theorem dX8_bears_13 : decode cX8_bears 13 = .ok (.iconst 1, 1) := by decide +kernel
theorem dX8_bears_14 : decode cX8_bears 14 = .ok (.istore_n 2, 1) := by decide +kernel
theorem dX8_bears_15 : decode cX8_bears 15 = .ok (.iload_n 2, 1) := by decide +kernel
theorem dX8_bears_16 : decode cX8_bears 16 = .ok (.sipush 1000, 3) := by decide +kernel
theorem dX8_bears_19 : decode cX8_bears 19 = .ok (.if_icmp .gt 82, 3) := by decide +kernel
theorem dX8_bears_22 : decode cX8_bears 22 = .ok (.aload_n 0, 1) := by decide +kernel
theorem dX8_bears_23 : decode cX8_bears 23 = .ok (.getfield 66, 3) := by decide +kernel
theorem dX8_bears_26 : decode cX8_bears 26 = .ok (.aload_n 0, 1) := by decide +kernel
theorem dX8_bears_27 : decode cX8_bears 27 = .ok (.getfield 62, 3) := by decide +kernel
theorem dX8_bears_30 : decode cX8_bears 30 = .ok (.getfield 223, 3) := by decide +kernel
theorem dX8_bears_33 : decode cX8_bears 33 = .ok (.aload_n 0, 1) := by decide +kernel
theorem dX8_bears_34 : decode cX8_bears 34 = .ok (.getfield 62, 3) := by decide +kernel
theorem dX8_bears_37 : decode cX8_bears 37 = .ok (.getfield 242, 3) := by decide +kernel
theorem dX8_bears_40 : decode cX8_bears 40 = .ok (.aload_n 0, 1) := by decide +kernel
theorem dX8_bears_41 : decode cX8_bears 41 = .ok (.getfield 62, 3) := by decide +kernel
theorem dX8_bears_44 : decode cX8_bears 44 = .ok (.getfield 245, 3) := by decide +kernel
theorem dX8_bears_47 : decode cX8_bears 47 = .ok (.invokevirtual 208, 3) := by decide +kernel
theorem dX8_bears_50 : decode cX8_bears 50 = .ok (.aload_n 0, 1) := by decide +kernel
theorem dX8_bears_51 : decode cX8_bears 51 = .ok (.getfield 66, 3) := by decide +kernel
theorem dX8_bears_54 : decode cX8_bears 54 = .ok (.iload_n 2, 1) := by decide +kernel
theorem dX8_bears_55 : decode cX8_bears 55 = .ok (.invokevirtual 216, 3) := by decide +kernel
theorem dX8_bears_58 : decode cX8_bears 58 = .ok (.aload_n 0, 1) := by decide +kernel
theorem dX8_bears_59 : decode cX8_bears 59 = .ok (.getfield 66, 3) := by decide +kernel
theorem dX8_bears_62 : decode cX8_bears 62 = .ok (.iload_n 1, 1) := by decide +kernel
theorem dX8_bears_63 : decode cX8_bears 63 = .ok (.aload_n 0, 1) := by decide +kernel
theorem dX8_bears_64 : decode cX8_bears 64 = .ok (.getfield 11, 3) := by decide +kernel
theorem dX8_bears_67 : decode cX8_bears 67 = .ok (.aload_n 0, 1) := by decide +kernel
theorem dX8_bears_68 : decode cX8_bears 68 = .ok (.getfield 62, 3) := by decide +kernel
theorem dX8_bears_71 : decode cX8_bears 71 = .ok (.getfield 223, 3) := by decide +kernel
theorem dX8_bears_74 : decode cX8_bears 74 = .ok (.aaload, 1) := by decide +kernel
theorem dX8_bears_75 : decode cX8_bears 75 = .ok (.aload_n 0, 1) := by decide +kernel
theorem dX8_bears_76 : decode cX8_bears 76 = .ok (.getfield 56, 3) := by decide +kernel
theorem dX8_bears_79 : decode cX8_bears 79 = .ok (.invokevirtual 226, 3) := by decide +kernel
theorem dX8_bears_82 : decode cX8_bears 82 = .ok (.pop, 1) := by decide +kernel
theorem dX8_bears_83 : decode cX8_bears 83 = .ok (.aload_n 0, 1) := by decide +kernel
theorem dX8_bears_84 : decode cX8_bears 84 = .ok (.getfield 66, 3) := by decide +kernel
theorem dX8_bears_87 : decode cX8_bears 87 = .ok (.getfield 212, 3) := by decide +kernel
theorem dX8_bears_90 : decode cX8_bears 90 = .ok (.ifCond .eq 5, 3) := by decide +kernel
theorem dX8_bears_93 : decode cX8_bears 93 = .ok (.iload_n 2, 1) := by decide +kernel
theorem dX8_bears_94 : decode cX8_bears 94 = .ok (.ireturn, 1) := by decide +kernel
theorem dX8_bears_95 : decode cX8_bears 95 = .ok (.iinc 2 1, 3) := by decide +kernel
theorem dX8_bears_98 : decode cX8_bears 98 = .ok (.goto (-83), 3) := by decide +kernel
theorem dX8_bears_101 : decode cX8_bears 101 = .ok (.bipush (-9), 2) := by decide +kernel
theorem dX8_bears_103 : decode cX8_bears 103 = .ok (.ireturn, 1) := by decide +kernel
set_option maxRecDepth 20000 in
theorem ggX8_weeks_X8_isBar : GoodIn wsX8_weeks wsX8_isBar := goodIn_r _ [7, 8, 9, 6, 10] (by decide +kernel) (by decide +kernel)
set_option maxRecDepth 20000 in
theorem gX8_weeks_X8_isBar : GoodIn wsX8_weeks (va_wsS RX8 248 yX8_isBar wsX8_isBar) := goodIn_app (goodIn_of _ (by decide +kernel)) ggX8_weeks_X8_isBar
set_option maxRecDepth 20000 in
theorem ggX8_weeks_X8_within : GoodIn wsX8_weeks wsX8_within := goodIn_r _ [10] (by decide +kernel) (by decide +kernel)
set_option maxRecDepth 20000 in
theorem gX8_weeks_X8_within : GoodIn wsX8_weeks (va_wsS RX8 106 yX8_within wsX8_within) := goodIn_app (goodIn_of _ (by decide +kernel)) ggX8_weeks_X8_within
set_option maxRecDepth 20000 in
theorem ggX8_weeks_X3_practise : GoodIn wsX8_weeks wsX3_practise := goodIn_r _ [14, 15, 16, 17, 18, 19, 20, 21, 22, 23, 5, 6, 7, 8, 9, 10, 43, 44] (by decide +kernel) (by decide +kernel)
set_option maxRecDepth 20000 in
theorem gX8_weeks_X3_practise_n251 : GoodIn wsX8_weeks (wsX3_practise) := ggX8_weeks_X3_practise
set_option maxRecDepth 20000 in
theorem ggX8_weeks_X3_valueOf : GoodIn wsX8_weeks wsX3_valueOf := goodIn_r _ [26, 15, 5, 6, 7, 8, 9, 10, 43, 44] (by decide +kernel) (by decide +kernel)
set_option maxRecDepth 20000 in
theorem gX8_weeks_X3_valueOf_n255 : GoodIn wsX8_weeks (wsX3_valueOf) := ggX8_weeks_X3_valueOf
theorem dX8_weeks_0 : decode cX8_weeks 0 = .ok (.iload_n 1, 1) := by decide +kernel
theorem dX8_weeks_1 : decode cX8_weeks 1 = .ok (.invokestatic 248, 3) := by decide +kernel
theorem dX8_weeks_4 : decode cX8_weeks 4 = .ok (.ifCond .eq 13, 3) := by decide +kernel
theorem dX8_weeks_7 : decode cX8_weeks 7 = .ok (.iload_n 2, 1) := by decide +kernel
theorem dX8_weeks_8 : decode cX8_weeks 8 = .ok (.iconst 1, 1) := by decide +kernel
theorem dX8_weeks_9 : decode cX8_weeks 9 = .ok (.bipush 50, 2) := by decide +kernel
theorem dX8_weeks_11 : decode cX8_weeks 11 = .ok (.invokestatic 106, 3) := by decide +kernel
theorem dX8_weeks_14 : decode cX8_weeks 14 = .ok (.ifCond .ne 5, 3) := by decide +kernel
theorem dX8_weeks_17 : decode cX8_weeks 17 = .ok (.iconst (-1), 1) := by decide +kernel
theorem dX8_weeks_18 : decode cX8_weeks 18 = .ok (.ireturn, 1) := by decide +kernel
theorem dX8_weeks_19 : decode cX8_weeks 19 = .ok (.iconst 0, 1) := by decide +kernel
theorem dX8_weeks_20 : decode cX8_weeks 20 = .ok (.istore_n 3, 1) := by decide +kernel
theorem dX8_weeks_21 : decode cX8_weeks 21 = .ok (.iload_n 3, 1) := by decide +kernel
theorem dX8_weeks_22 : decode cX8_weeks 22 = .ok (.iload_n 2, 1) := by decide +kernel
theorem dX8_weeks_23 : decode cX8_weeks 23 = .ok (.if_icmp .ge 25, 3) := by decide +kernel
theorem dX8_weeks_26 : decode cX8_weeks 26 = .ok (.aload_n 0, 1) := by decide +kernel
theorem dX8_weeks_27 : decode cX8_weeks 27 = .ok (.getfield 72, 3) := by decide +kernel
theorem dX8_weeks_30 : decode cX8_weeks 30 = .ok (.iload_n 1, 1) := by decide +kernel
theorem dX8_weeks_31 : decode cX8_weeks 31 = .ok (.aload_n 0, 1) := by decide +kernel
theorem dX8_weeks_32 : decode cX8_weeks 32 = .ok (.getfield 76, 3) := by decide +kernel
theorem dX8_weeks_35 : decode cX8_weeks 35 = .ok (.aload_n 0, 1) := by decide +kernel
theorem dX8_weeks_36 : decode cX8_weeks 36 = .ok (.getfield 79, 3) := by decide +kernel
theorem dX8_weeks_39 : decode cX8_weeks 39 = .ok (.invokevirtual 251, 3) := by decide +kernel
theorem dX8_weeks_42 : decode cX8_weeks 42 = .ok (.iinc 3 1, 3) := by decide +kernel
theorem dX8_weeks_45 : decode cX8_weeks 45 = .ok (.goto (-24), 3) := by decide +kernel
theorem dX8_weeks_48 : decode cX8_weeks 48 = .ok (.aload_n 0, 1) := by decide +kernel
theorem dX8_weeks_49 : decode cX8_weeks 49 = .ok (.getfield 72, 3) := by decide +kernel
theorem dX8_weeks_52 : decode cX8_weeks 52 = .ok (.iload_n 1, 1) := by decide +kernel
theorem dX8_weeks_53 : decode cX8_weeks 53 = .ok (.invokevirtual 255, 3) := by decide +kernel
theorem dX8_weeks_56 : decode cX8_weeks 56 = .ok (.ireturn, 1) := by decide +kernel
set_option maxRecDepth 20000 in
theorem ggX8_tune_X8_isFlag : GoodIn wsX8_tune wsX8_isFlag := goodIn_r _ [6, 7, 8, 5, 9] (by decide +kernel) (by decide +kernel)
set_option maxRecDepth 20000 in
theorem gX8_tune_X8_isFlag : GoodIn wsX8_tune (va_wsS RX8 166 yX8_isFlag wsX8_isFlag) := goodIn_app (goodIn_of _ (by decide +kernel)) ggX8_tune_X8_isFlag
set_option maxRecDepth 20000 in
theorem ggX8_tune_X8_within : GoodIn wsX8_tune wsX8_within := goodIn_r _ [9] (by decide +kernel) (by decide +kernel)
set_option maxRecDepth 20000 in
theorem gX8_tune_X8_within : GoodIn wsX8_tune (va_wsS RX8 106 yX8_within wsX8_within) := goodIn_app (goodIn_of _ (by decide +kernel)) ggX8_tune_X8_within
theorem dX8_tune_0 : decode cX8_tune 0 = .ok (.iload_n 1, 1) := by decide +kernel
theorem dX8_tune_1 : decode cX8_tune 1 = .ok (.invokestatic 166, 3) := by decide +kernel
theorem dX8_tune_4 : decode cX8_tune 4 = .ok (.ifCond .eq 21, 3) := by decide +kernel
theorem dX8_tune_7 : decode cX8_tune 7 = .ok (.iload_n 2, 1) := by decide +kernel
theorem dX8_tune_8 : decode cX8_tune 8 = .ok (.iload_n 1, 1) := by decide +kernel
theorem dX8_tune_9 : decode cX8_tune 9 = .ok (.ifCond .ne 7, 3) := by decide +kernel
theorem dX8_tune_12 : decode cX8_tune 12 = .ok (.iconst 1, 1) := by decide +kernel
theorem dX8_tune_13 : decode cX8_tune 13 = .ok (.goto 4, 3) := by decide +kernel
theorem dX8_tune_16 : decode cX8_tune 16 = .ok (.iconst 0, 1) := by decide +kernel
theorem dX8_tune_17 : decode cX8_tune 17 = .ok (.bipush 50, 2) := by decide +kernel
theorem dX8_tune_19 : decode cX8_tune 19 = .ok (.invokestatic 106, 3) := by decide +kernel
theorem dX8_tune_22 : decode cX8_tune 22 = .ok (.ifCond .ne 5, 3) := by decide +kernel
theorem dX8_tune_25 : decode cX8_tune 25 = .ok (.iconst (-1), 1) := by decide +kernel
theorem dX8_tune_26 : decode cX8_tune 26 = .ok (.ireturn, 1) := by decide +kernel
theorem dX8_tune_27 : decode cX8_tune 27 = .ok (.iload_n 1, 1) := by decide +kernel
theorem dX8_tune_28 : decode cX8_tune 28 = .ok (.ifCond .ne 16, 3) := by decide +kernel
theorem dX8_tune_31 : decode cX8_tune 31 = .ok (.aload_n 0, 1) := by decide +kernel
theorem dX8_tune_32 : decode cX8_tune 32 = .ok (.getfield 76, 3) := by decide +kernel
theorem dX8_tune_35 : decode cX8_tune 35 = .ok (.istore_n 3, 1) := by decide +kernel
theorem dX8_tune_36 : decode cX8_tune 36 = .ok (.aload_n 0, 1) := by decide +kernel
theorem dX8_tune_37 : decode cX8_tune 37 = .ok (.iload_n 2, 1) := by decide +kernel
theorem dX8_tune_38 : decode cX8_tune 38 = .ok (.putfield 76, 3) := by decide +kernel
theorem dX8_tune_41 : decode cX8_tune 41 = .ok (.goto 13, 3) := by decide +kernel
theorem dX8_tune_44 : decode cX8_tune 44 = .ok (.aload_n 0, 1) := by decide +kernel
theorem dX8_tune_45 : decode cX8_tune 45 = .ok (.getfield 79, 3) := by decide +kernel
theorem dX8_tune_48 : decode cX8_tune 48 = .ok (.istore_n 3, 1) := by decide +kernel
theorem dX8_tune_49 : decode cX8_tune 49 = .ok (.aload_n 0, 1) := by decide +kernel
theorem dX8_tune_50 : decode cX8_tune 50 = .ok (.iload_n 2, 1) := by decide +kernel
theorem dX8_tune_51 : decode cX8_tune 51 = .ok (.putfield 79, 3) := by decide +kernel
theorem dX8_tune_54 : decode cX8_tune 54 = .ok (.iload_n 3, 1) := by decide +kernel
theorem dX8_tune_55 : decode cX8_tune 55 = .ok (.ireturn, 1) := by decide +kernel
set_option maxRecDepth 20000 in
theorem ggX8_habit_X8_isBar : GoodIn wsX8_habit wsX8_isBar := goodIn_r _ [6, 7, 8, 5, 9] (by decide +kernel) (by decide +kernel)
set_option maxRecDepth 20000 in
theorem gX8_habit_X8_isBar : GoodIn wsX8_habit (va_wsS RX8 248 yX8_isBar wsX8_isBar) := goodIn_app (goodIn_of _ (by decide +kernel)) ggX8_habit_X8_isBar
set_option maxRecDepth 20000 in
theorem ggX8_habit_X8_isFlag : GoodIn wsX8_habit wsX8_isFlag := goodIn_r _ [12, 7, 8, 5, 9] (by decide +kernel) (by decide +kernel)
set_option maxRecDepth 20000 in
theorem gX8_habit_X8_isFlag : GoodIn wsX8_habit (va_wsS RX8 166 yX8_isFlag wsX8_isFlag) := goodIn_app (goodIn_of _ (by decide +kernel)) ggX8_habit_X8_isFlag
set_option maxRecDepth 20000 in
theorem ggX8_habit_X3_valueOf : GoodIn wsX8_habit wsX3_valueOf := goodIn_r _ [16, 17, 4, 5, 6, 7, 8, 9, 45, 46] (by decide +kernel) (by decide +kernel)
set_option maxRecDepth 20000 in
theorem gX8_habit_X3_valueOf_n255 : GoodIn wsX8_habit (wsX3_valueOf) := ggX8_habit_X3_valueOf
set_option maxRecDepth 20000 in
theorem ggX8_habit_X3_weeksTillWhole : GoodIn wsX8_habit wsX3_weeksTillWhole := goodIn_r _ [20, 17, 21, 22, 23, 24, 25, 26, 27, 28, 4, 5, 6, 7, 8, 9, 45, 46] (by decide +kernel) (by decide +kernel)
set_option maxRecDepth 20000 in
theorem gX8_habit_X3_weeksTillWhole_n256 : GoodIn wsX8_habit (wsX3_weeksTillWhole) := ggX8_habit_X3_weeksTillWhole
theorem dX8_habit_0 : decode cX8_habit 0 = .ok (.iload_n 1, 1) := by decide +kernel
theorem dX8_habit_1 : decode cX8_habit 1 = .ok (.invokestatic 248, 3) := by decide +kernel
theorem dX8_habit_4 : decode cX8_habit 4 = .ok (.ifCond .eq 10, 3) := by decide +kernel
theorem dX8_habit_7 : decode cX8_habit 7 = .ok (.iload_n 2, 1) := by decide +kernel
theorem dX8_habit_8 : decode cX8_habit 8 = .ok (.invokestatic 166, 3) := by decide +kernel
theorem dX8_habit_11 : decode cX8_habit 11 = .ok (.ifCond .ne 5, 3) := by decide +kernel
theorem dX8_habit_14 : decode cX8_habit 14 = .ok (.iconst (-1), 1) := by decide +kernel
theorem dX8_habit_15 : decode cX8_habit 15 = .ok (.ireturn, 1) := by decide +kernel
theorem dX8_habit_16 : decode cX8_habit 16 = .ok (.iload_n 2, 1) := by decide +kernel
theorem dX8_habit_17 : decode cX8_habit 17 = .ok (.ifCond .ne 14, 3) := by decide +kernel
theorem dX8_habit_20 : decode cX8_habit 20 = .ok (.aload_n 0, 1) := by decide +kernel
theorem dX8_habit_21 : decode cX8_habit 21 = .ok (.getfield 72, 3) := by decide +kernel
theorem dX8_habit_24 : decode cX8_habit 24 = .ok (.iload_n 1, 1) := by decide +kernel
theorem dX8_habit_25 : decode cX8_habit 25 = .ok (.invokevirtual 255, 3) := by decide +kernel
theorem dX8_habit_28 : decode cX8_habit 28 = .ok (.goto 15, 3) := by decide +kernel
theorem dX8_habit_31 : decode cX8_habit 31 = .ok (.aload_n 0, 1) := by decide +kernel
theorem dX8_habit_32 : decode cX8_habit 32 = .ok (.getfield 72, 3) := by decide +kernel
theorem dX8_habit_35 : decode cX8_habit 35 = .ok (.iload_n 1, 1) := by decide +kernel
theorem dX8_habit_36 : decode cX8_habit 36 = .ok (.aload_n 0, 1) := by decide +kernel
theorem dX8_habit_37 : decode cX8_habit 37 = .ok (.getfield 76, 3) := by decide +kernel
theorem dX8_habit_40 : decode cX8_habit 40 = .ok (.invokevirtual 256, 3) := by decide +kernel
theorem dX8_habit_43 : decode cX8_habit 43 = .ok (.ireturn, 1) := by decide +kernel
set_option maxRecDepth 20000 in
theorem ggX8_score_X8_within : GoodIn wsX8_score wsX8_within := goodIn_r _ [6] (by decide +kernel) (by decide +kernel)
set_option maxRecDepth 20000 in
theorem gX8_score_X8_within : GoodIn wsX8_score (va_wsS RX8 106 yX8_within wsX8_within) := goodIn_app (goodIn_of _ (by decide +kernel)) ggX8_score_X8_within
set_option maxRecDepth 20000 in
theorem ggX8_score_X8_isBicycle : GoodIn wsX8_score wsX8_isBicycle := goodIn_r _ [9, 3, 4, 5, 6] (by decide +kernel) (by decide +kernel)
set_option maxRecDepth 20000 in
theorem gX8_score_X8_isBicycle : GoodIn wsX8_score (va_wsS RX8 93 yX8_isBicycle wsX8_isBicycle) := goodIn_app (goodIn_of _ (by decide +kernel)) ggX8_score_X8_isBicycle
set_option maxRecDepth 20000 in
theorem ggX8_score_X8_askKind : GoodIn wsX8_score wsX8_askKind := goodIn_r _ [13, 14, 15, 16, 17, 3, 4, 5, 6, 10, 11, 12, 18, 19, 20, 21, 22, 23, 24, 25, 26, 27, 28, 29, 30, 31, 32, 33, 34, 35, 36, 37, 38, 39, 40, 41, 42, 43, 44, 45, 46, 47, 48, 49, 50, 51, 52, 53, 54, 55, 56, 57, 58, 59, 60, 61, 62, 63, 64, 65, 66, 67, 68, 69, 70, 71, 72, 73, 74, 75, 76, 77, 78, 79, 80, 81, 82, 83, 84, 85, 86, 87, 88, 89, 90, 91, 92, 93, 94, 95, 96, 97, 98, 99, 100, 101, 102] (by decide +kernel) (by decide +kernel)
set_option maxRecDepth 20000 in
theorem gX8_score_X8_askKind : GoodIn wsX8_score (wsV RX8 260 RX8 yX8_askKind wsX8_askKind) := goodIn_app (goodIn_of _ (by decide +kernel)) ggX8_score_X8_askKind
theorem dX8_score_0 : decode cX8_score 0 = .ok (.iload_n 1, 1) := by decide +kernel
theorem dX8_score_1 : decode cX8_score 1 = .ok (.iconst 0, 1) := by decide +kernel
theorem dX8_score_2 : decode cX8_score 2 = .ok (.bipush 6, 2) := by decide +kernel
theorem dX8_score_4 : decode cX8_score 4 = .ok (.invokestatic 106, 3) := by decide +kernel
theorem dX8_score_7 : decode cX8_score 7 = .ok (.ifCond .eq 10, 3) := by decide +kernel
theorem dX8_score_10 : decode cX8_score 10 = .ok (.iload_n 2, 1) := by decide +kernel
theorem dX8_score_11 : decode cX8_score 11 = .ok (.invokestatic 93, 3) := by decide +kernel
theorem dX8_score_14 : decode cX8_score 14 = .ok (.ifCond .ne 6, 3) := by decide +kernel
theorem dX8_score_17 : decode cX8_score 17 = .ok (.ldc 110, 2) := by decide +kernel
theorem dX8_score_19 : decode cX8_score 19 = .ok (.ireturn, 1) := by decide +kernel
theorem dX8_score_20 : decode cX8_score 20 = .ok (.aload_n 0, 1) := by decide +kernel
theorem dX8_score_21 : decode cX8_score 21 = .ok (.iload_n 1, 1) := by decide +kernel
theorem dX8_score_22 : decode cX8_score 22 = .ok (.aload_n 0, 1) := by decide +kernel
theorem dX8_score_23 : decode cX8_score 23 = .ok (.getfield 11, 3) := by decide +kernel
theorem dX8_score_26 : decode cX8_score 26 = .ok (.iload_n 2, 1) := by decide +kernel
theorem dX8_score_27 : decode cX8_score 27 = .ok (.aaload, 1) := by decide +kernel
theorem dX8_score_28 : decode cX8_score 28 = .ok (.iconst 1, 1) := by decide +kernel
theorem dX8_score_29 : decode cX8_score 29 = .ok (.invokevirtual 260, 3) := by decide +kernel
theorem dX8_score_32 : decode cX8_score 32 = .ok (.ireturn, 1) := by decide +kernel
set_option maxRecDepth 20000 in
theorem ggX8_keep_X8_isImage : GoodIn wsX8_keep wsX8_isImage := goodIn_r _ [7, 8, 9, 6, 10] (by decide +kernel) (by decide +kernel)
set_option maxRecDepth 20000 in
theorem gX8_keep_X8_isImage : GoodIn wsX8_keep (va_wsS RX8 264 yX8_isImage wsX8_isImage) := goodIn_app (goodIn_of _ (by decide +kernel)) ggX8_keep_X8_isImage
set_option maxRecDepth 20000 in
theorem ggX8_keep_X4_take : GoodIn wsX8_keep wsX4_take := goodIn_r _ [14, 15, 16, 17, 18, 19, 20, 21, 22, 23, 24, 25, 26, 27, 28, 29, 30, 31, 32, 33, 34, 35, 36, 37, 38, 39, 40, 41, 42, 43, 44, 74, 75, 76, 61, 62, 63, 64, 65, 66, 67, 68, 69, 70, 71, 72, 73, 77, 78] (by decide +kernel) (by decide +kernel)
set_option maxRecDepth 20000 in
theorem gX8_keep_X4_take_n267 : GoodIn wsX8_keep (wsX4_take) := ggX8_keep_X4_take
theorem dX8_keep_0 : decode cX8_keep 0 = .ok (.iload_n 1, 1) := by decide +kernel
theorem dX8_keep_1 : decode cX8_keep 1 = .ok (.invokestatic 264, 3) := by decide +kernel
theorem dX8_keep_4 : decode cX8_keep 4 = .ok (.ifCond .ne 5, 3) := by decide +kernel
theorem dX8_keep_7 : decode cX8_keep 7 = .ok (.iconst (-1), 1) := by decide +kernel
theorem dX8_keep_8 : decode cX8_keep 8 = .ok (.ireturn, 1) := by decide +kernel
theorem dX8_keep_9 : decode cX8_keep 9 = .ok (.aload_n 0, 1) := by decide +kernel
theorem dX8_keep_10 : decode cX8_keep 10 = .ok (.getfield 84, 3) := by decide +kernel
theorem dX8_keep_13 : decode cX8_keep 13 = .ok (.iload_n 1, 1) := by decide +kernel
theorem dX8_keep_14 : decode cX8_keep 14 = .ok (.aaload, 1) := by decide +kernel
theorem dX8_keep_15 : decode cX8_keep 15 = .ok (.aload_n 0, 1) := by decide +kernel
theorem dX8_keep_16 : decode cX8_keep 16 = .ok (.getfield 62, 3) := by decide +kernel
theorem dX8_keep_19 : decode cX8_keep 19 = .ok (.aload_n 0, 1) := by decide +kernel
theorem dX8_keep_20 : decode cX8_keep 20 = .ok (.getfield 72, 3) := by decide +kernel
theorem dX8_keep_23 : decode cX8_keep 23 = .ok (.invokevirtual 267, 3) := by decide +kernel
theorem dX8_keep_26 : decode cX8_keep 26 = .ok (.aload_n 0, 1) := by decide +kernel
theorem dX8_keep_27 : decode cX8_keep 27 = .ok (.getfield 62, 3) := by decide +kernel
theorem dX8_keep_30 : decode cX8_keep 30 = .ok (.getfield 205, 3) := by decide +kernel
theorem dX8_keep_33 : decode cX8_keep 33 = .ok (.ireturn, 1) := by decide +kernel
set_option maxRecDepth 20000 in
theorem ggX8_back_X8_isImage : GoodIn wsX8_back wsX8_isImage := goodIn_r _ [7, 8, 9, 6, 10] (by decide +kernel) (by decide +kernel)
set_option maxRecDepth 20000 in
theorem gX8_back_X8_isImage : GoodIn wsX8_back (va_wsS RX8 264 yX8_isImage wsX8_isImage) := goodIn_app (goodIn_of _ (by decide +kernel)) ggX8_back_X8_isImage
set_option maxRecDepth 20000 in
theorem ggX8_back_X4_giveBack : GoodIn wsX8_back wsX4_giveBack := goodIn_r _ [14, 15, 16, 17, 18, 19, 20, 21, 22, 23, 24, 25, 26, 27, 28, 29, 30, 31, 32, 33, 34, 35, 36, 37, 38, 39, 40, 41, 42, 43, 60, 61, 62, 63, 64, 65, 66, 67, 68, 69, 70, 71, 72, 73, 74, 75, 76, 77] (by decide +kernel) (by decide +kernel)
set_option maxRecDepth 20000 in
theorem gX8_back_X4_giveBack_n274 : GoodIn wsX8_back (wsX4_giveBack) := ggX8_back_X4_giveBack
theorem dX8_back_0 : decode cX8_back 0 = .ok (.iload_n 1, 1) := by decide +kernel
theorem dX8_back_1 : decode cX8_back 1 = .ok (.invokestatic 264, 3) := by decide +kernel
theorem dX8_back_4 : decode cX8_back 4 = .ok (.ifCond .ne 5, 3) := by decide +kernel
theorem dX8_back_7 : decode cX8_back 7 = .ok (.iconst (-1), 1) := by decide +kernel
theorem dX8_back_8 : decode cX8_back 8 = .ok (.ireturn, 1) := by decide +kernel
theorem dX8_back_9 : decode cX8_back 9 = .ok (.aload_n 0, 1) := by decide +kernel
theorem dX8_back_10 : decode cX8_back 10 = .ok (.getfield 84, 3) := by decide +kernel
theorem dX8_back_13 : decode cX8_back 13 = .ok (.iload_n 1, 1) := by decide +kernel
theorem dX8_back_14 : decode cX8_back 14 = .ok (.aaload, 1) := by decide +kernel
theorem dX8_back_15 : decode cX8_back 15 = .ok (.getfield 271, 3) := by decide +kernel
theorem dX8_back_18 : decode cX8_back 18 = .ok (.ifCond .ne 6, 3) := by decide +kernel
theorem dX8_back_21 : decode cX8_back 21 = .ok (.bipush (-2), 2) := by decide +kernel
theorem dX8_back_23 : decode cX8_back 23 = .ok (.ireturn, 1) := by decide +kernel
theorem dX8_back_24 : decode cX8_back 24 = .ok (.aload_n 0, 1) := by decide +kernel
theorem dX8_back_25 : decode cX8_back 25 = .ok (.getfield 84, 3) := by decide +kernel
theorem dX8_back_28 : decode cX8_back 28 = .ok (.iload_n 1, 1) := by decide +kernel
theorem dX8_back_29 : decode cX8_back 29 = .ok (.aaload, 1) := by decide +kernel
theorem dX8_back_30 : decode cX8_back 30 = .ok (.aload_n 0, 1) := by decide +kernel
theorem dX8_back_31 : decode cX8_back 31 = .ok (.getfield 62, 3) := by decide +kernel
theorem dX8_back_34 : decode cX8_back 34 = .ok (.aload_n 0, 1) := by decide +kernel
theorem dX8_back_35 : decode cX8_back 35 = .ok (.getfield 72, 3) := by decide +kernel
theorem dX8_back_38 : decode cX8_back 38 = .ok (.invokevirtual 274, 3) := by decide +kernel
theorem dX8_back_41 : decode cX8_back 41 = .ok (.aload_n 0, 1) := by decide +kernel
theorem dX8_back_42 : decode cX8_back 42 = .ok (.getfield 62, 3) := by decide +kernel
theorem dX8_back_45 : decode cX8_back 45 = .ok (.getfield 205, 3) := by decide +kernel
theorem dX8_back_48 : decode cX8_back 48 = .ok (.ireturn, 1) := by decide +kernel
set_option maxRecDepth 20000 in
theorem ggX8_count_X7_itemCount : GoodIn wsX8_count wsX7_itemCount := goodIn_r _ [6, 7, 8, 9, 10, 11, 12, 13, 14, 75, 76] (by decide +kernel) (by decide +kernel)
set_option maxRecDepth 20000 in
theorem gX8_count_X7_itemCount_n202 : GoodIn wsX8_count (wsX7_itemCount) := ggX8_count_X7_itemCount
set_option maxRecDepth 20000 in
theorem ggX8_count_X8_speedsOfAll : GoodIn wsX8_count wsX8_speedsOfAll := goodIn_r _ [19, 20, 21, 22, 23, 24, 25, 26, 27, 28, 29, 30, 31, 32, 33, 34, 35, 36, 37, 38, 39, 40, 41, 42, 43, 44, 45, 46, 47, 48, 49, 50, 51, 52, 53, 54, 55, 56, 57, 58, 59, 60, 61, 62, 63, 64, 65, 66, 67, 68, 69, 70, 71, 72, 73, 74, 77] (by decide +kernel) (by decide +kernel)
set_option maxRecDepth 20000 in
theorem gX8_count_X8_speedsOfAll : GoodIn wsX8_count (wsV RX8 277 RX8 yX8_speedsOfAll wsX8_speedsOfAll) := goodIn_app (goodIn_of _ (by decide +kernel)) ggX8_count_X8_speedsOfAll
theorem dX8_count_0 : decode cX8_count 0 = .ok (.iload_n 1, 1) := by decide +kernel
theorem dX8_count_1 : decode cX8_count 1 = .ok (.tableswitch 45 0 2 #[27, 35, 40], 27) := by decide +kernel
theorem dX8_count_28 : decode cX8_count 28 = .ok (.aload_n 0, 1) := by decide +kernel
theorem dX8_count_29 : decode cX8_count 29 = .ok (.getfield 56, 3) := by decide +kernel
theorem dX8_count_32 : decode cX8_count 32 = .ok (.invokevirtual 202, 3) := by decide +kernel
theorem dX8_count_35 : decode cX8_count 35 = .ok (.ireturn, 1) := by decide +kernel
theorem dX8_count_36 : decode cX8_count 36 = .ok (.aload_n 0, 1) := by decide +kernel
theorem dX8_count_37 : decode cX8_count 37 = .ok (.getfield 38, 3) := by decide +kernel
theorem dX8_count_40 : decode cX8_count 40 = .ok (.ireturn, 1) := by decide +kernel
theorem dX8_count_41 : decode cX8_count 41 = .ok (.aload_n 0, 1) := by decide +kernel
theorem dX8_count_42 : decode cX8_count 42 = .ok (.invokevirtual 277, 3) := by decide +kernel
theorem dX8_count_45 : decode cX8_count 45 = .ok (.ireturn, 1) := by decide +kernel
theorem dX8_count_46 : decode cX8_count 46 = .ok (.iconst (-1), 1) := by decide +kernel
theorem dX8_count_47 : decode cX8_count 47 = .ok (.ireturn, 1) := by decide +kernel
theorem dX8_trace_0 : decode cX8_trace 0 = .ok (.aload_n 0, 1) := by decide +kernel
theorem dX8_trace_1 : decode cX8_trace 1 = .ok (.getfield 88, 3) := by decide +kernel
theorem dX8_trace_4 : decode cX8_trace 4 = .ok (.lreturn, 1) := by decide +kernel
set_option maxRecDepth 20000 in
theorem ggX8_askKind_X8_within : GoodIn wsX8_askKind wsX8_within := goodIn_r _ [8] (by decide +kernel) (by decide +kernel)
set_option maxRecDepth 20000 in
theorem gX8_askKind_X8_within : GoodIn wsX8_askKind (va_wsS RX8 106 yX8_within wsX8_within) := goodIn_app (goodIn_of _ (by decide +kernel)) ggX8_askKind_X8_within
set_option maxRecDepth 20000 in
theorem ggX8_askKind_X8_askKind : GoodIn wsX8_askKind wsX8_askKind := goodIn_r _ [0, 1, 2, 3, 4, 5, 6, 7, 8, 9, 10, 11, 12, 13, 14, 15, 16, 17, 18, 19, 20, 21, 22, 23, 24, 25, 26, 27, 28, 29, 30, 31, 32, 33, 34, 35, 36, 37, 38, 39, 40, 41, 42, 43, 44, 45, 46, 47, 48, 49, 50, 51, 52, 53, 54, 55, 56, 57, 58, 59, 60, 61, 62, 63, 64, 65, 66, 67, 68, 69, 70, 71, 72, 73, 74, 75, 76, 77, 78, 79, 80, 81, 82, 83, 84, 85, 86, 87, 88, 89, 90, 91, 92, 93, 94, 95, 96] (by decide +kernel) (by decide +kernel)
set_option maxRecDepth 20000 in
theorem gX8_askKind_X8_askKind : GoodIn wsX8_askKind (wsV RX8 260 RX8 yX8_askKind wsX8_askKind) := goodIn_app (goodIn_of _ (by decide +kernel)) ggX8_askKind_X8_askKind
set_option maxRecDepth 20000 in
theorem ggX8_askKind_X0_valueOf : GoodIn wsX8_askKind wsX0_valueOf := goodIn_r _ [15, 16, 17, 7, 18, 5, 6, 8, 94] (by decide +kernel) (by decide +kernel)
set_option maxRecDepth 20000 in
theorem gX8_askKind_X0_valueOf_n111 : GoodIn wsX8_askKind (wsX0_valueOf) := ggX8_askKind_X0_valueOf
set_option maxRecDepth 20000 in
theorem ggX8_askKind_X8_speedsWith : GoodIn wsX8_askKind wsX8_speedsWith := goodIn_r _ [22, 23, 24, 13, 25, 26, 16, 27, 28, 29, 30, 31, 32, 33, 17, 7, 18, 5, 6, 8, 34, 35, 36, 37, 38, 39, 40, 41, 42, 43, 44, 45, 46, 47, 48, 49, 50, 51, 52, 53, 54, 55, 56, 57, 58, 78, 79, 80, 81, 82, 83, 84, 85, 86, 87, 88, 89, 90, 91, 92, 93, 94] (by decide +kernel) (by decide +kernel)
set_option maxRecDepth 20000 in
theorem gX8_askKind_X8_speedsWith : GoodIn wsX8_askKind (wsV RX8 155 RX8 yX8_speedsWith wsX8_speedsWith) := goodIn_app (goodIn_of _ (by decide +kernel)) ggX8_askKind_X8_speedsWith
set_option maxRecDepth 20000 in
theorem ggX8_askKind_J13_bitCount_95d88 : GoodIn wsX8_askKind wsJ13_bitCount_95d88 := goodIn_r _ [62, 63, 64, 65] (by decide +kernel) (by decide +kernel)
set_option maxRecDepth 20000 in
theorem gX8_askKind_J13_bitCount_95d88 : GoodIn wsX8_askKind (va_wsS RX8 169 yJ13_bitCount_95d88 wsJ13_bitCount_95d88) := goodIn_app (goodIn_of _ (by decide +kernel)) ggX8_askKind_J13_bitCount_95d88
set_option maxRecDepth 20000 in
theorem ggX8_askKind_X3_valueOf : GoodIn wsX8_askKind wsX3_valueOf := goodIn_r _ [69, 70, 71, 7, 72, 5, 6, 8, 95, 96] (by decide +kernel) (by decide +kernel)
set_option maxRecDepth 20000 in
theorem gX8_askKind_X3_valueOf_n255 : GoodIn wsX8_askKind (wsX3_valueOf) := ggX8_askKind_X3_valueOf
set_option maxRecDepth 20000 in
theorem ggX8_askKind_X0_speedCount : GoodIn wsX8_askKind wsX0_speedCount := goodIn_r _ [75, 76, 34, 35, 13, 36, 16, 37, 38, 39, 40, 41, 42, 43, 44, 45, 46, 47, 48, 49, 50, 51, 52, 53, 54, 55, 56, 57, 58, 77, 60, 61, 62, 63, 64, 65, 94] (by decide +kernel) (by decide +kernel)
set_option maxRecDepth 20000 in
theorem gX8_askKind_X0_speedCount_n173 : GoodIn wsX8_askKind (wsX0_speedCount) := ggX8_askKind_X0_speedCount
theorem dX8_askKind_0 : decode cX8_askKind 0 = .ok (.iload_n 1, 1) := by decide +kernel
theorem dX8_askKind_1 : decode cX8_askKind 1 = .ok (.iconst 0, 1) := by decide +kernel
theorem dX8_askKind_2 : decode cX8_askKind 2 = .ok (.bipush 6, 2) := by decide +kernel
theorem dX8_askKind_4 : decode cX8_askKind 4 = .ok (.invokestatic 106, 3) := by decide +kernel
theorem dX8_askKind_7 : decode cX8_askKind 7 = .ok (.ifCond .eq 8, 3) := by decide +kernel
theorem dX8_askKind_10 : decode cX8_askKind 10 = .ok (.iload_n 3, 1) := by decide +kernel
theorem dX8_askKind_11 : decode cX8_askKind 11 = .ok (.iconst 3, 1) := by decide +kernel
theorem dX8_askKind_12 : decode cX8_askKind 12 = .ok (.if_icmp .le 5, 3) := by decide +kernel
theorem dX8_askKind_15 : decode cX8_askKind 15 = .ok (.iconst 0, 1) := by decide +kernel
theorem dX8_askKind_16 : decode cX8_askKind 16 = .ok (.ireturn, 1) := by decide +kernel
theorem dX8_askKind_17 : decode cX8_askKind 17 = .ok (.aload_n 0, 1) := by decide +kernel
theorem dX8_askKind_18 : decode cX8_askKind 18 = .ok (.dup, 1) := by decide +kernel
theorem dX8_askKind_19 : decode cX8_askKind 19 = .ok (.getfield 88, 3) := by decide +kernel
theorem dX8_askKind_22 : decode cX8_askKind 22 = .ok (.getstatic 280, 3) := by decide +kernel
theorem dX8_askKind_25 : decode cX8_askKind 25 = .ok (.iload_n 1, 1) := by decide +kernel
theorem dX8_askKind_26 : decode cX8_askKind 26 = .ok (.iaload, 1) := by decide +kernel
theorem dX8_askKind_27 : decode cX8_askKind 27 = .ok (.i2l, 1) := by decide +kernel
theorem dX8_askKind_28 : decode cX8_askKind 28 = .ok (.ladd, 1) := by decide +kernel
theorem dX8_askKind_29 : decode cX8_askKind 29 = .ok (.putfield 88, 3) := by decide +kernel
theorem dX8_askKind_32 : decode cX8_askKind 32 = .ok (.aload_n 0, 1) := by decide +kernel
theorem dX8_askKind_33 : decode cX8_askKind 33 = .ok (.getstatic 283, 3) := by decide +kernel
theorem dX8_askKind_36 : decode cX8_askKind 36 = .ok (.iload_n 1, 1) := by decide +kernel
theorem dX8_askKind_37 : decode cX8_askKind 37 = .ok (.iaload, 1) := by decide +kernel
theorem dX8_askKind_38 : decode cX8_askKind 38 = .ok (.aload_n 2, 1) := by decide +kernel
theorem dX8_askKind_39 : decode cX8_askKind 39 = .ok (.iload_n 3, 1) := by decide +kernel
theorem dX8_askKind_40 : decode cX8_askKind 40 = .ok (.iconst 1, 1) := by decide +kernel
theorem dX8_askKind_41 : decode cX8_askKind 41 = .ok (.iadd, 1) := by decide +kernel
theorem dX8_askKind_42 : decode cX8_askKind 42 = .ok (.invokevirtual 260, 3) := by decide +kernel
theorem dX8_askKind_45 : decode cX8_askKind 45 = .ok (.istore 4, 2) := by decide +kernel
theorem dX8_askKind_47 : decode cX8_askKind 47 = .ok (.iload_n 1, 1) := by decide +kernel
theorem dX8_askKind_48 : decode cX8_askKind 48 = .ok (.tableswitch 112 1 6 #[40, 49, 63, 77, 88, 103], 40) := by decide +kernel
theorem dX8_askKind_88 : decode cX8_askKind 88 = .ok (.iload 4, 2) := by decide +kernel
theorem dX8_askKind_90 : decode cX8_askKind 90 = .ok (.aload_n 2, 1) := by decide +kernel
theorem dX8_askKind_91 : decode cX8_askKind 91 = .ok (.iconst 1, 1) := by decide +kernel
theorem dX8_askKind_92 : decode cX8_askKind 92 = .ok (.invokevirtual 111, 3) := by decide +kernel
theorem dX8_askKind_95 : decode cX8_askKind 95 = .ok (.iadd, 1) := by decide +kernel
theorem dX8_askKind_96 : decode cX8_askKind 96 = .ok (.ireturn, 1) := by decide +kernel
theorem dX8_askKind_97 : decode cX8_askKind 97 = .ok (.iload 4, 2) := by decide +kernel
theorem dX8_askKind_99 : decode cX8_askKind 99 = .ok (.aload_n 0, 1) := by decide +kernel
theorem dX8_askKind_100 : decode cX8_askKind 100 = .ok (.aload_n 2, 1) := by decide +kernel
theorem dX8_askKind_101 : decode cX8_askKind 101 = .ok (.iconst 0, 1) := by decide +kernel
theorem dX8_askKind_102 : decode cX8_askKind 102 = .ok (.iconst 0, 1) := by decide +kernel
theorem dX8_askKind_103 : decode cX8_askKind 103 = .ok (.invokevirtual 155, 3) := by decide +kernel
theorem dX8_askKind_106 : decode cX8_askKind 106 = .ok (.invokestatic 169, 3) := by decide +kernel
theorem dX8_askKind_109 : decode cX8_askKind 109 = .ok (.isub, 1) := by decide +kernel
theorem dX8_askKind_110 : decode cX8_askKind 110 = .ok (.ireturn, 1) := by decide +kernel
theorem dX8_askKind_111 : decode cX8_askKind 111 = .ok (.iload 4, 2) := by decide +kernel
theorem dX8_askKind_113 : decode cX8_askKind 113 = .ok (.aload_n 0, 1) := by decide +kernel
theorem dX8_askKind_114 : decode cX8_askKind 114 = .ok (.aload_n 2, 1) := by decide +kernel
theorem dX8_askKind_115 : decode cX8_askKind 115 = .ok (.iconst 1, 1) := by decide +kernel
theorem dX8_askKind_116 : decode cX8_askKind 116 = .ok (.iconst 0, 1) := by decide +kernel
theorem dX8_askKind_117 : decode cX8_askKind 117 = .ok (.invokevirtual 155, 3) := by decide +kernel
theorem dX8_askKind_120 : decode cX8_askKind 120 = .ok (.invokestatic 169, 3) := by decide +kernel
theorem dX8_askKind_123 : decode cX8_askKind 123 = .ok (.isub, 1) := by decide +kernel
theorem dX8_askKind_124 : decode cX8_askKind 124 = .ok (.ireturn, 1) := by decide +kernel
theorem dX8_askKind_125 : decode cX8_askKind 125 = .ok (.iconst 2, 1) := by decide +kernel
theorem dX8_askKind_126 : decode cX8_askKind 126 = .ok (.iload 4, 2) := by decide +kernel
theorem dX8_askKind_128 : decode cX8_askKind 128 = .ok (.imul, 1) := by decide +kernel
theorem dX8_askKind_129 : decode cX8_askKind 129 = .ok (.aload_n 2, 1) := by decide +kernel
theorem dX8_askKind_130 : decode cX8_askKind 130 = .ok (.iconst 0, 1) := by decide +kernel
theorem dX8_askKind_131 : decode cX8_askKind 131 = .ok (.invokevirtual 111, 3) := by decide +kernel
theorem dX8_askKind_134 : decode cX8_askKind 134 = .ok (.iadd, 1) := by decide +kernel
theorem dX8_askKind_135 : decode cX8_askKind 135 = .ok (.ireturn, 1) := by decide +kernel
theorem dX8_askKind_136 : decode cX8_askKind 136 = .ok (.iload 4, 2) := by decide +kernel
theorem dX8_askKind_138 : decode cX8_askKind 138 = .ok (.aload_n 0, 1) := by decide +kernel
theorem dX8_askKind_139 : decode cX8_askKind 139 = .ok (.getfield 72, 3) := by decide +kernel
theorem dX8_askKind_142 : decode cX8_askKind 142 = .ok (.iconst 1, 1) := by decide +kernel
theorem dX8_askKind_143 : decode cX8_askKind 143 = .ok (.invokevirtual 255, 3) := by decide +kernel
theorem dX8_askKind_146 : decode cX8_askKind 146 = .ok (.bipush 10, 2) := by decide +kernel
theorem dX8_askKind_148 : decode cX8_askKind 148 = .ok (.idiv, 1) := by decide +kernel
theorem dX8_askKind_149 : decode cX8_askKind 149 = .ok (.isub, 1) := by decide +kernel
theorem dX8_askKind_150 : decode cX8_askKind 150 = .ok (.ireturn, 1) := by decide +kernel
theorem dX8_askKind_151 : decode cX8_askKind 151 = .ok (.iload 4, 2) := by decide +kernel
theorem dX8_askKind_153 : decode cX8_askKind 153 = .ok (.aload_n 2, 1) := by decide +kernel
theorem dX8_askKind_154 : decode cX8_askKind 154 = .ok (.iconst 3, 1) := by decide +kernel
theorem dX8_askKind_155 : decode cX8_askKind 155 = .ok (.invokevirtual 111, 3) := by decide +kernel
theorem dX8_askKind_158 : decode cX8_askKind 158 = .ok (.imul, 1) := by decide +kernel
theorem dX8_askKind_159 : decode cX8_askKind 159 = .ok (.ireturn, 1) := by decide +kernel
theorem dX8_askKind_160 : decode cX8_askKind 160 = .ok (.aload_n 2, 1) := by decide +kernel
theorem dX8_askKind_161 : decode cX8_askKind 161 = .ok (.invokevirtual 173, 3) := by decide +kernel
theorem dX8_askKind_164 : decode cX8_askKind 164 = .ok (.ireturn, 1) := by decide +kernel
set_option maxRecDepth 20000 in
theorem ggX8_speedsWith_X0_copyFrom : GoodIn wsX8_speedsWith wsX0_copyFrom := goodIn_r _ [5, 6, 7, 8, 9, 10, 61] (by decide +kernel) (by decide +kernel)
set_option maxRecDepth 20000 in
theorem gX8_speedsWith_X0_copyFrom_n177 : GoodIn wsX8_speedsWith (wsX0_copyFrom) := ggX8_speedsWith_X0_copyFrom
set_option maxRecDepth 20000 in
theorem ggX8_speedsWith_X0_put : GoodIn wsX8_speedsWith wsX0_put := goodIn_r _ [13, 6, 14, 15, 16, 17, 18, 19, 61] (by decide +kernel) (by decide +kernel)
set_option maxRecDepth 20000 in
theorem gX8_speedsWith_X0_put_n115 : GoodIn wsX8_speedsWith (wsX0_put) := ggX8_speedsWith_X0_put
set_option maxRecDepth 20000 in
theorem ggX8_speedsWith_X0_speeds : GoodIn wsX8_speedsWith wsX0_speeds := goodIn_r _ [22, 6, 23, 24, 25, 3, 26, 27, 28, 29, 30, 31, 32, 33, 34, 35, 36, 37, 38, 39, 40, 41, 42, 43, 44, 61] (by decide +kernel) (by decide +kernel)
set_option maxRecDepth 20000 in
theorem gX8_speedsWith_X0_speeds_n147 : GoodIn wsX8_speedsWith (wsX0_speeds) := ggX8_speedsWith_X0_speeds
theorem dX8_speedsWith_0 : decode cX8_speedsWith 0 = .ok (.aload_n 0, 1) := by decide +kernel
theorem dX8_speedsWith_1 : decode cX8_speedsWith 1 = .ok (.getfield 16, 3) := by decide +kernel
theorem dX8_speedsWith_4 : decode cX8_speedsWith 4 = .ok (.aload_n 1, 1) := by decide +kernel
theorem dX8_speedsWith_5 : decode cX8_speedsWith 5 = .ok (.invokevirtual 177, 3) := by decide +kernel
theorem dX8_speedsWith_8 : decode cX8_speedsWith 8 = .ok (.aload_n 0, 1) := by decide +kernel
theorem dX8_speedsWith_9 : decode cX8_speedsWith 9 = .ok (.getfield 16, 3) := by decide +kernel
theorem dX8_speedsWith_12 : decode cX8_speedsWith 12 = .ok (.iload_n 2, 1) := by decide +kernel
theorem dX8_speedsWith_13 : decode cX8_speedsWith 13 = .ok (.iload_n 3, 1) := by decide +kernel
theorem dX8_speedsWith_14 : decode cX8_speedsWith 14 = .ok (.invokevirtual 115, 3) := by decide +kernel
theorem dX8_speedsWith_17 : decode cX8_speedsWith 17 = .ok (.aload_n 0, 1) := by decide +kernel
theorem dX8_speedsWith_18 : decode cX8_speedsWith 18 = .ok (.getfield 16, 3) := by decide +kernel
theorem dX8_speedsWith_21 : decode cX8_speedsWith 21 = .ok (.invokevirtual 147, 3) := by decide +kernel
theorem dX8_speedsWith_24 : decode cX8_speedsWith 24 = .ok (.lreturn, 1) := by decide +kernel
set_option maxRecDepth 20000 in
theorem ggX8_speedsOfAll_X0_speedCount : GoodIn wsX8_speedsOfAll wsX0_speedCount := goodIn_r _ [5, 6, 7, 8, 3, 9, 10, 11, 12, 13, 14, 15, 16, 17, 18, 19, 20, 21, 22, 23, 24, 25, 26, 27, 28, 29, 30, 31, 32, 33, 34, 35, 36, 37, 38, 39, 56] (by decide +kernel) (by decide +kernel)
set_option maxRecDepth 20000 in
theorem gX8_speedsOfAll_X0_speedCount_n173 : GoodIn wsX8_speedsOfAll (wsX0_speedCount) := ggX8_speedsOfAll_X0_speedCount
theorem dX8_speedsOfAll_0 : decode cX8_speedsOfAll 0 = .ok (.iconst 0, 1) := by decide +kernel
theorem dX8_speedsOfAll_1 : decode cX8_speedsOfAll 1 = .ok (.istore_n 1, 1) := by decide +kernel
theorem dX8_speedsOfAll_2 : decode cX8_speedsOfAll 2 = .ok (.iconst 0, 1) := by decide +kernel
theorem dX8_speedsOfAll_3 : decode cX8_speedsOfAll 3 = .ok (.istore_n 2, 1) := by decide +kernel
theorem dX8_speedsOfAll_4 : decode cX8_speedsOfAll 4 = .ok (.iload_n 2, 1) := by decide +kernel
theorem dX8_speedsOfAll_5 : decode cX8_speedsOfAll 5 = .ok (.iconst 4, 1) := by decide +kernel
theorem dX8_speedsOfAll_6 : decode cX8_speedsOfAll 6 = .ok (.if_icmp .ge 21, 3) := by decide +kernel
theorem dX8_speedsOfAll_9 : decode cX8_speedsOfAll 9 = .ok (.iload_n 1, 1) := by decide +kernel
theorem dX8_speedsOfAll_10 : decode cX8_speedsOfAll 10 = .ok (.aload_n 0, 1) := by decide +kernel
theorem dX8_speedsOfAll_11 : decode cX8_speedsOfAll 11 = .ok (.getfield 11, 3) := by decide +kernel
theorem dX8_speedsOfAll_14 : decode cX8_speedsOfAll 14 = .ok (.iload_n 2, 1) := by decide +kernel
theorem dX8_speedsOfAll_15 : decode cX8_speedsOfAll 15 = .ok (.aaload, 1) := by decide +kernel
theorem dX8_speedsOfAll_16 : decode cX8_speedsOfAll 16 = .ok (.invokevirtual 173, 3) := by decide +kernel
theorem dX8_speedsOfAll_19 : decode cX8_speedsOfAll 19 = .ok (.iadd, 1) := by decide +kernel
theorem dX8_speedsOfAll_20 : decode cX8_speedsOfAll 20 = .ok (.istore_n 1, 1) := by decide +kernel
theorem dX8_speedsOfAll_21 : decode cX8_speedsOfAll 21 = .ok (.iinc 2 1, 3) := by decide +kernel
theorem dX8_speedsOfAll_24 : decode cX8_speedsOfAll 24 = .ok (.goto (-20), 3) := by decide +kernel
theorem dX8_speedsOfAll_27 : decode cX8_speedsOfAll 27 = .ok (.iload_n 1, 1) := by decide +kernel
theorem dX8_speedsOfAll_28 : decode cX8_speedsOfAll 28 = .ok (.ireturn, 1) := by decide +kernel
theorem dX8_within_0 : decode cX8_within 0 = .ok (.iload_n 0, 1) := by decide +kernel
theorem dX8_within_1 : decode cX8_within 1 = .ok (.iload_n 1, 1) := by decide +kernel
theorem dX8_within_2 : decode cX8_within 2 = .ok (.if_icmp .lt 12, 3) := by decide +kernel
theorem dX8_within_5 : decode cX8_within 5 = .ok (.iload_n 0, 1) := by decide +kernel
theorem dX8_within_6 : decode cX8_within 6 = .ok (.iload_n 2, 1) := by decide +kernel
theorem dX8_within_7 : decode cX8_within 7 = .ok (.if_icmp .gt 7, 3) := by decide +kernel
theorem dX8_within_10 : decode cX8_within 10 = .ok (.iconst 1, 1) := by decide +kernel
theorem dX8_within_11 : decode cX8_within 11 = .ok (.goto 4, 3) := by decide +kernel
theorem dX8_within_14 : decode cX8_within 14 = .ok (.iconst 0, 1) := by decide +kernel
theorem dX8_within_15 : decode cX8_within 15 = .ok (.ireturn, 1) := by decide +kernel
theorem dX8_clamp_0 : decode cX8_clamp 0 = .ok (.iload_n 1, 1) := by decide +kernel
theorem dX8_clamp_1 : decode cX8_clamp 1 = .ok (.ineg, 1) := by decide +kernel
theorem dX8_clamp_2 : decode cX8_clamp 2 = .ok (.iload_n 1, 1) := by decide +kernel
theorem dX8_clamp_3 : decode cX8_clamp 3 = .ok (.iload_n 0, 1) := by decide +kernel
theorem dX8_clamp_4 : decode cX8_clamp 4 = .ok (.invokestatic 286, 3) := by decide +kernel
theorem dX8_clamp_7 : decode cX8_clamp 7 = .ok (.invokestatic 291, 3) := by decide +kernel
theorem dX8_clamp_10 : decode cX8_clamp 10 = .ok (.ireturn, 1) := by decide +kernel
set_option maxRecDepth 20000 in
theorem ggX8_isBicycle_X8_within : GoodIn wsX8_isBicycle wsX8_within := goodIn_r _ [4] (by decide +kernel) (by decide +kernel)
set_option maxRecDepth 20000 in
theorem gX8_isBicycle_X8_within : GoodIn wsX8_isBicycle (va_wsS RX8 106 yX8_within wsX8_within) := goodIn_app (goodIn_of _ (by decide +kernel)) ggX8_isBicycle_X8_within
theorem dX8_isBicycle_0 : decode cX8_isBicycle 0 = .ok (.iload_n 0, 1) := by decide +kernel
theorem dX8_isBicycle_1 : decode cX8_isBicycle 1 = .ok (.iconst 0, 1) := by decide +kernel
theorem dX8_isBicycle_2 : decode cX8_isBicycle 2 = .ok (.iconst 3, 1) := by decide +kernel
theorem dX8_isBicycle_3 : decode cX8_isBicycle 3 = .ok (.invokestatic 106, 3) := by decide +kernel
theorem dX8_isBicycle_6 : decode cX8_isBicycle 6 = .ok (.ireturn, 1) := by decide +kernel
set_option maxRecDepth 20000 in
theorem ggX8_isNumber_X8_within : GoodIn wsX8_isNumber wsX8_within := goodIn_r _ [4] (by decide +kernel) (by decide +kernel)
set_option maxRecDepth 20000 in
theorem gX8_isNumber_X8_within : GoodIn wsX8_isNumber (va_wsS RX8 106 yX8_within wsX8_within) := goodIn_app (goodIn_of _ (by decide +kernel)) ggX8_isNumber_X8_within
theorem dX8_isNumber_0 : decode cX8_isNumber 0 = .ok (.iload_n 0, 1) := by decide +kernel
theorem dX8_isNumber_1 : decode cX8_isNumber 1 = .ok (.iconst 0, 1) := by decide +kernel
theorem dX8_isNumber_2 : decode cX8_isNumber 2 = .ok (.iconst 5, 1) := by decide +kernel
theorem dX8_isNumber_3 : decode cX8_isNumber 3 = .ok (.invokestatic 106, 3) := by decide +kernel
theorem dX8_isNumber_6 : decode cX8_isNumber 6 = .ok (.ireturn, 1) := by decide +kernel
set_option maxRecDepth 20000 in
theorem ggX8_isReason_X8_within : GoodIn wsX8_isReason wsX8_within := goodIn_r _ [4] (by decide +kernel) (by decide +kernel)
set_option maxRecDepth 20000 in
theorem gX8_isReason_X8_within : GoodIn wsX8_isReason (va_wsS RX8 106 yX8_within wsX8_within) := goodIn_app (goodIn_of _ (by decide +kernel)) ggX8_isReason_X8_within
theorem dX8_isReason_0 : decode cX8_isReason 0 = .ok (.iload_n 0, 1) := by decide +kernel
theorem dX8_isReason_1 : decode cX8_isReason 1 = .ok (.iconst 0, 1) := by decide +kernel
theorem dX8_isReason_2 : decode cX8_isReason 2 = .ok (.iconst 2, 1) := by decide +kernel
theorem dX8_isReason_3 : decode cX8_isReason 3 = .ok (.invokestatic 106, 3) := by decide +kernel
theorem dX8_isReason_6 : decode cX8_isReason 6 = .ok (.ireturn, 1) := by decide +kernel
set_option maxRecDepth 20000 in
theorem ggX8_isSpeed_X8_within : GoodIn wsX8_isSpeed wsX8_within := goodIn_r _ [4] (by decide +kernel) (by decide +kernel)
set_option maxRecDepth 20000 in
theorem gX8_isSpeed_X8_within : GoodIn wsX8_isSpeed (va_wsS RX8 106 yX8_within wsX8_within) := goodIn_app (goodIn_of _ (by decide +kernel)) ggX8_isSpeed_X8_within
theorem dX8_isSpeed_0 : decode cX8_isSpeed 0 = .ok (.iload_n 0, 1) := by decide +kernel
theorem dX8_isSpeed_1 : decode cX8_isSpeed 1 = .ok (.iconst 0, 1) := by decide +kernel
theorem dX8_isSpeed_2 : decode cX8_isSpeed 2 = .ok (.bipush 40, 2) := by decide +kernel
theorem dX8_isSpeed_4 : decode cX8_isSpeed 4 = .ok (.invokestatic 106, 3) := by decide +kernel
theorem dX8_isSpeed_7 : decode cX8_isSpeed 7 = .ok (.ireturn, 1) := by decide +kernel
set_option maxRecDepth 20000 in
theorem ggX8_isHand_X8_within : GoodIn wsX8_isHand wsX8_within := goodIn_r _ [4] (by decide +kernel) (by decide +kernel)
set_option maxRecDepth 20000 in
theorem gX8_isHand_X8_within : GoodIn wsX8_isHand (va_wsS RX8 106 yX8_within wsX8_within) := goodIn_app (goodIn_of _ (by decide +kernel)) ggX8_isHand_X8_within
theorem dX8_isHand_0 : decode cX8_isHand 0 = .ok (.iload_n 0, 1) := by decide +kernel
theorem dX8_isHand_1 : decode cX8_isHand 1 = .ok (.bipush (-99), 2) := by decide +kernel
theorem dX8_isHand_3 : decode cX8_isHand 3 = .ok (.bipush 99, 2) := by decide +kernel
theorem dX8_isHand_5 : decode cX8_isHand 5 = .ok (.invokestatic 106, 3) := by decide +kernel
theorem dX8_isHand_8 : decode cX8_isHand 8 = .ok (.ireturn, 1) := by decide +kernel
set_option maxRecDepth 20000 in
theorem ggX8_isFlag_X8_within : GoodIn wsX8_isFlag wsX8_within := goodIn_r _ [4] (by decide +kernel) (by decide +kernel)
set_option maxRecDepth 20000 in
theorem gX8_isFlag_X8_within : GoodIn wsX8_isFlag (va_wsS RX8 106 yX8_within wsX8_within) := goodIn_app (goodIn_of _ (by decide +kernel)) ggX8_isFlag_X8_within
theorem dX8_isFlag_0 : decode cX8_isFlag 0 = .ok (.iload_n 0, 1) := by decide +kernel
theorem dX8_isFlag_1 : decode cX8_isFlag 1 = .ok (.iconst 0, 1) := by decide +kernel
theorem dX8_isFlag_2 : decode cX8_isFlag 2 = .ok (.iconst 1, 1) := by decide +kernel
theorem dX8_isFlag_3 : decode cX8_isFlag 3 = .ok (.invokestatic 106, 3) := by decide +kernel
theorem dX8_isFlag_6 : decode cX8_isFlag 6 = .ok (.ireturn, 1) := by decide +kernel
set_option maxRecDepth 20000 in
theorem ggX8_isBar_X8_within : GoodIn wsX8_isBar wsX8_within := goodIn_r _ [4] (by decide +kernel) (by decide +kernel)
set_option maxRecDepth 20000 in
theorem gX8_isBar_X8_within : GoodIn wsX8_isBar (va_wsS RX8 106 yX8_within wsX8_within) := goodIn_app (goodIn_of _ (by decide +kernel)) ggX8_isBar_X8_within
theorem dX8_isBar_0 : decode cX8_isBar 0 = .ok (.iload_n 0, 1) := by decide +kernel
theorem dX8_isBar_1 : decode cX8_isBar 1 = .ok (.iconst 0, 1) := by decide +kernel
theorem dX8_isBar_2 : decode cX8_isBar 2 = .ok (.iconst 1, 1) := by decide +kernel
theorem dX8_isBar_3 : decode cX8_isBar 3 = .ok (.invokestatic 106, 3) := by decide +kernel
theorem dX8_isBar_6 : decode cX8_isBar 6 = .ok (.ireturn, 1) := by decide +kernel
set_option maxRecDepth 20000 in
theorem ggX8_isImage_X8_within : GoodIn wsX8_isImage wsX8_within := goodIn_r _ [4] (by decide +kernel) (by decide +kernel)
set_option maxRecDepth 20000 in
theorem gX8_isImage_X8_within : GoodIn wsX8_isImage (va_wsS RX8 106 yX8_within wsX8_within) := goodIn_app (goodIn_of _ (by decide +kernel)) ggX8_isImage_X8_within
theorem dX8_isImage_0 : decode cX8_isImage 0 = .ok (.iload_n 0, 1) := by decide +kernel
theorem dX8_isImage_1 : decode cX8_isImage 1 = .ok (.iconst 0, 1) := by decide +kernel
theorem dX8_isImage_2 : decode cX8_isImage 2 = .ok (.iconst 1, 1) := by decide +kernel
theorem dX8_isImage_3 : decode cX8_isImage 3 = .ok (.invokestatic 106, 3) := by decide +kernel
theorem dX8_isImage_6 : decode cX8_isImage 6 = .ok (.ireturn, 1) := by decide +kernel
theorem dX9_init_0 : decode cX9_init 0 = .ok (.aload_n 0, 1) := by decide +kernel
theorem dX9_init_1 : decode cX9_init 1 = .ok (.invokespecial 1, 3) := by decide +kernel
theorem dX9_init_4 : decode cX9_init 4 = .ok (.aload_n 0, 1) := by decide +kernel
theorem dX9_init_5 : decode cX9_init 5 = .ok (.bipush 24, 2) := by decide +kernel
theorem dX9_init_7 : decode cX9_init 7 = .ok (.newarray .int, 2) := by decide +kernel
theorem dX9_init_9 : decode cX9_init 9 = .ok (.putfield 7, 3) := by decide +kernel
theorem dX9_init_12 : decode cX9_init 12 = .ok (.aload_n 0, 1) := by decide +kernel
theorem dX9_init_13 : decode cX9_init 13 = .ok (.bipush 6, 2) := by decide +kernel
theorem dX9_init_15 : decode cX9_init 15 = .ok (.newarray .int, 2) := by decide +kernel
theorem dX9_init_17 : decode cX9_init 17 = .ok (.putfield 13, 3) := by decide +kernel
theorem dX9_init_20 : decode cX9_init 20 = .ok (.aload_n 0, 1) := by decide +kernel
theorem dX9_init_21 : decode cX9_init 21 = .ok (.bipush 29, 2) := by decide +kernel
theorem dX9_init_23 : decode cX9_init 23 = .ok (.newarray .int, 2) := by decide +kernel
theorem dX9_init_25 : decode cX9_init 25 = .ok (.putfield 16, 3) := by decide +kernel
theorem dX9_init_28 : decode cX9_init 28 = .ok (.aload_n 0, 1) := by decide +kernel
theorem dX9_init_29 : decode cX9_init 29 = .ok (.bipush 58, 2) := by decide +kernel
theorem dX9_init_31 : decode cX9_init 31 = .ok (.newarray .int, 2) := by decide +kernel
theorem dX9_init_33 : decode cX9_init 33 = .ok (.putfield 19, 3) := by decide +kernel
theorem dX9_init_36 : decode cX9_init 36 = .ok (.aload_n 0, 1) := by decide +kernel
theorem dX9_init_37 : decode cX9_init 37 = .ok (.bipush 29, 2) := by decide +kernel
theorem dX9_init_39 : decode cX9_init 39 = .ok (.newarray .int, 2) := by decide +kernel
theorem dX9_init_41 : decode cX9_init 41 = .ok (.putfield 22, 3) := by decide +kernel
theorem dX9_init_44 : decode cX9_init 44 = .ok (.aload_n 0, 1) := by decide +kernel
theorem dX9_init_45 : decode cX9_init 45 = .ok (.iconst 2, 1) := by decide +kernel
theorem dX9_init_46 : decode cX9_init 46 = .ok (.newarray .boolean, 2) := by decide +kernel
theorem dX9_init_48 : decode cX9_init 48 = .ok (.putfield 25, 3) := by decide +kernel
theorem dX9_init_51 : decode cX9_init 51 = .ok (.aload_n 0, 1) := by decide +kernel
theorem dX9_init_52 : decode cX9_init 52 = .ok (.bipush 10, 2) := by decide +kernel
theorem dX9_init_54 : decode cX9_init 54 = .ok (.newarray .int, 2) := by decide +kernel
theorem dX9_init_56 : decode cX9_init 56 = .ok (.putfield 29, 3) := by decide +kernel
theorem dX9_init_59 : decode cX9_init 59 = .ok (.aload_n 0, 1) := by decide +kernel
theorem dX9_init_60 : decode cX9_init 60 = .ok (.iconst 5, 1) := by decide +kernel
theorem dX9_init_61 : decode cX9_init 61 = .ok (.putfield 32, 3) := by decide +kernel
theorem dX9_init_64 : decode cX9_init 64 = .ok (.aload_n 0, 1) := by decide +kernel
theorem dX9_init_65 : decode cX9_init 65 = .ok (.iconst 3, 1) := by decide +kernel
theorem dX9_init_66 : decode cX9_init 66 = .ok (.putfield 36, 3) := by decide +kernel
theorem dX9_init_69 : decode cX9_init 69 = .ok (.aload_n 0, 1) := by decide +kernel
theorem dX9_init_70 : decode cX9_init 70 = .ok (.sipush 200, 3) := by decide +kernel
theorem dX9_init_73 : decode cX9_init 73 = .ok (.newarray .int, 2) := by decide +kernel
theorem dX9_init_75 : decode cX9_init 75 = .ok (.putfield 39, 3) := by decide +kernel
theorem dX9_init_78 : decode cX9_init 78 = .ok (.aload_n 0, 1) := by decide +kernel
theorem dX9_init_79 : decode cX9_init 79 = .ok (.sipush 729, 3) := by decide +kernel
theorem dX9_init_82 : decode cX9_init 82 = .ok (.newarray .int, 2) := by decide +kernel
theorem dX9_init_84 : decode cX9_init 84 = .ok (.putfield 42, 3) := by decide +kernel
theorem dX9_init_87 : decode cX9_init 87 = .ok (.aload_n 0, 1) := by decide +kernel
theorem dX9_init_88 : decode cX9_init 88 = .ok (.bipush 6, 2) := by decide +kernel
theorem dX9_init_90 : decode cX9_init 90 = .ok (.newarray .int, 2) := by decide +kernel
theorem dX9_init_92 : decode cX9_init 92 = .ok (.putfield 45, 3) := by decide +kernel
theorem dX9_init_95 : decode cX9_init 95 = .ok (.iconst 0, 1) := by decide +kernel
theorem dX9_init_96 : decode cX9_init 96 = .ok (.istore_n 1, 1) := by decide +kernel
theorem dX9_init_97 : decode cX9_init 97 = .ok (.iload_n 1, 1) := by decide +kernel
theorem dX9_init_98 : decode cX9_init 98 = .ok (.iconst 4, 1) := by decide +kernel
theorem dX9_init_99 : decode cX9_init 99 = .ok (.if_icmp .ge 66, 3) := by decide +kernel
theorem dX9_init_102 : decode cX9_init 102 = .ok (.iconst 0, 1) := by decide +kernel
theorem dX9_init_103 : decode cX9_init 103 = .ok (.istore_n 2, 1) := by decide +kernel
theorem dX9_init_104 : decode cX9_init 104 = .ok (.iload_n 2, 1) := by decide +kernel
theorem dX9_init_105 : decode cX9_init 105 = .ok (.bipush 6, 2) := by decide +kernel
theorem dX9_init_107 : decode cX9_init 107 = .ok (.if_icmp .ge 52, 3) := by decide +kernel
theorem dX9_init_110 : decode cX9_init 110 = .ok (.aload_n 0, 1) := by decide +kernel
theorem dX9_init_111 : decode cX9_init 111 = .ok (.getfield 7, 3) := by decide +kernel
theorem dX9_init_114 : decode cX9_init 114 = .ok (.bipush 6, 2) := by decide +kernel
theorem dX9_init_116 : decode cX9_init 116 = .ok (.iload_n 1, 1) := by decide +kernel
theorem dX9_init_117 : decode cX9_init 117 = .ok (.imul, 1) := by decide +kernel
theorem dX9_init_118 : decode cX9_init 118 = .ok (.iload_n 2, 1) := by decide +kernel
theorem dX9_init_119 : decode cX9_init 119 = .ok (.iadd, 1) := by decide +kernel
theorem dX9_init_120 : decode cX9_init 120 = .ok (.iload_n 2, 1) := by decide +kernel
theorem dX9_init_121 : decode cX9_init 121 = .ok (.ifCond .eq 8, 3) := by decide +kernel
theorem dX9_init_124 : decode cX9_init 124 = .ok (.iload_n 2, 1) := by decide +kernel
theorem dX9_init_125 : decode cX9_init 125 = .ok (.iconst 2, 1) := by decide +kernel
theorem dX9_init_126 : decode cX9_init 126 = .ok (.if_icmp .ne 7, 3) := by decide +kernel
theorem dX9_init_129 : decode cX9_init 129 = .ok (.iconst 2, 1) := by decide +kernel
theorem dX9_init_130 : decode cX9_init 130 = .ok (.goto 22, 3) := by decide +kernel
theorem dX9_init_133 : decode cX9_init 133 = .ok (.iload_n 2, 1) := by decide +kernel
theorem dX9_init_134 : decode cX9_init 134 = .ok (.iconst 3, 1) := by decide +kernel
theorem dX9_init_135 : decode cX9_init 135 = .ok (.if_icmp .ne 7, 3) := by decide +kernel
theorem dX9_init_138 : decode cX9_init 138 = .ok (.iconst 5, 1) := by decide +kernel
theorem dX9_init_139 : decode cX9_init 139 = .ok (.goto 13, 3) := by decide +kernel
theorem dX9_init_142 : decode cX9_init 142 = .ok (.iload_n 2, 1) := by decide +kernel
theorem dX9_init_143 : decode cX9_init 143 = .ok (.iconst 4, 1) := by decide +kernel
theorem dX9_init_144 : decode cX9_init 144 = .ok (.if_icmp .ne 7, 3) := by decide +kernel
theorem dX9_init_147 : decode cX9_init 147 = .ok (.iconst 4, 1) := by decide +kernel
theorem dX9_init_148 : decode cX9_init 148 = .ok (.goto 4, 3) := by decide +kernel
theorem dX9_init_151 : decode cX9_init 151 = .ok (.iconst 3, 1) := by decide +kernel
theorem dX9_init_152 : decode cX9_init 152 = .ok (.iastore, 1) := by decide +kernel
theorem dX9_init_153 : decode cX9_init 153 = .ok (.iinc 2 1, 3) := by decide +kernel
theorem dX9_init_156 : decode cX9_init 156 = .ok (.goto (-52), 3) := by decide +kernel
theorem dX9_init_159 : decode cX9_init 159 = .ok (.iinc 1 1, 3) := by decide +kernel
theorem dX9_init_162 : decode cX9_init 162 = .ok (.goto (-65), 3) := by decide +kernel
theorem dX9_init_165 : decode cX9_init 165 = .ok (.aload_n 0, 1) := by decide +kernel
theorem dX9_init_166 : decode cX9_init 166 = .ok (.getfield 29, 3) := by decide +kernel
theorem dX9_init_169 : decode cX9_init 169 = .ok (.iconst 4, 1) := by decide +kernel
theorem dX9_init_170 : decode cX9_init 170 = .ok (.sipush 999, 3) := by decide +kernel
theorem dX9_init_173 : decode cX9_init 173 = .ok (.iastore, 1) := by decide +kernel
theorem dX9_init_174 : decode cX9_init 174 = .ok (.aload_n 0, 1) := by decide +kernel
theorem dX9_init_175 : decode cX9_init 175 = .ok (.getfield 16, 3) := by decide +kernel
theorem dX9_init_178 : decode cX9_init 178 = .ok (.bipush 25, 2) := by decide +kernel
theorem dX9_init_180 : decode cX9_init 180 = .ok (.bipush 100, 2) := by decide +kernel
theorem dX9_init_182 : decode cX9_init 182 = .ok (.iastore, 1) := by decide +kernel
theorem dX9_init_183 : decode cX9_init 183 = .ok (.aload_n 0, 1) := by decide +kernel
theorem dX9_init_184 : decode cX9_init 184 = .ok (.getfield 16, 3) := by decide +kernel
theorem dX9_init_187 : decode cX9_init 187 = .ok (.bipush 27, 2) := by decide +kernel
theorem dX9_init_189 : decode cX9_init 189 = .ok (.iconst 1, 1) := by decide +kernel
theorem dX9_init_190 : decode cX9_init 190 = .ok (.iastore, 1) := by decide +kernel
theorem dX9_init_191 : decode cX9_init 191 = .ok (.return_, 1) := by decide +kernel
theorem dX9_in_0 : decode cX9_in 0 = .ok (.iload_n 0, 1) := by decide +kernel
theorem dX9_in_1 : decode cX9_in 1 = .ok (.iload_n 1, 1) := by decide +kernel
theorem dX9_in_2 : decode cX9_in 2 = .ok (.if_icmp .lt 12, 3) := by decide +kernel
theorem dX9_in_5 : decode cX9_in 5 = .ok (.iload_n 0, 1) := by decide +kernel
theorem dX9_in_6 : decode cX9_in 6 = .ok (.iload_n 2, 1) := by decide +kernel
theorem dX9_in_7 : decode cX9_in 7 = .ok (.if_icmp .gt 7, 3) := by decide +kernel
theorem dX9_in_10 : decode cX9_in 10 = .ok (.iconst 1, 1) := by decide +kernel
theorem dX9_in_11 : decode cX9_in 11 = .ok (.goto 4, 3) := by decide +kernel
theorem dX9_in_14 : decode cX9_in 14 = .ok (.iconst 0, 1) := by decide +kernel
theorem dX9_in_15 : decode cX9_in 15 = .ok (.ireturn, 1) := by decide +kernel
set_option maxRecDepth 20000 in
theorem ggX9_isBicycle_X9_in : GoodIn wsX9_isBicycle wsX9_in := goodIn_r _ [4] (by decide +kernel) (by decide +kernel)
set_option maxRecDepth 20000 in
theorem gX9_isBicycle_X9_in : GoodIn wsX9_isBicycle (va_wsS RX9 51 yX9_in wsX9_in) := goodIn_app (goodIn_of _ (by decide +kernel)) ggX9_isBicycle_X9_in
theorem dX9_isBicycle_0 : decode cX9_isBicycle 0 = .ok (.iload_n 0, 1) := by decide +kernel
theorem dX9_isBicycle_1 : decode cX9_isBicycle 1 = .ok (.iconst 0, 1) := by decide +kernel
theorem dX9_isBicycle_2 : decode cX9_isBicycle 2 = .ok (.iconst 3, 1) := by decide +kernel
theorem dX9_isBicycle_3 : decode cX9_isBicycle 3 = .ok (.invokestatic 51, 3) := by decide +kernel
theorem dX9_isBicycle_6 : decode cX9_isBicycle 6 = .ok (.ireturn, 1) := by decide +kernel
set_option maxRecDepth 20000 in
theorem ggX9_isNumber_X9_in : GoodIn wsX9_isNumber wsX9_in := goodIn_r _ [4] (by decide +kernel) (by decide +kernel)
set_option maxRecDepth 20000 in
theorem gX9_isNumber_X9_in : GoodIn wsX9_isNumber (va_wsS RX9 51 yX9_in wsX9_in) := goodIn_app (goodIn_of _ (by decide +kernel)) ggX9_isNumber_X9_in
theorem dX9_isNumber_0 : decode cX9_isNumber 0 = .ok (.iload_n 0, 1) := by decide +kernel
theorem dX9_isNumber_1 : decode cX9_isNumber 1 = .ok (.iconst 0, 1) := by decide +kernel
theorem dX9_isNumber_2 : decode cX9_isNumber 2 = .ok (.iconst 5, 1) := by decide +kernel
theorem dX9_isNumber_3 : decode cX9_isNumber 3 = .ok (.invokestatic 51, 3) := by decide +kernel
theorem dX9_isNumber_6 : decode cX9_isNumber 6 = .ok (.ireturn, 1) := by decide +kernel
theorem dX9_bottom_0 : decode cX9_bottom 0 = .ok (.iload_n 0, 1) := by decide +kernel
theorem dX9_bottom_1 : decode cX9_bottom 1 = .ok (.iconst 3, 1) := by decide +kernel
theorem dX9_bottom_2 : decode cX9_bottom 2 = .ok (.if_icmp .ge 8, 3) := by decide +kernel
theorem dX9_bottom_5 : decode cX9_bottom 5 = .ok (.bipush (-9), 2) := by decide +kernel
theorem dX9_bottom_7 : decode cX9_bottom 7 = .ok (.goto 13, 3) := by decide +kernel
theorem dX9_bottom_10 : decode cX9_bottom 10 = .ok (.iload_n 0, 1) := by decide +kernel
theorem dX9_bottom_11 : decode cX9_bottom 11 = .ok (.iconst 5, 1) := by decide +kernel
theorem dX9_bottom_12 : decode cX9_bottom 12 = .ok (.if_icmp .ge 7, 3) := by decide +kernel
theorem dX9_bottom_15 : decode cX9_bottom 15 = .ok (.iconst 1, 1) := by decide +kernel
theorem dX9_bottom_16 : decode cX9_bottom 16 = .ok (.goto 4, 3) := by decide +kernel
theorem dX9_bottom_19 : decode cX9_bottom 19 = .ok (.iconst 0, 1) := by decide +kernel
theorem dX9_bottom_20 : decode cX9_bottom 20 = .ok (.ireturn, 1) := by decide +kernel
set_option maxRecDepth 20000 in
theorem ggX9_mayBe_X9_bottom : GoodIn wsX9_mayBe wsX9_bottom := goodIn_r _ [4] (by decide +kernel) (by decide +kernel)
set_option maxRecDepth 20000 in
theorem gX9_mayBe_X9_bottom : GoodIn wsX9_mayBe (va_wsS RX9 55 yX9_bottom wsX9_bottom) := goodIn_app (goodIn_of _ (by decide +kernel)) ggX9_mayBe_X9_bottom
set_option maxRecDepth 20000 in
theorem ggX9_mayBe_X9_in : GoodIn wsX9_mayBe wsX9_in := goodIn_r _ [7] (by decide +kernel) (by decide +kernel)
set_option maxRecDepth 20000 in
theorem gX9_mayBe_X9_in : GoodIn wsX9_mayBe (va_wsS RX9 51 yX9_in wsX9_in) := goodIn_app (goodIn_of _ (by decide +kernel)) ggX9_mayBe_X9_in
theorem dX9_mayBe_0 : decode cX9_mayBe 0 = .ok (.iload_n 1, 1) := by decide +kernel
theorem dX9_mayBe_1 : decode cX9_mayBe 1 = .ok (.iload_n 0, 1) := by decide +kernel
theorem dX9_mayBe_2 : decode cX9_mayBe 2 = .ok (.invokestatic 55, 3) := by decide +kernel
theorem dX9_mayBe_5 : decode cX9_mayBe 5 = .ok (.bipush 9, 2) := by decide +kernel
theorem dX9_mayBe_7 : decode cX9_mayBe 7 = .ok (.invokestatic 51, 3) := by decide +kernel
theorem dX9_mayBe_10 : decode cX9_mayBe 10 = .ok (.ireturn, 1) := by decide +kernel
set_option maxRecDepth 20000 in
theorem ggX9_number_X9_isBicycle : GoodIn wsX9_number wsX9_isBicycle := goodIn_r _ [7, 8, 9, 6, 10] (by decide +kernel) (by decide +kernel)
set_option maxRecDepth 20000 in
theorem gX9_number_X9_isBicycle : GoodIn wsX9_number (va_wsS RX9 59 yX9_isBicycle wsX9_isBicycle) := goodIn_app (goodIn_of _ (by decide +kernel)) ggX9_number_X9_isBicycle
set_option maxRecDepth 20000 in
theorem ggX9_number_X9_isNumber : GoodIn wsX9_number wsX9_isNumber := goodIn_r _ [13, 8, 9, 6, 10] (by decide +kernel) (by decide +kernel)
set_option maxRecDepth 20000 in
theorem gX9_number_X9_isNumber : GoodIn wsX9_number (va_wsS RX9 63 yX9_isNumber wsX9_isNumber) := goodIn_app (goodIn_of _ (by decide +kernel)) ggX9_number_X9_isNumber
set_option maxRecDepth 20000 in
theorem ggX9_number_X9_mayBe : GoodIn wsX9_number wsX9_mayBe := goodIn_r _ [16, 17, 18, 6, 19, 8, 9, 10] (by decide +kernel) (by decide +kernel)
set_option maxRecDepth 20000 in
theorem gX9_number_X9_mayBe : GoodIn wsX9_number (va_wsS RX9 66 yX9_mayBe wsX9_mayBe) := goodIn_app (goodIn_of _ (by decide +kernel)) ggX9_number_X9_mayBe
theorem dX9_number_0 : decode cX9_number 0 = .ok (.aload_n 0, 1) := by decide +kernel
theorem dX9_number_1 : decode cX9_number 1 = .ok (.iconst 0, 1) := by decide +kernel
theorem dX9_number_2 : decode cX9_number 2 = .ok (.putfield 48, 3) := by decide +kernel
theorem dX9_number_5 : decode cX9_number 5 = .ok (.iload_n 1, 1) := by decide +kernel
theorem dX9_number_6 : decode cX9_number 6 = .ok (.invokestatic 59, 3) := by decide +kernel
theorem dX9_number_9 : decode cX9_number 9 = .ok (.ifCond .eq 18, 3) := by decide +kernel
theorem dX9_number_12 : decode cX9_number 12 = .ok (.iload_n 2, 1) := by decide +kernel
theorem dX9_number_13 : decode cX9_number 13 = .ok (.invokestatic 63, 3) := by decide +kernel
theorem dX9_number_16 : decode cX9_number 16 = .ok (.ifCond .eq 11, 3) := by decide +kernel
theorem dX9_number_19 : decode cX9_number 19 = .ok (.iload_n 2, 1) := by decide +kernel
theorem dX9_number_20 : decode cX9_number 20 = .ok (.iload_n 3, 1) := by decide +kernel
theorem dX9_number_21 : decode cX9_number 21 = .ok (.invokestatic 66, 3) := by decide +kernel
theorem dX9_number_24 : decode cX9_number 24 = .ok (.ifCond .ne 6, 3) := by decide +kernel
theorem dX9_number_27 : decode cX9_number 27 = .ok (.ldc 70, 2) := by decide +kernel
theorem dX9_number_29 : decode cX9_number 29 = .ok (.ireturn, 1) := by decide +kernel
theorem dX9_number_30 : decode cX9_number 30 = .ok (.aload_n 0, 1) := by decide +kernel
theorem dX9_number_31 : decode cX9_number 31 = .ok (.getfield 7, 3) := by decide +kernel
theorem dX9_number_34 : decode cX9_number 34 = .ok (.bipush 6, 2) := by decide +kernel
theorem dX9_number_36 : decode cX9_number 36 = .ok (.iload_n 1, 1) := by decide +kernel
theorem dX9_number_37 : decode cX9_number 37 = .ok (.imul, 1) := by decide +kernel
theorem dX9_number_38 : decode cX9_number 38 = .ok (.iload_n 2, 1) := by decide +kernel
theorem dX9_number_39 : decode cX9_number 39 = .ok (.iadd, 1) := by decide +kernel
theorem dX9_number_40 : decode cX9_number 40 = .ok (.iaload, 1) := by decide +kernel
theorem dX9_number_41 : decode cX9_number 41 = .ok (.istore 4, 2) := by decide +kernel
theorem dX9_number_43 : decode cX9_number 43 = .ok (.aload_n 0, 1) := by decide +kernel
theorem dX9_number_44 : decode cX9_number 44 = .ok (.getfield 7, 3) := by decide +kernel
theorem dX9_number_47 : decode cX9_number 47 = .ok (.bipush 6, 2) := by decide +kernel
theorem dX9_number_49 : decode cX9_number 49 = .ok (.iload_n 1, 1) := by decide +kernel
theorem dX9_number_50 : decode cX9_number 50 = .ok (.imul, 1) := by decide +kernel
theorem dX9_number_51 : decode cX9_number 51 = .ok (.iload_n 2, 1) := by decide +kernel
theorem dX9_number_52 : decode cX9_number 52 = .ok (.iadd, 1) := by decide +kernel
theorem dX9_number_53 : decode cX9_number 53 = .ok (.iload_n 3, 1) := by decide +kernel
theorem dX9_number_54 : decode cX9_number 54 = .ok (.iastore, 1) := by decide +kernel
theorem dX9_number_55 : decode cX9_number 55 = .ok (.iload 4, 2) := by decide +kernel
theorem dX9_number_57 : decode cX9_number 57 = .ok (.ireturn, 1) := by decide +kernel
set_option maxRecDepth 20000 in
theorem ggX9_has_X9_isBicycle : GoodIn wsX9_has wsX9_isBicycle := goodIn_r _ [7, 8, 9, 6, 10] (by decide +kernel) (by decide +kernel)
set_option maxRecDepth 20000 in
theorem gX9_has_X9_isBicycle : GoodIn wsX9_has (va_wsS RX9 59 yX9_isBicycle wsX9_isBicycle) := goodIn_app (goodIn_of _ (by decide +kernel)) ggX9_has_X9_isBicycle
set_option maxRecDepth 20000 in
theorem ggX9_has_X9_isNumber : GoodIn wsX9_has wsX9_isNumber := goodIn_r _ [13, 8, 9, 6, 10] (by decide +kernel) (by decide +kernel)
set_option maxRecDepth 20000 in
theorem gX9_has_X9_isNumber : GoodIn wsX9_has (va_wsS RX9 63 yX9_isNumber wsX9_isNumber) := goodIn_app (goodIn_of _ (by decide +kernel)) ggX9_has_X9_isNumber
theorem dX9_has_0 : decode cX9_has 0 = .ok (.aload_n 0, 1) := by decide +kernel
