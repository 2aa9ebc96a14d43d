theorem dX2_changedIn_2 : decode cX2_changedIn 2 = .ok (.iload_n 0, 1) := by decide +kernel
theorem dX2_changedIn_3 : decode cX2_changedIn 3 = .ok (.istore_n 2, 1) := by decide +kernel
theorem dX2_changedIn_4 : decode cX2_changedIn 4 = .ok (.iconst 0, 1) := by decide +kernel
theorem dX2_changedIn_5 : decode cX2_changedIn 5 = .ok (.istore_n 3, 1) := by decide +kernel
theorem dX2_changedIn_6 : decode cX2_changedIn 6 = .ok (.iload_n 3, 1) := by decide +kernel
theorem dX2_changedIn_7 : decode cX2_changedIn 7 = .ok (.bipush 6, 2) := by decide +kernel
theorem dX2_changedIn_9 : decode cX2_changedIn 9 = .ok (.if_icmp .ge 25, 3) := by decide +kernel
theorem dX2_changedIn_12 : decode cX2_changedIn 12 = .ok (.iload_n 2, 1) := by decide +kernel
theorem dX2_changedIn_13 : decode cX2_changedIn 13 = .ok (.iconst 3, 1) := by decide +kernel
theorem dX2_changedIn_14 : decode cX2_changedIn 14 = .ok (.irem, 1) := by decide +kernel
theorem dX2_changedIn_15 : decode cX2_changedIn 15 = .ok (.ifCond .eq 9, 3) := by decide +kernel
theorem dX2_changedIn_18 : decode cX2_changedIn 18 = .ok (.iload_n 1, 1) := by decide +kernel
theorem dX2_changedIn_19 : decode cX2_changedIn 19 = .ok (.iconst 1, 1) := by decide +kernel
theorem dX2_changedIn_20 : decode cX2_changedIn 20 = .ok (.iload_n 3, 1) := by decide +kernel
theorem dX2_changedIn_21 : decode cX2_changedIn 21 = .ok (.ishl, 1) := by decide +kernel
theorem dX2_changedIn_22 : decode cX2_changedIn 22 = .ok (.ior, 1) := by decide +kernel
theorem dX2_changedIn_23 : decode cX2_changedIn 23 = .ok (.istore_n 1, 1) := by decide +kernel
theorem dX2_changedIn_24 : decode cX2_changedIn 24 = .ok (.iload_n 2, 1) := by decide +kernel
theorem dX2_changedIn_25 : decode cX2_changedIn 25 = .ok (.iconst 3, 1) := by decide +kernel
theorem dX2_changedIn_26 : decode cX2_changedIn 26 = .ok (.idiv, 1) := by decide +kernel
theorem dX2_changedIn_27 : decode cX2_changedIn 27 = .ok (.istore_n 2, 1) := by decide +kernel
theorem dX2_changedIn_28 : decode cX2_changedIn 28 = .ok (.iinc 3 1, 3) := by decide +kernel
theorem dX2_changedIn_31 : decode cX2_changedIn 31 = .ok (.goto (-25), 3) := by decide +kernel
theorem dX2_changedIn_34 : decode cX2_changedIn 34 = .ok (.iload_n 1, 1) := by decide +kernel
theorem dX2_changedIn_35 : decode cX2_changedIn 35 = .ok (.ireturn, 1) := by decide +kernel
set_option maxRecDepth 20000 in
theorem ggX2_weigh_X2_mayBe : GoodIn wsX2_weigh wsX2_mayBe := goodIn_r _ [8, 3, 9, 10, 11, 12, 13, 14, 15, 16, 17, 18, 19, 20, 21, 22, 59, 60, 61, 62] (by decide +kernel) (by decide +kernel)
set_option maxRecDepth 20000 in
theorem gX2_weigh_X2_mayBe : GoodIn wsX2_weigh (wsV RX2 29 RX2 yX2_mayBe wsX2_mayBe) := goodIn_app (goodIn_of _ (by decide +kernel)) ggX2_weigh_X2_mayBe
set_option maxRecDepth 20000 in
theorem ggX2_weigh_X0_speedCount : GoodIn wsX2_weigh wsX0_speedCount := goodIn_r _ [25, 26, 27, 28, 10, 29, 13, 30, 31, 32, 33, 34, 35, 36, 37, 38, 39, 40, 41, 42, 43, 44, 45, 46, 47, 48, 49, 50, 51, 52, 53, 54, 55, 56, 57, 58, 62] (by decide +kernel) (by decide +kernel)
set_option maxRecDepth 20000 in
theorem gX2_weigh_X0_speedCount_n33 : GoodIn wsX2_weigh (wsX0_speedCount) := ggX2_weigh_X0_speedCount
theorem dX2_weigh_0 : decode cX2_weigh 0 = .ok (.iconst 0, 1) := by decide +kernel
theorem dX2_weigh_1 : decode cX2_weigh 1 = .ok (.istore_n 3, 1) := by decide +kernel
theorem dX2_weigh_2 : decode cX2_weigh 2 = .ok (.iload_n 3, 1) := by decide +kernel
theorem dX2_weigh_3 : decode cX2_weigh 3 = .ok (.sipush 729, 3) := by decide +kernel
theorem dX2_weigh_6 : decode cX2_weigh 6 = .ok (.if_icmp .ge 46, 3) := by decide +kernel
theorem dX2_weigh_9 : decode cX2_weigh 9 = .ok (.aload_n 0, 1) := by decide +kernel
theorem dX2_weigh_10 : decode cX2_weigh 10 = .ok (.getfield 18, 3) := by decide +kernel
theorem dX2_weigh_13 : decode cX2_weigh 13 = .ok (.iload_n 3, 1) := by decide +kernel
theorem dX2_weigh_14 : decode cX2_weigh 14 = .ok (.iaload, 1) := by decide +kernel
theorem dX2_weigh_15 : decode cX2_weigh 15 = .ok (.iload_n 2, 1) := by decide +kernel
theorem dX2_weigh_16 : decode cX2_weigh 16 = .ok (.iand, 1) := by decide +kernel
theorem dX2_weigh_17 : decode cX2_weigh 17 = .ok (.ifCond .ne 29, 3) := by decide +kernel
theorem dX2_weigh_20 : decode cX2_weigh 20 = .ok (.aload_n 0, 1) := by decide +kernel
theorem dX2_weigh_21 : decode cX2_weigh 21 = .ok (.getfield 22, 3) := by decide +kernel
theorem dX2_weigh_24 : decode cX2_weigh 24 = .ok (.iload_n 3, 1) := by decide +kernel
theorem dX2_weigh_25 : decode cX2_weigh 25 = .ok (.aload_n 0, 1) := by decide +kernel
theorem dX2_weigh_26 : decode cX2_weigh 26 = .ok (.aload_n 1, 1) := by decide +kernel
theorem dX2_weigh_27 : decode cX2_weigh 27 = .ok (.iload_n 3, 1) := by decide +kernel
theorem dX2_weigh_28 : decode cX2_weigh 28 = .ok (.invokevirtual 29, 3) := by decide +kernel
theorem dX2_weigh_31 : decode cX2_weigh 31 = .ok (.ifCond .eq 13, 3) := by decide +kernel
theorem dX2_weigh_34 : decode cX2_weigh 34 = .ok (.aload_n 0, 1) := by decide +kernel
theorem dX2_weigh_35 : decode cX2_weigh 35 = .ok (.getfield 12, 3) := by decide +kernel
theorem dX2_weigh_38 : decode cX2_weigh 38 = .ok (.invokevirtual 33, 3) := by decide +kernel
theorem dX2_weigh_41 : decode cX2_weigh 41 = .ok (.goto 4, 3) := by decide +kernel
theorem dX2_weigh_44 : decode cX2_weigh 44 = .ok (.iconst (-1), 1) := by decide +kernel
theorem dX2_weigh_45 : decode cX2_weigh 45 = .ok (.iastore, 1) := by decide +kernel
theorem dX2_weigh_46 : decode cX2_weigh 46 = .ok (.iinc 3 1, 3) := by decide +kernel
theorem dX2_weigh_49 : decode cX2_weigh 49 = .ok (.goto (-47), 3) := by decide +kernel
theorem dX2_weigh_52 : decode cX2_weigh 52 = .ok (.return_, 1) := by decide +kernel
set_option maxRecDepth 20000 in
theorem ggX2_mayBe_X0_valueOf : GoodIn wsX2_mayBe wsX0_valueOf := goodIn_r _ [5, 6, 7, 8, 9, 10, 11, 12, 19] (by decide +kernel) (by decide +kernel)
set_option maxRecDepth 20000 in
theorem gX2_mayBe_X0_valueOf_n37 : GoodIn wsX2_mayBe (wsX0_valueOf) := ggX2_mayBe_X0_valueOf
set_option maxRecDepth 20000 in
theorem ggX2_mayBe_X8_within : GoodIn wsX2_mayBe wsX8_within := goodIn_r _ [12] (by decide +kernel) (by decide +kernel)
set_option maxRecDepth 20000 in
theorem gX2_mayBe_X8_within_n46 : GoodIn wsX2_mayBe (wsX8_within) := ggX2_mayBe_X8_within
set_option maxRecDepth 20000 in
theorem ggX2_mayBe_X0_put : GoodIn wsX2_mayBe wsX0_put := goodIn_r _ [15, 6, 7, 8, 9, 10, 11, 12, 19] (by decide +kernel) (by decide +kernel)
set_option maxRecDepth 20000 in
theorem gX2_mayBe_X0_put_n50 : GoodIn wsX2_mayBe (wsX0_put) := ggX2_mayBe_X0_put
theorem dX2_mayBe_0 : decode cX2_mayBe 0 = .ok (.iload_n 2, 1) := by decide +kernel
theorem dX2_mayBe_1 : decode cX2_mayBe 1 = .ok (.istore_n 3, 1) := by decide +kernel
theorem dX2_mayBe_2 : decode cX2_mayBe 2 = .ok (.iconst 0, 1) := by decide +kernel
theorem dX2_mayBe_3 : decode cX2_mayBe 3 = .ok (.istore 4, 2) := by decide +kernel
theorem dX2_mayBe_5 : decode cX2_mayBe 5 = .ok (.iload 4, 2) := by decide +kernel
theorem dX2_mayBe_7 : decode cX2_mayBe 7 = .ok (.bipush 6, 2) := by decide +kernel
theorem dX2_mayBe_9 : decode cX2_mayBe 9 = .ok (.if_icmp .ge 73, 3) := by decide +kernel
theorem dX2_mayBe_12 : decode cX2_mayBe 12 = .ok (.iload_n 3, 1) := by decide +kernel
theorem dX2_mayBe_13 : decode cX2_mayBe 13 = .ok (.iconst 3, 1) := by decide +kernel
theorem dX2_mayBe_14 : decode cX2_mayBe 14 = .ok (.irem, 1) := by decide +kernel
theorem dX2_mayBe_15 : decode cX2_mayBe 15 = .ok (.istore 5, 2) := by decide +kernel
theorem dX2_mayBe_17 : decode cX2_mayBe 17 = .ok (.aload_n 1, 1) := by decide +kernel
theorem dX2_mayBe_18 : decode cX2_mayBe 18 = .ok (.iload 4, 2) := by decide +kernel
theorem dX2_mayBe_20 : decode cX2_mayBe 20 = .ok (.invokevirtual 37, 3) := by decide +kernel
theorem dX2_mayBe_23 : decode cX2_mayBe 23 = .ok (.iload 5, 2) := by decide +kernel
theorem dX2_mayBe_25 : decode cX2_mayBe 25 = .ok (.iconst 2, 1) := by decide +kernel
theorem dX2_mayBe_26 : decode cX2_mayBe 26 = .ok (.if_icmp .ne 7, 3) := by decide +kernel
theorem dX2_mayBe_29 : decode cX2_mayBe 29 = .ok (.iconst 1, 1) := by decide +kernel
theorem dX2_mayBe_30 : decode cX2_mayBe 30 = .ok (.goto 6, 3) := by decide +kernel
theorem dX2_mayBe_33 : decode cX2_mayBe 33 = .ok (.iload 5, 2) := by decide +kernel
theorem dX2_mayBe_35 : decode cX2_mayBe 35 = .ok (.ineg, 1) := by decide +kernel
theorem dX2_mayBe_36 : decode cX2_mayBe 36 = .ok (.iadd, 1) := by decide +kernel
theorem dX2_mayBe_37 : decode cX2_mayBe 37 = .ok (.istore 6, 2) := by decide +kernel
theorem dX2_mayBe_39 : decode cX2_mayBe 39 = .ok (.iload 6, 2) := by decide +kernel
theorem dX2_mayBe_41 : decode cX2_mayBe 41 = .ok (.getstatic 40, 3) := by decide +kernel
theorem dX2_mayBe_44 : decode cX2_mayBe 44 = .ok (.iload 4, 2) := by decide +kernel
theorem dX2_mayBe_46 : decode cX2_mayBe 46 = .ok (.iaload, 1) := by decide +kernel
theorem dX2_mayBe_47 : decode cX2_mayBe 47 = .ok (.getstatic 43, 3) := by decide +kernel
theorem dX2_mayBe_50 : decode cX2_mayBe 50 = .ok (.iload 4, 2) := by decide +kernel
theorem dX2_mayBe_52 : decode cX2_mayBe 52 = .ok (.iaload, 1) := by decide +kernel
theorem dX2_mayBe_53 : decode cX2_mayBe 53 = .ok (.invokestatic 46, 3) := by decide +kernel
theorem dX2_mayBe_56 : decode cX2_mayBe 56 = .ok (.ifCond .ne 5, 3) := by decide +kernel
theorem dX2_mayBe_59 : decode cX2_mayBe 59 = .ok (.iconst 0, 1) := by decide +kernel
theorem dX2_mayBe_60 : decode cX2_mayBe 60 = .ok (.ireturn, 1) := by decide +kernel
theorem dX2_mayBe_61 : decode cX2_mayBe 61 = .ok (.aload_n 0, 1) := by decide +kernel
theorem dX2_mayBe_62 : decode cX2_mayBe 62 = .ok (.getfield 12, 3) := by decide +kernel
theorem dX2_mayBe_65 : decode cX2_mayBe 65 = .ok (.iload 4, 2) := by decide +kernel
theorem dX2_mayBe_67 : decode cX2_mayBe 67 = .ok (.iload 6, 2) := by decide +kernel
theorem dX2_mayBe_69 : decode cX2_mayBe 69 = .ok (.invokevirtual 50, 3) := by decide +kernel
theorem dX2_mayBe_72 : decode cX2_mayBe 72 = .ok (.iload_n 3, 1) := by decide +kernel
theorem dX2_mayBe_73 : decode cX2_mayBe 73 = .ok (.iconst 3, 1) := by decide +kernel
theorem dX2_mayBe_74 : decode cX2_mayBe 74 = .ok (.idiv, 1) := by decide +kernel
theorem dX2_mayBe_75 : decode cX2_mayBe 75 = .ok (.istore_n 3, 1) := by decide +kernel
theorem dX2_mayBe_76 : decode cX2_mayBe 76 = .ok (.iinc 4 1, 3) := by decide +kernel
theorem dX2_mayBe_79 : decode cX2_mayBe 79 = .ok (.goto (-74), 3) := by decide +kernel
theorem dX2_mayBe_82 : decode cX2_mayBe 82 = .ok (.iconst 1, 1) := by decide +kernel
theorem dX2_mayBe_83 : decode cX2_mayBe 83 = .ok (.ireturn, 1) := by decide +kernel
theorem dX2_spreadOf_0 : decode cX2_spreadOf 0 = .ok (.aload_n 0, 1) := by decide +kernel
theorem dX2_spreadOf_1 : decode cX2_spreadOf 1 = .ok (.getfield 22, 3) := by decide +kernel
theorem dX2_spreadOf_4 : decode cX2_spreadOf 4 = .ok (.iconst 0, 1) := by decide +kernel
theorem dX2_spreadOf_5 : decode cX2_spreadOf 5 = .ok (.iaload, 1) := by decide +kernel
theorem dX2_spreadOf_6 : decode cX2_spreadOf 6 = .ok (.istore_n 2, 1) := by decide +kernel
theorem dX2_spreadOf_7 : decode cX2_spreadOf 7 = .ok (.aload_n 0, 1) := by decide +kernel
theorem dX2_spreadOf_8 : decode cX2_spreadOf 8 = .ok (.getfield 22, 3) := by decide +kernel
theorem dX2_spreadOf_11 : decode cX2_spreadOf 11 = .ok (.iconst 0, 1) := by decide +kernel
theorem dX2_spreadOf_12 : decode cX2_spreadOf 12 = .ok (.iaload, 1) := by decide +kernel
theorem dX2_spreadOf_13 : decode cX2_spreadOf 13 = .ok (.istore_n 3, 1) := by decide +kernel
theorem dX2_spreadOf_14 : decode cX2_spreadOf 14 = .ok (.iconst 1, 1) := by decide +kernel
theorem dX2_spreadOf_15 : decode cX2_spreadOf 15 = .ok (.istore 4, 2) := by decide +kernel
theorem dX2_spreadOf_17 : decode cX2_spreadOf 17 = .ok (.iload 4, 2) := by decide +kernel
theorem dX2_spreadOf_19 : decode cX2_spreadOf 19 = .ok (.sipush 729, 3) := by decide +kernel
theorem dX2_spreadOf_22 : decode cX2_spreadOf 22 = .ok (.if_icmp .ge 56, 3) := by decide +kernel
theorem dX2_spreadOf_25 : decode cX2_spreadOf 25 = .ok (.aload_n 0, 1) := by decide +kernel
theorem dX2_spreadOf_26 : decode cX2_spreadOf 26 = .ok (.getfield 18, 3) := by decide +kernel
theorem dX2_spreadOf_29 : decode cX2_spreadOf 29 = .ok (.iload 4, 2) := by decide +kernel
theorem dX2_spreadOf_31 : decode cX2_spreadOf 31 = .ok (.iaload, 1) := by decide +kernel
theorem dX2_spreadOf_32 : decode cX2_spreadOf 32 = .ok (.iload_n 1, 1) := by decide +kernel
theorem dX2_spreadOf_33 : decode cX2_spreadOf 33 = .ok (.iand, 1) := by decide +kernel
theorem dX2_spreadOf_34 : decode cX2_spreadOf 34 = .ok (.ifCond .ne 38, 3) := by decide +kernel
theorem dX2_spreadOf_37 : decode cX2_spreadOf 37 = .ok (.aload_n 0, 1) := by decide +kernel
theorem dX2_spreadOf_38 : decode cX2_spreadOf 38 = .ok (.getfield 22, 3) := by decide +kernel
theorem dX2_spreadOf_41 : decode cX2_spreadOf 41 = .ok (.iload 4, 2) := by decide +kernel
theorem dX2_spreadOf_43 : decode cX2_spreadOf 43 = .ok (.iaload, 1) := by decide +kernel
theorem dX2_spreadOf_44 : decode cX2_spreadOf 44 = .ok (.iconst (-1), 1) := by decide +kernel
theorem dX2_spreadOf_45 : decode cX2_spreadOf 45 = .ok (.if_icmp .eq 27, 3) := by decide +kernel
theorem dX2_spreadOf_48 : decode cX2_spreadOf 48 = .ok (.iload_n 2, 1) := by decide +kernel
theorem dX2_spreadOf_49 : decode cX2_spreadOf 49 = .ok (.aload_n 0, 1) := by decide +kernel
theorem dX2_spreadOf_50 : decode cX2_spreadOf 50 = .ok (.getfield 22, 3) := by decide +kernel
theorem dX2_spreadOf_53 : decode cX2_spreadOf 53 = .ok (.iload 4, 2) := by decide +kernel
theorem dX2_spreadOf_55 : decode cX2_spreadOf 55 = .ok (.iaload, 1) := by decide +kernel
theorem dX2_spreadOf_56 : decode cX2_spreadOf 56 = .ok (.invokestatic 54, 3) := by decide +kernel
theorem dX2_spreadOf_59 : decode cX2_spreadOf 59 = .ok (.istore_n 2, 1) := by decide +kernel
theorem dX2_spreadOf_60 : decode cX2_spreadOf 60 = .ok (.iload_n 3, 1) := by decide +kernel
theorem dX2_spreadOf_61 : decode cX2_spreadOf 61 = .ok (.aload_n 0, 1) := by decide +kernel
theorem dX2_spreadOf_62 : decode cX2_spreadOf 62 = .ok (.getfield 22, 3) := by decide +kernel
theorem dX2_spreadOf_65 : decode cX2_spreadOf 65 = .ok (.iload 4, 2) := by decide +kernel
theorem dX2_spreadOf_67 : decode cX2_spreadOf 67 = .ok (.iaload, 1) := by decide +kernel
theorem dX2_spreadOf_68 : decode cX2_spreadOf 68 = .ok (.invokestatic 60, 3) := by decide +kernel
theorem dX2_spreadOf_71 : decode cX2_spreadOf 71 = .ok (.istore_n 3, 1) := by decide +kernel
theorem dX2_spreadOf_72 : decode cX2_spreadOf 72 = .ok (.iinc 4 1, 3) := by decide +kernel
theorem dX2_spreadOf_75 : decode cX2_spreadOf 75 = .ok (.goto (-58), 3) := by decide +kernel
theorem dX2_spreadOf_78 : decode cX2_spreadOf 78 = .ok (.iload_n 3, 1) := by decide +kernel
theorem dX2_spreadOf_79 : decode cX2_spreadOf 79 = .ok (.iload_n 2, 1) := by decide +kernel
theorem dX2_spreadOf_80 : decode cX2_spreadOf 80 = .ok (.isub, 1) := by decide +kernel
theorem dX2_spreadOf_81 : decode cX2_spreadOf 81 = .ok (.ireturn, 1) := by decide +kernel
set_option maxRecDepth 20000 in
theorem ggX2_fewestFor_J6_bitCount_0f7a4 : GoodIn wsX2_fewestFor wsJ6_bitCount_0f7a4 := goodIn_r _ [4, 5, 6, 7] (by decide +kernel) (by decide +kernel)
set_option maxRecDepth 20000 in
theorem gX2_fewestFor_J6_bitCount_0f7a4 : GoodIn wsX2_fewestFor (va_wsS RX2 63 yJ6_bitCount_0f7a4 wsJ6_bitCount_0f7a4) := goodIn_app (goodIn_of _ (by decide +kernel)) ggX2_fewestFor_J6_bitCount_0f7a4
set_option maxRecDepth 20000 in
theorem ggX2_fewestFor_X2_spreadOf : GoodIn wsX2_fewestFor wsX2_spreadOf := goodIn_r _ [12, 13, 14, 15, 16, 17, 18, 19, 20, 21, 22, 23, 24] (by decide +kernel) (by decide +kernel)
set_option maxRecDepth 20000 in
theorem gX2_fewestFor_X2_spreadOf : GoodIn wsX2_fewestFor (wsV RX2 68 RX2 yX2_spreadOf wsX2_spreadOf) := goodIn_app (goodIn_of _ (by decide +kernel)) ggX2_fewestFor_X2_spreadOf
theorem dX2_fewestFor_0 : decode cX2_fewestFor 0 = .ok (.bipush 63, 2) := by decide +kernel
theorem dX2_fewestFor_2 : decode cX2_fewestFor 2 = .ok (.istore_n 2, 1) := by decide +kernel
theorem dX2_fewestFor_3 : decode cX2_fewestFor 3 = .ok (.iconst 0, 1) := by decide +kernel
theorem dX2_fewestFor_4 : decode cX2_fewestFor 4 = .ok (.istore_n 3, 1) := by decide +kernel
theorem dX2_fewestFor_5 : decode cX2_fewestFor 5 = .ok (.iload_n 3, 1) := by decide +kernel
theorem dX2_fewestFor_6 : decode cX2_fewestFor 6 = .ok (.bipush 64, 2) := by decide +kernel
theorem dX2_fewestFor_8 : decode cX2_fewestFor 8 = .ok (.if_icmp .ge 31, 3) := by decide +kernel
theorem dX2_fewestFor_11 : decode cX2_fewestFor 11 = .ok (.iload_n 3, 1) := by decide +kernel
theorem dX2_fewestFor_12 : decode cX2_fewestFor 12 = .ok (.invokestatic 63, 3) := by decide +kernel
theorem dX2_fewestFor_15 : decode cX2_fewestFor 15 = .ok (.iload_n 2, 1) := by decide +kernel
theorem dX2_fewestFor_16 : decode cX2_fewestFor 16 = .ok (.invokestatic 63, 3) := by decide +kernel
theorem dX2_fewestFor_19 : decode cX2_fewestFor 19 = .ok (.if_icmp .ge 14, 3) := by decide +kernel
theorem dX2_fewestFor_22 : decode cX2_fewestFor 22 = .ok (.aload_n 0, 1) := by decide +kernel
theorem dX2_fewestFor_23 : decode cX2_fewestFor 23 = .ok (.iload_n 3, 1) := by decide +kernel
theorem dX2_fewestFor_24 : decode cX2_fewestFor 24 = .ok (.invokevirtual 68, 3) := by decide +kernel
theorem dX2_fewestFor_27 : decode cX2_fewestFor 27 = .ok (.iload_n 1, 1) := by decide +kernel
theorem dX2_fewestFor_28 : decode cX2_fewestFor 28 = .ok (.if_icmp .gt 5, 3) := by decide +kernel
theorem dX2_fewestFor_31 : decode cX2_fewestFor 31 = .ok (.iload_n 3, 1) := by decide +kernel
theorem dX2_fewestFor_32 : decode cX2_fewestFor 32 = .ok (.istore_n 2, 1) := by decide +kernel
theorem dX2_fewestFor_33 : decode cX2_fewestFor 33 = .ok (.iinc 3 1, 3) := by decide +kernel
theorem dX2_fewestFor_36 : decode cX2_fewestFor 36 = .ok (.goto (-31), 3) := by decide +kernel
theorem dX2_fewestFor_39 : decode cX2_fewestFor 39 = .ok (.iload_n 2, 1) := by decide +kernel
theorem dX2_fewestFor_40 : decode cX2_fewestFor 40 = .ok (.ireturn, 1) := by decide +kernel
theorem dX3_init_0 : decode cX3_init 0 = .ok (.aload_n 0, 1) := by decide +kernel
theorem dX3_init_1 : decode cX3_init 1 = .ok (.invokespecial 1, 3) := by decide +kernel
theorem dX3_init_4 : decode cX3_init 4 = .ok (.aload_n 0, 1) := by decide +kernel
theorem dX3_init_5 : decode cX3_init 5 = .ok (.iconst 2, 1) := by decide +kernel
theorem dX3_init_6 : decode cX3_init 6 = .ok (.newarray .int, 2) := by decide +kernel
theorem dX3_init_8 : decode cX3_init 8 = .ok (.dup, 1) := by decide +kernel
theorem dX3_init_9 : decode cX3_init 9 = .ok (.iconst 0, 1) := by decide +kernel
theorem dX3_init_10 : decode cX3_init 10 = .ok (.bipush 100, 2) := by decide +kernel
theorem dX3_init_12 : decode cX3_init 12 = .ok (.iastore, 1) := by decide +kernel
theorem dX3_init_13 : decode cX3_init 13 = .ok (.dup, 1) := by decide +kernel
theorem dX3_init_14 : decode cX3_init 14 = .ok (.iconst 1, 1) := by decide +kernel
theorem dX3_init_15 : decode cX3_init 15 = .ok (.iconst 0, 1) := by decide +kernel
theorem dX3_init_16 : decode cX3_init 16 = .ok (.iastore, 1) := by decide +kernel
theorem dX3_init_17 : decode cX3_init 17 = .ok (.putfield 9, 3) := by decide +kernel
theorem dX3_init_20 : decode cX3_init 20 = .ok (.aload_n 0, 1) := by decide +kernel
theorem dX3_init_21 : decode cX3_init 21 = .ok (.iconst 2, 1) := by decide +kernel
theorem dX3_init_22 : decode cX3_init 22 = .ok (.newarray .boolean, 2) := by decide +kernel
theorem dX3_init_24 : decode cX3_init 24 = .ok (.dup, 1) := by decide +kernel
theorem dX3_init_25 : decode cX3_init 25 = .ok (.iconst 0, 1) := by decide +kernel
theorem dX3_init_26 : decode cX3_init 26 = .ok (.iconst 1, 1) := by decide +kernel
theorem dX3_init_27 : decode cX3_init 27 = .ok (.bastore, 1) := by decide +kernel
theorem dX3_init_28 : decode cX3_init 28 = .ok (.dup, 1) := by decide +kernel
theorem dX3_init_29 : decode cX3_init 29 = .ok (.iconst 1, 1) := by decide +kernel
theorem dX3_init_30 : decode cX3_init 30 = .ok (.iconst 0, 1) := by decide +kernel
theorem dX3_init_31 : decode cX3_init 31 = .ok (.bastore, 1) := by decide +kernel
theorem dX3_init_32 : decode cX3_init 32 = .ok (.putfield 13, 3) := by decide +kernel
theorem dX3_init_35 : decode cX3_init 35 = .ok (.return_, 1) := by decide +kernel
set_option maxRecDepth 20000 in
theorem ggX3_valueOf_X8_isBar : GoodIn wsX3_valueOf wsX8_isBar := goodIn_r _ [4, 5, 6, 3, 7] (by decide +kernel) (by decide +kernel)
set_option maxRecDepth 20000 in
theorem gX3_valueOf_X8_isBar_n17 : GoodIn wsX3_valueOf (wsX8_isBar) := ggX3_valueOf_X8_isBar
theorem dX3_valueOf_0 : decode cX3_valueOf 0 = .ok (.iload_n 1, 1) := by decide +kernel
theorem dX3_valueOf_1 : decode cX3_valueOf 1 = .ok (.invokestatic 17, 3) := by decide +kernel
theorem dX3_valueOf_4 : decode cX3_valueOf 4 = .ok (.ifCond .eq 12, 3) := by decide +kernel
theorem dX3_valueOf_7 : decode cX3_valueOf 7 = .ok (.aload_n 0, 1) := by decide +kernel
theorem dX3_valueOf_8 : decode cX3_valueOf 8 = .ok (.getfield 9, 3) := by decide +kernel
theorem dX3_valueOf_11 : decode cX3_valueOf 11 = .ok (.iload_n 1, 1) := by decide +kernel
theorem dX3_valueOf_12 : decode cX3_valueOf 12 = .ok (.iaload, 1) := by decide +kernel
theorem dX3_valueOf_13 : decode cX3_valueOf 13 = .ok (.goto 4, 3) := by decide +kernel
theorem dX3_valueOf_16 : decode cX3_valueOf 16 = .ok (.iconst 0, 1) := by decide +kernel
theorem dX3_valueOf_17 : decode cX3_valueOf 17 = .ok (.ireturn, 1) := by decide +kernel
set_option maxRecDepth 20000 in
theorem ggX3_practise_X8_isBar : GoodIn wsX3_practise wsX8_isBar := goodIn_r _ [12, 13, 14, 11, 15] (by decide +kernel) (by decide +kernel)
set_option maxRecDepth 20000 in
theorem gX3_practise_X8_isBar_n17 : GoodIn wsX3_practise (wsX8_isBar) := ggX3_practise_X8_isBar
theorem dX3_practise_0 : decode cX3_practise 0 = .ok (.iload_n 1, 1) := by decide +kernel
theorem dX3_practise_1 : decode cX3_practise 1 = .ok (.invokestatic 17, 3) := by decide +kernel
theorem dX3_practise_4 : decode cX3_practise 4 = .ok (.ifCond .ne 4, 3) := by decide +kernel
theorem dX3_practise_7 : decode cX3_practise 7 = .ok (.return_, 1) := by decide +kernel
theorem dX3_practise_8 : decode cX3_practise 8 = .ok (.iconst 1, 1) := by decide +kernel
theorem dX3_practise_9 : decode cX3_practise 9 = .ok (.iload_n 1, 1) := by decide +kernel
theorem dX3_practise_10 : decode cX3_practise 10 = .ok (.isub, 1) := by decide +kernel
theorem dX3_practise_11 : decode cX3_practise 11 = .ok (.istore 4, 2) := by decide +kernel
theorem dX3_practise_13 : decode cX3_practise 13 = .ok (.aload_n 0, 1) := by decide +kernel
theorem dX3_practise_14 : decode cX3_practise 14 = .ok (.getfield 9, 3) := by decide +kernel
theorem dX3_practise_17 : decode cX3_practise 17 = .ok (.iload_n 1, 1) := by decide +kernel
theorem dX3_practise_18 : decode cX3_practise 18 = .ok (.aload_n 0, 1) := by decide +kernel
theorem dX3_practise_19 : decode cX3_practise 19 = .ok (.getfield 13, 3) := by decide +kernel
theorem dX3_practise_22 : decode cX3_practise 22 = .ok (.iload_n 1, 1) := by decide +kernel
theorem dX3_practise_23 : decode cX3_practise 23 = .ok (.baload, 1) := by decide +kernel
theorem dX3_practise_24 : decode cX3_practise 24 = .ok (.ifCond .eq 8, 3) := by decide +kernel
theorem dX3_practise_27 : decode cX3_practise 27 = .ok (.bipush 100, 2) := by decide +kernel
theorem dX3_practise_29 : decode cX3_practise 29 = .ok (.goto 16, 3) := by decide +kernel
theorem dX3_practise_32 : decode cX3_practise 32 = .ok (.bipush 100, 2) := by decide +kernel
theorem dX3_practise_34 : decode cX3_practise 34 = .ok (.aload_n 0, 1) := by decide +kernel
theorem dX3_practise_35 : decode cX3_practise 35 = .ok (.getfield 9, 3) := by decide +kernel
theorem dX3_practise_38 : decode cX3_practise 38 = .ok (.iload_n 1, 1) := by decide +kernel
theorem dX3_practise_39 : decode cX3_practise 39 = .ok (.iaload, 1) := by decide +kernel
theorem dX3_practise_40 : decode cX3_practise 40 = .ok (.iload_n 2, 1) := by decide +kernel
theorem dX3_practise_41 : decode cX3_practise 41 = .ok (.iadd, 1) := by decide +kernel
theorem dX3_practise_42 : decode cX3_practise 42 = .ok (.invokestatic 23, 3) := by decide +kernel
theorem dX3_practise_45 : decode cX3_practise 45 = .ok (.iastore, 1) := by decide +kernel
theorem dX3_practise_46 : decode cX3_practise 46 = .ok (.aload_n 0, 1) := by decide +kernel
theorem dX3_practise_47 : decode cX3_practise 47 = .ok (.getfield 13, 3) := by decide +kernel
theorem dX3_practise_50 : decode cX3_practise 50 = .ok (.iload_n 1, 1) := by decide +kernel
theorem dX3_practise_51 : decode cX3_practise 51 = .ok (.aload_n 0, 1) := by decide +kernel
theorem dX3_practise_52 : decode cX3_practise 52 = .ok (.getfield 9, 3) := by decide +kernel
theorem dX3_practise_55 : decode cX3_practise 55 = .ok (.iload_n 1, 1) := by decide +kernel
theorem dX3_practise_56 : decode cX3_practise 56 = .ok (.iaload, 1) := by decide +kernel
theorem dX3_practise_57 : decode cX3_practise 57 = .ok (.bipush 100, 2) := by decide +kernel
theorem dX3_practise_59 : decode cX3_practise 59 = .ok (.if_icmp .ne 7, 3) := by decide +kernel
theorem dX3_practise_62 : decode cX3_practise 62 = .ok (.iconst 1, 1) := by decide +kernel
theorem dX3_practise_63 : decode cX3_practise 63 = .ok (.goto 4, 3) := by decide +kernel
theorem dX3_practise_66 : decode cX3_practise 66 = .ok (.iconst 0, 1) := by decide +kernel
theorem dX3_practise_67 : decode cX3_practise 67 = .ok (.bastore, 1) := by decide +kernel
theorem dX3_practise_68 : decode cX3_practise 68 = .ok (.aload_n 0, 1) := by decide +kernel
theorem dX3_practise_69 : decode cX3_practise 69 = .ok (.getfield 9, 3) := by decide +kernel
theorem dX3_practise_72 : decode cX3_practise 72 = .ok (.iload 4, 2) := by decide +kernel
theorem dX3_practise_74 : decode cX3_practise 74 = .ok (.iconst 0, 1) := by decide +kernel
theorem dX3_practise_75 : decode cX3_practise 75 = .ok (.aload_n 0, 1) := by decide +kernel
theorem dX3_practise_76 : decode cX3_practise 76 = .ok (.getfield 9, 3) := by decide +kernel
theorem dX3_practise_79 : decode cX3_practise 79 = .ok (.iload 4, 2) := by decide +kernel
theorem dX3_practise_81 : decode cX3_practise 81 = .ok (.iaload, 1) := by decide +kernel
theorem dX3_practise_82 : decode cX3_practise 82 = .ok (.iload_n 3, 1) := by decide +kernel
theorem dX3_practise_83 : decode cX3_practise 83 = .ok (.isub, 1) := by decide +kernel
theorem dX3_practise_84 : decode cX3_practise 84 = .ok (.invokestatic 29, 3) := by decide +kernel
theorem dX3_practise_87 : decode cX3_practise 87 = .ok (.iastore, 1) := by decide +kernel
theorem dX3_practise_88 : decode cX3_practise 88 = .ok (.return_, 1) := by decide +kernel
set_option maxRecDepth 20000 in
theorem ggX3_weeksTillWhole_X8_isBar : GoodIn wsX3_weeksTillWhole wsX8_isBar := goodIn_r _ [12, 13, 14, 11, 15] (by decide +kernel) (by decide +kernel)
set_option maxRecDepth 20000 in
theorem gX3_weeksTillWhole_X8_isBar_n17 : GoodIn wsX3_weeksTillWhole (wsX8_isBar) := ggX3_weeksTillWhole_X8_isBar
theorem dX3_weeksTillWhole_0 : decode cX3_weeksTillWhole 0 = .ok (.iload_n 1, 1) := by decide +kernel
theorem dX3_weeksTillWhole_1 : decode cX3_weeksTillWhole 1 = .ok (.invokestatic 17, 3) := by decide +kernel
theorem dX3_weeksTillWhole_4 : decode cX3_weeksTillWhole 4 = .ok (.ifCond .ne 5, 3) := by decide +kernel
theorem dX3_weeksTillWhole_7 : decode cX3_weeksTillWhole 7 = .ok (.iconst 0, 1) := by decide +kernel
theorem dX3_weeksTillWhole_8 : decode cX3_weeksTillWhole 8 = .ok (.ireturn, 1) := by decide +kernel
theorem dX3_weeksTillWhole_9 : decode cX3_weeksTillWhole 9 = .ok (.bipush 100, 2) := by decide +kernel
theorem dX3_weeksTillWhole_11 : decode cX3_weeksTillWhole 11 = .ok (.aload_n 0, 1) := by decide +kernel
theorem dX3_weeksTillWhole_12 : decode cX3_weeksTillWhole 12 = .ok (.getfield 9, 3) := by decide +kernel
theorem dX3_weeksTillWhole_15 : decode cX3_weeksTillWhole 15 = .ok (.iload_n 1, 1) := by decide +kernel
theorem dX3_weeksTillWhole_16 : decode cX3_weeksTillWhole 16 = .ok (.iaload, 1) := by decide +kernel
theorem dX3_weeksTillWhole_17 : decode cX3_weeksTillWhole 17 = .ok (.isub, 1) := by decide +kernel
theorem dX3_weeksTillWhole_18 : decode cX3_weeksTillWhole 18 = .ok (.istore_n 3, 1) := by decide +kernel
theorem dX3_weeksTillWhole_19 : decode cX3_weeksTillWhole 19 = .ok (.aload_n 0, 1) := by decide +kernel
theorem dX3_weeksTillWhole_20 : decode cX3_weeksTillWhole 20 = .ok (.getfield 13, 3) := by decide +kernel
theorem dX3_weeksTillWhole_23 : decode cX3_weeksTillWhole 23 = .ok (.iload_n 1, 1) := by decide +kernel
theorem dX3_weeksTillWhole_24 : decode cX3_weeksTillWhole 24 = .ok (.baload, 1) := by decide +kernel
theorem dX3_weeksTillWhole_25 : decode cX3_weeksTillWhole 25 = .ok (.ifCond .eq 9, 3) := by decide +kernel
theorem dX3_weeksTillWhole_28 : decode cX3_weeksTillWhole 28 = .ok (.iconst 1, 1) := by decide +kernel
theorem dX3_weeksTillWhole_29 : decode cX3_weeksTillWhole 29 = .ok (.iload_n 3, 1) := by decide +kernel
theorem dX3_weeksTillWhole_30 : decode cX3_weeksTillWhole 30 = .ok (.invokestatic 23, 3) := by decide +kernel
theorem dX3_weeksTillWhole_33 : decode cX3_weeksTillWhole 33 = .ok (.ireturn, 1) := by decide +kernel
theorem dX3_weeksTillWhole_34 : decode cX3_weeksTillWhole 34 = .ok (.iconst 1, 1) := by decide +kernel
theorem dX3_weeksTillWhole_35 : decode cX3_weeksTillWhole 35 = .ok (.iload_n 2, 1) := by decide +kernel
theorem dX3_weeksTillWhole_36 : decode cX3_weeksTillWhole 36 = .ok (.invokestatic 29, 3) := by decide +kernel
theorem dX3_weeksTillWhole_39 : decode cX3_weeksTillWhole 39 = .ok (.istore 4, 2) := by decide +kernel
theorem dX3_weeksTillWhole_41 : decode cX3_weeksTillWhole 41 = .ok (.iload_n 3, 1) := by decide +kernel
theorem dX3_weeksTillWhole_42 : decode cX3_weeksTillWhole 42 = .ok (.iload 4, 2) := by decide +kernel
theorem dX3_weeksTillWhole_44 : decode cX3_weeksTillWhole 44 = .ok (.iadd, 1) := by decide +kernel
theorem dX3_weeksTillWhole_45 : decode cX3_weeksTillWhole 45 = .ok (.iconst 1, 1) := by decide +kernel
theorem dX3_weeksTillWhole_46 : decode cX3_weeksTillWhole 46 = .ok (.isub, 1) := by decide +kernel
theorem dX3_weeksTillWhole_47 : decode cX3_weeksTillWhole 47 = .ok (.iload 4, 2) := by decide +kernel
theorem dX3_weeksTillWhole_49 : decode cX3_weeksTillWhole 49 = .ok (.idiv, 1) := by decide +kernel
theorem dX3_weeksTillWhole_50 : decode cX3_weeksTillWhole 50 = .ok (.ireturn, 1) := by decide +kernel
theorem dX3_copyFrom_0 : decode cX3_copyFrom 0 = .ok (.iconst 0, 1) := by decide +kernel
theorem dX3_copyFrom_1 : decode cX3_copyFrom 1 = .ok (.istore_n 2, 1) := by decide +kernel
theorem dX3_copyFrom_2 : decode cX3_copyFrom 2 = .ok (.iload_n 2, 1) := by decide +kernel
theorem dX3_copyFrom_3 : decode cX3_copyFrom 3 = .ok (.iconst 2, 1) := by decide +kernel
theorem dX3_copyFrom_4 : decode cX3_copyFrom 4 = .ok (.if_icmp .ge 33, 3) := by decide +kernel
theorem dX3_copyFrom_7 : decode cX3_copyFrom 7 = .ok (.aload_n 0, 1) := by decide +kernel
theorem dX3_copyFrom_8 : decode cX3_copyFrom 8 = .ok (.getfield 9, 3) := by decide +kernel
theorem dX3_copyFrom_11 : decode cX3_copyFrom 11 = .ok (.iload_n 2, 1) := by decide +kernel
theorem dX3_copyFrom_12 : decode cX3_copyFrom 12 = .ok (.aload_n 1, 1) := by decide +kernel
theorem dX3_copyFrom_13 : decode cX3_copyFrom 13 = .ok (.getfield 9, 3) := by decide +kernel
theorem dX3_copyFrom_16 : decode cX3_copyFrom 16 = .ok (.iload_n 2, 1) := by decide +kernel
theorem dX3_copyFrom_17 : decode cX3_copyFrom 17 = .ok (.iaload, 1) := by decide +kernel
theorem dX3_copyFrom_18 : decode cX3_copyFrom 18 = .ok (.iastore, 1) := by decide +kernel
theorem dX3_copyFrom_19 : decode cX3_copyFrom 19 = .ok (.aload_n 0, 1) := by decide +kernel
theorem dX3_copyFrom_20 : decode cX3_copyFrom 20 = .ok (.getfield 13, 3) := by decide +kernel
theorem dX3_copyFrom_23 : decode cX3_copyFrom 23 = .ok (.iload_n 2, 1) := by decide +kernel
theorem dX3_copyFrom_24 : decode cX3_copyFrom 24 = .ok (.aload_n 1, 1) := by decide +kernel
theorem dX3_copyFrom_25 : decode cX3_copyFrom 25 = .ok (.getfield 13, 3) := by decide +kernel
theorem dX3_copyFrom_28 : decode cX3_copyFrom 28 = .ok (.iload_n 2, 1) := by decide +kernel
theorem dX3_copyFrom_29 : decode cX3_copyFrom 29 = .ok (.baload, 1) := by decide +kernel
theorem dX3_copyFrom_30 : decode cX3_copyFrom 30 = .ok (.bastore, 1) := by decide +kernel
theorem dX3_copyFrom_31 : decode cX3_copyFrom 31 = .ok (.iinc 2 1, 3) := by decide +kernel
theorem dX3_copyFrom_34 : decode cX3_copyFrom 34 = .ok (.goto (-32), 3) := by decide +kernel
theorem dX3_copyFrom_37 : decode cX3_copyFrom 37 = .ok (.return_, 1) := by decide +kernel
set_option maxRecDepth 20000 in
theorem ggX4_init_X6_init : GoodIn wsX4_init wsX6_init := goodIn_r _ [14, 15, 2, 3, 16, 17, 18, 19, 20, 21, 22, 23, 24, 25, 26, 27, 28, 29, 36, 37, 38, 39, 40, 41, 42, 43, 44, 45, 46, 47, 48] (by decide +kernel) (by decide +kernel)
set_option maxRecDepth 20000 in
theorem gX4_init_X6_init_n9 : GoodIn wsX4_init (wsX6_init) := ggX4_init_X6_init
set_option maxRecDepth 20000 in
theorem ggX4_init_X3_init : GoodIn wsX4_init wsX3_init := goodIn_r _ [31, 32, 2, 3, 26, 33, 34, 35, 52, 53] (by decide +kernel) (by decide +kernel)
set_option maxRecDepth 20000 in
theorem gX4_init_X3_init_n18 : GoodIn wsX4_init (wsX3_init) := ggX4_init_X3_init
theorem dX4_init_0 : decode cX4_init 0 = .ok (.aload_n 0, 1) := by decide +kernel
theorem dX4_init_1 : decode cX4_init 1 = .ok (.invokespecial 1, 3) := by decide +kernel
theorem dX4_init_4 : decode cX4_init 4 = .ok (.aload_n 0, 1) := by decide +kernel
theorem dX4_init_5 : decode cX4_init 5 = .ok (.new 7, 3) := by decide +kernel
theorem dX4_init_8 : decode cX4_init 8 = .ok (.dup, 1) := by decide +kernel
theorem dX4_init_9 : decode cX4_init 9 = .ok (.invokespecial 9, 3) := by decide +kernel
theorem dX4_init_12 : decode cX4_init 12 = .ok (.putfield 10, 3) := by decide +kernel
theorem dX4_init_15 : decode cX4_init 15 = .ok (.aload_n 0, 1) := by decide +kernel
theorem dX4_init_16 : decode cX4_init 16 = .ok (.new 16, 3) := by decide +kernel
theorem dX4_init_19 : decode cX4_init 19 = .ok (.dup, 1) := by decide +kernel
theorem dX4_init_20 : decode cX4_init 20 = .ok (.invokespecial 18, 3) := by decide +kernel
theorem dX4_init_23 : decode cX4_init 23 = .ok (.putfield 19, 3) := by decide +kernel
theorem dX4_init_26 : decode cX4_init 26 = .ok (.aload_n 0, 1) := by decide +kernel
theorem dX4_init_27 : decode cX4_init 27 = .ok (.iconst 0, 1) := by decide +kernel
theorem dX4_init_28 : decode cX4_init 28 = .ok (.putfield 23, 3) := by decide +kernel
theorem dX4_init_31 : decode cX4_init 31 = .ok (.return_, 1) := by decide +kernel
set_option maxRecDepth 20000 in
theorem ggX4_take_X6_copyFrom : GoodIn wsX4_take wsX6_copyFrom := goodIn_r _ [7, 8, 9, 10, 11, 12, 13, 14, 15, 16, 17, 18, 19, 20, 21, 22, 23, 24, 34, 35, 36, 37, 38, 39, 40, 41, 42, 43, 44, 45, 46] (by decide +kernel) (by decide +kernel)
set_option maxRecDepth 20000 in
theorem gX4_take_X6_copyFrom_n27 : GoodIn wsX4_take (wsX6_copyFrom) := ggX4_take_X6_copyFrom
set_option maxRecDepth 20000 in
theorem ggX4_take_X3_copyFrom : GoodIn wsX4_take wsX3_copyFrom := goodIn_r _ [28, 29, 30, 47, 48] (by decide +kernel) (by decide +kernel)
set_option maxRecDepth 20000 in
theorem gX4_take_X3_copyFrom_n31 : GoodIn wsX4_take (wsX3_copyFrom) := ggX4_take_X3_copyFrom
theorem dX4_take_0 : decode cX4_take 0 = .ok (.aload_n 0, 1) := by decide +kernel
theorem dX4_take_1 : decode cX4_take 1 = .ok (.getfield 10, 3) := by decide +kernel
theorem dX4_take_4 : decode cX4_take 4 = .ok (.aload_n 1, 1) := by decide +kernel
theorem dX4_take_5 : decode cX4_take 5 = .ok (.invokevirtual 27, 3) := by decide +kernel
theorem dX4_take_8 : decode cX4_take 8 = .ok (.aload_n 0, 1) := by decide +kernel
theorem dX4_take_9 : decode cX4_take 9 = .ok (.getfield 19, 3) := by decide +kernel
theorem dX4_take_12 : decode cX4_take 12 = .ok (.aload_n 2, 1) := by decide +kernel
theorem dX4_take_13 : decode cX4_take 13 = .ok (.invokevirtual 31, 3) := by decide +kernel
theorem dX4_take_16 : decode cX4_take 16 = .ok (.aload_n 0, 1) := by decide +kernel
theorem dX4_take_17 : decode cX4_take 17 = .ok (.iconst 1, 1) := by decide +kernel
theorem dX4_take_18 : decode cX4_take 18 = .ok (.putfield 23, 3) := by decide +kernel
theorem dX4_take_21 : decode cX4_take 21 = .ok (.return_, 1) := by decide +kernel
set_option maxRecDepth 20000 in
theorem ggX4_giveBack_X6_copyFrom : GoodIn wsX4_giveBack wsX6_copyFrom := goodIn_r _ [6, 7, 8, 9, 10, 11, 12, 13, 14, 15, 16, 17, 18, 19, 20, 21, 22, 23, 33, 34, 35, 36, 37, 38, 39, 40, 41, 42, 43, 44, 45] (by decide +kernel) (by decide +kernel)
set_option maxRecDepth 20000 in
theorem gX4_giveBack_X6_copyFrom_n27 : GoodIn wsX4_giveBack (wsX6_copyFrom) := ggX4_giveBack_X6_copyFrom
set_option maxRecDepth 20000 in
theorem ggX4_giveBack_X3_copyFrom : GoodIn wsX4_giveBack wsX3_copyFrom := goodIn_r _ [27, 28, 29, 46, 47] (by decide +kernel) (by decide +kernel)
set_option maxRecDepth 20000 in
theorem gX4_giveBack_X3_copyFrom_n31 : GoodIn wsX4_giveBack (wsX3_copyFrom) := ggX4_giveBack_X3_copyFrom
theorem dX4_giveBack_0 : decode cX4_giveBack 0 = .ok (.aload_n 1, 1) := by decide +kernel
theorem dX4_giveBack_1 : decode cX4_giveBack 1 = .ok (.aload_n 0, 1) := by decide +kernel
theorem dX4_giveBack_2 : decode cX4_giveBack 2 = .ok (.getfield 10, 3) := by decide +kernel
theorem dX4_giveBack_5 : decode cX4_giveBack 5 = .ok (.invokevirtual 27, 3) := by decide +kernel
theorem dX4_giveBack_8 : decode cX4_giveBack 8 = .ok (.aload_n 2, 1) := by decide +kernel
theorem dX4_giveBack_9 : decode cX4_giveBack 9 = .ok (.aload_n 0, 1) := by decide +kernel
theorem dX4_giveBack_10 : decode cX4_giveBack 10 = .ok (.getfield 19, 3) := by decide +kernel
theorem dX4_giveBack_13 : decode cX4_giveBack 13 = .ok (.invokevirtual 31, 3) := by decide +kernel
theorem dX4_giveBack_16 : decode cX4_giveBack 16 = .ok (.return_, 1) := by decide +kernel
theorem dX5_init_0 : decode cX5_init 0 = .ok (.aload_n 0, 1) := by decide +kernel
theorem dX5_init_1 : decode cX5_init 1 = .ok (.invokespecial 1, 3) := by decide +kernel
theorem dX5_init_4 : decode cX5_init 4 = .ok (.aload_n 0, 1) := by decide +kernel
theorem dX5_init_5 : decode cX5_init 5 = .ok (.iconst 0, 1) := by decide +kernel
theorem dX5_init_6 : decode cX5_init 6 = .ok (.newarray .int, 2) := by decide +kernel
theorem dX5_init_8 : decode cX5_init 8 = .ok (.putfield 7, 3) := by decide +kernel
theorem dX5_init_11 : decode cX5_init 11 = .ok (.aload_n 0, 1) := by decide +kernel
theorem dX5_init_12 : decode cX5_init 12 = .ok (.iconst 0, 1) := by decide +kernel
theorem dX5_init_13 : decode cX5_init 13 = .ok (.putfield 13, 3) := by decide +kernel
theorem dX5_init_16 : decode cX5_init 16 = .ok (.aload_n 0, 1) := by decide +kernel
theorem dX5_init_17 : decode cX5_init 17 = .ok (.iconst 0, 1) := by decide +kernel
theorem dX5_init_18 : decode cX5_init 18 = .ok (.putfield 17, 3) := by decide +kernel
theorem dX5_init_21 : decode cX5_init 21 = .ok (.aload_n 0, 1) := by decide +kernel
theorem dX5_init_22 : decode cX5_init 22 = .ok (.iconst 0, 1) := by decide +kernel
theorem dX5_init_23 : decode cX5_init 23 = .ok (.putfield 20, 3) := by decide +kernel
theorem dX5_init_26 : decode cX5_init 26 = .ok (.aload_n 0, 1) := by decide +kernel
theorem dX5_init_27 : decode cX5_init 27 = .ok (.iconst 0, 1) := by decide +kernel
theorem dX5_init_28 : decode cX5_init 28 = .ok (.putfield 23, 3) := by decide +kernel
theorem dX5_init_31 : decode cX5_init 31 = .ok (.aload_n 0, 1) := by decide +kernel
theorem dX5_init_32 : decode cX5_init 32 = .ok (.iconst 0, 1) := by decide +kernel
theorem dX5_init_33 : decode cX5_init 33 = .ok (.putfield 26, 3) := by decide +kernel
theorem dX5_init_36 : decode cX5_init 36 = .ok (.return_, 1) := by decide +kernel
set_option maxRecDepth 20000 in
theorem ggX5_faultOf_X7_forget : GoodIn wsX5_faultOf wsX7_forget := goodIn_r _ [13, 14, 15, 16, 17, 18, 19, 20, 105, 106] (by decide +kernel) (by decide +kernel)
set_option maxRecDepth 20000 in
theorem gX5_faultOf_X7_forget_n35 : GoodIn wsX5_faultOf (wsX7_forget) := ggX5_faultOf_X7_forget
set_option maxRecDepth 20000 in
theorem ggX5_faultOf_X5_next : GoodIn wsX5_faultOf wsX5_next := goodIn_r _ [25, 7, 6, 1, 9, 8, 26, 27, 24, 28, 29, 30, 31, 32, 33, 34, 35, 36, 37, 38, 39, 40, 41, 42, 43, 44, 45, 46, 47, 48, 49, 50, 51, 52, 53, 54, 55, 56, 57, 58, 59, 60, 61, 62, 63, 64, 65, 66, 67, 68, 69, 70, 71, 72, 73, 74, 75, 76, 77, 78, 79, 80, 81, 82, 83, 84, 85, 86, 87, 88, 2, 3, 4, 5, 99, 100, 101, 102, 103, 104] (by decide +kernel) (by decide +kernel)
set_option maxRecDepth 20000 in
theorem gX5_faultOf_X5_next : GoodIn wsX5_faultOf (wsV RX5 40 RX5 yX5_next wsX5_next) := goodIn_app (goodIn_of _ (by decide +kernel)) ggX5_faultOf_X5_next
set_option maxRecDepth 20000 in
theorem ggX5_faultOf_X5_readsItem : GoodIn wsX5_faultOf wsX5_readsItem := goodIn_r _ [92, 8, 36, 93, 11, 94, 95, 20, 21, 22, 23, 24, 25, 7, 6, 1, 9, 26, 27, 28, 29, 30, 31, 32, 33, 34, 35, 37, 38, 39, 40, 41, 42, 43, 44, 45, 46, 47, 48, 49, 50, 51, 52, 53, 54, 55, 56, 57, 58, 59, 60, 61, 62, 63, 64, 65, 66, 67, 68, 69, 70, 71, 72, 73, 74, 75, 76, 77, 78, 79, 80, 81, 82, 83, 84, 85, 86, 87, 88, 2, 3, 4, 5, 96, 97, 98, 15, 99, 100, 101, 102, 103, 104, 105, 106] (by decide +kernel) (by decide +kernel)
set_option maxRecDepth 20000 in
theorem gX5_faultOf_X5_readsItem : GoodIn wsX5_faultOf (wsV RX5 43 RX5 yX5_readsItem wsX5_readsItem) := goodIn_app (goodIn_of _ (by decide +kernel)) ggX5_faultOf_X5_readsItem
theorem dX5_faultOf_0 : decode cX5_faultOf 0 = .ok (.aload_n 0, 1) := by decide +kernel
theorem dX5_faultOf_1 : decode cX5_faultOf 1 = .ok (.aload_n 1, 1) := by decide +kernel
theorem dX5_faultOf_2 : decode cX5_faultOf 2 = .ok (.putfield 7, 3) := by decide +kernel
theorem dX5_faultOf_5 : decode cX5_faultOf 5 = .ok (.aload_n 0, 1) := by decide +kernel
theorem dX5_faultOf_6 : decode cX5_faultOf 6 = .ok (.iload_n 2, 1) := by decide +kernel
theorem dX5_faultOf_7 : decode cX5_faultOf 7 = .ok (.aload_n 1, 1) := by decide +kernel
theorem dX5_faultOf_8 : decode cX5_faultOf 8 = .ok (.arraylength, 1) := by decide +kernel
theorem dX5_faultOf_9 : decode cX5_faultOf 9 = .ok (.invokestatic 29, 3) := by decide +kernel
theorem dX5_faultOf_12 : decode cX5_faultOf 12 = .ok (.putfield 13, 3) := by decide +kernel
theorem dX5_faultOf_15 : decode cX5_faultOf 15 = .ok (.aload_n 0, 1) := by decide +kernel
theorem dX5_faultOf_16 : decode cX5_faultOf 16 = .ok (.iconst 0, 1) := by decide +kernel
theorem dX5_faultOf_17 : decode cX5_faultOf 17 = .ok (.putfield 17, 3) := by decide +kernel
theorem dX5_faultOf_20 : decode cX5_faultOf 20 = .ok (.aload_n 3, 1) := by decide +kernel
theorem dX5_faultOf_21 : decode cX5_faultOf 21 = .ok (.invokevirtual 35, 3) := by decide +kernel
theorem dX5_faultOf_24 : decode cX5_faultOf 24 = .ok (.iconst 0, 1) := by decide +kernel
theorem dX5_faultOf_25 : decode cX5_faultOf 25 = .ok (.istore 4, 2) := by decide +kernel
theorem dX5_faultOf_27 : decode cX5_faultOf 27 = .ok (.iload 4, 2) := by decide +kernel
theorem dX5_faultOf_29 : decode cX5_faultOf 29 = .ok (.iconst 5, 1) := by decide +kernel
theorem dX5_faultOf_30 : decode cX5_faultOf 30 = .ok (.if_icmp .gt 35, 3) := by decide +kernel
theorem dX5_faultOf_33 : decode cX5_faultOf 33 = .ok (.aload_n 0, 1) := by decide +kernel
theorem dX5_faultOf_34 : decode cX5_faultOf 34 = .ok (.invokevirtual 40, 3) := by decide +kernel
theorem dX5_faultOf_37 : decode cX5_faultOf 37 = .ok (.aload_n 0, 1) := by decide +kernel
theorem dX5_faultOf_38 : decode cX5_faultOf 38 = .ok (.getfield 23, 3) := by decide +kernel
theorem dX5_faultOf_41 : decode cX5_faultOf 41 = .ok (.ifCond .ne 5, 3) := by decide +kernel
theorem dX5_faultOf_44 : decode cX5_faultOf 44 = .ok (.iconst (-1), 1) := by decide +kernel
theorem dX5_faultOf_45 : decode cX5_faultOf 45 = .ok (.ireturn, 1) := by decide +kernel
theorem dX5_faultOf_46 : decode cX5_faultOf 46 = .ok (.aload_n 0, 1) := by decide +kernel
theorem dX5_faultOf_47 : decode cX5_faultOf 47 = .ok (.aload_n 3, 1) := by decide +kernel
theorem dX5_faultOf_48 : decode cX5_faultOf 48 = .ok (.invokevirtual 43, 3) := by decide +kernel
theorem dX5_faultOf_51 : decode cX5_faultOf 51 = .ok (.ifCond .ne 8, 3) := by decide +kernel
theorem dX5_faultOf_54 : decode cX5_faultOf 54 = .ok (.aload_n 0, 1) := by decide +kernel
theorem dX5_faultOf_55 : decode cX5_faultOf 55 = .ok (.getfield 20, 3) := by decide +kernel
theorem dX5_faultOf_58 : decode cX5_faultOf 58 = .ok (.ireturn, 1) := by decide +kernel
theorem dX5_faultOf_59 : decode cX5_faultOf 59 = .ok (.iinc 4 1, 3) := by decide +kernel
theorem dX5_faultOf_62 : decode cX5_faultOf 62 = .ok (.goto (-35), 3) := by decide +kernel
theorem dX5_faultOf_65 : decode cX5_faultOf 65 = .ok (.aload_n 0, 1) := by decide +kernel
theorem dX5_faultOf_66 : decode cX5_faultOf 66 = .ok (.getfield 20, 3) := by decide +kernel
theorem dX5_faultOf_69 : decode cX5_faultOf 69 = .ok (.ireturn, 1) := by decide +kernel
set_option maxRecDepth 20000 in
theorem ggX5_readsItem_X7_wasTold : GoodIn wsX5_readsItem wsX7_wasTold := goodIn_r _ [6, 7, 93, 94] (by decide +kernel) (by decide +kernel)
set_option maxRecDepth 20000 in
theorem gX5_readsItem_X7_wasTold_n47 : GoodIn wsX5_readsItem (wsX7_wasTold) := ggX5_readsItem_X7_wasTold
set_option maxRecDepth 20000 in
theorem ggX5_readsItem_X5_next : GoodIn wsX5_readsItem wsX5_next := goodIn_r _ [12, 13, 14, 15, 16, 1, 17, 18, 11, 19, 20, 21, 22, 23, 24, 25, 26, 2, 27, 28, 29, 30, 31, 32, 33, 34, 35, 36, 37, 38, 39, 40, 41, 42, 43, 44, 45, 46, 47, 48, 49, 50, 51, 52, 53, 54, 55, 56, 57, 58, 59, 60, 61, 62, 63, 64, 65, 66, 67, 68, 69, 70, 71, 72, 73, 74, 75, 76, 77, 78, 79, 80, 81, 82, 87, 88, 89, 90, 91, 92] (by decide +kernel) (by decide +kernel)
set_option maxRecDepth 20000 in
theorem gX5_readsItem_X5_next : GoodIn wsX5_readsItem (wsV RX5 40 RX5 yX5_next wsX5_next) := goodIn_app (goodIn_of _ (by decide +kernel)) ggX5_readsItem_X5_next
set_option maxRecDepth 20000 in
theorem ggX5_readsItem_X7_tell : GoodIn wsX5_readsItem wsX7_tell := goodIn_r _ [85, 86, 7, 20, 21, 22, 93, 94] (by decide +kernel) (by decide +kernel)
set_option maxRecDepth 20000 in
theorem gX5_readsItem_X7_tell_n57 : GoodIn wsX5_readsItem (wsX7_tell) := ggX5_readsItem_X7_tell
theorem dX5_readsItem_0 : decode cX5_readsItem 0 = .ok (.aload_n 0, 1) := by decide +kernel
theorem dX5_readsItem_1 : decode cX5_readsItem 1 = .ok (.getfield 23, 3) := by decide +kernel
theorem dX5_readsItem_4 : decode cX5_readsItem 4 = .ok (.iconst 1, 1) := by decide +kernel
theorem dX5_readsItem_5 : decode cX5_readsItem 5 = .ok (.if_icmp .ne 14, 3) := by decide +kernel
theorem dX5_readsItem_8 : decode cX5_readsItem 8 = .ok (.aload_n 1, 1) := by decide +kernel
theorem dX5_readsItem_9 : decode cX5_readsItem 9 = .ok (.aload_n 0, 1) := by decide +kernel
theorem dX5_readsItem_10 : decode cX5_readsItem 10 = .ok (.getfield 26, 3) := by decide +kernel
theorem dX5_readsItem_13 : decode cX5_readsItem 13 = .ok (.invokevirtual 47, 3) := by decide +kernel
theorem dX5_readsItem_16 : decode cX5_readsItem 16 = .ok (.ifCond .eq 5, 3) := by decide +kernel
theorem dX5_readsItem_19 : decode cX5_readsItem 19 = .ok (.iconst 0, 1) := by decide +kernel
theorem dX5_readsItem_20 : decode cX5_readsItem 20 = .ok (.ireturn, 1) := by decide +kernel
theorem dX5_readsItem_21 : decode cX5_readsItem 21 = .ok (.aload_n 0, 1) := by decide +kernel
theorem dX5_readsItem_22 : decode cX5_readsItem 22 = .ok (.getfield 26, 3) := by decide +kernel
theorem dX5_readsItem_25 : decode cX5_readsItem 25 = .ok (.istore_n 2, 1) := by decide +kernel
theorem dX5_readsItem_26 : decode cX5_readsItem 26 = .ok (.aload_n 0, 1) := by decide +kernel
theorem dX5_readsItem_27 : decode cX5_readsItem 27 = .ok (.invokevirtual 40, 3) := by decide +kernel
theorem dX5_readsItem_30 : decode cX5_readsItem 30 = .ok (.aload_n 0, 1) := by decide +kernel
theorem dX5_readsItem_31 : decode cX5_readsItem 31 = .ok (.getfield 23, 3) := by decide +kernel
theorem dX5_readsItem_34 : decode cX5_readsItem 34 = .ok (.iconst 2, 1) := by decide +kernel
theorem dX5_readsItem_35 : decode cX5_readsItem 35 = .ok (.if_icmp .ne 15, 3) := by decide +kernel
theorem dX5_readsItem_38 : decode cX5_readsItem 38 = .ok (.getstatic 51, 3) := by decide +kernel
theorem dX5_readsItem_41 : decode cX5_readsItem 41 = .ok (.iload_n 2, 1) := by decide +kernel
theorem dX5_readsItem_42 : decode cX5_readsItem 42 = .ok (.iaload, 1) := by decide +kernel
theorem dX5_readsItem_43 : decode cX5_readsItem 43 = .ok (.ifCond .ge 7, 3) := by decide +kernel
theorem dX5_readsItem_46 : decode cX5_readsItem 46 = .ok (.iconst 1, 1) := by decide +kernel
theorem dX5_readsItem_47 : decode cX5_readsItem 47 = .ok (.goto 4, 3) := by decide +kernel
theorem dX5_readsItem_50 : decode cX5_readsItem 50 = .ok (.iconst 0, 1) := by decide +kernel
theorem dX5_readsItem_51 : decode cX5_readsItem 51 = .ok (.istore_n 3, 1) := by decide +kernel
theorem dX5_readsItem_52 : decode cX5_readsItem 52 = .ok (.iload_n 3, 1) := by decide +kernel
theorem dX5_readsItem_53 : decode cX5_readsItem 53 = .ok (.ifCond .eq 7, 3) := by decide +kernel
theorem dX5_readsItem_56 : decode cX5_readsItem 56 = .ok (.aload_n 0, 1) := by decide +kernel
theorem dX5_readsItem_57 : decode cX5_readsItem 57 = .ok (.invokevirtual 40, 3) := by decide +kernel
theorem dX5_readsItem_60 : decode cX5_readsItem 60 = .ok (.aload_n 0, 1) := by decide +kernel
theorem dX5_readsItem_61 : decode cX5_readsItem 61 = .ok (.getfield 23, 3) := by decide +kernel
theorem dX5_readsItem_64 : decode cX5_readsItem 64 = .ok (.iconst 3, 1) := by decide +kernel
theorem dX5_readsItem_65 : decode cX5_readsItem 65 = .ok (.if_icmp .ne 15, 3) := by decide +kernel
theorem dX5_readsItem_68 : decode cX5_readsItem 68 = .ok (.aload_n 0, 1) := by decide +kernel
theorem dX5_readsItem_69 : decode cX5_readsItem 69 = .ok (.getfield 26, 3) := by decide +kernel
theorem dX5_readsItem_72 : decode cX5_readsItem 72 = .ok (.getstatic 54, 3) := by decide +kernel
theorem dX5_readsItem_75 : decode cX5_readsItem 75 = .ok (.iload_n 2, 1) := by decide +kernel
theorem dX5_readsItem_76 : decode cX5_readsItem 76 = .ok (.iaload, 1) := by decide +kernel
theorem dX5_readsItem_77 : decode cX5_readsItem 77 = .ok (.if_icmp .le 5, 3) := by decide +kernel
theorem dX5_readsItem_80 : decode cX5_readsItem 80 = .ok (.iconst 0, 1) := by decide +kernel
theorem dX5_readsItem_81 : decode cX5_readsItem 81 = .ok (.ireturn, 1) := by decide +kernel
theorem dX5_readsItem_82 : decode cX5_readsItem 82 = .ok (.iload_n 3, 1) := by decide +kernel
theorem dX5_readsItem_83 : decode cX5_readsItem 83 = .ok (.ifCond .eq 11, 3) := by decide +kernel
theorem dX5_readsItem_86 : decode cX5_readsItem 86 = .ok (.aload_n 0, 1) := by decide +kernel
theorem dX5_readsItem_87 : decode cX5_readsItem 87 = .ok (.getfield 26, 3) := by decide +kernel
theorem dX5_readsItem_90 : decode cX5_readsItem 90 = .ok (.ineg, 1) := by decide +kernel
theorem dX5_readsItem_91 : decode cX5_readsItem 91 = .ok (.goto 7, 3) := by decide +kernel
theorem dX5_readsItem_94 : decode cX5_readsItem 94 = .ok (.aload_n 0, 1) := by decide +kernel
theorem dX5_readsItem_95 : decode cX5_readsItem 95 = .ok (.getfield 26, 3) := by decide +kernel
theorem dX5_readsItem_98 : decode cX5_readsItem 98 = .ok (.istore 4, 2) := by decide +kernel
theorem dX5_readsItem_100 : decode cX5_readsItem 100 = .ok (.aload_n 0, 1) := by decide +kernel
theorem dX5_readsItem_101 : decode cX5_readsItem 101 = .ok (.invokevirtual 40, 3) := by decide +kernel
theorem dX5_readsItem_104 : decode cX5_readsItem 104 = .ok (.aload_n 0, 1) := by decide +kernel
theorem dX5_readsItem_105 : decode cX5_readsItem 105 = .ok (.getfield 23, 3) := by decide +kernel
theorem dX5_readsItem_108 : decode cX5_readsItem 108 = .ok (.iconst 4, 1) := by decide +kernel
theorem dX5_readsItem_109 : decode cX5_readsItem 109 = .ok (.if_icmp .eq 5, 3) := by decide +kernel
theorem dX5_readsItem_112 : decode cX5_readsItem 112 = .ok (.iconst 0, 1) := by decide +kernel
theorem dX5_readsItem_113 : decode cX5_readsItem 113 = .ok (.ireturn, 1) := by decide +kernel
theorem dX5_readsItem_114 : decode cX5_readsItem 114 = .ok (.aload_n 1, 1) := by decide +kernel
theorem dX5_readsItem_115 : decode cX5_readsItem 115 = .ok (.iload_n 2, 1) := by decide +kernel
theorem dX5_readsItem_116 : decode cX5_readsItem 116 = .ok (.iload 4, 2) := by decide +kernel
theorem dX5_readsItem_118 : decode cX5_readsItem 118 = .ok (.invokevirtual 57, 3) := by decide +kernel
theorem dX5_readsItem_121 : decode cX5_readsItem 121 = .ok (.iconst 1, 1) := by decide +kernel
theorem dX5_readsItem_122 : decode cX5_readsItem 122 = .ok (.ireturn, 1) := by decide +kernel
set_option maxRecDepth 20000 in
theorem ggX5_next_X5_isLetter : GoodIn wsX5_next wsX5_isLetter := goodIn_r _ [9, 10, 11, 12] (by decide +kernel) (by decide +kernel)
set_option maxRecDepth 20000 in
theorem gX5_next_X5_isLetter : GoodIn wsX5_next (va_wsS RX5 61 yX5_isLetter wsX5_isLetter) := goodIn_app (goodIn_of _ (by decide +kernel)) ggX5_next_X5_isLetter
set_option maxRecDepth 20000 in
theorem ggX5_next_X5_readWord : GoodIn wsX5_next wsX5_readWord := goodIn_r _ [16, 1, 2, 3, 5, 17, 6, 7, 8, 9, 10, 11, 12, 18, 19, 20, 21, 4, 22, 23, 24, 25, 26, 27, 28, 29, 30, 31, 32, 33, 34, 35, 36, 37, 38, 39, 40, 41, 42, 43, 44, 45, 46, 47, 48, 49, 50, 51, 52, 53, 54, 55, 56, 57, 58, 59, 60, 61, 62, 74, 75, 76, 77, 78, 79] (by decide +kernel) (by decide +kernel)
set_option maxRecDepth 20000 in
theorem gX5_next_X5_readWord : GoodIn wsX5_next (wsV RX5 64 RX5 yX5_readWord wsX5_readWord) := goodIn_app (goodIn_of _ (by decide +kernel)) ggX5_next_X5_readWord
set_option maxRecDepth 20000 in
theorem ggX5_next_X5_isDigit : GoodIn wsX5_next wsX5_isDigit := goodIn_r _ [65, 10, 11, 12] (by decide +kernel) (by decide +kernel)
set_option maxRecDepth 20000 in
theorem gX5_next_X5_isDigit : GoodIn wsX5_next (va_wsS RX5 67 yX5_isDigit wsX5_isDigit) := goodIn_app (goodIn_of _ (by decide +kernel)) ggX5_next_X5_isDigit
set_option maxRecDepth 20000 in
theorem ggX5_next_X5_readAmount : GoodIn wsX5_next wsX5_readAmount := goodIn_r _ [69, 17, 1, 2, 3, 70, 71, 72, 73, 4, 5, 63, 64, 8, 65, 10, 11, 12, 74, 75, 76, 77, 78, 79] (by decide +kernel) (by decide +kernel)
set_option maxRecDepth 20000 in
theorem gX5_next_X5_readAmount : GoodIn wsX5_next (wsV RX5 70 RX5 yX5_readAmount wsX5_readAmount) := goodIn_app (goodIn_of _ (by decide +kernel)) ggX5_next_X5_readAmount
theorem dX5_next_0 : decode cX5_next 0 = .ok (.aload_n 0, 1) := by decide +kernel
theorem dX5_next_1 : decode cX5_next 1 = .ok (.getfield 17, 3) := by decide +kernel
theorem dX5_next_4 : decode cX5_next 4 = .ok (.aload_n 0, 1) := by decide +kernel
theorem dX5_next_5 : decode cX5_next 5 = .ok (.getfield 13, 3) := by decide +kernel
theorem dX5_next_8 : decode cX5_next 8 = .ok (.if_icmp .ge 30, 3) := by decide +kernel
theorem dX5_next_11 : decode cX5_next 11 = .ok (.aload_n 0, 1) := by decide +kernel
theorem dX5_next_12 : decode cX5_next 12 = .ok (.getfield 7, 3) := by decide +kernel
theorem dX5_next_15 : decode cX5_next 15 = .ok (.aload_n 0, 1) := by decide +kernel
theorem dX5_next_16 : decode cX5_next 16 = .ok (.getfield 17, 3) := by decide +kernel
theorem dX5_next_19 : decode cX5_next 19 = .ok (.iaload, 1) := by decide +kernel
theorem dX5_next_20 : decode cX5_next 20 = .ok (.bipush 32, 2) := by decide +kernel
theorem dX5_next_22 : decode cX5_next 22 = .ok (.if_icmp .ne 16, 3) := by decide +kernel
theorem dX5_next_25 : decode cX5_next 25 = .ok (.aload_n 0, 1) := by decide +kernel
theorem dX5_next_26 : decode cX5_next 26 = .ok (.dup, 1) := by decide +kernel
theorem dX5_next_27 : decode cX5_next 27 = .ok (.getfield 17, 3) := by decide +kernel
theorem dX5_next_30 : decode cX5_next 30 = .ok (.iconst 1, 1) := by decide +kernel
theorem dX5_next_31 : decode cX5_next 31 = .ok (.iadd, 1) := by decide +kernel
theorem dX5_next_32 : decode cX5_next 32 = .ok (.putfield 17, 3) := by decide +kernel
theorem dX5_next_35 : decode cX5_next 35 = .ok (.goto (-35), 3) := by decide +kernel
theorem dX5_next_38 : decode cX5_next 38 = .ok (.aload_n 0, 1) := by decide +kernel
theorem dX5_next_39 : decode cX5_next 39 = .ok (.aload_n 0, 1) := by decide +kernel
theorem dX5_next_40 : decode cX5_next 40 = .ok (.getfield 17, 3) := by decide +kernel
theorem dX5_next_43 : decode cX5_next 43 = .ok (.putfield 20, 3) := by decide +kernel
theorem dX5_next_46 : decode cX5_next 46 = .ok (.aload_n 0, 1) := by decide +kernel
theorem dX5_next_47 : decode cX5_next 47 = .ok (.getfield 17, 3) := by decide +kernel
theorem dX5_next_50 : decode cX5_next 50 = .ok (.aload_n 0, 1) := by decide +kernel
theorem dX5_next_51 : decode cX5_next 51 = .ok (.getfield 13, 3) := by decide +kernel
theorem dX5_next_54 : decode cX5_next 54 = .ok (.if_icmp .lt 11, 3) := by decide +kernel
theorem dX5_next_57 : decode cX5_next 57 = .ok (.aload_n 0, 1) := by decide +kernel
theorem dX5_next_58 : decode cX5_next 58 = .ok (.iconst 0, 1) := by decide +kernel
theorem dX5_next_59 : decode cX5_next 59 = .ok (.putfield 23, 3) := by decide +kernel
theorem dX5_next_62 : decode cX5_next 62 = .ok (.goto 92, 3) := by decide +kernel
theorem dX5_next_65 : decode cX5_next 65 = .ok (.aload_n 0, 1) := by decide +kernel
theorem dX5_next_66 : decode cX5_next 66 = .ok (.getfield 7, 3) := by decide +kernel
theorem dX5_next_69 : decode cX5_next 69 = .ok (.aload_n 0, 1) := by decide +kernel
theorem dX5_next_70 : decode cX5_next 70 = .ok (.getfield 17, 3) := by decide +kernel
theorem dX5_next_73 : decode cX5_next 73 = .ok (.iaload, 1) := by decide +kernel
theorem dX5_next_74 : decode cX5_next 74 = .ok (.invokestatic 61, 3) := by decide +kernel
theorem dX5_next_77 : decode cX5_next 77 = .ok (.ifCond .eq 10, 3) := by decide +kernel
theorem dX5_next_80 : decode cX5_next 80 = .ok (.aload_n 0, 1) := by decide +kernel
theorem dX5_next_81 : decode cX5_next 81 = .ok (.invokevirtual 64, 3) := by decide +kernel
theorem dX5_next_84 : decode cX5_next 84 = .ok (.goto 70, 3) := by decide +kernel
theorem dX5_next_87 : decode cX5_next 87 = .ok (.aload_n 0, 1) := by decide +kernel
theorem dX5_next_88 : decode cX5_next 88 = .ok (.getfield 7, 3) := by decide +kernel
theorem dX5_next_91 : decode cX5_next 91 = .ok (.aload_n 0, 1) := by decide +kernel
theorem dX5_next_92 : decode cX5_next 92 = .ok (.getfield 17, 3) := by decide +kernel
theorem dX5_next_95 : decode cX5_next 95 = .ok (.iaload, 1) := by decide +kernel
theorem dX5_next_96 : decode cX5_next 96 = .ok (.invokestatic 67, 3) := by decide +kernel
theorem dX5_next_99 : decode cX5_next 99 = .ok (.ifCond .eq 10, 3) := by decide +kernel
theorem dX5_next_102 : decode cX5_next 102 = .ok (.aload_n 0, 1) := by decide +kernel
theorem dX5_next_103 : decode cX5_next 103 = .ok (.invokevirtual 70, 3) := by decide +kernel
theorem dX5_next_106 : decode cX5_next 106 = .ok (.goto 48, 3) := by decide +kernel
theorem dX5_next_109 : decode cX5_next 109 = .ok (.aload_n 0, 1) := by decide +kernel
theorem dX5_next_110 : decode cX5_next 110 = .ok (.getfield 7, 3) := by decide +kernel
theorem dX5_next_113 : decode cX5_next 113 = .ok (.aload_n 0, 1) := by decide +kernel
theorem dX5_next_114 : decode cX5_next 114 = .ok (.getfield 17, 3) := by decide +kernel
theorem dX5_next_117 : decode cX5_next 117 = .ok (.iaload, 1) := by decide +kernel
theorem dX5_next_118 : decode cX5_next 118 = .ok (.istore_n 1, 1) := by decide +kernel
theorem dX5_next_119 : decode cX5_next 119 = .ok (.aload_n 0, 1) := by decide +kernel
theorem dX5_next_120 : decode cX5_next 120 = .ok (.iload_n 1, 1) := by decide +kernel
theorem dX5_next_121 : decode cX5_next 121 = .ok (.bipush 45, 2) := by decide +kernel
theorem dX5_next_123 : decode cX5_next 123 = .ok (.if_icmp .ne 7, 3) := by decide +kernel
theorem dX5_next_126 : decode cX5_next 126 = .ok (.iconst 2, 1) := by decide +kernel
theorem dX5_next_127 : decode cX5_next 127 = .ok (.goto 14, 3) := by decide +kernel
theorem dX5_next_130 : decode cX5_next 130 = .ok (.iload_n 1, 1) := by decide +kernel
theorem dX5_next_131 : decode cX5_next 131 = .ok (.bipush 59, 2) := by decide +kernel
theorem dX5_next_133 : decode cX5_next 133 = .ok (.if_icmp .ne 7, 3) := by decide +kernel
theorem dX5_next_136 : decode cX5_next 136 = .ok (.iconst 4, 1) := by decide +kernel
theorem dX5_next_137 : decode cX5_next 137 = .ok (.goto 4, 3) := by decide +kernel
theorem dX5_next_140 : decode cX5_next 140 = .ok (.iconst 5, 1) := by decide +kernel
theorem dX5_next_141 : decode cX5_next 141 = .ok (.putfield 23, 3) := by decide +kernel
theorem dX5_next_144 : decode cX5_next 144 = .ok (.aload_n 0, 1) := by decide +kernel
theorem dX5_next_145 : decode cX5_next 145 = .ok (.dup, 1) := by decide +kernel
theorem dX5_next_146 : decode cX5_next 146 = .ok (.getfield 17, 3) := by decide +kernel
theorem dX5_next_149 : decode cX5_next 149 = .ok (.iconst 1, 1) := by decide +kernel
theorem dX5_next_150 : decode cX5_next 150 = .ok (.iadd, 1) := by decide +kernel
theorem dX5_next_151 : decode cX5_next 151 = .ok (.putfield 17, 3) := by decide +kernel
theorem dX5_next_154 : decode cX5_next 154 = .ok (.return_, 1) := by decide +kernel
set_option maxRecDepth 20000 in
theorem ggX5_readWord_X5_isLetter : GoodIn wsX5_readWord wsX5_isLetter := goodIn_r _ [9, 10, 11, 12] (by decide +kernel) (by decide +kernel)
set_option maxRecDepth 20000 in
theorem gX5_readWord_X5_isLetter : GoodIn wsX5_readWord (va_wsS RX5 61 yX5_isLetter wsX5_isLetter) := goodIn_app (goodIn_of _ (by decide +kernel)) ggX5_readWord_X5_isLetter
set_option maxRecDepth 20000 in
theorem ggX5_readWord_X5_isWord : GoodIn wsX5_readWord wsX5_isWord := goodIn_r _ [16, 1, 17, 3, 18, 19, 20, 21, 22, 23, 24, 25, 26, 27, 28, 29, 30, 31, 32, 33, 34, 35, 36, 37, 38, 39, 40, 41, 42, 43, 44, 45, 46, 47, 48, 49, 50, 51, 52, 53, 54, 55, 56, 57, 58, 59, 60, 61, 62, 63, 64] (by decide +kernel) (by decide +kernel)
set_option maxRecDepth 20000 in
theorem gX5_readWord_X5_isWord : GoodIn wsX5_readWord (wsV RX5 73 RX5 yX5_isWord wsX5_isWord) := goodIn_app (goodIn_of _ (by decide +kernel)) ggX5_readWord_X5_isWord
theorem dX5_readWord_0 : decode cX5_readWord 0 = .ok (.aload_n 0, 1) := by decide +kernel
theorem dX5_readWord_1 : decode cX5_readWord 1 = .ok (.getfield 17, 3) := by decide +kernel
theorem dX5_readWord_4 : decode cX5_readWord 4 = .ok (.aload_n 0, 1) := by decide +kernel
theorem dX5_readWord_5 : decode cX5_readWord 5 = .ok (.getfield 13, 3) := by decide +kernel
theorem dX5_readWord_8 : decode cX5_readWord 8 = .ok (.if_icmp .ge 31, 3) := by decide +kernel
theorem dX5_readWord_11 : decode cX5_readWord 11 = .ok (.aload_n 0, 1) := by decide +kernel
theorem dX5_readWord_12 : decode cX5_readWord 12 = .ok (.getfield 7, 3) := by decide +kernel
theorem dX5_readWord_15 : decode cX5_readWord 15 = .ok (.aload_n 0, 1) := by decide +kernel
theorem dX5_readWord_16 : decode cX5_readWord 16 = .ok (.getfield 17, 3) := by decide +kernel
theorem dX5_readWord_19 : decode cX5_readWord 19 = .ok (.iaload, 1) := by decide +kernel
theorem dX5_readWord_20 : decode cX5_readWord 20 = .ok (.invokestatic 61, 3) := by decide +kernel
theorem dX5_readWord_23 : decode cX5_readWord 23 = .ok (.ifCond .eq 16, 3) := by decide +kernel
theorem dX5_readWord_26 : decode cX5_readWord 26 = .ok (.aload_n 0, 1) := by decide +kernel
theorem dX5_readWord_27 : decode cX5_readWord 27 = .ok (.dup, 1) := by decide +kernel
theorem dX5_readWord_28 : decode cX5_readWord 28 = .ok (.getfield 17, 3) := by decide +kernel
theorem dX5_readWord_31 : decode cX5_readWord 31 = .ok (.iconst 1, 1) := by decide +kernel
theorem dX5_readWord_32 : decode cX5_readWord 32 = .ok (.iadd, 1) := by decide +kernel
theorem dX5_readWord_33 : decode cX5_readWord 33 = .ok (.putfield 17, 3) := by decide +kernel
theorem dX5_readWord_36 : decode cX5_readWord 36 = .ok (.goto (-36), 3) := by decide +kernel
theorem dX5_readWord_39 : decode cX5_readWord 39 = .ok (.aload_n 0, 1) := by decide +kernel
theorem dX5_readWord_40 : decode cX5_readWord 40 = .ok (.iconst 5, 1) := by decide +kernel
theorem dX5_readWord_41 : decode cX5_readWord 41 = .ok (.putfield 23, 3) := by decide +kernel
theorem dX5_readWord_44 : decode cX5_readWord 44 = .ok (.iconst 0, 1) := by decide +kernel
theorem dX5_readWord_45 : decode cX5_readWord 45 = .ok (.istore_n 1, 1) := by decide +kernel
theorem dX5_readWord_46 : decode cX5_readWord 46 = .ok (.iload_n 1, 1) := by decide +kernel
theorem dX5_readWord_47 : decode cX5_readWord 47 = .ok (.iconst 5, 1) := by decide +kernel
theorem dX5_readWord_48 : decode cX5_readWord 48 = .ok (.if_icmp .ge 27, 3) := by decide +kernel
theorem dX5_readWord_51 : decode cX5_readWord 51 = .ok (.aload_n 0, 1) := by decide +kernel
theorem dX5_readWord_52 : decode cX5_readWord 52 = .ok (.iload_n 1, 1) := by decide +kernel
theorem dX5_readWord_53 : decode cX5_readWord 53 = .ok (.invokevirtual 73, 3) := by decide +kernel
theorem dX5_readWord_56 : decode cX5_readWord 56 = .ok (.ifCond .eq 13, 3) := by decide +kernel
theorem dX5_readWord_59 : decode cX5_readWord 59 = .ok (.aload_n 0, 1) := by decide +kernel
theorem dX5_readWord_60 : decode cX5_readWord 60 = .ok (.iconst 1, 1) := by decide +kernel
theorem dX5_readWord_61 : decode cX5_readWord 61 = .ok (.putfield 23, 3) := by decide +kernel
theorem dX5_readWord_64 : decode cX5_readWord 64 = .ok (.aload_n 0, 1) := by decide +kernel
theorem dX5_readWord_65 : decode cX5_readWord 65 = .ok (.iload_n 1, 1) := by decide +kernel
theorem dX5_readWord_66 : decode cX5_readWord 66 = .ok (.putfield 26, 3) := by decide +kernel
theorem dX5_readWord_69 : decode cX5_readWord 69 = .ok (.iinc 1 1, 3) := by decide +kernel
theorem dX5_readWord_72 : decode cX5_readWord 72 = .ok (.goto (-26), 3) := by decide +kernel
theorem dX5_readWord_75 : decode cX5_readWord 75 = .ok (.return_, 1) := by decide +kernel
set_option maxRecDepth 20000 in
theorem ggX5_isWord_J0_charAt_5068e : GoodIn wsX5_isWord wsJ0_charAt_5068e := goodIn_r _ [8, 9, 10, 11, 12, 7, 13, 14, 15, 16, 17, 18, 19, 20, 21, 22, 23, 24, 25, 26, 27, 28, 29, 30, 31, 32, 33, 34, 35, 36, 37, 38, 39, 40, 41, 42, 43, 44] (by decide +kernel) (by decide +kernel)
set_option maxRecDepth 20000 in
theorem gX5_isWord_J0_charAt_5068e : GoodIn wsX5_isWord (wsV RX5 78 RJ0 yJ0_charAt_5068e wsJ0_charAt_5068e) := goodIn_app (goodIn_of _ (by decide +kernel)) ggX5_isWord_J0_charAt_5068e
theorem dX5_isWord_0 : decode cX5_isWord 0 = .ok (.aload_n 0, 1) := by decide +kernel
theorem dX5_isWord_1 : decode cX5_isWord 1 = .ok (.getfield 17, 3) := by decide +kernel
theorem dX5_isWord_4 : decode cX5_isWord 4 = .ok (.aload_n 0, 1) := by decide +kernel
theorem dX5_isWord_5 : decode cX5_isWord 5 = .ok (.getfield 20, 3) := by decide +kernel
theorem dX5_isWord_8 : decode cX5_isWord 8 = .ok (.isub, 1) := by decide +kernel
theorem dX5_isWord_9 : decode cX5_isWord 9 = .ok (.istore_n 2, 1) := by decide +kernel
theorem dX5_isWord_10 : decode cX5_isWord 10 = .ok (.iload_n 2, 1) := by decide +kernel
theorem dX5_isWord_11 : decode cX5_isWord 11 = .ok (.iconst 5, 1) := by decide +kernel
theorem dX5_isWord_12 : decode cX5_isWord 12 = .ok (.if_icmp .ge 18, 3) := by decide +kernel
theorem dX5_isWord_15 : decode cX5_isWord 15 = .ok (.ldc 76, 2) := by decide +kernel
theorem dX5_isWord_17 : decode cX5_isWord 17 = .ok (.iload_n 1, 1) := by decide +kernel
theorem dX5_isWord_18 : decode cX5_isWord 18 = .ok (.iconst 5, 1) := by decide +kernel
theorem dX5_isWord_19 : decode cX5_isWord 19 = .ok (.imul, 1) := by decide +kernel
theorem dX5_isWord_20 : decode cX5_isWord 20 = .ok (.iload_n 2, 1) := by decide +kernel
theorem dX5_isWord_21 : decode cX5_isWord 21 = .ok (.iadd, 1) := by decide +kernel
theorem dX5_isWord_22 : decode cX5_isWord 22 = .ok (.invokevirtual 78, 3) := by decide +kernel
theorem dX5_isWord_25 : decode cX5_isWord 25 = .ok (.bipush 32, 2) := by decide +kernel
theorem dX5_isWord_27 : decode cX5_isWord 27 = .ok (.if_icmp .eq 5, 3) := by decide +kernel
theorem dX5_isWord_30 : decode cX5_isWord 30 = .ok (.iconst 0, 1) := by decide +kernel
theorem dX5_isWord_31 : decode cX5_isWord 31 = .ok (.ireturn, 1) := by decide +kernel
theorem dX5_isWord_32 : decode cX5_isWord 32 = .ok (.iconst 0, 1) := by decide +kernel
theorem dX5_isWord_33 : decode cX5_isWord 33 = .ok (.istore_n 3, 1) := by decide +kernel
theorem dX5_isWord_34 : decode cX5_isWord 34 = .ok (.iload_n 3, 1) := by decide +kernel
theorem dX5_isWord_35 : decode cX5_isWord 35 = .ok (.iload_n 2, 1) := by decide +kernel
theorem dX5_isWord_36 : decode cX5_isWord 36 = .ok (.if_icmp .ge 35, 3) := by decide +kernel
theorem dX5_isWord_39 : decode cX5_isWord 39 = .ok (.ldc 76, 2) := by decide +kernel
theorem dX5_isWord_41 : decode cX5_isWord 41 = .ok (.iload_n 1, 1) := by decide +kernel
theorem dX5_isWord_42 : decode cX5_isWord 42 = .ok (.iconst 5, 1) := by decide +kernel
theorem dX5_isWord_43 : decode cX5_isWord 43 = .ok (.imul, 1) := by decide +kernel
theorem dX5_isWord_44 : decode cX5_isWord 44 = .ok (.iload_n 3, 1) := by decide +kernel
theorem dX5_isWord_45 : decode cX5_isWord 45 = .ok (.iadd, 1) := by decide +kernel
theorem dX5_isWord_46 : decode cX5_isWord 46 = .ok (.invokevirtual 78, 3) := by decide +kernel
theorem dX5_isWord_49 : decode cX5_isWord 49 = .ok (.aload_n 0, 1) := by decide +kernel
theorem dX5_isWord_50 : decode cX5_isWord 50 = .ok (.getfield 7, 3) := by decide +kernel
theorem dX5_isWord_53 : decode cX5_isWord 53 = .ok (.aload_n 0, 1) := by decide +kernel
theorem dX5_isWord_54 : decode cX5_isWord 54 = .ok (.getfield 20, 3) := by decide +kernel
theorem dX5_isWord_57 : decode cX5_isWord 57 = .ok (.iload_n 3, 1) := by decide +kernel
theorem dX5_isWord_58 : decode cX5_isWord 58 = .ok (.iadd, 1) := by decide +kernel
theorem dX5_isWord_59 : decode cX5_isWord 59 = .ok (.iaload, 1) := by decide +kernel
theorem dX5_isWord_60 : decode cX5_isWord 60 = .ok (.if_icmp .eq 5, 3) := by decide +kernel
theorem dX5_isWord_63 : decode cX5_isWord 63 = .ok (.iconst 0, 1) := by decide +kernel
theorem dX5_isWord_64 : decode cX5_isWord 64 = .ok (.ireturn, 1) := by decide +kernel
theorem dX5_isWord_65 : decode cX5_isWord 65 = .ok (.iinc 3 1, 3) := by decide +kernel
theorem dX5_isWord_68 : decode cX5_isWord 68 = .ok (.goto (-34), 3) := by decide +kernel
theorem dX5_isWord_71 : decode cX5_isWord 71 = .ok (.iconst 1, 1) := by decide +kernel
theorem dX5_isWord_72 : decode cX5_isWord 72 = .ok (.ireturn, 1) := by decide +kernel
set_option maxRecDepth 20000 in
theorem ggX5_readAmount_X5_isDigit : GoodIn wsX5_readAmount wsX5_isDigit := goodIn_r _ [14, 15, 16, 17] (by decide +kernel) (by decide +kernel)
set_option maxRecDepth 20000 in
theorem gX5_readAmount_X5_isDigit : GoodIn wsX5_readAmount (va_wsS RX5 67 yX5_isDigit wsX5_isDigit) := goodIn_app (goodIn_of _ (by decide +kernel)) ggX5_readAmount_X5_isDigit
theorem dX5_readAmount_0 : decode cX5_readAmount 0 = .ok (.aload_n 0, 1) := by decide +kernel
theorem dX5_readAmount_1 : decode cX5_readAmount 1 = .ok (.iconst 0, 1) := by decide +kernel
theorem dX5_readAmount_2 : decode cX5_readAmount 2 = .ok (.putfield 26, 3) := by decide +kernel
theorem dX5_readAmount_5 : decode cX5_readAmount 5 = .ok (.aload_n 0, 1) := by decide +kernel
theorem dX5_readAmount_6 : decode cX5_readAmount 6 = .ok (.getfield 17, 3) := by decide +kernel
theorem dX5_readAmount_9 : decode cX5_readAmount 9 = .ok (.aload_n 0, 1) := by decide +kernel
theorem dX5_readAmount_10 : decode cX5_readAmount 10 = .ok (.getfield 13, 3) := by decide +kernel
theorem dX5_readAmount_13 : decode cX5_readAmount 13 = .ok (.if_icmp .ge 61, 3) := by decide +kernel
theorem dX5_readAmount_16 : decode cX5_readAmount 16 = .ok (.aload_n 0, 1) := by decide +kernel
theorem dX5_readAmount_17 : decode cX5_readAmount 17 = .ok (.getfield 7, 3) := by decide +kernel
theorem dX5_readAmount_20 : decode cX5_readAmount 20 = .ok (.aload_n 0, 1) := by decide +kernel
theorem dX5_readAmount_21 : decode cX5_readAmount 21 = .ok (.getfield 17, 3) := by decide +kernel
theorem dX5_readAmount_24 : decode cX5_readAmount 24 = .ok (.iaload, 1) := by decide +kernel
theorem dX5_readAmount_25 : decode cX5_readAmount 25 = .ok (.invokestatic 67, 3) := by decide +kernel
theorem dX5_readAmount_28 : decode cX5_readAmount 28 = .ok (.ifCond .eq 46, 3) := by decide +kernel
theorem dX5_readAmount_31 : decode cX5_readAmount 31 = .ok (.aload_n 0, 1) := by decide +kernel
theorem dX5_readAmount_32 : decode cX5_readAmount 32 = .ok (.aload_n 0, 1) := by decide +kernel
theorem dX5_readAmount_33 : decode cX5_readAmount 33 = .ok (.getfield 26, 3) := by decide +kernel
theorem dX5_readAmount_36 : decode cX5_readAmount 36 = .ok (.bipush 10, 2) := by decide +kernel
theorem dX5_readAmount_38 : decode cX5_readAmount 38 = .ok (.imul, 1) := by decide +kernel
theorem dX5_readAmount_39 : decode cX5_readAmount 39 = .ok (.aload_n 0, 1) := by decide +kernel
theorem dX5_readAmount_40 : decode cX5_readAmount 40 = .ok (.getfield 7, 3) := by decide +kernel
theorem dX5_readAmount_43 : decode cX5_readAmount 43 = .ok (.aload_n 0, 1) := by decide +kernel
theorem dX5_readAmount_44 : decode cX5_readAmount 44 = .ok (.getfield 17, 3) := by decide +kernel
theorem dX5_readAmount_47 : decode cX5_readAmount 47 = .ok (.iaload, 1) := by decide +kernel
theorem dX5_readAmount_48 : decode cX5_readAmount 48 = .ok (.iadd, 1) := by decide +kernel
theorem dX5_readAmount_49 : decode cX5_readAmount 49 = .ok (.bipush 48, 2) := by decide +kernel
theorem dX5_readAmount_51 : decode cX5_readAmount 51 = .ok (.isub, 1) := by decide +kernel
theorem dX5_readAmount_52 : decode cX5_readAmount 52 = .ok (.sipush 1000, 3) := by decide +kernel
theorem dX5_readAmount_55 : decode cX5_readAmount 55 = .ok (.invokestatic 29, 3) := by decide +kernel
theorem dX5_readAmount_58 : decode cX5_readAmount 58 = .ok (.putfield 26, 3) := by decide +kernel
theorem dX5_readAmount_61 : decode cX5_readAmount 61 = .ok (.aload_n 0, 1) := by decide +kernel
theorem dX5_readAmount_62 : decode cX5_readAmount 62 = .ok (.dup, 1) := by decide +kernel
theorem dX5_readAmount_63 : decode cX5_readAmount 63 = .ok (.getfield 17, 3) := by decide +kernel
theorem dX5_readAmount_66 : decode cX5_readAmount 66 = .ok (.iconst 1, 1) := by decide +kernel
theorem dX5_readAmount_67 : decode cX5_readAmount 67 = .ok (.iadd, 1) := by decide +kernel
theorem dX5_readAmount_68 : decode cX5_readAmount 68 = .ok (.putfield 17, 3) := by decide +kernel
theorem dX5_readAmount_71 : decode cX5_readAmount 71 = .ok (.goto (-66), 3) := by decide +kernel
theorem dX5_readAmount_74 : decode cX5_readAmount 74 = .ok (.aload_n 0, 1) := by decide +kernel
theorem dX5_readAmount_75 : decode cX5_readAmount 75 = .ok (.getfield 7, 3) := by decide +kernel
theorem dX5_readAmount_78 : decode cX5_readAmount 78 = .ok (.aload_n 0, 1) := by decide +kernel
theorem dX5_readAmount_79 : decode cX5_readAmount 79 = .ok (.getfield 20, 3) := by decide +kernel
theorem dX5_readAmount_82 : decode cX5_readAmount 82 = .ok (.iaload, 1) := by decide +kernel
theorem dX5_readAmount_83 : decode cX5_readAmount 83 = .ok (.bipush 48, 2) := by decide +kernel
theorem dX5_readAmount_85 : decode cX5_readAmount 85 = .ok (.if_icmp .ne 20, 3) := by decide +kernel
theorem dX5_readAmount_88 : decode cX5_readAmount 88 = .ok (.aload_n 0, 1) := by decide +kernel
theorem dX5_readAmount_89 : decode cX5_readAmount 89 = .ok (.getfield 17, 3) := by decide +kernel
theorem dX5_readAmount_92 : decode cX5_readAmount 92 = .ok (.aload_n 0, 1) := by decide +kernel
theorem dX5_readAmount_93 : decode cX5_readAmount 93 = .ok (.getfield 20, 3) := by decide +kernel
theorem dX5_readAmount_96 : decode cX5_readAmount 96 = .ok (.isub, 1) := by decide +kernel
theorem dX5_readAmount_97 : decode cX5_readAmount 97 = .ok (.iconst 1, 1) := by decide +kernel
theorem dX5_readAmount_98 : decode cX5_readAmount 98 = .ok (.if_icmp .le 7, 3) := by decide +kernel
theorem dX5_readAmount_101 : decode cX5_readAmount 101 = .ok (.iconst 1, 1) := by decide +kernel
theorem dX5_readAmount_102 : decode cX5_readAmount 102 = .ok (.goto 4, 3) := by decide +kernel
theorem dX5_readAmount_105 : decode cX5_readAmount 105 = .ok (.iconst 0, 1) := by decide +kernel
theorem dX5_readAmount_106 : decode cX5_readAmount 106 = .ok (.istore_n 1, 1) := by decide +kernel
theorem dX5_readAmount_107 : decode cX5_readAmount 107 = .ok (.aload_n 0, 1) := by decide +kernel
theorem dX5_readAmount_108 : decode cX5_readAmount 108 = .ok (.iload_n 1, 1) := by decide +kernel
theorem dX5_readAmount_109 : decode cX5_readAmount 109 = .ok (.ifCond .ne 13, 3) := by decide +kernel
theorem dX5_readAmount_112 : decode cX5_readAmount 112 = .ok (.aload_n 0, 1) := by decide +kernel
theorem dX5_readAmount_113 : decode cX5_readAmount 113 = .ok (.getfield 26, 3) := by decide +kernel
theorem dX5_readAmount_116 : decode cX5_readAmount 116 = .ok (.sipush 999, 3) := by decide +kernel
theorem dX5_readAmount_119 : decode cX5_readAmount 119 = .ok (.if_icmp .le 7, 3) := by decide +kernel
theorem dX5_readAmount_122 : decode cX5_readAmount 122 = .ok (.iconst 5, 1) := by decide +kernel
theorem dX5_readAmount_123 : decode cX5_readAmount 123 = .ok (.goto 4, 3) := by decide +kernel
theorem dX5_readAmount_126 : decode cX5_readAmount 126 = .ok (.iconst 3, 1) := by decide +kernel
theorem dX5_readAmount_127 : decode cX5_readAmount 127 = .ok (.putfield 23, 3) := by decide +kernel
theorem dX5_readAmount_130 : decode cX5_readAmount 130 = .ok (.return_, 1) := by decide +kernel
set_option maxRecDepth 20000 in
theorem ggX5_isLetter_X8_within : GoodIn wsX5_isLetter wsX8_within := goodIn_r _ [3] (by decide +kernel) (by decide +kernel)
set_option maxRecDepth 20000 in
theorem gX5_isLetter_X8_within_n84 : GoodIn wsX5_isLetter (wsX8_within) := ggX5_isLetter_X8_within
theorem dX5_isLetter_0 : decode cX5_isLetter 0 = .ok (.iload_n 0, 1) := by decide +kernel
theorem dX5_isLetter_1 : decode cX5_isLetter 1 = .ok (.bipush 97, 2) := by decide +kernel
theorem dX5_isLetter_3 : decode cX5_isLetter 3 = .ok (.bipush 122, 2) := by decide +kernel
theorem dX5_isLetter_5 : decode cX5_isLetter 5 = .ok (.invokestatic 84, 3) := by decide +kernel
theorem dX5_isLetter_8 : decode cX5_isLetter 8 = .ok (.ireturn, 1) := by decide +kernel
set_option maxRecDepth 20000 in
theorem ggX5_isDigit_X8_within : GoodIn wsX5_isDigit wsX8_within := goodIn_r _ [3] (by decide +kernel) (by decide +kernel)
set_option maxRecDepth 20000 in
theorem gX5_isDigit_X8_within_n84 : GoodIn wsX5_isDigit (wsX8_within) := ggX5_isDigit_X8_within
theorem dX5_isDigit_0 : decode cX5_isDigit 0 = .ok (.iload_n 0, 1) := by decide +kernel
theorem dX5_isDigit_1 : decode cX5_isDigit 1 = .ok (.bipush 48, 2) := by decide +kernel
theorem dX5_isDigit_3 : decode cX5_isDigit 3 = .ok (.bipush 57, 2) := by decide +kernel
theorem dX5_isDigit_5 : decode cX5_isDigit 5 = .ok (.invokestatic 84, 3) := by decide +kernel
theorem dX5_isDigit_8 : decode cX5_isDigit 8 = .ok (.ireturn, 1) := by decide +kernel
theorem dX6_init_0 : decode cX6_init 0 = .ok (.aload_n 0, 1) := by decide +kernel
theorem dX6_init_1 : decode cX6_init 1 = .ok (.invokespecial 3, 3) := by decide +kernel
theorem dX6_init_4 : decode cX6_init 4 = .ok (.aload_n 0, 1) := by decide +kernel
theorem dX6_init_5 : decode cX6_init 5 = .ok (.iconst 0, 1) := by decide +kernel
theorem dX6_init_6 : decode cX6_init 6 = .ok (.putfield 9, 3) := by decide +kernel
theorem dX6_init_9 : decode cX6_init 9 = .ok (.aload_n 0, 1) := by decide +kernel
theorem dX6_init_10 : decode cX6_init 10 = .ok (.iconst 0, 1) := by decide +kernel
theorem dX6_init_11 : decode cX6_init 11 = .ok (.putfield 15, 3) := by decide +kernel
theorem dX6_init_14 : decode cX6_init 14 = .ok (.aload_n 0, 1) := by decide +kernel
theorem dX6_init_15 : decode cX6_init 15 = .ok (.iconst 0, 1) := by decide +kernel
theorem dX6_init_16 : decode cX6_init 16 = .ok (.putfield 18, 3) := by decide +kernel
theorem dX6_init_19 : decode cX6_init 19 = .ok (.aload_n 0, 1) := by decide +kernel
theorem dX6_init_20 : decode cX6_init 20 = .ok (.iconst 0, 1) := by decide +kernel
theorem dX6_init_21 : decode cX6_init 21 = .ok (.putfield 22, 3) := by decide +kernel
theorem dX6_init_24 : decode cX6_init 24 = .ok (.aload_n 0, 1) := by decide +kernel
theorem dX6_init_25 : decode cX6_init 25 = .ok (.iconst 0, 1) := by decide +kernel
theorem dX6_init_26 : decode cX6_init 26 = .ok (.putfield 25, 3) := by decide +kernel
theorem dX6_init_29 : decode cX6_init 29 = .ok (.aload_n 0, 1) := by decide +kernel
theorem dX6_init_30 : decode cX6_init 30 = .ok (.iconst 0, 1) := by decide +kernel
theorem dX6_init_31 : decode cX6_init 31 = .ok (.putfield 28, 3) := by decide +kernel
theorem dX6_init_34 : decode cX6_init 34 = .ok (.aload_n 0, 1) := by decide +kernel
theorem dX6_init_35 : decode cX6_init 35 = .ok (.iconst 0, 1) := by decide +kernel
theorem dX6_init_36 : decode cX6_init 36 = .ok (.putfield 31, 3) := by decide +kernel
theorem dX6_init_39 : decode cX6_init 39 = .ok (.aload_n 0, 1) := by decide +kernel
theorem dX6_init_40 : decode cX6_init 40 = .ok (.iconst 0, 1) := by decide +kernel
theorem dX6_init_41 : decode cX6_init 41 = .ok (.putfield 34, 3) := by decide +kernel
theorem dX6_init_44 : decode cX6_init 44 = .ok (.aload_n 0, 1) := by decide +kernel
theorem dX6_init_45 : decode cX6_init 45 = .ok (.iconst 0, 1) := by decide +kernel
theorem dX6_init_46 : decode cX6_init 46 = .ok (.putfield 37, 3) := by decide +kernel
theorem dX6_init_49 : decode cX6_init 49 = .ok (.aload_n 0, 1) := by decide +kernel
theorem dX6_init_50 : decode cX6_init 50 = .ok (.iconst 0, 1) := by decide +kernel
theorem dX6_init_51 : decode cX6_init 51 = .ok (.putfield 40, 3) := by decide +kernel
theorem dX6_init_54 : decode cX6_init 54 = .ok (.aload_n 0, 1) := by decide +kernel
theorem dX6_init_55 : decode cX6_init 55 = .ok (.bipush 6, 2) := by decide +kernel
theorem dX6_init_57 : decode cX6_init 57 = .ok (.newarray .int, 2) := by decide +kernel
theorem dX6_init_59 : decode cX6_init 59 = .ok (.putfield 43, 3) := by decide +kernel
theorem dX6_init_62 : decode cX6_init 62 = .ok (.aload_n 0, 1) := by decide +kernel
theorem dX6_init_63 : decode cX6_init 63 = .ok (.bipush 6, 2) := by decide +kernel
theorem dX6_init_65 : decode cX6_init 65 = .ok (.newarray .int, 2) := by decide +kernel
theorem dX6_init_67 : decode cX6_init 67 = .ok (.putfield 47, 3) := by decide +kernel
theorem dX6_init_70 : decode cX6_init 70 = .ok (.aload_n 0, 1) := by decide +kernel
theorem dX6_init_71 : decode cX6_init 71 = .ok (.bipush 6, 2) := by decide +kernel
theorem dX6_init_73 : decode cX6_init 73 = .ok (.newarray .int, 2) := by decide +kernel
theorem dX6_init_75 : decode cX6_init 75 = .ok (.putfield 50, 3) := by decide +kernel
theorem dX6_init_78 : decode cX6_init 78 = .ok (.return_, 1) := by decide +kernel
theorem dX6_begin_0 : decode cX6_begin 0 = .ok (.aload_n 0, 1) := by decide +kernel
theorem dX6_begin_1 : decode cX6_begin 1 = .ok (.iload_n 1, 1) := by decide +kernel
theorem dX6_begin_2 : decode cX6_begin 2 = .ok (.putfield 9, 3) := by decide +kernel
theorem dX6_begin_5 : decode cX6_begin 5 = .ok (.aload_n 0, 1) := by decide +kernel
theorem dX6_begin_6 : decode cX6_begin 6 = .ok (.iload_n 2, 1) := by decide +kernel
theorem dX6_begin_7 : decode cX6_begin 7 = .ok (.putfield 15, 3) := by decide +kernel
theorem dX6_begin_10 : decode cX6_begin 10 = .ok (.aload_n 0, 1) := by decide +kernel
theorem dX6_begin_11 : decode cX6_begin 11 = .ok (.iload_n 3, 1) := by decide +kernel
theorem dX6_begin_12 : decode cX6_begin 12 = .ok (.putfield 18, 3) := by decide +kernel
theorem dX6_begin_15 : decode cX6_begin 15 = .ok (.aload_n 0, 1) := by decide +kernel
theorem dX6_begin_16 : decode cX6_begin 16 = .ok (.iconst 0, 1) := by decide +kernel
theorem dX6_begin_17 : decode cX6_begin 17 = .ok (.putfield 22, 3) := by decide +kernel
theorem dX6_begin_20 : decode cX6_begin 20 = .ok (.aload_n 0, 1) := by decide +kernel
theorem dX6_begin_21 : decode cX6_begin 21 = .ok (.iconst 0, 1) := by decide +kernel
theorem dX6_begin_22 : decode cX6_begin 22 = .ok (.putfield 25, 3) := by decide +kernel
theorem dX6_begin_25 : decode cX6_begin 25 = .ok (.aload_n 0, 1) := by decide +kernel
theorem dX6_begin_26 : decode cX6_begin 26 = .ok (.iconst 0, 1) := by decide +kernel
theorem dX6_begin_27 : decode cX6_begin 27 = .ok (.putfield 28, 3) := by decide +kernel
theorem dX6_begin_30 : decode cX6_begin 30 = .ok (.aload_n 0, 1) := by decide +kernel
theorem dX6_begin_31 : decode cX6_begin 31 = .ok (.iconst 0, 1) := by decide +kernel
theorem dX6_begin_32 : decode cX6_begin 32 = .ok (.putfield 31, 3) := by decide +kernel
theorem dX6_begin_35 : decode cX6_begin 35 = .ok (.aload_n 0, 1) := by decide +kernel
theorem dX6_begin_36 : decode cX6_begin 36 = .ok (.iconst 0, 1) := by decide +kernel
theorem dX6_begin_37 : decode cX6_begin 37 = .ok (.putfield 34, 3) := by decide +kernel
theorem dX6_begin_40 : decode cX6_begin 40 = .ok (.aload_n 0, 1) := by decide +kernel
theorem dX6_begin_41 : decode cX6_begin 41 = .ok (.iconst 0, 1) := by decide +kernel
theorem dX6_begin_42 : decode cX6_begin 42 = .ok (.putfield 37, 3) := by decide +kernel
theorem dX6_begin_45 : decode cX6_begin 45 = .ok (.aload_n 0, 1) := by decide +kernel
theorem dX6_begin_46 : decode cX6_begin 46 = .ok (.iconst 0, 1) := by decide +kernel
theorem dX6_begin_47 : decode cX6_begin 47 = .ok (.putfield 40, 3) := by decide +kernel
theorem dX6_begin_50 : decode cX6_begin 50 = .ok (.return_, 1) := by decide +kernel
theorem dX6_copyFrom_0 : decode cX6_copyFrom 0 = .ok (.aload_n 0, 1) := by decide +kernel
theorem dX6_copyFrom_1 : decode cX6_copyFrom 1 = .ok (.aload_n 1, 1) := by decide +kernel
theorem dX6_copyFrom_2 : decode cX6_copyFrom 2 = .ok (.getfield 9, 3) := by decide +kernel
theorem dX6_copyFrom_5 : decode cX6_copyFrom 5 = .ok (.putfield 9, 3) := by decide +kernel
theorem dX6_copyFrom_8 : decode cX6_copyFrom 8 = .ok (.aload_n 0, 1) := by decide +kernel
theorem dX6_copyFrom_9 : decode cX6_copyFrom 9 = .ok (.aload_n 1, 1) := by decide +kernel
theorem dX6_copyFrom_10 : decode cX6_copyFrom 10 = .ok (.getfield 15, 3) := by decide +kernel
theorem dX6_copyFrom_13 : decode cX6_copyFrom 13 = .ok (.putfield 15, 3) := by decide +kernel
theorem dX6_copyFrom_16 : decode cX6_copyFrom 16 = .ok (.aload_n 0, 1) := by decide +kernel
theorem dX6_copyFrom_17 : decode cX6_copyFrom 17 = .ok (.aload_n 1, 1) := by decide +kernel
theorem dX6_copyFrom_18 : decode cX6_copyFrom 18 = .ok (.getfield 18, 3) := by decide +kernel
theorem dX6_copyFrom_21 : decode cX6_copyFrom 21 = .ok (.putfield 18, 3) := by decide +kernel
theorem dX6_copyFrom_24 : decode cX6_copyFrom 24 = .ok (.aload_n 0, 1) := by decide +kernel
theorem dX6_copyFrom_25 : decode cX6_copyFrom 25 = .ok (.aload_n 1, 1) := by decide +kernel
theorem dX6_copyFrom_26 : decode cX6_copyFrom 26 = .ok (.getfield 22, 3) := by decide +kernel
theorem dX6_copyFrom_29 : decode cX6_copyFrom 29 = .ok (.putfield 22, 3) := by decide +kernel
theorem dX6_copyFrom_32 : decode cX6_copyFrom 32 = .ok (.aload_n 0, 1) := by decide +kernel
theorem dX6_copyFrom_33 : decode cX6_copyFrom 33 = .ok (.aload_n 1, 1) := by decide +kernel
theorem dX6_copyFrom_34 : decode cX6_copyFrom 34 = .ok (.getfield 25, 3) := by decide +kernel
theorem dX6_copyFrom_37 : decode cX6_copyFrom 37 = .ok (.putfield 25, 3) := by decide +kernel
theorem dX6_copyFrom_40 : decode cX6_copyFrom 40 = .ok (.aload_n 0, 1) := by decide +kernel
theorem dX6_copyFrom_41 : decode cX6_copyFrom 41 = .ok (.aload_n 1, 1) := by decide +kernel
theorem dX6_copyFrom_42 : decode cX6_copyFrom 42 = .ok (.getfield 28, 3) := by decide +kernel
theorem dX6_copyFrom_45 : decode cX6_copyFrom 45 = .ok (.putfield 28, 3) := by decide +kernel
theorem dX6_copyFrom_48 : decode cX6_copyFrom 48 = .ok (.aload_n 0, 1) := by decide +kernel
theorem dX6_copyFrom_49 : decode cX6_copyFrom 49 = .ok (.aload_n 1, 1) := by decide +kernel
theorem dX6_copyFrom_50 : decode cX6_copyFrom 50 = .ok (.getfield 31, 3) := by decide +kernel
theorem dX6_copyFrom_53 : decode cX6_copyFrom 53 = .ok (.putfield 31, 3) := by decide +kernel
theorem dX6_copyFrom_56 : decode cX6_copyFrom 56 = .ok (.aload_n 0, 1) := by decide +kernel
theorem dX6_copyFrom_57 : decode cX6_copyFrom 57 = .ok (.aload_n 1, 1) := by decide +kernel
theorem dX6_copyFrom_58 : decode cX6_copyFrom 58 = .ok (.getfield 34, 3) := by decide +kernel
theorem dX6_copyFrom_61 : decode cX6_copyFrom 61 = .ok (.putfield 34, 3) := by decide +kernel
theorem dX6_copyFrom_64 : decode cX6_copyFrom 64 = .ok (.aload_n 0, 1) := by decide +kernel
theorem dX6_copyFrom_65 : decode cX6_copyFrom 65 = .ok (.aload_n 1, 1) := by decide +kernel
theorem dX6_copyFrom_66 : decode cX6_copyFrom 66 = .ok (.getfield 37, 3) := by decide +kernel
theorem dX6_copyFrom_69 : decode cX6_copyFrom 69 = .ok (.putfield 37, 3) := by decide +kernel
theorem dX6_copyFrom_72 : decode cX6_copyFrom 72 = .ok (.aload_n 0, 1) := by decide +kernel
theorem dX6_copyFrom_73 : decode cX6_copyFrom 73 = .ok (.aload_n 1, 1) := by decide +kernel
theorem dX6_copyFrom_74 : decode cX6_copyFrom 74 = .ok (.getfield 40, 3) := by decide +kernel
theorem dX6_copyFrom_77 : decode cX6_copyFrom 77 = .ok (.putfield 40, 3) := by decide +kernel
theorem dX6_copyFrom_80 : decode cX6_copyFrom 80 = .ok (.aload_n 1, 1) := by decide +kernel
theorem dX6_copyFrom_81 : decode cX6_copyFrom 81 = .ok (.getfield 43, 3) := by decide +kernel
theorem dX6_copyFrom_84 : decode cX6_copyFrom 84 = .ok (.iconst 0, 1) := by decide +kernel
theorem dX6_copyFrom_85 : decode cX6_copyFrom 85 = .ok (.aload_n 0, 1) := by decide +kernel
theorem dX6_copyFrom_86 : decode cX6_copyFrom 86 = .ok (.getfield 43, 3) := by decide +kernel
theorem dX6_copyFrom_89 : decode cX6_copyFrom 89 = .ok (.iconst 0, 1) := by decide +kernel
theorem dX6_copyFrom_90 : decode cX6_copyFrom 90 = .ok (.bipush 6, 2) := by decide +kernel
theorem dX6_copyFrom_92 : decode cX6_copyFrom 92 = .ok (.invokestatic 53, 3) := by decide +kernel
theorem dX6_copyFrom_95 : decode cX6_copyFrom 95 = .ok (.aload_n 1, 1) := by decide +kernel
theorem dX6_copyFrom_96 : decode cX6_copyFrom 96 = .ok (.getfield 47, 3) := by decide +kernel
theorem dX6_copyFrom_99 : decode cX6_copyFrom 99 = .ok (.iconst 0, 1) := by decide +kernel
theorem dX6_copyFrom_100 : decode cX6_copyFrom 100 = .ok (.aload_n 0, 1) := by decide +kernel
theorem dX6_copyFrom_101 : decode cX6_copyFrom 101 = .ok (.getfield 47, 3) := by decide +kernel
theorem dX6_copyFrom_104 : decode cX6_copyFrom 104 = .ok (.iconst 0, 1) := by decide +kernel
theorem dX6_copyFrom_105 : decode cX6_copyFrom 105 = .ok (.bipush 6, 2) := by decide +kernel
theorem dX6_copyFrom_107 : decode cX6_copyFrom 107 = .ok (.invokestatic 53, 3) := by decide +kernel
theorem dX6_copyFrom_110 : decode cX6_copyFrom 110 = .ok (.aload_n 1, 1) := by decide +kernel
theorem dX6_copyFrom_111 : decode cX6_copyFrom 111 = .ok (.getfield 50, 3) := by decide +kernel
theorem dX6_copyFrom_114 : decode cX6_copyFrom 114 = .ok (.iconst 0, 1) := by decide +kernel
theorem dX6_copyFrom_115 : decode cX6_copyFrom 115 = .ok (.aload_n 0, 1) := by decide +kernel
theorem dX6_copyFrom_116 : decode cX6_copyFrom 116 = .ok (.getfield 50, 3) := by decide +kernel
theorem dX6_copyFrom_119 : decode cX6_copyFrom 119 = .ok (.iconst 0, 1) := by decide +kernel
theorem dX6_copyFrom_120 : decode cX6_copyFrom 120 = .ok (.bipush 6, 2) := by decide +kernel
theorem dX6_copyFrom_122 : decode cX6_copyFrom 122 = .ok (.invokestatic 53, 3) := by decide +kernel
theorem dX6_copyFrom_125 : decode cX6_copyFrom 125 = .ok (.return_, 1) := by decide +kernel
set_option maxRecDepth 20000 in
theorem ggX6_takePush_X6_lookWhetherItFalls : GoodIn wsX6_takePush wsX6_lookWhetherItFalls := goodIn_r _ [6, 1, 7, 8, 9, 10, 11, 12, 13, 14, 15, 16, 17, 18, 19, 20] (by decide +kernel) (by decide +kernel)
set_option maxRecDepth 20000 in
theorem gX6_takePush_X6_lookWhetherItFalls : GoodIn wsX6_takePush (wsV RX6 59 RX6 yX6_lookWhetherItFalls wsX6_lookWhetherItFalls) := goodIn_app (goodIn_of _ (by decide +kernel)) ggX6_takePush_X6_lookWhetherItFalls
theorem dX6_takePush_0 : decode cX6_takePush 0 = .ok (.aload_n 0, 1) := by decide +kernel
theorem dX6_takePush_1 : decode cX6_takePush 1 = .ok (.dup, 1) := by decide +kernel
theorem dX6_takePush_2 : decode cX6_takePush 2 = .ok (.getfield 22, 3) := by decide +kernel
theorem dX6_takePush_5 : decode cX6_takePush 5 = .ok (.iload_n 1, 1) := by decide +kernel
theorem dX6_takePush_6 : decode cX6_takePush 6 = .ok (.iadd, 1) := by decide +kernel
theorem dX6_takePush_7 : decode cX6_takePush 7 = .ok (.putfield 22, 3) := by decide +kernel
theorem dX6_takePush_10 : decode cX6_takePush 10 = .ok (.aload_n 0, 1) := by decide +kernel
theorem dX6_takePush_11 : decode cX6_takePush 11 = .ok (.invokevirtual 59, 3) := by decide +kernel
theorem dX6_takePush_14 : decode cX6_takePush 14 = .ok (.return_, 1) := by decide +kernel
set_option maxRecDepth 20000 in
theorem ggX6_goOn_X6_doTick : GoodIn wsX6_goOn wsX6_doTick := goodIn_r _ [6, 7, 8, 9, 10, 11, 12, 13, 14, 15, 16, 17, 18, 19, 20, 21, 5, 22, 23, 24, 25, 26, 27, 28, 29, 30, 31, 32, 33, 34, 35, 36, 37, 38, 39, 40, 41, 42, 43, 44, 45, 1, 46, 47, 48, 49, 50, 51, 52, 53, 54, 55, 56, 57, 58, 59, 60, 61] (by decide +kernel) (by decide +kernel)
set_option maxRecDepth 20000 in
theorem gX6_goOn_X6_doTick : GoodIn wsX6_goOn (wsV RX6 62 RX6 yX6_doTick wsX6_doTick) := goodIn_app (goodIn_of _ (by decide +kernel)) ggX6_goOn_X6_doTick
theorem dX6_goOn_0 : decode cX6_goOn 0 = .ok (.iconst 0, 1) := by decide +kernel
theorem dX6_goOn_1 : decode cX6_goOn 1 = .ok (.istore 4, 2) := by decide +kernel
theorem dX6_goOn_3 : decode cX6_goOn 3 = .ok (.iload 4, 2) := by decide +kernel
theorem dX6_goOn_5 : decode cX6_goOn 5 = .ok (.iload_n 1, 1) := by decide +kernel
theorem dX6_goOn_6 : decode cX6_goOn 6 = .ok (.if_icmp .ge 22, 3) := by decide +kernel
theorem dX6_goOn_9 : decode cX6_goOn 9 = .ok (.aload_n 0, 1) := by decide +kernel
theorem dX6_goOn_10 : decode cX6_goOn 10 = .ok (.getfield 40, 3) := by decide +kernel
theorem dX6_goOn_13 : decode cX6_goOn 13 = .ok (.ifCond .ne 15, 3) := by decide +kernel
theorem dX6_goOn_16 : decode cX6_goOn 16 = .ok (.aload_n 0, 1) := by decide +kernel
theorem dX6_goOn_17 : decode cX6_goOn 17 = .ok (.aload_n 2, 1) := by decide +kernel
theorem dX6_goOn_18 : decode cX6_goOn 18 = .ok (.aload_n 3, 1) := by decide +kernel
theorem dX6_goOn_19 : decode cX6_goOn 19 = .ok (.invokevirtual 62, 3) := by decide +kernel
theorem dX6_goOn_22 : decode cX6_goOn 22 = .ok (.iinc 4 1, 3) := by decide +kernel
theorem dX6_goOn_25 : decode cX6_goOn 25 = .ok (.goto (-22), 3) := by decide +kernel
theorem dX6_goOn_28 : decode cX6_goOn 28 = .ok (.iload 4, 2) := by decide +kernel
theorem dX6_goOn_30 : decode cX6_goOn 30 = .ok (.ireturn, 1) := by decide +kernel
set_option maxRecDepth 20000 in
theorem ggX6_doTick_X6_remember : GoodIn wsX6_doTick wsX6_remember := goodIn_r _ [17, 12, 18, 7, 19, 10, 20, 8, 21, 22, 23, 24, 42, 43, 44, 45, 46, 47, 48, 49, 50, 51, 52, 53, 54] (by decide +kernel) (by decide +kernel)
set_option maxRecDepth 20000 in
theorem gX6_doTick_X6_remember : GoodIn wsX6_doTick (wsV RX6 66 RX6 yX6_remember wsX6_remember) := goodIn_app (goodIn_of _ (by decide +kernel)) ggX6_doTick_X6_remember
set_option maxRecDepth 20000 in
theorem ggX6_doTick_X6_handOf : GoodIn wsX6_doTick wsX6_handOf := goodIn_r _ [28, 12, 18, 19, 20, 29, 21, 22, 23, 24, 30, 31, 32, 33, 34, 4, 35, 36, 3, 5, 42, 43, 44, 45, 46, 47, 48, 49, 50, 51, 52, 53, 54, 56, 57] (by decide +kernel) (by decide +kernel)
set_option maxRecDepth 20000 in
theorem gX6_doTick_X6_handOf : GoodIn wsX6_doTick (wsV RX6 69 RX6 yX6_handOf wsX6_handOf) := goodIn_app (goodIn_of _ (by decide +kernel)) ggX6_doTick_X6_handOf
set_option maxRecDepth 20000 in
theorem ggX6_doTick_X8_clamp : GoodIn wsX6_doTick wsX8_clamp := goodIn_r _ [32, 33, 34, 4, 35, 36, 3, 5] (by decide +kernel) (by decide +kernel)
set_option maxRecDepth 20000 in
theorem gX6_doTick_X8_clamp_n85 : GoodIn wsX6_doTick (wsX8_clamp) := ggX6_doTick_X8_clamp
set_option maxRecDepth 20000 in
theorem ggX6_doTick_X6_lookWhetherItFalls : GoodIn wsX6_doTick wsX6_lookWhetherItFalls := goodIn_r _ [40, 7, 41, 42, 43, 44, 45, 46, 47, 48, 49, 50, 51, 52, 53, 54] (by decide +kernel) (by decide +kernel)
set_option maxRecDepth 20000 in
theorem gX6_doTick_X6_lookWhetherItFalls : GoodIn wsX6_doTick (wsV RX6 59 RX6 yX6_lookWhetherItFalls wsX6_lookWhetherItFalls) := goodIn_app (goodIn_of _ (by decide +kernel)) ggX6_doTick_X6_lookWhetherItFalls
theorem dX6_doTick_0 : decode cX6_doTick 0 = .ok (.aload_n 0, 1) := by decide +kernel
theorem dX6_doTick_1 : decode cX6_doTick 1 = .ok (.invokevirtual 66, 3) := by decide +kernel
theorem dX6_doTick_4 : decode cX6_doTick 4 = .ok (.aload_n 0, 1) := by decide +kernel
theorem dX6_doTick_5 : decode cX6_doTick 5 = .ok (.aload_n 0, 1) := by decide +kernel
theorem dX6_doTick_6 : decode cX6_doTick 6 = .ok (.aload_n 2, 1) := by decide +kernel
theorem dX6_doTick_7 : decode cX6_doTick 7 = .ok (.invokevirtual 69, 3) := by decide +kernel
theorem dX6_doTick_10 : decode cX6_doTick 10 = .ok (.putfield 34, 3) := by decide +kernel
theorem dX6_doTick_13 : decode cX6_doTick 13 = .ok (.aload_n 1, 1) := by decide +kernel
theorem dX6_doTick_14 : decode cX6_doTick 14 = .ok (.getfield 73, 3) := by decide +kernel
theorem dX6_doTick_17 : decode cX6_doTick 17 = .ok (.astore_n 3, 1) := by decide +kernel
theorem dX6_doTick_18 : decode cX6_doTick 18 = .ok (.iconst 1, 1) := by decide +kernel
theorem dX6_doTick_19 : decode cX6_doTick 19 = .ok (.aload_n 3, 1) := by decide +kernel
theorem dX6_doTick_20 : decode cX6_doTick 20 = .ok (.iconst 4, 1) := by decide +kernel
theorem dX6_doTick_21 : decode cX6_doTick 21 = .ok (.iaload, 1) := by decide +kernel
theorem dX6_doTick_22 : decode cX6_doTick 22 = .ok (.invokestatic 78, 3) := by decide +kernel
theorem dX6_doTick_25 : decode cX6_doTick 25 = .ok (.istore 4, 2) := by decide +kernel
theorem dX6_doTick_27 : decode cX6_doTick 27 = .ok (.aload_n 0, 1) := by decide +kernel
theorem dX6_doTick_28 : decode cX6_doTick 28 = .ok (.getfield 15, 3) := by decide +kernel
theorem dX6_doTick_31 : decode cX6_doTick 31 = .ok (.aload_n 0, 1) := by decide +kernel
theorem dX6_doTick_32 : decode cX6_doTick 32 = .ok (.getfield 15, 3) := by decide +kernel
theorem dX6_doTick_35 : decode cX6_doTick 35 = .ok (.imul, 1) := by decide +kernel
theorem dX6_doTick_36 : decode cX6_doTick 36 = .ok (.istore 5, 2) := by decide +kernel
theorem dX6_doTick_38 : decode cX6_doTick 38 = .ok (.aload_n 3, 1) := by decide +kernel
theorem dX6_doTick_39 : decode cX6_doTick 39 = .ok (.iconst 0, 1) := by decide +kernel
theorem dX6_doTick_40 : decode cX6_doTick 40 = .ok (.iaload, 1) := by decide +kernel
theorem dX6_doTick_41 : decode cX6_doTick 41 = .ok (.aload_n 0, 1) := by decide +kernel
theorem dX6_doTick_42 : decode cX6_doTick 42 = .ok (.getfield 15, 3) := by decide +kernel
theorem dX6_doTick_45 : decode cX6_doTick 45 = .ok (.imul, 1) := by decide +kernel
theorem dX6_doTick_46 : decode cX6_doTick 46 = .ok (.istore 6, 2) := by decide +kernel
theorem dX6_doTick_48 : decode cX6_doTick 48 = .ok (.aload_n 3, 1) := by decide +kernel
theorem dX6_doTick_49 : decode cX6_doTick 49 = .ok (.iconst 1, 1) := by decide +kernel
theorem dX6_doTick_50 : decode cX6_doTick 50 = .ok (.iaload, 1) := by decide +kernel
theorem dX6_doTick_51 : decode cX6_doTick 51 = .ok (.istore 7, 2) := by decide +kernel
theorem dX6_doTick_53 : decode cX6_doTick 53 = .ok (.aload_n 3, 1) := by decide +kernel
theorem dX6_doTick_54 : decode cX6_doTick 54 = .ok (.iconst 3, 1) := by decide +kernel
theorem dX6_doTick_55 : decode cX6_doTick 55 = .ok (.iaload, 1) := by decide +kernel
theorem dX6_doTick_56 : decode cX6_doTick 56 = .ok (.aload_n 0, 1) := by decide +kernel
theorem dX6_doTick_57 : decode cX6_doTick 57 = .ok (.getfield 22, 3) := by decide +kernel
theorem dX6_doTick_60 : decode cX6_doTick 60 = .ok (.imul, 1) := by decide +kernel
theorem dX6_doTick_61 : decode cX6_doTick 61 = .ok (.iload 5, 2) := by decide +kernel
theorem dX6_doTick_63 : decode cX6_doTick 63 = .ok (.aload_n 0, 1) := by decide +kernel
theorem dX6_doTick_64 : decode cX6_doTick 64 = .ok (.getfield 25, 3) := by decide +kernel
theorem dX6_doTick_67 : decode cX6_doTick 67 = .ok (.imul, 1) := by decide +kernel
theorem dX6_doTick_68 : decode cX6_doTick 68 = .ok (.iload 4, 2) := by decide +kernel
theorem dX6_doTick_70 : decode cX6_doTick 70 = .ok (.idiv, 1) := by decide +kernel
theorem dX6_doTick_71 : decode cX6_doTick 71 = .ok (.isub, 1) := by decide +kernel
theorem dX6_doTick_72 : decode cX6_doTick 72 = .ok (.iload 6, 2) := by decide +kernel
theorem dX6_doTick_74 : decode cX6_doTick 74 = .ok (.aload_n 0, 1) := by decide +kernel
theorem dX6_doTick_75 : decode cX6_doTick 75 = .ok (.getfield 31, 3) := by decide +kernel
theorem dX6_doTick_78 : decode cX6_doTick 78 = .ok (.imul, 1) := by decide +kernel
theorem dX6_doTick_79 : decode cX6_doTick 79 = .ok (.bipush 10, 2) := by decide +kernel
theorem dX6_doTick_81 : decode cX6_doTick 81 = .ok (.idiv, 1) := by decide +kernel
theorem dX6_doTick_82 : decode cX6_doTick 82 = .ok (.isub, 1) := by decide +kernel
theorem dX6_doTick_83 : decode cX6_doTick 83 = .ok (.istore 8, 2) := by decide +kernel
theorem dX6_doTick_85 : decode cX6_doTick 85 = .ok (.iload 7, 2) := by decide +kernel
theorem dX6_doTick_87 : decode cX6_doTick 87 = .ok (.aload_n 3, 1) := by decide +kernel
theorem dX6_doTick_88 : decode cX6_doTick 88 = .ok (.iconst 2, 1) := by decide +kernel
theorem dX6_doTick_89 : decode cX6_doTick 89 = .ok (.iaload, 1) := by decide +kernel
theorem dX6_doTick_90 : decode cX6_doTick 90 = .ok (.iadd, 1) := by decide +kernel
theorem dX6_doTick_91 : decode cX6_doTick 91 = .ok (.aload_n 0, 1) := by decide +kernel
theorem dX6_doTick_92 : decode cX6_doTick 92 = .ok (.getfield 22, 3) := by decide +kernel
theorem dX6_doTick_95 : decode cX6_doTick 95 = .ok (.imul, 1) := by decide +kernel
theorem dX6_doTick_96 : decode cX6_doTick 96 = .ok (.iload 6, 2) := by decide +kernel
theorem dX6_doTick_98 : decode cX6_doTick 98 = .ok (.aload_n 0, 1) := by decide +kernel
theorem dX6_doTick_99 : decode cX6_doTick 99 = .ok (.getfield 28, 3) := by decide +kernel
theorem dX6_doTick_102 : decode cX6_doTick 102 = .ok (.imul, 1) := by decide +kernel
theorem dX6_doTick_103 : decode cX6_doTick 103 = .ok (.bipush 10, 2) := by decide +kernel
theorem dX6_doTick_105 : decode cX6_doTick 105 = .ok (.idiv, 1) := by decide +kernel
theorem dX6_doTick_106 : decode cX6_doTick 106 = .ok (.iadd, 1) := by decide +kernel
theorem dX6_doTick_107 : decode cX6_doTick 107 = .ok (.iload 7, 2) := by decide +kernel
theorem dX6_doTick_109 : decode cX6_doTick 109 = .ok (.iload 5, 2) := by decide +kernel
theorem dX6_doTick_111 : decode cX6_doTick 111 = .ok (.imul, 1) := by decide +kernel
theorem dX6_doTick_112 : decode cX6_doTick 112 = .ok (.aload_n 0, 1) := by decide +kernel
theorem dX6_doTick_113 : decode cX6_doTick 113 = .ok (.getfield 25, 3) := by decide +kernel
theorem dX6_doTick_116 : decode cX6_doTick 116 = .ok (.imul, 1) := by decide +kernel
theorem dX6_doTick_117 : decode cX6_doTick 117 = .ok (.bipush 10, 2) := by decide +kernel
theorem dX6_doTick_119 : decode cX6_doTick 119 = .ok (.iload 4, 2) := by decide +kernel
theorem dX6_doTick_121 : decode cX6_doTick 121 = .ok (.imul, 1) := by decide +kernel
theorem dX6_doTick_122 : decode cX6_doTick 122 = .ok (.idiv, 1) := by decide +kernel
theorem dX6_doTick_123 : decode cX6_doTick 123 = .ok (.isub, 1) := by decide +kernel
theorem dX6_doTick_124 : decode cX6_doTick 124 = .ok (.aload_n 3, 1) := by decide +kernel
theorem dX6_doTick_125 : decode cX6_doTick 125 = .ok (.iconst 5, 1) := by decide +kernel
theorem dX6_doTick_126 : decode cX6_doTick 126 = .ok (.iaload, 1) := by decide +kernel
theorem dX6_doTick_127 : decode cX6_doTick 127 = .ok (.aload_n 0, 1) := by decide +kernel
theorem dX6_doTick_128 : decode cX6_doTick 128 = .ok (.getfield 31, 3) := by decide +kernel
theorem dX6_doTick_131 : decode cX6_doTick 131 = .ok (.imul, 1) := by decide +kernel
theorem dX6_doTick_132 : decode cX6_doTick 132 = .ok (.isub, 1) := by decide +kernel
theorem dX6_doTick_133 : decode cX6_doTick 133 = .ok (.aload_n 0, 1) := by decide +kernel
theorem dX6_doTick_134 : decode cX6_doTick 134 = .ok (.getfield 34, 3) := by decide +kernel
theorem dX6_doTick_137 : decode cX6_doTick 137 = .ok (.iadd, 1) := by decide +kernel
theorem dX6_doTick_138 : decode cX6_doTick 138 = .ok (.istore 9, 2) := by decide +kernel
theorem dX6_doTick_140 : decode cX6_doTick 140 = .ok (.aload_n 0, 1) := by decide +kernel
theorem dX6_doTick_141 : decode cX6_doTick 141 = .ok (.aload_n 0, 1) := by decide +kernel
theorem dX6_doTick_142 : decode cX6_doTick 142 = .ok (.getfield 28, 3) := by decide +kernel
theorem dX6_doTick_145 : decode cX6_doTick 145 = .ok (.iload 8, 2) := by decide +kernel
theorem dX6_doTick_147 : decode cX6_doTick 147 = .ok (.bipush 20, 2) := by decide +kernel
theorem dX6_doTick_149 : decode cX6_doTick 149 = .ok (.idiv, 1) := by decide +kernel
theorem dX6_doTick_150 : decode cX6_doTick 150 = .ok (.iadd, 1) := by decide +kernel
theorem dX6_doTick_151 : decode cX6_doTick 151 = .ok (.ldc 84, 2) := by decide +kernel
theorem dX6_doTick_153 : decode cX6_doTick 153 = .ok (.invokestatic 85, 3) := by decide +kernel
theorem dX6_doTick_156 : decode cX6_doTick 156 = .ok (.putfield 28, 3) := by decide +kernel
theorem dX6_doTick_159 : decode cX6_doTick 159 = .ok (.aload_n 0, 1) := by decide +kernel
theorem dX6_doTick_160 : decode cX6_doTick 160 = .ok (.aload_n 0, 1) := by decide +kernel
theorem dX6_doTick_161 : decode cX6_doTick 161 = .ok (.getfield 31, 3) := by decide +kernel
theorem dX6_doTick_164 : decode cX6_doTick 164 = .ok (.iload 9, 2) := by decide +kernel
theorem dX6_doTick_166 : decode cX6_doTick 166 = .ok (.bipush 20, 2) := by decide +kernel
theorem dX6_doTick_168 : decode cX6_doTick 168 = .ok (.idiv, 1) := by decide +kernel
theorem dX6_doTick_169 : decode cX6_doTick 169 = .ok (.iadd, 1) := by decide +kernel
theorem dX6_doTick_170 : decode cX6_doTick 170 = .ok (.ldc 84, 2) := by decide +kernel
theorem dX6_doTick_172 : decode cX6_doTick 172 = .ok (.invokestatic 85, 3) := by decide +kernel
theorem dX6_doTick_175 : decode cX6_doTick 175 = .ok (.putfield 31, 3) := by decide +kernel
theorem dX6_doTick_178 : decode cX6_doTick 178 = .ok (.aload_n 0, 1) := by decide +kernel
theorem dX6_doTick_179 : decode cX6_doTick 179 = .ok (.dup, 1) := by decide +kernel
theorem dX6_doTick_180 : decode cX6_doTick 180 = .ok (.getfield 22, 3) := by decide +kernel
theorem dX6_doTick_183 : decode cX6_doTick 183 = .ok (.aload_n 0, 1) := by decide +kernel
theorem dX6_doTick_184 : decode cX6_doTick 184 = .ok (.getfield 28, 3) := by decide +kernel
theorem dX6_doTick_187 : decode cX6_doTick 187 = .ok (.bipush 20, 2) := by decide +kernel
theorem dX6_doTick_189 : decode cX6_doTick 189 = .ok (.idiv, 1) := by decide +kernel
theorem dX6_doTick_190 : decode cX6_doTick 190 = .ok (.iadd, 1) := by decide +kernel
theorem dX6_doTick_191 : decode cX6_doTick 191 = .ok (.putfield 22, 3) := by decide +kernel
theorem dX6_doTick_194 : decode cX6_doTick 194 = .ok (.aload_n 0, 1) := by decide +kernel
theorem dX6_doTick_195 : decode cX6_doTick 195 = .ok (.aload_n 0, 1) := by decide +kernel
theorem dX6_doTick_196 : decode cX6_doTick 196 = .ok (.getfield 25, 3) := by decide +kernel
theorem dX6_doTick_199 : decode cX6_doTick 199 = .ok (.aload_n 0, 1) := by decide +kernel
theorem dX6_doTick_200 : decode cX6_doTick 200 = .ok (.getfield 31, 3) := by decide +kernel
theorem dX6_doTick_203 : decode cX6_doTick 203 = .ok (.bipush 20, 2) := by decide +kernel
theorem dX6_doTick_205 : decode cX6_doTick 205 = .ok (.idiv, 1) := by decide +kernel
theorem dX6_doTick_206 : decode cX6_doTick 206 = .ok (.iadd, 1) := by decide +kernel
theorem dX6_doTick_207 : decode cX6_doTick 207 = .ok (.sipush 10000, 3) := by decide +kernel
theorem dX6_doTick_210 : decode cX6_doTick 210 = .ok (.invokestatic 85, 3) := by decide +kernel
theorem dX6_doTick_213 : decode cX6_doTick 213 = .ok (.putfield 25, 3) := by decide +kernel
theorem dX6_doTick_216 : decode cX6_doTick 216 = .ok (.aload_n 0, 1) := by decide +kernel
theorem dX6_doTick_217 : decode cX6_doTick 217 = .ok (.dup, 1) := by decide +kernel
theorem dX6_doTick_218 : decode cX6_doTick 218 = .ok (.getfield 37, 3) := by decide +kernel
theorem dX6_doTick_221 : decode cX6_doTick 221 = .ok (.iconst 1, 1) := by decide +kernel
theorem dX6_doTick_222 : decode cX6_doTick 222 = .ok (.iadd, 1) := by decide +kernel
theorem dX6_doTick_223 : decode cX6_doTick 223 = .ok (.putfield 37, 3) := by decide +kernel
theorem dX6_doTick_226 : decode cX6_doTick 226 = .ok (.aload_n 0, 1) := by decide +kernel
theorem dX6_doTick_227 : decode cX6_doTick 227 = .ok (.invokevirtual 59, 3) := by decide +kernel
theorem dX6_doTick_230 : decode cX6_doTick 230 = .ok (.return_, 1) := by decide +kernel
set_option maxRecDepth 20000 in
theorem ggX6_remember_J9_floorMod_7cf53 : GoodIn wsX6_remember wsJ9_floorMod_7cf53 := goodIn_r _ [11] (by decide +kernel) (by decide +kernel)
set_option maxRecDepth 20000 in
theorem gX6_remember_J9_floorMod_7cf53 : GoodIn wsX6_remember (va_wsS RX6 88 yJ9_floorMod_7cf53 wsJ9_floorMod_7cf53) := goodIn_app (goodIn_of _ (by decide +kernel)) ggX6_remember_J9_floorMod_7cf53
theorem dX6_remember_0 : decode cX6_remember 0 = .ok (.aload_n 0, 1) := by decide +kernel
theorem dX6_remember_1 : decode cX6_remember 1 = .ok (.getfield 37, 3) := by decide +kernel
theorem dX6_remember_4 : decode cX6_remember 4 = .ok (.bipush 6, 2) := by decide +kernel
theorem dX6_remember_6 : decode cX6_remember 6 = .ok (.invokestatic 88, 3) := by decide +kernel
theorem dX6_remember_9 : decode cX6_remember 9 = .ok (.istore_n 1, 1) := by decide +kernel
theorem dX6_remember_10 : decode cX6_remember 10 = .ok (.aload_n 0, 1) := by decide +kernel
theorem dX6_remember_11 : decode cX6_remember 11 = .ok (.getfield 43, 3) := by decide +kernel
theorem dX6_remember_14 : decode cX6_remember 14 = .ok (.iload_n 1, 1) := by decide +kernel
theorem dX6_remember_15 : decode cX6_remember 15 = .ok (.aload_n 0, 1) := by decide +kernel
theorem dX6_remember_16 : decode cX6_remember 16 = .ok (.getfield 22, 3) := by decide +kernel
theorem dX6_remember_19 : decode cX6_remember 19 = .ok (.iastore, 1) := by decide +kernel
theorem dX6_remember_20 : decode cX6_remember 20 = .ok (.aload_n 0, 1) := by decide +kernel
theorem dX6_remember_21 : decode cX6_remember 21 = .ok (.getfield 47, 3) := by decide +kernel
theorem dX6_remember_24 : decode cX6_remember 24 = .ok (.iload_n 1, 1) := by decide +kernel
theorem dX6_remember_25 : decode cX6_remember 25 = .ok (.aload_n 0, 1) := by decide +kernel
theorem dX6_remember_26 : decode cX6_remember 26 = .ok (.getfield 28, 3) := by decide +kernel
theorem dX6_remember_29 : decode cX6_remember 29 = .ok (.iastore, 1) := by decide +kernel
theorem dX6_remember_30 : decode cX6_remember 30 = .ok (.aload_n 0, 1) := by decide +kernel
theorem dX6_remember_31 : decode cX6_remember 31 = .ok (.getfield 50, 3) := by decide +kernel
theorem dX6_remember_34 : decode cX6_remember 34 = .ok (.iload_n 1, 1) := by decide +kernel
theorem dX6_remember_35 : decode cX6_remember 35 = .ok (.aload_n 0, 1) := by decide +kernel
theorem dX6_remember_36 : decode cX6_remember 36 = .ok (.getfield 25, 3) := by decide +kernel
theorem dX6_remember_39 : decode cX6_remember 39 = .ok (.iastore, 1) := by decide +kernel
theorem dX6_remember_40 : decode cX6_remember 40 = .ok (.return_, 1) := by decide +kernel
set_option maxRecDepth 20000 in
theorem ggX6_handOf_J9_floorMod_7cf53 : GoodIn wsX6_handOf wsJ9_floorMod_7cf53 := goodIn_r _ [9] (by decide +kernel) (by decide +kernel)
set_option maxRecDepth 20000 in
theorem gX6_handOf_J9_floorMod_7cf53 : GoodIn wsX6_handOf (va_wsS RX6 88 yJ9_floorMod_7cf53 wsJ9_floorMod_7cf53) := goodIn_app (goodIn_of _ (by decide +kernel)) ggX6_handOf_J9_floorMod_7cf53
set_option maxRecDepth 20000 in
theorem ggX6_handOf_X8_clamp : GoodIn wsX6_handOf wsX8_clamp := goodIn_r _ [12, 13, 14, 15, 16, 17, 18, 19] (by decide +kernel) (by decide +kernel)
set_option maxRecDepth 20000 in
theorem gX6_handOf_X8_clamp_n85 : GoodIn wsX6_handOf (wsX8_clamp) := ggX6_handOf_X8_clamp
theorem dX6_handOf_0 : decode cX6_handOf 0 = .ok (.aload_n 0, 1) := by decide +kernel
theorem dX6_handOf_1 : decode cX6_handOf 1 = .ok (.getfield 37, 3) := by decide +kernel
theorem dX6_handOf_4 : decode cX6_handOf 4 = .ok (.aload_n 1, 1) := by decide +kernel
theorem dX6_handOf_5 : decode cX6_handOf 5 = .ok (.getfield 91, 3) := by decide +kernel
theorem dX6_handOf_8 : decode cX6_handOf 8 = .ok (.iconst 3, 1) := by decide +kernel
theorem dX6_handOf_9 : decode cX6_handOf 9 = .ok (.iaload, 1) := by decide +kernel
theorem dX6_handOf_10 : decode cX6_handOf 10 = .ok (.isub, 1) := by decide +kernel
theorem dX6_handOf_11 : decode cX6_handOf 11 = .ok (.istore_n 2, 1) := by decide +kernel
theorem dX6_handOf_12 : decode cX6_handOf 12 = .ok (.iload_n 2, 1) := by decide +kernel
theorem dX6_handOf_13 : decode cX6_handOf 13 = .ok (.ifCond .ge 5, 3) := by decide +kernel
theorem dX6_handOf_16 : decode cX6_handOf 16 = .ok (.iconst 0, 1) := by decide +kernel
theorem dX6_handOf_17 : decode cX6_handOf 17 = .ok (.ireturn, 1) := by decide +kernel
theorem dX6_handOf_18 : decode cX6_handOf 18 = .ok (.iload_n 2, 1) := by decide +kernel
theorem dX6_handOf_19 : decode cX6_handOf 19 = .ok (.bipush 6, 2) := by decide +kernel
theorem dX6_handOf_21 : decode cX6_handOf 21 = .ok (.invokestatic 88, 3) := by decide +kernel
theorem dX6_handOf_24 : decode cX6_handOf 24 = .ok (.istore_n 3, 1) := by decide +kernel
theorem dX6_handOf_25 : decode cX6_handOf 25 = .ok (.aload_n 1, 1) := by decide +kernel
theorem dX6_handOf_26 : decode cX6_handOf 26 = .ok (.getfield 91, 3) := by decide +kernel
theorem dX6_handOf_29 : decode cX6_handOf 29 = .ok (.iconst 0, 1) := by decide +kernel
theorem dX6_handOf_30 : decode cX6_handOf 30 = .ok (.iaload, 1) := by decide +kernel
theorem dX6_handOf_31 : decode cX6_handOf 31 = .ok (.aload_n 0, 1) := by decide +kernel
theorem dX6_handOf_32 : decode cX6_handOf 32 = .ok (.getfield 43, 3) := by decide +kernel
theorem dX6_handOf_35 : decode cX6_handOf 35 = .ok (.iload_n 3, 1) := by decide +kernel
theorem dX6_handOf_36 : decode cX6_handOf 36 = .ok (.iaload, 1) := by decide +kernel
theorem dX6_handOf_37 : decode cX6_handOf 37 = .ok (.imul, 1) := by decide +kernel
theorem dX6_handOf_38 : decode cX6_handOf 38 = .ok (.aload_n 1, 1) := by decide +kernel
theorem dX6_handOf_39 : decode cX6_handOf 39 = .ok (.getfield 91, 3) := by decide +kernel
theorem dX6_handOf_42 : decode cX6_handOf 42 = .ok (.iconst 1, 1) := by decide +kernel
theorem dX6_handOf_43 : decode cX6_handOf 43 = .ok (.iaload, 1) := by decide +kernel
theorem dX6_handOf_44 : decode cX6_handOf 44 = .ok (.aload_n 0, 1) := by decide +kernel
theorem dX6_handOf_45 : decode cX6_handOf 45 = .ok (.getfield 47, 3) := by decide +kernel
theorem dX6_handOf_48 : decode cX6_handOf 48 = .ok (.iload_n 3, 1) := by decide +kernel
theorem dX6_handOf_49 : decode cX6_handOf 49 = .ok (.iaload, 1) := by decide +kernel
theorem dX6_handOf_50 : decode cX6_handOf 50 = .ok (.imul, 1) := by decide +kernel
theorem dX6_handOf_51 : decode cX6_handOf 51 = .ok (.iadd, 1) := by decide +kernel
theorem dX6_handOf_52 : decode cX6_handOf 52 = .ok (.aload_n 1, 1) := by decide +kernel
theorem dX6_handOf_53 : decode cX6_handOf 53 = .ok (.getfield 91, 3) := by decide +kernel
theorem dX6_handOf_56 : decode cX6_handOf 56 = .ok (.iconst 2, 1) := by decide +kernel
theorem dX6_handOf_57 : decode cX6_handOf 57 = .ok (.iaload, 1) := by decide +kernel
theorem dX6_handOf_58 : decode cX6_handOf 58 = .ok (.aload_n 0, 1) := by decide +kernel
theorem dX6_handOf_59 : decode cX6_handOf 59 = .ok (.getfield 50, 3) := by decide +kernel
theorem dX6_handOf_62 : decode cX6_handOf 62 = .ok (.iload_n 3, 1) := by decide +kernel
theorem dX6_handOf_63 : decode cX6_handOf 63 = .ok (.iaload, 1) := by decide +kernel
theorem dX6_handOf_64 : decode cX6_handOf 64 = .ok (.imul, 1) := by decide +kernel
theorem dX6_handOf_65 : decode cX6_handOf 65 = .ok (.iadd, 1) := by decide +kernel
theorem dX6_handOf_66 : decode cX6_handOf 66 = .ok (.istore 4, 2) := by decide +kernel
theorem dX6_handOf_68 : decode cX6_handOf 68 = .ok (.iload 4, 2) := by decide +kernel
theorem dX6_handOf_70 : decode cX6_handOf 70 = .ok (.bipush 10, 2) := by decide +kernel
theorem dX6_handOf_72 : decode cX6_handOf 72 = .ok (.idiv, 1) := by decide +kernel
theorem dX6_handOf_73 : decode cX6_handOf 73 = .ok (.aload_n 1, 1) := by decide +kernel
theorem dX6_handOf_74 : decode cX6_handOf 74 = .ok (.getfield 91, 3) := by decide +kernel
theorem dX6_handOf_77 : decode cX6_handOf 77 = .ok (.iconst 4, 1) := by decide +kernel
theorem dX6_handOf_78 : decode cX6_handOf 78 = .ok (.iaload, 1) := by decide +kernel
theorem dX6_handOf_79 : decode cX6_handOf 79 = .ok (.invokestatic 85, 3) := by decide +kernel
theorem dX6_handOf_82 : decode cX6_handOf 82 = .ok (.istore 5, 2) := by decide +kernel
theorem dX6_handOf_84 : decode cX6_handOf 84 = .ok (.aload_n 0, 1) := by decide +kernel
theorem dX6_handOf_85 : decode cX6_handOf 85 = .ok (.getfield 18, 3) := by decide +kernel
theorem dX6_handOf_88 : decode cX6_handOf 88 = .ok (.ifCond .eq 9, 3) := by decide +kernel
theorem dX6_handOf_91 : decode cX6_handOf 91 = .ok (.iload 5, 2) := by decide +kernel
theorem dX6_handOf_93 : decode cX6_handOf 93 = .ok (.ineg, 1) := by decide +kernel
theorem dX6_handOf_94 : decode cX6_handOf 94 = .ok (.goto 5, 3) := by decide +kernel
theorem dX6_handOf_97 : decode cX6_handOf 97 = .ok (.iload 5, 2) := by decide +kernel
theorem dX6_handOf_99 : decode cX6_handOf 99 = .ok (.ireturn, 1) := by decide +kernel
theorem dX6_lookWhetherItFalls_0 : decode cX6_lookWhetherItFalls 0 = .ok (.aload_n 0, 1) := by decide +kernel
theorem dX6_lookWhetherItFalls_1 : decode cX6_lookWhetherItFalls 1 = .ok (.aload_n 0, 1) := by decide +kernel
theorem dX6_lookWhetherItFalls_2 : decode cX6_lookWhetherItFalls 2 = .ok (.getfield 22, 3) := by decide +kernel
theorem dX6_lookWhetherItFalls_5 : decode cX6_lookWhetherItFalls 5 = .ok (.sipush 1000, 3) := by decide +kernel
theorem dX6_lookWhetherItFalls_8 : decode cX6_lookWhetherItFalls 8 = .ok (.if_icmp .gt 13, 3) := by decide +kernel
theorem dX6_lookWhetherItFalls_11 : decode cX6_lookWhetherItFalls 11 = .ok (.aload_n 0, 1) := by decide +kernel
theorem dX6_lookWhetherItFalls_12 : decode cX6_lookWhetherItFalls 12 = .ok (.getfield 22, 3) := by decide +kernel
theorem dX6_lookWhetherItFalls_15 : decode cX6_lookWhetherItFalls 15 = .ok (.sipush (-1000), 3) := by decide +kernel
theorem dX6_lookWhetherItFalls_18 : decode cX6_lookWhetherItFalls 18 = .ok (.if_icmp .ge 7, 3) := by decide +kernel
theorem dX6_lookWhetherItFalls_21 : decode cX6_lookWhetherItFalls 21 = .ok (.iconst 1, 1) := by decide +kernel
theorem dX6_lookWhetherItFalls_22 : decode cX6_lookWhetherItFalls 22 = .ok (.goto 4, 3) := by decide +kernel
theorem dX6_lookWhetherItFalls_25 : decode cX6_lookWhetherItFalls 25 = .ok (.iconst 0, 1) := by decide +kernel
theorem dX6_lookWhetherItFalls_26 : decode cX6_lookWhetherItFalls 26 = .ok (.putfield 40, 3) := by decide +kernel
theorem dX6_lookWhetherItFalls_29 : decode cX6_lookWhetherItFalls 29 = .ok (.return_, 1) := by decide +kernel
theorem dX7_init_0 : decode cX7_init 0 = .ok (.aload_n 0, 1) := by decide +kernel
theorem dX7_init_1 : decode cX7_init 1 = .ok (.invokespecial 1, 3) := by decide +kernel
theorem dX7_init_4 : decode cX7_init 4 = .ok (.aload_n 0, 1) := by decide +kernel
theorem dX7_init_5 : decode cX7_init 5 = .ok (.iconst 5, 1) := by decide +kernel
theorem dX7_init_6 : decode cX7_init 6 = .ok (.newarray .int, 2) := by decide +kernel
theorem dX7_init_8 : decode cX7_init 8 = .ok (.putfield 9, 3) := by decide +kernel
theorem dX7_init_11 : decode cX7_init 11 = .ok (.aload_n 0, 1) := by decide +kernel
theorem dX7_init_12 : decode cX7_init 12 = .ok (.iconst 0, 1) := by decide +kernel
theorem dX7_init_13 : decode cX7_init 13 = .ok (.putfield 13, 3) := by decide +kernel
theorem dX7_init_16 : decode cX7_init 16 = .ok (.getstatic 17, 3) := by decide +kernel
theorem dX7_init_19 : decode cX7_init 19 = .ok (.iconst 0, 1) := by decide +kernel
theorem dX7_init_20 : decode cX7_init 20 = .ok (.aload_n 0, 1) := by decide +kernel
theorem dX7_init_21 : decode cX7_init 21 = .ok (.getfield 9, 3) := by decide +kernel
theorem dX7_init_24 : decode cX7_init 24 = .ok (.iconst 0, 1) := by decide +kernel
theorem dX7_init_25 : decode cX7_init 25 = .ok (.iconst 5, 1) := by decide +kernel
theorem dX7_init_26 : decode cX7_init 26 = .ok (.invokestatic 20, 3) := by decide +kernel
theorem dX7_init_29 : decode cX7_init 29 = .ok (.return_, 1) := by decide +kernel
theorem dX7_forget_0 : decode cX7_forget 0 = .ok (.getstatic 17, 3) := by decide +kernel
theorem dX7_forget_3 : decode cX7_forget 3 = .ok (.iconst 0, 1) := by decide +kernel
theorem dX7_forget_4 : decode cX7_forget 4 = .ok (.aload_n 0, 1) := by decide +kernel
theorem dX7_forget_5 : decode cX7_forget 5 = .ok (.getfield 9, 3) := by decide +kernel
theorem dX7_forget_8 : decode cX7_forget 8 = .ok (.iconst 0, 1) := by decide +kernel
theorem dX7_forget_9 : decode cX7_forget 9 = .ok (.iconst 5, 1) := by decide +kernel
theorem dX7_forget_10 : decode cX7_forget 10 = .ok (.invokestatic 20, 3) := by decide +kernel
theorem dX7_forget_13 : decode cX7_forget 13 = .ok (.aload_n 0, 1) := by decide +kernel
theorem dX7_forget_14 : decode cX7_forget 14 = .ok (.iconst 0, 1) := by decide +kernel
theorem dX7_forget_15 : decode cX7_forget 15 = .ok (.putfield 13, 3) := by decide +kernel
theorem dX7_forget_18 : decode cX7_forget 18 = .ok (.return_, 1) := by decide +kernel
theorem dX7_copyFrom_0 : decode cX7_copyFrom 0 = .ok (.aload_n 1, 1) := by decide +kernel
theorem dX7_copyFrom_1 : decode cX7_copyFrom 1 = .ok (.getfield 9, 3) := by decide +kernel
theorem dX7_copyFrom_4 : decode cX7_copyFrom 4 = .ok (.iconst 0, 1) := by decide +kernel
theorem dX7_copyFrom_5 : decode cX7_copyFrom 5 = .ok (.aload_n 0, 1) := by decide +kernel
theorem dX7_copyFrom_6 : decode cX7_copyFrom 6 = .ok (.getfield 9, 3) := by decide +kernel
theorem dX7_copyFrom_9 : decode cX7_copyFrom 9 = .ok (.iconst 0, 1) := by decide +kernel
theorem dX7_copyFrom_10 : decode cX7_copyFrom 10 = .ok (.iconst 5, 1) := by decide +kernel
theorem dX7_copyFrom_11 : decode cX7_copyFrom 11 = .ok (.invokestatic 20, 3) := by decide +kernel
theorem dX7_copyFrom_14 : decode cX7_copyFrom 14 = .ok (.aload_n 0, 1) := by decide +kernel
theorem dX7_copyFrom_15 : decode cX7_copyFrom 15 = .ok (.aload_n 1, 1) := by decide +kernel
theorem dX7_copyFrom_16 : decode cX7_copyFrom 16 = .ok (.getfield 13, 3) := by decide +kernel
theorem dX7_copyFrom_19 : decode cX7_copyFrom 19 = .ok (.putfield 13, 3) := by decide +kernel
theorem dX7_copyFrom_22 : decode cX7_copyFrom 22 = .ok (.return_, 1) := by decide +kernel
theorem dX7_wasTold_0 : decode cX7_wasTold 0 = .ok (.aload_n 0, 1) := by decide +kernel
theorem dX7_wasTold_1 : decode cX7_wasTold 1 = .ok (.getfield 13, 3) := by decide +kernel
theorem dX7_wasTold_4 : decode cX7_wasTold 4 = .ok (.iconst 1, 1) := by decide +kernel
theorem dX7_wasTold_5 : decode cX7_wasTold 5 = .ok (.iload_n 1, 1) := by decide +kernel
theorem dX7_wasTold_6 : decode cX7_wasTold 6 = .ok (.ishl, 1) := by decide +kernel
theorem dX7_wasTold_7 : decode cX7_wasTold 7 = .ok (.iand, 1) := by decide +kernel
theorem dX7_wasTold_8 : decode cX7_wasTold 8 = .ok (.ifCond .eq 7, 3) := by decide +kernel
theorem dX7_wasTold_11 : decode cX7_wasTold 11 = .ok (.iconst 1, 1) := by decide +kernel
theorem dX7_wasTold_12 : decode cX7_wasTold 12 = .ok (.goto 4, 3) := by decide +kernel
theorem dX7_wasTold_15 : decode cX7_wasTold 15 = .ok (.iconst 0, 1) := by decide +kernel
theorem dX7_wasTold_16 : decode cX7_wasTold 16 = .ok (.ireturn, 1) := by decide +kernel
set_option maxRecDepth 20000 in
theorem ggX7_tell_X8_within : GoodIn wsX7_tell wsX8_within := goodIn_r _ [5] (by decide +kernel) (by decide +kernel)
set_option maxRecDepth 20000 in
theorem gX7_tell_X8_within_n26 : GoodIn wsX7_tell (wsX8_within) := ggX7_tell_X8_within
theorem dX7_tell_0 : decode cX7_tell 0 = .ok (.iload_n 1, 1) := by decide +kernel
theorem dX7_tell_1 : decode cX7_tell 1 = .ok (.iconst 0, 1) := by decide +kernel
theorem dX7_tell_2 : decode cX7_tell 2 = .ok (.iconst 4, 1) := by decide +kernel
theorem dX7_tell_3 : decode cX7_tell 3 = .ok (.invokestatic 26, 3) := by decide +kernel
theorem dX7_tell_6 : decode cX7_tell 6 = .ok (.ifCond .eq 22, 3) := by decide +kernel
theorem dX7_tell_9 : decode cX7_tell 9 = .ok (.aload_n 0, 1) := by decide +kernel
theorem dX7_tell_10 : decode cX7_tell 10 = .ok (.getfield 9, 3) := by decide +kernel
theorem dX7_tell_13 : decode cX7_tell 13 = .ok (.iload_n 1, 1) := by decide +kernel
theorem dX7_tell_14 : decode cX7_tell 14 = .ok (.iload_n 2, 1) := by decide +kernel
theorem dX7_tell_15 : decode cX7_tell 15 = .ok (.iastore, 1) := by decide +kernel
theorem dX7_tell_16 : decode cX7_tell 16 = .ok (.aload_n 0, 1) := by decide +kernel
theorem dX7_tell_17 : decode cX7_tell 17 = .ok (.dup, 1) := by decide +kernel
theorem dX7_tell_18 : decode cX7_tell 18 = .ok (.getfield 13, 3) := by decide +kernel
theorem dX7_tell_21 : decode cX7_tell 21 = .ok (.iconst 1, 1) := by decide +kernel
theorem dX7_tell_22 : decode cX7_tell 22 = .ok (.iload_n 1, 1) := by decide +kernel
theorem dX7_tell_23 : decode cX7_tell 23 = .ok (.ishl, 1) := by decide +kernel
theorem dX7_tell_24 : decode cX7_tell 24 = .ok (.ior, 1) := by decide +kernel
theorem dX7_tell_25 : decode cX7_tell 25 = .ok (.putfield 13, 3) := by decide +kernel
theorem dX7_tell_28 : decode cX7_tell 28 = .ok (.return_, 1) := by decide +kernel
set_option maxRecDepth 20000 in
theorem ggX7_itemCount_J6_bitCount_0f7a4 : GoodIn wsX7_itemCount wsJ6_bitCount_0f7a4 := goodIn_r _ [5, 6, 7, 8] (by decide +kernel) (by decide +kernel)
set_option maxRecDepth 20000 in
theorem gX7_itemCount_J6_bitCount_0f7a4 : GoodIn wsX7_itemCount (va_wsS RX7 32 yJ6_bitCount_0f7a4 wsJ6_bitCount_0f7a4) := goodIn_app (goodIn_of _ (by decide +kernel)) ggX7_itemCount_J6_bitCount_0f7a4
theorem dX7_itemCount_0 : decode cX7_itemCount 0 = .ok (.aload_n 0, 1) := by decide +kernel
theorem dX7_itemCount_1 : decode cX7_itemCount 1 = .ok (.getfield 13, 3) := by decide +kernel
theorem dX7_itemCount_4 : decode cX7_itemCount 4 = .ok (.invokestatic 32, 3) := by decide +kernel
theorem dX7_itemCount_7 : decode cX7_itemCount 7 = .ok (.ireturn, 1) := by decide +kernel
set_option maxRecDepth 20000 in
theorem ggX8_init_X0_init : GoodIn wsX8_init wsX0_init := goodIn_r _ [46, 47, 2, 3, 17, 48, 49, 50, 51, 52, 130] (by decide +kernel) (by decide +kernel)
set_option maxRecDepth 20000 in
theorem gX8_init_X0_init_n15 : GoodIn wsX8_init (wsX0_init) := ggX8_init_X0_init
set_option maxRecDepth 20000 in
theorem ggX8_init_X1_init : GoodIn wsX8_init wsX1_init := goodIn_r _ [54, 55, 2, 3, 56, 6, 7, 57, 45, 46, 47, 17, 48, 49, 50, 51, 52, 130, 131] (by decide +kernel) (by decide +kernel)
set_option maxRecDepth 20000 in
theorem gX8_init_X1_init_n22 : GoodIn wsX8_init (wsX1_init) := ggX8_init_X1_init
set_option maxRecDepth 20000 in
theorem ggX8_init_X2_init : GoodIn wsX8_init wsX2_init := goodIn_r _ [59, 60, 2, 3, 61, 6, 7, 62, 17, 63, 64, 45, 46, 47, 48, 49, 50, 51, 52, 65, 66, 15, 67, 130, 132, 133, 134] (by decide +kernel) (by decide +kernel)
set_option maxRecDepth 20000 in
theorem gX8_init_X2_init_n29 : GoodIn wsX8_init (wsX2_init) := ggX8_init_X2_init
set_option maxRecDepth 20000 in
theorem ggX8_init_X5_init : GoodIn wsX8_init wsX5_init := goodIn_r _ [69, 70, 2, 3, 17, 71, 72, 73, 74, 75, 76, 135, 136, 137, 138, 139, 140] (by decide +kernel) (by decide +kernel)
set_option maxRecDepth 20000 in
theorem gX8_init_X5_init_n44 : GoodIn wsX8_init (wsX5_init) := ggX8_init_X5_init
set_option maxRecDepth 20000 in
theorem ggX8_init_X7_init : GoodIn wsX8_init wsX7_init := goodIn_r _ [78, 79, 2, 3, 17, 80, 81, 82, 83, 50, 51, 52, 141, 142] (by decide +kernel) (by decide +kernel)
set_option maxRecDepth 20000 in
theorem gX8_init_X7_init_n51 : GoodIn wsX8_init (wsX7_init) := ggX8_init_X7_init
set_option maxRecDepth 20000 in
theorem ggX8_init_X6_init : GoodIn wsX8_init wsX6_init := goodIn_r _ [85, 86, 2, 3, 87, 88, 89, 90, 91, 92, 93, 94, 95, 96, 17, 97, 98, 99, 143, 144, 145, 146, 147, 148, 149, 150, 151, 152, 153, 154, 155] (by decide +kernel) (by decide +kernel)
set_option maxRecDepth 20000 in
theorem gX8_init_X6_init_n61 : GoodIn wsX8_init (wsX6_init) := ggX8_init_X6_init
set_option maxRecDepth 20000 in
theorem ggX8_init_X3_init : GoodIn wsX8_init wsX3_init := goodIn_r _ [101, 102, 2, 3, 17, 103, 104, 105, 156, 157] (by decide +kernel) (by decide +kernel)
set_option maxRecDepth 20000 in
theorem gX8_init_X3_init_n71 : GoodIn wsX8_init (wsX3_init) := ggX8_init_X3_init
set_option maxRecDepth 20000 in
theorem ggX8_init_X4_init : GoodIn wsX8_init wsX4_init := goodIn_r _ [107, 108, 2, 3, 109, 30, 31, 110, 111, 35, 36, 112, 113, 84, 85, 86, 87, 88, 89, 90, 91, 92, 93, 94, 95, 96, 17, 97, 98, 99, 100, 101, 102, 103, 104, 105, 143, 144, 145, 146, 147, 148, 149, 150, 151, 152, 153, 154, 155, 158, 159, 160, 156, 157] (by decide +kernel) (by decide +kernel)
set_option maxRecDepth 20000 in
theorem gX8_init_X4_init_n92 : GoodIn wsX8_init (wsX4_init) := ggX8_init_X4_init
theorem dX8_init_0 : decode cX8_init 0 = .ok (.aload_n 0, 1) := by decide +kernel
theorem dX8_init_1 : decode cX8_init 1 = .ok (.invokespecial 1, 3) := by decide +kernel
theorem dX8_init_4 : decode cX8_init 4 = .ok (.aload_n 0, 1) := by decide +kernel
theorem dX8_init_5 : decode cX8_init 5 = .ok (.iconst 4, 1) := by decide +kernel
theorem dX8_init_6 : decode cX8_init 6 = .ok (.anewarray 9, 3) := by decide +kernel
theorem dX8_init_9 : decode cX8_init 9 = .ok (.putfield 11, 3) := by decide +kernel
theorem dX8_init_12 : decode cX8_init 12 = .ok (.aload_n 0, 1) := by decide +kernel
theorem dX8_init_13 : decode cX8_init 13 = .ok (.new 9, 3) := by decide +kernel
theorem dX8_init_16 : decode cX8_init 16 = .ok (.dup, 1) := by decide +kernel
theorem dX8_init_17 : decode cX8_init 17 = .ok (.invokespecial 15, 3) := by decide +kernel
theorem dX8_init_20 : decode cX8_init 20 = .ok (.putfield 16, 3) := by decide +kernel
theorem dX8_init_23 : decode cX8_init 23 = .ok (.aload_n 0, 1) := by decide +kernel
theorem dX8_init_24 : decode cX8_init 24 = .ok (.new 20, 3) := by decide +kernel
theorem dX8_init_27 : decode cX8_init 27 = .ok (.dup, 1) := by decide +kernel
theorem dX8_init_28 : decode cX8_init 28 = .ok (.invokespecial 22, 3) := by decide +kernel
theorem dX8_init_31 : decode cX8_init 31 = .ok (.putfield 23, 3) := by decide +kernel
theorem dX8_init_34 : decode cX8_init 34 = .ok (.aload_n 0, 1) := by decide +kernel
theorem dX8_init_35 : decode cX8_init 35 = .ok (.new 27, 3) := by decide +kernel
theorem dX8_init_38 : decode cX8_init 38 = .ok (.dup, 1) := by decide +kernel
theorem dX8_init_39 : decode cX8_init 39 = .ok (.invokespecial 29, 3) := by decide +kernel
theorem dX8_init_42 : decode cX8_init 42 = .ok (.putfield 30, 3) := by decide +kernel
theorem dX8_init_45 : decode cX8_init 45 = .ok (.aload_n 0, 1) := by decide +kernel
theorem dX8_init_46 : decode cX8_init 46 = .ok (.sipush 200, 3) := by decide +kernel
theorem dX8_init_49 : decode cX8_init 49 = .ok (.newarray .int, 2) := by decide +kernel
theorem dX8_init_51 : decode cX8_init 51 = .ok (.putfield 34, 3) := by decide +kernel
theorem dX8_init_54 : decode cX8_init 54 = .ok (.aload_n 0, 1) := by decide +kernel
theorem dX8_init_55 : decode cX8_init 55 = .ok (.iconst 0, 1) := by decide +kernel
theorem dX8_init_56 : decode cX8_init 56 = .ok (.putfield 38, 3) := by decide +kernel
theorem dX8_init_59 : decode cX8_init 59 = .ok (.aload_n 0, 1) := by decide +kernel
theorem dX8_init_60 : decode cX8_init 60 = .ok (.new 42, 3) := by decide +kernel
theorem dX8_init_63 : decode cX8_init 63 = .ok (.dup, 1) := by decide +kernel
theorem dX8_init_64 : decode cX8_init 64 = .ok (.invokespecial 44, 3) := by decide +kernel
theorem dX8_init_67 : decode cX8_init 67 = .ok (.putfield 45, 3) := by decide +kernel
theorem dX8_init_70 : decode cX8_init 70 = .ok (.aload_n 0, 1) := by decide +kernel
theorem dX8_init_71 : decode cX8_init 71 = .ok (.new 49, 3) := by decide +kernel
theorem dX8_init_74 : decode cX8_init 74 = .ok (.dup, 1) := by decide +kernel
theorem dX8_init_75 : decode cX8_init 75 = .ok (.invokespecial 51, 3) := by decide +kernel
theorem dX8_init_78 : decode cX8_init 78 = .ok (.putfield 52, 3) := by decide +kernel
theorem dX8_init_81 : decode cX8_init 81 = .ok (.aload_n 0, 1) := by decide +kernel
theorem dX8_init_82 : decode cX8_init 82 = .ok (.new 49, 3) := by decide +kernel
theorem dX8_init_85 : decode cX8_init 85 = .ok (.dup, 1) := by decide +kernel
theorem dX8_init_86 : decode cX8_init 86 = .ok (.invokespecial 51, 3) := by decide +kernel
theorem dX8_init_89 : decode cX8_init 89 = .ok (.putfield 56, 3) := by decide +kernel
theorem dX8_init_92 : decode cX8_init 92 = .ok (.aload_n 0, 1) := by decide +kernel
theorem dX8_init_93 : decode cX8_init 93 = .ok (.new 59, 3) := by decide +kernel
theorem dX8_init_96 : decode cX8_init 96 = .ok (.dup, 1) := by decide +kernel
theorem dX8_init_97 : decode cX8_init 97 = .ok (.invokespecial 61, 3) := by decide +kernel
theorem dX8_init_100 : decode cX8_init 100 = .ok (.putfield 62, 3) := by decide +kernel
theorem dX8_init_103 : decode cX8_init 103 = .ok (.aload_n 0, 1) := by decide +kernel
theorem dX8_init_104 : decode cX8_init 104 = .ok (.new 59, 3) := by decide +kernel
theorem dX8_init_107 : decode cX8_init 107 = .ok (.dup, 1) := by decide +kernel
theorem dX8_init_108 : decode cX8_init 108 = .ok (.invokespecial 61, 3) := by decide +kernel
theorem dX8_init_111 : decode cX8_init 111 = .ok (.putfield 66, 3) := by decide +kernel
theorem dX8_init_114 : decode cX8_init 114 = .ok (.aload_n 0, 1) := by decide +kernel
theorem dX8_init_115 : decode cX8_init 115 = .ok (.new 69, 3) := by decide +kernel
theorem dX8_init_118 : decode cX8_init 118 = .ok (.dup, 1) := by decide +kernel
theorem dX8_init_119 : decode cX8_init 119 = .ok (.invokespecial 71, 3) := by decide +kernel
theorem dX8_init_122 : decode cX8_init 122 = .ok (.putfield 72, 3) := by decide +kernel
theorem dX8_init_125 : decode cX8_init 125 = .ok (.aload_n 0, 1) := by decide +kernel
theorem dX8_init_126 : decode cX8_init 126 = .ok (.iconst 5, 1) := by decide +kernel
theorem dX8_init_127 : decode cX8_init 127 = .ok (.putfield 76, 3) := by decide +kernel
theorem dX8_init_130 : decode cX8_init 130 = .ok (.aload_n 0, 1) := by decide +kernel
theorem dX8_init_131 : decode cX8_init 131 = .ok (.iconst 3, 1) := by decide +kernel
theorem dX8_init_132 : decode cX8_init 132 = .ok (.putfield 79, 3) := by decide +kernel
theorem dX8_init_135 : decode cX8_init 135 = .ok (.aload_n 0, 1) := by decide +kernel
theorem dX8_init_136 : decode cX8_init 136 = .ok (.iconst 2, 1) := by decide +kernel
theorem dX8_init_137 : decode cX8_init 137 = .ok (.anewarray 82, 3) := by decide +kernel
theorem dX8_init_140 : decode cX8_init 140 = .ok (.putfield 84, 3) := by decide +kernel
theorem dX8_init_143 : decode cX8_init 143 = .ok (.aload_n 0, 1) := by decide +kernel
theorem dX8_init_144 : decode cX8_init 144 = .ok (.lconst 0, 1) := by decide +kernel
theorem dX8_init_145 : decode cX8_init 145 = .ok (.putfield 88, 3) := by decide +kernel
theorem dX8_init_148 : decode cX8_init 148 = .ok (.iconst 0, 1) := by decide +kernel
theorem dX8_init_149 : decode cX8_init 149 = .ok (.istore_n 1, 1) := by decide +kernel
theorem dX8_init_150 : decode cX8_init 150 = .ok (.iload_n 1, 1) := by decide +kernel
theorem dX8_init_151 : decode cX8_init 151 = .ok (.iconst 4, 1) := by decide +kernel
theorem dX8_init_152 : decode cX8_init 152 = .ok (.if_icmp .ge 22, 3) := by decide +kernel
theorem dX8_init_155 : decode cX8_init 155 = .ok (.aload_n 0, 1) := by decide +kernel
theorem dX8_init_156 : decode cX8_init 156 = .ok (.getfield 11, 3) := by decide +kernel
theorem dX8_init_159 : decode cX8_init 159 = .ok (.iload_n 1, 1) := by decide +kernel
theorem dX8_init_160 : decode cX8_init 160 = .ok (.new 9, 3) := by decide +kernel
theorem dX8_init_163 : decode cX8_init 163 = .ok (.dup, 1) := by decide +kernel
theorem dX8_init_164 : decode cX8_init 164 = .ok (.invokespecial 15, 3) := by decide +kernel
theorem dX8_init_167 : decode cX8_init 167 = .ok (.aastore, 1) := by decide +kernel
theorem dX8_init_168 : decode cX8_init 168 = .ok (.iinc 1 1, 3) := by decide +kernel
theorem dX8_init_171 : decode cX8_init 171 = .ok (.goto (-21), 3) := by decide +kernel
theorem dX8_init_174 : decode cX8_init 174 = .ok (.iconst 0, 1) := by decide +kernel
theorem dX8_init_175 : decode cX8_init 175 = .ok (.istore_n 1, 1) := by decide +kernel
theorem dX8_init_176 : decode cX8_init 176 = .ok (.iload_n 1, 1) := by decide +kernel
theorem dX8_init_177 : decode cX8_init 177 = .ok (.iconst 2, 1) := by decide +kernel
theorem dX8_init_178 : decode cX8_init 178 = .ok (.if_icmp .ge 22, 3) := by decide +kernel
theorem dX8_init_181 : decode cX8_init 181 = .ok (.aload_n 0, 1) := by decide +kernel
theorem dX8_init_182 : decode cX8_init 182 = .ok (.getfield 84, 3) := by decide +kernel
theorem dX8_init_185 : decode cX8_init 185 = .ok (.iload_n 1, 1) := by decide +kernel
theorem dX8_init_186 : decode cX8_init 186 = .ok (.new 82, 3) := by decide +kernel
theorem dX8_init_189 : decode cX8_init 189 = .ok (.dup, 1) := by decide +kernel
theorem dX8_init_190 : decode cX8_init 190 = .ok (.invokespecial 92, 3) := by decide +kernel
theorem dX8_init_193 : decode cX8_init 193 = .ok (.aastore, 1) := by decide +kernel
theorem dX8_init_194 : decode cX8_init 194 = .ok (.iinc 1 1, 3) := by decide +kernel
theorem dX8_init_197 : decode cX8_init 197 = .ok (.goto (-21), 3) := by decide +kernel
theorem dX8_init_200 : decode cX8_init 200 = .ok (.return_, 1) := by decide +kernel
set_option maxRecDepth 20000 in
theorem ggX8_number_X8_isBicycle : GoodIn wsX8_number wsX8_isBicycle := goodIn_r _ [8, 9, 10, 7, 11] (by decide +kernel) (by decide +kernel)
set_option maxRecDepth 20000 in
theorem gX8_number_X8_isBicycle : GoodIn wsX8_number (va_wsS RX8 93 yX8_isBicycle wsX8_isBicycle) := goodIn_app (goodIn_of _ (by decide +kernel)) ggX8_number_X8_isBicycle
set_option maxRecDepth 20000 in
theorem ggX8_number_X8_isNumber : GoodIn wsX8_number wsX8_isNumber := goodIn_r _ [14, 9, 10, 7, 11] (by decide +kernel) (by decide +kernel)
set_option maxRecDepth 20000 in
theorem gX8_number_X8_isNumber : GoodIn wsX8_number (va_wsS RX8 97 yX8_isNumber wsX8_isNumber) := goodIn_app (goodIn_of _ (by decide +kernel)) ggX8_number_X8_isNumber
set_option maxRecDepth 20000 in
theorem ggX8_number_X8_within : GoodIn wsX8_number wsX8_within := goodIn_r _ [11] (by decide +kernel) (by decide +kernel)
set_option maxRecDepth 20000 in
theorem gX8_number_X8_within : GoodIn wsX8_number (va_wsS RX8 106 yX8_within wsX8_within) := goodIn_app (goodIn_of _ (by decide +kernel)) ggX8_number_X8_within
set_option maxRecDepth 20000 in
theorem ggX8_number_X0_valueOf : GoodIn wsX8_number wsX0_valueOf := goodIn_r _ [18, 19, 13, 7, 14, 9, 10, 11, 39] (by decide +kernel) (by decide +kernel)
set_option maxRecDepth 20000 in
theorem gX8_number_X0_valueOf_n111 : GoodIn wsX8_number (wsX0_valueOf) := ggX8_number_X0_valueOf
set_option maxRecDepth 20000 in
theorem ggX8_number_X0_put : GoodIn wsX8_number wsX0_put := goodIn_r _ [22, 19, 13, 7, 14, 9, 10, 11, 39] (by decide +kernel) (by decide +kernel)
set_option maxRecDepth 20000 in
theorem gX8_number_X0_put_n115 : GoodIn wsX8_number (wsX0_put) := ggX8_number_X0_put
theorem dX8_number_0 : decode cX8_number 0 = .ok (.iload_n 1, 1) := by decide +kernel
theorem dX8_number_1 : decode cX8_number 1 = .ok (.invokestatic 93, 3) := by decide +kernel
theorem dX8_number_4 : decode cX8_number 4 = .ok (.ifCond .eq 27, 3) := by decide +kernel
theorem dX8_number_7 : decode cX8_number 7 = .ok (.iload_n 2, 1) := by decide +kernel
theorem dX8_number_8 : decode cX8_number 8 = .ok (.invokestatic 97, 3) := by decide +kernel
theorem dX8_number_11 : decode cX8_number 11 = .ok (.ifCond .eq 20, 3) := by decide +kernel
theorem dX8_number_14 : decode cX8_number 14 = .ok (.iload_n 3, 1) := by decide +kernel
theorem dX8_number_15 : decode cX8_number 15 = .ok (.getstatic 100, 3) := by decide +kernel
theorem dX8_number_18 : decode cX8_number 18 = .ok (.iload_n 2, 1) := by decide +kernel
theorem dX8_number_19 : decode cX8_number 19 = .ok (.iaload, 1) := by decide +kernel
theorem dX8_number_20 : decode cX8_number 20 = .ok (.getstatic 103, 3) := by decide +kernel
theorem dX8_number_23 : decode cX8_number 23 = .ok (.iload_n 2, 1) := by decide +kernel
theorem dX8_number_24 : decode cX8_number 24 = .ok (.iaload, 1) := by decide +kernel
theorem dX8_number_25 : decode cX8_number 25 = .ok (.invokestatic 106, 3) := by decide +kernel
theorem dX8_number_28 : decode cX8_number 28 = .ok (.ifCond .ne 6, 3) := by decide +kernel
theorem dX8_number_31 : decode cX8_number 31 = .ok (.ldc 110, 2) := by decide +kernel
theorem dX8_number_33 : decode cX8_number 33 = .ok (.ireturn, 1) := by decide +kernel
theorem dX8_number_34 : decode cX8_number 34 = .ok (.aload_n 0, 1) := by decide +kernel
theorem dX8_number_35 : decode cX8_number 35 = .ok (.getfield 11, 3) := by decide +kernel
theorem dX8_number_38 : decode cX8_number 38 = .ok (.iload_n 1, 1) := by decide +kernel
theorem dX8_number_39 : decode cX8_number 39 = .ok (.aaload, 1) := by decide +kernel
theorem dX8_number_40 : decode cX8_number 40 = .ok (.iload_n 2, 1) := by decide +kernel
theorem dX8_number_41 : decode cX8_number 41 = .ok (.invokevirtual 111, 3) := by decide +kernel
theorem dX8_number_44 : decode cX8_number 44 = .ok (.istore 4, 2) := by decide +kernel
theorem dX8_number_46 : decode cX8_number 46 = .ok (.aload_n 0, 1) := by decide +kernel
theorem dX8_number_47 : decode cX8_number 47 = .ok (.getfield 11, 3) := by decide +kernel
theorem dX8_number_50 : decode cX8_number 50 = .ok (.iload_n 1, 1) := by decide +kernel
theorem dX8_number_51 : decode cX8_number 51 = .ok (.aaload, 1) := by decide +kernel
theorem dX8_number_52 : decode cX8_number 52 = .ok (.iload_n 2, 1) := by decide +kernel
theorem dX8_number_53 : decode cX8_number 53 = .ok (.iload_n 3, 1) := by decide +kernel
theorem dX8_number_54 : decode cX8_number 54 = .ok (.invokevirtual 115, 3) := by decide +kernel
theorem dX8_number_57 : decode cX8_number 57 = .ok (.iload 4, 2) := by decide +kernel
theorem dX8_number_59 : decode cX8_number 59 = .ok (.ireturn, 1) := by decide +kernel
set_option maxRecDepth 20000 in
theorem ggX8_has_X8_isBicycle : GoodIn wsX8_has wsX8_isBicycle := goodIn_r _ [6, 7, 8, 5, 9] (by decide +kernel) (by decide +kernel)
set_option maxRecDepth 20000 in
theorem gX8_has_X8_isBicycle : GoodIn wsX8_has (va_wsS RX8 93 yX8_isBicycle wsX8_isBicycle) := goodIn_app (goodIn_of _ (by decide +kernel)) ggX8_has_X8_isBicycle
set_option maxRecDepth 20000 in
theorem ggX8_has_X8_isNumber : GoodIn wsX8_has wsX8_isNumber := goodIn_r _ [12, 7, 8, 5, 9] (by decide +kernel) (by decide +kernel)
set_option maxRecDepth 20000 in
theorem gX8_has_X8_isNumber : GoodIn wsX8_has (va_wsS RX8 97 yX8_isNumber wsX8_isNumber) := goodIn_app (goodIn_of _ (by decide +kernel)) ggX8_has_X8_isNumber
set_option maxRecDepth 20000 in
theorem ggX8_has_X0_valueOf : GoodIn wsX8_has wsX0_valueOf := goodIn_r _ [16, 17, 11, 5, 12, 7, 8, 9, 34] (by decide +kernel) (by decide +kernel)
set_option maxRecDepth 20000 in
theorem gX8_has_X0_valueOf_n111 : GoodIn wsX8_has (wsX0_valueOf) := ggX8_has_X0_valueOf
theorem dX8_has_0 : decode cX8_has 0 = .ok (.iload_n 1, 1) := by decide +kernel
theorem dX8_has_1 : decode cX8_has 1 = .ok (.invokestatic 93, 3) := by decide +kernel
theorem dX8_has_4 : decode cX8_has 4 = .ok (.ifCond .eq 23, 3) := by decide +kernel
theorem dX8_has_7 : decode cX8_has 7 = .ok (.iload_n 2, 1) := by decide +kernel
theorem dX8_has_8 : decode cX8_has 8 = .ok (.invokestatic 97, 3) := by decide +kernel
theorem dX8_has_11 : decode cX8_has 11 = .ok (.ifCond .eq 16, 3) := by decide +kernel
theorem dX8_has_14 : decode cX8_has 14 = .ok (.aload_n 0, 1) := by decide +kernel
theorem dX8_has_15 : decode cX8_has 15 = .ok (.getfield 11, 3) := by decide +kernel
theorem dX8_has_18 : decode cX8_has 18 = .ok (.iload_n 1, 1) := by decide +kernel
theorem dX8_has_19 : decode cX8_has 19 = .ok (.aaload, 1) := by decide +kernel
theorem dX8_has_20 : decode cX8_has 20 = .ok (.iload_n 2, 1) := by decide +kernel
theorem dX8_has_21 : decode cX8_has 21 = .ok (.invokevirtual 111, 3) := by decide +kernel
theorem dX8_has_24 : decode cX8_has 24 = .ok (.goto 5, 3) := by decide +kernel
theorem dX8_has_27 : decode cX8_has 27 = .ok (.ldc 110, 2) := by decide +kernel
theorem dX8_has_29 : decode cX8_has 29 = .ok (.ireturn, 1) := by decide +kernel
set_option maxRecDepth 20000 in
theorem ggX8_sign_X8_isBicycle : GoodIn wsX8_sign wsX8_isBicycle := goodIn_r _ [6, 7, 8, 5, 9] (by decide +kernel) (by decide +kernel)
set_option maxRecDepth 20000 in
theorem gX8_sign_X8_isBicycle : GoodIn wsX8_sign (va_wsS RX8 93 yX8_isBicycle wsX8_isBicycle) := goodIn_app (goodIn_of _ (by decide +kernel)) ggX8_sign_X8_isBicycle
set_option maxRecDepth 20000 in
theorem ggX8_sign_X8_isSpeed : GoodIn wsX8_sign wsX8_isSpeed := goodIn_r _ [12, 7, 8, 5, 9] (by decide +kernel) (by decide +kernel)
set_option maxRecDepth 20000 in
theorem gX8_sign_X8_isSpeed : GoodIn wsX8_sign (va_wsS RX8 119 yX8_isSpeed wsX8_isSpeed) := goodIn_app (goodIn_of _ (by decide +kernel)) ggX8_sign_X8_isSpeed
set_option maxRecDepth 20000 in
theorem ggX8_sign_X8_isHand : GoodIn wsX8_sign wsX8_isHand := goodIn_r _ [15, 7, 8, 5, 9] (by decide +kernel) (by decide +kernel)
set_option maxRecDepth 20000 in
theorem gX8_sign_X8_isHand : GoodIn wsX8_sign (va_wsS RX8 122 yX8_isHand wsX8_isHand) := goodIn_app (goodIn_of _ (by decide +kernel)) ggX8_sign_X8_isHand
set_option maxRecDepth 20000 in
theorem ggX8_sign_X8_within : GoodIn wsX8_sign wsX8_within := goodIn_r _ [9] (by decide +kernel) (by decide +kernel)
set_option maxRecDepth 20000 in
theorem gX8_sign_X8_within : GoodIn wsX8_sign (va_wsS RX8 106 yX8_within wsX8_within) := goodIn_app (goodIn_of _ (by decide +kernel)) ggX8_sign_X8_within
set_option maxRecDepth 20000 in
theorem ggX8_sign_X0_signThree : GoodIn wsX8_sign wsX0_signThree := goodIn_r _ [19, 20, 21, 48] (by decide +kernel) (by decide +kernel)
set_option maxRecDepth 20000 in
theorem gX8_sign_X0_signThree_n129 : GoodIn wsX8_sign (wsX0_signThree) := ggX8_sign_X0_signThree
set_option maxRecDepth 20000 in
theorem ggX8_sign_X0_signTwo : GoodIn wsX8_sign wsX0_signTwo := goodIn_r _ [24, 21, 25, 20, 48] (by decide +kernel) (by decide +kernel)
set_option maxRecDepth 20000 in
theorem gX8_sign_X0_signTwo_n133 : GoodIn wsX8_sign (wsX0_signTwo) := ggX8_sign_X0_signTwo
set_option maxRecDepth 20000 in
theorem ggX8_sign_X0_signOne : GoodIn wsX8_sign wsX0_signOne := goodIn_r _ [28, 21, 25, 20, 48] (by decide +kernel) (by decide +kernel)
set_option maxRecDepth 20000 in
theorem gX8_sign_X0_signOne_n137 : GoodIn wsX8_sign (wsX0_signOne) := ggX8_sign_X0_signOne
set_option maxRecDepth 20000 in
theorem ggX8_sign_X0_signZero : GoodIn wsX8_sign wsX0_signZero := goodIn_r _ [31, 20, 21, 25, 48] (by decide +kernel) (by decide +kernel)
set_option maxRecDepth 20000 in
theorem gX8_sign_X0_signZero_n141 : GoodIn wsX8_sign (wsX0_signZero) := ggX8_sign_X0_signZero
theorem dX8_sign_0 : decode cX8_sign 0 = .ok (.iload_n 1, 1) := by decide +kernel
