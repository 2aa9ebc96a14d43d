theorem dX0_init_0 : decode cX0_init 0 = .ok (.aload_n 0, 1) := by decide +kernel
theorem dX0_init_1 : decode cX0_init 1 = .ok (.invokespecial 3, 3) := by decide +kernel
theorem dX0_init_4 : decode cX0_init 4 = .ok (.aload_n 0, 1) := by decide +kernel
theorem dX0_init_5 : decode cX0_init 5 = .ok (.bipush 6, 2) := by decide +kernel
theorem dX0_init_7 : decode cX0_init 7 = .ok (.newarray .int, 2) := by decide +kernel
theorem dX0_init_9 : decode cX0_init 9 = .ok (.putfield 9, 3) := by decide +kernel
theorem dX0_init_12 : decode cX0_init 12 = .ok (.getstatic 15, 3) := by decide +kernel
theorem dX0_init_15 : decode cX0_init 15 = .ok (.iconst 0, 1) := by decide +kernel
theorem dX0_init_16 : decode cX0_init 16 = .ok (.aload_n 0, 1) := by decide +kernel
theorem dX0_init_17 : decode cX0_init 17 = .ok (.getfield 9, 3) := by decide +kernel
theorem dX0_init_20 : decode cX0_init 20 = .ok (.iconst 0, 1) := by decide +kernel
theorem dX0_init_21 : decode cX0_init 21 = .ok (.bipush 6, 2) := by decide +kernel
theorem dX0_init_23 : decode cX0_init 23 = .ok (.invokestatic 18, 3) := by decide +kernel
theorem dX0_init_26 : decode cX0_init 26 = .ok (.return_, 1) := by decide +kernel
set_option maxRecDepth 20000 in
theorem ggX0_valueOf_X8_isNumber : GoodIn wsX0_valueOf wsX8_isNumber := goodIn_r _ [4, 5, 6, 3, 7] (by decide +kernel) (by decide +kernel)
set_option maxRecDepth 20000 in
theorem gX0_valueOf_X8_isNumber_n24 : GoodIn wsX0_valueOf (wsX8_isNumber) := ggX0_valueOf_X8_isNumber
theorem dX0_valueOf_0 : decode cX0_valueOf 0 = .ok (.iload_n 1, 1) := by decide +kernel
theorem dX0_valueOf_1 : decode cX0_valueOf 1 = .ok (.invokestatic 24, 3) := by decide +kernel
theorem dX0_valueOf_4 : decode cX0_valueOf 4 = .ok (.ifCond .eq 12, 3) := by decide +kernel
theorem dX0_valueOf_7 : decode cX0_valueOf 7 = .ok (.aload_n 0, 1) := by decide +kernel
theorem dX0_valueOf_8 : decode cX0_valueOf 8 = .ok (.getfield 9, 3) := by decide +kernel
theorem dX0_valueOf_11 : decode cX0_valueOf 11 = .ok (.iload_n 1, 1) := by decide +kernel
theorem dX0_valueOf_12 : decode cX0_valueOf 12 = .ok (.iaload, 1) := by decide +kernel
theorem dX0_valueOf_13 : decode cX0_valueOf 13 = .ok (.goto 4, 3) := by decide +kernel
theorem dX0_valueOf_16 : decode cX0_valueOf 16 = .ok (.iconst 0, 1) := by decide +kernel
theorem dX0_valueOf_17 : decode cX0_valueOf 17 = .ok (.ireturn, 1) := by decide +kernel
set_option maxRecDepth 20000 in
theorem ggX0_put_X8_isNumber : GoodIn wsX0_put wsX8_isNumber := goodIn_r _ [4, 5, 6, 3, 7] (by decide +kernel) (by decide +kernel)
set_option maxRecDepth 20000 in
theorem gX0_put_X8_isNumber_n24 : GoodIn wsX0_put (wsX8_isNumber) := ggX0_put_X8_isNumber
theorem dX0_put_0 : decode cX0_put 0 = .ok (.iload_n 1, 1) := by decide +kernel
theorem dX0_put_1 : decode cX0_put 1 = .ok (.invokestatic 24, 3) := by decide +kernel
theorem dX0_put_4 : decode cX0_put 4 = .ok (.ifCond .eq 10, 3) := by decide +kernel
theorem dX0_put_7 : decode cX0_put 7 = .ok (.aload_n 0, 1) := by decide +kernel
theorem dX0_put_8 : decode cX0_put 8 = .ok (.getfield 9, 3) := by decide +kernel
theorem dX0_put_11 : decode cX0_put 11 = .ok (.iload_n 1, 1) := by decide +kernel
theorem dX0_put_12 : decode cX0_put 12 = .ok (.iload_n 2, 1) := by decide +kernel
theorem dX0_put_13 : decode cX0_put 13 = .ok (.iastore, 1) := by decide +kernel
theorem dX0_put_14 : decode cX0_put 14 = .ok (.return_, 1) := by decide +kernel
theorem dX0_copyFrom_0 : decode cX0_copyFrom 0 = .ok (.aload_n 1, 1) := by decide +kernel
theorem dX0_copyFrom_1 : decode cX0_copyFrom 1 = .ok (.getfield 9, 3) := by decide +kernel
theorem dX0_copyFrom_4 : decode cX0_copyFrom 4 = .ok (.iconst 0, 1) := by decide +kernel
theorem dX0_copyFrom_5 : decode cX0_copyFrom 5 = .ok (.aload_n 0, 1) := by decide +kernel
theorem dX0_copyFrom_6 : decode cX0_copyFrom 6 = .ok (.getfield 9, 3) := by decide +kernel
theorem dX0_copyFrom_9 : decode cX0_copyFrom 9 = .ok (.iconst 0, 1) := by decide +kernel
theorem dX0_copyFrom_10 : decode cX0_copyFrom 10 = .ok (.bipush 6, 2) := by decide +kernel
theorem dX0_copyFrom_12 : decode cX0_copyFrom 12 = .ok (.invokestatic 18, 3) := by decide +kernel
theorem dX0_copyFrom_15 : decode cX0_copyFrom 15 = .ok (.return_, 1) := by decide +kernel
theorem dX0_signThree_0 : decode cX0_signThree 0 = .ok (.ldc2_w 28, 3) := by decide +kernel
theorem dX0_signThree_3 : decode cX0_signThree 3 = .ok (.aload_n 0, 1) := by decide +kernel
theorem dX0_signThree_4 : decode cX0_signThree 4 = .ok (.getfield 9, 3) := by decide +kernel
theorem dX0_signThree_7 : decode cX0_signThree 7 = .ok (.iconst 4, 1) := by decide +kernel
theorem dX0_signThree_8 : decode cX0_signThree 8 = .ok (.iaload, 1) := by decide +kernel
theorem dX0_signThree_9 : decode cX0_signThree 9 = .ok (.i2l, 1) := by decide +kernel
theorem dX0_signThree_10 : decode cX0_signThree 10 = .ok (.lmul, 1) := by decide +kernel
theorem dX0_signThree_11 : decode cX0_signThree 11 = .ok (.aload_n 0, 1) := by decide +kernel
theorem dX0_signThree_12 : decode cX0_signThree 12 = .ok (.getfield 9, 3) := by decide +kernel
theorem dX0_signThree_15 : decode cX0_signThree 15 = .ok (.iconst 5, 1) := by decide +kernel
theorem dX0_signThree_16 : decode cX0_signThree 16 = .ok (.iaload, 1) := by decide +kernel
theorem dX0_signThree_17 : decode cX0_signThree 17 = .ok (.i2l, 1) := by decide +kernel
theorem dX0_signThree_18 : decode cX0_signThree 18 = .ok (.lmul, 1) := by decide +kernel
theorem dX0_signThree_19 : decode cX0_signThree 19 = .ok (.lreturn, 1) := by decide +kernel
theorem dX0_signTwo_0 : decode cX0_signTwo 0 = .ok (.aload_n 0, 1) := by decide +kernel
theorem dX0_signTwo_1 : decode cX0_signTwo 1 = .ok (.getfield 9, 3) := by decide +kernel
theorem dX0_signTwo_4 : decode cX0_signTwo 4 = .ok (.iconst 0, 1) := by decide +kernel
theorem dX0_signTwo_5 : decode cX0_signTwo 5 = .ok (.iaload, 1) := by decide +kernel
theorem dX0_signTwo_6 : decode cX0_signTwo 6 = .ok (.i2l, 1) := by decide +kernel
theorem dX0_signTwo_7 : decode cX0_signTwo 7 = .ok (.iload_n 1, 1) := by decide +kernel
theorem dX0_signTwo_8 : decode cX0_signTwo 8 = .ok (.i2l, 1) := by decide +kernel
theorem dX0_signTwo_9 : decode cX0_signTwo 9 = .ok (.lmul, 1) := by decide +kernel
theorem dX0_signTwo_10 : decode cX0_signTwo 10 = .ok (.lstore_n 3, 1) := by decide +kernel
theorem dX0_signTwo_11 : decode cX0_signTwo 11 = .ok (.ldc2_w 30, 3) := by decide +kernel
theorem dX0_signTwo_14 : decode cX0_signTwo 14 = .ok (.aload_n 0, 1) := by decide +kernel
theorem dX0_signTwo_15 : decode cX0_signTwo 15 = .ok (.getfield 9, 3) := by decide +kernel
theorem dX0_signTwo_18 : decode cX0_signTwo 18 = .ok (.iconst 1, 1) := by decide +kernel
theorem dX0_signTwo_19 : decode cX0_signTwo 19 = .ok (.iaload, 1) := by decide +kernel
theorem dX0_signTwo_20 : decode cX0_signTwo 20 = .ok (.i2l, 1) := by decide +kernel
theorem dX0_signTwo_21 : decode cX0_signTwo 21 = .ok (.lmul, 1) := by decide +kernel
theorem dX0_signTwo_22 : decode cX0_signTwo 22 = .ok (.iload_n 1, 1) := by decide +kernel
theorem dX0_signTwo_23 : decode cX0_signTwo 23 = .ok (.i2l, 1) := by decide +kernel
theorem dX0_signTwo_24 : decode cX0_signTwo 24 = .ok (.lmul, 1) := by decide +kernel
theorem dX0_signTwo_25 : decode cX0_signTwo 25 = .ok (.iload_n 1, 1) := by decide +kernel
theorem dX0_signTwo_26 : decode cX0_signTwo 26 = .ok (.i2l, 1) := by decide +kernel
theorem dX0_signTwo_27 : decode cX0_signTwo 27 = .ok (.lmul, 1) := by decide +kernel
theorem dX0_signTwo_28 : decode cX0_signTwo 28 = .ok (.ldc2_w 28, 3) := by decide +kernel
theorem dX0_signTwo_31 : decode cX0_signTwo 31 = .ok (.aload_n 0, 1) := by decide +kernel
theorem dX0_signTwo_32 : decode cX0_signTwo 32 = .ok (.getfield 9, 3) := by decide +kernel
theorem dX0_signTwo_35 : decode cX0_signTwo 35 = .ok (.iconst 4, 1) := by decide +kernel
theorem dX0_signTwo_36 : decode cX0_signTwo 36 = .ok (.iaload, 1) := by decide +kernel
theorem dX0_signTwo_37 : decode cX0_signTwo 37 = .ok (.i2l, 1) := by decide +kernel
theorem dX0_signTwo_38 : decode cX0_signTwo 38 = .ok (.lmul, 1) := by decide +kernel
theorem dX0_signTwo_39 : decode cX0_signTwo 39 = .ok (.aload_n 0, 1) := by decide +kernel
theorem dX0_signTwo_40 : decode cX0_signTwo 40 = .ok (.getfield 9, 3) := by decide +kernel
theorem dX0_signTwo_43 : decode cX0_signTwo 43 = .ok (.iconst 3, 1) := by decide +kernel
theorem dX0_signTwo_44 : decode cX0_signTwo 44 = .ok (.iaload, 1) := by decide +kernel
theorem dX0_signTwo_45 : decode cX0_signTwo 45 = .ok (.i2l, 1) := by decide +kernel
theorem dX0_signTwo_46 : decode cX0_signTwo 46 = .ok (.lmul, 1) := by decide +kernel
theorem dX0_signTwo_47 : decode cX0_signTwo 47 = .ok (.lsub, 1) := by decide +kernel
theorem dX0_signTwo_48 : decode cX0_signTwo 48 = .ok (.aload_n 0, 1) := by decide +kernel
theorem dX0_signTwo_49 : decode cX0_signTwo 49 = .ok (.getfield 9, 3) := by decide +kernel
theorem dX0_signTwo_52 : decode cX0_signTwo 52 = .ok (.iconst 4, 1) := by decide +kernel
theorem dX0_signTwo_53 : decode cX0_signTwo 53 = .ok (.iaload, 1) := by decide +kernel
theorem dX0_signTwo_54 : decode cX0_signTwo 54 = .ok (.i2l, 1) := by decide +kernel
theorem dX0_signTwo_55 : decode cX0_signTwo 55 = .ok (.lload_n 3, 1) := by decide +kernel
theorem dX0_signTwo_56 : decode cX0_signTwo 56 = .ok (.lmul, 1) := by decide +kernel
theorem dX0_signTwo_57 : decode cX0_signTwo 57 = .ok (.lload_n 3, 1) := by decide +kernel
theorem dX0_signTwo_58 : decode cX0_signTwo 58 = .ok (.ldc2_w 30, 3) := by decide +kernel
theorem dX0_signTwo_61 : decode cX0_signTwo 61 = .ok (.iload_n 2, 1) := by decide +kernel
theorem dX0_signTwo_62 : decode cX0_signTwo 62 = .ok (.i2l, 1) := by decide +kernel
theorem dX0_signTwo_63 : decode cX0_signTwo 63 = .ok (.lmul, 1) := by decide +kernel
theorem dX0_signTwo_64 : decode cX0_signTwo 64 = .ok (.ladd, 1) := by decide +kernel
theorem dX0_signTwo_65 : decode cX0_signTwo 65 = .ok (.lmul, 1) := by decide +kernel
theorem dX0_signTwo_66 : decode cX0_signTwo 66 = .ok (.ladd, 1) := by decide +kernel
theorem dX0_signTwo_67 : decode cX0_signTwo 67 = .ok (.lreturn, 1) := by decide +kernel
theorem dX0_signOne_0 : decode cX0_signOne 0 = .ok (.aload_n 0, 1) := by decide +kernel
theorem dX0_signOne_1 : decode cX0_signOne 1 = .ok (.getfield 9, 3) := by decide +kernel
theorem dX0_signOne_4 : decode cX0_signOne 4 = .ok (.iconst 0, 1) := by decide +kernel
theorem dX0_signOne_5 : decode cX0_signOne 5 = .ok (.iaload, 1) := by decide +kernel
theorem dX0_signOne_6 : decode cX0_signOne 6 = .ok (.i2l, 1) := by decide +kernel
theorem dX0_signOne_7 : decode cX0_signOne 7 = .ok (.iload_n 1, 1) := by decide +kernel
theorem dX0_signOne_8 : decode cX0_signOne 8 = .ok (.i2l, 1) := by decide +kernel
theorem dX0_signOne_9 : decode cX0_signOne 9 = .ok (.lmul, 1) := by decide +kernel
theorem dX0_signOne_10 : decode cX0_signOne 10 = .ok (.lstore 4, 2) := by decide +kernel
theorem dX0_signOne_12 : decode cX0_signOne 12 = .ok (.iload_n 1, 1) := by decide +kernel
theorem dX0_signOne_13 : decode cX0_signOne 13 = .ok (.i2l, 1) := by decide +kernel
theorem dX0_signOne_14 : decode cX0_signOne 14 = .ok (.iload_n 1, 1) := by decide +kernel
theorem dX0_signOne_15 : decode cX0_signOne 15 = .ok (.i2l, 1) := by decide +kernel
theorem dX0_signOne_16 : decode cX0_signOne 16 = .ok (.lmul, 1) := by decide +kernel
theorem dX0_signOne_17 : decode cX0_signOne 17 = .ok (.lstore 6, 2) := by decide +kernel
theorem dX0_signOne_19 : decode cX0_signOne 19 = .ok (.ldc2_w 30, 3) := by decide +kernel
theorem dX0_signOne_22 : decode cX0_signOne 22 = .ok (.lload 4, 2) := by decide +kernel
theorem dX0_signOne_24 : decode cX0_signOne 24 = .ok (.lmul, 1) := by decide +kernel
theorem dX0_signOne_25 : decode cX0_signOne 25 = .ok (.lload 6, 2) := by decide +kernel
theorem dX0_signOne_27 : decode cX0_signOne 27 = .ok (.aload_n 0, 1) := by decide +kernel
theorem dX0_signOne_28 : decode cX0_signOne 28 = .ok (.getfield 9, 3) := by decide +kernel
theorem dX0_signOne_31 : decode cX0_signOne 31 = .ok (.iconst 4, 1) := by decide +kernel
theorem dX0_signOne_32 : decode cX0_signOne 32 = .ok (.iaload, 1) := by decide +kernel
theorem dX0_signOne_33 : decode cX0_signOne 33 = .ok (.i2l, 1) := by decide +kernel
theorem dX0_signOne_34 : decode cX0_signOne 34 = .ok (.aload_n 0, 1) := by decide +kernel
theorem dX0_signOne_35 : decode cX0_signOne 35 = .ok (.getfield 9, 3) := by decide +kernel
theorem dX0_signOne_38 : decode cX0_signOne 38 = .ok (.iconst 1, 1) := by decide +kernel
theorem dX0_signOne_39 : decode cX0_signOne 39 = .ok (.iaload, 1) := by decide +kernel
theorem dX0_signOne_40 : decode cX0_signOne 40 = .ok (.aload_n 0, 1) := by decide +kernel
theorem dX0_signOne_41 : decode cX0_signOne 41 = .ok (.getfield 9, 3) := by decide +kernel
theorem dX0_signOne_44 : decode cX0_signOne 44 = .ok (.iconst 2, 1) := by decide +kernel
theorem dX0_signOne_45 : decode cX0_signOne 45 = .ok (.iaload, 1) := by decide +kernel
theorem dX0_signOne_46 : decode cX0_signOne 46 = .ok (.iadd, 1) := by decide +kernel
theorem dX0_signOne_47 : decode cX0_signOne 47 = .ok (.iload_n 2, 1) := by decide +kernel
theorem dX0_signOne_48 : decode cX0_signOne 48 = .ok (.iadd, 1) := by decide +kernel
theorem dX0_signOne_49 : decode cX0_signOne 49 = .ok (.i2l, 1) := by decide +kernel
theorem dX0_signOne_50 : decode cX0_signOne 50 = .ok (.lmul, 1) := by decide +kernel
theorem dX0_signOne_51 : decode cX0_signOne 51 = .ok (.ladd, 1) := by decide +kernel
theorem dX0_signOne_52 : decode cX0_signOne 52 = .ok (.lmul, 1) := by decide +kernel
theorem dX0_signOne_53 : decode cX0_signOne 53 = .ok (.ldc2_w 28, 3) := by decide +kernel
theorem dX0_signOne_56 : decode cX0_signOne 56 = .ok (.aload_n 0, 1) := by decide +kernel
theorem dX0_signOne_57 : decode cX0_signOne 57 = .ok (.getfield 9, 3) := by decide +kernel
theorem dX0_signOne_60 : decode cX0_signOne 60 = .ok (.iconst 4, 1) := by decide +kernel
theorem dX0_signOne_61 : decode cX0_signOne 61 = .ok (.iaload, 1) := by decide +kernel
theorem dX0_signOne_62 : decode cX0_signOne 62 = .ok (.i2l, 1) := by decide +kernel
theorem dX0_signOne_63 : decode cX0_signOne 63 = .ok (.lmul, 1) := by decide +kernel
theorem dX0_signOne_64 : decode cX0_signOne 64 = .ok (.aload_n 0, 1) := by decide +kernel
theorem dX0_signOne_65 : decode cX0_signOne 65 = .ok (.getfield 9, 3) := by decide +kernel
theorem dX0_signOne_68 : decode cX0_signOne 68 = .ok (.iconst 3, 1) := by decide +kernel
theorem dX0_signOne_69 : decode cX0_signOne 69 = .ok (.iaload, 1) := by decide +kernel
theorem dX0_signOne_70 : decode cX0_signOne 70 = .ok (.i2l, 1) := by decide +kernel
theorem dX0_signOne_71 : decode cX0_signOne 71 = .ok (.lmul, 1) := by decide +kernel
theorem dX0_signOne_72 : decode cX0_signOne 72 = .ok (.aload_n 0, 1) := by decide +kernel
theorem dX0_signOne_73 : decode cX0_signOne 73 = .ok (.getfield 9, 3) := by decide +kernel
theorem dX0_signOne_76 : decode cX0_signOne 76 = .ok (.iconst 5, 1) := by decide +kernel
theorem dX0_signOne_77 : decode cX0_signOne 77 = .ok (.iaload, 1) := by decide +kernel
theorem dX0_signOne_78 : decode cX0_signOne 78 = .ok (.i2l, 1) := by decide +kernel
theorem dX0_signOne_79 : decode cX0_signOne 79 = .ok (.lmul, 1) := by decide +kernel
theorem dX0_signOne_80 : decode cX0_signOne 80 = .ok (.lsub, 1) := by decide +kernel
theorem dX0_signOne_81 : decode cX0_signOne 81 = .ok (.ldc2_w 28, 3) := by decide +kernel
theorem dX0_signOne_84 : decode cX0_signOne 84 = .ok (.iload_n 3, 1) := by decide +kernel
theorem dX0_signOne_85 : decode cX0_signOne 85 = .ok (.i2l, 1) := by decide +kernel
theorem dX0_signOne_86 : decode cX0_signOne 86 = .ok (.lmul, 1) := by decide +kernel
theorem dX0_signOne_87 : decode cX0_signOne 87 = .ok (.lload 6, 2) := by decide +kernel
theorem dX0_signOne_89 : decode cX0_signOne 89 = .ok (.lmul, 1) := by decide +kernel
theorem dX0_signOne_90 : decode cX0_signOne 90 = .ok (.ladd, 1) := by decide +kernel
theorem dX0_signOne_91 : decode cX0_signOne 91 = .ok (.lreturn, 1) := by decide +kernel
theorem dX0_signZero_0 : decode cX0_signZero 0 = .ok (.iload_n 1, 1) := by decide +kernel
theorem dX0_signZero_1 : decode cX0_signZero 1 = .ok (.i2l, 1) := by decide +kernel
theorem dX0_signZero_2 : decode cX0_signZero 2 = .ok (.iload_n 1, 1) := by decide +kernel
theorem dX0_signZero_3 : decode cX0_signZero 3 = .ok (.i2l, 1) := by decide +kernel
theorem dX0_signZero_4 : decode cX0_signZero 4 = .ok (.lmul, 1) := by decide +kernel
theorem dX0_signZero_5 : decode cX0_signZero 5 = .ok (.lstore_n 3, 1) := by decide +kernel
theorem dX0_signZero_6 : decode cX0_signZero 6 = .ok (.ldc2_w 28, 3) := by decide +kernel
theorem dX0_signZero_9 : decode cX0_signZero 9 = .ok (.lload_n 3, 1) := by decide +kernel
theorem dX0_signZero_10 : decode cX0_signZero 10 = .ok (.lmul, 1) := by decide +kernel
theorem dX0_signZero_11 : decode cX0_signZero 11 = .ok (.aload_n 0, 1) := by decide +kernel
theorem dX0_signZero_12 : decode cX0_signZero 12 = .ok (.getfield 9, 3) := by decide +kernel
theorem dX0_signZero_15 : decode cX0_signZero 15 = .ok (.iconst 1, 1) := by decide +kernel
theorem dX0_signZero_16 : decode cX0_signZero 16 = .ok (.iaload, 1) := by decide +kernel
theorem dX0_signZero_17 : decode cX0_signZero 17 = .ok (.aload_n 0, 1) := by decide +kernel
theorem dX0_signZero_18 : decode cX0_signZero 18 = .ok (.getfield 9, 3) := by decide +kernel
theorem dX0_signZero_21 : decode cX0_signZero 21 = .ok (.iconst 2, 1) := by decide +kernel
theorem dX0_signZero_22 : decode cX0_signZero 22 = .ok (.iaload, 1) := by decide +kernel
theorem dX0_signZero_23 : decode cX0_signZero 23 = .ok (.iadd, 1) := by decide +kernel
theorem dX0_signZero_24 : decode cX0_signZero 24 = .ok (.iload_n 2, 1) := by decide +kernel
theorem dX0_signZero_25 : decode cX0_signZero 25 = .ok (.iadd, 1) := by decide +kernel
theorem dX0_signZero_26 : decode cX0_signZero 26 = .ok (.i2l, 1) := by decide +kernel
theorem dX0_signZero_27 : decode cX0_signZero 27 = .ok (.lmul, 1) := by decide +kernel
theorem dX0_signZero_28 : decode cX0_signZero 28 = .ok (.ldc2_w 30, 3) := by decide +kernel
theorem dX0_signZero_31 : decode cX0_signZero 31 = .ok (.aload_n 0, 1) := by decide +kernel
theorem dX0_signZero_32 : decode cX0_signZero 32 = .ok (.getfield 9, 3) := by decide +kernel
theorem dX0_signZero_35 : decode cX0_signZero 35 = .ok (.iconst 3, 1) := by decide +kernel
theorem dX0_signZero_36 : decode cX0_signZero 36 = .ok (.iaload, 1) := by decide +kernel
theorem dX0_signZero_37 : decode cX0_signZero 37 = .ok (.i2l, 1) := by decide +kernel
theorem dX0_signZero_38 : decode cX0_signZero 38 = .ok (.lmul, 1) := by decide +kernel
theorem dX0_signZero_39 : decode cX0_signZero 39 = .ok (.aload_n 0, 1) := by decide +kernel
theorem dX0_signZero_40 : decode cX0_signZero 40 = .ok (.getfield 9, 3) := by decide +kernel
theorem dX0_signZero_43 : decode cX0_signZero 43 = .ok (.iconst 1, 1) := by decide +kernel
theorem dX0_signZero_44 : decode cX0_signZero 44 = .ok (.iaload, 1) := by decide +kernel
theorem dX0_signZero_45 : decode cX0_signZero 45 = .ok (.i2l, 1) := by decide +kernel
theorem dX0_signZero_46 : decode cX0_signZero 46 = .ok (.lmul, 1) := by decide +kernel
theorem dX0_signZero_47 : decode cX0_signZero 47 = .ok (.lload_n 3, 1) := by decide +kernel
theorem dX0_signZero_48 : decode cX0_signZero 48 = .ok (.lmul, 1) := by decide +kernel
theorem dX0_signZero_49 : decode cX0_signZero 49 = .ok (.lsub, 1) := by decide +kernel
theorem dX0_signZero_50 : decode cX0_signZero 50 = .ok (.lreturn, 1) := by decide +kernel
set_option maxRecDepth 20000 in
theorem ggX0_staysUp_X0_signZero : GoodIn wsX0_staysUp wsX0_signZero := goodIn_r _ [7, 1, 2, 8, 21] (by decide +kernel) (by decide +kernel)
set_option maxRecDepth 20000 in
theorem gX0_staysUp_X0_signZero : GoodIn wsX0_staysUp (wsV RX0 32 RX0 yX0_signZero wsX0_signZero) := goodIn_app (goodIn_of _ (by decide +kernel)) ggX0_staysUp_X0_signZero
set_option maxRecDepth 20000 in
theorem ggX0_staysUp_X0_signTwo : GoodIn wsX0_staysUp wsX0_signTwo := goodIn_r _ [12, 2, 8, 1, 21] (by decide +kernel) (by decide +kernel)
set_option maxRecDepth 20000 in
theorem gX0_staysUp_X0_signTwo : GoodIn wsX0_staysUp (wsV RX0 36 RX0 yX0_signTwo wsX0_signTwo) := goodIn_app (goodIn_of _ (by decide +kernel)) ggX0_staysUp_X0_signTwo
set_option maxRecDepth 20000 in
theorem ggX0_staysUp_X0_signOne : GoodIn wsX0_staysUp wsX0_signOne := goodIn_r _ [16, 2, 8, 1, 21] (by decide +kernel) (by decide +kernel)
set_option maxRecDepth 20000 in
theorem gX0_staysUp_X0_signOne : GoodIn wsX0_staysUp (wsV RX0 39 RX0 yX0_signOne wsX0_signOne) := goodIn_app (goodIn_of _ (by decide +kernel)) ggX0_staysUp_X0_signOne
set_option maxRecDepth 20000 in
theorem ggX0_staysUp_X0_signThree : GoodIn wsX0_staysUp wsX0_signThree := goodIn_r _ [20, 1, 2, 21] (by decide +kernel) (by decide +kernel)
set_option maxRecDepth 20000 in
theorem gX0_staysUp_X0_signThree : GoodIn wsX0_staysUp (wsV RX0 43 RX0 yX0_signThree wsX0_signThree) := goodIn_app (goodIn_of _ (by decide +kernel)) ggX0_staysUp_X0_signThree
theorem dX0_staysUp_0 : decode cX0_staysUp 0 = .ok (.aload_n 0, 1) := by decide +kernel
theorem dX0_staysUp_1 : decode cX0_staysUp 1 = .ok (.iload_n 1, 1) := by decide +kernel
theorem dX0_staysUp_2 : decode cX0_staysUp 2 = .ok (.iload_n 2, 1) := by decide +kernel
theorem dX0_staysUp_3 : decode cX0_staysUp 3 = .ok (.invokevirtual 32, 3) := by decide +kernel
theorem dX0_staysUp_6 : decode cX0_staysUp 6 = .ok (.lstore 4, 2) := by decide +kernel
theorem dX0_staysUp_8 : decode cX0_staysUp 8 = .ok (.aload_n 0, 1) := by decide +kernel
theorem dX0_staysUp_9 : decode cX0_staysUp 9 = .ok (.iload_n 1, 1) := by decide +kernel
theorem dX0_staysUp_10 : decode cX0_staysUp 10 = .ok (.iload_n 3, 1) := by decide +kernel
theorem dX0_staysUp_11 : decode cX0_staysUp 11 = .ok (.invokevirtual 36, 3) := by decide +kernel
theorem dX0_staysUp_14 : decode cX0_staysUp 14 = .ok (.lstore 6, 2) := by decide +kernel
theorem dX0_staysUp_16 : decode cX0_staysUp 16 = .ok (.lload 4, 2) := by decide +kernel
theorem dX0_staysUp_18 : decode cX0_staysUp 18 = .ok (.lconst 0, 1) := by decide +kernel
theorem dX0_staysUp_19 : decode cX0_staysUp 19 = .ok (.lcmp, 1) := by decide +kernel
theorem dX0_staysUp_20 : decode cX0_staysUp 20 = .ok (.ifCond .le 10, 3) := by decide +kernel
theorem dX0_staysUp_23 : decode cX0_staysUp 23 = .ok (.lload 6, 2) := by decide +kernel
theorem dX0_staysUp_25 : decode cX0_staysUp 25 = .ok (.lconst 0, 1) := by decide +kernel
theorem dX0_staysUp_26 : decode cX0_staysUp 26 = .ok (.lcmp, 1) := by decide +kernel
theorem dX0_staysUp_27 : decode cX0_staysUp 27 = .ok (.ifCond .gt 5, 3) := by decide +kernel
theorem dX0_staysUp_30 : decode cX0_staysUp 30 = .ok (.iconst 0, 1) := by decide +kernel
theorem dX0_staysUp_31 : decode cX0_staysUp 31 = .ok (.ireturn, 1) := by decide +kernel
theorem dX0_staysUp_32 : decode cX0_staysUp 32 = .ok (.aload_n 0, 1) := by decide +kernel
theorem dX0_staysUp_33 : decode cX0_staysUp 33 = .ok (.iload_n 1, 1) := by decide +kernel
theorem dX0_staysUp_34 : decode cX0_staysUp 34 = .ok (.iload_n 2, 1) := by decide +kernel
theorem dX0_staysUp_35 : decode cX0_staysUp 35 = .ok (.iload_n 3, 1) := by decide +kernel
theorem dX0_staysUp_36 : decode cX0_staysUp 36 = .ok (.invokevirtual 39, 3) := by decide +kernel
theorem dX0_staysUp_39 : decode cX0_staysUp 39 = .ok (.lstore 8, 2) := by decide +kernel
theorem dX0_staysUp_41 : decode cX0_staysUp 41 = .ok (.aload_n 0, 1) := by decide +kernel
theorem dX0_staysUp_42 : decode cX0_staysUp 42 = .ok (.invokevirtual 43, 3) := by decide +kernel
theorem dX0_staysUp_45 : decode cX0_staysUp 45 = .ok (.lstore 10, 2) := by decide +kernel
theorem dX0_staysUp_47 : decode cX0_staysUp 47 = .ok (.lload 8, 2) := by decide +kernel
theorem dX0_staysUp_49 : decode cX0_staysUp 49 = .ok (.lconst 0, 1) := by decide +kernel
theorem dX0_staysUp_50 : decode cX0_staysUp 50 = .ok (.lcmp, 1) := by decide +kernel
theorem dX0_staysUp_51 : decode cX0_staysUp 51 = .ok (.ifCond .le 52, 3) := by decide +kernel
theorem dX0_staysUp_54 : decode cX0_staysUp 54 = .ok (.lload 10, 2) := by decide +kernel
theorem dX0_staysUp_56 : decode cX0_staysUp 56 = .ok (.lconst 0, 1) := by decide +kernel
theorem dX0_staysUp_57 : decode cX0_staysUp 57 = .ok (.lcmp, 1) := by decide +kernel
theorem dX0_staysUp_58 : decode cX0_staysUp 58 = .ok (.ifCond .le 45, 3) := by decide +kernel
theorem dX0_staysUp_61 : decode cX0_staysUp 61 = .ok (.lload 10, 2) := by decide +kernel
theorem dX0_staysUp_63 : decode cX0_staysUp 63 = .ok (.lload 6, 2) := by decide +kernel
theorem dX0_staysUp_65 : decode cX0_staysUp 65 = .ok (.lmul, 1) := by decide +kernel
theorem dX0_staysUp_66 : decode cX0_staysUp 66 = .ok (.lload 8, 2) := by decide +kernel
theorem dX0_staysUp_68 : decode cX0_staysUp 68 = .ok (.lmul, 1) := by decide +kernel
theorem dX0_staysUp_69 : decode cX0_staysUp 69 = .ok (.ldc2_w 28, 3) := by decide +kernel
theorem dX0_staysUp_72 : decode cX0_staysUp 72 = .ok (.aload_n 0, 1) := by decide +kernel
theorem dX0_staysUp_73 : decode cX0_staysUp 73 = .ok (.getfield 9, 3) := by decide +kernel
theorem dX0_staysUp_76 : decode cX0_staysUp 76 = .ok (.iconst 4, 1) := by decide +kernel
theorem dX0_staysUp_77 : decode cX0_staysUp 77 = .ok (.iaload, 1) := by decide +kernel
theorem dX0_staysUp_78 : decode cX0_staysUp 78 = .ok (.i2l, 1) := by decide +kernel
theorem dX0_staysUp_79 : decode cX0_staysUp 79 = .ok (.lmul, 1) := by decide +kernel
theorem dX0_staysUp_80 : decode cX0_staysUp 80 = .ok (.lload 8, 2) := by decide +kernel
theorem dX0_staysUp_82 : decode cX0_staysUp 82 = .ok (.lmul, 1) := by decide +kernel
theorem dX0_staysUp_83 : decode cX0_staysUp 83 = .ok (.lload 8, 2) := by decide +kernel
theorem dX0_staysUp_85 : decode cX0_staysUp 85 = .ok (.lmul, 1) := by decide +kernel
theorem dX0_staysUp_86 : decode cX0_staysUp 86 = .ok (.lload 10, 2) := by decide +kernel
theorem dX0_staysUp_88 : decode cX0_staysUp 88 = .ok (.lload 10, 2) := by decide +kernel
theorem dX0_staysUp_90 : decode cX0_staysUp 90 = .ok (.lmul, 1) := by decide +kernel
theorem dX0_staysUp_91 : decode cX0_staysUp 91 = .ok (.lload 4, 2) := by decide +kernel
theorem dX0_staysUp_93 : decode cX0_staysUp 93 = .ok (.lmul, 1) := by decide +kernel
theorem dX0_staysUp_94 : decode cX0_staysUp 94 = .ok (.ladd, 1) := by decide +kernel
theorem dX0_staysUp_95 : decode cX0_staysUp 95 = .ok (.lcmp, 1) := by decide +kernel
theorem dX0_staysUp_96 : decode cX0_staysUp 96 = .ok (.ifCond .le 7, 3) := by decide +kernel
theorem dX0_staysUp_99 : decode cX0_staysUp 99 = .ok (.iconst 1, 1) := by decide +kernel
theorem dX0_staysUp_100 : decode cX0_staysUp 100 = .ok (.goto 4, 3) := by decide +kernel
theorem dX0_staysUp_103 : decode cX0_staysUp 103 = .ok (.iconst 0, 1) := by decide +kernel
theorem dX0_staysUp_104 : decode cX0_staysUp 104 = .ok (.ireturn, 1) := by decide +kernel
set_option maxRecDepth 20000 in
theorem ggX0_speeds_X0_signThree : GoodIn wsX0_speeds wsX0_signThree := goodIn_r _ [6, 7, 1, 25] (by decide +kernel) (by decide +kernel)
set_option maxRecDepth 20000 in
theorem gX0_speeds_X0_signThree : GoodIn wsX0_speeds (wsV RX0 43 RX0 yX0_signThree wsX0_signThree) := goodIn_app (goodIn_of _ (by decide +kernel)) ggX0_speeds_X0_signThree
set_option maxRecDepth 20000 in
theorem ggX0_speeds_X0_signZero : GoodIn wsX0_speeds wsX0_signZero := goodIn_r _ [11, 7, 1, 12, 25] (by decide +kernel) (by decide +kernel)
set_option maxRecDepth 20000 in
theorem gX0_speeds_X0_signZero : GoodIn wsX0_speeds (wsV RX0 32 RX0 yX0_signZero wsX0_signZero) := goodIn_app (goodIn_of _ (by decide +kernel)) ggX0_speeds_X0_signZero
set_option maxRecDepth 20000 in
theorem ggX0_speeds_X0_staysUp : GoodIn wsX0_speeds wsX0_staysUp := goodIn_r _ [16, 7, 1, 8, 9, 10, 5, 11, 12, 17, 18, 19, 20, 21, 22, 23, 24, 2, 3, 4, 6, 25] (by decide +kernel) (by decide +kernel)
set_option maxRecDepth 20000 in
theorem gX0_speeds_X0_staysUp : GoodIn wsX0_speeds (wsV RX0 47 RX0 yX0_staysUp wsX0_staysUp) := goodIn_app (goodIn_of _ (by decide +kernel)) ggX0_speeds_X0_staysUp
theorem dX0_speeds_0 : decode cX0_speeds 0 = .ok (.aload_n 0, 1) := by decide +kernel
theorem dX0_speeds_1 : decode cX0_speeds 1 = .ok (.getfield 9, 3) := by decide +kernel
theorem dX0_speeds_4 : decode cX0_speeds 4 = .ok (.iconst 0, 1) := by decide +kernel
theorem dX0_speeds_5 : decode cX0_speeds 5 = .ok (.iaload, 1) := by decide +kernel
theorem dX0_speeds_6 : decode cX0_speeds 6 = .ok (.ifCond .eq 23, 3) := by decide +kernel
theorem dX0_speeds_9 : decode cX0_speeds 9 = .ok (.aload_n 0, 1) := by decide +kernel
theorem dX0_speeds_10 : decode cX0_speeds 10 = .ok (.invokevirtual 43, 3) := by decide +kernel
theorem dX0_speeds_13 : decode cX0_speeds 13 = .ok (.lconst 0, 1) := by decide +kernel
theorem dX0_speeds_14 : decode cX0_speeds 14 = .ok (.lcmp, 1) := by decide +kernel
theorem dX0_speeds_15 : decode cX0_speeds 15 = .ok (.ifCond .le 14, 3) := by decide +kernel
theorem dX0_speeds_18 : decode cX0_speeds 18 = .ok (.aload_n 0, 1) := by decide +kernel
theorem dX0_speeds_19 : decode cX0_speeds 19 = .ok (.iconst 1, 1) := by decide +kernel
theorem dX0_speeds_20 : decode cX0_speeds 20 = .ok (.iconst 0, 1) := by decide +kernel
theorem dX0_speeds_21 : decode cX0_speeds 21 = .ok (.invokevirtual 32, 3) := by decide +kernel
theorem dX0_speeds_24 : decode cX0_speeds 24 = .ok (.lconst 0, 1) := by decide +kernel
theorem dX0_speeds_25 : decode cX0_speeds 25 = .ok (.lcmp, 1) := by decide +kernel
theorem dX0_speeds_26 : decode cX0_speeds 26 = .ok (.ifCond .gt 5, 3) := by decide +kernel
theorem dX0_speeds_29 : decode cX0_speeds 29 = .ok (.lconst 0, 1) := by decide +kernel
theorem dX0_speeds_30 : decode cX0_speeds 30 = .ok (.lreturn, 1) := by decide +kernel
theorem dX0_speeds_31 : decode cX0_speeds 31 = .ok (.lconst 0, 1) := by decide +kernel
theorem dX0_speeds_32 : decode cX0_speeds 32 = .ok (.lstore_n 1, 1) := by decide +kernel
theorem dX0_speeds_33 : decode cX0_speeds 33 = .ok (.iconst 0, 1) := by decide +kernel
theorem dX0_speeds_34 : decode cX0_speeds 34 = .ok (.istore_n 3, 1) := by decide +kernel
theorem dX0_speeds_35 : decode cX0_speeds 35 = .ok (.iload_n 3, 1) := by decide +kernel
theorem dX0_speeds_36 : decode cX0_speeds 36 = .ok (.bipush 40, 2) := by decide +kernel
theorem dX0_speeds_38 : decode cX0_speeds 38 = .ok (.if_icmp .gt 25, 3) := by decide +kernel
theorem dX0_speeds_41 : decode cX0_speeds 41 = .ok (.aload_n 0, 1) := by decide +kernel
theorem dX0_speeds_42 : decode cX0_speeds 42 = .ok (.iload_n 3, 1) := by decide +kernel
theorem dX0_speeds_43 : decode cX0_speeds 43 = .ok (.iconst 0, 1) := by decide +kernel
theorem dX0_speeds_44 : decode cX0_speeds 44 = .ok (.iconst 0, 1) := by decide +kernel
theorem dX0_speeds_45 : decode cX0_speeds 45 = .ok (.invokevirtual 47, 3) := by decide +kernel
theorem dX0_speeds_48 : decode cX0_speeds 48 = .ok (.ifCond .eq 9, 3) := by decide +kernel
theorem dX0_speeds_51 : decode cX0_speeds 51 = .ok (.lload_n 1, 1) := by decide +kernel
theorem dX0_speeds_52 : decode cX0_speeds 52 = .ok (.lconst 1, 1) := by decide +kernel
theorem dX0_speeds_53 : decode cX0_speeds 53 = .ok (.iload_n 3, 1) := by decide +kernel
theorem dX0_speeds_54 : decode cX0_speeds 54 = .ok (.lshl, 1) := by decide +kernel
theorem dX0_speeds_55 : decode cX0_speeds 55 = .ok (.lor, 1) := by decide +kernel
theorem dX0_speeds_56 : decode cX0_speeds 56 = .ok (.lstore_n 1, 1) := by decide +kernel
theorem dX0_speeds_57 : decode cX0_speeds 57 = .ok (.iinc 3 1, 3) := by decide +kernel
theorem dX0_speeds_60 : decode cX0_speeds 60 = .ok (.goto (-25), 3) := by decide +kernel
theorem dX0_speeds_63 : decode cX0_speeds 63 = .ok (.lload_n 1, 1) := by decide +kernel
theorem dX0_speeds_64 : decode cX0_speeds 64 = .ok (.lreturn, 1) := by decide +kernel
set_option maxRecDepth 20000 in
theorem ggX0_speedCount_X0_speeds : GoodIn wsX0_speedCount wsX0_speeds := goodIn_r _ [5, 6, 7, 8, 9, 4, 10, 11, 12, 13, 14, 15, 16, 17, 18, 19, 20, 21, 22, 23, 24, 25, 26, 27, 28, 36] (by decide +kernel) (by decide +kernel)
set_option maxRecDepth 20000 in
theorem gX0_speedCount_X0_speeds : GoodIn wsX0_speedCount (wsV RX0 51 RX0 yX0_speeds wsX0_speeds) := goodIn_app (goodIn_of _ (by decide +kernel)) ggX0_speedCount_X0_speeds
set_option maxRecDepth 20000 in
theorem ggX0_speedCount_J13_bitCount_95d88 : GoodIn wsX0_speedCount wsJ13_bitCount_95d88 := goodIn_r _ [32, 33, 34, 35] (by decide +kernel) (by decide +kernel)
set_option maxRecDepth 20000 in
theorem gX0_speedCount_J13_bitCount_95d88 : GoodIn wsX0_speedCount (va_wsS RX0 54 yJ13_bitCount_95d88 wsJ13_bitCount_95d88) := goodIn_app (goodIn_of _ (by decide +kernel)) ggX0_speedCount_J13_bitCount_95d88
theorem dX0_speedCount_0 : decode cX0_speedCount 0 = .ok (.aload_n 0, 1) := by decide +kernel
theorem dX0_speedCount_1 : decode cX0_speedCount 1 = .ok (.invokevirtual 51, 3) := by decide +kernel
theorem dX0_speedCount_4 : decode cX0_speedCount 4 = .ok (.invokestatic 54, 3) := by decide +kernel
theorem dX0_speedCount_7 : decode cX0_speedCount 7 = .ok (.ireturn, 1) := by decide +kernel
set_option maxRecDepth 20000 in
theorem ggX1_init_X0_init : GoodIn wsX1_init wsX0_init := goodIn_r _ [9, 10, 2, 3, 11, 12, 13, 14, 15, 16, 17] (by decide +kernel) (by decide +kernel)
set_option maxRecDepth 20000 in
theorem gX1_init_X0_init_n11 : GoodIn wsX1_init (wsX0_init) := ggX1_init_X0_init
theorem dX1_init_0 : decode cX1_init 0 = .ok (.aload_n 0, 1) := by decide +kernel
theorem dX1_init_1 : decode cX1_init 1 = .ok (.invokespecial 3, 3) := by decide +kernel
theorem dX1_init_4 : decode cX1_init 4 = .ok (.aload_n 0, 1) := by decide +kernel
theorem dX1_init_5 : decode cX1_init 5 = .ok (.new 9, 3) := by decide +kernel
theorem dX1_init_8 : decode cX1_init 8 = .ok (.dup, 1) := by decide +kernel
theorem dX1_init_9 : decode cX1_init 9 = .ok (.invokespecial 11, 3) := by decide +kernel
theorem dX1_init_12 : decode cX1_init 12 = .ok (.putfield 12, 3) := by decide +kernel
theorem dX1_init_15 : decode cX1_init 15 = .ok (.return_, 1) := by decide +kernel
set_option maxRecDepth 20000 in
theorem ggX1_leastWithout_X1_findsFrom : GoodIn wsX1_leastWithout wsX1_findsFrom := goodIn_r _ [5, 6, 7, 8, 9, 10, 11, 12, 13, 14, 15, 16, 17, 18, 19, 20, 21, 22, 23, 24, 25, 26, 27, 28, 29, 30, 31, 32, 33, 34, 35, 36, 37, 38, 39, 40, 41, 42, 43, 44, 45, 46, 47, 48, 49, 50, 51, 52, 1, 2, 3, 4, 53, 54, 55, 56, 57] (by decide +kernel) (by decide +kernel)
set_option maxRecDepth 20000 in
theorem gX1_leastWithout_X1_findsFrom : GoodIn wsX1_leastWithout (wsV RX1 18 RX1 yX1_findsFrom wsX1_findsFrom) := goodIn_app (goodIn_of _ (by decide +kernel)) ggX1_leastWithout_X1_findsFrom
theorem dX1_leastWithout_0 : decode cX1_leastWithout 0 = .ok (.iconst 0, 1) := by decide +kernel
theorem dX1_leastWithout_1 : decode cX1_leastWithout 1 = .ok (.istore_n 3, 1) := by decide +kernel
theorem dX1_leastWithout_2 : decode cX1_leastWithout 2 = .ok (.iload_n 3, 1) := by decide +kernel
theorem dX1_leastWithout_3 : decode cX1_leastWithout 3 = .ok (.bipush 6, 2) := by decide +kernel
theorem dX1_leastWithout_5 : decode cX1_leastWithout 5 = .ok (.if_icmp .gt 22, 3) := by decide +kernel
theorem dX1_leastWithout_8 : decode cX1_leastWithout 8 = .ok (.aload_n 0, 1) := by decide +kernel
theorem dX1_leastWithout_9 : decode cX1_leastWithout 9 = .ok (.iconst 0, 1) := by decide +kernel
theorem dX1_leastWithout_10 : decode cX1_leastWithout 10 = .ok (.iload_n 3, 1) := by decide +kernel
theorem dX1_leastWithout_11 : decode cX1_leastWithout 11 = .ok (.aload_n 1, 1) := by decide +kernel
theorem dX1_leastWithout_12 : decode cX1_leastWithout 12 = .ok (.iload_n 2, 1) := by decide +kernel
theorem dX1_leastWithout_13 : decode cX1_leastWithout 13 = .ok (.invokevirtual 18, 3) := by decide +kernel
theorem dX1_leastWithout_16 : decode cX1_leastWithout 16 = .ok (.ifCond .eq 5, 3) := by decide +kernel
theorem dX1_leastWithout_19 : decode cX1_leastWithout 19 = .ok (.iload_n 3, 1) := by decide +kernel
theorem dX1_leastWithout_20 : decode cX1_leastWithout 20 = .ok (.ireturn, 1) := by decide +kernel
theorem dX1_leastWithout_21 : decode cX1_leastWithout 21 = .ok (.iinc 3 1, 3) := by decide +kernel
theorem dX1_leastWithout_24 : decode cX1_leastWithout 24 = .ok (.goto (-22), 3) := by decide +kernel
theorem dX1_leastWithout_27 : decode cX1_leastWithout 27 = .ok (.bipush (-9), 2) := by decide +kernel
theorem dX1_leastWithout_29 : decode cX1_leastWithout 29 = .ok (.ireturn, 1) := by decide +kernel
set_option maxRecDepth 20000 in
theorem ggX1_valueFound_X0_valueOf : GoodIn wsX1_valueFound wsX0_valueOf := goodIn_r _ [5, 6, 7, 8, 9, 10, 11, 12, 14] (by decide +kernel) (by decide +kernel)
set_option maxRecDepth 20000 in
theorem gX1_valueFound_X0_valueOf_n22 : GoodIn wsX1_valueFound (wsX0_valueOf) := ggX1_valueFound_X0_valueOf
theorem dX1_valueFound_0 : decode cX1_valueFound 0 = .ok (.aload_n 0, 1) := by decide +kernel
theorem dX1_valueFound_1 : decode cX1_valueFound 1 = .ok (.getfield 12, 3) := by decide +kernel
theorem dX1_valueFound_4 : decode cX1_valueFound 4 = .ok (.iload_n 1, 1) := by decide +kernel
theorem dX1_valueFound_5 : decode cX1_valueFound 5 = .ok (.invokevirtual 22, 3) := by decide +kernel
theorem dX1_valueFound_8 : decode cX1_valueFound 8 = .ok (.ireturn, 1) := by decide +kernel
set_option maxRecDepth 20000 in
theorem ggX1_findsFrom_X0_speeds : GoodIn wsX1_findsFrom wsX0_speeds := goodIn_r _ [15, 16, 17, 18, 19, 13, 20, 21, 22, 23, 24, 25, 26, 27, 28, 29, 30, 31, 32, 33, 34, 35, 36, 37, 38, 56] (by decide +kernel) (by decide +kernel)
set_option maxRecDepth 20000 in
theorem gX1_findsFrom_X0_speeds_n26 : GoodIn wsX1_findsFrom (wsX0_speeds) := ggX1_findsFrom_X0_speeds
set_option maxRecDepth 20000 in
theorem ggX1_findsFrom_X0_put : GoodIn wsX1_findsFrom wsX0_put := goodIn_r _ [41, 16, 42, 43, 44, 45, 46, 47, 56] (by decide +kernel) (by decide +kernel)
set_option maxRecDepth 20000 in
theorem gX1_findsFrom_X0_put_n30 : GoodIn wsX1_findsFrom (wsX0_put) := ggX1_findsFrom_X0_put
set_option maxRecDepth 20000 in
theorem ggX1_findsFrom_X1_findsFrom : GoodIn wsX1_findsFrom wsX1_findsFrom := goodIn_r _ [0, 1, 2, 3, 4, 5, 6, 7, 8, 9, 10, 11, 12, 13, 14, 15, 16, 17, 18, 19, 20, 21, 22, 23, 24, 25, 26, 27, 28, 29, 30, 31, 32, 33, 34, 35, 36, 37, 38, 39, 40, 41, 42, 43, 44, 45, 46, 47, 48, 49, 50, 51, 52, 53, 54, 55, 56] (by decide +kernel) (by decide +kernel)
set_option maxRecDepth 20000 in
theorem gX1_findsFrom_X1_findsFrom : GoodIn wsX1_findsFrom (wsV RX1 18 RX1 yX1_findsFrom wsX1_findsFrom) := goodIn_app (goodIn_of _ (by decide +kernel)) ggX1_findsFrom_X1_findsFrom
set_option maxRecDepth 20000 in
theorem ggX1_findsFrom_X0_valueOf : GoodIn wsX1_findsFrom wsX0_valueOf := goodIn_r _ [54, 16, 42, 43, 44, 45, 46, 47, 56] (by decide +kernel) (by decide +kernel)
set_option maxRecDepth 20000 in
theorem gX1_findsFrom_X0_valueOf_n22 : GoodIn wsX1_findsFrom (wsX0_valueOf) := ggX1_findsFrom_X0_valueOf
theorem dX1_findsFrom_0 : decode cX1_findsFrom 0 = .ok (.iload_n 1, 1) := by decide +kernel
theorem dX1_findsFrom_1 : decode cX1_findsFrom 1 = .ok (.bipush 6, 2) := by decide +kernel
theorem dX1_findsFrom_3 : decode cX1_findsFrom 3 = .ok (.if_icmp .lt 25, 3) := by decide +kernel
theorem dX1_findsFrom_6 : decode cX1_findsFrom 6 = .ok (.iload_n 2, 1) := by decide +kernel
theorem dX1_findsFrom_7 : decode cX1_findsFrom 7 = .ok (.ifCond .ne 19, 3) := by decide +kernel
theorem dX1_findsFrom_10 : decode cX1_findsFrom 10 = .ok (.aload_n 0, 1) := by decide +kernel
theorem dX1_findsFrom_11 : decode cX1_findsFrom 11 = .ok (.getfield 12, 3) := by decide +kernel
theorem dX1_findsFrom_14 : decode cX1_findsFrom 14 = .ok (.invokevirtual 26, 3) := by decide +kernel
theorem dX1_findsFrom_17 : decode cX1_findsFrom 17 = .ok (.lconst 0, 1) := by decide +kernel
theorem dX1_findsFrom_18 : decode cX1_findsFrom 18 = .ok (.lcmp, 1) := by decide +kernel
theorem dX1_findsFrom_19 : decode cX1_findsFrom 19 = .ok (.ifCond .eq 7, 3) := by decide +kernel
theorem dX1_findsFrom_22 : decode cX1_findsFrom 22 = .ok (.iconst 1, 1) := by decide +kernel
theorem dX1_findsFrom_23 : decode cX1_findsFrom 23 = .ok (.goto 4, 3) := by decide +kernel
theorem dX1_findsFrom_26 : decode cX1_findsFrom 26 = .ok (.iconst 0, 1) := by decide +kernel
theorem dX1_findsFrom_27 : decode cX1_findsFrom 27 = .ok (.ireturn, 1) := by decide +kernel
theorem dX1_findsFrom_28 : decode cX1_findsFrom 28 = .ok (.iload_n 1, 1) := by decide +kernel
theorem dX1_findsFrom_29 : decode cX1_findsFrom 29 = .ok (.iload 4, 2) := by decide +kernel
theorem dX1_findsFrom_31 : decode cX1_findsFrom 31 = .ok (.if_icmp .ne 24, 3) := by decide +kernel
theorem dX1_findsFrom_34 : decode cX1_findsFrom 34 = .ok (.aload_n 0, 1) := by decide +kernel
theorem dX1_findsFrom_35 : decode cX1_findsFrom 35 = .ok (.getfield 12, 3) := by decide +kernel
theorem dX1_findsFrom_38 : decode cX1_findsFrom 38 = .ok (.iload_n 1, 1) := by decide +kernel
theorem dX1_findsFrom_39 : decode cX1_findsFrom 39 = .ok (.iconst 0, 1) := by decide +kernel
theorem dX1_findsFrom_40 : decode cX1_findsFrom 40 = .ok (.invokevirtual 30, 3) := by decide +kernel
theorem dX1_findsFrom_43 : decode cX1_findsFrom 43 = .ok (.aload_n 0, 1) := by decide +kernel
theorem dX1_findsFrom_44 : decode cX1_findsFrom 44 = .ok (.iload_n 1, 1) := by decide +kernel
theorem dX1_findsFrom_45 : decode cX1_findsFrom 45 = .ok (.iconst 1, 1) := by decide +kernel
theorem dX1_findsFrom_46 : decode cX1_findsFrom 46 = .ok (.iadd, 1) := by decide +kernel
theorem dX1_findsFrom_47 : decode cX1_findsFrom 47 = .ok (.iload_n 2, 1) := by decide +kernel
theorem dX1_findsFrom_48 : decode cX1_findsFrom 48 = .ok (.aload_n 3, 1) := by decide +kernel
theorem dX1_findsFrom_49 : decode cX1_findsFrom 49 = .ok (.iload 4, 2) := by decide +kernel
theorem dX1_findsFrom_51 : decode cX1_findsFrom 51 = .ok (.invokevirtual 18, 3) := by decide +kernel
theorem dX1_findsFrom_54 : decode cX1_findsFrom 54 = .ok (.ireturn, 1) := by decide +kernel
theorem dX1_findsFrom_55 : decode cX1_findsFrom 55 = .ok (.aload_n 3, 1) := by decide +kernel
theorem dX1_findsFrom_56 : decode cX1_findsFrom 56 = .ok (.iload_n 1, 1) := by decide +kernel
theorem dX1_findsFrom_57 : decode cX1_findsFrom 57 = .ok (.invokevirtual 22, 3) := by decide +kernel
theorem dX1_findsFrom_60 : decode cX1_findsFrom 60 = .ok (.istore 5, 2) := by decide +kernel
theorem dX1_findsFrom_62 : decode cX1_findsFrom 62 = .ok (.getstatic 34, 3) := by decide +kernel
theorem dX1_findsFrom_65 : decode cX1_findsFrom 65 = .ok (.iload_n 1, 1) := by decide +kernel
theorem dX1_findsFrom_66 : decode cX1_findsFrom 66 = .ok (.iaload, 1) := by decide +kernel
theorem dX1_findsFrom_67 : decode cX1_findsFrom 67 = .ok (.iload 5, 2) := by decide +kernel
theorem dX1_findsFrom_69 : decode cX1_findsFrom 69 = .ok (.iload_n 2, 1) := by decide +kernel
theorem dX1_findsFrom_70 : decode cX1_findsFrom 70 = .ok (.iadd, 1) := by decide +kernel
theorem dX1_findsFrom_71 : decode cX1_findsFrom 71 = .ok (.invokestatic 38, 3) := by decide +kernel
theorem dX1_findsFrom_74 : decode cX1_findsFrom 74 = .ok (.istore 6, 2) := by decide +kernel
theorem dX1_findsFrom_76 : decode cX1_findsFrom 76 = .ok (.getstatic 44, 3) := by decide +kernel
theorem dX1_findsFrom_79 : decode cX1_findsFrom 79 = .ok (.iload_n 1, 1) := by decide +kernel
theorem dX1_findsFrom_80 : decode cX1_findsFrom 80 = .ok (.iaload, 1) := by decide +kernel
theorem dX1_findsFrom_81 : decode cX1_findsFrom 81 = .ok (.iload 5, 2) := by decide +kernel
theorem dX1_findsFrom_83 : decode cX1_findsFrom 83 = .ok (.iload_n 2, 1) := by decide +kernel
theorem dX1_findsFrom_84 : decode cX1_findsFrom 84 = .ok (.isub, 1) := by decide +kernel
theorem dX1_findsFrom_85 : decode cX1_findsFrom 85 = .ok (.invokestatic 47, 3) := by decide +kernel
theorem dX1_findsFrom_88 : decode cX1_findsFrom 88 = .ok (.istore 7, 2) := by decide +kernel
theorem dX1_findsFrom_90 : decode cX1_findsFrom 90 = .ok (.iload 7, 2) := by decide +kernel
theorem dX1_findsFrom_92 : decode cX1_findsFrom 92 = .ok (.iload 6, 2) := by decide +kernel
theorem dX1_findsFrom_94 : decode cX1_findsFrom 94 = .ok (.if_icmp .gt 44, 3) := by decide +kernel
theorem dX1_findsFrom_97 : decode cX1_findsFrom 97 = .ok (.aload_n 0, 1) := by decide +kernel
theorem dX1_findsFrom_98 : decode cX1_findsFrom 98 = .ok (.getfield 12, 3) := by decide +kernel
theorem dX1_findsFrom_101 : decode cX1_findsFrom 101 = .ok (.iload_n 1, 1) := by decide +kernel
theorem dX1_findsFrom_102 : decode cX1_findsFrom 102 = .ok (.iload 7, 2) := by decide +kernel
theorem dX1_findsFrom_104 : decode cX1_findsFrom 104 = .ok (.invokevirtual 30, 3) := by decide +kernel
theorem dX1_findsFrom_107 : decode cX1_findsFrom 107 = .ok (.aload_n 0, 1) := by decide +kernel
theorem dX1_findsFrom_108 : decode cX1_findsFrom 108 = .ok (.iload_n 1, 1) := by decide +kernel
theorem dX1_findsFrom_109 : decode cX1_findsFrom 109 = .ok (.iconst 1, 1) := by decide +kernel
theorem dX1_findsFrom_110 : decode cX1_findsFrom 110 = .ok (.iadd, 1) := by decide +kernel
theorem dX1_findsFrom_111 : decode cX1_findsFrom 111 = .ok (.iload_n 2, 1) := by decide +kernel
theorem dX1_findsFrom_112 : decode cX1_findsFrom 112 = .ok (.iload 7, 2) := by decide +kernel
theorem dX1_findsFrom_114 : decode cX1_findsFrom 114 = .ok (.iload 5, 2) := by decide +kernel
theorem dX1_findsFrom_116 : decode cX1_findsFrom 116 = .ok (.isub, 1) := by decide +kernel
theorem dX1_findsFrom_117 : decode cX1_findsFrom 117 = .ok (.invokestatic 50, 3) := by decide +kernel
theorem dX1_findsFrom_120 : decode cX1_findsFrom 120 = .ok (.isub, 1) := by decide +kernel
theorem dX1_findsFrom_121 : decode cX1_findsFrom 121 = .ok (.aload_n 3, 1) := by decide +kernel
theorem dX1_findsFrom_122 : decode cX1_findsFrom 122 = .ok (.iload 4, 2) := by decide +kernel
theorem dX1_findsFrom_124 : decode cX1_findsFrom 124 = .ok (.invokevirtual 18, 3) := by decide +kernel
theorem dX1_findsFrom_127 : decode cX1_findsFrom 127 = .ok (.ifCond .eq 5, 3) := by decide +kernel
theorem dX1_findsFrom_130 : decode cX1_findsFrom 130 = .ok (.iconst 1, 1) := by decide +kernel
theorem dX1_findsFrom_131 : decode cX1_findsFrom 131 = .ok (.ireturn, 1) := by decide +kernel
theorem dX1_findsFrom_132 : decode cX1_findsFrom 132 = .ok (.iinc 7 1, 3) := by decide +kernel
theorem dX1_findsFrom_135 : decode cX1_findsFrom 135 = .ok (.goto (-45), 3) := by decide +kernel
theorem dX1_findsFrom_138 : decode cX1_findsFrom 138 = .ok (.iconst 0, 1) := by decide +kernel
theorem dX1_findsFrom_139 : decode cX1_findsFrom 139 = .ok (.ireturn, 1) := by decide +kernel
set_option maxRecDepth 20000 in
theorem ggX2_init_X0_init : GoodIn wsX2_init wsX0_init := goodIn_r _ [12, 13, 2, 3, 8, 14, 15, 16, 17, 18, 23] (by decide +kernel) (by decide +kernel)
set_option maxRecDepth 20000 in
theorem gX2_init_X0_init_n11 : GoodIn wsX2_init (wsX0_init) := ggX2_init_X0_init
set_option maxRecDepth 20000 in
theorem ggX2_init_X2_changedIn : GoodIn wsX2_init wsX2_changedIn := goodIn_r _ [22] (by decide +kernel) (by decide +kernel)
set_option maxRecDepth 20000 in
theorem gX2_init_X2_changedIn : GoodIn wsX2_init (va_wsS RX2 25 yX2_changedIn wsX2_changedIn) := goodIn_app (goodIn_of _ (by decide +kernel)) ggX2_init_X2_changedIn
theorem dX2_init_0 : decode cX2_init 0 = .ok (.aload_n 0, 1) := by decide +kernel
theorem dX2_init_1 : decode cX2_init 1 = .ok (.invokespecial 3, 3) := by decide +kernel
theorem dX2_init_4 : decode cX2_init 4 = .ok (.aload_n 0, 1) := by decide +kernel
theorem dX2_init_5 : decode cX2_init 5 = .ok (.new 9, 3) := by decide +kernel
theorem dX2_init_8 : decode cX2_init 8 = .ok (.dup, 1) := by decide +kernel
theorem dX2_init_9 : decode cX2_init 9 = .ok (.invokespecial 11, 3) := by decide +kernel
theorem dX2_init_12 : decode cX2_init 12 = .ok (.putfield 12, 3) := by decide +kernel
theorem dX2_init_15 : decode cX2_init 15 = .ok (.aload_n 0, 1) := by decide +kernel
theorem dX2_init_16 : decode cX2_init 16 = .ok (.sipush 729, 3) := by decide +kernel
theorem dX2_init_19 : decode cX2_init 19 = .ok (.newarray .int, 2) := by decide +kernel
theorem dX2_init_21 : decode cX2_init 21 = .ok (.putfield 18, 3) := by decide +kernel
theorem dX2_init_24 : decode cX2_init 24 = .ok (.aload_n 0, 1) := by decide +kernel
theorem dX2_init_25 : decode cX2_init 25 = .ok (.sipush 729, 3) := by decide +kernel
theorem dX2_init_28 : decode cX2_init 28 = .ok (.newarray .int, 2) := by decide +kernel
theorem dX2_init_30 : decode cX2_init 30 = .ok (.putfield 22, 3) := by decide +kernel
theorem dX2_init_33 : decode cX2_init 33 = .ok (.iconst 0, 1) := by decide +kernel
theorem dX2_init_34 : decode cX2_init 34 = .ok (.istore_n 1, 1) := by decide +kernel
theorem dX2_init_35 : decode cX2_init 35 = .ok (.iload_n 1, 1) := by decide +kernel
theorem dX2_init_36 : decode cX2_init 36 = .ok (.sipush 729, 3) := by decide +kernel
theorem dX2_init_39 : decode cX2_init 39 = .ok (.if_icmp .ge 19, 3) := by decide +kernel
theorem dX2_init_42 : decode cX2_init 42 = .ok (.aload_n 0, 1) := by decide +kernel
theorem dX2_init_43 : decode cX2_init 43 = .ok (.getfield 18, 3) := by decide +kernel
theorem dX2_init_46 : decode cX2_init 46 = .ok (.iload_n 1, 1) := by decide +kernel
theorem dX2_init_47 : decode cX2_init 47 = .ok (.iload_n 1, 1) := by decide +kernel
theorem dX2_init_48 : decode cX2_init 48 = .ok (.invokestatic 25, 3) := by decide +kernel
theorem dX2_init_51 : decode cX2_init 51 = .ok (.iastore, 1) := by decide +kernel
theorem dX2_init_52 : decode cX2_init 52 = .ok (.iinc 1 1, 3) := by decide +kernel
theorem dX2_init_55 : decode cX2_init 55 = .ok (.goto (-20), 3) := by decide +kernel
theorem dX2_init_58 : decode cX2_init 58 = .ok (.return_, 1) := by decide +kernel
theorem dX2_changedIn_0 : decode cX2_changedIn 0 = .ok (.iconst 0, 1) := by decide +kernel
theorem dX2_changedIn_1 : decode cX2_changedIn 1 = .ok (.istore_n 1, 1) := by decide +kernel
theorem dX2_changedIn_2 : decode cX2_changedIn 2 = .ok (.iload_n 0, 1) := by decide +kernel
theorem dX2_changedIn_3 : decode cX2_changedIn 3 = .ok (.istore_n 2, 1) := by decide +kernel
theorem dX2_changedIn_4 : decode cX2_changedIn 4 = .ok (.iconst 0, 1) := by decide +kernel
theorem dX2_changedIn_5 : decode cX2_changedIn 5 = .ok (.istore_n 3, 1) := by decide +kernel
theorem dX2_changedIn_6 : decode cX2_changedIn 6 = .ok (.iload_n 3, 1) := by decide +kernel
theorem dX2_changedIn_7 : decode cX2_changedIn 7 = .ok (.bipush 6, 2) := by decide +kernel
theorem dX2_changedIn_9 : decode cX2_changedIn 9 = .ok (.if_icmp .ge 25, 3) := by decide +kernel
theorem dX2_changedIn_12 : decode cX2_changedIn 12 = .ok (.iload_n 2, 1) := by decide +kernel
theorem dX2_changedIn_13 : decode cX2_changedIn 13 = .ok (.iconst 3, 1) := by decide +kernel
theorem dX2_changedIn_14 : decode cX2_changedIn 14 = .ok (.irem, 1) := by decide +kernel
theorem dX2_changedIn_15 : decode cX2_changedIn 15 = .ok (.ifCond .eq 9, 3) := by decide +kernel
theorem dX2_changedIn_18 : decode cX2_changedIn 18 = .ok (.iload_n 1, 1) := by decide +kernel
theorem dX2_changedIn_19 : decode cX2_changedIn 19 = .ok (.iconst 1, 1) := by decide +kernel
theorem dX2_changedIn_20 : decode cX2_changedIn 20 = .ok (.iload_n 3, 1) := by decide +kernel
theorem dX2_changedIn_21 : decode cX2_changedIn 21 = .ok (.ishl, 1) := by decide +kernel
theorem dX2_changedIn_22 : decode cX2_changedIn 22 = .ok (.ior, 1) := by decide +kernel
theorem dX2_changedIn_23 : decode cX2_changedIn 23 = .ok (.istore_n 1, 1) := by decide +kernel
theorem dX2_changedIn_24 : decode cX2_changedIn 24 = .ok (.iload_n 2, 1) := by decide +kernel
theorem dX2_changedIn_25 : decode cX2_changedIn 25 = .ok (.iconst 3, 1) := by decide +kernel
theorem dX2_changedIn_26 : decode cX2_changedIn 26 = .ok (.idiv, 1) := by decide +kernel
theorem dX2_changedIn_27 : decode cX2_changedIn 27 = .ok (.istore_n 2, 1) := by decide +kernel
theorem dX2_changedIn_28 : decode cX2_changedIn 28 = .ok (.iinc 3 1, 3) := by decide +kernel
theorem dX2_changedIn_31 : decode cX2_changedIn 31 = .ok (.goto (-25), 3) := by decide +kernel
theorem dX2_changedIn_34 : decode cX2_changedIn 34 = .ok (.iload_n 1, 1) := by decide +kernel
theorem dX2_changedIn_35 : decode cX2_changedIn 35 = .ok (.ireturn, 1) := by decide +kernel
set_option maxRecDepth 20000 in
theorem ggX2_weigh_X2_mayBe : GoodIn wsX2_weigh wsX2_mayBe := goodIn_r _ [8, 3, 9, 10, 11, 12, 13, 14, 15, 16, 17, 18, 19, 20, 21, 22, 59, 60, 61, 62] (by decide +kernel) (by decide +kernel)
set_option maxRecDepth 20000 in
theorem gX2_weigh_X2_mayBe : GoodIn wsX2_weigh (wsV RX2 29 RX2 yX2_mayBe wsX2_mayBe) := goodIn_app (goodIn_of _ (by decide +kernel)) ggX2_weigh_X2_mayBe
set_option maxRecDepth 20000 in
theorem ggX2_weigh_X0_speedCount : GoodIn wsX2_weigh wsX0_speedCount := goodIn_r _ [25, 26, 27, 28, 10, 29, 13, 30, 31, 32, 33, 34, 35, 36, 37, 38, 39, 40, 41, 42, 43, 44, 45, 46, 47, 48, 49, 50, 51, 52, 53, 54, 55, 56, 57, 58, 62] (by decide +kernel) (by decide +kernel)
set_option maxRecDepth 20000 in
theorem gX2_weigh_X0_speedCount_n33 : GoodIn wsX2_weigh (wsX0_speedCount) := ggX2_weigh_X0_speedCount
theorem dX2_weigh_0 : decode cX2_weigh 0 = .ok (.iconst 0, 1) := by decide +kernel
theorem dX2_weigh_1 : decode cX2_weigh 1 = .ok (.istore_n 3, 1) := by decide +kernel
theorem dX2_weigh_2 : decode cX2_weigh 2 = .ok (.iload_n 3, 1) := by decide +kernel
theorem dX2_weigh_3 : decode cX2_weigh 3 = .ok (.sipush 729, 3) := by decide +kernel
theorem dX2_weigh_6 : decode cX2_weigh 6 = .ok (.if_icmp .ge 46, 3) := by decide +kernel
theorem dX2_weigh_9 : decode cX2_weigh 9 = .ok (.aload_n 0, 1) := by decide +kernel
theorem dX2_weigh_10 : decode cX2_weigh 10 = .ok (.getfield 18, 3) := by decide +kernel
theorem dX2_weigh_13 : decode cX2_weigh 13 = .ok (.iload_n 3, 1) := by decide +kernel
theorem dX2_weigh_14 : decode cX2_weigh 14 = .ok (.iaload, 1) := by decide +kernel
theorem dX2_weigh_15 : decode cX2_weigh 15 = .ok (.iload_n 2, 1) := by decide +kernel
theorem dX2_weigh_16 : decode cX2_weigh 16 = .ok (.iand, 1) := by decide +kernel
theorem dX2_weigh_17 : decode cX2_weigh 17 = .ok (.ifCond .ne 29, 3) := by decide +kernel
theorem dX2_weigh_20 : decode cX2_weigh 20 = .ok (.aload_n 0, 1) := by decide +kernel
theorem dX2_weigh_21 : decode cX2_weigh 21 = .ok (.getfield 22, 3) := by decide +kernel
theorem dX2_weigh_24 : decode cX2_weigh 24 = .ok (.iload_n 3, 1) := by decide +kernel
theorem dX2_weigh_25 : decode cX2_weigh 25 = .ok (.aload_n 0, 1) := by decide +kernel
theorem dX2_weigh_26 : decode cX2_weigh 26 = .ok (.aload_n 1, 1) := by decide +kernel
theorem dX2_weigh_27 : decode cX2_weigh 27 = .ok (.iload_n 3, 1) := by decide +kernel
theorem dX2_weigh_28 : decode cX2_weigh 28 = .ok (.invokevirtual 29, 3) := by decide +kernel
theorem dX2_weigh_31 : decode cX2_weigh 31 = .ok (.ifCond .eq 13, 3) := by decide +kernel
theorem dX2_weigh_34 : decode cX2_weigh 34 = .ok (.aload_n 0, 1) := by decide +kernel
theorem dX2_weigh_35 : decode cX2_weigh 35 = .ok (.getfield 12, 3) := by decide +kernel
theorem dX2_weigh_38 : decode cX2_weigh 38 = .ok (.invokevirtual 33, 3) := by decide +kernel
theorem dX2_weigh_41 : decode cX2_weigh 41 = .ok (.goto 4, 3) := by decide +kernel
theorem dX2_weigh_44 : decode cX2_weigh 44 = .ok (.iconst (-1), 1) := by decide +kernel
theorem dX2_weigh_45 : decode cX2_weigh 45 = .ok (.iastore, 1) := by decide +kernel
theorem dX2_weigh_46 : decode cX2_weigh 46 = .ok (.iinc 3 1, 3) := by decide +kernel
theorem dX2_weigh_49 : decode cX2_weigh 49 = .ok (.goto (-47), 3) := by decide +kernel
theorem dX2_weigh_52 : decode cX2_weigh 52 = .ok (.return_, 1) := by decide +kernel
set_option maxRecDepth 20000 in
theorem ggX2_mayBe_X0_valueOf : GoodIn wsX2_mayBe wsX0_valueOf := goodIn_r _ [5, 6, 7, 8, 9, 10, 11, 12, 19] (by decide +kernel) (by decide +kernel)
set_option maxRecDepth 20000 in
theorem gX2_mayBe_X0_valueOf_n37 : GoodIn wsX2_mayBe (wsX0_valueOf) := ggX2_mayBe_X0_valueOf
set_option maxRecDepth 20000 in
theorem ggX2_mayBe_X8_within : GoodIn wsX2_mayBe wsX8_within := goodIn_r _ [12] (by decide +kernel) (by decide +kernel)
set_option maxRecDepth 20000 in
theorem gX2_mayBe_X8_within_n46 : GoodIn wsX2_mayBe (wsX8_within) := ggX2_mayBe_X8_within
set_option maxRecDepth 20000 in
theorem ggX2_mayBe_X0_put : GoodIn wsX2_mayBe wsX0_put := goodIn_r _ [15, 6, 7, 8, 9, 10, 11, 12, 19] (by decide +kernel) (by decide +kernel)
set_option maxRecDepth 20000 in
theorem gX2_mayBe_X0_put_n50 : GoodIn wsX2_mayBe (wsX0_put) := ggX2_mayBe_X0_put
theorem dX2_mayBe_0 : decode cX2_mayBe 0 = .ok (.iload_n 2, 1) := by decide +kernel
theorem dX2_mayBe_1 : decode cX2_mayBe 1 = .ok (.istore_n 3, 1) := by decide +kernel
theorem dX2_mayBe_2 : decode cX2_mayBe 2 = .ok (.iconst 0, 1) := by decide +kernel
theorem dX2_mayBe_3 : decode cX2_mayBe 3 = .ok (.istore 4, 2) := by decide +kernel
theorem dX2_mayBe_5 : decode cX2_mayBe 5 = .ok (.iload 4, 2) := by decide +kernel
theorem dX2_mayBe_7 : decode cX2_mayBe 7 = .ok (.bipush 6, 2) := by decide +kernel
theorem dX2_mayBe_9 : decode cX2_mayBe 9 = .ok (.if_icmp .ge 73, 3) := by decide +kernel
theorem dX2_mayBe_12 : decode cX2_mayBe 12 = .ok (.iload_n 3, 1) := by decide +kernel
theorem dX2_mayBe_13 : decode cX2_mayBe 13 = .ok (.iconst 3, 1) := by decide +kernel
theorem dX2_mayBe_14 : decode cX2_mayBe 14 = .ok (.irem, 1) := by decide +kernel
theorem dX2_mayBe_15 : decode cX2_mayBe 15 = .ok (.istore 5, 2) := by decide +kernel
theorem dX2_mayBe_17 : decode cX2_mayBe 17 = .ok (.aload_n 1, 1) := by decide +kernel
theorem dX2_mayBe_18 : decode cX2_mayBe 18 = .ok (.iload 4, 2) := by decide +kernel
theorem dX2_mayBe_20 : decode cX2_mayBe 20 = .ok (.invokevirtual 37, 3) := by decide +kernel
theorem dX2_mayBe_23 : decode cX2_mayBe 23 = .ok (.iload 5, 2) := by decide +kernel
theorem dX2_mayBe_25 : decode cX2_mayBe 25 = .ok (.iconst 2, 1) := by decide +kernel
theorem dX2_mayBe_26 : decode cX2_mayBe 26 = .ok (.if_icmp .ne 7, 3) := by decide +kernel
theorem dX2_mayBe_29 : decode cX2_mayBe 29 = .ok (.iconst 1, 1) := by decide +kernel
theorem dX2_mayBe_30 : decode cX2_mayBe 30 = .ok (.goto 6, 3) := by decide +kernel
theorem dX2_mayBe_33 : decode cX2_mayBe 33 = .ok (.iload 5, 2) := by decide +kernel
theorem dX2_mayBe_35 : decode cX2_mayBe 35 = .ok (.ineg, 1) := by decide +kernel
theorem dX2_mayBe_36 : decode cX2_mayBe 36 = .ok (.iadd, 1) := by decide +kernel
theorem dX2_mayBe_37 : decode cX2_mayBe 37 = .ok (.istore 6, 2) := by decide +kernel
theorem dX2_mayBe_39 : decode cX2_mayBe 39 = .ok (.iload 6, 2) := by decide +kernel
theorem dX2_mayBe_41 : decode cX2_mayBe 41 = .ok (.getstatic 40, 3) := by decide +kernel
theorem dX2_mayBe_44 : decode cX2_mayBe 44 = .ok (.iload 4, 2) := by decide +kernel
theorem dX2_mayBe_46 : decode cX2_mayBe 46 = .ok (.iaload, 1) := by decide +kernel
theorem dX2_mayBe_47 : decode cX2_mayBe 47 = .ok (.getstatic 43, 3) := by decide +kernel
theorem dX2_mayBe_50 : decode cX2_mayBe 50 = .ok (.iload 4, 2) := by decide +kernel
theorem dX2_mayBe_52 : decode cX2_mayBe 52 = .ok (.iaload, 1) := by decide +kernel
theorem dX2_mayBe_53 : decode cX2_mayBe 53 = .ok (.invokestatic 46, 3) := by decide +kernel
theorem dX2_mayBe_56 : decode cX2_mayBe 56 = .ok (.ifCond .ne 5, 3) := by decide +kernel
theorem dX2_mayBe_59 : decode cX2_mayBe 59 = .ok (.iconst 0, 1) := by decide +kernel
theorem dX2_mayBe_60 : decode cX2_mayBe 60 = .ok (.ireturn, 1) := by decide +kernel
theorem dX2_mayBe_61 : decode cX2_mayBe 61 = .ok (.aload_n 0, 1) := by decide +kernel
theorem dX2_mayBe_62 : decode cX2_mayBe 62 = .ok (.getfield 12, 3) := by decide +kernel
theorem dX2_mayBe_65 : decode cX2_mayBe 65 = .ok (.iload 4, 2) := by decide +kernel
theorem dX2_mayBe_67 : decode cX2_mayBe 67 = .ok (.iload 6, 2) := by decide +kernel
theorem dX2_mayBe_69 : decode cX2_mayBe 69 = .ok (.invokevirtual 50, 3) := by decide +kernel
theorem dX2_mayBe_72 : decode cX2_mayBe 72 = .ok (.iload_n 3, 1) := by decide +kernel
theorem dX2_mayBe_73 : decode cX2_mayBe 73 = .ok (.iconst 3, 1) := by decide +kernel
theorem dX2_mayBe_74 : decode cX2_mayBe 74 = .ok (.idiv, 1) := by decide +kernel
theorem dX2_mayBe_75 : decode cX2_mayBe 75 = .ok (.istore_n 3, 1) := by decide +kernel
theorem dX2_mayBe_76 : decode cX2_mayBe 76 = .ok (.iinc 4 1, 3) := by decide +kernel
theorem dX2_mayBe_79 : decode cX2_mayBe 79 = .ok (.goto (-74), 3) := by decide +kernel
theorem dX2_mayBe_82 : decode cX2_mayBe 82 = .ok (.iconst 1, 1) := by decide +kernel
theorem dX2_mayBe_83 : decode cX2_mayBe 83 = .ok (.ireturn, 1) := by decide +kernel
theorem dX2_spreadOf_0 : decode cX2_spreadOf 0 = .ok (.aload_n 0, 1) := by decide +kernel
theorem dX2_spreadOf_1 : decode cX2_spreadOf 1 = .ok (.getfield 22, 3) := by decide +kernel
theorem dX2_spreadOf_4 : decode cX2_spreadOf 4 = .ok (.iconst 0, 1) := by decide +kernel
theorem dX2_spreadOf_5 : decode cX2_spreadOf 5 = .ok (.iaload, 1) := by decide +kernel
theorem dX2_spreadOf_6 : decode cX2_spreadOf 6 = .ok (.istore_n 2, 1) := by decide +kernel
theorem dX2_spreadOf_7 : decode cX2_spreadOf 7 = .ok (.aload_n 0, 1) := by decide +kernel
theorem dX2_spreadOf_8 : decode cX2_spreadOf 8 = .ok (.getfield 22, 3) := by decide +kernel
theorem dX2_spreadOf_11 : decode cX2_spreadOf 11 = .ok (.iconst 0, 1) := by decide +kernel
theorem dX2_spreadOf_12 : decode cX2_spreadOf 12 = .ok (.iaload, 1) := by decide +kernel
theorem dX2_spreadOf_13 : decode cX2_spreadOf 13 = .ok (.istore_n 3, 1) := by decide +kernel
theorem dX2_spreadOf_14 : decode cX2_spreadOf 14 = .ok (.iconst 1, 1) := by decide +kernel
theorem dX2_spreadOf_15 : decode cX2_spreadOf 15 = .ok (.istore 4, 2) := by decide +kernel
theorem dX2_spreadOf_17 : decode cX2_spreadOf 17 = .ok (.iload 4, 2) := by decide +kernel
theorem dX2_spreadOf_19 : decode cX2_spreadOf 19 = .ok (.sipush 729, 3) := by decide +kernel
theorem dX2_spreadOf_22 : decode cX2_spreadOf 22 = .ok (.if_icmp .ge 56, 3) := by decide +kernel
theorem dX2_spreadOf_25 : decode cX2_spreadOf 25 = .ok (.aload_n 0, 1) := by decide +kernel
theorem dX2_spreadOf_26 : decode cX2_spreadOf 26 = .ok (.getfield 18, 3) := by decide +kernel
theorem dX2_spreadOf_29 : decode cX2_spreadOf 29 = .ok (.iload 4, 2) := by decide +kernel
theorem dX2_spreadOf_31 : decode cX2_spreadOf 31 = .ok (.iaload, 1) := by decide +kernel
theorem dX2_spreadOf_32 : decode cX2_spreadOf 32 = .ok (.iload_n 1, 1) := by decide +kernel
theorem dX2_spreadOf_33 : decode cX2_spreadOf 33 = .ok (.iand, 1) := by decide +kernel
theorem dX2_spreadOf_34 : decode cX2_spreadOf 34 = .ok (.ifCond .ne 38, 3) := by decide +kernel
theorem dX2_spreadOf_37 : decode cX2_spreadOf 37 = .ok (.aload_n 0, 1) := by decide +kernel
theorem dX2_spreadOf_38 : decode cX2_spreadOf 38 = .ok (.getfield 22, 3) := by decide +kernel
theorem dX2_spreadOf_41 : decode cX2_spreadOf 41 = .ok (.iload 4, 2) := by decide +kernel
theorem dX2_spreadOf_43 : decode cX2_spreadOf 43 = .ok (.iaload, 1) := by decide +kernel
theorem dX2_spreadOf_44 : decode cX2_spreadOf 44 = .ok (.iconst (-1), 1) := by decide +kernel
theorem dX2_spreadOf_45 : decode cX2_spreadOf 45 = .ok (.if_icmp .eq 27, 3) := by decide +kernel
theorem dX2_spreadOf_48 : decode cX2_spreadOf 48 = .ok (.iload_n 2, 1) := by decide +kernel
theorem dX2_spreadOf_49 : decode cX2_spreadOf 49 = .ok (.aload_n 0, 1) := by decide +kernel
theorem dX2_spreadOf_50 : decode cX2_spreadOf 50 = .ok (.getfield 22, 3) := by decide +kernel
theorem dX2_spreadOf_53 : decode cX2_spreadOf 53 = .ok (.iload 4, 2) := by decide +kernel
theorem dX2_spreadOf_55 : decode cX2_spreadOf 55 = .ok (.iaload, 1) := by decide +kernel
theorem dX2_spreadOf_56 : decode cX2_spreadOf 56 = .ok (.invokestatic 54, 3) := by decide +kernel
theorem dX2_spreadOf_59 : decode cX2_spreadOf 59 = .ok (.istore_n 2, 1) := by decide +kernel
theorem dX2_spreadOf_60 : decode cX2_spreadOf 60 = .ok (.iload_n 3, 1) := by decide +kernel
theorem dX2_spreadOf_61 : decode cX2_spreadOf 61 = .ok (.aload_n 0, 1) := by decide +kernel
theorem dX2_spreadOf_62 : decode cX2_spreadOf 62 = .ok (.getfield 22, 3) := by decide +kernel
theorem dX2_spreadOf_65 : decode cX2_spreadOf 65 = .ok (.iload 4, 2) := by decide +kernel
theorem dX2_spreadOf_67 : decode cX2_spreadOf 67 = .ok (.iaload, 1) := by decide +kernel
theorem dX2_spreadOf_68 : decode cX2_spreadOf 68 = .ok (.invokestatic 60, 3) := by decide +kernel
theorem dX2_spreadOf_71 : decode cX2_spreadOf 71 = .ok (.istore_n 3, 1) := by decide +kernel
theorem dX2_spreadOf_72 : decode cX2_spreadOf 72 = .ok (.iinc 4 1, 3) := by decide +kernel
theorem dX2_spreadOf_75 : decode cX2_spreadOf 75 = .ok (.goto (-58), 3) := by decide +kernel
theorem dX2_spreadOf_78 : decode cX2_spreadOf 78 = .ok (.iload_n 3, 1) := by decide +kernel
theorem dX2_spreadOf_79 : decode cX2_spreadOf 79 = .ok (.iload_n 2, 1) := by decide +kernel
theorem dX2_spreadOf_80 : decode cX2_spreadOf 80 = .ok (.isub, 1) := by decide +kernel
theorem dX2_spreadOf_81 : decode cX2_spreadOf 81 = .ok (.ireturn, 1) := by decide +kernel
set_option maxRecDepth 20000 in
theorem ggX2_fewestFor_J6_bitCount_0f7a4 : GoodIn wsX2_fewestFor wsJ6_bitCount_0f7a4 := goodIn_r _ [4, 5, 6, 7] (by decide +kernel) (by decide +kernel)
set_option maxRecDepth 20000 in
theorem gX2_fewestFor_J6_bitCount_0f7a4 : GoodIn wsX2_fewestFor (va_wsS RX2 63 yJ6_bitCount_0f7a4 wsJ6_bitCount_0f7a4) := goodIn_app (goodIn_of _ (by decide +kernel)) ggX2_fewestFor_J6_bitCount_0f7a4
set_option maxRecDepth 20000 in
theorem ggX2_fewestFor_X2_spreadOf : GoodIn wsX2_fewestFor wsX2_spreadOf := goodIn_r _ [12, 13, 14, 15, 16, 17, 18, 19, 20, 21, 22, 23, 24] (by decide +kernel) (by decide +kernel)
set_option maxRecDepth 20000 in
theorem gX2_fewestFor_X2_spreadOf : GoodIn wsX2_fewestFor (wsV RX2 68 RX2 yX2_spreadOf wsX2_spreadOf) := goodIn_app (goodIn_of _ (by decide +kernel)) ggX2_fewestFor_X2_spreadOf
theorem dX2_fewestFor_0 : decode cX2_fewestFor 0 = .ok (.bipush 63, 2) := by decide +kernel
theorem dX2_fewestFor_2 : decode cX2_fewestFor 2 = .ok (.istore_n 2, 1) := by decide +kernel
theorem dX2_fewestFor_3 : decode cX2_fewestFor 3 = .ok (.iconst 0, 1) := by decide +kernel
theorem dX2_fewestFor_4 : decode cX2_fewestFor 4 = .ok (.istore_n 3, 1) := by decide +kernel
theorem dX2_fewestFor_5 : decode cX2_fewestFor 5 = .ok (.iload_n 3, 1) := by decide +kernel
theorem dX2_fewestFor_6 : decode cX2_fewestFor 6 = .ok (.bipush 64, 2) := by decide +kernel
theorem dX2_fewestFor_8 : decode cX2_fewestFor 8 = .ok (.if_icmp .ge 31, 3) := by decide +kernel
theorem dX2_fewestFor_11 : decode cX2_fewestFor 11 = .ok (.iload_n 3, 1) := by decide +kernel
theorem dX2_fewestFor_12 : decode cX2_fewestFor 12 = .ok (.invokestatic 63, 3) := by decide +kernel
theorem dX2_fewestFor_15 : decode cX2_fewestFor 15 = .ok (.iload_n 2, 1) := by decide +kernel
theorem dX2_fewestFor_16 : decode cX2_fewestFor 16 = .ok (.invokestatic 63, 3) := by decide +kernel
theorem dX2_fewestFor_19 : decode cX2_fewestFor 19 = .ok (.if_icmp .ge 14, 3) := by decide +kernel
theorem dX2_fewestFor_22 : decode cX2_fewestFor 22 = .ok (.aload_n 0, 1) := by decide +kernel
theorem dX2_fewestFor_23 : decode cX2_fewestFor 23 = .ok (.iload_n 3, 1) := by decide +kernel
theorem dX2_fewestFor_24 : decode cX2_fewestFor 24 = .ok (.invokevirtual 68, 3) := by decide +kernel
theorem dX2_fewestFor_27 : decode cX2_fewestFor 27 = .ok (.iload_n 1, 1) := by decide +kernel
theorem dX2_fewestFor_28 : decode cX2_fewestFor 28 = .ok (.if_icmp .gt 5, 3) := by decide +kernel
theorem dX2_fewestFor_31 : decode cX2_fewestFor 31 = .ok (.iload_n 3, 1) := by decide +kernel
theorem dX2_fewestFor_32 : decode cX2_fewestFor 32 = .ok (.istore_n 2, 1) := by decide +kernel
theorem dX2_fewestFor_33 : decode cX2_fewestFor 33 = .ok (.iinc 3 1, 3) := by decide +kernel
theorem dX2_fewestFor_36 : decode cX2_fewestFor 36 = .ok (.goto (-31), 3) := by decide +kernel
theorem dX2_fewestFor_39 : decode cX2_fewestFor 39 = .ok (.iload_n 2, 1) := by decide +kernel
theorem dX2_fewestFor_40 : decode cX2_fewestFor 40 = .ok (.ireturn, 1) := by decide +kernel
theorem dX3_init_0 : decode cX3_init 0 = .ok (.aload_n 0, 1) := by decide +kernel
theorem dX3_init_1 : decode cX3_init 1 = .ok (.invokespecial 1, 3) := by decide +kernel
theorem dX3_init_4 : decode cX3_init 4 = .ok (.aload_n 0, 1) := by decide +kernel
theorem dX3_init_5 : decode cX3_init 5 = .ok (.iconst 2, 1) := by decide +kernel
theorem dX3_init_6 : decode cX3_init 6 = .ok (.newarray .int, 2) := by decide +kernel
theorem dX3_init_8 : decode cX3_init 8 = .ok (.dup, 1) := by decide +kernel
theorem dX3_init_9 : decode cX3_init 9 = .ok (.iconst 0, 1) := by decide +kernel
theorem dX3_init_10 : decode cX3_init 10 = .ok (.bipush 100, 2) := by decide +kernel
theorem dX3_init_12 : decode cX3_init 12 = .ok (.iastore, 1) := by decide +kernel
theorem dX3_init_13 : decode cX3_init 13 = .ok (.dup, 1) := by decide +kernel
theorem dX3_init_14 : decode cX3_init 14 = .ok (.iconst 1, 1) := by decide +kernel
theorem dX3_init_15 : decode cX3_init 15 = .ok (.iconst 0, 1) := by decide +kernel
theorem dX3_init_16 : decode cX3_init 16 = .ok (.iastore, 1) := by decide +kernel
theorem dX3_init_17 : decode cX3_init 17 = .ok (.putfield 9, 3) := by decide +kernel
theorem dX3_init_20 : decode cX3_init 20 = .ok (.aload_n 0, 1) := by decide +kernel
theorem dX3_init_21 : decode cX3_init 21 = .ok (.iconst 2, 1) := by decide +kernel
theorem dX3_init_22 : decode cX3_init 22 = .ok (.newarray .boolean, 2) := by decide +kernel
theorem dX3_init_24 : decode cX3_init 24 = .ok (.dup, 1) := by decide +kernel
theorem dX3_init_25 : decode cX3_init 25 = .ok (.iconst 0, 1) := by decide +kernel
theorem dX3_init_26 : decode cX3_init 26 = .ok (.iconst 1, 1) := by decide +kernel
theorem dX3_init_27 : decode cX3_init 27 = .ok (.bastore, 1) := by decide +kernel
theorem dX3_init_28 : decode cX3_init 28 = .ok (.dup, 1) := by decide +kernel
theorem dX3_init_29 : decode cX3_init 29 = .ok (.iconst 1, 1) := by decide +kernel
theorem dX3_init_30 : decode cX3_init 30 = .ok (.iconst 0, 1) := by decide +kernel
theorem dX3_init_31 : decode cX3_init 31 = .ok (.bastore, 1) := by decide +kernel
theorem dX3_init_32 : decode cX3_init 32 = .ok (.putfield 13, 3) := by decide +kernel
theorem dX3_init_35 : decode cX3_init 35 = .ok (.return_, 1) := by decide +kernel
set_option maxRecDepth 20000 in
theorem ggX3_valueOf_X8_isBar : GoodIn wsX3_valueOf wsX8_isBar := goodIn_r _ [4, 5, 6, 3, 7] (by decide +kernel) (by decide +kernel)
set_option maxRecDepth 20000 in
theorem gX3_valueOf_X8_isBar_n17 : GoodIn wsX3_valueOf (wsX8_isBar) := ggX3_valueOf_X8_isBar
theorem dX3_valueOf_0 : decode cX3_valueOf 0 = .ok (.iload_n 1, 1) := by decide +kernel
theorem dX3_valueOf_1 : decode cX3_valueOf 1 = .ok (.invokestatic 17, 3) := by decide +kernel
theorem dX3_valueOf_4 : decode cX3_valueOf 4 = .ok (.ifCond .eq 12, 3) := by decide +kernel
theorem dX3_valueOf_7 : decode cX3_valueOf 7 = .ok (.aload_n 0, 1) := by decide +kernel
theorem dX3_valueOf_8 : decode cX3_valueOf 8 = .ok (.getfield 9, 3) := by decide +kernel
theorem dX3_valueOf_11 : decode cX3_valueOf 11 = .ok (.iload_n 1, 1) := by decide +kernel
theorem dX3_valueOf_12 : decode cX3_valueOf 12 = .ok (.iaload, 1) := by decide +kernel
theorem dX3_valueOf_13 : decode cX3_valueOf 13 = .ok (.goto 4, 3) := by decide +kernel
theorem dX3_valueOf_16 : decode cX3_valueOf 16 = .ok (.iconst 0, 1) := by decide +kernel
theorem dX3_valueOf_17 : decode cX3_valueOf 17 = .ok (.ireturn, 1) := by decide +kernel
set_option maxRecDepth 20000 in
theorem ggX3_practise_X8_isBar : GoodIn wsX3_practise wsX8_isBar := goodIn_r _ [12, 13, 14, 11, 15] (by decide +kernel) (by decide +kernel)
set_option maxRecDepth 20000 in
theorem gX3_practise_X8_isBar_n17 : GoodIn wsX3_practise (wsX8_isBar) := ggX3_practise_X8_isBar
theorem dX3_practise_0 : decode cX3_practise 0 = .ok (.iload_n 1, 1) := by decide +kernel
theorem dX3_practise_1 : decode cX3_practise 1 = .ok (.invokestatic 17, 3) := by decide +kernel
theorem dX3_practise_4 : decode cX3_practise 4 = .ok (.ifCond .ne 4, 3) := by decide +kernel
theorem dX3_practise_7 : decode cX3_practise 7 = .ok (.return_, 1) := by decide +kernel
theorem dX3_practise_8 : decode cX3_practise 8 = .ok (.iconst 1, 1) := by decide +kernel
theorem dX3_practise_9 : decode cX3_practise 9 = .ok (.iload_n 1, 1) := by decide +kernel
theorem dX3_practise_10 : decode cX3_practise 10 = .ok (.isub, 1) := by decide +kernel
theorem dX3_practise_11 : decode cX3_practise 11 = .ok (.istore 4, 2) := by decide +kernel
theorem dX3_practise_13 : decode cX3_practise 13 = .ok (.aload_n 0, 1) := by decide +kernel
theorem dX3_practise_14 : decode cX3_practise 14 = .ok (.getfield 9, 3) := by decide +kernel
theorem dX3_practise_17 : decode cX3_practise 17 = .ok (.iload_n 1, 1) := by decide +kernel
theorem dX3_practise_18 : decode cX3_practise 18 = .ok (.aload_n 0, 1) := by decide +kernel
theorem dX3_practise_19 : decode cX3_practise 19 = .ok (.getfield 13, 3) := by decide +kernel
theorem dX3_practise_22 : decode cX3_practise 22 = .ok (.iload_n 1, 1) := by decide +kernel
theorem dX3_practise_23 : decode cX3_practise 23 = .ok (.baload, 1) := by decide +kernel
theorem dX3_practise_24 : decode cX3_practise 24 = .ok (.ifCond .eq 8, 3) := by decide +kernel
theorem dX3_practise_27 : decode cX3_practise 27 = .ok (.bipush 100, 2) := by decide +kernel
theorem dX3_practise_29 : decode cX3_practise 29 = .ok (.goto 16, 3) := by decide +kernel
theorem dX3_practise_32 : decode cX3_practise 32 = .ok (.bipush 100, 2) := by decide +kernel
theorem dX3_practise_34 : decode cX3_practise 34 = .ok (.aload_n 0, 1) := by decide +kernel
theorem dX3_practise_35 : decode cX3_practise 35 = .ok (.getfield 9, 3) := by decide +kernel
theorem dX3_practise_38 : decode cX3_practise 38 = .ok (.iload_n 1, 1) := by decide +kernel
theorem dX3_practise_39 : decode cX3_practise 39 = .ok (.iaload, 1) := by decide +kernel
theorem dX3_practise_40 : decode cX3_practise 40 = .ok (.iload_n 2, 1) := by decide +kernel
theorem dX3_practise_41 : decode cX3_practise 41 = .ok (.iadd, 1) := by decide +kernel
theorem dX3_practise_42 : decode cX3_practise 42 = .ok (.invokestatic 23, 3) := by decide +kernel
theorem dX3_practise_45 : decode cX3_practise 45 = .ok (.iastore, 1) := by decide +kernel
theorem dX3_practise_46 : decode cX3_practise 46 = .ok (.aload_n 0, 1) := by decide +kernel
theorem dX3_practise_47 : decode cX3_practise 47 = .ok (.getfield 13, 3) := by decide +kernel
theorem dX3_practise_50 : decode cX3_practise 50 = .ok (.iload_n 1, 1) := by decide +kernel
theorem dX3_practise_51 : decode cX3_practise 51 = .ok (.aload_n 0, 1) := by decide +kernel
theorem dX3_practise_52 : decode cX3_practise 52 = .ok (.getfield 9, 3) := by decide +kernel
theorem dX3_practise_55 : decode cX3_practise 55 = .ok (.iload_n 1, 1) := by decide +kernel
theorem dX3_practise_56 : decode cX3_practise 56 = .ok (.iaload, 1) := by decide +kernel
theorem dX3_practise_57 : decode cX3_practise 57 = .ok (.bipush 100, 2) := by decide +kernel
theorem dX3_practise_59 : decode cX3_practise 59 = .ok (.if_icmp .ne 7, 3) := by decide +kernel
theorem dX3_practise_62 : decode cX3_practise 62 = .ok (.iconst 1, 1) := by decide +kernel
theorem dX3_practise_63 : decode cX3_practise 63 = .ok (.goto 4, 3) := by decide +kernel
theorem dX3_practise_66 : decode cX3_practise 66 = .ok (.iconst 0, 1) := by decide +kernel
theorem dX3_practise_67 : decode cX3_practise 67 = .ok (.bastore, 1) := by decide +kernel
theorem dX3_practise_68 : decode cX3_practise 68 = .ok (.aload_n 0, 1) := by decide +kernel
theorem dX3_practise_69 : decode cX3_practise 69 = .ok (.getfield 9, 3) := by decide +kernel
theorem dX3_practise_72 : decode cX3_practise 72 = .ok (.iload 4, 2) := by decide +kernel
theorem dX3_practise_74 : decode cX3_practise 74 = .ok (.iconst 0, 1) := by decide +kernel
theorem dX3_practise_75 : decode cX3_practise 75 = .ok (.aload_n 0, 1) := by decide +kernel
theorem dX3_practise_76 : decode cX3_practise 76 = .ok (.getfield 9, 3) := by decide +kernel
theorem dX3_practise_79 : decode cX3_practise 79 = .ok (.iload 4, 2) := by decide +kernel
theorem dX3_practise_81 : decode cX3_practise 81 = .ok (.iaload, 1) := by decide +kernel
theorem dX3_practise_82 : decode cX3_practise 82 = .ok (.iload_n 3, 1) := by decide +kernel
theorem dX3_practise_83 : decode cX3_practise 83 = .ok (.isub, 1) := by decide +kernel
theorem dX3_practise_84 : decode cX3_practise 84 = .ok (.invokestatic 29, 3) := by decide +kernel
theorem dX3_practise_87 : decode cX3_practise 87 = .ok (.iastore, 1) := by decide +kernel
theorem dX3_practise_88 : decode cX3_practise 88 = .ok (.return_, 1) := by decide +kernel
set_option maxRecDepth 20000 in
theorem ggX3_weeksTillWhole_X8_isBar : GoodIn wsX3_weeksTillWhole wsX8_isBar := goodIn_r _ [12, 13, 14, 11, 15] (by decide +kernel) (by decide +kernel)
set_option maxRecDepth 20000 in
theorem gX3_weeksTillWhole_X8_isBar_n17 : GoodIn wsX3_weeksTillWhole (wsX8_isBar) := ggX3_weeksTillWhole_X8_isBar
theorem dX3_weeksTillWhole_0 : decode cX3_weeksTillWhole 0 = .ok (.iload_n 1, 1) := by decide +kernel
theorem dX3_weeksTillWhole_1 : decode cX3_weeksTillWhole 1 = .ok (.invokestatic 17, 3) := by decide +kernel
theorem dX3_weeksTillWhole_4 : decode cX3_weeksTillWhole 4 = .ok (.ifCond .ne 5, 3) := by decide +kernel
theorem dX3_weeksTillWhole_7 : decode cX3_weeksTillWhole 7 = .ok (.iconst 0, 1) := by decide +kernel
theorem dX3_weeksTillWhole_8 : decode cX3_weeksTillWhole 8 = .ok (.ireturn, 1) := by decide +kernel
theorem dX3_weeksTillWhole_9 : decode cX3_weeksTillWhole 9 = .ok (.bipush 100, 2) := by decide +kernel
theorem dX3_weeksTillWhole_11 : decode cX3_weeksTillWhole 11 = .ok (.aload_n 0, 1) := by decide +kernel
theorem dX3_weeksTillWhole_12 : decode cX3_weeksTillWhole 12 = .ok (.getfield 9, 3) := by decide +kernel
theorem dX3_weeksTillWhole_15 : decode cX3_weeksTillWhole 15 = .ok (.iload_n 1, 1) := by decide +kernel
theorem dX3_weeksTillWhole_16 : decode cX3_weeksTillWhole 16 = .ok (.iaload, 1) := by decide +kernel
theorem dX3_weeksTillWhole_17 : decode cX3_weeksTillWhole 17 = .ok (.isub, 1) := by decide +kernel
theorem dX3_weeksTillWhole_18 : decode cX3_weeksTillWhole 18 = .ok (.istore_n 3, 1) := by decide +kernel
theorem dX3_weeksTillWhole_19 : decode cX3_weeksTillWhole 19 = .ok (.aload_n 0, 1) := by decide +kernel
theorem dX3_weeksTillWhole_20 : decode cX3_weeksTillWhole 20 = .ok (.getfield 13, 3) := by decide +kernel
theorem dX3_weeksTillWhole_23 : decode cX3_weeksTillWhole 23 = .ok (.iload_n 1, 1) := by decide +kernel
theorem dX3_weeksTillWhole_24 : decode cX3_weeksTillWhole 24 = .ok (.baload, 1) := by decide +kernel
theorem dX3_weeksTillWhole_25 : decode cX3_weeksTillWhole 25 = .ok (.ifCond .eq 9, 3) := by decide +kernel
theorem dX3_weeksTillWhole_28 : decode cX3_weeksTillWhole 28 = .ok (.iconst 1, 1) := by decide +kernel
theorem dX3_weeksTillWhole_29 : decode cX3_weeksTillWhole 29 = .ok (.iload_n 3, 1) := by decide +kernel
theorem dX3_weeksTillWhole_30 : decode cX3_weeksTillWhole 30 = .ok (.invokestatic 23, 3) := by decide +kernel
theorem dX3_weeksTillWhole_33 : decode cX3_weeksTillWhole 33 = .ok (.ireturn, 1) := by decide +kernel
theorem dX3_weeksTillWhole_34 : decode cX3_weeksTillWhole 34 = .ok (.iconst 1, 1) := by decide +kernel
theorem dX3_weeksTillWhole_35 : decode cX3_weeksTillWhole 35 = .ok (.iload_n 2, 1) := by decide +kernel
theorem dX3_weeksTillWhole_36 : decode cX3_weeksTillWhole 36 = .ok (.invokestatic 29, 3) := by decide +kernel
theorem dX3_weeksTillWhole_39 : decode cX3_weeksTillWhole 39 = .ok (.istore 4, 2) := by decide +kernel
theorem dX3_weeksTillWhole_41 : decode cX3_weeksTillWhole 41 = .ok (.iload_n 3, 1) := by decide +kernel
theorem dX3_weeksTillWhole_42 : decode cX3_weeksTillWhole 42 = .ok (.iload 4, 2) := by decide +kernel
theorem dX3_weeksTillWhole_44 : decode cX3_weeksTillWhole 44 = .ok (.iadd, 1) := by decide +kernel
theorem dX3_weeksTillWhole_45 : decode cX3_weeksTillWhole 45 = .ok (.iconst 1, 1) := by decide +kernel
theorem dX3_weeksTillWhole_46 : decode cX3_weeksTillWhole 46 = .ok (.isub, 1) := by decide +kernel
theorem dX3_weeksTillWhole_47 : decode cX3_weeksTillWhole 47 = .ok (.iload 4, 2) := by decide +kernel
theorem dX3_weeksTillWhole_49 : decode cX3_weeksTillWhole 49 = .ok (.idiv, 1) := by decide +kernel
theorem dX3_weeksTillWhole_50 : decode cX3_weeksTillWhole 50 = .ok (.ireturn, 1) := by decide +kernel
theorem dX3_copyFrom_0 : decode cX3_copyFrom 0 = .ok (.iconst 0, 1) := by decide +kernel
theorem dX3_copyFrom_1 : decode cX3_copyFrom 1 = .ok (.istore_n 2, 1) := by decide +kernel
theorem dX3_copyFrom_2 : decode cX3_copyFrom 2 = .ok (.iload_n 2, 1) := by decide +kernel
theorem dX3_copyFrom_3 : decode cX3_copyFrom 3 = .ok (.iconst 2, 1) := by decide +kernel
theorem dX3_copyFrom_4 : decode cX3_copyFrom 4 = .ok (.if_icmp .ge 33, 3) := by decide +kernel
theorem dX3_copyFrom_7 : decode cX3_copyFrom 7 = .ok (.aload_n 0, 1) := by decide +kernel
theorem dX3_copyFrom_8 : decode cX3_copyFrom 8 = .ok (.getfield 9, 3) := by decide +kernel
theorem dX3_copyFrom_11 : decode cX3_copyFrom 11 = .ok (.iload_n 2, 1) := by decide +kernel
theorem dX3_copyFrom_12 : decode cX3_copyFrom 12 = .ok (.aload_n 1, 1) := by decide +kernel
theorem dX3_copyFrom_13 : decode cX3_copyFrom 13 = .ok (.getfield 9, 3) := by decide +kernel
theorem dX3_copyFrom_16 : decode cX3_copyFrom 16 = .ok (.iload_n 2, 1) := by decide +kernel
theorem dX3_copyFrom_17 : decode cX3_copyFrom 17 = .ok (.iaload, 1) := by decide +kernel
theorem dX3_copyFrom_18 : decode cX3_copyFrom 18 = .ok (.iastore, 1) := by decide +kernel
theorem dX3_copyFrom_19 : decode cX3_copyFrom 19 = .ok (.aload_n 0, 1) := by decide +kernel
theorem dX3_copyFrom_20 : decode cX3_copyFrom 20 = .ok (.getfield 13, 3) := by decide +kernel
theorem dX3_copyFrom_23 : decode cX3_copyFrom 23 = .ok (.iload_n 2, 1) := by decide +kernel
theorem dX3_copyFrom_24 : decode cX3_copyFrom 24 = .ok (.aload_n 1, 1) := by decide +kernel
theorem dX3_copyFrom_25 : decode cX3_copyFrom 25 = .ok (.getfield 13, 3) := by decide +kernel
theorem dX3_copyFrom_28 : decode cX3_copyFrom 28 = .ok (.iload_n 2, 1) := by decide +kernel
theorem dX3_copyFrom_29 : decode cX3_copyFrom 29 = .ok (.baload, 1) := by decide +kernel
theorem dX3_copyFrom_30 : decode cX3_copyFrom 30 = .ok (.bastore, 1) := by decide +kernel
theorem dX3_copyFrom_31 : decode cX3_copyFrom 31 = .ok (.iinc 2 1, 3) := by decide +kernel
theorem dX3_copyFrom_34 : decode cX3_copyFrom 34 = .ok (.goto (-32), 3) := by decide +kernel
theorem dX3_copyFrom_37 : decode cX3_copyFrom 37 = .ok (.return_, 1) := by decide +kernel
set_option maxRecDepth 20000 in
theorem ggX4_init_X6_init : GoodIn wsX4_init wsX6_init := goodIn_r _ [14, 15, 2, 3, 16, 17, 18, 19, 20, 21, 22, 23, 24, 25, 26, 27, 28, 29, 36, 37, 38, 39, 40, 41, 42, 43, 44, 45, 46, 47, 48] (by decide +kernel) (by decide +kernel)
set_option maxRecDepth 20000 in
theorem gX4_init_X6_init_n9 : GoodIn wsX4_init (wsX6_init) := ggX4_init_X6_init
set_option maxRecDepth 20000 in
theorem ggX4_init_X3_init : GoodIn wsX4_init wsX3_init := goodIn_r _ [31, 32, 2, 3, 26, 33, 34, 35, 52, 53] (by decide +kernel) (by decide +kernel)
set_option maxRecDepth 20000 in
theorem gX4_init_X3_init_n18 : GoodIn wsX4_init (wsX3_init) := ggX4_init_X3_init
theorem dX4_init_0 : decode cX4_init 0 = .ok (.aload_n 0, 1) := by decide +kernel
theorem dX4_init_1 : decode cX4_init 1 = .ok (.invokespecial 1, 3) := by decide +kernel
theorem dX4_init_4 : decode cX4_init 4 = .ok (.aload_n 0, 1) := by decide +kernel
theorem dX4_init_5 : decode cX4_init 5 = .ok (.new 7, 3) := by decide +kernel
theorem dX4_init_8 : decode cX4_init 8 = .ok (.dup, 1) := by decide +kernel
theorem dX4_init_9 : decode cX4_init 9 = .ok (.invokespecial 9, 3) := by decide +kernel
theorem dX4_init_12 : decode cX4_init 12 = .ok (.putfield 10, 3) := by decide +kernel
theorem dX4_init_15 : decode cX4_init 15 = .ok (.aload_n 0, 1) := by decide +kernel
theorem dX4_init_16 : decode cX4_init 16 = .ok (.new 16, 3) := by decide +kernel
theorem dX4_init_19 : decode cX4_init 19 = .ok (.dup, 1) := by decide +kernel
theorem dX4_init_20 : decode cX4_init 20 = .ok (.invokespecial 18, 3) := by decide +kernel
theorem dX4_init_23 : decode cX4_init 23 = .ok (.putfield 19, 3) := by decide +kernel
theorem dX4_init_26 : decode cX4_init 26 = .ok (.aload_n 0, 1) := by decide +kernel
theorem dX4_init_27 : decode cX4_init 27 = .ok (.iconst 0, 1) := by decide +kernel
theorem dX4_init_28 : decode cX4_init 28 = .ok (.putfield 23, 3) := by decide +kernel
theorem dX4_init_31 : decode cX4_init 31 = .ok (.return_, 1) := by decide +kernel
set_option maxRecDepth 20000 in
theorem ggX4_take_X6_copyFrom : GoodIn wsX4_take wsX6_copyFrom := goodIn_r _ [7, 8, 9, 10, 11, 12, 13, 14, 15, 16, 17, 18, 19, 20, 21, 22, 23, 24, 34, 35, 36, 37, 38, 39, 40, 41, 42, 43, 44, 45, 46] (by decide +kernel) (by decide +kernel)
set_option maxRecDepth 20000 in
theorem gX4_take_X6_copyFrom_n27 : GoodIn wsX4_take (wsX6_copyFrom) := ggX4_take_X6_copyFrom
set_option maxRecDepth 20000 in
theorem ggX4_take_X3_copyFrom : GoodIn wsX4_take wsX3_copyFrom := goodIn_r _ [28, 29, 30, 47, 48] (by decide +kernel) (by decide +kernel)
set_option maxRecDepth 20000 in
theorem gX4_take_X3_copyFrom_n31 : GoodIn wsX4_take (wsX3_copyFrom) := ggX4_take_X3_copyFrom
theorem dX4_take_0 : decode cX4_take 0 = .ok (.aload_n 0, 1) := by decide +kernel
theorem dX4_take_1 : decode cX4_take 1 = .ok (.getfield 10, 3) := by decide +kernel
theorem dX4_take_4 : decode cX4_take 4 = .ok (.aload_n 1, 1) := by decide +kernel
theorem dX4_take_5 : decode cX4_take 5 = .ok (.invokevirtual 27, 3) := by decide +kernel
theorem dX4_take_8 : decode cX4_take 8 = .ok (.aload_n 0, 1) := by decide +kernel
theorem dX4_take_9 : decode cX4_take 9 = .ok (.getfield 19, 3) := by decide +kernel
theorem dX4_take_12 : decode cX4_take 12 = .ok (.aload_n 2, 1) := by decide +kernel
theorem dX4_take_13 : decode cX4_take 13 = .ok (.invokevirtual 31, 3) := by decide +kernel
theorem dX4_take_16 : decode cX4_take 16 = .ok (.aload_n 0, 1) := by decide +kernel
theorem dX4_take_17 : decode cX4_take 17 = .ok (.iconst 1, 1) := by decide +kernel
theorem dX4_take_18 : decode cX4_take 18 = .ok (.putfield 23, 3) := by decide +kernel
theorem dX4_take_21 : decode cX4_take 21 = .ok (.return_, 1) := by decide +kernel
set_option maxRecDepth 20000 in
theorem ggX4_giveBack_X6_copyFrom : GoodIn wsX4_giveBack wsX6_copyFrom := goodIn_r _ [6, 7, 8, 9, 10, 11, 12, 13, 14, 15, 16, 17, 18, 19, 20, 21, 22, 23, 33, 34, 35, 36, 37, 38, 39, 40, 41, 42, 43, 44, 45] (by decide +kernel) (by decide +kernel)
set_option maxRecDepth 20000 in
theorem gX4_giveBack_X6_copyFrom_n27 : GoodIn wsX4_giveBack (wsX6_copyFrom) := ggX4_giveBack_X6_copyFrom
set_option maxRecDepth 20000 in
theorem ggX4_giveBack_X3_copyFrom : GoodIn wsX4_giveBack wsX3_copyFrom := goodIn_r _ [27, 28, 29, 46, 47] (by decide +kernel) (by decide +kernel)
set_option maxRecDepth 20000 in
theorem gX4_giveBack_X3_copyFrom_n31 : GoodIn wsX4_giveBack (wsX3_copyFrom) := ggX4_giveBack_X3_copyFrom
theorem dX4_giveBack_0 : decode cX4_giveBack 0 = .ok (.aload_n 1, 1) := by decide +kernel
theorem dX4_giveBack_1 : decode cX4_giveBack 1 = .ok (.aload_n 0, 1) := by decide +kernel
theorem dX4_giveBack_2 : decode cX4_giveBack 2 = .ok (.getfield 10, 3) := by decide +kernel
theorem dX4_giveBack_5 : decode cX4_giveBack 5 = .ok (.invokevirtual 27, 3) := by decide +kernel
theorem dX4_giveBack_8 : decode cX4_giveBack 8 = .ok (.aload_n 2, 1) := by decide +kernel
theorem dX4_giveBack_9 : decode cX4_giveBack 9 = .ok (.aload_n 0, 1) := by decide +kernel
theorem dX4_giveBack_10 : decode cX4_giveBack 10 = .ok (.getfield 19, 3) := by decide +kernel
theorem dX4_giveBack_13 : decode cX4_giveBack 13 = .ok (.invokevirtual 31, 3) := by decide +kernel
theorem dX4_giveBack_16 : decode cX4_giveBack 16 = .ok (.return_, 1) := by decide +kernel
theorem dX5_init_0 : decode cX5_init 0 = .ok (.aload_n 0, 1) := by decide +kernel
theorem dX5_init_1 : decode cX5_init 1 = .ok (.invokespecial 1, 3) := by decide +kernel
theorem dX5_init_4 : decode cX5_init 4 = .ok (.aload_n 0, 1) := by decide +kernel
theorem dX5_init_5 : decode cX5_init 5 = .ok (.iconst 0, 1) := by decide +kernel
theorem dX5_init_6 : decode cX5_init 6 = .ok (.newarray .int, 2) := by decide +kernel
theorem dX5_init_8 : decode cX5_init 8 = .ok (.putfield 7, 3) := by decide +kernel
theorem dX5_init_11 : decode cX5_init 11 = .ok (.aload_n 0, 1) := by decide +kernel
theorem dX5_init_12 : decode cX5_init 12 = .ok (.iconst 0, 1) := by decide +kernel
theorem dX5_init_13 : decode cX5_init 13 = .ok (.putfield 13, 3) := by decide +kernel
theorem dX5_init_16 : decode cX5_init 16 = .ok (.aload_n 0, 1) := by decide +kernel
theorem dX5_init_17 : decode cX5_init 17 = .ok (.iconst 0, 1) := by decide +kernel
theorem dX5_init_18 : decode cX5_init 18 = .ok (.putfield 17, 3) := by decide +kernel
theorem dX5_init_21 : decode cX5_init 21 = .ok (.aload_n 0, 1) := by decide +kernel
theorem dX5_init_22 : decode cX5_init 22 = .ok (.iconst 0, 1) := by decide +kernel
theorem dX5_init_23 : decode cX5_init 23 = .ok (.putfield 20, 3) := by decide +kernel
theorem dX5_init_26 : decode cX5_init 26 = .ok (.aload_n 0, 1) := by decide +kernel
theorem dX5_init_27 : decode cX5_init 27 = .ok (.iconst 0, 1) := by decide +kernel
theorem dX5_init_28 : decode cX5_init 28 = .ok (.putfield 23, 3) := by decide +kernel
theorem dX5_init_31 : decode cX5_init 31 = .ok (.aload_n 0, 1) := by decide +kernel
theorem dX5_init_32 : decode cX5_init 32 = .ok (.iconst 0, 1) := by decide +kernel
theorem dX5_init_33 : decode cX5_init 33 = .ok (.putfield 26, 3) := by decide +kernel
theorem dX5_init_36 : decode cX5_init 36 = .ok (.return_, 1) := by decide +kernel
set_option maxRecDepth 20000 in
theorem ggX5_faultOf_X7_forget : GoodIn wsX5_faultOf wsX7_forget := goodIn_r _ [13, 14, 15, 16, 17, 18, 19, 20, 105, 106] (by decide +kernel) (by decide +kernel)
set_option maxRecDepth 20000 in
theorem gX5_faultOf_X7_forget_n35 : GoodIn wsX5_faultOf (wsX7_forget) := ggX5_faultOf_X7_forget
set_option maxRecDepth 20000 in
theorem ggX5_faultOf_X5_next : GoodIn wsX5_faultOf wsX5_next := goodIn_r _ [25, 7, 6, 1, 9, 8, 26, 27, 24, 28, 29, 30, 31, 32, 33, 34, 35, 36, 37, 38, 39, 40, 41, 42, 43, 44, 45, 46, 47, 48, 49, 50, 51, 52, 53, 54, 55, 56, 57, 58, 59, 60, 61, 62, 63, 64, 65, 66, 67, 68, 69, 70, 71, 72, 73, 74, 75, 76, 77, 78, 79, 80, 81, 82, 83, 84, 85, 86, 87, 88, 2, 3, 4, 5, 99, 100, 101, 102, 103, 104] (by decide +kernel) (by decide +kernel)
set_option maxRecDepth 20000 in
theorem gX5_faultOf_X5_next : GoodIn wsX5_faultOf (wsV RX5 40 RX5 yX5_next wsX5_next) := goodIn_app (goodIn_of _ (by decide +kernel)) ggX5_faultOf_X5_next
set_option maxRecDepth 20000 in
theorem ggX5_faultOf_X5_readsItem : GoodIn wsX5_faultOf wsX5_readsItem := goodIn_r _ [92, 8, 36, 93, 11, 94, 95, 20, 21, 22, 23, 24, 25, 7, 6, 1, 9, 26, 27, 28, 29, 30, 31, 32, 33, 34, 35, 37, 38, 39, 40, 41, 42, 43, 44, 45, 46, 47, 48, 49, 50, 51, 52, 53, 54, 55, 56, 57, 58, 59, 60, 61, 62, 63, 64, 65, 66, 67, 68, 69, 70, 71, 72, 73, 74, 75, 76, 77, 78, 79, 80, 81, 82, 83, 84, 85, 86, 87, 88, 2, 3, 4, 5, 96, 97, 98, 15, 99, 100, 101, 102, 103, 104, 105, 106] (by decide +kernel) (by decide +kernel)
set_option maxRecDepth 20000 in
theorem gX5_faultOf_X5_readsItem : GoodIn wsX5_faultOf (wsV RX5 43 RX5 yX5_readsItem wsX5_readsItem) := goodIn_app (goodIn_of _ (by decide +kernel)) ggX5_faultOf_X5_readsItem
theorem dX5_faultOf_0 : decode cX5_faultOf 0 = .ok (.aload_n 0, 1) := by decide +kernel
theorem dX5_faultOf_1 : decode cX5_faultOf 1 = .ok (.aload_n 1, 1) := by decide +kernel
theorem dX5_faultOf_2 : decode cX5_faultOf 2 = .ok (.putfield 7, 3) := by decide +kernel
theorem dX5_faultOf_5 : decode cX5_faultOf 5 = .ok (.aload_n 0, 1) := by decide +kernel
theorem dX5_faultOf_6 : decode cX5_faultOf 6 = .ok (.iload_n 2, 1) := by decide +kernel
theorem dX5_faultOf_7 : decode cX5_faultOf 7 = .ok (.aload_n 1, 1) := by decide +kernel
theorem dX5_faultOf_8 : decode cX5_faultOf 8 = .ok (.arraylength, 1) := by decide +kernel
theorem dX5_faultOf_9 : decode cX5_faultOf 9 = .ok (.invokestatic 29, 3) := by decide +kernel
theorem dX5_faultOf_12 : decode cX5_faultOf 12 = .ok (.putfield 13, 3) := by decide +kernel
theorem dX5_faultOf_15 : decode cX5_faultOf 15 = .ok (.aload_n 0, 1) := by decide +kernel
theorem dX5_faultOf_16 : decode cX5_faultOf 16 = .ok (.iconst 0, 1) := by decide +kernel
theorem dX5_faultOf_17 : decode cX5_faultOf 17 = .ok (.putfield 17, 3) := by decide +kernel
theorem dX5_faultOf_20 : decode cX5_faultOf 20 = .ok (.aload_n 3, 1) := by decide +kernel
theorem dX5_faultOf_21 : decode cX5_faultOf 21 = .ok (.invokevirtual 35, 3) := by decide +kernel
theorem dX5_faultOf_24 : decode cX5_faultOf 24 = .ok (.iconst 0, 1) := by decide +kernel
theorem dX5_faultOf_25 : decode cX5_faultOf 25 = .ok (.istore 4, 2) := by decide +kernel
theorem dX5_faultOf_27 : decode cX5_faultOf 27 = .ok (.iload 4, 2) := by decide +kernel
theorem dX5_faultOf_29 : decode cX5_faultOf 29 = .ok (.iconst 5, 1) := by decide +kernel
theorem dX5_faultOf_30 : decode cX5_faultOf 30 = .ok (.if_icmp .gt 35, 3) := by decide +kernel
theorem dX5_faultOf_33 : decode cX5_faultOf 33 = .ok (.aload_n 0, 1) := by decide +kernel
theorem dX5_faultOf_34 : decode cX5_faultOf 34 = .ok (.invokevirtual 40, 3) := by decide +kernel
theorem dX5_faultOf_37 : decode cX5_faultOf 37 = .ok (.aload_n 0, 1) := by decide +kernel
theorem dX5_faultOf_38 : decode cX5_faultOf 38 = .ok (.getfield 23, 3) := by decide +kernel
theorem dX5_faultOf_41 : decode cX5_faultOf 41 = .ok (.ifCond .ne 5, 3) := by decide +kernel
theorem dX5_faultOf_44 : decode cX5_faultOf 44 = .ok (.iconst (-1), 1) := by decide +kernel
theorem dX5_faultOf_45 : decode cX5_faultOf 45 = .ok (.ireturn, 1) := by decide +kernel
theorem dX5_faultOf_46 : decode cX5_faultOf 46 = .ok (.aload_n 0, 1) := by decide +kernel
theorem dX5_faultOf_47 : decode cX5_faultOf 47 = .ok (.aload_n 3, 1) := by decide +kernel
theorem dX5_faultOf_48 : decode cX5_faultOf 48 = .ok (.invokevirtual 43, 3) := by decide +kernel
theorem dX5_faultOf_51 : decode cX5_faultOf 51 = .ok (.ifCond .ne 8, 3) := by decide +kernel
theorem dX5_faultOf_54 : decode cX5_faultOf 54 = .ok (.aload_n 0, 1) := by decide +kernel
theorem dX5_faultOf_55 : decode cX5_faultOf 55 = .ok (.getfield 20, 3) := by decide +kernel
theorem dX5_faultOf_58 : decode cX5_faultOf 58 = .ok (.ireturn, 1) := by decide +kernel
theorem dX5_faultOf_59 : decode cX5_faultOf 59 = .ok (.iinc 4 1, 3) := by decide +kernel
theorem dX5_faultOf_62 : decode cX5_faultOf 62 = .ok (.goto (-35), 3) := by decide +kernel
theorem dX5_faultOf_65 : decode cX5_faultOf 65 = .ok (.aload_n 0, 1) := by decide +kernel
theorem dX5_faultOf_66 : decode cX5_faultOf 66 = .ok (.getfield 20, 3) := by decide +kernel
theorem dX5_faultOf_69 : decode cX5_faultOf 69 = .ok (.ireturn, 1) := by decide +kernel
set_option maxRecDepth 20000 in
theorem ggX5_readsItem_X7_wasTold : GoodIn wsX5_readsItem wsX7_wasTold := goodIn_r _ [6, 7, 93, 94] (by decide +kernel) (by decide +kernel)
set_option maxRecDepth 20000 in
theorem gX5_readsItem_X7_wasTold_n47 : GoodIn wsX5_readsItem (wsX7_wasTold) := ggX5_readsItem_X7_wasTold
set_option maxRecDepth 20000 in
theorem ggX5_readsItem_X5_next : GoodIn wsX5_readsItem wsX5_next := goodIn_r _ [12, 13, 14, 15, 16, 1, 17, 18, 11, 19, 20, 21, 22, 23, 24, 25, 26, 2, 27, 28, 29, 30, 31, 32, 33, 34, 35, 36, 37, 38, 39, 40, 41, 42, 43, 44, 45, 46, 47, 48, 49, 50, 51, 52, 53, 54, 55, 56, 57, 58, 59, 60, 61, 62, 63, 64, 65, 66, 67, 68, 69, 70, 71, 72, 73, 74, 75, 76, 77, 78, 79, 80, 81, 82, 87, 88, 89, 90, 91, 92] (by decide +kernel) (by decide +kernel)
set_option maxRecDepth 20000 in
theorem gX5_readsItem_X5_next : GoodIn wsX5_readsItem (wsV RX5 40 RX5 yX5_next wsX5_next) := goodIn_app (goodIn_of _ (by decide +kernel)) ggX5_readsItem_X5_next
set_option maxRecDepth 20000 in
theorem ggX5_readsItem_X7_tell : GoodIn wsX5_readsItem wsX7_tell := goodIn_r _ [85, 86, 7, 20, 21, 22, 93, 94] (by decide +kernel) (by decide +kernel)
set_option maxRecDepth 20000 in
theorem gX5_readsItem_X7_tell_n57 : GoodIn wsX5_readsItem (wsX7_tell) := ggX5_readsItem_X7_tell
theorem dX5_readsItem_0 : decode cX5_readsItem 0 = .ok (.aload_n 0, 1) := by decide +kernel
theorem dX5_readsItem_1 : decode cX5_readsItem 1 = .ok (.getfield 23, 3) := by decide +kernel
theorem dX5_readsItem_4 : decode cX5_readsItem 4 = .ok (.iconst 1, 1) := by decide +kernel
theorem dX5_readsItem_5 : decode cX5_readsItem 5 = .ok (.if_icmp .ne 14, 3) := by decide +kernel
theorem dX5_readsItem_8 : decode cX5_readsItem 8 = .ok (.aload_n 1, 1) := by decide +kernel
theorem dX5_readsItem_9 : decode cX5_readsItem 9 = .ok (.aload_n 0, 1) := by decide +kernel
theorem dX5_readsItem_10 : decode cX5_readsItem 10 = .ok (.getfield 26, 3) := by decide +kernel
theorem dX5_readsItem_13 : decode cX5_readsItem 13 = .ok (.invokevirtual 47, 3) := by decide +kernel
theorem dX5_readsItem_16 : decode cX5_readsItem 16 = .ok (.ifCond .eq 5, 3) := by decide +kernel
theorem dX5_readsItem_19 : decode cX5_readsItem 19 = .ok (.iconst 0, 1) := by decide +kernel
theorem dX5_readsItem_20 : decode cX5_readsItem 20 = .ok (.ireturn, 1) := by decide +kernel
theorem dX5_readsItem_21 : decode cX5_readsItem 21 = .ok (.aload_n 0, 1) := by decide +kernel
theorem dX5_readsItem_22 : decode cX5_readsItem 22 = .ok (.getfield 26, 3) := by decide +kernel
theorem dX5_readsItem_25 : decode cX5_readsItem 25 = .ok (.istore_n 2, 1) := by decide +kernel
theorem dX5_readsItem_26 : decode cX5_readsItem 26 = .ok (.aload_n 0, 1) := by decide +kernel
theorem dX5_readsItem_27 : decode cX5_readsItem 27 = .ok (.invokevirtual 40, 3) := by decide +kernel
theorem dX5_readsItem_30 : decode cX5_readsItem 30 = .ok (.aload_n 0, 1) := by decide +kernel
theorem dX5_readsItem_31 : decode cX5_readsItem 31 = .ok (.getfield 23, 3) := by decide +kernel
theorem dX5_readsItem_34 : decode cX5_readsItem 34 = .ok (.iconst 2, 1) := by decide +kernel
theorem dX5_readsItem_35 : decode cX5_readsItem 35 = .ok (.if_icmp .ne 15, 3) := by decide +kernel
theorem dX5_readsItem_38 : decode cX5_readsItem 38 = .ok (.getstatic 51, 3) := by decide +kernel
theorem dX5_readsItem_41 : decode cX5_readsItem 41 = .ok (.iload_n 2, 1) := by decide +kernel
theorem dX5_readsItem_42 : decode cX5_readsItem 42 = .ok (.iaload, 1) := by decide +kernel
theorem dX5_readsItem_43 : decode cX5_readsItem 43 = .ok (.ifCond .ge 7, 3) := by decide +kernel
theorem dX5_readsItem_46 : decode cX5_readsItem 46 = .ok (.iconst 1, 1) := by decide +kernel
theorem dX5_readsItem_47 : decode cX5_readsItem 47 = .ok (.goto 4, 3) := by decide +kernel
theorem dX5_readsItem_50 : decode cX5_readsItem 50 = .ok (.iconst 0, 1) := by decide +kernel
theorem dX5_readsItem_51 : decode cX5_readsItem 51 = .ok (.istore_n 3, 1) := by decide +kernel
theorem dX5_readsItem_52 : decode cX5_readsItem 52 = .ok (.iload_n 3, 1) := by decide +kernel
theorem dX5_readsItem_53 : decode cX5_readsItem 53 = .ok (.ifCond .eq 7, 3) := by decide +kernel
theorem dX5_readsItem_56 : decode cX5_readsItem 56 = .ok (.aload_n 0, 1) := by decide +kernel
theorem dX5_readsItem_57 : decode cX5_readsItem 57 = .ok (.invokevirtual 40, 3) := by decide +kernel
theorem dX5_readsItem_60 : decode cX5_readsItem 60 = .ok (.aload_n 0, 1) := by decide +kernel
theorem dX5_readsItem_61 : decode cX5_readsItem 61 = .ok (.getfield 23, 3) := by decide +kernel
theorem dX5_readsItem_64 : decode cX5_readsItem 64 = .ok (.iconst 3, 1) := by decide +kernel
theorem dX5_readsItem_65 : decode cX5_readsItem 65 = .ok (.if_icmp .ne 15, 3) := by decide +kernel
theorem dX5_readsItem_68 : decode cX5_readsItem 68 = .ok (.aload_n 0, 1) := by decide +kernel
theorem dX5_readsItem_69 : decode cX5_readsItem 69 = .ok (.getfield 26, 3) := by decide +kernel
theorem dX5_readsItem_72 : decode cX5_readsItem 72 = .ok (.getstatic 54, 3) := by decide +kernel
theorem dX5_readsItem_75 : decode cX5_readsItem 75 = .ok (.iload_n 2, 1) := by decide +kernel
theorem dX5_readsItem_76 : decode cX5_readsItem 76 = .ok (.iaload, 1) := by decide +kernel
theorem dX5_readsItem_77 : decode cX5_readsItem 77 = .ok (.if_icmp .le 5, 3) := by decide +kernel
theorem dX5_readsItem_80 : decode cX5_readsItem 80 = .ok (.iconst 0, 1) := by decide +kernel
theorem dX5_readsItem_81 : decode cX5_readsItem 81 = .ok (.ireturn, 1) := by decide +kernel
theorem dX5_readsItem_82 : decode cX5_readsItem 82 = .ok (.iload_n 3, 1) := by decide +kernel
theorem dX5_readsItem_83 : decode cX5_readsItem 83 = .ok (.ifCond .eq 11, 3) := by decide +kernel
theorem dX5_readsItem_86 : decode cX5_readsItem 86 = .ok (.aload_n 0, 1) := by decide +kernel
theorem dX5_readsItem_87 : decode cX5_readsItem 87 = .ok (.getfield 26, 3) := by decide +kernel
theorem dX5_readsItem_90 : decode cX5_readsItem 90 = .ok (.ineg, 1) := by decide +kernel
theorem dX5_readsItem_91 : decode cX5_readsItem 91 = .ok (.goto 7, 3) := by decide +kernel
theorem dX5_readsItem_94 : decode cX5_readsItem 94 = .ok (.aload_n 0, 1) := by decide +kernel
theorem dX5_readsItem_95 : decode cX5_readsItem 95 = .ok (.getfield 26, 3) := by decide +kernel
theorem dX5_readsItem_98 : decode cX5_readsItem 98 = .ok (.istore 4, 2) := by decide +kernel
theorem dX5_readsItem_100 : decode cX5_readsItem 100 = .ok (.aload_n 0, 1) := by decide +kernel
theorem dX5_readsItem_101 : decode cX5_readsItem 101 = .ok (.invokevirtual 40, 3) := by decide +kernel
theorem dX5_readsItem_104 : decode cX5_readsItem 104 = .ok (.aload_n 0, 1) := by decide +kernel
theorem dX5_readsItem_105 : decode cX5_readsItem 105 = .ok (.getfield 23, 3) := by decide +kernel
theorem dX5_readsItem_108 : decode cX5_readsItem 108 = .ok (.iconst 4, 1) := by decide +kernel
theorem dX5_readsItem_109 : decode cX5_readsItem 109 = .ok (.if_icmp .eq 5, 3) := by decide +kernel
theorem dX5_readsItem_112 : decode cX5_readsItem 112 = .ok (.iconst 0, 1) := by decide +kernel
theorem dX5_readsItem_113 : decode cX5_readsItem 113 = .ok (.ireturn, 1) := by decide +kernel
theorem dX5_readsItem_114 : decode cX5_readsItem 114 = .ok (.aload_n 1, 1) := by decide +kernel
theorem dX5_readsItem_115 : decode cX5_readsItem 115 = .ok (.iload_n 2, 1) := by decide +kernel
theorem dX5_readsItem_116 : decode cX5_readsItem 116 = .ok (.iload 4, 2) := by decide +kernel
theorem dX5_readsItem_118 : decode cX5_readsItem 118 = .ok (.invokevirtual 57, 3) := by decide +kernel
theorem dX5_readsItem_121 : decode cX5_readsItem 121 = .ok (.iconst 1, 1) := by decide +kernel
theorem dX5_readsItem_122 : decode cX5_readsItem 122 = .ok (.ireturn, 1) := by decide +kernel
set_option maxRecDepth 20000 in
theorem ggX5_next_X5_isLetter : GoodIn wsX5_next wsX5_isLetter := goodIn_r _ [9, 10, 11, 12] (by decide +kernel) (by decide +kernel)
set_option maxRecDepth 20000 in
theorem gX5_next_X5_isLetter : GoodIn wsX5_next (va_wsS RX5 61 yX5_isLetter wsX5_isLetter) := goodIn_app (goodIn_of _ (by decide +kernel)) ggX5_next_X5_isLetter
set_option maxRecDepth 20000 in
theorem ggX5_next_X5_readWord : GoodIn wsX5_next wsX5_readWord := goodIn_r _ [16, 1, 2, 3, 5, 17, 6, 7, 8, 9, 10, 11, 12, 18, 19, 20, 21, 4, 22, 23, 24, 25, 26, 27, 28, 29, 30, 31, 32, 33, 34, 35, 36, 37, 38, 39, 40, 41, 42, 43, 44, 45, 46, 47, 48, 49, 50, 51, 52, 53, 54, 55, 56, 57, 58, 59, 60, 61, 62, 74, 75, 76, 77, 78, 79] (by decide +kernel) (by decide +kernel)
set_option maxRecDepth 20000 in
theorem gX5_next_X5_readWord : GoodIn wsX5_next (wsV RX5 64 RX5 yX5_readWord wsX5_readWord) := goodIn_app (goodIn_of _ (by decide +kernel)) ggX5_next_X5_readWord
set_option maxRecDepth 20000 in
theorem ggX5_next_X5_isDigit : GoodIn wsX5_next wsX5_isDigit := goodIn_r _ [65, 10, 11, 12] (by decide +kernel) (by decide +kernel)
set_option maxRecDepth 20000 in
theorem gX5_next_X5_isDigit : GoodIn wsX5_next (va_wsS RX5 67 yX5_isDigit wsX5_isDigit) := goodIn_app (goodIn_of _ (by decide +kernel)) ggX5_next_X5_isDigit
set_option maxRecDepth 20000 in
theorem ggX5_next_X5_readAmount : GoodIn wsX5_next wsX5_readAmount := goodIn_r _ [69, 17, 1, 2, 3, 70, 71, 72, 73, 4, 5, 63, 64, 8, 65, 10, 11, 12, 74, 75, 76, 77, 78, 79] (by decide +kernel) (by decide +kernel)
set_option maxRecDepth 20000 in
theorem gX5_next_X5_readAmount : GoodIn wsX5_next (wsV RX5 70 RX5 yX5_readAmount wsX5_readAmount) := goodIn_app (goodIn_of _ (by decide +kernel)) ggX5_next_X5_readAmount
theorem dX5_next_0 : decode cX5_next 0 = .ok (.aload_n 0, 1) := by decide +kernel
theorem dX5_next_1 : decode cX5_next 1 = .ok (.getfield 17, 3) := by decide +kernel
theorem dX5_next_4 : decode cX5_next 4 = .ok (.aload_n 0, 1) := by decide +kernel
theorem dX5_next_5 : decode cX5_next 5 = .ok (.getfield 13, 3) := by decide +kernel
theorem dX5_next_8 : decode cX5_next 8 = .ok (.if_icmp .ge 30, 3) := by decide +kernel
theorem dX5_next_11 : decode cX5_next 11 = .ok (.aload_n 0, 1) := by decide +kernel
theorem dX5_next_12 : decode cX5_next 12 = .ok (.getfield 7, 3) := by decide +kernel
theorem dX5_next_15 : decode cX5_next 15 = .ok (.aload_n 0, 1) := by decide +kernel
theorem dX5_next_16 : decode cX5_next 16 = .ok (.getfield 17, 3) := by decide +kernel
theorem dX5_next_19 : decode cX5_next 19 = .ok (.iaload, 1) := by decide +kernel
theorem dX5_next_20 : decode cX5_next 20 = .ok (.bipush 32, 2) := by decide +kernel
theorem dX5_next_22 : decode cX5_next 22 = .ok (.if_icmp .ne 16, 3) := by decide +kernel
theorem dX5_next_25 : decode cX5_next 25 = .ok (.aload_n 0, 1) := by decide +kernel
theorem dX5_next_26 : decode cX5_next 26 = .ok (.dup, 1) := by decide +kernel
theorem dX5_next_27 : decode cX5_next 27 = .ok (.getfield 17, 3) := by decide +kernel
theorem dX5_next_30 : decode cX5_next 30 = .ok (.iconst 1, 1) := by decide +kernel
theorem dX5_next_31 : decode cX5_next 31 = .ok (.iadd, 1) := by decide +kernel
theorem dX5_next_32 : decode cX5_next 32 = .ok (.putfield 17, 3) := by decide +kernel
theorem dX5_next_35 : decode cX5_next 35 = .ok (.goto (-35), 3) := by decide +kernel
theorem dX5_next_38 : decode cX5_next 38 = .ok (.aload_n 0, 1) := by decide +kernel
theorem dX5_next_39 : decode cX5_next 39 = .ok (.aload_n 0, 1) := by decide +kernel
theorem dX5_next_40 : decode cX5_next 40 = .ok (.getfield 17, 3) := by decide +kernel
theorem dX5_next_43 : decode cX5_next 43 = .ok (.putfield 20, 3) := by decide +kernel
theorem dX5_next_46 : decode cX5_next 46 = .ok (.aload_n 0, 1) := by decide +kernel
theorem dX5_next_47 : decode cX5_next 47 = .ok (.getfield 17, 3) := by decide +kernel
theorem dX5_next_50 : decode cX5_next 50 = .ok (.aload_n 0, 1) := by decide +kernel
theorem dX5_next_51 : decode cX5_next 51 = .ok (.getfield 13, 3) := by decide +kernel
theorem dX5_next_54 : decode cX5_next 54 = .ok (.if_icmp .lt 11, 3) := by decide +kernel
theorem dX5_next_57 : decode cX5_next 57 = .ok (.aload_n 0, 1) := by decide +kernel
theorem dX5_next_58 : decode cX5_next 58 = .ok (.iconst 0, 1) := by decide +kernel
theorem dX5_next_59 : decode cX5_next 59 = .ok (.putfield 23, 3) := by decide +kernel
theorem dX5_next_62 : decode cX5_next 62 = .ok (.goto 92, 3) := by decide +kernel
theorem dX5_next_65 : decode cX5_next 65 = .ok (.aload_n 0, 1) := by decide +kernel
theorem dX5_next_66 : decode cX5_next 66 = .ok (.getfield 7, 3) := by decide +kernel
theorem dX5_next_69 : decode cX5_next 69 = .ok (.aload_n 0, 1) := by decide +kernel
theorem dX5_next_70 : decode cX5_next 70 = .ok (.getfield 17, 3) := by decide +kernel
theorem dX5_next_73 : decode cX5_next 73 = .ok (.iaload, 1) := by decide +kernel
theorem dX5_next_74 : decode cX5_next 74 = .ok (.invokestatic 61, 3) := by decide +kernel
theorem dX5_next_77 : decode cX5_next 77 = .ok (.ifCond .eq 10, 3) := by decide +kernel
theorem dX5_next_80 : decode cX5_next 80 = .ok (.aload_n 0, 1) := by decide +kernel
theorem dX5_next_81 : decode cX5_next 81 = .ok (.invokevirtual 64, 3) := by decide +kernel
theorem dX5_next_84 : decode cX5_next 84 = .ok (.goto 70, 3) := by decide +kernel
theorem dX5_next_87 : decode cX5_next 87 = .ok (.aload_n 0, 1) := by decide +kernel
theorem dX5_next_88 : decode cX5_next 88 = .ok (.getfield 7, 3) := by decide +kernel
theorem dX5_next_91 : decode cX5_next 91 = .ok (.aload_n 0, 1) := by decide +kernel
theorem dX5_next_92 : decode cX5_next 92 = .ok (.getfield 17, 3) := by decide +kernel
theorem dX5_next_95 : decode cX5_next 95 = .ok (.iaload, 1) := by decide +kernel
theorem dX5_next_96 : decode cX5_next 96 = .ok (.invokestatic 67, 3) := by decide +kernel
theorem dX5_next_99 : decode cX5_next 99 = .ok (.ifCond .eq 10, 3) := by decide +kernel
theorem dX5_next_102 : decode cX5_next 102 = .ok (.aload_n 0, 1) := by decide +kernel
theorem dX5_next_103 : decode cX5_next 103 = .ok (.invokevirtual 70, 3) := by decide +kernel
theorem dX5_next_106 : decode cX5_next 106 = .ok (.goto 48, 3) := by decide +kernel
theorem dX5_next_109 : decode cX5_next 109 = .ok (.aload_n 0, 1) := by decide +kernel
theorem dX5_next_110 : decode cX5_next 110 = .ok (.getfield 7, 3) := by decide +kernel
theorem dX5_next_113 : decode cX5_next 113 = .ok (.aload_n 0, 1) := by decide +kernel
theorem dX5_next_114 : decode cX5_next 114 = .ok (.getfield 17, 3) := by decide +kernel
theorem dX5_next_117 : decode cX5_next 117 = .ok (.iaload, 1) := by decide +kernel
theorem dX5_next_118 : decode cX5_next 118 = .ok (.istore_n 1, 1) := by decide +kernel
theorem dX5_next_119 : decode cX5_next 119 = .ok (.aload_n 0, 1) := by decide +kernel
theorem dX5_next_120 : decode cX5_next 120 = .ok (.iload_n 1, 1) := by decide +kernel
theorem dX5_next_121 : decode cX5_next 121 = .ok (.bipush 45, 2) := by decide +kernel
theorem dX5_next_123 : decode cX5_next 123 = .ok (.if_icmp .ne 7, 3) := by decide +kernel
theorem dX5_next_126 : decode cX5_next 126 = .ok (.iconst 2, 1) := by decide +kernel
theorem dX5_next_127 : decode cX5_next 127 = .ok (.goto 14, 3) := by decide +kernel
theorem dX5_next_130 : decode cX5_next 130 = .ok (.iload_n 1, 1) := by decide +kernel
theorem dX5_next_131 : decode cX5_next 131 = .ok (.bipush 59, 2) := by decide +kernel
theorem dX5_next_133 : decode cX5_next 133 = .ok (.if_icmp .ne 7, 3) := by decide +kernel
theorem dX5_next_136 : decode cX5_next 136 = .ok (.iconst 4, 1) := by decide +kernel
theorem dX5_next_137 : decode cX5_next 137 = .ok (.goto 4, 3) := by decide +kernel
theorem dX5_next_140 : decode cX5_next 140 = .ok (.iconst 5, 1) := by decide +kernel
theorem dX5_next_141 : decode cX5_next 141 = .ok (.putfield 23, 3) := by decide +kernel
theorem dX5_next_144 : decode cX5_next 144 = .ok (.aload_n 0, 1) := by decide +kernel
theorem dX5_next_145 : decode cX5_next 145 = .ok (.dup, 1) := by decide +kernel
theorem dX5_next_146 : decode cX5_next 146 = .ok (.getfield 17, 3) := by decide +kernel
theorem dX5_next_149 : decode cX5_next 149 = .ok (.iconst 1, 1) := by decide +kernel
theorem dX5_next_150 : decode cX5_next 150 = .ok (.iadd, 1) := by decide +kernel
theorem dX5_next_151 : decode cX5_next 151 = .ok (.putfield 17, 3) := by decide +kernel
theorem dX5_next_154 : decode cX5_next 154 = .ok (.return_, 1) := by decide +kernel
set_option maxRecDepth 20000 in
theorem ggX5_readWord_X5_isLetter : GoodIn wsX5_readWord wsX5_isLetter := goodIn_r _ [9, 10, 11, 12] (by decide +kernel) (by decide +kernel)
set_option maxRecDepth 20000 in
theorem gX5_readWord_X5_isLetter : GoodIn wsX5_readWord (va_wsS RX5 61 yX5_isLetter wsX5_isLetter) := goodIn_app (goodIn_of _ (by decide +kernel)) ggX5_readWord_X5_isLetter
set_option maxRecDepth 20000 in
theorem ggX5_readWord_X5_isWord : GoodIn wsX5_readWord wsX5_isWord := goodIn_r _ [16, 1, 17, 3, 18, 19, 20, 21, 22, 23, 24, 25, 26, 27, 28, 29, 30, 31, 32, 33, 34, 35, 36, 37, 38, 39, 40, 41, 42, 43, 44, 45, 46, 47, 48, 49, 50, 51, 52, 53, 54, 55, 56, 57, 58, 59, 60, 61, 62, 63, 64] (by decide +kernel) (by decide +kernel)
set_option maxRecDepth 20000 in
theorem gX5_readWord_X5_isWord : GoodIn wsX5_readWord (wsV RX5 73 RX5 yX5_isWord wsX5_isWord) := goodIn_app (goodIn_of _ (by decide +kernel)) ggX5_readWord_X5_isWord
theorem dX5_readWord_0 : decode cX5_readWord 0 = .ok (.aload_n 0, 1) := by decide +kernel
theorem dX5_readWord_1 : decode cX5_readWord 1 = .ok (.getfield 17, 3) := by decide +kernel
theorem dX5_readWord_4 : decode cX5_readWord 4 = .ok (.aload_n 0, 1) := by decide +kernel
theorem dX5_readWord_5 : decode cX5_readWord 5 = .ok (.getfield 13, 3) := by decide +kernel
theorem dX5_readWord_8 : decode cX5_readWord 8 = .ok (.if_icmp .ge 31, 3) := by decide +kernel
theorem dX5_readWord_11 : decode cX5_readWord 11 = .ok (.aload_n 0, 1) := by decide +kernel
theorem dX5_readWord_12 : decode cX5_readWord 12 = .ok (.getfield 7, 3) := by decide +kernel
theorem dX5_readWord_15 : decode cX5_readWord 15 = .ok (.aload_n 0, 1) := by decide +kernel
theorem dX5_readWord_16 : decode cX5_readWord 16 = .ok (.getfield 17, 3) := by decide +kernel
theorem dX5_readWord_19 : decode cX5_readWord 19 = .ok (.iaload, 1) := by decide +kernel
theorem dX5_readWord_20 : decode cX5_readWord 20 = .ok (.invokestatic 61, 3) := by decide +kernel
theorem dX5_readWord_23 : decode cX5_readWord 23 = .ok (.ifCond .eq 16, 3) := by decide +kernel
theorem dX5_readWord_26 : decode cX5_readWord 26 = .ok (.aload_n 0, 1) := by decide +kernel
theorem dX5_readWord_27 : decode cX5_readWord 27 = .ok (.dup, 1) := by decide +kernel
theorem dX5_readWord_28 : decode cX5_readWord 28 = .ok (.getfield 17, 3) := by decide +kernel
theorem dX5_readWord_31 : decode cX5_readWord 31 = .ok (.iconst 1, 1) := by decide +kernel
theorem dX5_readWord_32 : decode cX5_readWord 32 = .ok (.iadd, 1) := by decide +kernel
theorem dX5_readWord_33 : decode cX5_readWord 33 = .ok (.putfield 17, 3) := by decide +kernel
theorem dX5_readWord_36 : decode cX5_readWord 36 = .ok (.goto (-36), 3) := by decide +kernel
theorem dX5_readWord_39 : decode cX5_readWord 39 = .ok (.aload_n 0, 1) := by decide +kernel
theorem dX5_readWord_40 : decode cX5_readWord 40 = .ok (.iconst 5, 1) := by decide +kernel
theorem dX5_readWord_41 : decode cX5_readWord 41 = .ok (.putfield 23, 3) := by decide +kernel
theorem dX5_readWord_44 : decode cX5_readWord 44 = .ok (.iconst 0, 1) := by decide +kernel
theorem dX5_readWord_45 : decode cX5_readWord 45 = .ok (.istore_n 1, 1) := by decide +kernel
theorem dX5_readWord_46 : decode cX5_readWord 46 = .ok (.iload_n 1, 1) := by decide +kernel
theorem dX5_readWord_47 : decode cX5_readWord 47 = .ok (.iconst 5, 1) := by decide +kernel
theorem dX5_readWord_48 : decode cX5_readWord 48 = .ok (.if_icmp .ge 27, 3) := by decide +kernel
theorem dX5_readWord_51 : decode cX5_readWord 51 = .ok (.aload_n 0, 1) := by decide +kernel
theorem dX5_readWord_52 : decode cX5_readWord 52 = .ok (.iload_n 1, 1) := by decide +kernel
theorem dX5_readWord_53 : decode cX5_readWord 53 = .ok (.invokevirtual 73, 3) := by decide +kernel
theorem dX5_readWord_56 : decode cX5_readWord 56 = .ok (.ifCond .eq 13, 3) := by decide +kernel
theorem dX5_readWord_59 : decode cX5_readWord 59 = .ok (.aload_n 0, 1) := by decide +kernel
theorem dX5_readWord_60 : decode cX5_readWord 60 = .ok (.iconst 1, 1) := by decide +kernel
theorem dX5_readWord_61 : decode cX5_readWord 61 = .ok (.putfield 23, 3) := by decide +kernel
theorem dX5_readWord_64 : decode cX5_readWord 64 = .ok (.aload_n 0, 1) := by decide +kernel
theorem dX5_readWord_65 : decode cX5_readWord 65 = .ok (.iload_n 1, 1) := by decide +kernel
theorem dX5_readWord_66 : decode cX5_readWord 66 = .ok (.putfield 26, 3) := by decide +kernel
theorem dX5_readWord_69 : decode cX5_readWord 69 = .ok (.iinc 1 1, 3) := by decide +kernel
theorem dX5_readWord_72 : decode cX5_readWord 72 = .ok (.goto (-26), 3) := by decide +kernel
theorem dX5_readWord_75 : decode cX5_readWord 75 = .ok (.return_, 1) := by decide +kernel
set_option maxRecDepth 20000 in
theorem ggX5_isWord_J0_charAt_5068e : GoodIn wsX5_isWord wsJ0_charAt_5068e := goodIn_r _ [8, 9, 10, 11, 12, 7, 13, 14, 15, 16, 17, 18, 19, 20, 21, 22, 23, 24, 25, 26, 27, 28, 29, 30, 31, 32, 33, 34, 35, 36, 37, 38, 39, 40, 41, 42, 43, 44] (by decide +kernel) (by decide +kernel)
set_option maxRecDepth 20000 in
theorem gX5_isWord_J0_charAt_5068e : GoodIn wsX5_isWord (wsV RX5 78 RJ0 yJ0_charAt_5068e wsJ0_charAt_5068e) := goodIn_app (goodIn_of _ (by decide +kernel)) ggX5_isWord_J0_charAt_5068e
theorem dX5_isWord_0 : decode cX5_isWord 0 = .ok (.aload_n 0, 1) := by decide +kernel
theorem dX5_isWord_1 : decode cX5_isWord 1 = .ok (.getfield 17, 3) := by decide +kernel
theorem dX5_isWord_4 : decode cX5_isWord 4 = .ok (.aload_n 0, 1) := by decide +kernel
theorem dX5_isWord_5 : decode cX5_isWord 5 = .ok (.getfield 20, 3) := by decide +kernel
theorem dX5_isWord_8 : decode cX5_isWord 8 = .ok (.isub, 1) := by decide +kernel
theorem dX5_isWord_9 : decode cX5_isWord 9 = .ok (.istore_n 2, 1) := by decide +kernel
theorem dX5_isWord_10 : decode cX5_isWord 10 = .ok (.iload_n 2, 1) := by decide +kernel
theorem dX5_isWord_11 : decode cX5_isWord 11 = .ok (.iconst 5, 1) := by decide +kernel
theorem dX5_isWord_12 : decode cX5_isWord 12 = .ok (.if_icmp .ge 18, 3) := by decide +kernel
theorem dX5_isWord_15 : decode cX5_isWord 15 = .ok (.ldc 76, 2) := by decide +kernel
theorem dX5_isWord_17 : decode cX5_isWord 17 = .ok (.iload_n 1, 1) := by decide +kernel
theorem dX5_isWord_18 : decode cX5_isWord 18 = .ok (.iconst 5, 1) := by decide +kernel
theorem dX5_isWord_19 : decode cX5_isWord 19 = .ok (.imul, 1) := by decide +kernel
theorem dX5_isWord_20 : decode cX5_isWord 20 = .ok (.iload_n 2, 1) := by decide +kernel
theorem dX5_isWord_21 : decode cX5_isWord 21 = .ok (.iadd, 1) := by decide +kernel
theorem dX5_isWord_22 : decode cX5_isWord 22 = .ok (.invokevirtual 78, 3) := by decide +kernel
theorem dX5_isWord_25 : decode cX5_isWord 25 = .ok (.bipush 32, 2) := by decide +kernel
theorem dX5_isWord_27 : decode cX5_isWord 27 = .ok (.if_icmp .eq 5, 3) := by decide +kernel
theorem dX5_isWord_30 : decode cX5_isWord 30 = .ok (.iconst 0, 1) := by decide +kernel
theorem dX5_isWord_31 : decode cX5_isWord 31 = .ok (.ireturn, 1) := by decide +kernel
theorem dX5_isWord_32 : decode cX5_isWord 32 = .ok (.iconst 0, 1) := by decide +kernel
theorem dX5_isWord_33 : decode cX5_isWord 33 = .ok (.istore_n 3, 1) := by decide +kernel
theorem dX5_isWord_34 : decode cX5_isWord 34 = .ok (.iload_n 3, 1) := by decide +kernel
theorem dX5_isWord_35 : decode cX5_isWord 35 = .ok (.iload_n 2, 1) := by decide +kernel
theorem dX5_isWord_36 : decode cX5_isWord 36 = .ok (.if_icmp .ge 35, 3) := by decide +kernel
theorem dX5_isWord_39 : decode cX5_isWord 39 = .ok (.ldc 76, 2) := by decide +kernel
theorem dX5_isWord_41 : decode cX5_isWord 41 = .ok (.iload_n 1, 1) := by decide +kernel
theorem dX5_isWord_42 : decode cX5_isWord 42 = .ok (.iconst 5, 1) := by decide +kernel
theorem dX5_isWord_43 : decode cX5_isWord 43 = .ok (.imul, 1) := by decide +kernel
theorem dX5_isWord_44 : decode cX5_isWord 44 = .ok (.iload_n 3, 1) := by decide +kernel
theorem dX5_isWord_45 : decode cX5_isWord 45 = .ok (.iadd, 1) := by decide +kernel
theorem dX5_isWord_46 : decode cX5_isWord 46 = .ok (.invokevirtual 78, 3) := by decide +kernel
theorem dX5_isWord_49 : decode cX5_isWord 49 = .ok (.aload_n 0, 1) := by decide +kernel
theorem dX5_isWord_50 : decode cX5_isWord 50 = .ok (.getfield 7, 3) := by decide +kernel
theorem dX5_isWord_53 : decode cX5_isWord 53 = .ok (.aload_n 0, 1) := by decide +kernel
theorem dX5_isWord_54 : decode cX5_isWord 54 = .ok (.getfield 20, 3) := by decide +kernel
theorem dX5_isWord_57 : decode cX5_isWord 57 = .ok (.iload_n 3, 1) := by decide +kernel
theorem dX5_isWord_58 : decode cX5_isWord 58 = .ok (.iadd, 1) := by decide +kernel
theorem dX5_isWord_59 : decode cX5_isWord 59 = .ok (.iaload, 1) := by decide +kernel
theorem dX5_isWord_60 : decode cX5_isWord 60 = .ok (.if_icmp .eq 5, 3) := by decide +kernel
theorem dX5_isWord_63 : decode cX5_isWord 63 = .ok (.iconst 0, 1) := by decide +kernel
theorem dX5_isWord_64 : decode cX5_isWord 64 = .ok (.ireturn, 1) := by decide +kernel
theorem dX5_isWord_65 : decode cX5_isWord 65 = .ok (.iinc 3 1, 3) := by decide +kernel
theorem dX5_isWord_68 : decode cX5_isWord 68 = .ok (.goto (-34), 3) := by decide +kernel
theorem dX5_isWord_71 : decode cX5_isWord 71 = .ok (.iconst 1, 1) := by decide +kernel
theorem dX5_isWord_72 : decode cX5_isWord 72 = .ok (.ireturn, 1) := by decide +kernel
set_option maxRecDepth 20000 in
theorem ggX5_readAmount_X5_isDigit : GoodIn wsX5_readAmount wsX5_isDigit := goodIn_r _ [14, 15, 16, 17] (by decide +kernel) (by decide +kernel)
set_option maxRecDepth 20000 in
theorem gX5_readAmount_X5_isDigit : GoodIn wsX5_readAmount (va_wsS RX5 67 yX5_isDigit wsX5_isDigit) := goodIn_app (goodIn_of _ (by decide +kernel)) ggX5_readAmount_X5_isDigit
theorem dX5_readAmount_0 : decode cX5_readAmount 0 = .ok (.aload_n 0, 1) := by decide +kernel
theorem dX5_readAmount_1 : decode cX5_readAmount 1 = .ok (.iconst 0, 1) := by decide +kernel
theorem dX5_readAmount_2 : decode cX5_readAmount 2 = .ok (.putfield 26, 3) := by decide +kernel
theorem dX5_readAmount_5 : decode cX5_readAmount 5 = .ok (.aload_n 0, 1) := by decide +kernel
theorem dX5_readAmount_6 : decode cX5_readAmount 6 = .ok (.getfield 17, 3) := by decide +kernel
theorem dX5_readAmount_9 : decode cX5_readAmount 9 = .ok (.aload_n 0, 1) := by decide +kernel
theorem dX5_readAmount_10 : decode cX5_readAmount 10 = .ok (.getfield 13, 3) := by decide +kernel
theorem dX5_readAmount_13 : decode cX5_readAmount 13 = .ok (.if_icmp .ge 61, 3) := by decide +kernel
theorem dX5_readAmount_16 : decode cX5_readAmount 16 = .ok (.aload_n 0, 1) := by decide +kernel
theorem dX5_readAmount_17 : decode cX5_readAmount 17 = .ok (.getfield 7, 3) := by decide +kernel
theorem dX5_readAmount_20 : decode cX5_readAmount 20 = .ok (.aload_n 0, 1) := by decide +kernel
theorem dX5_readAmount_21 : decode cX5_readAmount 21 = .ok (.getfield 17, 3) := by decide +kernel
theorem dX5_readAmount_24 : decode cX5_readAmount 24 = .ok (.iaload, 1) := by decide +kernel
theorem dX5_readAmount_25 : decode cX5_readAmount 25 = .ok (.invokestatic 67, 3) := by decide +kernel
theorem dX5_readAmount_28 : decode cX5_readAmount 28 = .ok (.ifCond .eq 46, 3) := by decide +kernel
theorem dX5_readAmount_31 : decode cX5_readAmount 31 = .ok (.aload_n 0, 1) := by decide +kernel
theorem dX5_readAmount_32 : decode cX5_readAmount 32 = .ok (.aload_n 0, 1) := by decide +kernel
theorem dX5_readAmount_33 : decode cX5_readAmount 33 = .ok (.getfield 26, 3) := by decide +kernel
theorem dX5_readAmount_36 : decode cX5_readAmount 36 = .ok (.bipush 10, 2) := by decide +kernel
theorem dX5_readAmount_38 : decode cX5_readAmount 38 = .ok (.imul, 1) := by decide +kernel
theorem dX5_readAmount_39 : decode cX5_readAmount 39 = .ok (.aload_n 0, 1) := by decide +kernel
theorem dX5_readAmount_40 : decode cX5_readAmount 40 = .ok (.getfield 7, 3) := by decide +kernel
theorem dX5_readAmount_43 : decode cX5_readAmount 43 = .ok (.aload_n 0, 1) := by decide +kernel
theorem dX5_readAmount_44 : decode cX5_readAmount 44 = .ok (.getfield 17, 3) := by decide +kernel
theorem dX5_readAmount_47 : decode cX5_readAmount 47 = .ok (.iaload, 1) := by decide +kernel
theorem dX5_readAmount_48 : decode cX5_readAmount 48 = .ok (.iadd, 1) := by decide +kernel
theorem dX5_readAmount_49 : decode cX5_readAmount 49 = .ok (.bipush 48, 2) := by decide +kernel
theorem dX5_readAmount_51 : decode cX5_readAmount 51 = .ok (.isub, 1) := by decide +kernel
theorem dX5_readAmount_52 : decode cX5_readAmount 52 = .ok (.sipush 1000, 3) := by decide +kernel
theorem dX5_readAmount_55 : decode cX5_readAmount 55 = .ok (.invokestatic 29, 3) := by decide +kernel
theorem dX5_readAmount_58 : decode cX5_readAmount 58 = .ok (.putfield 26, 3) := by decide +kernel
theorem dX5_readAmount_61 : decode cX5_readAmount 61 = .ok (.aload_n 0, 1) := by decide +kernel
theorem dX5_readAmount_62 : decode cX5_readAmount 62 = .ok (.dup, 1) := by decide +kernel
theorem dX5_readAmount_63 : decode cX5_readAmount 63 = .ok (.getfield 17, 3) := by decide +kernel
theorem dX5_readAmount_66 : decode cX5_readAmount 66 = .ok (.iconst 1, 1) := by decide +kernel
theorem dX5_readAmount_67 : decode cX5_readAmount 67 = .ok (.iadd, 1) := by decide +kernel
theorem dX5_readAmount_68 : decode cX5_readAmount 68 = .ok (.putfield 17, 3) := by decide +kernel
theorem dX5_readAmount_71 : decode cX5_readAmount 71 = .ok (.goto (-66), 3) := by decide +kernel
theorem dX5_readAmount_74 : decode cX5_readAmount 74 = .ok (.aload_n 0, 1) := by decide +kernel
theorem dX5_readAmount_75 : decode cX5_readAmount 75 = .ok (.getfield 7, 3) := by decide +kernel
theorem dX5_readAmount_78 : decode cX5_readAmount 78 = .ok (.aload_n 0, 1) := by decide +kernel
theorem dX5_readAmount_79 : decode cX5_readAmount 79 = .ok (.getfield 20, 3) := by decide +kernel
theorem dX5_readAmount_82 : decode cX5_readAmount 82 = .ok (.iaload, 1) := by decide +kernel
theorem dX5_readAmount_83 : decode cX5_readAmount 83 = .ok (.bipush 48, 2) := by decide +kernel
theorem dX5_readAmount_85 : decode cX5_readAmount 85 = .ok (.if_icmp .ne 20, 3) := by decide +kernel
theorem dX5_readAmount_88 : decode cX5_readAmount 88 = .ok (.aload_n 0, 1) := by decide +kernel
theorem dX5_readAmount_89 : decode cX5_readAmount 89 = .ok (.getfield 17, 3) := by decide +kernel
theorem dX5_readAmount_92 : decode cX5_readAmount 92 = .ok (.aload_n 0, 1) := by decide +kernel
theorem dX5_readAmount_93 : decode cX5_readAmount 93 = .ok (.getfield 20, 3) := by decide +kernel
theorem dX5_readAmount_96 : decode cX5_readAmount 96 = .ok (.isub, 1) := by decide +kernel
theorem dX5_readAmount_97 : decode cX5_readAmount 97 = .ok (.iconst 1, 1) := by decide +kernel
theorem dX5_readAmount_98 : decode cX5_readAmount 98 = .ok (.if_icmp .le 7, 3) := by decide +kernel
theorem dX5_readAmount_101 : decode cX5_readAmount 101 = .ok (.iconst 1, 1) := by decide +kernel
theorem dX5_readAmount_102 : decode cX5_readAmount 102 = .ok (.goto 4, 3) := by decide +kernel
theorem dX5_readAmount_105 : decode cX5_readAmount 105 = .ok (.iconst 0, 1) := by decide +kernel
theorem dX5_readAmount_106 : decode cX5_readAmount 106 = .ok (.istore_n 1, 1) := by decide +kernel
theorem dX5_readAmount_107 : decode cX5_readAmount 107 = .ok (.aload_n 0, 1) := by decide +kernel
theorem dX5_readAmount_108 : decode cX5_readAmount 108 = .ok (.iload_n 1, 1) := by decide +kernel
theorem dX5_readAmount_109 : decode cX5_readAmount 109 = .ok (.ifCond .ne 13, 3) := by decide +kernel
theorem dX5_readAmount_112 : decode cX5_readAmount 112 = .ok (.aload_n 0, 1) := by decide +kernel
theorem dX5_readAmount_113 : decode cX5_readAmount 113 = .ok (.getfield 26, 3) := by decide +kernel
theorem dX5_readAmount_116 : decode cX5_readAmount 116 = .ok (.sipush 999, 3) := by decide +kernel
theorem dX5_readAmount_119 : decode cX5_readAmount 119 = .ok (.if_icmp .le 7, 3) := by decide +kernel
theorem dX5_readAmount_122 : decode cX5_readAmount 122 = .ok (.iconst 5, 1) := by decide +kernel
theorem dX5_readAmount_123 : decode cX5_readAmount 123 = .ok (.goto 4, 3) := by decide +kernel
theorem dX5_readAmount_126 : decode cX5_readAmount 126 = .ok (.iconst 3, 1) := by decide +kernel
theorem dX5_readAmount_127 : decode cX5_readAmount 127 = .ok (.putfield 23, 3) := by decide +kernel
theorem dX5_readAmount_130 : decode cX5_readAmount 130 = .ok (.return_, 1) := by decide +kernel
set_option maxRecDepth 20000 in
theorem ggX5_isLetter_X8_within : GoodIn wsX5_isLetter wsX8_within := goodIn_r _ [3] (by decide +kernel) (by decide +kernel)
set_option maxRecDepth 20000 in
theorem gX5_isLetter_X8_within_n84 : GoodIn wsX5_isLetter (wsX8_within) := ggX5_isLetter_X8_within
theorem dX5_isLetter_0 : decode cX5_isLetter 0 = .ok (.iload_n 0, 1) := by decide +kernel
theorem dX5_isLetter_1 : decode cX5_isLetter 1 = .ok (.bipush 97, 2) := by decide +kernel
theorem dX5_isLetter_3 : decode cX5_isLetter 3 = .ok (.bipush 122, 2) := by decide +kernel
theorem dX5_isLetter_5 : decode cX5_isLetter 5 = .ok (.invokestatic 84, 3) := by decide +kernel
theorem dX5_isLetter_8 : decode cX5_isLetter 8 = .ok (.ireturn, 1) := by decide +kernel
set_option maxRecDepth 20000 in
theorem ggX5_isDigit_X8_within : GoodIn wsX5_isDigit wsX8_within := goodIn_r _ [3] (by decide +kernel) (by decide +kernel)
set_option maxRecDepth 20000 in
theorem gX5_isDigit_X8_within_n84 : GoodIn wsX5_isDigit (wsX8_within) := ggX5_isDigit_X8_within
theorem dX5_isDigit_0 : decode cX5_isDigit 0 = .ok (.iload_n 0, 1) := by decide +kernel
theorem dX5_isDigit_1 : decode cX5_isDigit 1 = .ok (.bipush 48, 2) := by decide +kernel
theorem dX5_isDigit_3 : decode cX5_isDigit 3 = .ok (.bipush 57, 2) := by decide +kernel
theorem dX5_isDigit_5 : decode cX5_isDigit 5 = .ok (.invokestatic 84, 3) := by decide +kernel
theorem dX5_isDigit_8 : decode cX5_isDigit 8 = .ok (.ireturn, 1) := by decide +kernel
theorem dX6_init_0 : decode cX6_init 0 = .ok (.aload_n 0, 1) := by decide +kernel
theorem dX6_init_1 : decode cX6_init 1 = .ok (.invokespecial 3, 3) := by decide +kernel
theorem dX6_init_4 : decode cX6_init 4 = .ok (.aload_n 0, 1) := by decide +kernel
theorem dX6_init_5 : decode cX6_init 5 = .ok (.iconst 0, 1) := by decide +kernel
