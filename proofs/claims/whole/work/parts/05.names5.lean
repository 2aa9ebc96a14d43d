theorem dX9_allTheSame_24 : decode cX9_allTheSame 24 = .ok (.istore 8, 2) := by decide +kernel
theorem dX9_allTheSame_26 : decode cX9_allTheSame 26 = .ok (.iload 8, 2) := by decide +kernel
theorem dX9_allTheSame_28 : decode cX9_allTheSame 28 = .ok (.ifCond .lt 110, 3) := by decide +kernel
theorem dX9_allTheSame_31 : decode cX9_allTheSame 31 = .ok (.iload 8, 2) := by decide +kernel
theorem dX9_allTheSame_33 : decode cX9_allTheSame 33 = .ok (.iload_n 2, 1) := by decide +kernel
theorem dX9_allTheSame_34 : decode cX9_allTheSame 34 = .ok (.if_icmp .ne 14, 3) := by decide +kernel
theorem dX9_allTheSame_37 : decode cX9_allTheSame 37 = .ok (.aload_n 0, 1) := by decide +kernel
theorem dX9_allTheSame_38 : decode cX9_allTheSame 38 = .ok (.getfield 13, 3) := by decide +kernel
theorem dX9_allTheSame_41 : decode cX9_allTheSame 41 = .ok (.iload 8, 2) := by decide +kernel
theorem dX9_allTheSame_43 : decode cX9_allTheSame 43 = .ok (.iconst 0, 1) := by decide +kernel
theorem dX9_allTheSame_44 : decode cX9_allTheSame 44 = .ok (.iastore, 1) := by decide +kernel
theorem dX9_allTheSame_45 : decode cX9_allTheSame 45 = .ok (.goto 87, 3) := by decide +kernel
theorem dX9_allTheSame_48 : decode cX9_allTheSame 48 = .ok (.iload 5, 2) := by decide +kernel
theorem dX9_allTheSame_50 : decode cX9_allTheSame 50 = .ok (.bipush 13, 2) := by decide +kernel
theorem dX9_allTheSame_52 : decode cX9_allTheSame 52 = .ok (.irem, 1) := by decide +kernel
theorem dX9_allTheSame_53 : decode cX9_allTheSame 53 = .ok (.bipush 6, 2) := by decide +kernel
theorem dX9_allTheSame_55 : decode cX9_allTheSame 55 = .ok (.isub, 1) := by decide +kernel
theorem dX9_allTheSame_56 : decode cX9_allTheSame 56 = .ok (.istore 9, 2) := by decide +kernel
theorem dX9_allTheSame_58 : decode cX9_allTheSame 58 = .ok (.iload 5, 2) := by decide +kernel
theorem dX9_allTheSame_60 : decode cX9_allTheSame 60 = .ok (.bipush 13, 2) := by decide +kernel
theorem dX9_allTheSame_62 : decode cX9_allTheSame 62 = .ok (.idiv, 1) := by decide +kernel
theorem dX9_allTheSame_63 : decode cX9_allTheSame 63 = .ok (.istore 5, 2) := by decide +kernel
theorem dX9_allTheSame_65 : decode cX9_allTheSame 65 = .ok (.aload_n 0, 1) := by decide +kernel
theorem dX9_allTheSame_66 : decode cX9_allTheSame 66 = .ok (.getfield 13, 3) := by decide +kernel
theorem dX9_allTheSame_69 : decode cX9_allTheSame 69 = .ok (.iload 8, 2) := by decide +kernel
theorem dX9_allTheSame_71 : decode cX9_allTheSame 71 = .ok (.aload_n 0, 1) := by decide +kernel
theorem dX9_allTheSame_72 : decode cX9_allTheSame 72 = .ok (.getfield 7, 3) := by decide +kernel
theorem dX9_allTheSame_75 : decode cX9_allTheSame 75 = .ok (.bipush 6, 2) := by decide +kernel
theorem dX9_allTheSame_77 : decode cX9_allTheSame 77 = .ok (.iload_n 1, 1) := by decide +kernel
theorem dX9_allTheSame_78 : decode cX9_allTheSame 78 = .ok (.imul, 1) := by decide +kernel
theorem dX9_allTheSame_79 : decode cX9_allTheSame 79 = .ok (.iload 8, 2) := by decide +kernel
theorem dX9_allTheSame_81 : decode cX9_allTheSame 81 = .ok (.iadd, 1) := by decide +kernel
theorem dX9_allTheSame_82 : decode cX9_allTheSame 82 = .ok (.iaload, 1) := by decide +kernel
theorem dX9_allTheSame_83 : decode cX9_allTheSame 83 = .ok (.iload 9, 2) := by decide +kernel
theorem dX9_allTheSame_85 : decode cX9_allTheSame 85 = .ok (.iadd, 1) := by decide +kernel
theorem dX9_allTheSame_86 : decode cX9_allTheSame 86 = .ok (.iastore, 1) := by decide +kernel
theorem dX9_allTheSame_87 : decode cX9_allTheSame 87 = .ok (.iload 6, 2) := by decide +kernel
theorem dX9_allTheSame_89 : decode cX9_allTheSame 89 = .ok (.iload 9, 2) := by decide +kernel
theorem dX9_allTheSame_91 : decode cX9_allTheSame 91 = .ok (.ifCond .ge 9, 3) := by decide +kernel
theorem dX9_allTheSame_94 : decode cX9_allTheSame 94 = .ok (.iload 9, 2) := by decide +kernel
theorem dX9_allTheSame_96 : decode cX9_allTheSame 96 = .ok (.ineg, 1) := by decide +kernel
theorem dX9_allTheSame_97 : decode cX9_allTheSame 97 = .ok (.goto 5, 3) := by decide +kernel
theorem dX9_allTheSame_100 : decode cX9_allTheSame 100 = .ok (.iload 9, 2) := by decide +kernel
theorem dX9_allTheSame_102 : decode cX9_allTheSame 102 = .ok (.iadd, 1) := by decide +kernel
theorem dX9_allTheSame_103 : decode cX9_allTheSame 103 = .ok (.istore 6, 2) := by decide +kernel
theorem dX9_allTheSame_105 : decode cX9_allTheSame 105 = .ok (.iload 7, 2) := by decide +kernel
theorem dX9_allTheSame_107 : decode cX9_allTheSame 107 = .ok (.ifCond .eq 22, 3) := by decide +kernel
theorem dX9_allTheSame_110 : decode cX9_allTheSame 110 = .ok (.iload 8, 2) := by decide +kernel
theorem dX9_allTheSame_112 : decode cX9_allTheSame 112 = .ok (.aload_n 0, 1) := by decide +kernel
theorem dX9_allTheSame_113 : decode cX9_allTheSame 113 = .ok (.getfield 13, 3) := by decide +kernel
theorem dX9_allTheSame_116 : decode cX9_allTheSame 116 = .ok (.iload 8, 2) := by decide +kernel
theorem dX9_allTheSame_118 : decode cX9_allTheSame 118 = .ok (.iaload, 1) := by decide +kernel
theorem dX9_allTheSame_119 : decode cX9_allTheSame 119 = .ok (.invokestatic 66, 3) := by decide +kernel
theorem dX9_allTheSame_122 : decode cX9_allTheSame 122 = .ok (.ifCond .eq 7, 3) := by decide +kernel
theorem dX9_allTheSame_125 : decode cX9_allTheSame 125 = .ok (.iconst 1, 1) := by decide +kernel
theorem dX9_allTheSame_126 : decode cX9_allTheSame 126 = .ok (.goto 4, 3) := by decide +kernel
theorem dX9_allTheSame_129 : decode cX9_allTheSame 129 = .ok (.iconst 0, 1) := by decide +kernel
theorem dX9_allTheSame_130 : decode cX9_allTheSame 130 = .ok (.istore 7, 2) := by decide +kernel
theorem dX9_allTheSame_132 : decode cX9_allTheSame 132 = .ok (.iinc 8 (-1), 3) := by decide +kernel
theorem dX9_allTheSame_135 : decode cX9_allTheSame 135 = .ok (.goto (-109), 3) := by decide +kernel
theorem dX9_allTheSame_138 : decode cX9_allTheSame 138 = .ok (.iload 7, 2) := by decide +kernel
theorem dX9_allTheSame_140 : decode cX9_allTheSame 140 = .ok (.ifCond .eq 51, 3) := by decide +kernel
theorem dX9_allTheSame_143 : decode cX9_allTheSame 143 = .ok (.iload 6, 2) := by decide +kernel
theorem dX9_allTheSame_145 : decode cX9_allTheSame 145 = .ok (.iload_n 3, 1) := by decide +kernel
theorem dX9_allTheSame_146 : decode cX9_allTheSame 146 = .ok (.if_icmp .ge 45, 3) := by decide +kernel
theorem dX9_allTheSame_149 : decode cX9_allTheSame 149 = .ok (.aload_n 0, 1) := by decide +kernel
theorem dX9_allTheSame_150 : decode cX9_allTheSame 150 = .ok (.invokevirtual 94, 3) := by decide +kernel
theorem dX9_allTheSame_153 : decode cX9_allTheSame 153 = .ok (.lconst 0, 1) := by decide +kernel
theorem dX9_allTheSame_154 : decode cX9_allTheSame 154 = .ok (.lcmp, 1) := by decide +kernel
theorem dX9_allTheSame_155 : decode cX9_allTheSame 155 = .ok (.ifCond .eq 36, 3) := by decide +kernel
theorem dX9_allTheSame_158 : decode cX9_allTheSame 158 = .ok (.iload 6, 2) := by decide +kernel
theorem dX9_allTheSame_160 : decode cX9_allTheSame 160 = .ok (.istore_n 3, 1) := by decide +kernel
theorem dX9_allTheSame_161 : decode cX9_allTheSame 161 = .ok (.iconst 0, 1) := by decide +kernel
theorem dX9_allTheSame_162 : decode cX9_allTheSame 162 = .ok (.istore 8, 2) := by decide +kernel
theorem dX9_allTheSame_164 : decode cX9_allTheSame 164 = .ok (.iload 8, 2) := by decide +kernel
theorem dX9_allTheSame_166 : decode cX9_allTheSame 166 = .ok (.bipush 6, 2) := by decide +kernel
theorem dX9_allTheSame_168 : decode cX9_allTheSame 168 = .ok (.if_icmp .ge 23, 3) := by decide +kernel
theorem dX9_allTheSame_171 : decode cX9_allTheSame 171 = .ok (.aload_n 0, 1) := by decide +kernel
theorem dX9_allTheSame_172 : decode cX9_allTheSame 172 = .ok (.getfield 45, 3) := by decide +kernel
theorem dX9_allTheSame_175 : decode cX9_allTheSame 175 = .ok (.iload 8, 2) := by decide +kernel
theorem dX9_allTheSame_177 : decode cX9_allTheSame 177 = .ok (.aload_n 0, 1) := by decide +kernel
theorem dX9_allTheSame_178 : decode cX9_allTheSame 178 = .ok (.getfield 13, 3) := by decide +kernel
theorem dX9_allTheSame_181 : decode cX9_allTheSame 181 = .ok (.iload 8, 2) := by decide +kernel
theorem dX9_allTheSame_183 : decode cX9_allTheSame 183 = .ok (.iaload, 1) := by decide +kernel
theorem dX9_allTheSame_184 : decode cX9_allTheSame 184 = .ok (.iastore, 1) := by decide +kernel
theorem dX9_allTheSame_185 : decode cX9_allTheSame 185 = .ok (.iinc 8 1, 3) := by decide +kernel
theorem dX9_allTheSame_188 : decode cX9_allTheSame 188 = .ok (.goto (-24), 3) := by decide +kernel
theorem dX9_allTheSame_191 : decode cX9_allTheSame 191 = .ok (.iinc 4 1, 3) := by decide +kernel
theorem dX9_allTheSame_194 : decode cX9_allTheSame 194 = .ok (.goto (-188), 3) := by decide +kernel
theorem dX9_allTheSame_197 : decode cX9_allTheSame 197 = .ok (.iload_n 3, 1) := by decide +kernel
theorem dX9_allTheSame_198 : decode cX9_allTheSame 198 = .ok (.bipush 7, 2) := by decide +kernel
theorem dX9_allTheSame_200 : decode cX9_allTheSame 200 = .ok (.if_icmp .ne 8, 3) := by decide +kernel
theorem dX9_allTheSame_203 : decode cX9_allTheSame 203 = .ok (.bipush (-9), 2) := by decide +kernel
theorem dX9_allTheSame_205 : decode cX9_allTheSame 205 = .ok (.goto 4, 3) := by decide +kernel
theorem dX9_allTheSame_208 : decode cX9_allTheSame 208 = .ok (.iload_n 3, 1) := by decide +kernel
theorem dX9_allTheSame_209 : decode cX9_allTheSame 209 = .ok (.ireturn, 1) := by decide +kernel
set_option maxRecDepth 20000 in
theorem ggX9_reason_X9_isBicycle : GoodIn wsX9_reason wsX9_isBicycle := goodIn_r _ [7, 8, 9, 6, 10] (by decide +kernel) (by decide +kernel)
set_option maxRecDepth 20000 in
theorem gX9_reason_X9_isBicycle : GoodIn wsX9_reason (va_wsS RX9 59 yX9_isBicycle wsX9_isBicycle) := goodIn_app (goodIn_of _ (by decide +kernel)) ggX9_reason_X9_isBicycle
set_option maxRecDepth 20000 in
theorem ggX9_reason_X9_in : GoodIn wsX9_reason wsX9_in := goodIn_r _ [10] (by decide +kernel) (by decide +kernel)
set_option maxRecDepth 20000 in
theorem gX9_reason_X9_in : GoodIn wsX9_reason (va_wsS RX9 51 yX9_in wsX9_in) := goodIn_app (goodIn_of _ (by decide +kernel)) ggX9_reason_X9_in
set_option maxRecDepth 20000 in
theorem ggX9_reason_X9_takes : GoodIn wsX9_reason wsX9_takes := goodIn_r _ [14, 15, 16, 46, 47, 48, 49, 50, 51, 52, 53, 54, 55, 56, 57, 58, 59, 60, 61, 62, 63, 64, 65, 66] (by decide +kernel) (by decide +kernel)
set_option maxRecDepth 20000 in
theorem gX9_reason_X9_takes : GoodIn wsX9_reason (wsV RX9 85 RX9 yX9_takes wsX9_takes) := goodIn_app (goodIn_of _ (by decide +kernel)) ggX9_reason_X9_takes
set_option maxRecDepth 20000 in
theorem ggX9_reason_X9_speeds : GoodIn wsX9_reason wsX9_speeds := goodIn_r _ [20, 21, 22, 23, 6, 24, 25, 15, 26, 27, 28, 29, 30, 46, 47, 48, 49, 50, 51, 52, 53, 54, 55, 56, 57, 58, 59, 60, 61, 62, 63, 64, 65, 66] (by decide +kernel) (by decide +kernel)
set_option maxRecDepth 20000 in
theorem gX9_reason_X9_speeds : GoodIn wsX9_reason (wsV RX9 94 RX9 yX9_speeds wsX9_speeds) := goodIn_app (goodIn_of _ (by decide +kernel)) ggX9_reason_X9_speeds
set_option maxRecDepth 20000 in
theorem ggX9_reason_X9_rangeWithout : GoodIn wsX9_reason wsX9_rangeWithout := goodIn_r _ [34, 15, 11, 12, 13, 6, 14, 16, 17, 18, 19, 20, 21, 22, 23, 24, 25, 26, 27, 28, 29, 30, 46, 47, 48, 49, 50, 51, 52, 53, 54, 55, 56, 57, 58, 59, 60, 61, 62, 63, 64, 65, 66] (by decide +kernel) (by decide +kernel)
set_option maxRecDepth 20000 in
theorem gX9_reason_X9_rangeWithout : GoodIn wsX9_reason (wsV RX9 98 RX9 yX9_rangeWithout wsX9_rangeWithout) := goodIn_app (goodIn_of _ (by decide +kernel)) ggX9_reason_X9_rangeWithout
set_option maxRecDepth 20000 in
theorem ggX9_reason_X9_allTheSame : GoodIn wsX9_reason wsX9_allTheSame := goodIn_r _ [38, 39, 15, 16, 3, 40, 41, 6, 42, 43, 44, 45, 8, 9, 10, 17, 18, 19, 20, 21, 22, 23, 24, 25, 26, 27, 28, 29, 30, 46, 47, 48, 49, 50, 51, 52, 53, 54, 55, 56, 57, 58, 59, 60, 61, 62, 63, 64, 65, 66] (by decide +kernel) (by decide +kernel)
set_option maxRecDepth 20000 in
theorem gX9_reason_X9_allTheSame : GoodIn wsX9_reason (wsV RX9 103 RX9 yX9_allTheSame wsX9_allTheSame) := goodIn_app (goodIn_of _ (by decide +kernel)) ggX9_reason_X9_allTheSame
theorem dX9_reason_0 : decode cX9_reason 0 = .ok (.aload_n 0, 1) := by decide +kernel
theorem dX9_reason_1 : decode cX9_reason 1 = .ok (.iconst 0, 1) := by decide +kernel
theorem dX9_reason_2 : decode cX9_reason 2 = .ok (.putfield 48, 3) := by decide +kernel
theorem dX9_reason_5 : decode cX9_reason 5 = .ok (.iload_n 1, 1) := by decide +kernel
theorem dX9_reason_6 : decode cX9_reason 6 = .ok (.invokestatic 59, 3) := by decide +kernel
theorem dX9_reason_9 : decode cX9_reason 9 = .ok (.ifCond .eq 22, 3) := by decide +kernel
theorem dX9_reason_12 : decode cX9_reason 12 = .ok (.iload_n 2, 1) := by decide +kernel
theorem dX9_reason_13 : decode cX9_reason 13 = .ok (.iconst 0, 1) := by decide +kernel
theorem dX9_reason_14 : decode cX9_reason 14 = .ok (.iconst 2, 1) := by decide +kernel
theorem dX9_reason_15 : decode cX9_reason 15 = .ok (.invokestatic 51, 3) := by decide +kernel
theorem dX9_reason_18 : decode cX9_reason 18 = .ok (.ifCond .eq 13, 3) := by decide +kernel
theorem dX9_reason_21 : decode cX9_reason 21 = .ok (.iload_n 3, 1) := by decide +kernel
theorem dX9_reason_22 : decode cX9_reason 22 = .ok (.iconst 0, 1) := by decide +kernel
theorem dX9_reason_23 : decode cX9_reason 23 = .ok (.bipush 7, 2) := by decide +kernel
theorem dX9_reason_25 : decode cX9_reason 25 = .ok (.invokestatic 51, 3) := by decide +kernel
theorem dX9_reason_28 : decode cX9_reason 28 = .ok (.ifCond .ne 6, 3) := by decide +kernel
theorem dX9_reason_31 : decode cX9_reason 31 = .ok (.ldc 70, 2) := by decide +kernel
theorem dX9_reason_33 : decode cX9_reason 33 = .ok (.ireturn, 1) := by decide +kernel
theorem dX9_reason_34 : decode cX9_reason 34 = .ok (.iload_n 3, 1) := by decide +kernel
theorem dX9_reason_35 : decode cX9_reason 35 = .ok (.ifCond .ne 46, 3) := by decide +kernel
theorem dX9_reason_38 : decode cX9_reason 38 = .ok (.aload_n 0, 1) := by decide +kernel
theorem dX9_reason_39 : decode cX9_reason 39 = .ok (.iload_n 1, 1) := by decide +kernel
theorem dX9_reason_40 : decode cX9_reason 40 = .ok (.invokevirtual 85, 3) := by decide +kernel
theorem dX9_reason_43 : decode cX9_reason 43 = .ok (.aload_n 0, 1) := by decide +kernel
theorem dX9_reason_44 : decode cX9_reason 44 = .ok (.invokevirtual 94, 3) := by decide +kernel
theorem dX9_reason_47 : decode cX9_reason 47 = .ok (.lconst 0, 1) := by decide +kernel
theorem dX9_reason_48 : decode cX9_reason 48 = .ok (.lcmp, 1) := by decide +kernel
theorem dX9_reason_49 : decode cX9_reason 49 = .ok (.ifCond .eq 7, 3) := by decide +kernel
theorem dX9_reason_52 : decode cX9_reason 52 = .ok (.iconst 1, 1) := by decide +kernel
theorem dX9_reason_53 : decode cX9_reason 53 = .ok (.goto 4, 3) := by decide +kernel
theorem dX9_reason_56 : decode cX9_reason 56 = .ok (.iconst 0, 1) := by decide +kernel
theorem dX9_reason_57 : decode cX9_reason 57 = .ok (.istore 4, 2) := by decide +kernel
theorem dX9_reason_59 : decode cX9_reason 59 = .ok (.iload 4, 2) := by decide +kernel
theorem dX9_reason_61 : decode cX9_reason 61 = .ok (.ifCond .eq 18, 3) := by decide +kernel
theorem dX9_reason_64 : decode cX9_reason 64 = .ok (.aload_n 0, 1) := by decide +kernel
theorem dX9_reason_65 : decode cX9_reason 65 = .ok (.iload_n 1, 1) := by decide +kernel
theorem dX9_reason_66 : decode cX9_reason 66 = .ok (.iload_n 2, 1) := by decide +kernel
theorem dX9_reason_67 : decode cX9_reason 67 = .ok (.invokevirtual 98, 3) := by decide +kernel
theorem dX9_reason_70 : decode cX9_reason 70 = .ok (.lconst 0, 1) := by decide +kernel
theorem dX9_reason_71 : decode cX9_reason 71 = .ok (.lcmp, 1) := by decide +kernel
theorem dX9_reason_72 : decode cX9_reason 72 = .ok (.ifCond .ne 7, 3) := by decide +kernel
theorem dX9_reason_75 : decode cX9_reason 75 = .ok (.iconst 1, 1) := by decide +kernel
theorem dX9_reason_76 : decode cX9_reason 76 = .ok (.goto 4, 3) := by decide +kernel
theorem dX9_reason_79 : decode cX9_reason 79 = .ok (.iconst 0, 1) := by decide +kernel
theorem dX9_reason_80 : decode cX9_reason 80 = .ok (.ireturn, 1) := by decide +kernel
theorem dX9_reason_81 : decode cX9_reason 81 = .ok (.aload_n 0, 1) := by decide +kernel
theorem dX9_reason_82 : decode cX9_reason 82 = .ok (.iload_n 1, 1) := by decide +kernel
theorem dX9_reason_83 : decode cX9_reason 83 = .ok (.iload_n 2, 1) := by decide +kernel
theorem dX9_reason_84 : decode cX9_reason 84 = .ok (.invokevirtual 103, 3) := by decide +kernel
theorem dX9_reason_87 : decode cX9_reason 87 = .ok (.istore 4, 2) := by decide +kernel
theorem dX9_reason_89 : decode cX9_reason 89 = .ok (.iload 4, 2) := by decide +kernel
theorem dX9_reason_91 : decode cX9_reason 91 = .ok (.bipush (-9), 2) := by decide +kernel
theorem dX9_reason_93 : decode cX9_reason 93 = .ok (.if_icmp .ne 8, 3) := by decide +kernel
theorem dX9_reason_96 : decode cX9_reason 96 = .ok (.ldc 70, 2) := by decide +kernel
theorem dX9_reason_98 : decode cX9_reason 98 = .ok (.goto 21, 3) := by decide +kernel
theorem dX9_reason_101 : decode cX9_reason 101 = .ok (.iload_n 3, 1) := by decide +kernel
theorem dX9_reason_102 : decode cX9_reason 102 = .ok (.iconst 1, 1) := by decide +kernel
theorem dX9_reason_103 : decode cX9_reason 103 = .ok (.if_icmp .ne 8, 3) := by decide +kernel
theorem dX9_reason_106 : decode cX9_reason 106 = .ok (.iload 4, 2) := by decide +kernel
theorem dX9_reason_108 : decode cX9_reason 108 = .ok (.goto 11, 3) := by decide +kernel
theorem dX9_reason_111 : decode cX9_reason 111 = .ok (.aload_n 0, 1) := by decide +kernel
theorem dX9_reason_112 : decode cX9_reason 112 = .ok (.getfield 45, 3) := by decide +kernel
theorem dX9_reason_115 : decode cX9_reason 115 = .ok (.iload_n 3, 1) := by decide +kernel
theorem dX9_reason_116 : decode cX9_reason 116 = .ok (.iconst 2, 1) := by decide +kernel
theorem dX9_reason_117 : decode cX9_reason 117 = .ok (.isub, 1) := by decide +kernel
theorem dX9_reason_118 : decode cX9_reason 118 = .ok (.iaload, 1) := by decide +kernel
theorem dX9_reason_119 : decode cX9_reason 119 = .ok (.ireturn, 1) := by decide +kernel
set_option maxRecDepth 20000 in
theorem ggX9_moves_X9_isBicycle : GoodIn wsX9_moves wsX9_isBicycle := goodIn_r _ [7, 8, 9, 6, 10] (by decide +kernel) (by decide +kernel)
set_option maxRecDepth 20000 in
theorem gX9_moves_X9_isBicycle : GoodIn wsX9_moves (va_wsS RX9 59 yX9_isBicycle wsX9_isBicycle) := goodIn_app (goodIn_of _ (by decide +kernel)) ggX9_moves_X9_isBicycle
set_option maxRecDepth 20000 in
theorem ggX9_moves_X9_isNumber : GoodIn wsX9_moves wsX9_isNumber := goodIn_r _ [13, 8, 9, 6, 10] (by decide +kernel) (by decide +kernel)
set_option maxRecDepth 20000 in
theorem gX9_moves_X9_isNumber : GoodIn wsX9_moves (va_wsS RX9 63 yX9_isNumber wsX9_isNumber) := goodIn_app (goodIn_of _ (by decide +kernel)) ggX9_moves_X9_isNumber
set_option maxRecDepth 20000 in
theorem ggX9_moves_X9_in : GoodIn wsX9_moves wsX9_in := goodIn_r _ [10] (by decide +kernel) (by decide +kernel)
set_option maxRecDepth 20000 in
theorem gX9_moves_X9_in : GoodIn wsX9_moves (va_wsS RX9 51 yX9_in wsX9_in) := goodIn_app (goodIn_of _ (by decide +kernel)) ggX9_moves_X9_in
set_option maxRecDepth 20000 in
theorem ggX9_moves_X9_takes : GoodIn wsX9_moves wsX9_takes := goodIn_r _ [17, 3, 18, 39, 40, 41, 42, 43, 44, 45, 46, 47, 48, 49, 50, 51, 52, 53, 54, 55, 56, 57, 58, 59] (by decide +kernel) (by decide +kernel)
set_option maxRecDepth 20000 in
theorem gX9_moves_X9_takes : GoodIn wsX9_moves (wsV RX9 85 RX9 yX9_takes wsX9_takes) := goodIn_app (goodIn_of _ (by decide +kernel)) ggX9_moves_X9_takes
set_option maxRecDepth 20000 in
theorem ggX9_moves_X9_manySpeeds : GoodIn wsX9_moves wsX9_manySpeeds := goodIn_r _ [22, 23, 24, 25, 6, 26, 27, 3, 28, 29, 30, 31, 32, 39, 40, 41, 42, 43, 44, 45, 46, 47, 48, 49, 50, 51, 52, 53, 54, 55, 56, 57, 58, 59] (by decide +kernel) (by decide +kernel)
set_option maxRecDepth 20000 in
theorem gX9_moves_X9_manySpeeds : GoodIn wsX9_moves (wsV RX9 107 RX9 yX9_manySpeeds wsX9_manySpeeds) := goodIn_app (goodIn_of _ (by decide +kernel)) ggX9_moves_X9_manySpeeds
set_option maxRecDepth 20000 in
theorem ggX9_moves_X9_mayBe : GoodIn wsX9_moves wsX9_mayBe := goodIn_r _ [35, 36, 37, 6, 38, 8, 9, 10] (by decide +kernel) (by decide +kernel)
set_option maxRecDepth 20000 in
theorem gX9_moves_X9_mayBe : GoodIn wsX9_moves (va_wsS RX9 66 yX9_mayBe wsX9_mayBe) := goodIn_app (goodIn_of _ (by decide +kernel)) ggX9_moves_X9_mayBe
theorem dX9_moves_0 : decode cX9_moves 0 = .ok (.aload_n 0, 1) := by decide +kernel
theorem dX9_moves_1 : decode cX9_moves 1 = .ok (.iconst 0, 1) := by decide +kernel
theorem dX9_moves_2 : decode cX9_moves 2 = .ok (.putfield 48, 3) := by decide +kernel
theorem dX9_moves_5 : decode cX9_moves 5 = .ok (.iload_n 1, 1) := by decide +kernel
theorem dX9_moves_6 : decode cX9_moves 6 = .ok (.invokestatic 59, 3) := by decide +kernel
theorem dX9_moves_9 : decode cX9_moves 9 = .ok (.ifCond .eq 19, 3) := by decide +kernel
theorem dX9_moves_12 : decode cX9_moves 12 = .ok (.iload_n 2, 1) := by decide +kernel
theorem dX9_moves_13 : decode cX9_moves 13 = .ok (.invokestatic 63, 3) := by decide +kernel
theorem dX9_moves_16 : decode cX9_moves 16 = .ok (.ifCond .eq 12, 3) := by decide +kernel
theorem dX9_moves_19 : decode cX9_moves 19 = .ok (.iload_n 3, 1) := by decide +kernel
theorem dX9_moves_20 : decode cX9_moves 20 = .ok (.iconst 0, 1) := by decide +kernel
theorem dX9_moves_21 : decode cX9_moves 21 = .ok (.iconst 1, 1) := by decide +kernel
theorem dX9_moves_22 : decode cX9_moves 22 = .ok (.invokestatic 51, 3) := by decide +kernel
theorem dX9_moves_25 : decode cX9_moves 25 = .ok (.ifCond .ne 6, 3) := by decide +kernel
theorem dX9_moves_28 : decode cX9_moves 28 = .ok (.ldc 70, 2) := by decide +kernel
theorem dX9_moves_30 : decode cX9_moves 30 = .ok (.ireturn, 1) := by decide +kernel
theorem dX9_moves_31 : decode cX9_moves 31 = .ok (.aload_n 0, 1) := by decide +kernel
theorem dX9_moves_32 : decode cX9_moves 32 = .ok (.iload_n 1, 1) := by decide +kernel
theorem dX9_moves_33 : decode cX9_moves 33 = .ok (.invokevirtual 85, 3) := by decide +kernel
theorem dX9_moves_36 : decode cX9_moves 36 = .ok (.aload_n 0, 1) := by decide +kernel
theorem dX9_moves_37 : decode cX9_moves 37 = .ok (.invokevirtual 107, 3) := by decide +kernel
theorem dX9_moves_40 : decode cX9_moves 40 = .ok (.istore 4, 2) := by decide +kernel
theorem dX9_moves_42 : decode cX9_moves 42 = .ok (.aload_n 0, 1) := by decide +kernel
theorem dX9_moves_43 : decode cX9_moves 43 = .ok (.getfield 13, 3) := by decide +kernel
theorem dX9_moves_46 : decode cX9_moves 46 = .ok (.iload_n 2, 1) := by decide +kernel
theorem dX9_moves_47 : decode cX9_moves 47 = .ok (.dup2, 1) := by decide +kernel
theorem dX9_moves_48 : decode cX9_moves 48 = .ok (.iaload, 1) := by decide +kernel
theorem dX9_moves_49 : decode cX9_moves 49 = .ok (.iload_n 3, 1) := by decide +kernel
theorem dX9_moves_50 : decode cX9_moves 50 = .ok (.iconst 1, 1) := by decide +kernel
theorem dX9_moves_51 : decode cX9_moves 51 = .ok (.if_icmp .ne 7, 3) := by decide +kernel
theorem dX9_moves_54 : decode cX9_moves 54 = .ok (.iconst 1, 1) := by decide +kernel
theorem dX9_moves_55 : decode cX9_moves 55 = .ok (.goto 4, 3) := by decide +kernel
theorem dX9_moves_58 : decode cX9_moves 58 = .ok (.iconst (-1), 1) := by decide +kernel
theorem dX9_moves_59 : decode cX9_moves 59 = .ok (.iadd, 1) := by decide +kernel
theorem dX9_moves_60 : decode cX9_moves 60 = .ok (.iastore, 1) := by decide +kernel
theorem dX9_moves_61 : decode cX9_moves 61 = .ok (.iload_n 2, 1) := by decide +kernel
theorem dX9_moves_62 : decode cX9_moves 62 = .ok (.aload_n 0, 1) := by decide +kernel
theorem dX9_moves_63 : decode cX9_moves 63 = .ok (.getfield 13, 3) := by decide +kernel
theorem dX9_moves_66 : decode cX9_moves 66 = .ok (.iload_n 2, 1) := by decide +kernel
theorem dX9_moves_67 : decode cX9_moves 67 = .ok (.iaload, 1) := by decide +kernel
theorem dX9_moves_68 : decode cX9_moves 68 = .ok (.invokestatic 66, 3) := by decide +kernel
theorem dX9_moves_71 : decode cX9_moves 71 = .ok (.ifCond .eq 13, 3) := by decide +kernel
theorem dX9_moves_74 : decode cX9_moves 74 = .ok (.aload_n 0, 1) := by decide +kernel
theorem dX9_moves_75 : decode cX9_moves 75 = .ok (.invokevirtual 107, 3) := by decide +kernel
theorem dX9_moves_78 : decode cX9_moves 78 = .ok (.iload 4, 2) := by decide +kernel
theorem dX9_moves_80 : decode cX9_moves 80 = .ok (.isub, 1) := by decide +kernel
theorem dX9_moves_81 : decode cX9_moves 81 = .ok (.goto 4, 3) := by decide +kernel
theorem dX9_moves_84 : decode cX9_moves 84 = .ok (.iconst 0, 1) := by decide +kernel
theorem dX9_moves_85 : decode cX9_moves 85 = .ok (.ireturn, 1) := by decide +kernel
set_option maxRecDepth 20000 in
theorem ggX9_grid_X9_isBicycle : GoodIn wsX9_grid wsX9_isBicycle := goodIn_r _ [7, 8, 9, 6, 10] (by decide +kernel) (by decide +kernel)
set_option maxRecDepth 20000 in
theorem gX9_grid_X9_isBicycle : GoodIn wsX9_grid (va_wsS RX9 59 yX9_isBicycle wsX9_isBicycle) := goodIn_app (goodIn_of _ (by decide +kernel)) ggX9_grid_X9_isBicycle
set_option maxRecDepth 20000 in
theorem ggX9_grid_X9_isNumber : GoodIn wsX9_grid wsX9_isNumber := goodIn_r _ [13, 8, 9, 6, 10] (by decide +kernel) (by decide +kernel)
set_option maxRecDepth 20000 in
theorem gX9_grid_X9_isNumber : GoodIn wsX9_grid (va_wsS RX9 63 yX9_isNumber wsX9_isNumber) := goodIn_app (goodIn_of _ (by decide +kernel)) ggX9_grid_X9_isNumber
set_option maxRecDepth 20000 in
theorem ggX9_grid_X9_in : GoodIn wsX9_grid wsX9_in := goodIn_r _ [10] (by decide +kernel) (by decide +kernel)
set_option maxRecDepth 20000 in
theorem gX9_grid_X9_in : GoodIn wsX9_grid (va_wsS RX9 51 yX9_in wsX9_in) := goodIn_app (goodIn_of _ (by decide +kernel)) ggX9_grid_X9_in
set_option maxRecDepth 20000 in
theorem ggX9_grid_X9_takes : GoodIn wsX9_grid wsX9_takes := goodIn_r _ [17, 3, 18, 36, 37, 38, 39, 40, 41, 42, 43, 44, 45, 46, 47, 48, 49, 50, 51, 52, 53, 54, 55, 56] (by decide +kernel) (by decide +kernel)
set_option maxRecDepth 20000 in
theorem gX9_grid_X9_takes : GoodIn wsX9_grid (wsV RX9 85 RX9 yX9_takes wsX9_takes) := goodIn_app (goodIn_of _ (by decide +kernel)) ggX9_grid_X9_takes
set_option maxRecDepth 20000 in
theorem ggX9_grid_X9_bottom : GoodIn wsX9_grid wsX9_bottom := goodIn_r _ [21] (by decide +kernel) (by decide +kernel)
set_option maxRecDepth 20000 in
theorem gX9_grid_X9_bottom : GoodIn wsX9_grid (va_wsS RX9 55 yX9_bottom wsX9_bottom) := goodIn_app (goodIn_of _ (by decide +kernel)) ggX9_grid_X9_bottom
set_option maxRecDepth 20000 in
theorem ggX9_grid_X9_speeds : GoodIn wsX9_grid wsX9_speeds := goodIn_r _ [25, 26, 27, 28, 6, 29, 30, 3, 31, 32, 33, 34, 35, 36, 37, 38, 39, 40, 41, 42, 43, 44, 45, 46, 47, 48, 49, 50, 51, 52, 53, 54, 55, 56] (by decide +kernel) (by decide +kernel)
set_option maxRecDepth 20000 in
theorem gX9_grid_X9_speeds : GoodIn wsX9_grid (wsV RX9 94 RX9 yX9_speeds wsX9_speeds) := goodIn_app (goodIn_of _ (by decide +kernel)) ggX9_grid_X9_speeds
theorem dX9_grid_0 : decode cX9_grid 0 = .ok (.aload_n 0, 1) := by decide +kernel
theorem dX9_grid_1 : decode cX9_grid 1 = .ok (.iconst 0, 1) := by decide +kernel
theorem dX9_grid_2 : decode cX9_grid 2 = .ok (.putfield 48, 3) := by decide +kernel
theorem dX9_grid_5 : decode cX9_grid 5 = .ok (.iload_n 1, 1) := by decide +kernel
theorem dX9_grid_6 : decode cX9_grid 6 = .ok (.invokestatic 59, 3) := by decide +kernel
theorem dX9_grid_9 : decode cX9_grid 9 = .ok (.ifCond .eq 32, 3) := by decide +kernel
theorem dX9_grid_12 : decode cX9_grid 12 = .ok (.iload_n 2, 1) := by decide +kernel
theorem dX9_grid_13 : decode cX9_grid 13 = .ok (.invokestatic 63, 3) := by decide +kernel
theorem dX9_grid_16 : decode cX9_grid 16 = .ok (.ifCond .eq 25, 3) := by decide +kernel
theorem dX9_grid_19 : decode cX9_grid 19 = .ok (.iload_n 3, 1) := by decide +kernel
theorem dX9_grid_20 : decode cX9_grid 20 = .ok (.invokestatic 63, 3) := by decide +kernel
theorem dX9_grid_23 : decode cX9_grid 23 = .ok (.ifCond .eq 18, 3) := by decide +kernel
theorem dX9_grid_26 : decode cX9_grid 26 = .ok (.iload_n 2, 1) := by decide +kernel
theorem dX9_grid_27 : decode cX9_grid 27 = .ok (.iload_n 3, 1) := by decide +kernel
theorem dX9_grid_28 : decode cX9_grid 28 = .ok (.if_icmp .eq 13, 3) := by decide +kernel
theorem dX9_grid_31 : decode cX9_grid 31 = .ok (.iload 4, 2) := by decide +kernel
theorem dX9_grid_33 : decode cX9_grid 33 = .ok (.iconst 0, 1) := by decide +kernel
theorem dX9_grid_34 : decode cX9_grid 34 = .ok (.iconst 2, 1) := by decide +kernel
theorem dX9_grid_35 : decode cX9_grid 35 = .ok (.invokestatic 51, 3) := by decide +kernel
theorem dX9_grid_38 : decode cX9_grid 38 = .ok (.ifCond .ne 6, 3) := by decide +kernel
theorem dX9_grid_41 : decode cX9_grid 41 = .ok (.ldc 70, 2) := by decide +kernel
theorem dX9_grid_43 : decode cX9_grid 43 = .ok (.ireturn, 1) := by decide +kernel
theorem dX9_grid_44 : decode cX9_grid 44 = .ok (.aload_n 0, 1) := by decide +kernel
theorem dX9_grid_45 : decode cX9_grid 45 = .ok (.iload_n 1, 1) := by decide +kernel
theorem dX9_grid_46 : decode cX9_grid 46 = .ok (.invokevirtual 85, 3) := by decide +kernel
theorem dX9_grid_49 : decode cX9_grid 49 = .ok (.iconst 0, 1) := by decide +kernel
theorem dX9_grid_50 : decode cX9_grid 50 = .ok (.istore 5, 2) := by decide +kernel
theorem dX9_grid_52 : decode cX9_grid 52 = .ok (.ldc 70, 2) := by decide +kernel
theorem dX9_grid_54 : decode cX9_grid 54 = .ok (.istore 6, 2) := by decide +kernel
theorem dX9_grid_56 : decode cX9_grid 56 = .ok (.ldc 70, 2) := by decide +kernel
theorem dX9_grid_58 : decode cX9_grid 58 = .ok (.istore 7, 2) := by decide +kernel
theorem dX9_grid_60 : decode cX9_grid 60 = .ok (.iload_n 2, 1) := by decide +kernel
theorem dX9_grid_61 : decode cX9_grid 61 = .ok (.invokestatic 55, 3) := by decide +kernel
theorem dX9_grid_64 : decode cX9_grid 64 = .ok (.istore 8, 2) := by decide +kernel
theorem dX9_grid_66 : decode cX9_grid 66 = .ok (.iload 8, 2) := by decide +kernel
theorem dX9_grid_68 : decode cX9_grid 68 = .ok (.bipush 10, 2) := by decide +kernel
theorem dX9_grid_70 : decode cX9_grid 70 = .ok (.if_icmp .ge 84, 3) := by decide +kernel
theorem dX9_grid_73 : decode cX9_grid 73 = .ok (.iload_n 3, 1) := by decide +kernel
theorem dX9_grid_74 : decode cX9_grid 74 = .ok (.invokestatic 55, 3) := by decide +kernel
theorem dX9_grid_77 : decode cX9_grid 77 = .ok (.istore 9, 2) := by decide +kernel
theorem dX9_grid_79 : decode cX9_grid 79 = .ok (.iload 9, 2) := by decide +kernel
theorem dX9_grid_81 : decode cX9_grid 81 = .ok (.bipush 10, 2) := by decide +kernel
theorem dX9_grid_83 : decode cX9_grid 83 = .ok (.if_icmp .ge 65, 3) := by decide +kernel
theorem dX9_grid_86 : decode cX9_grid 86 = .ok (.aload_n 0, 1) := by decide +kernel
theorem dX9_grid_87 : decode cX9_grid 87 = .ok (.getfield 13, 3) := by decide +kernel
theorem dX9_grid_90 : decode cX9_grid 90 = .ok (.iload_n 2, 1) := by decide +kernel
theorem dX9_grid_91 : decode cX9_grid 91 = .ok (.iload 8, 2) := by decide +kernel
theorem dX9_grid_93 : decode cX9_grid 93 = .ok (.iastore, 1) := by decide +kernel
theorem dX9_grid_94 : decode cX9_grid 94 = .ok (.aload_n 0, 1) := by decide +kernel
theorem dX9_grid_95 : decode cX9_grid 95 = .ok (.getfield 13, 3) := by decide +kernel
theorem dX9_grid_98 : decode cX9_grid 98 = .ok (.iload_n 3, 1) := by decide +kernel
theorem dX9_grid_99 : decode cX9_grid 99 = .ok (.iload 9, 2) := by decide +kernel
theorem dX9_grid_101 : decode cX9_grid 101 = .ok (.iastore, 1) := by decide +kernel
theorem dX9_grid_102 : decode cX9_grid 102 = .ok (.aload_n 0, 1) := by decide +kernel
theorem dX9_grid_103 : decode cX9_grid 103 = .ok (.invokevirtual 94, 3) := by decide +kernel
theorem dX9_grid_106 : decode cX9_grid 106 = .ok (.lconst 0, 1) := by decide +kernel
theorem dX9_grid_107 : decode cX9_grid 107 = .ok (.lcmp, 1) := by decide +kernel
theorem dX9_grid_108 : decode cX9_grid 108 = .ok (.ifCond .eq 34, 3) := by decide +kernel
theorem dX9_grid_111 : decode cX9_grid 111 = .ok (.iload 5, 2) := by decide +kernel
theorem dX9_grid_113 : decode cX9_grid 113 = .ok (.ifCond .ne 8, 3) := by decide +kernel
theorem dX9_grid_116 : decode cX9_grid 116 = .ok (.iload 8, 2) := by decide +kernel
theorem dX9_grid_118 : decode cX9_grid 118 = .ok (.goto 5, 3) := by decide +kernel
theorem dX9_grid_121 : decode cX9_grid 121 = .ok (.iload 6, 2) := by decide +kernel
theorem dX9_grid_123 : decode cX9_grid 123 = .ok (.istore 6, 2) := by decide +kernel
theorem dX9_grid_125 : decode cX9_grid 125 = .ok (.iload 5, 2) := by decide +kernel
theorem dX9_grid_127 : decode cX9_grid 127 = .ok (.ifCond .ne 8, 3) := by decide +kernel
theorem dX9_grid_130 : decode cX9_grid 130 = .ok (.iload 9, 2) := by decide +kernel
theorem dX9_grid_132 : decode cX9_grid 132 = .ok (.goto 5, 3) := by decide +kernel
theorem dX9_grid_135 : decode cX9_grid 135 = .ok (.iload 7, 2) := by decide +kernel
theorem dX9_grid_137 : decode cX9_grid 137 = .ok (.istore 7, 2) := by decide +kernel
theorem dX9_grid_139 : decode cX9_grid 139 = .ok (.iinc 5 1, 3) := by decide +kernel
theorem dX9_grid_142 : decode cX9_grid 142 = .ok (.iinc 9 1, 3) := by decide +kernel
theorem dX9_grid_145 : decode cX9_grid 145 = .ok (.goto (-66), 3) := by decide +kernel
theorem dX9_grid_148 : decode cX9_grid 148 = .ok (.iinc 8 1, 3) := by decide +kernel
theorem dX9_grid_151 : decode cX9_grid 151 = .ok (.goto (-85), 3) := by decide +kernel
theorem dX9_grid_154 : decode cX9_grid 154 = .ok (.iload 4, 2) := by decide +kernel
theorem dX9_grid_156 : decode cX9_grid 156 = .ok (.ifCond .ne 8, 3) := by decide +kernel
theorem dX9_grid_159 : decode cX9_grid 159 = .ok (.iload 5, 2) := by decide +kernel
theorem dX9_grid_161 : decode cX9_grid 161 = .ok (.goto 16, 3) := by decide +kernel
theorem dX9_grid_164 : decode cX9_grid 164 = .ok (.iload 4, 2) := by decide +kernel
theorem dX9_grid_166 : decode cX9_grid 166 = .ok (.iconst 1, 1) := by decide +kernel
theorem dX9_grid_167 : decode cX9_grid 167 = .ok (.if_icmp .ne 8, 3) := by decide +kernel
theorem dX9_grid_170 : decode cX9_grid 170 = .ok (.iload 6, 2) := by decide +kernel
theorem dX9_grid_172 : decode cX9_grid 172 = .ok (.goto 5, 3) := by decide +kernel
theorem dX9_grid_175 : decode cX9_grid 175 = .ok (.iload 7, 2) := by decide +kernel
theorem dX9_grid_177 : decode cX9_grid 177 = .ok (.ireturn, 1) := by decide +kernel
set_option maxRecDepth 20000 in
theorem ggX9_least_X9_isAsked : GoodIn wsX9_least wsX9_isAsked := goodIn_r _ [6, 7, 8, 5, 9, 10, 11, 12] (by decide +kernel) (by decide +kernel)
set_option maxRecDepth 20000 in
theorem gX9_least_X9_isAsked : GoodIn wsX9_least (va_wsS RX9 79 yX9_isAsked wsX9_isAsked) := goodIn_app (goodIn_of _ (by decide +kernel)) ggX9_least_X9_isAsked
set_option maxRecDepth 20000 in
theorem ggX9_least_X9_takes : GoodIn wsX9_least wsX9_takes := goodIn_r _ [16, 17, 18, 29, 30, 31, 32, 33, 34, 35, 36, 37, 38, 39, 40, 41, 42, 43, 44, 45, 46, 47, 48, 49] (by decide +kernel) (by decide +kernel)
set_option maxRecDepth 20000 in
theorem gX9_least_X9_takes : GoodIn wsX9_least (wsV RX9 85 RX9 yX9_takes wsX9_takes) := goodIn_app (goodIn_of _ (by decide +kernel)) ggX9_least_X9_takes
set_option maxRecDepth 20000 in
theorem ggX9_least_X9_isUp : GoodIn wsX9_least wsX9_isUp := goodIn_r _ [22, 23, 17, 24, 25, 26, 5, 27, 28, 29, 30, 31, 32, 33, 34, 35, 36, 37, 38, 39, 40, 41, 42, 43, 44, 45, 46, 47, 48, 49] (by decide +kernel) (by decide +kernel)
set_option maxRecDepth 20000 in
theorem gX9_least_X9_isUp : GoodIn wsX9_least (wsV RX9 89 RX9 yX9_isUp wsX9_isUp) := goodIn_app (goodIn_of _ (by decide +kernel)) ggX9_least_X9_isUp
theorem dX9_least_0 : decode cX9_least 0 = .ok (.aload_n 0, 1) := by decide +kernel
theorem dX9_least_1 : decode cX9_least 1 = .ok (.iconst 0, 1) := by decide +kernel
theorem dX9_least_2 : decode cX9_least 2 = .ok (.putfield 48, 3) := by decide +kernel
theorem dX9_least_5 : decode cX9_least 5 = .ok (.iload_n 1, 1) := by decide +kernel
theorem dX9_least_6 : decode cX9_least 6 = .ok (.iload_n 2, 1) := by decide +kernel
theorem dX9_least_7 : decode cX9_least 7 = .ok (.iconst 0, 1) := by decide +kernel
theorem dX9_least_8 : decode cX9_least 8 = .ok (.iload_n 3, 1) := by decide +kernel
theorem dX9_least_9 : decode cX9_least 9 = .ok (.invokestatic 79, 3) := by decide +kernel
theorem dX9_least_12 : decode cX9_least 12 = .ok (.ifCond .ne 6, 3) := by decide +kernel
theorem dX9_least_15 : decode cX9_least 15 = .ok (.ldc 70, 2) := by decide +kernel
theorem dX9_least_17 : decode cX9_least 17 = .ok (.ireturn, 1) := by decide +kernel
theorem dX9_least_18 : decode cX9_least 18 = .ok (.aload_n 0, 1) := by decide +kernel
theorem dX9_least_19 : decode cX9_least 19 = .ok (.iload_n 1, 1) := by decide +kernel
theorem dX9_least_20 : decode cX9_least 20 = .ok (.invokevirtual 85, 3) := by decide +kernel
theorem dX9_least_23 : decode cX9_least 23 = .ok (.iconst 0, 1) := by decide +kernel
theorem dX9_least_24 : decode cX9_least 24 = .ok (.istore 4, 2) := by decide +kernel
theorem dX9_least_26 : decode cX9_least 26 = .ok (.iload 4, 2) := by decide +kernel
theorem dX9_least_28 : decode cX9_least 28 = .ok (.bipush 100, 2) := by decide +kernel
theorem dX9_least_30 : decode cX9_least 30 = .ok (.if_icmp .ge 39, 3) := by decide +kernel
theorem dX9_least_33 : decode cX9_least 33 = .ok (.aload_n 0, 1) := by decide +kernel
theorem dX9_least_34 : decode cX9_least 34 = .ok (.iload_n 2, 1) := by decide +kernel
theorem dX9_least_35 : decode cX9_least 35 = .ok (.iload 4, 2) := by decide +kernel
theorem dX9_least_37 : decode cX9_least 37 = .ok (.iload_n 3, 1) := by decide +kernel
theorem dX9_least_38 : decode cX9_least 38 = .ok (.invokevirtual 89, 3) := by decide +kernel
theorem dX9_least_41 : decode cX9_least 41 = .ok (.ifCond .eq 6, 3) := by decide +kernel
theorem dX9_least_44 : decode cX9_least 44 = .ok (.iload 4, 2) := by decide +kernel
theorem dX9_least_46 : decode cX9_least 46 = .ok (.ireturn, 1) := by decide +kernel
theorem dX9_least_47 : decode cX9_least 47 = .ok (.aload_n 0, 1) := by decide +kernel
theorem dX9_least_48 : decode cX9_least 48 = .ok (.iload_n 2, 1) := by decide +kernel
theorem dX9_least_49 : decode cX9_least 49 = .ok (.iload 4, 2) := by decide +kernel
theorem dX9_least_51 : decode cX9_least 51 = .ok (.ineg, 1) := by decide +kernel
theorem dX9_least_52 : decode cX9_least 52 = .ok (.iload_n 3, 1) := by decide +kernel
theorem dX9_least_53 : decode cX9_least 53 = .ok (.invokevirtual 89, 3) := by decide +kernel
theorem dX9_least_56 : decode cX9_least 56 = .ok (.ifCond .eq 7, 3) := by decide +kernel
theorem dX9_least_59 : decode cX9_least 59 = .ok (.iload 4, 2) := by decide +kernel
theorem dX9_least_61 : decode cX9_least 61 = .ok (.ineg, 1) := by decide +kernel
theorem dX9_least_62 : decode cX9_least 62 = .ok (.ireturn, 1) := by decide +kernel
theorem dX9_least_63 : decode cX9_least 63 = .ok (.iinc 4 1, 3) := by decide +kernel
theorem dX9_least_66 : decode cX9_least 66 = .ok (.goto (-40), 3) := by decide +kernel
theorem dX9_least_69 : decode cX9_least 69 = .ok (.ldc 70, 2) := by decide +kernel
theorem dX9_least_71 : decode cX9_least 71 = .ok (.ireturn, 1) := by decide +kernel
set_option maxRecDepth 20000 in
theorem ggX9_tries_X9_mayBe : GoodIn wsX9_tries wsX9_mayBe := goodIn_r _ [7, 8, 9, 6, 10, 11, 12, 13] (by decide +kernel) (by decide +kernel)
set_option maxRecDepth 20000 in
theorem gX9_tries_X9_mayBe : GoodIn wsX9_tries (va_wsS RX9 66 yX9_mayBe wsX9_mayBe) := goodIn_app (goodIn_of _ (by decide +kernel)) ggX9_tries_X9_mayBe
set_option maxRecDepth 20000 in
theorem ggX9_tries_X9_manySpeeds : GoodIn wsX9_tries wsX9_manySpeeds := goodIn_r _ [17, 18, 19, 20, 6, 21, 22, 1, 23, 24, 25, 26, 27, 28, 29, 30, 31, 32, 33, 34, 35, 36, 37, 38, 39, 40, 41, 42, 43, 44, 45, 46, 47, 48] (by decide +kernel) (by decide +kernel)
set_option maxRecDepth 20000 in
theorem gX9_tries_X9_manySpeeds : GoodIn wsX9_tries (wsV RX9 107 RX9 yX9_manySpeeds wsX9_manySpeeds) := goodIn_app (goodIn_of _ (by decide +kernel)) ggX9_tries_X9_manySpeeds
theorem dX9_tries_0 : decode cX9_tries 0 = .ok (.iconst 0, 1) := by decide +kernel
theorem dX9_tries_1 : decode cX9_tries 1 = .ok (.istore_n 2, 1) := by decide +kernel
theorem dX9_tries_2 : decode cX9_tries 2 = .ok (.iload_n 2, 1) := by decide +kernel
theorem dX9_tries_3 : decode cX9_tries 3 = .ok (.sipush 729, 3) := by decide +kernel
theorem dX9_tries_6 : decode cX9_tries 6 = .ok (.if_icmp .ge 106, 3) := by decide +kernel
theorem dX9_tries_9 : decode cX9_tries 9 = .ok (.iload_n 2, 1) := by decide +kernel
theorem dX9_tries_10 : decode cX9_tries 10 = .ok (.istore_n 3, 1) := by decide +kernel
theorem dX9_tries_11 : decode cX9_tries 11 = .ok (.iconst 1, 1) := by decide +kernel
theorem dX9_tries_12 : decode cX9_tries 12 = .ok (.istore 4, 2) := by decide +kernel
theorem dX9_tries_14 : decode cX9_tries 14 = .ok (.iconst 0, 1) := by decide +kernel
theorem dX9_tries_15 : decode cX9_tries 15 = .ok (.istore 5, 2) := by decide +kernel
theorem dX9_tries_17 : decode cX9_tries 17 = .ok (.iload 5, 2) := by decide +kernel
theorem dX9_tries_19 : decode cX9_tries 19 = .ok (.bipush 6, 2) := by decide +kernel
theorem dX9_tries_21 : decode cX9_tries 21 = .ok (.if_icmp .ge 65, 3) := by decide +kernel
theorem dX9_tries_24 : decode cX9_tries 24 = .ok (.aload_n 0, 1) := by decide +kernel
theorem dX9_tries_25 : decode cX9_tries 25 = .ok (.getfield 13, 3) := by decide +kernel
theorem dX9_tries_28 : decode cX9_tries 28 = .ok (.iload 5, 2) := by decide +kernel
theorem dX9_tries_30 : decode cX9_tries 30 = .ok (.aload_n 0, 1) := by decide +kernel
theorem dX9_tries_31 : decode cX9_tries 31 = .ok (.getfield 7, 3) := by decide +kernel
theorem dX9_tries_34 : decode cX9_tries 34 = .ok (.bipush 6, 2) := by decide +kernel
theorem dX9_tries_36 : decode cX9_tries 36 = .ok (.iload_n 1, 1) := by decide +kernel
theorem dX9_tries_37 : decode cX9_tries 37 = .ok (.imul, 1) := by decide +kernel
theorem dX9_tries_38 : decode cX9_tries 38 = .ok (.iload 5, 2) := by decide +kernel
theorem dX9_tries_40 : decode cX9_tries 40 = .ok (.iadd, 1) := by decide +kernel
theorem dX9_tries_41 : decode cX9_tries 41 = .ok (.iaload, 1) := by decide +kernel
theorem dX9_tries_42 : decode cX9_tries 42 = .ok (.iload_n 3, 1) := by decide +kernel
theorem dX9_tries_43 : decode cX9_tries 43 = .ok (.iconst 3, 1) := by decide +kernel
theorem dX9_tries_44 : decode cX9_tries 44 = .ok (.irem, 1) := by decide +kernel
theorem dX9_tries_45 : decode cX9_tries 45 = .ok (.iadd, 1) := by decide +kernel
theorem dX9_tries_46 : decode cX9_tries 46 = .ok (.iconst 1, 1) := by decide +kernel
theorem dX9_tries_47 : decode cX9_tries 47 = .ok (.isub, 1) := by decide +kernel
theorem dX9_tries_48 : decode cX9_tries 48 = .ok (.iastore, 1) := by decide +kernel
theorem dX9_tries_49 : decode cX9_tries 49 = .ok (.iload_n 3, 1) := by decide +kernel
theorem dX9_tries_50 : decode cX9_tries 50 = .ok (.iconst 3, 1) := by decide +kernel
theorem dX9_tries_51 : decode cX9_tries 51 = .ok (.idiv, 1) := by decide +kernel
theorem dX9_tries_52 : decode cX9_tries 52 = .ok (.istore_n 3, 1) := by decide +kernel
theorem dX9_tries_53 : decode cX9_tries 53 = .ok (.iload 4, 2) := by decide +kernel
theorem dX9_tries_55 : decode cX9_tries 55 = .ok (.ifCond .eq 22, 3) := by decide +kernel
theorem dX9_tries_58 : decode cX9_tries 58 = .ok (.iload 5, 2) := by decide +kernel
theorem dX9_tries_60 : decode cX9_tries 60 = .ok (.aload_n 0, 1) := by decide +kernel
theorem dX9_tries_61 : decode cX9_tries 61 = .ok (.getfield 13, 3) := by decide +kernel
theorem dX9_tries_64 : decode cX9_tries 64 = .ok (.iload 5, 2) := by decide +kernel
theorem dX9_tries_66 : decode cX9_tries 66 = .ok (.iaload, 1) := by decide +kernel
theorem dX9_tries_67 : decode cX9_tries 67 = .ok (.invokestatic 66, 3) := by decide +kernel
theorem dX9_tries_70 : decode cX9_tries 70 = .ok (.ifCond .eq 7, 3) := by decide +kernel
theorem dX9_tries_73 : decode cX9_tries 73 = .ok (.iconst 1, 1) := by decide +kernel
theorem dX9_tries_74 : decode cX9_tries 74 = .ok (.goto 4, 3) := by decide +kernel
theorem dX9_tries_77 : decode cX9_tries 77 = .ok (.iconst 0, 1) := by decide +kernel
theorem dX9_tries_78 : decode cX9_tries 78 = .ok (.istore 4, 2) := by decide +kernel
theorem dX9_tries_80 : decode cX9_tries 80 = .ok (.iinc 5 1, 3) := by decide +kernel
theorem dX9_tries_83 : decode cX9_tries 83 = .ok (.goto (-66), 3) := by decide +kernel
theorem dX9_tries_86 : decode cX9_tries 86 = .ok (.aload_n 0, 1) := by decide +kernel
theorem dX9_tries_87 : decode cX9_tries 87 = .ok (.getfield 42, 3) := by decide +kernel
theorem dX9_tries_90 : decode cX9_tries 90 = .ok (.iload_n 2, 1) := by decide +kernel
theorem dX9_tries_91 : decode cX9_tries 91 = .ok (.iload 4, 2) := by decide +kernel
theorem dX9_tries_93 : decode cX9_tries 93 = .ok (.ifCond .eq 10, 3) := by decide +kernel
theorem dX9_tries_96 : decode cX9_tries 96 = .ok (.aload_n 0, 1) := by decide +kernel
theorem dX9_tries_97 : decode cX9_tries 97 = .ok (.invokevirtual 107, 3) := by decide +kernel
theorem dX9_tries_100 : decode cX9_tries 100 = .ok (.goto 5, 3) := by decide +kernel
theorem dX9_tries_103 : decode cX9_tries 103 = .ok (.bipush (-9), 2) := by decide +kernel
theorem dX9_tries_105 : decode cX9_tries 105 = .ok (.iastore, 1) := by decide +kernel
theorem dX9_tries_106 : decode cX9_tries 106 = .ok (.iinc 2 1, 3) := by decide +kernel
theorem dX9_tries_109 : decode cX9_tries 109 = .ok (.goto (-107), 3) := by decide +kernel
theorem dX9_tries_112 : decode cX9_tries 112 = .ok (.return_, 1) := by decide +kernel
theorem dX9_spreadOf_0 : decode cX9_spreadOf 0 = .ok (.bipush 99, 2) := by decide +kernel
theorem dX9_spreadOf_2 : decode cX9_spreadOf 2 = .ok (.istore_n 2, 1) := by decide +kernel
theorem dX9_spreadOf_3 : decode cX9_spreadOf 3 = .ok (.iconst 0, 1) := by decide +kernel
theorem dX9_spreadOf_4 : decode cX9_spreadOf 4 = .ok (.istore_n 3, 1) := by decide +kernel
theorem dX9_spreadOf_5 : decode cX9_spreadOf 5 = .ok (.iconst 0, 1) := by decide +kernel
theorem dX9_spreadOf_6 : decode cX9_spreadOf 6 = .ok (.istore 4, 2) := by decide +kernel
theorem dX9_spreadOf_8 : decode cX9_spreadOf 8 = .ok (.iload 4, 2) := by decide +kernel
theorem dX9_spreadOf_10 : decode cX9_spreadOf 10 = .ok (.sipush 729, 3) := by decide +kernel
theorem dX9_spreadOf_13 : decode cX9_spreadOf 13 = .ok (.if_icmp .ge 139, 3) := by decide +kernel
theorem dX9_spreadOf_16 : decode cX9_spreadOf 16 = .ok (.iload 4, 2) := by decide +kernel
theorem dX9_spreadOf_18 : decode cX9_spreadOf 18 = .ok (.istore 5, 2) := by decide +kernel
theorem dX9_spreadOf_20 : decode cX9_spreadOf 20 = .ok (.aload_n 0, 1) := by decide +kernel
theorem dX9_spreadOf_21 : decode cX9_spreadOf 21 = .ok (.getfield 42, 3) := by decide +kernel
theorem dX9_spreadOf_24 : decode cX9_spreadOf 24 = .ok (.iload 4, 2) := by decide +kernel
theorem dX9_spreadOf_26 : decode cX9_spreadOf 26 = .ok (.iaload, 1) := by decide +kernel
theorem dX9_spreadOf_27 : decode cX9_spreadOf 27 = .ok (.bipush (-9), 2) := by decide +kernel
theorem dX9_spreadOf_29 : decode cX9_spreadOf 29 = .ok (.if_icmp .eq 7, 3) := by decide +kernel
theorem dX9_spreadOf_32 : decode cX9_spreadOf 32 = .ok (.iconst 1, 1) := by decide +kernel
theorem dX9_spreadOf_33 : decode cX9_spreadOf 33 = .ok (.goto 4, 3) := by decide +kernel
theorem dX9_spreadOf_36 : decode cX9_spreadOf 36 = .ok (.iconst 0, 1) := by decide +kernel
theorem dX9_spreadOf_37 : decode cX9_spreadOf 37 = .ok (.istore 6, 2) := by decide +kernel
theorem dX9_spreadOf_39 : decode cX9_spreadOf 39 = .ok (.iconst 0, 1) := by decide +kernel
theorem dX9_spreadOf_40 : decode cX9_spreadOf 40 = .ok (.istore 7, 2) := by decide +kernel
theorem dX9_spreadOf_42 : decode cX9_spreadOf 42 = .ok (.iload 7, 2) := by decide +kernel
theorem dX9_spreadOf_44 : decode cX9_spreadOf 44 = .ok (.bipush 6, 2) := by decide +kernel
theorem dX9_spreadOf_46 : decode cX9_spreadOf 46 = .ok (.if_icmp .ge 44, 3) := by decide +kernel
theorem dX9_spreadOf_49 : decode cX9_spreadOf 49 = .ok (.iload 6, 2) := by decide +kernel
theorem dX9_spreadOf_51 : decode cX9_spreadOf 51 = .ok (.ifCond .eq 24, 3) := by decide +kernel
theorem dX9_spreadOf_54 : decode cX9_spreadOf 54 = .ok (.iload_n 1, 1) := by decide +kernel
theorem dX9_spreadOf_55 : decode cX9_spreadOf 55 = .ok (.iload 7, 2) := by decide +kernel
theorem dX9_spreadOf_57 : decode cX9_spreadOf 57 = .ok (.ishr, 1) := by decide +kernel
theorem dX9_spreadOf_58 : decode cX9_spreadOf 58 = .ok (.iconst 1, 1) := by decide +kernel
theorem dX9_spreadOf_59 : decode cX9_spreadOf 59 = .ok (.iand, 1) := by decide +kernel
theorem dX9_spreadOf_60 : decode cX9_spreadOf 60 = .ok (.ifCond .eq 11, 3) := by decide +kernel
theorem dX9_spreadOf_63 : decode cX9_spreadOf 63 = .ok (.iload 5, 2) := by decide +kernel
theorem dX9_spreadOf_65 : decode cX9_spreadOf 65 = .ok (.iconst 3, 1) := by decide +kernel
theorem dX9_spreadOf_66 : decode cX9_spreadOf 66 = .ok (.irem, 1) := by decide +kernel
theorem dX9_spreadOf_67 : decode cX9_spreadOf 67 = .ok (.iconst 1, 1) := by decide +kernel
theorem dX9_spreadOf_68 : decode cX9_spreadOf 68 = .ok (.if_icmp .ne 7, 3) := by decide +kernel
theorem dX9_spreadOf_71 : decode cX9_spreadOf 71 = .ok (.iconst 1, 1) := by decide +kernel
theorem dX9_spreadOf_72 : decode cX9_spreadOf 72 = .ok (.goto 4, 3) := by decide +kernel
theorem dX9_spreadOf_75 : decode cX9_spreadOf 75 = .ok (.iconst 0, 1) := by decide +kernel
theorem dX9_spreadOf_76 : decode cX9_spreadOf 76 = .ok (.istore 6, 2) := by decide +kernel
theorem dX9_spreadOf_78 : decode cX9_spreadOf 78 = .ok (.iload 5, 2) := by decide +kernel
theorem dX9_spreadOf_80 : decode cX9_spreadOf 80 = .ok (.iconst 3, 1) := by decide +kernel
theorem dX9_spreadOf_81 : decode cX9_spreadOf 81 = .ok (.idiv, 1) := by decide +kernel
theorem dX9_spreadOf_82 : decode cX9_spreadOf 82 = .ok (.istore 5, 2) := by decide +kernel
theorem dX9_spreadOf_84 : decode cX9_spreadOf 84 = .ok (.iinc 7 1, 3) := by decide +kernel
theorem dX9_spreadOf_87 : decode cX9_spreadOf 87 = .ok (.goto (-45), 3) := by decide +kernel
theorem dX9_spreadOf_90 : decode cX9_spreadOf 90 = .ok (.iload 6, 2) := by decide +kernel
theorem dX9_spreadOf_92 : decode cX9_spreadOf 92 = .ok (.ifCond .eq 24, 3) := by decide +kernel
theorem dX9_spreadOf_95 : decode cX9_spreadOf 95 = .ok (.aload_n 0, 1) := by decide +kernel
theorem dX9_spreadOf_96 : decode cX9_spreadOf 96 = .ok (.getfield 42, 3) := by decide +kernel
theorem dX9_spreadOf_99 : decode cX9_spreadOf 99 = .ok (.iload 4, 2) := by decide +kernel
theorem dX9_spreadOf_101 : decode cX9_spreadOf 101 = .ok (.iaload, 1) := by decide +kernel
theorem dX9_spreadOf_102 : decode cX9_spreadOf 102 = .ok (.iload_n 2, 1) := by decide +kernel
theorem dX9_spreadOf_103 : decode cX9_spreadOf 103 = .ok (.if_icmp .ge 13, 3) := by decide +kernel
theorem dX9_spreadOf_106 : decode cX9_spreadOf 106 = .ok (.aload_n 0, 1) := by decide +kernel
theorem dX9_spreadOf_107 : decode cX9_spreadOf 107 = .ok (.getfield 42, 3) := by decide +kernel
theorem dX9_spreadOf_110 : decode cX9_spreadOf 110 = .ok (.iload 4, 2) := by decide +kernel
theorem dX9_spreadOf_112 : decode cX9_spreadOf 112 = .ok (.iaload, 1) := by decide +kernel
theorem dX9_spreadOf_113 : decode cX9_spreadOf 113 = .ok (.goto 4, 3) := by decide +kernel
theorem dX9_spreadOf_116 : decode cX9_spreadOf 116 = .ok (.iload_n 2, 1) := by decide +kernel
theorem dX9_spreadOf_117 : decode cX9_spreadOf 117 = .ok (.istore_n 2, 1) := by decide +kernel
theorem dX9_spreadOf_118 : decode cX9_spreadOf 118 = .ok (.iload 6, 2) := by decide +kernel
theorem dX9_spreadOf_120 : decode cX9_spreadOf 120 = .ok (.ifCond .eq 24, 3) := by decide +kernel
theorem dX9_spreadOf_123 : decode cX9_spreadOf 123 = .ok (.aload_n 0, 1) := by decide +kernel
theorem dX9_spreadOf_124 : decode cX9_spreadOf 124 = .ok (.getfield 42, 3) := by decide +kernel
theorem dX9_spreadOf_127 : decode cX9_spreadOf 127 = .ok (.iload 4, 2) := by decide +kernel
theorem dX9_spreadOf_129 : decode cX9_spreadOf 129 = .ok (.iaload, 1) := by decide +kernel
theorem dX9_spreadOf_130 : decode cX9_spreadOf 130 = .ok (.iload_n 3, 1) := by decide +kernel
theorem dX9_spreadOf_131 : decode cX9_spreadOf 131 = .ok (.if_icmp .le 13, 3) := by decide +kernel
theorem dX9_spreadOf_134 : decode cX9_spreadOf 134 = .ok (.aload_n 0, 1) := by decide +kernel
theorem dX9_spreadOf_135 : decode cX9_spreadOf 135 = .ok (.getfield 42, 3) := by decide +kernel
theorem dX9_spreadOf_138 : decode cX9_spreadOf 138 = .ok (.iload 4, 2) := by decide +kernel
theorem dX9_spreadOf_140 : decode cX9_spreadOf 140 = .ok (.iaload, 1) := by decide +kernel
theorem dX9_spreadOf_141 : decode cX9_spreadOf 141 = .ok (.goto 4, 3) := by decide +kernel
theorem dX9_spreadOf_144 : decode cX9_spreadOf 144 = .ok (.iload_n 3, 1) := by decide +kernel
theorem dX9_spreadOf_145 : decode cX9_spreadOf 145 = .ok (.istore_n 3, 1) := by decide +kernel
theorem dX9_spreadOf_146 : decode cX9_spreadOf 146 = .ok (.iinc 4 1, 3) := by decide +kernel
theorem dX9_spreadOf_149 : decode cX9_spreadOf 149 = .ok (.goto (-141), 3) := by decide +kernel
theorem dX9_spreadOf_152 : decode cX9_spreadOf 152 = .ok (.iload_n 3, 1) := by decide +kernel
theorem dX9_spreadOf_153 : decode cX9_spreadOf 153 = .ok (.iload_n 2, 1) := by decide +kernel
theorem dX9_spreadOf_154 : decode cX9_spreadOf 154 = .ok (.isub, 1) := by decide +kernel
theorem dX9_spreadOf_155 : decode cX9_spreadOf 155 = .ok (.ireturn, 1) := by decide +kernel
set_option maxRecDepth 20000 in
theorem ggX9_spread_X9_isBicycle : GoodIn wsX9_spread wsX9_isBicycle := goodIn_r _ [5, 6, 7, 4, 8] (by decide +kernel) (by decide +kernel)
set_option maxRecDepth 20000 in
theorem gX9_spread_X9_isBicycle : GoodIn wsX9_spread (va_wsS RX9 59 yX9_isBicycle wsX9_isBicycle) := goodIn_app (goodIn_of _ (by decide +kernel)) ggX9_spread_X9_isBicycle
set_option maxRecDepth 20000 in
theorem ggX9_spread_X9_in : GoodIn wsX9_spread wsX9_in := goodIn_r _ [8] (by decide +kernel) (by decide +kernel)
set_option maxRecDepth 20000 in
theorem gX9_spread_X9_in : GoodIn wsX9_spread (va_wsS RX9 51 yX9_in wsX9_in) := goodIn_app (goodIn_of _ (by decide +kernel)) ggX9_spread_X9_in
set_option maxRecDepth 20000 in
theorem ggX9_spread_X9_tries : GoodIn wsX9_spread wsX9_tries := goodIn_r _ [12, 13, 14, 15, 16, 17, 4, 18, 19, 20, 21, 6, 7, 8, 22, 23, 24, 25, 26, 27, 28, 29, 30, 31, 32, 33, 34, 35, 40, 41, 42, 43, 44, 45, 46, 47, 48, 49, 50, 51, 52, 53, 54, 55, 56, 57, 58, 59, 60] (by decide +kernel) (by decide +kernel)
set_option maxRecDepth 20000 in
theorem gX9_spread_X9_tries : GoodIn wsX9_spread (wsV RX9 111 RX9 yX9_tries wsX9_tries) := goodIn_app (goodIn_of _ (by decide +kernel)) ggX9_spread_X9_tries
set_option maxRecDepth 20000 in
theorem ggX9_spread_X9_spreadOf : GoodIn wsX9_spread wsX9_spreadOf := goodIn_r _ [39, 15, 40, 41, 42, 43, 44, 45, 46, 47, 48, 49, 50, 51, 52, 53, 54, 55, 56, 57, 58, 59, 60] (by decide +kernel) (by decide +kernel)
set_option maxRecDepth 20000 in
theorem gX9_spread_X9_spreadOf : GoodIn wsX9_spread (wsV RX9 114 RX9 yX9_spreadOf wsX9_spreadOf) := goodIn_app (goodIn_of _ (by decide +kernel)) ggX9_spread_X9_spreadOf
theorem dX9_spread_0 : decode cX9_spread 0 = .ok (.aload_n 0, 1) := by decide +kernel
theorem dX9_spread_1 : decode cX9_spread 1 = .ok (.iconst 0, 1) := by decide +kernel
theorem dX9_spread_2 : decode cX9_spread 2 = .ok (.putfield 48, 3) := by decide +kernel
theorem dX9_spread_5 : decode cX9_spread 5 = .ok (.iload_n 1, 1) := by decide +kernel
theorem dX9_spread_6 : decode cX9_spread 6 = .ok (.invokestatic 59, 3) := by decide +kernel
theorem dX9_spread_9 : decode cX9_spread 9 = .ok (.ifCond .eq 13, 3) := by decide +kernel
theorem dX9_spread_12 : decode cX9_spread 12 = .ok (.iload_n 2, 1) := by decide +kernel
theorem dX9_spread_13 : decode cX9_spread 13 = .ok (.iconst 0, 1) := by decide +kernel
theorem dX9_spread_14 : decode cX9_spread 14 = .ok (.bipush 63, 2) := by decide +kernel
theorem dX9_spread_16 : decode cX9_spread 16 = .ok (.invokestatic 51, 3) := by decide +kernel
theorem dX9_spread_19 : decode cX9_spread 19 = .ok (.ifCond .ne 5, 3) := by decide +kernel
theorem dX9_spread_22 : decode cX9_spread 22 = .ok (.iconst (-1), 1) := by decide +kernel
theorem dX9_spread_23 : decode cX9_spread 23 = .ok (.ireturn, 1) := by decide +kernel
theorem dX9_spread_24 : decode cX9_spread 24 = .ok (.aload_n 0, 1) := by decide +kernel
theorem dX9_spread_25 : decode cX9_spread 25 = .ok (.iload_n 1, 1) := by decide +kernel
theorem dX9_spread_26 : decode cX9_spread 26 = .ok (.invokevirtual 111, 3) := by decide +kernel
theorem dX9_spread_29 : decode cX9_spread 29 = .ok (.aload_n 0, 1) := by decide +kernel
theorem dX9_spread_30 : decode cX9_spread 30 = .ok (.iload_n 2, 1) := by decide +kernel
theorem dX9_spread_31 : decode cX9_spread 31 = .ok (.invokevirtual 114, 3) := by decide +kernel
theorem dX9_spread_34 : decode cX9_spread 34 = .ok (.ireturn, 1) := by decide +kernel
theorem dX9_ones_0 : decode cX9_ones 0 = .ok (.iconst 0, 1) := by decide +kernel
theorem dX9_ones_1 : decode cX9_ones 1 = .ok (.istore_n 1, 1) := by decide +kernel
theorem dX9_ones_2 : decode cX9_ones 2 = .ok (.iconst 0, 1) := by decide +kernel
theorem dX9_ones_3 : decode cX9_ones 3 = .ok (.istore_n 2, 1) := by decide +kernel
theorem dX9_ones_4 : decode cX9_ones 4 = .ok (.iload_n 2, 1) := by decide +kernel
theorem dX9_ones_5 : decode cX9_ones 5 = .ok (.bipush 6, 2) := by decide +kernel
theorem dX9_ones_7 : decode cX9_ones 7 = .ok (.if_icmp .ge 17, 3) := by decide +kernel
theorem dX9_ones_10 : decode cX9_ones 10 = .ok (.iload_n 1, 1) := by decide +kernel
theorem dX9_ones_11 : decode cX9_ones 11 = .ok (.iload_n 0, 1) := by decide +kernel
theorem dX9_ones_12 : decode cX9_ones 12 = .ok (.iload_n 2, 1) := by decide +kernel
theorem dX9_ones_13 : decode cX9_ones 13 = .ok (.ishr, 1) := by decide +kernel
theorem dX9_ones_14 : decode cX9_ones 14 = .ok (.iconst 1, 1) := by decide +kernel
theorem dX9_ones_15 : decode cX9_ones 15 = .ok (.iand, 1) := by decide +kernel
theorem dX9_ones_16 : decode cX9_ones 16 = .ok (.iadd, 1) := by decide +kernel
theorem dX9_ones_17 : decode cX9_ones 17 = .ok (.istore_n 1, 1) := by decide +kernel
theorem dX9_ones_18 : decode cX9_ones 18 = .ok (.iinc 2 1, 3) := by decide +kernel
theorem dX9_ones_21 : decode cX9_ones 21 = .ok (.goto (-17), 3) := by decide +kernel
theorem dX9_ones_24 : decode cX9_ones 24 = .ok (.iload_n 1, 1) := by decide +kernel
theorem dX9_ones_25 : decode cX9_ones 25 = .ok (.ireturn, 1) := by decide +kernel
set_option maxRecDepth 20000 in
theorem ggX9_fewest_X9_isBicycle : GoodIn wsX9_fewest wsX9_isBicycle := goodIn_r _ [5, 6, 7, 4, 8] (by decide +kernel) (by decide +kernel)
set_option maxRecDepth 20000 in
theorem gX9_fewest_X9_isBicycle : GoodIn wsX9_fewest (va_wsS RX9 59 yX9_isBicycle wsX9_isBicycle) := goodIn_app (goodIn_of _ (by decide +kernel)) ggX9_fewest_X9_isBicycle
set_option maxRecDepth 20000 in
theorem ggX9_fewest_X9_in : GoodIn wsX9_fewest wsX9_in := goodIn_r _ [8] (by decide +kernel) (by decide +kernel)
set_option maxRecDepth 20000 in
theorem gX9_fewest_X9_in : GoodIn wsX9_fewest (va_wsS RX9 51 yX9_in wsX9_in) := goodIn_app (goodIn_of _ (by decide +kernel)) ggX9_fewest_X9_in
set_option maxRecDepth 20000 in
theorem ggX9_fewest_X9_tries : GoodIn wsX9_fewest wsX9_tries := goodIn_r _ [12, 13, 14, 15, 16, 17, 4, 18, 19, 20, 21, 6, 7, 8, 22, 23, 24, 25, 26, 27, 28, 29, 30, 31, 32, 33, 34, 35, 43, 44, 45, 46, 47, 48, 49, 50, 51, 52, 53, 54, 55, 56, 57, 58, 59, 60, 61, 62, 63] (by decide +kernel) (by decide +kernel)
set_option maxRecDepth 20000 in
theorem gX9_fewest_X9_tries : GoodIn wsX9_fewest (wsV RX9 111 RX9 yX9_tries wsX9_tries) := goodIn_app (goodIn_of _ (by decide +kernel)) ggX9_fewest_X9_tries
set_option maxRecDepth 20000 in
theorem ggX9_fewest_X9_ones : GoodIn wsX9_fewest wsX9_ones := goodIn_r _ [38] (by decide +kernel) (by decide +kernel)
set_option maxRecDepth 20000 in
theorem gX9_fewest_X9_ones : GoodIn wsX9_fewest (va_wsS RX9 117 yX9_ones wsX9_ones) := goodIn_app (goodIn_of _ (by decide +kernel)) ggX9_fewest_X9_ones
set_option maxRecDepth 20000 in
theorem ggX9_fewest_X9_spreadOf : GoodIn wsX9_fewest wsX9_spreadOf := goodIn_r _ [42, 15, 43, 44, 45, 46, 47, 48, 49, 50, 51, 52, 53, 54, 55, 56, 57, 58, 59, 60, 61, 62, 63] (by decide +kernel) (by decide +kernel)
set_option maxRecDepth 20000 in
theorem gX9_fewest_X9_spreadOf : GoodIn wsX9_fewest (wsV RX9 114 RX9 yX9_spreadOf wsX9_spreadOf) := goodIn_app (goodIn_of _ (by decide +kernel)) ggX9_fewest_X9_spreadOf
theorem dX9_fewest_0 : decode cX9_fewest 0 = .ok (.aload_n 0, 1) := by decide +kernel
theorem dX9_fewest_1 : decode cX9_fewest 1 = .ok (.iconst 0, 1) := by decide +kernel
theorem dX9_fewest_2 : decode cX9_fewest 2 = .ok (.putfield 48, 3) := by decide +kernel
theorem dX9_fewest_5 : decode cX9_fewest 5 = .ok (.iload_n 1, 1) := by decide +kernel
theorem dX9_fewest_6 : decode cX9_fewest 6 = .ok (.invokestatic 59, 3) := by decide +kernel
theorem dX9_fewest_9 : decode cX9_fewest 9 = .ok (.ifCond .eq 22, 3) := by decide +kernel
theorem dX9_fewest_12 : decode cX9_fewest 12 = .ok (.iload_n 2, 1) := by decide +kernel
theorem dX9_fewest_13 : decode cX9_fewest 13 = .ok (.iconst 0, 1) := by decide +kernel
theorem dX9_fewest_14 : decode cX9_fewest 14 = .ok (.bipush 40, 2) := by decide +kernel
theorem dX9_fewest_16 : decode cX9_fewest 16 = .ok (.invokestatic 51, 3) := by decide +kernel
theorem dX9_fewest_19 : decode cX9_fewest 19 = .ok (.ifCond .eq 12, 3) := by decide +kernel
theorem dX9_fewest_22 : decode cX9_fewest 22 = .ok (.iload_n 3, 1) := by decide +kernel
theorem dX9_fewest_23 : decode cX9_fewest 23 = .ok (.iconst 0, 1) := by decide +kernel
theorem dX9_fewest_24 : decode cX9_fewest 24 = .ok (.iconst 1, 1) := by decide +kernel
theorem dX9_fewest_25 : decode cX9_fewest 25 = .ok (.invokestatic 51, 3) := by decide +kernel
theorem dX9_fewest_28 : decode cX9_fewest 28 = .ok (.ifCond .ne 5, 3) := by decide +kernel
theorem dX9_fewest_31 : decode cX9_fewest 31 = .ok (.iconst (-1), 1) := by decide +kernel
theorem dX9_fewest_32 : decode cX9_fewest 32 = .ok (.ireturn, 1) := by decide +kernel
theorem dX9_fewest_33 : decode cX9_fewest 33 = .ok (.aload_n 0, 1) := by decide +kernel
theorem dX9_fewest_34 : decode cX9_fewest 34 = .ok (.iload_n 1, 1) := by decide +kernel
theorem dX9_fewest_35 : decode cX9_fewest 35 = .ok (.invokevirtual 111, 3) := by decide +kernel
theorem dX9_fewest_38 : decode cX9_fewest 38 = .ok (.bipush 63, 2) := by decide +kernel
theorem dX9_fewest_40 : decode cX9_fewest 40 = .ok (.istore 4, 2) := by decide +kernel
theorem dX9_fewest_42 : decode cX9_fewest 42 = .ok (.iconst 0, 1) := by decide +kernel
theorem dX9_fewest_43 : decode cX9_fewest 43 = .ok (.istore 5, 2) := by decide +kernel
theorem dX9_fewest_45 : decode cX9_fewest 45 = .ok (.iload 5, 2) := by decide +kernel
theorem dX9_fewest_47 : decode cX9_fewest 47 = .ok (.bipush 63, 2) := by decide +kernel
theorem dX9_fewest_49 : decode cX9_fewest 49 = .ok (.if_icmp .ge 41, 3) := by decide +kernel
theorem dX9_fewest_52 : decode cX9_fewest 52 = .ok (.iload 5, 2) := by decide +kernel
theorem dX9_fewest_54 : decode cX9_fewest 54 = .ok (.invokestatic 117, 3) := by decide +kernel
theorem dX9_fewest_57 : decode cX9_fewest 57 = .ok (.iload 4, 2) := by decide +kernel
theorem dX9_fewest_59 : decode cX9_fewest 59 = .ok (.invokestatic 117, 3) := by decide +kernel
theorem dX9_fewest_62 : decode cX9_fewest 62 = .ok (.if_icmp .ge 18, 3) := by decide +kernel
theorem dX9_fewest_65 : decode cX9_fewest 65 = .ok (.aload_n 0, 1) := by decide +kernel
theorem dX9_fewest_66 : decode cX9_fewest 66 = .ok (.iload 5, 2) := by decide +kernel
theorem dX9_fewest_68 : decode cX9_fewest 68 = .ok (.invokevirtual 114, 3) := by decide +kernel
theorem dX9_fewest_71 : decode cX9_fewest 71 = .ok (.iload_n 2, 1) := by decide +kernel
theorem dX9_fewest_72 : decode cX9_fewest 72 = .ok (.if_icmp .gt 8, 3) := by decide +kernel
theorem dX9_fewest_75 : decode cX9_fewest 75 = .ok (.iload 5, 2) := by decide +kernel
theorem dX9_fewest_77 : decode cX9_fewest 77 = .ok (.goto 5, 3) := by decide +kernel
theorem dX9_fewest_80 : decode cX9_fewest 80 = .ok (.iload 4, 2) := by decide +kernel
theorem dX9_fewest_82 : decode cX9_fewest 82 = .ok (.istore 4, 2) := by decide +kernel
theorem dX9_fewest_84 : decode cX9_fewest 84 = .ok (.iinc 5 1, 3) := by decide +kernel
theorem dX9_fewest_87 : decode cX9_fewest 87 = .ok (.goto (-42), 3) := by decide +kernel
theorem dX9_fewest_90 : decode cX9_fewest 90 = .ok (.iload_n 3, 1) := by decide +kernel
theorem dX9_fewest_91 : decode cX9_fewest 91 = .ok (.ifCond .ne 11, 3) := by decide +kernel
theorem dX9_fewest_94 : decode cX9_fewest 94 = .ok (.iload 4, 2) := by decide +kernel
theorem dX9_fewest_96 : decode cX9_fewest 96 = .ok (.invokestatic 117, 3) := by decide +kernel
theorem dX9_fewest_99 : decode cX9_fewest 99 = .ok (.goto 5, 3) := by decide +kernel
theorem dX9_fewest_102 : decode cX9_fewest 102 = .ok (.iload 4, 2) := by decide +kernel
theorem dX9_fewest_104 : decode cX9_fewest 104 = .ok (.ireturn, 1) := by decide +kernel
set_option maxRecDepth 20000 in
theorem ggX9_type_X9_in : GoodIn wsX9_type wsX9_in := goodIn_r _ [8] (by decide +kernel) (by decide +kernel)
set_option maxRecDepth 20000 in
theorem gX9_type_X9_in : GoodIn wsX9_type (va_wsS RX9 51 yX9_in wsX9_in) := goodIn_app (goodIn_of _ (by decide +kernel)) ggX9_type_X9_in
theorem dX9_type_0 : decode cX9_type 0 = .ok (.aload_n 0, 1) := by decide +kernel
theorem dX9_type_1 : decode cX9_type 1 = .ok (.iconst 0, 1) := by decide +kernel
theorem dX9_type_2 : decode cX9_type 2 = .ok (.putfield 48, 3) := by decide +kernel
theorem dX9_type_5 : decode cX9_type 5 = .ok (.iload_n 3, 1) := by decide +kernel
theorem dX9_type_6 : decode cX9_type 6 = .ok (.iconst 1, 1) := by decide +kernel
theorem dX9_type_7 : decode cX9_type 7 = .ok (.bipush 8, 2) := by decide +kernel
theorem dX9_type_9 : decode cX9_type 9 = .ok (.invokestatic 51, 3) := by decide +kernel
theorem dX9_type_12 : decode cX9_type 12 = .ok (.ifCond .ne 5, 3) := by decide +kernel
theorem dX9_type_15 : decode cX9_type 15 = .ok (.iconst (-1), 1) := by decide +kernel
theorem dX9_type_16 : decode cX9_type 16 = .ok (.ireturn, 1) := by decide +kernel
theorem dX9_type_17 : decode cX9_type 17 = .ok (.aload_n 0, 1) := by decide +kernel
theorem dX9_type_18 : decode cX9_type 18 = .ok (.getfield 120, 3) := by decide +kernel
theorem dX9_type_21 : decode cX9_type 21 = .ok (.iload_n 3, 1) := by decide +kernel
theorem dX9_type_22 : decode cX9_type 22 = .ok (.iadd, 1) := by decide +kernel
theorem dX9_type_23 : decode cX9_type 23 = .ok (.sipush 200, 3) := by decide +kernel
theorem dX9_type_26 : decode cX9_type 26 = .ok (.if_icmp .le 6, 3) := by decide +kernel
theorem dX9_type_29 : decode cX9_type 29 = .ok (.bipush (-3), 2) := by decide +kernel
theorem dX9_type_31 : decode cX9_type 31 = .ok (.ireturn, 1) := by decide +kernel
theorem dX9_type_32 : decode cX9_type 32 = .ok (.iload_n 3, 1) := by decide +kernel
theorem dX9_type_33 : decode cX9_type 33 = .ok (.iconst 1, 1) := by decide +kernel
theorem dX9_type_34 : decode cX9_type 34 = .ok (.isub, 1) := by decide +kernel
theorem dX9_type_35 : decode cX9_type 35 = .ok (.istore 4, 2) := by decide +kernel
theorem dX9_type_37 : decode cX9_type 37 = .ok (.iload 4, 2) := by decide +kernel
theorem dX9_type_39 : decode cX9_type 39 = .ok (.ifCond .lt 40, 3) := by decide +kernel
theorem dX9_type_42 : decode cX9_type 42 = .ok (.aload_n 0, 1) := by decide +kernel
theorem dX9_type_43 : decode cX9_type 43 = .ok (.getfield 39, 3) := by decide +kernel
theorem dX9_type_46 : decode cX9_type 46 = .ok (.aload_n 0, 1) := by decide +kernel
theorem dX9_type_47 : decode cX9_type 47 = .ok (.getfield 120, 3) := by decide +kernel
theorem dX9_type_50 : decode cX9_type 50 = .ok (.lload_n 1, 1) := by decide +kernel
theorem dX9_type_51 : decode cX9_type 51 = .ok (.bipush 8, 2) := by decide +kernel
theorem dX9_type_53 : decode cX9_type 53 = .ok (.iload 4, 2) := by decide +kernel
theorem dX9_type_55 : decode cX9_type 55 = .ok (.imul, 1) := by decide +kernel
theorem dX9_type_56 : decode cX9_type 56 = .ok (.lshr, 1) := by decide +kernel
theorem dX9_type_57 : decode cX9_type 57 = .ok (.ldc2_w 123, 3) := by decide +kernel
theorem dX9_type_60 : decode cX9_type 60 = .ok (.land, 1) := by decide +kernel
theorem dX9_type_61 : decode cX9_type 61 = .ok (.l2i, 1) := by decide +kernel
theorem dX9_type_62 : decode cX9_type 62 = .ok (.iastore, 1) := by decide +kernel
theorem dX9_type_63 : decode cX9_type 63 = .ok (.aload_n 0, 1) := by decide +kernel
theorem dX9_type_64 : decode cX9_type 64 = .ok (.dup, 1) := by decide +kernel
theorem dX9_type_65 : decode cX9_type 65 = .ok (.getfield 120, 3) := by decide +kernel
theorem dX9_type_68 : decode cX9_type 68 = .ok (.iconst 1, 1) := by decide +kernel
theorem dX9_type_69 : decode cX9_type 69 = .ok (.iadd, 1) := by decide +kernel
theorem dX9_type_70 : decode cX9_type 70 = .ok (.putfield 120, 3) := by decide +kernel
theorem dX9_type_73 : decode cX9_type 73 = .ok (.iinc 4 (-1), 3) := by decide +kernel
theorem dX9_type_76 : decode cX9_type 76 = .ok (.goto (-39), 3) := by decide +kernel
theorem dX9_type_79 : decode cX9_type 79 = .ok (.aload_n 0, 1) := by decide +kernel
theorem dX9_type_80 : decode cX9_type 80 = .ok (.getfield 120, 3) := by decide +kernel
theorem dX9_type_83 : decode cX9_type 83 = .ok (.ireturn, 1) := by decide +kernel
theorem dX9_clear_0 : decode cX9_clear 0 = .ok (.aload_n 0, 1) := by decide +kernel
theorem dX9_clear_1 : decode cX9_clear 1 = .ok (.iconst 0, 1) := by decide +kernel
theorem dX9_clear_2 : decode cX9_clear 2 = .ok (.putfield 48, 3) := by decide +kernel
theorem dX9_clear_5 : decode cX9_clear 5 = .ok (.aload_n 0, 1) := by decide +kernel
theorem dX9_clear_6 : decode cX9_clear 6 = .ok (.getfield 120, 3) := by decide +kernel
theorem dX9_clear_9 : decode cX9_clear 9 = .ok (.istore_n 1, 1) := by decide +kernel
theorem dX9_clear_10 : decode cX9_clear 10 = .ok (.aload_n 0, 1) := by decide +kernel
theorem dX9_clear_11 : decode cX9_clear 11 = .ok (.iconst 0, 1) := by decide +kernel
theorem dX9_clear_12 : decode cX9_clear 12 = .ok (.putfield 120, 3) := by decide +kernel
theorem dX9_clear_15 : decode cX9_clear 15 = .ok (.iload_n 1, 1) := by decide +kernel
theorem dX9_clear_16 : decode cX9_clear 16 = .ok (.ireturn, 1) := by decide +kernel
theorem dX9_byteAt_0 : decode cX9_byteAt 0 = .ok (.iload_n 1, 1) := by decide +kernel
theorem dX9_byteAt_1 : decode cX9_byteAt 1 = .ok (.aload_n 0, 1) := by decide +kernel
theorem dX9_byteAt_2 : decode cX9_byteAt 2 = .ok (.getfield 120, 3) := by decide +kernel
theorem dX9_byteAt_5 : decode cX9_byteAt 5 = .ok (.if_icmp .ge 12, 3) := by decide +kernel
theorem dX9_byteAt_8 : decode cX9_byteAt 8 = .ok (.aload_n 0, 1) := by decide +kernel
theorem dX9_byteAt_9 : decode cX9_byteAt 9 = .ok (.getfield 39, 3) := by decide +kernel
theorem dX9_byteAt_12 : decode cX9_byteAt 12 = .ok (.iload_n 1, 1) := by decide +kernel
theorem dX9_byteAt_13 : decode cX9_byteAt 13 = .ok (.iaload, 1) := by decide +kernel
theorem dX9_byteAt_14 : decode cX9_byteAt 14 = .ok (.goto 4, 3) := by decide +kernel
theorem dX9_byteAt_17 : decode cX9_byteAt 17 = .ok (.iconst (-1), 1) := by decide +kernel
theorem dX9_byteAt_18 : decode cX9_byteAt 18 = .ok (.ireturn, 1) := by decide +kernel
theorem dX9_word_0 : decode cX9_word 0 = .ok (.ldc2_w 125, 3) := by decide +kernel
theorem dX9_word_3 : decode cX9_word 3 = .ok (.iload_n 0, 1) := by decide +kernel
theorem dX9_word_4 : decode cX9_word 4 = .ok (.i2l, 1) := by decide +kernel
theorem dX9_word_5 : decode cX9_word 5 = .ok (.lmul, 1) := by decide +kernel
theorem dX9_word_6 : decode cX9_word 6 = .ok (.ldc2_w 127, 3) := by decide +kernel
theorem dX9_word_9 : decode cX9_word 9 = .ok (.iload_n 1, 1) := by decide +kernel
theorem dX9_word_10 : decode cX9_word 10 = .ok (.i2l, 1) := by decide +kernel
theorem dX9_word_11 : decode cX9_word 11 = .ok (.lmul, 1) := by decide +kernel
theorem dX9_word_12 : decode cX9_word 12 = .ok (.ladd, 1) := by decide +kernel
theorem dX9_word_13 : decode cX9_word 13 = .ok (.iload_n 2, 1) := by decide +kernel
theorem dX9_word_14 : decode cX9_word 14 = .ok (.i2l, 1) := by decide +kernel
theorem dX9_word_15 : decode cX9_word 15 = .ok (.ladd, 1) := by decide +kernel
theorem dX9_word_16 : decode cX9_word 16 = .ok (.lstore 4, 2) := by decide +kernel
theorem dX9_word_18 : decode cX9_word 18 = .ok (.iload_n 3, 1) := by decide +kernel
theorem dX9_word_19 : decode cX9_word 19 = .ok (.ifCond .ne 8, 3) := by decide +kernel
theorem dX9_word_22 : decode cX9_word 22 = .ok (.lload 4, 2) := by decide +kernel
theorem dX9_word_24 : decode cX9_word 24 = .ok (.goto 12, 3) := by decide +kernel
theorem dX9_word_27 : decode cX9_word 27 = .ok (.ldc2_w 127, 3) := by decide +kernel
theorem dX9_word_30 : decode cX9_word 30 = .ok (.lload 4, 2) := by decide +kernel
theorem dX9_word_32 : decode cX9_word 32 = .ok (.lmul, 1) := by decide +kernel
theorem dX9_word_33 : decode cX9_word 33 = .ok (.iload_n 3, 1) := by decide +kernel
theorem dX9_word_34 : decode cX9_word 34 = .ok (.i2l, 1) := by decide +kernel
theorem dX9_word_35 : decode cX9_word 35 = .ok (.ladd, 1) := by decide +kernel
theorem dX9_word_36 : decode cX9_word 36 = .ok (.lreturn, 1) := by decide +kernel
set_option maxRecDepth 20000 in
theorem ggX9_wordOf_X9_word : GoodIn wsX9_wordOf wsX9_word := goodIn_r _ [4, 5, 6] (by decide +kernel) (by decide +kernel)
set_option maxRecDepth 20000 in
theorem gX9_wordOf_X9_word : GoodIn wsX9_wordOf (va_wsS RX9 129 yX9_word wsX9_word) := goodIn_app (goodIn_of _ (by decide +kernel)) ggX9_wordOf_X9_word
theorem dX9_wordOf_0 : decode cX9_wordOf 0 = .ok (.lload_n 0, 1) := by decide +kernel
theorem dX9_wordOf_1 : decode cX9_wordOf 1 = .ok (.bipush 108, 2) := by decide +kernel
theorem dX9_wordOf_3 : decode cX9_wordOf 3 = .ok (.bipush 101, 2) := by decide +kernel
theorem dX9_wordOf_5 : decode cX9_wordOf 5 = .ok (.bipush 97, 2) := by decide +kernel
theorem dX9_wordOf_7 : decode cX9_wordOf 7 = .ok (.bipush 110, 2) := by decide +kernel
theorem dX9_wordOf_9 : decode cX9_wordOf 9 = .ok (.invokestatic 129, 3) := by decide +kernel
theorem dX9_wordOf_12 : decode cX9_wordOf 12 = .ok (.lcmp, 1) := by decide +kernel
theorem dX9_wordOf_13 : decode cX9_wordOf 13 = .ok (.ifCond .ne 7, 3) := by decide +kernel
theorem dX9_wordOf_16 : decode cX9_wordOf 16 = .ok (.iconst 0, 1) := by decide +kernel
theorem dX9_wordOf_17 : decode cX9_wordOf 17 = .ok (.goto 84, 3) := by decide +kernel
theorem dX9_wordOf_20 : decode cX9_wordOf 20 = .ok (.lload_n 0, 1) := by decide +kernel
theorem dX9_wordOf_21 : decode cX9_wordOf 21 = .ok (.bipush 114, 2) := by decide +kernel
theorem dX9_wordOf_23 : decode cX9_wordOf 23 = .ok (.bipush 97, 2) := by decide +kernel
theorem dX9_wordOf_25 : decode cX9_wordOf 25 = .ok (.bipush 116, 2) := by decide +kernel
theorem dX9_wordOf_27 : decode cX9_wordOf 27 = .ok (.bipush 101, 2) := by decide +kernel
theorem dX9_wordOf_29 : decode cX9_wordOf 29 = .ok (.invokestatic 129, 3) := by decide +kernel
theorem dX9_wordOf_32 : decode cX9_wordOf 32 = .ok (.lcmp, 1) := by decide +kernel
theorem dX9_wordOf_33 : decode cX9_wordOf 33 = .ok (.ifCond .ne 7, 3) := by decide +kernel
theorem dX9_wordOf_36 : decode cX9_wordOf 36 = .ok (.iconst 1, 1) := by decide +kernel
theorem dX9_wordOf_37 : decode cX9_wordOf 37 = .ok (.goto 64, 3) := by decide +kernel
theorem dX9_wordOf_40 : decode cX9_wordOf 40 = .ok (.lload_n 0, 1) := by decide +kernel
theorem dX9_wordOf_41 : decode cX9_wordOf 41 = .ok (.bipush 98, 2) := by decide +kernel
theorem dX9_wordOf_43 : decode cX9_wordOf 43 = .ok (.bipush 97, 2) := by decide +kernel
theorem dX9_wordOf_45 : decode cX9_wordOf 45 = .ok (.bipush 114, 2) := by decide +kernel
theorem dX9_wordOf_47 : decode cX9_wordOf 47 = .ok (.iconst 0, 1) := by decide +kernel
theorem dX9_wordOf_48 : decode cX9_wordOf 48 = .ok (.invokestatic 129, 3) := by decide +kernel
theorem dX9_wordOf_51 : decode cX9_wordOf 51 = .ok (.lcmp, 1) := by decide +kernel
theorem dX9_wordOf_52 : decode cX9_wordOf 52 = .ok (.ifCond .ne 7, 3) := by decide +kernel
theorem dX9_wordOf_55 : decode cX9_wordOf 55 = .ok (.iconst 2, 1) := by decide +kernel
theorem dX9_wordOf_56 : decode cX9_wordOf 56 = .ok (.goto 45, 3) := by decide +kernel
theorem dX9_wordOf_59 : decode cX9_wordOf 59 = .ok (.lload_n 0, 1) := by decide +kernel
theorem dX9_wordOf_60 : decode cX9_wordOf 60 = .ok (.bipush 108, 2) := by decide +kernel
theorem dX9_wordOf_62 : decode cX9_wordOf 62 = .ok (.bipush 97, 2) := by decide +kernel
theorem dX9_wordOf_64 : decode cX9_wordOf 64 = .ok (.bipush 116, 2) := by decide +kernel
theorem dX9_wordOf_66 : decode cX9_wordOf 66 = .ok (.bipush 101, 2) := by decide +kernel
theorem dX9_wordOf_68 : decode cX9_wordOf 68 = .ok (.invokestatic 129, 3) := by decide +kernel
theorem dX9_wordOf_71 : decode cX9_wordOf 71 = .ok (.lcmp, 1) := by decide +kernel
theorem dX9_wordOf_72 : decode cX9_wordOf 72 = .ok (.ifCond .ne 7, 3) := by decide +kernel
theorem dX9_wordOf_75 : decode cX9_wordOf 75 = .ok (.iconst 3, 1) := by decide +kernel
theorem dX9_wordOf_76 : decode cX9_wordOf 76 = .ok (.goto 25, 3) := by decide +kernel
theorem dX9_wordOf_79 : decode cX9_wordOf 79 = .ok (.lload_n 0, 1) := by decide +kernel
theorem dX9_wordOf_80 : decode cX9_wordOf 80 = .ok (.bipush 109, 2) := by decide +kernel
theorem dX9_wordOf_82 : decode cX9_wordOf 82 = .ok (.bipush 111, 2) := by decide +kernel
theorem dX9_wordOf_84 : decode cX9_wordOf 84 = .ok (.bipush 115, 2) := by decide +kernel
theorem dX9_wordOf_86 : decode cX9_wordOf 86 = .ok (.bipush 116, 2) := by decide +kernel
theorem dX9_wordOf_88 : decode cX9_wordOf 88 = .ok (.invokestatic 129, 3) := by decide +kernel
theorem dX9_wordOf_91 : decode cX9_wordOf 91 = .ok (.lcmp, 1) := by decide +kernel
theorem dX9_wordOf_92 : decode cX9_wordOf 92 = .ok (.ifCond .ne 7, 3) := by decide +kernel
theorem dX9_wordOf_95 : decode cX9_wordOf 95 = .ok (.iconst 4, 1) := by decide +kernel
theorem dX9_wordOf_96 : decode cX9_wordOf 96 = .ok (.goto 5, 3) := by decide +kernel
theorem dX9_wordOf_99 : decode cX9_wordOf 99 = .ok (.bipush (-9), 2) := by decide +kernel
theorem dX9_wordOf_101 : decode cX9_wordOf 101 = .ok (.ireturn, 1) := by decide +kernel
set_option maxRecDepth 20000 in
theorem ggX9_advances_X9_byteAt : GoodIn wsX9_advances wsX9_byteAt := goodIn_r _ [10, 11, 12, 23, 24, 25, 26, 27, 28, 29, 30, 31, 32, 33, 34, 35, 36, 37, 38, 39, 40, 41, 42, 43] (by decide +kernel) (by decide +kernel)
set_option maxRecDepth 20000 in
theorem gX9_advances_X9_byteAt : GoodIn wsX9_advances (wsV RX9 136 RX9 yX9_byteAt wsX9_byteAt) := goodIn_app (goodIn_of _ (by decide +kernel)) ggX9_advances_X9_byteAt
set_option maxRecDepth 20000 in
theorem ggX9_advances_X9_in : GoodIn wsX9_advances wsX9_in := goodIn_r _ [15] (by decide +kernel) (by decide +kernel)
set_option maxRecDepth 20000 in
theorem gX9_advances_X9_in : GoodIn wsX9_advances (va_wsS RX9 51 yX9_in wsX9_in) := goodIn_app (goodIn_of _ (by decide +kernel)) ggX9_advances_X9_in
set_option maxRecDepth 20000 in
theorem ggX9_advances_X9_wordOf : GoodIn wsX9_advances wsX9_wordOf := goodIn_r _ [18, 19, 20, 9, 21, 22, 4] (by decide +kernel) (by decide +kernel)
set_option maxRecDepth 20000 in
theorem gX9_advances_X9_wordOf : GoodIn wsX9_advances (va_wsS RX9 145 yX9_wordOf wsX9_wordOf) := goodIn_app (goodIn_of _ (by decide +kernel)) ggX9_advances_X9_wordOf
theorem dX9_advances_0 : decode cX9_advances 0 = .ok (.aload_n 0, 1) := by decide +kernel
theorem dX9_advances_1 : decode cX9_advances 1 = .ok (.aload_n 0, 1) := by decide +kernel
theorem dX9_advances_2 : decode cX9_advances 2 = .ok (.getfield 133, 3) := by decide +kernel
theorem dX9_advances_5 : decode cX9_advances 5 = .ok (.invokevirtual 136, 3) := by decide +kernel
theorem dX9_advances_8 : decode cX9_advances 8 = .ok (.bipush 32, 2) := by decide +kernel
theorem dX9_advances_10 : decode cX9_advances 10 = .ok (.if_icmp .ne 16, 3) := by decide +kernel
theorem dX9_advances_13 : decode cX9_advances 13 = .ok (.aload_n 0, 1) := by decide +kernel
theorem dX9_advances_14 : decode cX9_advances 14 = .ok (.dup, 1) := by decide +kernel
theorem dX9_advances_15 : decode cX9_advances 15 = .ok (.getfield 133, 3) := by decide +kernel
theorem dX9_advances_18 : decode cX9_advances 18 = .ok (.iconst 1, 1) := by decide +kernel
theorem dX9_advances_19 : decode cX9_advances 19 = .ok (.iadd, 1) := by decide +kernel
theorem dX9_advances_20 : decode cX9_advances 20 = .ok (.putfield 133, 3) := by decide +kernel
theorem dX9_advances_23 : decode cX9_advances 23 = .ok (.goto (-23), 3) := by decide +kernel
theorem dX9_advances_26 : decode cX9_advances 26 = .ok (.aload_n 0, 1) := by decide +kernel
theorem dX9_advances_27 : decode cX9_advances 27 = .ok (.aload_n 0, 1) := by decide +kernel
theorem dX9_advances_28 : decode cX9_advances 28 = .ok (.getfield 133, 3) := by decide +kernel
theorem dX9_advances_31 : decode cX9_advances 31 = .ok (.putfield 139, 3) := by decide +kernel
theorem dX9_advances_34 : decode cX9_advances 34 = .ok (.aload_n 0, 1) := by decide +kernel
theorem dX9_advances_35 : decode cX9_advances 35 = .ok (.aload_n 0, 1) := by decide +kernel
theorem dX9_advances_36 : decode cX9_advances 36 = .ok (.getfield 133, 3) := by decide +kernel
theorem dX9_advances_39 : decode cX9_advances 39 = .ok (.invokevirtual 136, 3) := by decide +kernel
theorem dX9_advances_42 : decode cX9_advances 42 = .ok (.istore_n 1, 1) := by decide +kernel
theorem dX9_advances_43 : decode cX9_advances 43 = .ok (.iload_n 1, 1) := by decide +kernel
theorem dX9_advances_44 : decode cX9_advances 44 = .ok (.ifCond .ge 11, 3) := by decide +kernel
theorem dX9_advances_47 : decode cX9_advances 47 = .ok (.aload_n 0, 1) := by decide +kernel
theorem dX9_advances_48 : decode cX9_advances 48 = .ok (.iconst 0, 1) := by decide +kernel
theorem dX9_advances_49 : decode cX9_advances 49 = .ok (.putfield 142, 3) := by decide +kernel
theorem dX9_advances_52 : decode cX9_advances 52 = .ok (.goto 273, 3) := by decide +kernel
theorem dX9_advances_55 : decode cX9_advances 55 = .ok (.iload_n 1, 1) := by decide +kernel
theorem dX9_advances_56 : decode cX9_advances 56 = .ok (.bipush 97, 2) := by decide +kernel
theorem dX9_advances_58 : decode cX9_advances 58 = .ok (.bipush 122, 2) := by decide +kernel
theorem dX9_advances_60 : decode cX9_advances 60 = .ok (.invokestatic 51, 3) := by decide +kernel
theorem dX9_advances_63 : decode cX9_advances 63 = .ok (.ifCond .eq 99, 3) := by decide +kernel
theorem dX9_advances_66 : decode cX9_advances 66 = .ok (.lconst 0, 1) := by decide +kernel
theorem dX9_advances_67 : decode cX9_advances 67 = .ok (.lstore_n 2, 1) := by decide +kernel
theorem dX9_advances_68 : decode cX9_advances 68 = .ok (.aload_n 0, 1) := by decide +kernel
theorem dX9_advances_69 : decode cX9_advances 69 = .ok (.aload_n 0, 1) := by decide +kernel
theorem dX9_advances_70 : decode cX9_advances 70 = .ok (.getfield 133, 3) := by decide +kernel
theorem dX9_advances_73 : decode cX9_advances 73 = .ok (.invokevirtual 136, 3) := by decide +kernel
theorem dX9_advances_76 : decode cX9_advances 76 = .ok (.bipush 97, 2) := by decide +kernel
theorem dX9_advances_78 : decode cX9_advances 78 = .ok (.bipush 122, 2) := by decide +kernel
theorem dX9_advances_80 : decode cX9_advances 80 = .ok (.invokestatic 51, 3) := by decide +kernel
theorem dX9_advances_83 : decode cX9_advances 83 = .ok (.ifCond .eq 50, 3) := by decide +kernel
theorem dX9_advances_86 : decode cX9_advances 86 = .ok (.aload_n 0, 1) := by decide +kernel
theorem dX9_advances_87 : decode cX9_advances 87 = .ok (.getfield 133, 3) := by decide +kernel
theorem dX9_advances_90 : decode cX9_advances 90 = .ok (.aload_n 0, 1) := by decide +kernel
theorem dX9_advances_91 : decode cX9_advances 91 = .ok (.getfield 139, 3) := by decide +kernel
theorem dX9_advances_94 : decode cX9_advances 94 = .ok (.isub, 1) := by decide +kernel
theorem dX9_advances_95 : decode cX9_advances 95 = .ok (.bipush 6, 2) := by decide +kernel
theorem dX9_advances_97 : decode cX9_advances 97 = .ok (.if_icmp .ge 21, 3) := by decide +kernel
theorem dX9_advances_100 : decode cX9_advances 100 = .ok (.ldc2_w 127, 3) := by decide +kernel
theorem dX9_advances_103 : decode cX9_advances 103 = .ok (.lload_n 2, 1) := by decide +kernel
theorem dX9_advances_104 : decode cX9_advances 104 = .ok (.lmul, 1) := by decide +kernel
theorem dX9_advances_105 : decode cX9_advances 105 = .ok (.aload_n 0, 1) := by decide +kernel
theorem dX9_advances_106 : decode cX9_advances 106 = .ok (.aload_n 0, 1) := by decide +kernel
theorem dX9_advances_107 : decode cX9_advances 107 = .ok (.getfield 133, 3) := by decide +kernel
theorem dX9_advances_110 : decode cX9_advances 110 = .ok (.invokevirtual 136, 3) := by decide +kernel
theorem dX9_advances_113 : decode cX9_advances 113 = .ok (.i2l, 1) := by decide +kernel
theorem dX9_advances_114 : decode cX9_advances 114 = .ok (.ladd, 1) := by decide +kernel
theorem dX9_advances_115 : decode cX9_advances 115 = .ok (.goto 4, 3) := by decide +kernel
theorem dX9_advances_118 : decode cX9_advances 118 = .ok (.lload_n 2, 1) := by decide +kernel
theorem dX9_advances_119 : decode cX9_advances 119 = .ok (.lstore_n 2, 1) := by decide +kernel
theorem dX9_advances_120 : decode cX9_advances 120 = .ok (.aload_n 0, 1) := by decide +kernel
theorem dX9_advances_121 : decode cX9_advances 121 = .ok (.dup, 1) := by decide +kernel
theorem dX9_advances_122 : decode cX9_advances 122 = .ok (.getfield 133, 3) := by decide +kernel
theorem dX9_advances_125 : decode cX9_advances 125 = .ok (.iconst 1, 1) := by decide +kernel
theorem dX9_advances_126 : decode cX9_advances 126 = .ok (.iadd, 1) := by decide +kernel
theorem dX9_advances_127 : decode cX9_advances 127 = .ok (.putfield 133, 3) := by decide +kernel
theorem dX9_advances_130 : decode cX9_advances 130 = .ok (.goto (-62), 3) := by decide +kernel
theorem dX9_advances_133 : decode cX9_advances 133 = .ok (.aload_n 0, 1) := by decide +kernel
theorem dX9_advances_134 : decode cX9_advances 134 = .ok (.lload_n 2, 1) := by decide +kernel
theorem dX9_advances_135 : decode cX9_advances 135 = .ok (.invokestatic 145, 3) := by decide +kernel
theorem dX9_advances_138 : decode cX9_advances 138 = .ok (.putfield 149, 3) := by decide +kernel
theorem dX9_advances_141 : decode cX9_advances 141 = .ok (.aload_n 0, 1) := by decide +kernel
theorem dX9_advances_142 : decode cX9_advances 142 = .ok (.aload_n 0, 1) := by decide +kernel
theorem dX9_advances_143 : decode cX9_advances 143 = .ok (.getfield 149, 3) := by decide +kernel
theorem dX9_advances_146 : decode cX9_advances 146 = .ok (.bipush (-9), 2) := by decide +kernel
theorem dX9_advances_148 : decode cX9_advances 148 = .ok (.if_icmp .ne 7, 3) := by decide +kernel
theorem dX9_advances_151 : decode cX9_advances 151 = .ok (.iconst 5, 1) := by decide +kernel
theorem dX9_advances_152 : decode cX9_advances 152 = .ok (.goto 4, 3) := by decide +kernel
theorem dX9_advances_155 : decode cX9_advances 155 = .ok (.iconst 1, 1) := by decide +kernel
theorem dX9_advances_156 : decode cX9_advances 156 = .ok (.putfield 142, 3) := by decide +kernel
theorem dX9_advances_159 : decode cX9_advances 159 = .ok (.goto 166, 3) := by decide +kernel
theorem dX9_advances_162 : decode cX9_advances 162 = .ok (.iload_n 1, 1) := by decide +kernel
theorem dX9_advances_163 : decode cX9_advances 163 = .ok (.bipush 48, 2) := by decide +kernel
theorem dX9_advances_165 : decode cX9_advances 165 = .ok (.bipush 57, 2) := by decide +kernel
theorem dX9_advances_167 : decode cX9_advances 167 = .ok (.invokestatic 51, 3) := by decide +kernel
theorem dX9_advances_170 : decode cX9_advances 170 = .ok (.ifCond .eq 120, 3) := by decide +kernel
theorem dX9_advances_173 : decode cX9_advances 173 = .ok (.aload_n 0, 1) := by decide +kernel
theorem dX9_advances_174 : decode cX9_advances 174 = .ok (.iconst 0, 1) := by decide +kernel
theorem dX9_advances_175 : decode cX9_advances 175 = .ok (.putfield 149, 3) := by decide +kernel
theorem dX9_advances_178 : decode cX9_advances 178 = .ok (.aload_n 0, 1) := by decide +kernel
theorem dX9_advances_179 : decode cX9_advances 179 = .ok (.aload_n 0, 1) := by decide +kernel
theorem dX9_advances_180 : decode cX9_advances 180 = .ok (.getfield 133, 3) := by decide +kernel
theorem dX9_advances_183 : decode cX9_advances 183 = .ok (.invokevirtual 136, 3) := by decide +kernel
theorem dX9_advances_186 : decode cX9_advances 186 = .ok (.bipush 48, 2) := by decide +kernel
theorem dX9_advances_188 : decode cX9_advances 188 = .ok (.bipush 57, 2) := by decide +kernel
theorem dX9_advances_190 : decode cX9_advances 190 = .ok (.invokestatic 51, 3) := by decide +kernel
theorem dX9_advances_193 : decode cX9_advances 193 = .ok (.ifCond .eq 56, 3) := by decide +kernel
theorem dX9_advances_196 : decode cX9_advances 196 = .ok (.aload_n 0, 1) := by decide +kernel
theorem dX9_advances_197 : decode cX9_advances 197 = .ok (.aload_n 0, 1) := by decide +kernel
theorem dX9_advances_198 : decode cX9_advances 198 = .ok (.getfield 149, 3) := by decide +kernel
theorem dX9_advances_201 : decode cX9_advances 201 = .ok (.sipush 999, 3) := by decide +kernel
theorem dX9_advances_204 : decode cX9_advances 204 = .ok (.if_icmp .le 10, 3) := by decide +kernel
theorem dX9_advances_207 : decode cX9_advances 207 = .ok (.aload_n 0, 1) := by decide +kernel
theorem dX9_advances_208 : decode cX9_advances 208 = .ok (.getfield 149, 3) := by decide +kernel
theorem dX9_advances_211 : decode cX9_advances 211 = .ok (.goto 22, 3) := by decide +kernel
theorem dX9_advances_214 : decode cX9_advances 214 = .ok (.bipush 10, 2) := by decide +kernel
theorem dX9_advances_216 : decode cX9_advances 216 = .ok (.aload_n 0, 1) := by decide +kernel
theorem dX9_advances_217 : decode cX9_advances 217 = .ok (.getfield 149, 3) := by decide +kernel
theorem dX9_advances_220 : decode cX9_advances 220 = .ok (.imul, 1) := by decide +kernel
theorem dX9_advances_221 : decode cX9_advances 221 = .ok (.aload_n 0, 1) := by decide +kernel
theorem dX9_advances_222 : decode cX9_advances 222 = .ok (.aload_n 0, 1) := by decide +kernel
theorem dX9_advances_223 : decode cX9_advances 223 = .ok (.getfield 133, 3) := by decide +kernel
theorem dX9_advances_226 : decode cX9_advances 226 = .ok (.invokevirtual 136, 3) := by decide +kernel
theorem dX9_advances_229 : decode cX9_advances 229 = .ok (.iadd, 1) := by decide +kernel
theorem dX9_advances_230 : decode cX9_advances 230 = .ok (.bipush 48, 2) := by decide +kernel
theorem dX9_advances_232 : decode cX9_advances 232 = .ok (.isub, 1) := by decide +kernel
theorem dX9_advances_233 : decode cX9_advances 233 = .ok (.putfield 149, 3) := by decide +kernel
theorem dX9_advances_236 : decode cX9_advances 236 = .ok (.aload_n 0, 1) := by decide +kernel
theorem dX9_advances_237 : decode cX9_advances 237 = .ok (.dup, 1) := by decide +kernel
theorem dX9_advances_238 : decode cX9_advances 238 = .ok (.getfield 133, 3) := by decide +kernel
theorem dX9_advances_241 : decode cX9_advances 241 = .ok (.iconst 1, 1) := by decide +kernel
theorem dX9_advances_242 : decode cX9_advances 242 = .ok (.iadd, 1) := by decide +kernel
theorem dX9_advances_243 : decode cX9_advances 243 = .ok (.putfield 133, 3) := by decide +kernel
theorem dX9_advances_246 : decode cX9_advances 246 = .ok (.goto (-68), 3) := by decide +kernel
theorem dX9_advances_249 : decode cX9_advances 249 = .ok (.aload_n 0, 1) := by decide +kernel
theorem dX9_advances_250 : decode cX9_advances 250 = .ok (.aload_n 0, 1) := by decide +kernel
theorem dX9_advances_251 : decode cX9_advances 251 = .ok (.getfield 149, 3) := by decide +kernel
theorem dX9_advances_254 : decode cX9_advances 254 = .ok (.sipush 999, 3) := by decide +kernel
theorem dX9_advances_257 : decode cX9_advances 257 = .ok (.if_icmp .gt 22, 3) := by decide +kernel
theorem dX9_advances_260 : decode cX9_advances 260 = .ok (.iload_n 1, 1) := by decide +kernel
theorem dX9_advances_261 : decode cX9_advances 261 = .ok (.bipush 48, 2) := by decide +kernel
theorem dX9_advances_263 : decode cX9_advances 263 = .ok (.if_icmp .ne 20, 3) := by decide +kernel
theorem dX9_advances_266 : decode cX9_advances 266 = .ok (.aload_n 0, 1) := by decide +kernel
theorem dX9_advances_267 : decode cX9_advances 267 = .ok (.getfield 133, 3) := by decide +kernel
theorem dX9_advances_270 : decode cX9_advances 270 = .ok (.aload_n 0, 1) := by decide +kernel
theorem dX9_advances_271 : decode cX9_advances 271 = .ok (.getfield 139, 3) := by decide +kernel
theorem dX9_advances_274 : decode cX9_advances 274 = .ok (.isub, 1) := by decide +kernel
theorem dX9_advances_275 : decode cX9_advances 275 = .ok (.iconst 1, 1) := by decide +kernel
theorem dX9_advances_276 : decode cX9_advances 276 = .ok (.if_icmp .le 7, 3) := by decide +kernel
theorem dX9_advances_279 : decode cX9_advances 279 = .ok (.iconst 5, 1) := by decide +kernel
theorem dX9_advances_280 : decode cX9_advances 280 = .ok (.goto 4, 3) := by decide +kernel
theorem dX9_advances_283 : decode cX9_advances 283 = .ok (.iconst 3, 1) := by decide +kernel
theorem dX9_advances_284 : decode cX9_advances 284 = .ok (.putfield 142, 3) := by decide +kernel
theorem dX9_advances_287 : decode cX9_advances 287 = .ok (.goto 38, 3) := by decide +kernel
theorem dX9_advances_290 : decode cX9_advances 290 = .ok (.aload_n 0, 1) := by decide +kernel
theorem dX9_advances_291 : decode cX9_advances 291 = .ok (.dup, 1) := by decide +kernel
theorem dX9_advances_292 : decode cX9_advances 292 = .ok (.getfield 133, 3) := by decide +kernel
theorem dX9_advances_295 : decode cX9_advances 295 = .ok (.iconst 1, 1) := by decide +kernel
theorem dX9_advances_296 : decode cX9_advances 296 = .ok (.iadd, 1) := by decide +kernel
theorem dX9_advances_297 : decode cX9_advances 297 = .ok (.putfield 133, 3) := by decide +kernel
theorem dX9_advances_300 : decode cX9_advances 300 = .ok (.aload_n 0, 1) := by decide +kernel
theorem dX9_advances_301 : decode cX9_advances 301 = .ok (.iload_n 1, 1) := by decide +kernel
theorem dX9_advances_302 : decode cX9_advances 302 = .ok (.bipush 45, 2) := by decide +kernel
theorem dX9_advances_304 : decode cX9_advances 304 = .ok (.if_icmp .ne 7, 3) := by decide +kernel
theorem dX9_advances_307 : decode cX9_advances 307 = .ok (.iconst 2, 1) := by decide +kernel
theorem dX9_advances_308 : decode cX9_advances 308 = .ok (.goto 14, 3) := by decide +kernel
theorem dX9_advances_311 : decode cX9_advances 311 = .ok (.iload_n 1, 1) := by decide +kernel
theorem dX9_advances_312 : decode cX9_advances 312 = .ok (.bipush 59, 2) := by decide +kernel
theorem dX9_advances_314 : decode cX9_advances 314 = .ok (.if_icmp .ne 7, 3) := by decide +kernel
theorem dX9_advances_317 : decode cX9_advances 317 = .ok (.iconst 4, 1) := by decide +kernel
theorem dX9_advances_318 : decode cX9_advances 318 = .ok (.goto 4, 3) := by decide +kernel
theorem dX9_advances_321 : decode cX9_advances 321 = .ok (.iconst 5, 1) := by decide +kernel
theorem dX9_advances_322 : decode cX9_advances 322 = .ok (.putfield 142, 3) := by decide +kernel
theorem dX9_advances_325 : decode cX9_advances 325 = .ok (.return_, 1) := by decide +kernel
theorem dX9_isWell_0 : decode cX9_isWell 0 = .ok (.aload_n 0, 1) := by decide +kernel
theorem dX9_isWell_1 : decode cX9_isWell 1 = .ok (.getfield 152, 3) := by decide +kernel
theorem dX9_isWell_4 : decode cX9_isWell 4 = .ok (.ifCond .ge 7, 3) := by decide +kernel
theorem dX9_isWell_7 : decode cX9_isWell 7 = .ok (.iconst 1, 1) := by decide +kernel
theorem dX9_isWell_8 : decode cX9_isWell 8 = .ok (.goto 4, 3) := by decide +kernel
theorem dX9_isWell_11 : decode cX9_isWell 11 = .ok (.iconst 0, 1) := by decide +kernel
theorem dX9_isWell_12 : decode cX9_isWell 12 = .ok (.ireturn, 1) := by decide +kernel
set_option maxRecDepth 20000 in
theorem ggX9_reads_X9_isWell : GoodIn wsX9_reads wsX9_isWell := goodIn_r _ [8, 2, 32, 33, 34, 35, 36, 37, 38, 39, 40, 41, 42, 43, 44, 45, 46, 47, 48, 49, 50, 51, 52] (by decide +kernel) (by decide +kernel)
set_option maxRecDepth 20000 in
theorem gX9_reads_X9_isWell : GoodIn wsX9_reads (wsV RX9 155 RX9 yX9_isWell wsX9_isWell) := goodIn_app (goodIn_of _ (by decide +kernel)) ggX9_reads_X9_isWell
set_option maxRecDepth 20000 in
theorem ggX9_reads_X9_advances : GoodIn wsX9_reads wsX9_advances := goodIn_r _ [12, 13, 1, 14, 15, 3, 16, 17, 18, 7, 19, 20, 21, 22, 23, 24, 25, 26, 27, 28, 29, 30, 31, 32, 33, 34, 35, 36, 37, 38, 39, 40, 41, 42, 43, 44, 45, 46, 47, 48, 49, 50, 51, 52] (by decide +kernel) (by decide +kernel)
set_option maxRecDepth 20000 in
theorem gX9_reads_X9_advances : GoodIn wsX9_reads (wsV RX9 159 RX9 yX9_advances wsX9_advances) := goodIn_app (goodIn_of _ (by decide +kernel)) ggX9_reads_X9_advances
theorem dX9_reads_0 : decode cX9_reads 0 = .ok (.aload_n 0, 1) := by decide +kernel
theorem dX9_reads_1 : decode cX9_reads 1 = .ok (.invokevirtual 155, 3) := by decide +kernel
theorem dX9_reads_4 : decode cX9_reads 4 = .ok (.ifCond .ne 5, 3) := by decide +kernel
theorem dX9_reads_7 : decode cX9_reads 7 = .ok (.iconst 0, 1) := by decide +kernel
theorem dX9_reads_8 : decode cX9_reads 8 = .ok (.ireturn, 1) := by decide +kernel
theorem dX9_reads_9 : decode cX9_reads 9 = .ok (.iload_n 1, 1) := by decide +kernel
theorem dX9_reads_10 : decode cX9_reads 10 = .ok (.ifCond .ne 13, 3) := by decide +kernel
theorem dX9_reads_13 : decode cX9_reads 13 = .ok (.aload_n 0, 1) := by decide +kernel
theorem dX9_reads_14 : decode cX9_reads 14 = .ok (.aload_n 0, 1) := by decide +kernel
theorem dX9_reads_15 : decode cX9_reads 15 = .ok (.getfield 139, 3) := by decide +kernel
theorem dX9_reads_18 : decode cX9_reads 18 = .ok (.putfield 152, 3) := by decide +kernel
theorem dX9_reads_21 : decode cX9_reads 21 = .ok (.iconst 0, 1) := by decide +kernel
theorem dX9_reads_22 : decode cX9_reads 22 = .ok (.ireturn, 1) := by decide +kernel
theorem dX9_reads_23 : decode cX9_reads 23 = .ok (.aload_n 0, 1) := by decide +kernel
theorem dX9_reads_24 : decode cX9_reads 24 = .ok (.getfield 149, 3) := by decide +kernel
theorem dX9_reads_27 : decode cX9_reads 27 = .ok (.istore_n 2, 1) := by decide +kernel
theorem dX9_reads_28 : decode cX9_reads 28 = .ok (.aload_n 0, 1) := by decide +kernel
theorem dX9_reads_29 : decode cX9_reads 29 = .ok (.invokevirtual 159, 3) := by decide +kernel
theorem dX9_reads_32 : decode cX9_reads 32 = .ok (.iload_n 2, 1) := by decide +kernel
theorem dX9_reads_33 : decode cX9_reads 33 = .ok (.ireturn, 1) := by decide +kernel
set_option maxRecDepth 20000 in
theorem ggX9_rider_X9_advances : GoodIn wsX9_rider wsX9_advances := goodIn_r _ [13, 3, 14, 5, 15, 6, 16, 17, 18, 12, 19, 8, 20, 21, 22, 23, 24, 25, 26, 27, 28, 29, 30, 39, 40, 41, 42, 43, 44, 45, 46, 47, 48, 49, 50, 51, 52, 53, 54, 55, 56, 57, 58, 59] (by decide +kernel) (by decide +kernel)
set_option maxRecDepth 20000 in
theorem gX9_rider_X9_advances : GoodIn wsX9_rider (wsV RX9 159 RX9 yX9_advances wsX9_advances) := goodIn_app (goodIn_of _ (by decide +kernel)) ggX9_rider_X9_advances
set_option maxRecDepth 20000 in
theorem ggX9_rider_X9_isWell : GoodIn wsX9_rider wsX9_isWell := goodIn_r _ [34, 2, 39, 40, 41, 42, 43, 44, 45, 46, 47, 48, 49, 50, 51, 52, 53, 54, 55, 56, 57, 58, 59] (by decide +kernel) (by decide +kernel)
set_option maxRecDepth 20000 in
theorem gX9_rider_X9_isWell : GoodIn wsX9_rider (wsV RX9 155 RX9 yX9_isWell wsX9_isWell) := goodIn_app (goodIn_of _ (by decide +kernel)) ggX9_rider_X9_isWell
set_option maxRecDepth 20000 in
theorem ggX9_rider_X9_reads : GoodIn wsX9_rider wsX9_reads := goodIn_r _ [38, 14, 2, 6, 31, 32, 33, 12, 34, 9, 10, 11, 13, 3, 5, 15, 16, 17, 18, 19, 8, 20, 21, 22, 23, 24, 25, 26, 27, 28, 29, 30, 39, 40, 41, 42, 43, 44, 45, 46, 47, 48, 49, 50, 51, 52, 53, 54, 55, 56, 57, 58, 59] (by decide +kernel) (by decide +kernel)
set_option maxRecDepth 20000 in
theorem gX9_rider_X9_reads : GoodIn wsX9_rider (wsV RX9 162 RX9 yX9_reads wsX9_reads) := goodIn_app (goodIn_of _ (by decide +kernel)) ggX9_rider_X9_reads
theorem dX9_rider_0 : decode cX9_rider 0 = .ok (.aload_n 0, 1) := by decide +kernel
theorem dX9_rider_1 : decode cX9_rider 1 = .ok (.iconst 0, 1) := by decide +kernel
theorem dX9_rider_2 : decode cX9_rider 2 = .ok (.putfield 48, 3) := by decide +kernel
theorem dX9_rider_5 : decode cX9_rider 5 = .ok (.aload_n 0, 1) := by decide +kernel
theorem dX9_rider_6 : decode cX9_rider 6 = .ok (.iconst (-1), 1) := by decide +kernel
theorem dX9_rider_7 : decode cX9_rider 7 = .ok (.putfield 152, 3) := by decide +kernel
theorem dX9_rider_10 : decode cX9_rider 10 = .ok (.aload_n 0, 1) := by decide +kernel
theorem dX9_rider_11 : decode cX9_rider 11 = .ok (.iconst 0, 1) := by decide +kernel
theorem dX9_rider_12 : decode cX9_rider 12 = .ok (.putfield 133, 3) := by decide +kernel
theorem dX9_rider_15 : decode cX9_rider 15 = .ok (.iconst 0, 1) := by decide +kernel
theorem dX9_rider_16 : decode cX9_rider 16 = .ok (.istore_n 1, 1) := by decide +kernel
theorem dX9_rider_17 : decode cX9_rider 17 = .ok (.iconst 0, 1) := by decide +kernel
theorem dX9_rider_18 : decode cX9_rider 18 = .ok (.istore_n 2, 1) := by decide +kernel
theorem dX9_rider_19 : decode cX9_rider 19 = .ok (.iconst 0, 1) := by decide +kernel
theorem dX9_rider_20 : decode cX9_rider 20 = .ok (.istore_n 3, 1) := by decide +kernel
theorem dX9_rider_21 : decode cX9_rider 21 = .ok (.iload_n 3, 1) := by decide +kernel
theorem dX9_rider_22 : decode cX9_rider 22 = .ok (.iconst 5, 1) := by decide +kernel
theorem dX9_rider_23 : decode cX9_rider 23 = .ok (.if_icmp .ge 29, 3) := by decide +kernel
theorem dX9_rider_26 : decode cX9_rider 26 = .ok (.aload_n 0, 1) := by decide +kernel
theorem dX9_rider_27 : decode cX9_rider 27 = .ok (.getfield 29, 3) := by decide +kernel
theorem dX9_rider_30 : decode cX9_rider 30 = .ok (.iconst 5, 1) := by decide +kernel
theorem dX9_rider_31 : decode cX9_rider 31 = .ok (.iload_n 3, 1) := by decide +kernel
theorem dX9_rider_32 : decode cX9_rider 32 = .ok (.iadd, 1) := by decide +kernel
theorem dX9_rider_33 : decode cX9_rider 33 = .ok (.iload_n 3, 1) := by decide +kernel
theorem dX9_rider_34 : decode cX9_rider 34 = .ok (.iconst 4, 1) := by decide +kernel
theorem dX9_rider_35 : decode cX9_rider 35 = .ok (.if_icmp .ne 9, 3) := by decide +kernel
theorem dX9_rider_38 : decode cX9_rider 38 = .ok (.sipush 999, 3) := by decide +kernel
theorem dX9_rider_41 : decode cX9_rider 41 = .ok (.goto 4, 3) := by decide +kernel
theorem dX9_rider_44 : decode cX9_rider 44 = .ok (.iconst 0, 1) := by decide +kernel
theorem dX9_rider_45 : decode cX9_rider 45 = .ok (.iastore, 1) := by decide +kernel
theorem dX9_rider_46 : decode cX9_rider 46 = .ok (.iinc 3 1, 3) := by decide +kernel
theorem dX9_rider_49 : decode cX9_rider 49 = .ok (.goto (-28), 3) := by decide +kernel
theorem dX9_rider_52 : decode cX9_rider 52 = .ok (.aload_n 0, 1) := by decide +kernel
theorem dX9_rider_53 : decode cX9_rider 53 = .ok (.invokevirtual 159, 3) := by decide +kernel
theorem dX9_rider_56 : decode cX9_rider 56 = .ok (.aload_n 0, 1) := by decide +kernel
theorem dX9_rider_57 : decode cX9_rider 57 = .ok (.invokevirtual 155, 3) := by decide +kernel
theorem dX9_rider_60 : decode cX9_rider 60 = .ok (.ifCond .eq 174, 3) := by decide +kernel
theorem dX9_rider_63 : decode cX9_rider 63 = .ok (.aload_n 0, 1) := by decide +kernel
theorem dX9_rider_64 : decode cX9_rider 64 = .ok (.getfield 142, 3) := by decide +kernel
theorem dX9_rider_67 : decode cX9_rider 67 = .ok (.ifCond .eq 167, 3) := by decide +kernel
theorem dX9_rider_70 : decode cX9_rider 70 = .ok (.aload_n 0, 1) := by decide +kernel
theorem dX9_rider_71 : decode cX9_rider 71 = .ok (.aload_n 0, 1) := by decide +kernel
theorem dX9_rider_72 : decode cX9_rider 72 = .ok (.getfield 142, 3) := by decide +kernel
theorem dX9_rider_75 : decode cX9_rider 75 = .ok (.iconst 1, 1) := by decide +kernel
theorem dX9_rider_76 : decode cX9_rider 76 = .ok (.if_icmp .ne 18, 3) := by decide +kernel
theorem dX9_rider_79 : decode cX9_rider 79 = .ok (.iload_n 1, 1) := by decide +kernel
theorem dX9_rider_80 : decode cX9_rider 80 = .ok (.aload_n 0, 1) := by decide +kernel
theorem dX9_rider_81 : decode cX9_rider 81 = .ok (.getfield 149, 3) := by decide +kernel
theorem dX9_rider_84 : decode cX9_rider 84 = .ok (.ishr, 1) := by decide +kernel
theorem dX9_rider_85 : decode cX9_rider 85 = .ok (.iconst 1, 1) := by decide +kernel
theorem dX9_rider_86 : decode cX9_rider 86 = .ok (.iand, 1) := by decide +kernel
theorem dX9_rider_87 : decode cX9_rider 87 = .ok (.ifCond .ne 7, 3) := by decide +kernel
theorem dX9_rider_90 : decode cX9_rider 90 = .ok (.iconst 1, 1) := by decide +kernel
theorem dX9_rider_91 : decode cX9_rider 91 = .ok (.goto 4, 3) := by decide +kernel
theorem dX9_rider_94 : decode cX9_rider 94 = .ok (.iconst 0, 1) := by decide +kernel
theorem dX9_rider_95 : decode cX9_rider 95 = .ok (.invokevirtual 162, 3) := by decide +kernel
theorem dX9_rider_98 : decode cX9_rider 98 = .ok (.istore_n 3, 1) := by decide +kernel
theorem dX9_rider_99 : decode cX9_rider 99 = .ok (.iload_n 1, 1) := by decide +kernel
theorem dX9_rider_100 : decode cX9_rider 100 = .ok (.iconst 1, 1) := by decide +kernel
theorem dX9_rider_101 : decode cX9_rider 101 = .ok (.iload_n 3, 1) := by decide +kernel
theorem dX9_rider_102 : decode cX9_rider 102 = .ok (.ishl, 1) := by decide +kernel
theorem dX9_rider_103 : decode cX9_rider 103 = .ok (.ior, 1) := by decide +kernel
theorem dX9_rider_104 : decode cX9_rider 104 = .ok (.istore_n 1, 1) := by decide +kernel
theorem dX9_rider_105 : decode cX9_rider 105 = .ok (.aload_n 0, 1) := by decide +kernel
theorem dX9_rider_106 : decode cX9_rider 106 = .ok (.invokevirtual 155, 3) := by decide +kernel
theorem dX9_rider_109 : decode cX9_rider 109 = .ok (.ifCond .eq 20, 3) := by decide +kernel
theorem dX9_rider_112 : decode cX9_rider 112 = .ok (.aload_n 0, 1) := by decide +kernel
theorem dX9_rider_113 : decode cX9_rider 113 = .ok (.getfield 142, 3) := by decide +kernel
theorem dX9_rider_116 : decode cX9_rider 116 = .ok (.iconst 2, 1) := by decide +kernel
theorem dX9_rider_117 : decode cX9_rider 117 = .ok (.if_icmp .ne 12, 3) := by decide +kernel
theorem dX9_rider_120 : decode cX9_rider 120 = .ok (.iload_n 3, 1) := by decide +kernel
theorem dX9_rider_121 : decode cX9_rider 121 = .ok (.iconst 3, 1) := by decide +kernel
theorem dX9_rider_122 : decode cX9_rider 122 = .ok (.if_icmp .ge 7, 3) := by decide +kernel
theorem dX9_rider_125 : decode cX9_rider 125 = .ok (.iconst 1, 1) := by decide +kernel
theorem dX9_rider_126 : decode cX9_rider 126 = .ok (.goto 4, 3) := by decide +kernel
theorem dX9_rider_129 : decode cX9_rider 129 = .ok (.iconst 0, 1) := by decide +kernel
theorem dX9_rider_130 : decode cX9_rider 130 = .ok (.istore 4, 2) := by decide +kernel
theorem dX9_rider_132 : decode cX9_rider 132 = .ok (.iload 4, 2) := by decide +kernel
theorem dX9_rider_134 : decode cX9_rider 134 = .ok (.ifCond .eq 7, 3) := by decide +kernel
theorem dX9_rider_137 : decode cX9_rider 137 = .ok (.aload_n 0, 1) := by decide +kernel
theorem dX9_rider_138 : decode cX9_rider 138 = .ok (.invokevirtual 159, 3) := by decide +kernel
theorem dX9_rider_141 : decode cX9_rider 141 = .ok (.aload_n 0, 1) := by decide +kernel
theorem dX9_rider_142 : decode cX9_rider 142 = .ok (.aload_n 0, 1) := by decide +kernel
theorem dX9_rider_143 : decode cX9_rider 143 = .ok (.getfield 142, 3) := by decide +kernel
theorem dX9_rider_146 : decode cX9_rider 146 = .ok (.iconst 3, 1) := by decide +kernel
theorem dX9_rider_147 : decode cX9_rider 147 = .ok (.if_icmp .ne 36, 3) := by decide +kernel
theorem dX9_rider_150 : decode cX9_rider 150 = .ok (.aload_n 0, 1) := by decide +kernel
theorem dX9_rider_151 : decode cX9_rider 151 = .ok (.getfield 149, 3) := by decide +kernel
theorem dX9_rider_154 : decode cX9_rider 154 = .ok (.iload_n 3, 1) := by decide +kernel
theorem dX9_rider_155 : decode cX9_rider 155 = .ok (.iconst 3, 1) := by decide +kernel
theorem dX9_rider_156 : decode cX9_rider 156 = .ok (.if_icmp .ge 8, 3) := by decide +kernel
theorem dX9_rider_159 : decode cX9_rider 159 = .ok (.bipush 99, 2) := by decide +kernel
theorem dX9_rider_161 : decode cX9_rider 161 = .ok (.goto 15, 3) := by decide +kernel
theorem dX9_rider_164 : decode cX9_rider 164 = .ok (.iload_n 3, 1) := by decide +kernel
theorem dX9_rider_165 : decode cX9_rider 165 = .ok (.iconst 3, 1) := by decide +kernel
theorem dX9_rider_166 : decode cX9_rider 166 = .ok (.if_icmp .ne 7, 3) := by decide +kernel
theorem dX9_rider_169 : decode cX9_rider 169 = .ok (.iconst 5, 1) := by decide +kernel
theorem dX9_rider_170 : decode cX9_rider 170 = .ok (.goto 6, 3) := by decide +kernel
theorem dX9_rider_173 : decode cX9_rider 173 = .ok (.sipush 999, 3) := by decide +kernel
theorem dX9_rider_176 : decode cX9_rider 176 = .ok (.if_icmp .gt 7, 3) := by decide +kernel
theorem dX9_rider_179 : decode cX9_rider 179 = .ok (.iconst 1, 1) := by decide +kernel
theorem dX9_rider_180 : decode cX9_rider 180 = .ok (.goto 4, 3) := by decide +kernel
theorem dX9_rider_183 : decode cX9_rider 183 = .ok (.iconst 0, 1) := by decide +kernel
theorem dX9_rider_184 : decode cX9_rider 184 = .ok (.invokevirtual 162, 3) := by decide +kernel
theorem dX9_rider_187 : decode cX9_rider 187 = .ok (.istore 5, 2) := by decide +kernel
theorem dX9_rider_189 : decode cX9_rider 189 = .ok (.aload_n 0, 1) := by decide +kernel
theorem dX9_rider_190 : decode cX9_rider 190 = .ok (.getfield 29, 3) := by decide +kernel
theorem dX9_rider_193 : decode cX9_rider 193 = .ok (.iconst 5, 1) := by decide +kernel
theorem dX9_rider_194 : decode cX9_rider 194 = .ok (.iload_n 3, 1) := by decide +kernel
theorem dX9_rider_195 : decode cX9_rider 195 = .ok (.iadd, 1) := by decide +kernel
theorem dX9_rider_196 : decode cX9_rider 196 = .ok (.iload 4, 2) := by decide +kernel
theorem dX9_rider_198 : decode cX9_rider 198 = .ok (.ifCond .eq 9, 3) := by decide +kernel
theorem dX9_rider_201 : decode cX9_rider 201 = .ok (.iload 5, 2) := by decide +kernel
theorem dX9_rider_203 : decode cX9_rider 203 = .ok (.ineg, 1) := by decide +kernel
theorem dX9_rider_204 : decode cX9_rider 204 = .ok (.goto 5, 3) := by decide +kernel
theorem dX9_rider_207 : decode cX9_rider 207 = .ok (.iload 5, 2) := by decide +kernel
theorem dX9_rider_209 : decode cX9_rider 209 = .ok (.iastore, 1) := by decide +kernel
theorem dX9_rider_210 : decode cX9_rider 210 = .ok (.aload_n 0, 1) := by decide +kernel
theorem dX9_rider_211 : decode cX9_rider 211 = .ok (.aload_n 0, 1) := by decide +kernel
theorem dX9_rider_212 : decode cX9_rider 212 = .ok (.getfield 142, 3) := by decide +kernel
theorem dX9_rider_215 : decode cX9_rider 215 = .ok (.iconst 4, 1) := by decide +kernel
theorem dX9_rider_216 : decode cX9_rider 216 = .ok (.if_icmp .ne 7, 3) := by decide +kernel
theorem dX9_rider_219 : decode cX9_rider 219 = .ok (.iconst 1, 1) := by decide +kernel
theorem dX9_rider_220 : decode cX9_rider 220 = .ok (.goto 4, 3) := by decide +kernel
theorem dX9_rider_223 : decode cX9_rider 223 = .ok (.iconst 0, 1) := by decide +kernel
theorem dX9_rider_224 : decode cX9_rider 224 = .ok (.invokevirtual 162, 3) := by decide +kernel
theorem dX9_rider_227 : decode cX9_rider 227 = .ok (.pop, 1) := by decide +kernel
theorem dX9_rider_228 : decode cX9_rider 228 = .ok (.iinc 2 1, 3) := by decide +kernel
theorem dX9_rider_231 : decode cX9_rider 231 = .ok (.goto (-175), 3) := by decide +kernel
theorem dX9_rider_234 : decode cX9_rider 234 = .ok (.aload_n 0, 1) := by decide +kernel
theorem dX9_rider_235 : decode cX9_rider 235 = .ok (.invokevirtual 155, 3) := by decide +kernel
theorem dX9_rider_238 : decode cX9_rider 238 = .ok (.ifCond .ne 11, 3) := by decide +kernel
theorem dX9_rider_241 : decode cX9_rider 241 = .ok (.bipush (-10), 2) := by decide +kernel
theorem dX9_rider_243 : decode cX9_rider 243 = .ok (.aload_n 0, 1) := by decide +kernel
theorem dX9_rider_244 : decode cX9_rider 244 = .ok (.getfield 152, 3) := by decide +kernel
theorem dX9_rider_247 : decode cX9_rider 247 = .ok (.isub, 1) := by decide +kernel
theorem dX9_rider_248 : decode cX9_rider 248 = .ok (.ireturn, 1) := by decide +kernel
theorem dX9_rider_249 : decode cX9_rider 249 = .ok (.iconst 0, 1) := by decide +kernel
theorem dX9_rider_250 : decode cX9_rider 250 = .ok (.istore_n 3, 1) := by decide +kernel
theorem dX9_rider_251 : decode cX9_rider 251 = .ok (.iload_n 3, 1) := by decide +kernel
theorem dX9_rider_252 : decode cX9_rider 252 = .ok (.iconst 5, 1) := by decide +kernel
theorem dX9_rider_253 : decode cX9_rider 253 = .ok (.if_icmp .ge 23, 3) := by decide +kernel
theorem dX9_rider_256 : decode cX9_rider 256 = .ok (.aload_n 0, 1) := by decide +kernel
theorem dX9_rider_257 : decode cX9_rider 257 = .ok (.getfield 29, 3) := by decide +kernel
theorem dX9_rider_260 : decode cX9_rider 260 = .ok (.iload_n 3, 1) := by decide +kernel
theorem dX9_rider_261 : decode cX9_rider 261 = .ok (.aload_n 0, 1) := by decide +kernel
theorem dX9_rider_262 : decode cX9_rider 262 = .ok (.getfield 29, 3) := by decide +kernel
theorem dX9_rider_265 : decode cX9_rider 265 = .ok (.iconst 5, 1) := by decide +kernel
theorem dX9_rider_266 : decode cX9_rider 266 = .ok (.iload_n 3, 1) := by decide +kernel
theorem dX9_rider_267 : decode cX9_rider 267 = .ok (.iadd, 1) := by decide +kernel
theorem dX9_rider_268 : decode cX9_rider 268 = .ok (.iaload, 1) := by decide +kernel
theorem dX9_rider_269 : decode cX9_rider 269 = .ok (.iastore, 1) := by decide +kernel
theorem dX9_rider_270 : decode cX9_rider 270 = .ok (.iinc 3 1, 3) := by decide +kernel
theorem dX9_rider_273 : decode cX9_rider 273 = .ok (.goto (-22), 3) := by decide +kernel
theorem dX9_rider_276 : decode cX9_rider 276 = .ok (.aload_n 0, 1) := by decide +kernel
theorem dX9_rider_277 : decode cX9_rider 277 = .ok (.iload_n 2, 1) := by decide +kernel
theorem dX9_rider_278 : decode cX9_rider 278 = .ok (.putfield 166, 3) := by decide +kernel
theorem dX9_rider_281 : decode cX9_rider 281 = .ok (.aload_n 0, 1) := by decide +kernel
theorem dX9_rider_282 : decode cX9_rider 282 = .ok (.iconst 0, 1) := by decide +kernel
theorem dX9_rider_283 : decode cX9_rider 283 = .ok (.putfield 120, 3) := by decide +kernel
theorem dX9_rider_286 : decode cX9_rider 286 = .ok (.aload_n 0, 1) := by decide +kernel
theorem dX9_rider_287 : decode cX9_rider 287 = .ok (.getfield 166, 3) := by decide +kernel
theorem dX9_rider_290 : decode cX9_rider 290 = .ok (.ireturn, 1) := by decide +kernel
theorem dX9_sets_0 : decode cX9_sets 0 = .ok (.iconst 0, 1) := by decide +kernel
theorem dX9_sets_1 : decode cX9_sets 1 = .ok (.istore 4, 2) := by decide +kernel
theorem dX9_sets_3 : decode cX9_sets 3 = .ok (.iload 4, 2) := by decide +kernel
theorem dX9_sets_5 : decode cX9_sets 5 = .ok (.bipush 25, 2) := by decide +kernel
theorem dX9_sets_7 : decode cX9_sets 7 = .ok (.if_icmp .ge 17, 3) := by decide +kernel
theorem dX9_sets_10 : decode cX9_sets 10 = .ok (.aload_n 0, 1) := by decide +kernel
theorem dX9_sets_11 : decode cX9_sets 11 = .ok (.getfield 16, 3) := by decide +kernel
theorem dX9_sets_14 : decode cX9_sets 14 = .ok (.iload 4, 2) := by decide +kernel
theorem dX9_sets_16 : decode cX9_sets 16 = .ok (.iconst 0, 1) := by decide +kernel
theorem dX9_sets_17 : decode cX9_sets 17 = .ok (.iastore, 1) := by decide +kernel
theorem dX9_sets_18 : decode cX9_sets 18 = .ok (.iinc 4 1, 3) := by decide +kernel
theorem dX9_sets_21 : decode cX9_sets 21 = .ok (.goto (-18), 3) := by decide +kernel
theorem dX9_sets_24 : decode cX9_sets 24 = .ok (.aload_n 0, 1) := by decide +kernel
theorem dX9_sets_25 : decode cX9_sets 25 = .ok (.getfield 16, 3) := by decide +kernel
theorem dX9_sets_28 : decode cX9_sets 28 = .ok (.iconst 0, 1) := by decide +kernel
theorem dX9_sets_29 : decode cX9_sets 29 = .ok (.iload_n 1, 1) := by decide +kernel
theorem dX9_sets_30 : decode cX9_sets 30 = .ok (.iastore, 1) := by decide +kernel
theorem dX9_sets_31 : decode cX9_sets 31 = .ok (.aload_n 0, 1) := by decide +kernel
theorem dX9_sets_32 : decode cX9_sets 32 = .ok (.getfield 16, 3) := by decide +kernel
theorem dX9_sets_35 : decode cX9_sets 35 = .ok (.iconst 1, 1) := by decide +kernel
theorem dX9_sets_36 : decode cX9_sets 36 = .ok (.iload_n 2, 1) := by decide +kernel
theorem dX9_sets_37 : decode cX9_sets 37 = .ok (.iastore, 1) := by decide +kernel
theorem dX9_sets_38 : decode cX9_sets 38 = .ok (.aload_n 0, 1) := by decide +kernel
theorem dX9_sets_39 : decode cX9_sets 39 = .ok (.getfield 16, 3) := by decide +kernel
theorem dX9_sets_42 : decode cX9_sets 42 = .ok (.iconst 2, 1) := by decide +kernel
theorem dX9_sets_43 : decode cX9_sets 43 = .ok (.iload_n 3, 1) := by decide +kernel
theorem dX9_sets_44 : decode cX9_sets 44 = .ok (.iastore, 1) := by decide +kernel
theorem dX9_sets_45 : decode cX9_sets 45 = .ok (.return_, 1) := by decide +kernel
set_option maxRecDepth 20000 in
theorem ggX9_ride_X9_isBicycle : GoodIn wsX9_ride wsX9_isBicycle := goodIn_r _ [6, 7, 8, 5, 9] (by decide +kernel) (by decide +kernel)
set_option maxRecDepth 20000 in
theorem gX9_ride_X9_isBicycle : GoodIn wsX9_ride (va_wsS RX9 59 yX9_isBicycle wsX9_isBicycle) := goodIn_app (goodIn_of _ (by decide +kernel)) ggX9_ride_X9_isBicycle
set_option maxRecDepth 20000 in
theorem ggX9_ride_X9_in : GoodIn wsX9_ride wsX9_in := goodIn_r _ [9] (by decide +kernel) (by decide +kernel)
set_option maxRecDepth 20000 in
theorem gX9_ride_X9_in : GoodIn wsX9_ride (va_wsS RX9 51 yX9_in wsX9_in) := goodIn_app (goodIn_of _ (by decide +kernel)) ggX9_ride_X9_in
set_option maxRecDepth 20000 in
theorem ggX9_ride_X9_sets : GoodIn wsX9_ride wsX9_sets := goodIn_r _ [13, 2, 14, 15, 16, 17, 18, 19, 20, 21, 22, 23, 24, 25, 26, 27, 28, 29, 30, 31, 32, 33, 34] (by decide +kernel) (by decide +kernel)
set_option maxRecDepth 20000 in
theorem gX9_ride_X9_sets : GoodIn wsX9_ride (wsV RX9 169 RX9 yX9_sets wsX9_sets) := goodIn_app (goodIn_of _ (by decide +kernel)) ggX9_ride_X9_sets
theorem dX9_ride_0 : decode cX9_ride 0 = .ok (.aload_n 0, 1) := by decide +kernel
theorem dX9_ride_1 : decode cX9_ride 1 = .ok (.iconst 0, 1) := by decide +kernel
theorem dX9_ride_2 : decode cX9_ride 2 = .ok (.putfield 48, 3) := by decide +kernel
theorem dX9_ride_5 : decode cX9_ride 5 = .ok (.iload_n 1, 1) := by decide +kernel
theorem dX9_ride_6 : decode cX9_ride 6 = .ok (.invokestatic 59, 3) := by decide +kernel
theorem dX9_ride_9 : decode cX9_ride 9 = .ok (.ifCond .eq 22, 3) := by decide +kernel
theorem dX9_ride_12 : decode cX9_ride 12 = .ok (.iload_n 2, 1) := by decide +kernel
theorem dX9_ride_13 : decode cX9_ride 13 = .ok (.iconst 0, 1) := by decide +kernel
theorem dX9_ride_14 : decode cX9_ride 14 = .ok (.bipush 40, 2) := by decide +kernel
theorem dX9_ride_16 : decode cX9_ride 16 = .ok (.invokestatic 51, 3) := by decide +kernel
theorem dX9_ride_19 : decode cX9_ride 19 = .ok (.ifCond .eq 12, 3) := by decide +kernel
theorem dX9_ride_22 : decode cX9_ride 22 = .ok (.iload_n 3, 1) := by decide +kernel
theorem dX9_ride_23 : decode cX9_ride 23 = .ok (.iconst 0, 1) := by decide +kernel
theorem dX9_ride_24 : decode cX9_ride 24 = .ok (.iconst 1, 1) := by decide +kernel
theorem dX9_ride_25 : decode cX9_ride 25 = .ok (.invokestatic 51, 3) := by decide +kernel
theorem dX9_ride_28 : decode cX9_ride 28 = .ok (.ifCond .ne 5, 3) := by decide +kernel
theorem dX9_ride_31 : decode cX9_ride 31 = .ok (.iconst (-1), 1) := by decide +kernel
theorem dX9_ride_32 : decode cX9_ride 32 = .ok (.ireturn, 1) := by decide +kernel
theorem dX9_ride_33 : decode cX9_ride 33 = .ok (.aload_n 0, 1) := by decide +kernel
theorem dX9_ride_34 : decode cX9_ride 34 = .ok (.getfield 16, 3) := by decide +kernel
theorem dX9_ride_37 : decode cX9_ride 37 = .ok (.bipush 7, 2) := by decide +kernel
theorem dX9_ride_39 : decode cX9_ride 39 = .ok (.iaload, 1) := by decide +kernel
theorem dX9_ride_40 : decode cX9_ride 40 = .ok (.istore 4, 2) := by decide +kernel
theorem dX9_ride_42 : decode cX9_ride 42 = .ok (.aload_n 0, 1) := by decide +kernel
theorem dX9_ride_43 : decode cX9_ride 43 = .ok (.iload_n 1, 1) := by decide +kernel
theorem dX9_ride_44 : decode cX9_ride 44 = .ok (.iload_n 2, 1) := by decide +kernel
theorem dX9_ride_45 : decode cX9_ride 45 = .ok (.iload_n 3, 1) := by decide +kernel
theorem dX9_ride_46 : decode cX9_ride 46 = .ok (.invokevirtual 169, 3) := by decide +kernel
theorem dX9_ride_49 : decode cX9_ride 49 = .ok (.iload 4, 2) := by decide +kernel
theorem dX9_ride_51 : decode cX9_ride 51 = .ok (.ireturn, 1) := by decide +kernel
set_option maxRecDepth 20000 in
theorem ggX9_push_X9_in : GoodIn wsX9_push wsX9_in := goodIn_r _ [7] (by decide +kernel) (by decide +kernel)
set_option maxRecDepth 20000 in
theorem gX9_push_X9_in : GoodIn wsX9_push (va_wsS RX9 51 yX9_in wsX9_in) := goodIn_app (goodIn_of _ (by decide +kernel)) ggX9_push_X9_in
theorem dX9_push_0 : decode cX9_push 0 = .ok (.aload_n 0, 1) := by decide +kernel
theorem dX9_push_1 : decode cX9_push 1 = .ok (.iconst 0, 1) := by decide +kernel
theorem dX9_push_2 : decode cX9_push 2 = .ok (.putfield 48, 3) := by decide +kernel
theorem dX9_push_5 : decode cX9_push 5 = .ok (.iload_n 1, 1) := by decide +kernel
theorem dX9_push_6 : decode cX9_push 6 = .ok (.sipush (-1000), 3) := by decide +kernel
theorem dX9_push_9 : decode cX9_push 9 = .ok (.sipush 1000, 3) := by decide +kernel
theorem dX9_push_12 : decode cX9_push 12 = .ok (.invokestatic 51, 3) := by decide +kernel
theorem dX9_push_15 : decode cX9_push 15 = .ok (.ifCond .eq 14, 3) := by decide +kernel
theorem dX9_push_18 : decode cX9_push 18 = .ok (.aload_n 0, 1) := by decide +kernel
theorem dX9_push_19 : decode cX9_push 19 = .ok (.getfield 16, 3) := by decide +kernel
theorem dX9_push_22 : decode cX9_push 22 = .ok (.bipush 8, 2) := by decide +kernel
theorem dX9_push_24 : decode cX9_push 24 = .ok (.iaload, 1) := by decide +kernel
theorem dX9_push_25 : decode cX9_push 25 = .ok (.iconst 1, 1) := by decide +kernel
theorem dX9_push_26 : decode cX9_push 26 = .ok (.if_icmp .ne 6, 3) := by decide +kernel
theorem dX9_push_29 : decode cX9_push 29 = .ok (.ldc 70, 2) := by decide +kernel
theorem dX9_push_31 : decode cX9_push 31 = .ok (.ireturn, 1) := by decide +kernel
theorem dX9_push_32 : decode cX9_push 32 = .ok (.aload_n 0, 1) := by decide +kernel
theorem dX9_push_33 : decode cX9_push 33 = .ok (.getfield 16, 3) := by decide +kernel
theorem dX9_push_36 : decode cX9_push 36 = .ok (.iconst 3, 1) := by decide +kernel
theorem dX9_push_37 : decode cX9_push 37 = .ok (.dup2, 1) := by decide +kernel
theorem dX9_push_38 : decode cX9_push 38 = .ok (.iaload, 1) := by decide +kernel
theorem dX9_push_39 : decode cX9_push 39 = .ok (.iload_n 1, 1) := by decide +kernel
theorem dX9_push_40 : decode cX9_push 40 = .ok (.iadd, 1) := by decide +kernel
theorem dX9_push_41 : decode cX9_push 41 = .ok (.iastore, 1) := by decide +kernel
theorem dX9_push_42 : decode cX9_push 42 = .ok (.aload_n 0, 1) := by decide +kernel
theorem dX9_push_43 : decode cX9_push 43 = .ok (.getfield 16, 3) := by decide +kernel
theorem dX9_push_46 : decode cX9_push 46 = .ok (.bipush 8, 2) := by decide +kernel
theorem dX9_push_48 : decode cX9_push 48 = .ok (.aload_n 0, 1) := by decide +kernel
theorem dX9_push_49 : decode cX9_push 49 = .ok (.getfield 16, 3) := by decide +kernel
theorem dX9_push_52 : decode cX9_push 52 = .ok (.iconst 3, 1) := by decide +kernel
theorem dX9_push_53 : decode cX9_push 53 = .ok (.iaload, 1) := by decide +kernel
theorem dX9_push_54 : decode cX9_push 54 = .ok (.sipush 1000, 3) := by decide +kernel
theorem dX9_push_57 : decode cX9_push 57 = .ok (.if_icmp .gt 15, 3) := by decide +kernel
theorem dX9_push_60 : decode cX9_push 60 = .ok (.aload_n 0, 1) := by decide +kernel
theorem dX9_push_61 : decode cX9_push 61 = .ok (.getfield 16, 3) := by decide +kernel
theorem dX9_push_64 : decode cX9_push 64 = .ok (.iconst 3, 1) := by decide +kernel
theorem dX9_push_65 : decode cX9_push 65 = .ok (.iaload, 1) := by decide +kernel
theorem dX9_push_66 : decode cX9_push 66 = .ok (.sipush (-1000), 3) := by decide +kernel
theorem dX9_push_69 : decode cX9_push 69 = .ok (.if_icmp .ge 7, 3) := by decide +kernel
theorem dX9_push_72 : decode cX9_push 72 = .ok (.iconst 1, 1) := by decide +kernel
theorem dX9_push_73 : decode cX9_push 73 = .ok (.goto 4, 3) := by decide +kernel
theorem dX9_push_76 : decode cX9_push 76 = .ok (.iconst 0, 1) := by decide +kernel
theorem dX9_push_77 : decode cX9_push 77 = .ok (.iastore, 1) := by decide +kernel
theorem dX9_push_78 : decode cX9_push 78 = .ok (.aload_n 0, 1) := by decide +kernel
theorem dX9_push_79 : decode cX9_push 79 = .ok (.getfield 16, 3) := by decide +kernel
theorem dX9_push_82 : decode cX9_push 82 = .ok (.iconst 3, 1) := by decide +kernel
theorem dX9_push_83 : decode cX9_push 83 = .ok (.iaload, 1) := by decide +kernel
theorem dX9_push_84 : decode cX9_push 84 = .ok (.ireturn, 1) := by decide +kernel
theorem dX9_within_0 : decode cX9_within 0 = .ok (.iload_n 0, 1) := by decide +kernel
theorem dX9_within_1 : decode cX9_within 1 = .ok (.iload_n 1, 1) := by decide +kernel
theorem dX9_within_2 : decode cX9_within 2 = .ok (.if_icmp .le 7, 3) := by decide +kernel
theorem dX9_within_5 : decode cX9_within 5 = .ok (.iload_n 1, 1) := by decide +kernel
theorem dX9_within_6 : decode cX9_within 6 = .ok (.goto 15, 3) := by decide +kernel
theorem dX9_within_9 : decode cX9_within 9 = .ok (.iload_n 0, 1) := by decide +kernel
theorem dX9_within_10 : decode cX9_within 10 = .ok (.iload_n 1, 1) := by decide +kernel
theorem dX9_within_11 : decode cX9_within 11 = .ok (.ineg, 1) := by decide +kernel
theorem dX9_within_12 : decode cX9_within 12 = .ok (.if_icmp .ge 8, 3) := by decide +kernel
theorem dX9_within_15 : decode cX9_within 15 = .ok (.iload_n 1, 1) := by decide +kernel
theorem dX9_within_16 : decode cX9_within 16 = .ok (.ineg, 1) := by decide +kernel
theorem dX9_within_17 : decode cX9_within 17 = .ok (.goto 4, 3) := by decide +kernel
theorem dX9_within_20 : decode cX9_within 20 = .ok (.iload_n 0, 1) := by decide +kernel
theorem dX9_within_21 : decode cX9_within 21 = .ok (.ireturn, 1) := by decide +kernel
set_option maxRecDepth 20000 in
theorem ggX9_tick_X9_takes : GoodIn wsX9_tick wsX9_takes := goodIn_r _ [9, 3, 10, 14, 15, 16, 17, 18, 19, 20, 21, 22, 23, 24, 25, 26, 27, 28, 29, 30, 31, 32, 33, 34] (by decide +kernel) (by decide +kernel)
set_option maxRecDepth 20000 in
theorem gX9_tick_X9_takes : GoodIn wsX9_tick (wsV RX9 85 RX9 yX9_takes wsX9_takes) := goodIn_app (goodIn_of _ (by decide +kernel)) ggX9_tick_X9_takes
set_option maxRecDepth 20000 in
theorem ggX9_tick_X9_within : GoodIn wsX9_tick wsX9_within := goodIn_r _ [13] (by decide +kernel) (by decide +kernel)
set_option maxRecDepth 20000 in
theorem gX9_tick_X9_within : GoodIn wsX9_tick (va_wsS RX9 174 yX9_within wsX9_within) := goodIn_app (goodIn_of _ (by decide +kernel)) ggX9_tick_X9_within
theorem dX9_tick_0 : decode cX9_tick 0 = .ok (.aload_n 0, 1) := by decide +kernel
theorem dX9_tick_1 : decode cX9_tick 1 = .ok (.aload_n 0, 1) := by decide +kernel
theorem dX9_tick_2 : decode cX9_tick 2 = .ok (.getfield 16, 3) := by decide +kernel
theorem dX9_tick_5 : decode cX9_tick 5 = .ok (.iconst 0, 1) := by decide +kernel
