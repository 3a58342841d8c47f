theorem dX10_reason_53 : decode cX10_reason 53 = .ok (.if_icmp .le 7, 3) := by decide +kernel
theorem dX10_reason_56 : decode cX10_reason 56 = .ok (.iconst 1, 1) := by decide +kernel
theorem dX10_reason_57 : decode cX10_reason 57 = .ok (.goto 4, 3) := by decide +kernel
theorem dX10_reason_60 : decode cX10_reason 60 = .ok (.iconst 0, 1) := by decide +kernel
theorem dX10_reason_61 : decode cX10_reason 61 = .ok (.istore 4, 2) := by decide +kernel
theorem dX10_reason_63 : decode cX10_reason 63 = .ok (.iload 5, 2) := by decide +kernel
theorem dX10_reason_65 : decode cX10_reason 65 = .ok (.ifCond .ne 24, 3) := by decide +kernel
theorem dX10_reason_68 : decode cX10_reason 68 = .ok (.aload_n 0, 1) := by decide +kernel
theorem dX10_reason_69 : decode cX10_reason 69 = .ok (.iload_n 3, 1) := by decide +kernel
theorem dX10_reason_70 : decode cX10_reason 70 = .ok (.iload 6, 2) := by decide +kernel
theorem dX10_reason_72 : decode cX10_reason 72 = .ok (.iadd, 1) := by decide +kernel
theorem dX10_reason_73 : decode cX10_reason 73 = .ok (.invokevirtual 179, 3) := by decide +kernel
theorem dX10_reason_76 : decode cX10_reason 76 = .ok (.ifCond .eq 17, 3) := by decide +kernel
theorem dX10_reason_79 : decode cX10_reason 79 = .ok (.aload_n 0, 1) := by decide +kernel
theorem dX10_reason_80 : decode cX10_reason 80 = .ok (.iload_n 2, 1) := by decide +kernel
theorem dX10_reason_81 : decode cX10_reason 81 = .ok (.iload 6, 2) := by decide +kernel
theorem dX10_reason_83 : decode cX10_reason 83 = .ok (.invokevirtual 182, 3) := by decide +kernel
theorem dX10_reason_86 : decode cX10_reason 86 = .ok (.ifCond .ne 7, 3) := by decide +kernel
theorem dX10_reason_89 : decode cX10_reason 89 = .ok (.iconst 1, 1) := by decide +kernel
theorem dX10_reason_90 : decode cX10_reason 90 = .ok (.goto 4, 3) := by decide +kernel
theorem dX10_reason_93 : decode cX10_reason 93 = .ok (.iconst 0, 1) := by decide +kernel
theorem dX10_reason_94 : decode cX10_reason 94 = .ok (.istore 5, 2) := by decide +kernel
theorem dX10_reason_96 : decode cX10_reason 96 = .ok (.iinc 6 1, 3) := by decide +kernel
theorem dX10_reason_99 : decode cX10_reason 99 = .ok (.goto (-79), 3) := by decide +kernel
theorem dX10_reason_102 : decode cX10_reason 102 = .ok (.iload 4, 2) := by decide +kernel
theorem dX10_reason_104 : decode cX10_reason 104 = .ok (.ifCond .ne 8, 3) := by decide +kernel
theorem dX10_reason_107 : decode cX10_reason 107 = .ok (.iload 5, 2) := by decide +kernel
theorem dX10_reason_109 : decode cX10_reason 109 = .ok (.ifCond .eq 14, 3) := by decide +kernel
theorem dX10_reason_112 : decode cX10_reason 112 = .ok (.iload 4, 2) := by decide +kernel
theorem dX10_reason_114 : decode cX10_reason 114 = .ok (.ifCond .eq 7, 3) := by decide +kernel
theorem dX10_reason_117 : decode cX10_reason 117 = .ok (.iconst 4, 1) := by decide +kernel
theorem dX10_reason_118 : decode cX10_reason 118 = .ok (.goto 4, 3) := by decide +kernel
theorem dX10_reason_121 : decode cX10_reason 121 = .ok (.iconst 5, 1) := by decide +kernel
theorem dX10_reason_122 : decode cX10_reason 122 = .ok (.ireturn, 1) := by decide +kernel
theorem dX10_reason_123 : decode cX10_reason 123 = .ok (.iconst (-1), 1) := by decide +kernel
theorem dX10_reason_124 : decode cX10_reason 124 = .ok (.istore 6, 2) := by decide +kernel
theorem dX10_reason_126 : decode cX10_reason 126 = .ok (.iconst 0, 1) := by decide +kernel
theorem dX10_reason_127 : decode cX10_reason 127 = .ok (.istore 7, 2) := by decide +kernel
theorem dX10_reason_129 : decode cX10_reason 129 = .ok (.iload 7, 2) := by decide +kernel
theorem dX10_reason_131 : decode cX10_reason 131 = .ok (.aload_n 0, 1) := by decide +kernel
theorem dX10_reason_132 : decode cX10_reason 132 = .ok (.iload_n 2, 1) := by decide +kernel
theorem dX10_reason_133 : decode cX10_reason 133 = .ok (.invokevirtual 89, 3) := by decide +kernel
theorem dX10_reason_136 : decode cX10_reason 136 = .ok (.if_icmp .ge 50, 3) := by decide +kernel
theorem dX10_reason_139 : decode cX10_reason 139 = .ok (.aload_n 0, 1) := by decide +kernel
theorem dX10_reason_140 : decode cX10_reason 140 = .ok (.iload_n 2, 1) := by decide +kernel
theorem dX10_reason_141 : decode cX10_reason 141 = .ok (.iload 7, 2) := by decide +kernel
theorem dX10_reason_143 : decode cX10_reason 143 = .ok (.invokevirtual 92, 3) := by decide +kernel
theorem dX10_reason_146 : decode cX10_reason 146 = .ok (.istore 8, 2) := by decide +kernel
theorem dX10_reason_148 : decode cX10_reason 148 = .ok (.iload 8, 2) := by decide +kernel
theorem dX10_reason_150 : decode cX10_reason 150 = .ok (.bipush 100, 2) := by decide +kernel
theorem dX10_reason_152 : decode cX10_reason 152 = .ok (.if_icmp .ge 28, 3) := by decide +kernel
theorem dX10_reason_155 : decode cX10_reason 155 = .ok (.aload_n 0, 1) := by decide +kernel
theorem dX10_reason_156 : decode cX10_reason 156 = .ok (.iload_n 3, 1) := by decide +kernel
theorem dX10_reason_157 : decode cX10_reason 157 = .ok (.iload 8, 2) := by decide +kernel
theorem dX10_reason_159 : decode cX10_reason 159 = .ok (.iadd, 1) := by decide +kernel
theorem dX10_reason_160 : decode cX10_reason 160 = .ok (.invokevirtual 179, 3) := by decide +kernel
theorem dX10_reason_163 : decode cX10_reason 163 = .ok (.ifCond .eq 17, 3) := by decide +kernel
theorem dX10_reason_166 : decode cX10_reason 166 = .ok (.iload 8, 2) := by decide +kernel
theorem dX10_reason_168 : decode cX10_reason 168 = .ok (.iload 6, 2) := by decide +kernel
theorem dX10_reason_170 : decode cX10_reason 170 = .ok (.if_icmp .ge 6, 3) := by decide +kernel
theorem dX10_reason_173 : decode cX10_reason 173 = .ok (.bipush 6, 2) := by decide +kernel
theorem dX10_reason_175 : decode cX10_reason 175 = .ok (.ireturn, 1) := by decide +kernel
theorem dX10_reason_176 : decode cX10_reason 176 = .ok (.iload 8, 2) := by decide +kernel
theorem dX10_reason_178 : decode cX10_reason 178 = .ok (.istore 6, 2) := by decide +kernel
theorem dX10_reason_180 : decode cX10_reason 180 = .ok (.iinc 7 1, 3) := by decide +kernel
theorem dX10_reason_183 : decode cX10_reason 183 = .ok (.goto (-54), 3) := by decide +kernel
theorem dX10_reason_186 : decode cX10_reason 186 = .ok (.aload_n 0, 1) := by decide +kernel
theorem dX10_reason_187 : decode cX10_reason 187 = .ok (.getfield 185, 3) := by decide +kernel
theorem dX10_reason_190 : decode cX10_reason 190 = .ok (.aload_n 0, 1) := by decide +kernel
theorem dX10_reason_191 : decode cX10_reason 191 = .ok (.iload_n 3, 1) := by decide +kernel
theorem dX10_reason_192 : decode cX10_reason 192 = .ok (.aload_n 0, 1) := by decide +kernel
theorem dX10_reason_193 : decode cX10_reason 193 = .ok (.getfield 170, 3) := by decide +kernel
theorem dX10_reason_196 : decode cX10_reason 196 = .ok (.invokevirtual 188, 3) := by decide +kernel
theorem dX10_reason_199 : decode cX10_reason 199 = .ok (.isub, 1) := by decide +kernel
theorem dX10_reason_200 : decode cX10_reason 200 = .ok (.aload_n 0, 1) := by decide +kernel
theorem dX10_reason_201 : decode cX10_reason 201 = .ok (.iload_n 2, 1) := by decide +kernel
theorem dX10_reason_202 : decode cX10_reason 202 = .ok (.iload_n 3, 1) := by decide +kernel
theorem dX10_reason_203 : decode cX10_reason 203 = .ok (.invokevirtual 191, 3) := by decide +kernel
theorem dX10_reason_206 : decode cX10_reason 206 = .ok (.iadd, 1) := by decide +kernel
theorem dX10_reason_207 : decode cX10_reason 207 = .ok (.bipush 30, 2) := by decide +kernel
theorem dX10_reason_209 : decode cX10_reason 209 = .ok (.if_icmp .le 8, 3) := by decide +kernel
theorem dX10_reason_212 : decode cX10_reason 212 = .ok (.bipush 7, 2) := by decide +kernel
theorem dX10_reason_214 : decode cX10_reason 214 = .ok (.goto 4, 3) := by decide +kernel
theorem dX10_reason_217 : decode cX10_reason 217 = .ok (.iconst 0, 1) := by decide +kernel
theorem dX10_reason_218 : decode cX10_reason 218 = .ok (.ireturn, 1) := by decide +kernel
theorem dX10_size_0 : decode cX10_size 0 = .ok (.aload_n 0, 1) := by decide +kernel
theorem dX10_size_1 : decode cX10_size 1 = .ok (.getfield 31, 3) := by decide +kernel
theorem dX10_size_4 : decode cX10_size 4 = .ok (.iload_n 2, 1) := by decide +kernel
theorem dX10_size_5 : decode cX10_size 5 = .ok (.iaload, 1) := by decide +kernel
theorem dX10_size_6 : decode cX10_size 6 = .ok (.aload_n 0, 1) := by decide +kernel
theorem dX10_size_7 : decode cX10_size 7 = .ok (.getfield 31, 3) := by decide +kernel
theorem dX10_size_10 : decode cX10_size 10 = .ok (.iload_n 1, 1) := by decide +kernel
theorem dX10_size_11 : decode cX10_size 11 = .ok (.iaload, 1) := by decide +kernel
theorem dX10_size_12 : decode cX10_size 12 = .ok (.isub, 1) := by decide +kernel
theorem dX10_size_13 : decode cX10_size 13 = .ok (.ireturn, 1) := by decide +kernel
set_option maxRecDepth 20000 in
theorem ggX10_sizeThen_X10_used : GoodIn wsX10_sizeThen wsX10_used := goodIn_r _ [5, 6, 7, 8, 9, 4, 10, 20, 21, 22, 23, 24, 25, 26, 27, 28, 29, 30, 31, 32, 33, 34, 35, 36, 37, 38, 39, 40, 41, 42] (by decide +kernel) (by decide +kernel)
set_option maxRecDepth 20000 in
theorem gX10_sizeThen_X10_used : GoodIn wsX10_sizeThen (wsV RX10 89 RX10 yX10_used wsX10_used) := goodIn_app (goodIn_of _ (by decide +kernel)) ggX10_sizeThen_X10_used
set_option maxRecDepth 20000 in
theorem ggX10_sizeThen_X10_entry : GoodIn wsX10_sizeThen wsX10_entry := goodIn_r _ [14, 6, 20, 21, 22, 23, 24, 25, 26, 27, 28, 29, 30, 31, 32, 33, 34, 35, 36, 37, 38, 39, 40, 41, 42] (by decide +kernel) (by decide +kernel)
set_option maxRecDepth 20000 in
theorem gX10_sizeThen_X10_entry : GoodIn wsX10_sizeThen (wsV RX10 92 RX10 yX10_entry wsX10_entry) := goodIn_app (goodIn_of _ (by decide +kernel)) ggX10_sizeThen_X10_entry
set_option maxRecDepth 20000 in
theorem ggX10_sizeThen_X10_size : GoodIn wsX10_sizeThen wsX10_size := goodIn_r _ [18, 19, 20, 21, 22, 23, 24, 25, 26, 27, 28, 29, 30, 31, 32, 33, 34, 35, 36, 37, 38, 39, 40, 41, 42] (by decide +kernel) (by decide +kernel)
set_option maxRecDepth 20000 in
theorem gX10_sizeThen_X10_size : GoodIn wsX10_sizeThen (wsV RX10 188 RX10 yX10_size wsX10_size) := goodIn_app (goodIn_of _ (by decide +kernel)) ggX10_sizeThen_X10_size
theorem dX10_sizeThen_0 : decode cX10_sizeThen 0 = .ok (.iconst 0, 1) := by decide +kernel
theorem dX10_sizeThen_1 : decode cX10_sizeThen 1 = .ok (.istore_n 3, 1) := by decide +kernel
theorem dX10_sizeThen_2 : decode cX10_sizeThen 2 = .ok (.iconst 0, 1) := by decide +kernel
theorem dX10_sizeThen_3 : decode cX10_sizeThen 3 = .ok (.istore 4, 2) := by decide +kernel
theorem dX10_sizeThen_5 : decode cX10_sizeThen 5 = .ok (.iload 4, 2) := by decide +kernel
theorem dX10_sizeThen_7 : decode cX10_sizeThen 7 = .ok (.aload_n 0, 1) := by decide +kernel
theorem dX10_sizeThen_8 : decode cX10_sizeThen 8 = .ok (.iload_n 1, 1) := by decide +kernel
theorem dX10_sizeThen_9 : decode cX10_sizeThen 9 = .ok (.invokevirtual 89, 3) := by decide +kernel
theorem dX10_sizeThen_12 : decode cX10_sizeThen 12 = .ok (.if_icmp .ge 46, 3) := by decide +kernel
theorem dX10_sizeThen_15 : decode cX10_sizeThen 15 = .ok (.aload_n 0, 1) := by decide +kernel
theorem dX10_sizeThen_16 : decode cX10_sizeThen 16 = .ok (.iload_n 1, 1) := by decide +kernel
theorem dX10_sizeThen_17 : decode cX10_sizeThen 17 = .ok (.iload 4, 2) := by decide +kernel
theorem dX10_sizeThen_19 : decode cX10_sizeThen 19 = .ok (.invokevirtual 92, 3) := by decide +kernel
theorem dX10_sizeThen_22 : decode cX10_sizeThen 22 = .ok (.istore 5, 2) := by decide +kernel
theorem dX10_sizeThen_24 : decode cX10_sizeThen 24 = .ok (.iload_n 3, 1) := by decide +kernel
theorem dX10_sizeThen_25 : decode cX10_sizeThen 25 = .ok (.iload 5, 2) := by decide +kernel
theorem dX10_sizeThen_27 : decode cX10_sizeThen 27 = .ok (.bipush 100, 2) := by decide +kernel
theorem dX10_sizeThen_29 : decode cX10_sizeThen 29 = .ok (.if_icmp .ge 20, 3) := by decide +kernel
theorem dX10_sizeThen_32 : decode cX10_sizeThen 32 = .ok (.aload_n 0, 1) := by decide +kernel
theorem dX10_sizeThen_33 : decode cX10_sizeThen 33 = .ok (.iload_n 2, 1) := by decide +kernel
theorem dX10_sizeThen_34 : decode cX10_sizeThen 34 = .ok (.iload 5, 2) := by decide +kernel
theorem dX10_sizeThen_36 : decode cX10_sizeThen 36 = .ok (.iadd, 1) := by decide +kernel
theorem dX10_sizeThen_37 : decode cX10_sizeThen 37 = .ok (.iload_n 2, 1) := by decide +kernel
theorem dX10_sizeThen_38 : decode cX10_sizeThen 38 = .ok (.iload 5, 2) := by decide +kernel
theorem dX10_sizeThen_40 : decode cX10_sizeThen 40 = .ok (.iadd, 1) := by decide +kernel
theorem dX10_sizeThen_41 : decode cX10_sizeThen 41 = .ok (.iconst 1, 1) := by decide +kernel
theorem dX10_sizeThen_42 : decode cX10_sizeThen 42 = .ok (.iadd, 1) := by decide +kernel
theorem dX10_sizeThen_43 : decode cX10_sizeThen 43 = .ok (.invokevirtual 188, 3) := by decide +kernel
theorem dX10_sizeThen_46 : decode cX10_sizeThen 46 = .ok (.goto 4, 3) := by decide +kernel
theorem dX10_sizeThen_49 : decode cX10_sizeThen 49 = .ok (.iconst 1, 1) := by decide +kernel
theorem dX10_sizeThen_50 : decode cX10_sizeThen 50 = .ok (.iadd, 1) := by decide +kernel
theorem dX10_sizeThen_51 : decode cX10_sizeThen 51 = .ok (.istore_n 3, 1) := by decide +kernel
theorem dX10_sizeThen_52 : decode cX10_sizeThen 52 = .ok (.iinc 4 1, 3) := by decide +kernel
theorem dX10_sizeThen_55 : decode cX10_sizeThen 55 = .ok (.goto (-50), 3) := by decide +kernel
theorem dX10_sizeThen_58 : decode cX10_sizeThen 58 = .ok (.iload_n 3, 1) := by decide +kernel
theorem dX10_sizeThen_59 : decode cX10_sizeThen 59 = .ok (.ireturn, 1) := by decide +kernel
set_option maxRecDepth 20000 in
theorem ggX10_becomesNew_X10_which : GoodIn wsX10_becomesNew wsX10_which := goodIn_r _ [10] (by decide +kernel) (by decide +kernel)
set_option maxRecDepth 20000 in
theorem gX10_becomesNew_X10_which : GoodIn wsX10_becomesNew (va_wsS RX10 114 yX10_which wsX10_which) := goodIn_app (goodIn_of _ (by decide +kernel)) ggX10_becomesNew_X10_which
set_option maxRecDepth 20000 in
theorem ggX10_becomesNew_X10_first : GoodIn wsX10_becomesNew wsX10_first := goodIn_r _ [14, 3, 15, 16, 9, 17, 42, 43, 44, 45, 46, 47, 48, 49, 50, 51, 52, 53, 54, 55, 56, 57, 58, 59, 60, 61, 62, 63, 64] (by decide +kernel) (by decide +kernel)
set_option maxRecDepth 20000 in
theorem gX10_becomesNew_X10_first : GoodIn wsX10_becomesNew (wsV RX10 176 RX10 yX10_first wsX10_first) := goodIn_app (goodIn_of _ (by decide +kernel)) ggX10_becomesNew_X10_first
set_option maxRecDepth 20000 in
theorem ggX10_becomesNew_X10_newOf : GoodIn wsX10_becomesNew wsX10_newOf := goodIn_r _ [21, 22, 42, 43, 44, 45, 46, 47, 48, 49, 50, 51, 52, 53, 54, 55, 56, 57, 58, 59, 60, 61, 62, 63, 64] (by decide +kernel) (by decide +kernel)
set_option maxRecDepth 20000 in
theorem gX10_becomesNew_X10_newOf : GoodIn wsX10_becomesNew (wsV RX10 86 RX10 yX10_newOf wsX10_newOf) := goodIn_app (goodIn_of _ (by decide +kernel)) ggX10_becomesNew_X10_newOf
set_option maxRecDepth 20000 in
theorem ggX10_becomesNew_X10_used : GoodIn wsX10_becomesNew wsX10_used := goodIn_r _ [26, 22, 18, 19, 20, 9, 21, 42, 43, 44, 45, 46, 47, 48, 49, 50, 51, 52, 53, 54, 55, 56, 57, 58, 59, 60, 61, 62, 63, 64] (by decide +kernel) (by decide +kernel)
set_option maxRecDepth 20000 in
theorem gX10_becomesNew_X10_used : GoodIn wsX10_becomesNew (wsV RX10 89 RX10 yX10_used wsX10_used) := goodIn_app (goodIn_of _ (by decide +kernel)) ggX10_becomesNew_X10_used
set_option maxRecDepth 20000 in
theorem ggX10_becomesNew_X10_node : GoodIn wsX10_becomesNew wsX10_node := goodIn_r _ [29] (by decide +kernel) (by decide +kernel)
set_option maxRecDepth 20000 in
theorem gX10_becomesNew_X10_node : GoodIn wsX10_becomesNew (va_wsS RX10 126 yX10_node wsX10_node) := goodIn_app (goodIn_of _ (by decide +kernel)) ggX10_becomesNew_X10_node
set_option maxRecDepth 20000 in
theorem ggX10_becomesNew_X10_sizeThen : GoodIn wsX10_becomesNew wsX10_sizeThen := goodIn_r _ [33, 23, 24, 25, 9, 26, 22, 18, 19, 20, 21, 34, 35, 36, 37, 38, 39, 40, 41, 4, 42, 43, 44, 45, 46, 47, 48, 49, 50, 51, 52, 53, 54, 55, 56, 57, 58, 59, 60, 61, 62, 63, 64] (by decide +kernel) (by decide +kernel)
set_option maxRecDepth 20000 in
theorem gX10_becomesNew_X10_sizeThen : GoodIn wsX10_becomesNew (wsV RX10 191 RX10 yX10_sizeThen wsX10_sizeThen) := goodIn_app (goodIn_of _ (by decide +kernel)) ggX10_becomesNew_X10_sizeThen
set_option maxRecDepth 20000 in
theorem ggX10_becomesNew_X10_size : GoodIn wsX10_becomesNew wsX10_size := goodIn_r _ [41, 4, 42, 43, 44, 45, 46, 47, 48, 49, 50, 51, 52, 53, 54, 55, 56, 57, 58, 59, 60, 61, 62, 63, 64] (by decide +kernel) (by decide +kernel)
set_option maxRecDepth 20000 in
theorem gX10_becomesNew_X10_size : GoodIn wsX10_becomesNew (wsV RX10 188 RX10 yX10_size wsX10_size) := goodIn_app (goodIn_of _ (by decide +kernel)) ggX10_becomesNew_X10_size
set_option maxRecDepth 20000 in
theorem ggX10_becomesNew_X10_entry : GoodIn wsX10_becomesNew wsX10_entry := goodIn_r _ [37, 22, 42, 43, 44, 45, 46, 47, 48, 49, 50, 51, 52, 53, 54, 55, 56, 57, 58, 59, 60, 61, 62, 63, 64] (by decide +kernel) (by decide +kernel)
set_option maxRecDepth 20000 in
theorem gX10_becomesNew_X10_entry : GoodIn wsX10_becomesNew (wsV RX10 92 RX10 yX10_entry wsX10_entry) := goodIn_app (goodIn_of _ (by decide +kernel)) ggX10_becomesNew_X10_entry
theorem dX10_becomesNew_0 : decode cX10_becomesNew 0 = .ok (.iload_n 1, 1) := by decide +kernel
theorem dX10_becomesNew_1 : decode cX10_becomesNew 1 = .ok (.invokestatic 114, 3) := by decide +kernel
theorem dX10_becomesNew_4 : decode cX10_becomesNew 4 = .ok (.istore_n 2, 1) := by decide +kernel
theorem dX10_becomesNew_5 : decode cX10_becomesNew 5 = .ok (.aload_n 0, 1) := by decide +kernel
theorem dX10_becomesNew_6 : decode cX10_becomesNew 6 = .ok (.iload_n 1, 1) := by decide +kernel
theorem dX10_becomesNew_7 : decode cX10_becomesNew 7 = .ok (.invokevirtual 176, 3) := by decide +kernel
theorem dX10_becomesNew_10 : decode cX10_becomesNew 10 = .ok (.istore_n 3, 1) := by decide +kernel
theorem dX10_becomesNew_11 : decode cX10_becomesNew 11 = .ok (.iconst 0, 1) := by decide +kernel
theorem dX10_becomesNew_12 : decode cX10_becomesNew 12 = .ok (.istore 4, 2) := by decide +kernel
theorem dX10_becomesNew_14 : decode cX10_becomesNew 14 = .ok (.aload_n 0, 1) := by decide +kernel
theorem dX10_becomesNew_15 : decode cX10_becomesNew 15 = .ok (.getfield 34, 3) := by decide +kernel
theorem dX10_becomesNew_18 : decode cX10_becomesNew 18 = .ok (.iload 4, 2) := by decide +kernel
theorem dX10_becomesNew_20 : decode cX10_becomesNew 20 = .ok (.iconst 4, 1) := by decide +kernel
theorem dX10_becomesNew_21 : decode cX10_becomesNew 21 = .ok (.aload_n 0, 1) := by decide +kernel
theorem dX10_becomesNew_22 : decode cX10_becomesNew 22 = .ok (.iload_n 2, 1) := by decide +kernel
theorem dX10_becomesNew_23 : decode cX10_becomesNew 23 = .ok (.invokevirtual 86, 3) := by decide +kernel
theorem dX10_becomesNew_26 : decode cX10_becomesNew 26 = .ok (.aload_n 0, 1) := by decide +kernel
theorem dX10_becomesNew_27 : decode cX10_becomesNew 27 = .ok (.iload_n 2, 1) := by decide +kernel
theorem dX10_becomesNew_28 : decode cX10_becomesNew 28 = .ok (.invokevirtual 89, 3) := by decide +kernel
theorem dX10_becomesNew_31 : decode cX10_becomesNew 31 = .ok (.invokestatic 126, 3) := by decide +kernel
theorem dX10_becomesNew_34 : decode cX10_becomesNew 34 = .ok (.iastore, 1) := by decide +kernel
theorem dX10_becomesNew_35 : decode cX10_becomesNew 35 = .ok (.iinc 4 1, 3) := by decide +kernel
theorem dX10_becomesNew_38 : decode cX10_becomesNew 38 = .ok (.aload_n 0, 1) := by decide +kernel
theorem dX10_becomesNew_39 : decode cX10_becomesNew 39 = .ok (.dup, 1) := by decide +kernel
theorem dX10_becomesNew_40 : decode cX10_becomesNew 40 = .ok (.getfield 185, 3) := by decide +kernel
theorem dX10_becomesNew_43 : decode cX10_becomesNew 43 = .ok (.aload_n 0, 1) := by decide +kernel
theorem dX10_becomesNew_44 : decode cX10_becomesNew 44 = .ok (.iload_n 2, 1) := by decide +kernel
theorem dX10_becomesNew_45 : decode cX10_becomesNew 45 = .ok (.iload_n 3, 1) := by decide +kernel
theorem dX10_becomesNew_46 : decode cX10_becomesNew 46 = .ok (.invokevirtual 191, 3) := by decide +kernel
theorem dX10_becomesNew_49 : decode cX10_becomesNew 49 = .ok (.aload_n 0, 1) := by decide +kernel
theorem dX10_becomesNew_50 : decode cX10_becomesNew 50 = .ok (.iload_n 3, 1) := by decide +kernel
theorem dX10_becomesNew_51 : decode cX10_becomesNew 51 = .ok (.aload_n 0, 1) := by decide +kernel
theorem dX10_becomesNew_52 : decode cX10_becomesNew 52 = .ok (.getfield 170, 3) := by decide +kernel
theorem dX10_becomesNew_55 : decode cX10_becomesNew 55 = .ok (.invokevirtual 188, 3) := by decide +kernel
theorem dX10_becomesNew_58 : decode cX10_becomesNew 58 = .ok (.isub, 1) := by decide +kernel
theorem dX10_becomesNew_59 : decode cX10_becomesNew 59 = .ok (.iadd, 1) := by decide +kernel
theorem dX10_becomesNew_60 : decode cX10_becomesNew 60 = .ok (.putfield 185, 3) := by decide +kernel
theorem dX10_becomesNew_63 : decode cX10_becomesNew 63 = .ok (.iconst 0, 1) := by decide +kernel
theorem dX10_becomesNew_64 : decode cX10_becomesNew 64 = .ok (.istore 5, 2) := by decide +kernel
theorem dX10_becomesNew_66 : decode cX10_becomesNew 66 = .ok (.iload 5, 2) := by decide +kernel
theorem dX10_becomesNew_68 : decode cX10_becomesNew 68 = .ok (.aload_n 0, 1) := by decide +kernel
theorem dX10_becomesNew_69 : decode cX10_becomesNew 69 = .ok (.iload_n 2, 1) := by decide +kernel
theorem dX10_becomesNew_70 : decode cX10_becomesNew 70 = .ok (.invokevirtual 89, 3) := by decide +kernel
theorem dX10_becomesNew_73 : decode cX10_becomesNew 73 = .ok (.if_icmp .ge 98, 3) := by decide +kernel
theorem dX10_becomesNew_76 : decode cX10_becomesNew 76 = .ok (.aload_n 0, 1) := by decide +kernel
theorem dX10_becomesNew_77 : decode cX10_becomesNew 77 = .ok (.iload_n 2, 1) := by decide +kernel
theorem dX10_becomesNew_78 : decode cX10_becomesNew 78 = .ok (.iload 5, 2) := by decide +kernel
theorem dX10_becomesNew_80 : decode cX10_becomesNew 80 = .ok (.invokevirtual 92, 3) := by decide +kernel
theorem dX10_becomesNew_83 : decode cX10_becomesNew 83 = .ok (.istore 6, 2) := by decide +kernel
theorem dX10_becomesNew_85 : decode cX10_becomesNew 85 = .ok (.iload 6, 2) := by decide +kernel
theorem dX10_becomesNew_87 : decode cX10_becomesNew 87 = .ok (.bipush 100, 2) := by decide +kernel
theorem dX10_becomesNew_89 : decode cX10_becomesNew 89 = .ok (.if_icmp .lt 26, 3) := by decide +kernel
theorem dX10_becomesNew_92 : decode cX10_becomesNew 92 = .ok (.aload_n 0, 1) := by decide +kernel
theorem dX10_becomesNew_93 : decode cX10_becomesNew 93 = .ok (.getfield 34, 3) := by decide +kernel
theorem dX10_becomesNew_96 : decode cX10_becomesNew 96 = .ok (.iload 4, 2) := by decide +kernel
theorem dX10_becomesNew_98 : decode cX10_becomesNew 98 = .ok (.iconst 0, 1) := by decide +kernel
theorem dX10_becomesNew_99 : decode cX10_becomesNew 99 = .ok (.iload 6, 2) := by decide +kernel
theorem dX10_becomesNew_101 : decode cX10_becomesNew 101 = .ok (.bipush 100, 2) := by decide +kernel
theorem dX10_becomesNew_103 : decode cX10_becomesNew 103 = .ok (.isub, 1) := by decide +kernel
theorem dX10_becomesNew_104 : decode cX10_becomesNew 104 = .ok (.iconst 0, 1) := by decide +kernel
theorem dX10_becomesNew_105 : decode cX10_becomesNew 105 = .ok (.invokestatic 126, 3) := by decide +kernel
theorem dX10_becomesNew_108 : decode cX10_becomesNew 108 = .ok (.iastore, 1) := by decide +kernel
theorem dX10_becomesNew_109 : decode cX10_becomesNew 109 = .ok (.iinc 4 1, 3) := by decide +kernel
theorem dX10_becomesNew_112 : decode cX10_becomesNew 112 = .ok (.goto 53, 3) := by decide +kernel
theorem dX10_becomesNew_115 : decode cX10_becomesNew 115 = .ok (.aload_n 0, 1) := by decide +kernel
theorem dX10_becomesNew_116 : decode cX10_becomesNew 116 = .ok (.getfield 31, 3) := by decide +kernel
theorem dX10_becomesNew_119 : decode cX10_becomesNew 119 = .ok (.iload_n 3, 1) := by decide +kernel
theorem dX10_becomesNew_120 : decode cX10_becomesNew 120 = .ok (.iload 6, 2) := by decide +kernel
theorem dX10_becomesNew_122 : decode cX10_becomesNew 122 = .ok (.iadd, 1) := by decide +kernel
theorem dX10_becomesNew_123 : decode cX10_becomesNew 123 = .ok (.iaload, 1) := by decide +kernel
theorem dX10_becomesNew_124 : decode cX10_becomesNew 124 = .ok (.istore 7, 2) := by decide +kernel
theorem dX10_becomesNew_126 : decode cX10_becomesNew 126 = .ok (.iload 7, 2) := by decide +kernel
theorem dX10_becomesNew_128 : decode cX10_becomesNew 128 = .ok (.aload_n 0, 1) := by decide +kernel
theorem dX10_becomesNew_129 : decode cX10_becomesNew 129 = .ok (.getfield 31, 3) := by decide +kernel
theorem dX10_becomesNew_132 : decode cX10_becomesNew 132 = .ok (.iload_n 3, 1) := by decide +kernel
theorem dX10_becomesNew_133 : decode cX10_becomesNew 133 = .ok (.iload 6, 2) := by decide +kernel
theorem dX10_becomesNew_135 : decode cX10_becomesNew 135 = .ok (.iadd, 1) := by decide +kernel
theorem dX10_becomesNew_136 : decode cX10_becomesNew 136 = .ok (.iconst 1, 1) := by decide +kernel
theorem dX10_becomesNew_137 : decode cX10_becomesNew 137 = .ok (.iadd, 1) := by decide +kernel
theorem dX10_becomesNew_138 : decode cX10_becomesNew 138 = .ok (.iaload, 1) := by decide +kernel
theorem dX10_becomesNew_139 : decode cX10_becomesNew 139 = .ok (.if_icmp .ge 26, 3) := by decide +kernel
theorem dX10_becomesNew_142 : decode cX10_becomesNew 142 = .ok (.aload_n 0, 1) := by decide +kernel
theorem dX10_becomesNew_143 : decode cX10_becomesNew 143 = .ok (.getfield 34, 3) := by decide +kernel
theorem dX10_becomesNew_146 : decode cX10_becomesNew 146 = .ok (.iload 4, 2) := by decide +kernel
theorem dX10_becomesNew_148 : decode cX10_becomesNew 148 = .ok (.aload_n 0, 1) := by decide +kernel
theorem dX10_becomesNew_149 : decode cX10_becomesNew 149 = .ok (.getfield 28, 3) := by decide +kernel
theorem dX10_becomesNew_152 : decode cX10_becomesNew 152 = .ok (.iload 7, 2) := by decide +kernel
theorem dX10_becomesNew_154 : decode cX10_becomesNew 154 = .ok (.iaload, 1) := by decide +kernel
theorem dX10_becomesNew_155 : decode cX10_becomesNew 155 = .ok (.iastore, 1) := by decide +kernel
theorem dX10_becomesNew_156 : decode cX10_becomesNew 156 = .ok (.iinc 4 1, 3) := by decide +kernel
theorem dX10_becomesNew_159 : decode cX10_becomesNew 159 = .ok (.iinc 7 1, 3) := by decide +kernel
theorem dX10_becomesNew_162 : decode cX10_becomesNew 162 = .ok (.goto (-36), 3) := by decide +kernel
theorem dX10_becomesNew_165 : decode cX10_becomesNew 165 = .ok (.iinc 5 1, 3) := by decide +kernel
theorem dX10_becomesNew_168 : decode cX10_becomesNew 168 = .ok (.goto (-102), 3) := by decide +kernel
theorem dX10_becomesNew_171 : decode cX10_becomesNew 171 = .ok (.aload_n 0, 1) := by decide +kernel
theorem dX10_becomesNew_172 : decode cX10_becomesNew 172 = .ok (.getfield 31, 3) := by decide +kernel
theorem dX10_becomesNew_175 : decode cX10_becomesNew 175 = .ok (.iload_n 3, 1) := by decide +kernel
theorem dX10_becomesNew_176 : decode cX10_becomesNew 176 = .ok (.iaload, 1) := by decide +kernel
theorem dX10_becomesNew_177 : decode cX10_becomesNew 177 = .ok (.istore 5, 2) := by decide +kernel
theorem dX10_becomesNew_179 : decode cX10_becomesNew 179 = .ok (.iconst 0, 1) := by decide +kernel
theorem dX10_becomesNew_180 : decode cX10_becomesNew 180 = .ok (.istore 6, 2) := by decide +kernel
theorem dX10_becomesNew_182 : decode cX10_becomesNew 182 = .ok (.iload 6, 2) := by decide +kernel
theorem dX10_becomesNew_184 : decode cX10_becomesNew 184 = .ok (.iload 4, 2) := by decide +kernel
theorem dX10_becomesNew_186 : decode cX10_becomesNew 186 = .ok (.if_icmp .ge 26, 3) := by decide +kernel
theorem dX10_becomesNew_189 : decode cX10_becomesNew 189 = .ok (.aload_n 0, 1) := by decide +kernel
theorem dX10_becomesNew_190 : decode cX10_becomesNew 190 = .ok (.getfield 28, 3) := by decide +kernel
theorem dX10_becomesNew_193 : decode cX10_becomesNew 193 = .ok (.iload 5, 2) := by decide +kernel
theorem dX10_becomesNew_195 : decode cX10_becomesNew 195 = .ok (.iload 6, 2) := by decide +kernel
theorem dX10_becomesNew_197 : decode cX10_becomesNew 197 = .ok (.iadd, 1) := by decide +kernel
theorem dX10_becomesNew_198 : decode cX10_becomesNew 198 = .ok (.aload_n 0, 1) := by decide +kernel
theorem dX10_becomesNew_199 : decode cX10_becomesNew 199 = .ok (.getfield 34, 3) := by decide +kernel
theorem dX10_becomesNew_202 : decode cX10_becomesNew 202 = .ok (.iload 6, 2) := by decide +kernel
theorem dX10_becomesNew_204 : decode cX10_becomesNew 204 = .ok (.iaload, 1) := by decide +kernel
theorem dX10_becomesNew_205 : decode cX10_becomesNew 205 = .ok (.iastore, 1) := by decide +kernel
theorem dX10_becomesNew_206 : decode cX10_becomesNew 206 = .ok (.iinc 6 1, 3) := by decide +kernel
theorem dX10_becomesNew_209 : decode cX10_becomesNew 209 = .ok (.goto (-27), 3) := by decide +kernel
theorem dX10_becomesNew_212 : decode cX10_becomesNew 212 = .ok (.aload_n 0, 1) := by decide +kernel
theorem dX10_becomesNew_213 : decode cX10_becomesNew 213 = .ok (.iload 5, 2) := by decide +kernel
theorem dX10_becomesNew_215 : decode cX10_becomesNew 215 = .ok (.iload 4, 2) := by decide +kernel
theorem dX10_becomesNew_217 : decode cX10_becomesNew 217 = .ok (.iadd, 1) := by decide +kernel
theorem dX10_becomesNew_218 : decode cX10_becomesNew 218 = .ok (.putfield 173, 3) := by decide +kernel
theorem dX10_becomesNew_221 : decode cX10_becomesNew 221 = .ok (.aload_n 0, 1) := by decide +kernel
theorem dX10_becomesNew_222 : decode cX10_becomesNew 222 = .ok (.iload_n 3, 1) := by decide +kernel
theorem dX10_becomesNew_223 : decode cX10_becomesNew 223 = .ok (.iconst 1, 1) := by decide +kernel
theorem dX10_becomesNew_224 : decode cX10_becomesNew 224 = .ok (.iadd, 1) := by decide +kernel
theorem dX10_becomesNew_225 : decode cX10_becomesNew 225 = .ok (.putfield 170, 3) := by decide +kernel
theorem dX10_becomesNew_228 : decode cX10_becomesNew 228 = .ok (.aload_n 0, 1) := by decide +kernel
theorem dX10_becomesNew_229 : decode cX10_becomesNew 229 = .ok (.getfield 31, 3) := by decide +kernel
theorem dX10_becomesNew_232 : decode cX10_becomesNew 232 = .ok (.aload_n 0, 1) := by decide +kernel
theorem dX10_becomesNew_233 : decode cX10_becomesNew 233 = .ok (.getfield 170, 3) := by decide +kernel
theorem dX10_becomesNew_236 : decode cX10_becomesNew 236 = .ok (.aload_n 0, 1) := by decide +kernel
theorem dX10_becomesNew_237 : decode cX10_becomesNew 237 = .ok (.getfield 173, 3) := by decide +kernel
theorem dX10_becomesNew_240 : decode cX10_becomesNew 240 = .ok (.iastore, 1) := by decide +kernel
theorem dX10_becomesNew_241 : decode cX10_becomesNew 241 = .ok (.return_, 1) := by decide +kernel
set_option maxRecDepth 20000 in
theorem ggX10_adapterFor_X10_adapter : GoodIn wsX10_adapterFor wsX10_adapter := goodIn_r _ [6, 1, 7, 8, 9, 10, 11, 12, 13, 14, 15, 16, 17, 18, 19, 20, 21, 22, 23, 24, 25, 26, 27, 28, 29] (by decide +kernel) (by decide +kernel)
set_option maxRecDepth 20000 in
theorem gX10_adapterFor_X10_adapter : GoodIn wsX10_adapterFor (wsV RX10 108 RX10 yX10_adapter wsX10_adapter) := goodIn_app (goodIn_of _ (by decide +kernel)) ggX10_adapterFor_X10_adapter
theorem dX10_adapterFor_0 : decode cX10_adapterFor 0 = .ok (.aload_n 0, 1) := by decide +kernel
theorem dX10_adapterFor_1 : decode cX10_adapterFor 1 = .ok (.iload_n 1, 1) := by decide +kernel
theorem dX10_adapterFor_2 : decode cX10_adapterFor 2 = .ok (.invokevirtual 108, 3) := by decide +kernel
theorem dX10_adapterFor_5 : decode cX10_adapterFor 5 = .ok (.istore_n 2, 1) := by decide +kernel
theorem dX10_adapterFor_6 : decode cX10_adapterFor 6 = .ok (.aload_n 0, 1) := by decide +kernel
theorem dX10_adapterFor_7 : decode cX10_adapterFor 7 = .ok (.getfield 7, 3) := by decide +kernel
theorem dX10_adapterFor_10 : decode cX10_adapterFor 10 = .ok (.sipush 147, 3) := by decide +kernel
theorem dX10_adapterFor_13 : decode cX10_adapterFor 13 = .ok (.iaload, 1) := by decide +kernel
theorem dX10_adapterFor_14 : decode cX10_adapterFor 14 = .ok (.ifCond .eq 19, 3) := by decide +kernel
theorem dX10_adapterFor_17 : decode cX10_adapterFor 17 = .ok (.iload_n 2, 1) := by decide +kernel
theorem dX10_adapterFor_18 : decode cX10_adapterFor 18 = .ok (.iconst (-1), 1) := by decide +kernel
theorem dX10_adapterFor_19 : decode cX10_adapterFor 19 = .ok (.if_icmp .ne 16, 3) := by decide +kernel
theorem dX10_adapterFor_22 : decode cX10_adapterFor 22 = .ok (.aload_n 0, 1) := by decide +kernel
theorem dX10_adapterFor_23 : decode cX10_adapterFor 23 = .ok (.getfield 7, 3) := by decide +kernel
theorem dX10_adapterFor_26 : decode cX10_adapterFor 26 = .ok (.bipush 116, 2) := by decide +kernel
theorem dX10_adapterFor_28 : decode cX10_adapterFor 28 = .ok (.iaload, 1) := by decide +kernel
theorem dX10_adapterFor_29 : decode cX10_adapterFor 29 = .ok (.iconst 4, 1) := by decide +kernel
theorem dX10_adapterFor_30 : decode cX10_adapterFor 30 = .ok (.if_icmp .ne 5, 3) := by decide +kernel
theorem dX10_adapterFor_33 : decode cX10_adapterFor 33 = .ok (.iconst (-1), 1) := by decide +kernel
theorem dX10_adapterFor_34 : decode cX10_adapterFor 34 = .ok (.ireturn, 1) := by decide +kernel
theorem dX10_adapterFor_35 : decode cX10_adapterFor 35 = .ok (.iload_n 2, 1) := by decide +kernel
theorem dX10_adapterFor_36 : decode cX10_adapterFor 36 = .ok (.iconst (-1), 1) := by decide +kernel
theorem dX10_adapterFor_37 : decode cX10_adapterFor 37 = .ok (.if_icmp .eq 5, 3) := by decide +kernel
theorem dX10_adapterFor_40 : decode cX10_adapterFor 40 = .ok (.iload_n 2, 1) := by decide +kernel
theorem dX10_adapterFor_41 : decode cX10_adapterFor 41 = .ok (.ireturn, 1) := by decide +kernel
theorem dX10_adapterFor_42 : decode cX10_adapterFor 42 = .ok (.bipush 84, 2) := by decide +kernel
theorem dX10_adapterFor_44 : decode cX10_adapterFor 44 = .ok (.bipush 8, 2) := by decide +kernel
theorem dX10_adapterFor_46 : decode cX10_adapterFor 46 = .ok (.aload_n 0, 1) := by decide +kernel
theorem dX10_adapterFor_47 : decode cX10_adapterFor 47 = .ok (.getfield 7, 3) := by decide +kernel
theorem dX10_adapterFor_50 : decode cX10_adapterFor 50 = .ok (.bipush 116, 2) := by decide +kernel
theorem dX10_adapterFor_52 : decode cX10_adapterFor 52 = .ok (.iaload, 1) := by decide +kernel
theorem dX10_adapterFor_53 : decode cX10_adapterFor 53 = .ok (.imul, 1) := by decide +kernel
theorem dX10_adapterFor_54 : decode cX10_adapterFor 54 = .ok (.iadd, 1) := by decide +kernel
theorem dX10_adapterFor_55 : decode cX10_adapterFor 55 = .ok (.istore_n 3, 1) := by decide +kernel
theorem dX10_adapterFor_56 : decode cX10_adapterFor 56 = .ok (.iconst 0, 1) := by decide +kernel
theorem dX10_adapterFor_57 : decode cX10_adapterFor 57 = .ok (.istore 4, 2) := by decide +kernel
theorem dX10_adapterFor_59 : decode cX10_adapterFor 59 = .ok (.iload 4, 2) := by decide +kernel
theorem dX10_adapterFor_61 : decode cX10_adapterFor 61 = .ok (.bipush 7, 2) := by decide +kernel
theorem dX10_adapterFor_63 : decode cX10_adapterFor 63 = .ok (.if_icmp .ge 32, 3) := by decide +kernel
theorem dX10_adapterFor_66 : decode cX10_adapterFor 66 = .ok (.aload_n 0, 1) := by decide +kernel
theorem dX10_adapterFor_67 : decode cX10_adapterFor 67 = .ok (.getfield 7, 3) := by decide +kernel
theorem dX10_adapterFor_70 : decode cX10_adapterFor 70 = .ok (.iload_n 3, 1) := by decide +kernel
theorem dX10_adapterFor_71 : decode cX10_adapterFor 71 = .ok (.iload 4, 2) := by decide +kernel
theorem dX10_adapterFor_73 : decode cX10_adapterFor 73 = .ok (.iadd, 1) := by decide +kernel
theorem dX10_adapterFor_74 : decode cX10_adapterFor 74 = .ok (.aload_n 0, 1) := by decide +kernel
theorem dX10_adapterFor_75 : decode cX10_adapterFor 75 = .ok (.getfield 7, 3) := by decide +kernel
theorem dX10_adapterFor_78 : decode cX10_adapterFor 78 = .ok (.iconst 0, 1) := by decide +kernel
theorem dX10_adapterFor_79 : decode cX10_adapterFor 79 = .ok (.bipush 7, 2) := by decide +kernel
theorem dX10_adapterFor_81 : decode cX10_adapterFor 81 = .ok (.iload_n 1, 1) := by decide +kernel
theorem dX10_adapterFor_82 : decode cX10_adapterFor 82 = .ok (.imul, 1) := by decide +kernel
theorem dX10_adapterFor_83 : decode cX10_adapterFor 83 = .ok (.iadd, 1) := by decide +kernel
theorem dX10_adapterFor_84 : decode cX10_adapterFor 84 = .ok (.iload 4, 2) := by decide +kernel
theorem dX10_adapterFor_86 : decode cX10_adapterFor 86 = .ok (.iadd, 1) := by decide +kernel
theorem dX10_adapterFor_87 : decode cX10_adapterFor 87 = .ok (.iaload, 1) := by decide +kernel
theorem dX10_adapterFor_88 : decode cX10_adapterFor 88 = .ok (.iastore, 1) := by decide +kernel
theorem dX10_adapterFor_89 : decode cX10_adapterFor 89 = .ok (.iinc 4 1, 3) := by decide +kernel
theorem dX10_adapterFor_92 : decode cX10_adapterFor 92 = .ok (.goto (-33), 3) := by decide +kernel
theorem dX10_adapterFor_95 : decode cX10_adapterFor 95 = .ok (.aload_n 0, 1) := by decide +kernel
theorem dX10_adapterFor_96 : decode cX10_adapterFor 96 = .ok (.getfield 7, 3) := by decide +kernel
theorem dX10_adapterFor_99 : decode cX10_adapterFor 99 = .ok (.iload_n 3, 1) := by decide +kernel
theorem dX10_adapterFor_100 : decode cX10_adapterFor 100 = .ok (.bipush 7, 2) := by decide +kernel
theorem dX10_adapterFor_102 : decode cX10_adapterFor 102 = .ok (.iadd, 1) := by decide +kernel
theorem dX10_adapterFor_103 : decode cX10_adapterFor 103 = .ok (.iload_n 1, 1) := by decide +kernel
theorem dX10_adapterFor_104 : decode cX10_adapterFor 104 = .ok (.iastore, 1) := by decide +kernel
theorem dX10_adapterFor_105 : decode cX10_adapterFor 105 = .ok (.aload_n 0, 1) := by decide +kernel
theorem dX10_adapterFor_106 : decode cX10_adapterFor 106 = .ok (.getfield 7, 3) := by decide +kernel
theorem dX10_adapterFor_109 : decode cX10_adapterFor 109 = .ok (.bipush 116, 2) := by decide +kernel
theorem dX10_adapterFor_111 : decode cX10_adapterFor 111 = .ok (.dup2, 1) := by decide +kernel
theorem dX10_adapterFor_112 : decode cX10_adapterFor 112 = .ok (.iaload, 1) := by decide +kernel
theorem dX10_adapterFor_113 : decode cX10_adapterFor 113 = .ok (.iconst 1, 1) := by decide +kernel
theorem dX10_adapterFor_114 : decode cX10_adapterFor 114 = .ok (.iadd, 1) := by decide +kernel
theorem dX10_adapterFor_115 : decode cX10_adapterFor 115 = .ok (.iastore, 1) := by decide +kernel
theorem dX10_adapterFor_116 : decode cX10_adapterFor 116 = .ok (.aload_n 0, 1) := by decide +kernel
theorem dX10_adapterFor_117 : decode cX10_adapterFor 117 = .ok (.getfield 7, 3) := by decide +kernel
theorem dX10_adapterFor_120 : decode cX10_adapterFor 120 = .ok (.bipush 116, 2) := by decide +kernel
theorem dX10_adapterFor_122 : decode cX10_adapterFor 122 = .ok (.iaload, 1) := by decide +kernel
theorem dX10_adapterFor_123 : decode cX10_adapterFor 123 = .ok (.iconst 1, 1) := by decide +kernel
theorem dX10_adapterFor_124 : decode cX10_adapterFor 124 = .ok (.isub, 1) := by decide +kernel
theorem dX10_adapterFor_125 : decode cX10_adapterFor 125 = .ok (.ireturn, 1) := by decide +kernel
set_option maxRecDepth 20000 in
theorem ggX10_treats_X10_which : GoodIn wsX10_treats wsX10_which := goodIn_r _ [5] (by decide +kernel) (by decide +kernel)
set_option maxRecDepth 20000 in
theorem gX10_treats_X10_which : GoodIn wsX10_treats (va_wsS RX10 114 yX10_which wsX10_which) := goodIn_app (goodIn_of _ (by decide +kernel)) ggX10_treats_X10_which
set_option maxRecDepth 20000 in
theorem ggX10_treats_X10_kind : GoodIn wsX10_treats wsX10_kind := goodIn_r _ [8] (by decide +kernel) (by decide +kernel)
set_option maxRecDepth 20000 in
theorem gX10_treats_X10_kind : GoodIn wsX10_treats (va_wsS RX10 111 yX10_kind wsX10_kind) := goodIn_app (goodIn_of _ (by decide +kernel)) ggX10_treats_X10_kind
set_option maxRecDepth 20000 in
theorem ggX10_treats_X10_putsCall : GoodIn wsX10_treats wsX10_putsCall := goodIn_r _ [12, 13, 14, 15, 16, 17, 18, 4, 19, 81, 82, 83, 84, 85, 86, 87, 88, 89, 90, 91, 92, 93, 94, 95, 96, 97, 98, 99, 100, 101, 102, 103] (by decide +kernel) (by decide +kernel)
set_option maxRecDepth 20000 in
theorem gX10_treats_X10_putsCall : GoodIn wsX10_treats (wsV RX10 194 RX10 yX10_putsCall wsX10_putsCall) := goodIn_app (goodIn_of _ (by decide +kernel)) ggX10_treats_X10_putsCall
set_option maxRecDepth 20000 in
theorem ggX10_treats_X10_arguments : GoodIn wsX10_treats wsX10_arguments := goodIn_r _ [19] (by decide +kernel) (by decide +kernel)
set_option maxRecDepth 20000 in
theorem gX10_treats_X10_arguments : GoodIn wsX10_treats (va_wsS RX10 167 yX10_arguments wsX10_arguments) := goodIn_app (goodIn_of _ (by decide +kernel)) ggX10_treats_X10_arguments
set_option maxRecDepth 20000 in
theorem ggX10_treats_X10_newOf : GoodIn wsX10_treats wsX10_newOf := goodIn_r _ [23, 1, 81, 82, 83, 84, 85, 86, 87, 88, 89, 90, 91, 92, 93, 94, 95, 96, 97, 98, 99, 100, 101, 102, 103] (by decide +kernel) (by decide +kernel)
set_option maxRecDepth 20000 in
theorem gX10_treats_X10_newOf : GoodIn wsX10_treats (wsV RX10 86 RX10 yX10_newOf wsX10_newOf) := goodIn_app (goodIn_of _ (by decide +kernel)) ggX10_treats_X10_newOf
set_option maxRecDepth 20000 in
theorem ggX10_treats_X10_isTrue : GoodIn wsX10_treats wsX10_isTrue := goodIn_r _ [27, 1, 20, 21, 22, 4, 23, 28, 29, 30, 31, 32, 33, 34, 35, 81, 82, 83, 84, 85, 86, 87, 88, 89, 90, 91, 92, 93, 94, 95, 96, 97, 98, 99, 100, 101, 102, 103] (by decide +kernel) (by decide +kernel)
set_option maxRecDepth 20000 in
theorem gX10_treats_X10_isTrue : GoodIn wsX10_treats (wsV RX10 96 RX10 yX10_isTrue wsX10_isTrue) := goodIn_app (goodIn_of _ (by decide +kernel)) ggX10_treats_X10_isTrue
set_option maxRecDepth 20000 in
theorem ggX10_treats_X10_adapterFor : GoodIn wsX10_treats wsX10_adapterFor := goodIn_r _ [39, 1, 40, 41, 42, 4, 43, 81, 82, 83, 84, 85, 86, 87, 88, 89, 90, 91, 92, 93, 94, 95, 96, 97, 98, 99, 100, 101, 102, 103] (by decide +kernel) (by decide +kernel)
set_option maxRecDepth 20000 in
theorem gX10_treats_X10_adapterFor : GoodIn wsX10_treats (wsV RX10 198 RX10 yX10_adapterFor wsX10_adapterFor) := goodIn_app (goodIn_of _ (by decide +kernel)) ggX10_treats_X10_adapterFor
set_option maxRecDepth 20000 in
theorem ggX10_treats_X10_node : GoodIn wsX10_treats wsX10_node := goodIn_r _ [46] (by decide +kernel) (by decide +kernel)
set_option maxRecDepth 20000 in
theorem gX10_treats_X10_node : GoodIn wsX10_treats (va_wsS RX10 126 yX10_node wsX10_node) := goodIn_app (goodIn_of _ (by decide +kernel)) ggX10_treats_X10_node
set_option maxRecDepth 20000 in
theorem ggX10_treats_X10_reason : GoodIn wsX10_treats wsX10_reason := goodIn_r _ [50, 51, 14, 2, 3, 4, 5, 52, 53, 54, 55, 17, 18, 19, 56, 57, 58, 59, 13, 16, 1, 6, 7, 8, 60, 61, 62, 63, 64, 65, 66, 67, 28, 29, 30, 31, 20, 21, 22, 23, 32, 33, 34, 35, 68, 69, 70, 71, 72, 73, 74, 75, 81, 82, 83, 84, 85, 86, 87, 88, 89, 90, 91, 92, 93, 94, 95, 96, 97, 98, 99, 100, 101, 102, 103] (by decide +kernel) (by decide +kernel)
set_option maxRecDepth 20000 in
theorem gX10_treats_X10_reason : GoodIn wsX10_treats (wsV RX10 201 RX10 yX10_reason wsX10_reason) := goodIn_app (goodIn_of _ (by decide +kernel)) ggX10_treats_X10_reason
set_option maxRecDepth 20000 in
theorem ggX10_treats_X10_becomesNew : GoodIn wsX10_treats wsX10_becomesNew := goodIn_r _ [79, 80, 51, 14, 13, 16, 15, 2, 3, 4, 5, 52, 53, 54, 55, 17, 18, 19, 20, 21, 22, 23, 1, 28, 29, 30, 31, 44, 45, 46, 72, 73, 74, 75, 32, 33, 34, 35, 68, 69, 70, 71, 81, 82, 83, 84, 85, 86, 87, 88, 89, 90, 91, 92, 93, 94, 95, 96, 97, 98, 99, 100, 101, 102, 103] (by decide +kernel) (by decide +kernel)
set_option maxRecDepth 20000 in
theorem gX10_treats_X10_becomesNew : GoodIn wsX10_treats (wsV RX10 204 RX10 yX10_becomesNew wsX10_becomesNew) := goodIn_app (goodIn_of _ (by decide +kernel)) ggX10_treats_X10_becomesNew
theorem dX10_treats_0 : decode cX10_treats 0 = .ok (.iload_n 1, 1) := by decide +kernel
theorem dX10_treats_1 : decode cX10_treats 1 = .ok (.invokestatic 114, 3) := by decide +kernel
theorem dX10_treats_4 : decode cX10_treats 4 = .ok (.istore_n 2, 1) := by decide +kernel
theorem dX10_treats_5 : decode cX10_treats 5 = .ok (.iload_n 1, 1) := by decide +kernel
theorem dX10_treats_6 : decode cX10_treats 6 = .ok (.invokestatic 111, 3) := by decide +kernel
theorem dX10_treats_9 : decode cX10_treats 9 = .ok (.iconst 3, 1) := by decide +kernel
theorem dX10_treats_10 : decode cX10_treats 10 = .ok (.if_icmp .eq 10, 3) := by decide +kernel
theorem dX10_treats_13 : decode cX10_treats 13 = .ok (.aload_n 0, 1) := by decide +kernel
theorem dX10_treats_14 : decode cX10_treats 14 = .ok (.iload_n 1, 1) := by decide +kernel
theorem dX10_treats_15 : decode cX10_treats 15 = .ok (.invokevirtual 194, 3) := by decide +kernel
theorem dX10_treats_18 : decode cX10_treats 18 = .ok (.iconst 0, 1) := by decide +kernel
theorem dX10_treats_19 : decode cX10_treats 19 = .ok (.ireturn, 1) := by decide +kernel
theorem dX10_treats_20 : decode cX10_treats 20 = .ok (.iconst 1, 1) := by decide +kernel
theorem dX10_treats_21 : decode cX10_treats 21 = .ok (.istore_n 3, 1) := by decide +kernel
theorem dX10_treats_22 : decode cX10_treats 22 = .ok (.iload_n 1, 1) := by decide +kernel
theorem dX10_treats_23 : decode cX10_treats 23 = .ok (.invokestatic 167, 3) := by decide +kernel
theorem dX10_treats_26 : decode cX10_treats 26 = .ok (.aload_n 0, 1) := by decide +kernel
theorem dX10_treats_27 : decode cX10_treats 27 = .ok (.getfield 7, 3) := by decide +kernel
theorem dX10_treats_30 : decode cX10_treats 30 = .ok (.iconst 0, 1) := by decide +kernel
theorem dX10_treats_31 : decode cX10_treats 31 = .ok (.bipush 7, 2) := by decide +kernel
theorem dX10_treats_33 : decode cX10_treats 33 = .ok (.iload_n 2, 1) := by decide +kernel
theorem dX10_treats_34 : decode cX10_treats 34 = .ok (.imul, 1) := by decide +kernel
theorem dX10_treats_35 : decode cX10_treats 35 = .ok (.iadd, 1) := by decide +kernel
theorem dX10_treats_36 : decode cX10_treats 36 = .ok (.iconst 0, 1) := by decide +kernel
theorem dX10_treats_37 : decode cX10_treats 37 = .ok (.iadd, 1) := by decide +kernel
theorem dX10_treats_38 : decode cX10_treats 38 = .ok (.iaload, 1) := by decide +kernel
theorem dX10_treats_39 : decode cX10_treats 39 = .ok (.if_icmp .ne 92, 3) := by decide +kernel
theorem dX10_treats_42 : decode cX10_treats 42 = .ok (.aload_n 0, 1) := by decide +kernel
theorem dX10_treats_43 : decode cX10_treats 43 = .ok (.iload_n 2, 1) := by decide +kernel
theorem dX10_treats_44 : decode cX10_treats 44 = .ok (.invokevirtual 86, 3) := by decide +kernel
theorem dX10_treats_47 : decode cX10_treats 47 = .ok (.iconst (-1), 1) := by decide +kernel
theorem dX10_treats_48 : decode cX10_treats 48 = .ok (.if_icmp .eq 7, 3) := by decide +kernel
theorem dX10_treats_51 : decode cX10_treats 51 = .ok (.iconst 1, 1) := by decide +kernel
theorem dX10_treats_52 : decode cX10_treats 52 = .ok (.goto 4, 3) := by decide +kernel
theorem dX10_treats_55 : decode cX10_treats 55 = .ok (.iconst 0, 1) := by decide +kernel
theorem dX10_treats_56 : decode cX10_treats 56 = .ok (.istore 4, 2) := by decide +kernel
theorem dX10_treats_58 : decode cX10_treats 58 = .ok (.iload 4, 2) := by decide +kernel
theorem dX10_treats_60 : decode cX10_treats 60 = .ok (.ifCond .eq 11, 3) := by decide +kernel
theorem dX10_treats_63 : decode cX10_treats 63 = .ok (.aload_n 0, 1) := by decide +kernel
theorem dX10_treats_64 : decode cX10_treats 64 = .ok (.iload_n 2, 1) := by decide +kernel
theorem dX10_treats_65 : decode cX10_treats 65 = .ok (.invokevirtual 96, 3) := by decide +kernel
theorem dX10_treats_68 : decode cX10_treats 68 = .ok (.ifCond .ne 46, 3) := by decide +kernel
theorem dX10_treats_71 : decode cX10_treats 71 = .ok (.aload_n 0, 1) := by decide +kernel
theorem dX10_treats_72 : decode cX10_treats 72 = .ok (.iload_n 2, 1) := by decide +kernel
theorem dX10_treats_73 : decode cX10_treats 73 = .ok (.invokevirtual 198, 3) := by decide +kernel
theorem dX10_treats_76 : decode cX10_treats 76 = .ok (.istore 5, 2) := by decide +kernel
theorem dX10_treats_78 : decode cX10_treats 78 = .ok (.iload 5, 2) := by decide +kernel
theorem dX10_treats_80 : decode cX10_treats 80 = .ok (.iconst (-1), 1) := by decide +kernel
theorem dX10_treats_81 : decode cX10_treats 81 = .ok (.if_icmp .eq 19, 3) := by decide +kernel
theorem dX10_treats_84 : decode cX10_treats 84 = .ok (.aload_n 0, 1) := by decide +kernel
theorem dX10_treats_85 : decode cX10_treats 85 = .ok (.iconst 5, 1) := by decide +kernel
theorem dX10_treats_86 : decode cX10_treats 86 = .ok (.iload 5, 2) := by decide +kernel
theorem dX10_treats_88 : decode cX10_treats 88 = .ok (.iload_n 1, 1) := by decide +kernel
theorem dX10_treats_89 : decode cX10_treats 89 = .ok (.invokestatic 167, 3) := by decide +kernel
theorem dX10_treats_92 : decode cX10_treats 92 = .ok (.invokestatic 126, 3) := by decide +kernel
theorem dX10_treats_95 : decode cX10_treats 95 = .ok (.invokevirtual 194, 3) := by decide +kernel
theorem dX10_treats_98 : decode cX10_treats 98 = .ok (.iconst 1, 1) := by decide +kernel
theorem dX10_treats_99 : decode cX10_treats 99 = .ok (.ireturn, 1) := by decide +kernel
theorem dX10_treats_100 : decode cX10_treats 100 = .ok (.iload 4, 2) := by decide +kernel
theorem dX10_treats_102 : decode cX10_treats 102 = .ok (.ifCond .eq 7, 3) := by decide +kernel
theorem dX10_treats_105 : decode cX10_treats 105 = .ok (.iconst 3, 1) := by decide +kernel
theorem dX10_treats_106 : decode cX10_treats 106 = .ok (.goto 4, 3) := by decide +kernel
theorem dX10_treats_109 : decode cX10_treats 109 = .ok (.iconst 2, 1) := by decide +kernel
theorem dX10_treats_110 : decode cX10_treats 110 = .ok (.istore_n 3, 1) := by decide +kernel
theorem dX10_treats_111 : decode cX10_treats 111 = .ok (.goto 20, 3) := by decide +kernel
theorem dX10_treats_114 : decode cX10_treats 114 = .ok (.aload_n 0, 1) := by decide +kernel
theorem dX10_treats_115 : decode cX10_treats 115 = .ok (.iload_n 1, 1) := by decide +kernel
theorem dX10_treats_116 : decode cX10_treats 116 = .ok (.invokevirtual 201, 3) := by decide +kernel
theorem dX10_treats_119 : decode cX10_treats 119 = .ok (.istore_n 3, 1) := by decide +kernel
theorem dX10_treats_120 : decode cX10_treats 120 = .ok (.iload_n 3, 1) := by decide +kernel
theorem dX10_treats_121 : decode cX10_treats 121 = .ok (.ifCond .ne 10, 3) := by decide +kernel
theorem dX10_treats_124 : decode cX10_treats 124 = .ok (.aload_n 0, 1) := by decide +kernel
theorem dX10_treats_125 : decode cX10_treats 125 = .ok (.iload_n 1, 1) := by decide +kernel
theorem dX10_treats_126 : decode cX10_treats 126 = .ok (.invokevirtual 204, 3) := by decide +kernel
theorem dX10_treats_129 : decode cX10_treats 129 = .ok (.iconst 1, 1) := by decide +kernel
theorem dX10_treats_130 : decode cX10_treats 130 = .ok (.ireturn, 1) := by decide +kernel
theorem dX10_treats_131 : decode cX10_treats 131 = .ok (.aload_n 0, 1) := by decide +kernel
theorem dX10_treats_132 : decode cX10_treats 132 = .ok (.getfield 7, 3) := by decide +kernel
theorem dX10_treats_135 : decode cX10_treats 135 = .ok (.sipush 179, 3) := by decide +kernel
theorem dX10_treats_138 : decode cX10_treats 138 = .ok (.iload_n 3, 1) := by decide +kernel
theorem dX10_treats_139 : decode cX10_treats 139 = .ok (.iadd, 1) := by decide +kernel
theorem dX10_treats_140 : decode cX10_treats 140 = .ok (.iconst 1, 1) := by decide +kernel
theorem dX10_treats_141 : decode cX10_treats 141 = .ok (.isub, 1) := by decide +kernel
theorem dX10_treats_142 : decode cX10_treats 142 = .ok (.dup2, 1) := by decide +kernel
theorem dX10_treats_143 : decode cX10_treats 143 = .ok (.iaload, 1) := by decide +kernel
theorem dX10_treats_144 : decode cX10_treats 144 = .ok (.iconst 1, 1) := by decide +kernel
theorem dX10_treats_145 : decode cX10_treats 145 = .ok (.iadd, 1) := by decide +kernel
theorem dX10_treats_146 : decode cX10_treats 146 = .ok (.iastore, 1) := by decide +kernel
theorem dX10_treats_147 : decode cX10_treats 147 = .ok (.aload_n 0, 1) := by decide +kernel
theorem dX10_treats_148 : decode cX10_treats 148 = .ok (.iload_n 1, 1) := by decide +kernel
theorem dX10_treats_149 : decode cX10_treats 149 = .ok (.invokevirtual 194, 3) := by decide +kernel
theorem dX10_treats_152 : decode cX10_treats 152 = .ok (.iconst 0, 1) := by decide +kernel
theorem dX10_treats_153 : decode cX10_treats 153 = .ok (.ireturn, 1) := by decide +kernel
set_option maxRecDepth 20000 in
theorem ggX10_migrate_X10_save : GoodIn wsX10_migrate wsX10_save := goodIn_r _ [14, 15, 16, 1, 102, 103, 104, 105, 106, 107, 108, 109, 110, 111, 112, 113, 114, 115, 116, 117, 118, 119, 120, 121, 122, 123, 124] (by decide +kernel) (by decide +kernel)
set_option maxRecDepth 20000 in
theorem gX10_migrate_X10_save : GoodIn wsX10_migrate (wsV RX10 59 RX10 yX10_save wsX10_save) := goodIn_app (goodIn_of _ (by decide +kernel)) ggX10_migrate_X10_save
set_option maxRecDepth 20000 in
theorem ggX10_migrate_X10_arguments : GoodIn wsX10_migrate wsX10_arguments := goodIn_r _ [19] (by decide +kernel) (by decide +kernel)
set_option maxRecDepth 20000 in
theorem gX10_migrate_X10_arguments : GoodIn wsX10_migrate (va_wsS RX10 167 yX10_arguments wsX10_arguments) := goodIn_app (goodIn_of _ (by decide +kernel)) ggX10_migrate_X10_arguments
set_option maxRecDepth 20000 in
theorem ggX10_migrate_X10_treatsLeaf : GoodIn wsX10_migrate wsX10_treatsLeaf := goodIn_r _ [23, 24, 25, 26, 13, 27, 1, 28, 29, 30, 31, 32, 33, 34, 35, 36, 37, 5, 4, 3, 9, 17, 18, 19, 38, 39, 40, 41, 42, 43, 44, 45, 46, 47, 48, 49, 50, 51, 52, 53, 54, 55, 56, 57, 58, 59, 60, 61, 62, 63, 64, 65, 66, 67, 68, 2, 69, 70, 71, 72, 73, 74, 75, 76, 77, 78, 79, 80, 81, 82, 83, 84, 85, 86, 87, 88, 89, 90, 91, 92, 93, 94, 95, 96, 97, 102, 103, 104, 105, 106, 107, 108, 109, 110, 111, 112, 113, 114, 115, 116, 117, 118, 119, 120, 121, 122, 123, 124] (by decide +kernel) (by decide +kernel)
set_option maxRecDepth 20000 in
theorem gX10_migrate_X10_treatsLeaf : GoodIn wsX10_migrate (wsV RX10 210 RX10 yX10_treatsLeaf wsX10_treatsLeaf) := goodIn_app (goodIn_of _ (by decide +kernel)) ggX10_migrate_X10_treatsLeaf
set_option maxRecDepth 20000 in
theorem ggX10_migrate_X10_treatsOpen : GoodIn wsX10_migrate wsX10_treatsOpen := goodIn_r _ [101, 6, 8, 7, 24, 25, 26, 13, 27, 1, 28, 29, 30, 31, 32, 33, 34, 35, 36, 37, 5, 4, 3, 9, 17, 18, 19, 38, 39, 40, 41, 42, 43, 44, 45, 46, 47, 48, 49, 50, 51, 52, 53, 54, 55, 56, 57, 58, 59, 60, 61, 62, 63, 64, 65, 66, 67, 68, 2, 69, 70, 71, 72, 73, 74, 75, 76, 77, 78, 79, 80, 81, 82, 83, 84, 85, 86, 87, 88, 89, 90, 91, 92, 93, 94, 95, 96, 97, 102, 103, 104, 105, 106, 107, 108, 109, 110, 111, 112, 113, 114, 115, 116, 117, 118, 119, 120, 121, 122, 123, 124] (by decide +kernel) (by decide +kernel)
set_option maxRecDepth 20000 in
theorem gX10_migrate_X10_treatsOpen : GoodIn wsX10_migrate (wsV RX10 213 RX10 yX10_treatsOpen wsX10_treatsOpen) := goodIn_app (goodIn_of _ (by decide +kernel)) ggX10_migrate_X10_treatsOpen
theorem dX10_migrate_0 : decode cX10_migrate 0 = .ok (.aload_n 0, 1) := by decide +kernel
theorem dX10_migrate_1 : decode cX10_migrate 1 = .ok (.invokevirtual 59, 3) := by decide +kernel
theorem dX10_migrate_4 : decode cX10_migrate 4 = .ok (.iconst 0, 1) := by decide +kernel
theorem dX10_migrate_5 : decode cX10_migrate 5 = .ok (.istore_n 1, 1) := by decide +kernel
theorem dX10_migrate_6 : decode cX10_migrate 6 = .ok (.iload_n 1, 1) := by decide +kernel
theorem dX10_migrate_7 : decode cX10_migrate 7 = .ok (.bipush 7, 2) := by decide +kernel
theorem dX10_migrate_9 : decode cX10_migrate 9 = .ok (.if_icmp .ge 20, 3) := by decide +kernel
theorem dX10_migrate_12 : decode cX10_migrate 12 = .ok (.aload_n 0, 1) := by decide +kernel
theorem dX10_migrate_13 : decode cX10_migrate 13 = .ok (.getfield 7, 3) := by decide +kernel
theorem dX10_migrate_16 : decode cX10_migrate 16 = .ok (.sipush 179, 3) := by decide +kernel
theorem dX10_migrate_19 : decode cX10_migrate 19 = .ok (.iload_n 1, 1) := by decide +kernel
theorem dX10_migrate_20 : decode cX10_migrate 20 = .ok (.iadd, 1) := by decide +kernel
theorem dX10_migrate_21 : decode cX10_migrate 21 = .ok (.iconst 0, 1) := by decide +kernel
theorem dX10_migrate_22 : decode cX10_migrate 22 = .ok (.iastore, 1) := by decide +kernel
theorem dX10_migrate_23 : decode cX10_migrate 23 = .ok (.iinc 1 1, 3) := by decide +kernel
theorem dX10_migrate_26 : decode cX10_migrate 26 = .ok (.goto (-20), 3) := by decide +kernel
theorem dX10_migrate_29 : decode cX10_migrate 29 = .ok (.aload_n 0, 1) := by decide +kernel
theorem dX10_migrate_30 : decode cX10_migrate 30 = .ok (.aload_n 0, 1) := by decide +kernel
theorem dX10_migrate_31 : decode cX10_migrate 31 = .ok (.getfield 7, 3) := by decide +kernel
theorem dX10_migrate_34 : decode cX10_migrate 34 = .ok (.sipush 148, 3) := by decide +kernel
theorem dX10_migrate_37 : decode cX10_migrate 37 = .ok (.iaload, 1) := by decide +kernel
theorem dX10_migrate_38 : decode cX10_migrate 38 = .ok (.putfield 185, 3) := by decide +kernel
theorem dX10_migrate_41 : decode cX10_migrate 41 = .ok (.aload_n 0, 1) := by decide +kernel
theorem dX10_migrate_42 : decode cX10_migrate 42 = .ok (.iconst 0, 1) := by decide +kernel
theorem dX10_migrate_43 : decode cX10_migrate 43 = .ok (.putfield 173, 3) := by decide +kernel
theorem dX10_migrate_46 : decode cX10_migrate 46 = .ok (.aload_n 0, 1) := by decide +kernel
theorem dX10_migrate_47 : decode cX10_migrate 47 = .ok (.iconst 0, 1) := by decide +kernel
theorem dX10_migrate_48 : decode cX10_migrate 48 = .ok (.putfield 170, 3) := by decide +kernel
theorem dX10_migrate_51 : decode cX10_migrate 51 = .ok (.aload_n 0, 1) := by decide +kernel
theorem dX10_migrate_52 : decode cX10_migrate 52 = .ok (.getfield 31, 3) := by decide +kernel
theorem dX10_migrate_55 : decode cX10_migrate 55 = .ok (.iconst 0, 1) := by decide +kernel
theorem dX10_migrate_56 : decode cX10_migrate 56 = .ok (.iconst 0, 1) := by decide +kernel
theorem dX10_migrate_57 : decode cX10_migrate 57 = .ok (.iastore, 1) := by decide +kernel
theorem dX10_migrate_58 : decode cX10_migrate 58 = .ok (.aload_n 0, 1) := by decide +kernel
theorem dX10_migrate_59 : decode cX10_migrate 59 = .ok (.iconst 0, 1) := by decide +kernel
theorem dX10_migrate_60 : decode cX10_migrate 60 = .ok (.putfield 207, 3) := by decide +kernel
theorem dX10_migrate_63 : decode cX10_migrate 63 = .ok (.iconst 0, 1) := by decide +kernel
theorem dX10_migrate_64 : decode cX10_migrate 64 = .ok (.istore_n 1, 1) := by decide +kernel
theorem dX10_migrate_65 : decode cX10_migrate 65 = .ok (.iconst 0, 1) := by decide +kernel
theorem dX10_migrate_66 : decode cX10_migrate 66 = .ok (.istore_n 2, 1) := by decide +kernel
theorem dX10_migrate_67 : decode cX10_migrate 67 = .ok (.iload_n 2, 1) := by decide +kernel
theorem dX10_migrate_68 : decode cX10_migrate 68 = .ok (.aload_n 0, 1) := by decide +kernel
theorem dX10_migrate_69 : decode cX10_migrate 69 = .ok (.getfield 7, 3) := by decide +kernel
theorem dX10_migrate_72 : decode cX10_migrate 72 = .ok (.sipush 148, 3) := by decide +kernel
theorem dX10_migrate_75 : decode cX10_migrate 75 = .ok (.iaload, 1) := by decide +kernel
theorem dX10_migrate_76 : decode cX10_migrate 76 = .ok (.if_icmp .ge 78, 3) := by decide +kernel
theorem dX10_migrate_79 : decode cX10_migrate 79 = .ok (.aload_n 0, 1) := by decide +kernel
theorem dX10_migrate_80 : decode cX10_migrate 80 = .ok (.getfield 7, 3) := by decide +kernel
theorem dX10_migrate_83 : decode cX10_migrate 83 = .ok (.sipush 149, 3) := by decide +kernel
theorem dX10_migrate_86 : decode cX10_migrate 86 = .ok (.iload_n 2, 1) := by decide +kernel
theorem dX10_migrate_87 : decode cX10_migrate 87 = .ok (.iadd, 1) := by decide +kernel
theorem dX10_migrate_88 : decode cX10_migrate 88 = .ok (.iaload, 1) := by decide +kernel
theorem dX10_migrate_89 : decode cX10_migrate 89 = .ok (.istore_n 3, 1) := by decide +kernel
theorem dX10_migrate_90 : decode cX10_migrate 90 = .ok (.iload_n 3, 1) := by decide +kernel
theorem dX10_migrate_91 : decode cX10_migrate 91 = .ok (.invokestatic 167, 3) := by decide +kernel
theorem dX10_migrate_94 : decode cX10_migrate 94 = .ok (.ifCond .le 39, 3) := by decide +kernel
theorem dX10_migrate_97 : decode cX10_migrate 97 = .ok (.aload_n 0, 1) := by decide +kernel
theorem dX10_migrate_98 : decode cX10_migrate 98 = .ok (.getfield 37, 3) := by decide +kernel
theorem dX10_migrate_101 : decode cX10_migrate 101 = .ok (.aload_n 0, 1) := by decide +kernel
theorem dX10_migrate_102 : decode cX10_migrate 102 = .ok (.getfield 207, 3) := by decide +kernel
theorem dX10_migrate_105 : decode cX10_migrate 105 = .ok (.iload_n 3, 1) := by decide +kernel
theorem dX10_migrate_106 : decode cX10_migrate 106 = .ok (.iastore, 1) := by decide +kernel
theorem dX10_migrate_107 : decode cX10_migrate 107 = .ok (.aload_n 0, 1) := by decide +kernel
theorem dX10_migrate_108 : decode cX10_migrate 108 = .ok (.getfield 40, 3) := by decide +kernel
theorem dX10_migrate_111 : decode cX10_migrate 111 = .ok (.aload_n 0, 1) := by decide +kernel
theorem dX10_migrate_112 : decode cX10_migrate 112 = .ok (.getfield 207, 3) := by decide +kernel
theorem dX10_migrate_115 : decode cX10_migrate 115 = .ok (.iload_n 3, 1) := by decide +kernel
theorem dX10_migrate_116 : decode cX10_migrate 116 = .ok (.invokestatic 167, 3) := by decide +kernel
theorem dX10_migrate_119 : decode cX10_migrate 119 = .ok (.iastore, 1) := by decide +kernel
theorem dX10_migrate_120 : decode cX10_migrate 120 = .ok (.aload_n 0, 1) := by decide +kernel
theorem dX10_migrate_121 : decode cX10_migrate 121 = .ok (.dup, 1) := by decide +kernel
theorem dX10_migrate_122 : decode cX10_migrate 122 = .ok (.getfield 207, 3) := by decide +kernel
theorem dX10_migrate_125 : decode cX10_migrate 125 = .ok (.iconst 1, 1) := by decide +kernel
theorem dX10_migrate_126 : decode cX10_migrate 126 = .ok (.iadd, 1) := by decide +kernel
theorem dX10_migrate_127 : decode cX10_migrate 127 = .ok (.putfield 207, 3) := by decide +kernel
theorem dX10_migrate_130 : decode cX10_migrate 130 = .ok (.goto 18, 3) := by decide +kernel
theorem dX10_migrate_133 : decode cX10_migrate 133 = .ok (.iload_n 1, 1) := by decide +kernel
theorem dX10_migrate_134 : decode cX10_migrate 134 = .ok (.aload_n 0, 1) := by decide +kernel
theorem dX10_migrate_135 : decode cX10_migrate 135 = .ok (.iload_n 3, 1) := by decide +kernel
theorem dX10_migrate_136 : decode cX10_migrate 136 = .ok (.invokevirtual 210, 3) := by decide +kernel
theorem dX10_migrate_139 : decode cX10_migrate 139 = .ok (.iadd, 1) := by decide +kernel
theorem dX10_migrate_140 : decode cX10_migrate 140 = .ok (.istore_n 1, 1) := by decide +kernel
theorem dX10_migrate_141 : decode cX10_migrate 141 = .ok (.iload_n 1, 1) := by decide +kernel
theorem dX10_migrate_142 : decode cX10_migrate 142 = .ok (.aload_n 0, 1) := by decide +kernel
theorem dX10_migrate_143 : decode cX10_migrate 143 = .ok (.invokevirtual 213, 3) := by decide +kernel
theorem dX10_migrate_146 : decode cX10_migrate 146 = .ok (.iadd, 1) := by decide +kernel
theorem dX10_migrate_147 : decode cX10_migrate 147 = .ok (.istore_n 1, 1) := by decide +kernel
theorem dX10_migrate_148 : decode cX10_migrate 148 = .ok (.iinc 2 1, 3) := by decide +kernel
theorem dX10_migrate_151 : decode cX10_migrate 151 = .ok (.goto (-84), 3) := by decide +kernel
theorem dX10_migrate_154 : decode cX10_migrate 154 = .ok (.iconst 0, 1) := by decide +kernel
theorem dX10_migrate_155 : decode cX10_migrate 155 = .ok (.istore_n 2, 1) := by decide +kernel
theorem dX10_migrate_156 : decode cX10_migrate 156 = .ok (.iload_n 2, 1) := by decide +kernel
theorem dX10_migrate_157 : decode cX10_migrate 157 = .ok (.aload_n 0, 1) := by decide +kernel
theorem dX10_migrate_158 : decode cX10_migrate 158 = .ok (.getfield 173, 3) := by decide +kernel
theorem dX10_migrate_161 : decode cX10_migrate 161 = .ok (.if_icmp .ge 25, 3) := by decide +kernel
theorem dX10_migrate_164 : decode cX10_migrate 164 = .ok (.aload_n 0, 1) := by decide +kernel
theorem dX10_migrate_165 : decode cX10_migrate 165 = .ok (.getfield 7, 3) := by decide +kernel
theorem dX10_migrate_168 : decode cX10_migrate 168 = .ok (.sipush 149, 3) := by decide +kernel
theorem dX10_migrate_171 : decode cX10_migrate 171 = .ok (.iload_n 2, 1) := by decide +kernel
theorem dX10_migrate_172 : decode cX10_migrate 172 = .ok (.iadd, 1) := by decide +kernel
theorem dX10_migrate_173 : decode cX10_migrate 173 = .ok (.aload_n 0, 1) := by decide +kernel
theorem dX10_migrate_174 : decode cX10_migrate 174 = .ok (.getfield 28, 3) := by decide +kernel
theorem dX10_migrate_177 : decode cX10_migrate 177 = .ok (.iload_n 2, 1) := by decide +kernel
theorem dX10_migrate_178 : decode cX10_migrate 178 = .ok (.iaload, 1) := by decide +kernel
theorem dX10_migrate_179 : decode cX10_migrate 179 = .ok (.iastore, 1) := by decide +kernel
theorem dX10_migrate_180 : decode cX10_migrate 180 = .ok (.iinc 2 1, 3) := by decide +kernel
theorem dX10_migrate_183 : decode cX10_migrate 183 = .ok (.goto (-27), 3) := by decide +kernel
theorem dX10_migrate_186 : decode cX10_migrate 186 = .ok (.aload_n 0, 1) := by decide +kernel
theorem dX10_migrate_187 : decode cX10_migrate 187 = .ok (.getfield 7, 3) := by decide +kernel
theorem dX10_migrate_190 : decode cX10_migrate 190 = .ok (.sipush 148, 3) := by decide +kernel
theorem dX10_migrate_193 : decode cX10_migrate 193 = .ok (.aload_n 0, 1) := by decide +kernel
theorem dX10_migrate_194 : decode cX10_migrate 194 = .ok (.getfield 173, 3) := by decide +kernel
theorem dX10_migrate_197 : decode cX10_migrate 197 = .ok (.iastore, 1) := by decide +kernel
theorem dX10_migrate_198 : decode cX10_migrate 198 = .ok (.iload_n 1, 1) := by decide +kernel
theorem dX10_migrate_199 : decode cX10_migrate 199 = .ok (.ireturn, 1) := by decide +kernel
set_option maxRecDepth 20000 in
theorem ggX10_treatsLeaf_X10_treats : GoodIn wsX10_treatsLeaf wsX10_treats := goodIn_r _ [5, 6, 7, 8, 4, 9, 10, 11, 12, 13, 14, 15, 16, 17, 18, 19, 20, 21, 22, 23, 24, 25, 26, 27, 28, 29, 30, 31, 32, 33, 34, 35, 36, 37, 38, 39, 40, 41, 42, 43, 44, 45, 46, 47, 48, 49, 50, 51, 52, 53, 54, 55, 56, 57, 58, 59, 60, 61, 62, 63, 64, 65, 66, 67, 68, 69, 70, 71, 72, 73, 74, 75, 76, 77, 78, 79, 80, 81, 82, 83, 84, 85, 86, 87, 88, 89, 90, 91, 92, 93, 94, 95, 96, 97, 98, 99, 100, 101, 102, 103, 104, 105, 106, 107] (by decide +kernel) (by decide +kernel)
set_option maxRecDepth 20000 in
theorem gX10_treatsLeaf_X10_treats : GoodIn wsX10_treatsLeaf (wsV RX10 217 RX10 yX10_treats wsX10_treats) := goodIn_app (goodIn_of _ (by decide +kernel)) ggX10_treatsLeaf_X10_treats
theorem dX10_treatsLeaf_0 : decode cX10_treatsLeaf 0 = .ok (.aload_n 0, 1) := by decide +kernel
theorem dX10_treatsLeaf_1 : decode cX10_treatsLeaf 1 = .ok (.iload_n 1, 1) := by decide +kernel
theorem dX10_treatsLeaf_2 : decode cX10_treatsLeaf 2 = .ok (.invokevirtual 217, 3) := by decide +kernel
theorem dX10_treatsLeaf_5 : decode cX10_treatsLeaf 5 = .ok (.ireturn, 1) := by decide +kernel
set_option maxRecDepth 20000 in
theorem ggX10_treatsOpen_X10_treats : GoodIn wsX10_treatsOpen wsX10_treats := goodIn_r _ [8, 9, 10, 11, 7, 12, 13, 14, 15, 16, 17, 18, 19, 20, 21, 22, 23, 24, 25, 26, 27, 28, 29, 30, 31, 32, 33, 34, 35, 36, 37, 38, 39, 40, 41, 42, 43, 44, 45, 46, 47, 48, 49, 50, 51, 52, 53, 54, 55, 56, 57, 58, 59, 60, 61, 62, 63, 64, 65, 66, 67, 68, 69, 70, 71, 72, 73, 74, 75, 76, 77, 78, 79, 80, 81, 82, 83, 84, 85, 86, 87, 88, 89, 90, 91, 92, 93, 94, 95, 96, 97, 98, 99, 100, 101, 102, 103, 104, 105, 106, 107, 108, 109, 110] (by decide +kernel) (by decide +kernel)
set_option maxRecDepth 20000 in
theorem gX10_treatsOpen_X10_treats : GoodIn wsX10_treatsOpen (wsV RX10 217 RX10 yX10_treats wsX10_treats) := goodIn_app (goodIn_of _ (by decide +kernel)) ggX10_treatsOpen_X10_treats
theorem dX10_treatsOpen_0 : decode cX10_treatsOpen 0 = .ok (.iconst 0, 1) := by decide +kernel
theorem dX10_treatsOpen_1 : decode cX10_treatsOpen 1 = .ok (.istore_n 1, 1) := by decide +kernel
theorem dX10_treatsOpen_2 : decode cX10_treatsOpen 2 = .ok (.aload_n 0, 1) := by decide +kernel
theorem dX10_treatsOpen_3 : decode cX10_treatsOpen 3 = .ok (.getfield 207, 3) := by decide +kernel
theorem dX10_treatsOpen_6 : decode cX10_treatsOpen 6 = .ok (.ifCond .le 7, 3) := by decide +kernel
theorem dX10_treatsOpen_9 : decode cX10_treatsOpen 9 = .ok (.iconst 1, 1) := by decide +kernel
theorem dX10_treatsOpen_10 : decode cX10_treatsOpen 10 = .ok (.goto 4, 3) := by decide +kernel
theorem dX10_treatsOpen_13 : decode cX10_treatsOpen 13 = .ok (.iconst 0, 1) := by decide +kernel
theorem dX10_treatsOpen_14 : decode cX10_treatsOpen 14 = .ok (.istore_n 2, 1) := by decide +kernel
theorem dX10_treatsOpen_15 : decode cX10_treatsOpen 15 = .ok (.iload_n 2, 1) := by decide +kernel
theorem dX10_treatsOpen_16 : decode cX10_treatsOpen 16 = .ok (.ifCond .eq 84, 3) := by decide +kernel
theorem dX10_treatsOpen_19 : decode cX10_treatsOpen 19 = .ok (.aload_n 0, 1) := by decide +kernel
theorem dX10_treatsOpen_20 : decode cX10_treatsOpen 20 = .ok (.getfield 40, 3) := by decide +kernel
theorem dX10_treatsOpen_23 : decode cX10_treatsOpen 23 = .ok (.aload_n 0, 1) := by decide +kernel
theorem dX10_treatsOpen_24 : decode cX10_treatsOpen 24 = .ok (.getfield 207, 3) := by decide +kernel
theorem dX10_treatsOpen_27 : decode cX10_treatsOpen 27 = .ok (.iconst 1, 1) := by decide +kernel
theorem dX10_treatsOpen_28 : decode cX10_treatsOpen 28 = .ok (.isub, 1) := by decide +kernel
theorem dX10_treatsOpen_29 : decode cX10_treatsOpen 29 = .ok (.dup2, 1) := by decide +kernel
theorem dX10_treatsOpen_30 : decode cX10_treatsOpen 30 = .ok (.iaload, 1) := by decide +kernel
theorem dX10_treatsOpen_31 : decode cX10_treatsOpen 31 = .ok (.iconst 1, 1) := by decide +kernel
theorem dX10_treatsOpen_32 : decode cX10_treatsOpen 32 = .ok (.isub, 1) := by decide +kernel
theorem dX10_treatsOpen_33 : decode cX10_treatsOpen 33 = .ok (.iastore, 1) := by decide +kernel
theorem dX10_treatsOpen_34 : decode cX10_treatsOpen 34 = .ok (.aload_n 0, 1) := by decide +kernel
theorem dX10_treatsOpen_35 : decode cX10_treatsOpen 35 = .ok (.getfield 40, 3) := by decide +kernel
theorem dX10_treatsOpen_38 : decode cX10_treatsOpen 38 = .ok (.aload_n 0, 1) := by decide +kernel
theorem dX10_treatsOpen_39 : decode cX10_treatsOpen 39 = .ok (.getfield 207, 3) := by decide +kernel
theorem dX10_treatsOpen_42 : decode cX10_treatsOpen 42 = .ok (.iconst 1, 1) := by decide +kernel
theorem dX10_treatsOpen_43 : decode cX10_treatsOpen 43 = .ok (.isub, 1) := by decide +kernel
theorem dX10_treatsOpen_44 : decode cX10_treatsOpen 44 = .ok (.iaload, 1) := by decide +kernel
theorem dX10_treatsOpen_45 : decode cX10_treatsOpen 45 = .ok (.ifCond .ne 7, 3) := by decide +kernel
theorem dX10_treatsOpen_48 : decode cX10_treatsOpen 48 = .ok (.iconst 1, 1) := by decide +kernel
theorem dX10_treatsOpen_49 : decode cX10_treatsOpen 49 = .ok (.goto 4, 3) := by decide +kernel
theorem dX10_treatsOpen_52 : decode cX10_treatsOpen 52 = .ok (.iconst 0, 1) := by decide +kernel
theorem dX10_treatsOpen_53 : decode cX10_treatsOpen 53 = .ok (.istore_n 2, 1) := by decide +kernel
theorem dX10_treatsOpen_54 : decode cX10_treatsOpen 54 = .ok (.iload_n 2, 1) := by decide +kernel
theorem dX10_treatsOpen_55 : decode cX10_treatsOpen 55 = .ok (.ifCond .eq (-40), 3) := by decide +kernel
theorem dX10_treatsOpen_58 : decode cX10_treatsOpen 58 = .ok (.aload_n 0, 1) := by decide +kernel
theorem dX10_treatsOpen_59 : decode cX10_treatsOpen 59 = .ok (.dup, 1) := by decide +kernel
theorem dX10_treatsOpen_60 : decode cX10_treatsOpen 60 = .ok (.getfield 207, 3) := by decide +kernel
theorem dX10_treatsOpen_63 : decode cX10_treatsOpen 63 = .ok (.iconst 1, 1) := by decide +kernel
theorem dX10_treatsOpen_64 : decode cX10_treatsOpen 64 = .ok (.isub, 1) := by decide +kernel
theorem dX10_treatsOpen_65 : decode cX10_treatsOpen 65 = .ok (.putfield 207, 3) := by decide +kernel
theorem dX10_treatsOpen_68 : decode cX10_treatsOpen 68 = .ok (.iload_n 1, 1) := by decide +kernel
theorem dX10_treatsOpen_69 : decode cX10_treatsOpen 69 = .ok (.aload_n 0, 1) := by decide +kernel
theorem dX10_treatsOpen_70 : decode cX10_treatsOpen 70 = .ok (.aload_n 0, 1) := by decide +kernel
theorem dX10_treatsOpen_71 : decode cX10_treatsOpen 71 = .ok (.getfield 37, 3) := by decide +kernel
theorem dX10_treatsOpen_74 : decode cX10_treatsOpen 74 = .ok (.aload_n 0, 1) := by decide +kernel
theorem dX10_treatsOpen_75 : decode cX10_treatsOpen 75 = .ok (.getfield 207, 3) := by decide +kernel
theorem dX10_treatsOpen_78 : decode cX10_treatsOpen 78 = .ok (.iaload, 1) := by decide +kernel
theorem dX10_treatsOpen_79 : decode cX10_treatsOpen 79 = .ok (.invokevirtual 217, 3) := by decide +kernel
theorem dX10_treatsOpen_82 : decode cX10_treatsOpen 82 = .ok (.iadd, 1) := by decide +kernel
theorem dX10_treatsOpen_83 : decode cX10_treatsOpen 83 = .ok (.istore_n 1, 1) := by decide +kernel
theorem dX10_treatsOpen_84 : decode cX10_treatsOpen 84 = .ok (.aload_n 0, 1) := by decide +kernel
theorem dX10_treatsOpen_85 : decode cX10_treatsOpen 85 = .ok (.getfield 207, 3) := by decide +kernel
theorem dX10_treatsOpen_88 : decode cX10_treatsOpen 88 = .ok (.ifCond .le 7, 3) := by decide +kernel
theorem dX10_treatsOpen_91 : decode cX10_treatsOpen 91 = .ok (.iconst 1, 1) := by decide +kernel
theorem dX10_treatsOpen_92 : decode cX10_treatsOpen 92 = .ok (.goto 4, 3) := by decide +kernel
theorem dX10_treatsOpen_95 : decode cX10_treatsOpen 95 = .ok (.iconst 0, 1) := by decide +kernel
theorem dX10_treatsOpen_96 : decode cX10_treatsOpen 96 = .ok (.istore_n 2, 1) := by decide +kernel
theorem dX10_treatsOpen_97 : decode cX10_treatsOpen 97 = .ok (.goto (-82), 3) := by decide +kernel
theorem dX10_treatsOpen_100 : decode cX10_treatsOpen 100 = .ok (.iload_n 1, 1) := by decide +kernel
theorem dX10_treatsOpen_101 : decode cX10_treatsOpen 101 = .ok (.ireturn, 1) := by decide +kernel
set_option maxRecDepth 20000 in
theorem ggX10_left_X10_in : GoodIn wsX10_left wsX10_in := goodIn_r _ [6] (by decide +kernel) (by decide +kernel)
set_option maxRecDepth 20000 in
theorem gX10_left_X10_in : GoodIn wsX10_left (va_wsS RX10 55 yX10_in wsX10_in) := goodIn_app (goodIn_of _ (by decide +kernel)) ggX10_left_X10_in
set_option maxRecDepth 20000 in
theorem ggX10_left_X10_error : GoodIn wsX10_left wsX10_error := goodIn_r _ [10, 11, 12, 13, 14, 15, 16, 17, 18, 19, 20, 21, 22, 23, 24, 25, 26, 27, 28, 29, 30, 31, 32, 33, 34] (by decide +kernel) (by decide +kernel)
set_option maxRecDepth 20000 in
theorem gX10_left_X10_error : GoodIn wsX10_left (wsV RX10 72 RX10 yX10_error wsX10_error) := goodIn_app (goodIn_of _ (by decide +kernel)) ggX10_left_X10_error
theorem dX10_left_0 : decode cX10_left 0 = .ok (.iload_n 1, 1) := by decide +kernel
theorem dX10_left_1 : decode cX10_left 1 = .ok (.i2l, 1) := by decide +kernel
theorem dX10_left_2 : decode cX10_left 2 = .ok (.lconst 1, 1) := by decide +kernel
theorem dX10_left_3 : decode cX10_left 3 = .ok (.ldc2_w 220, 3) := by decide +kernel
theorem dX10_left_6 : decode cX10_left 6 = .ok (.invokestatic 55, 3) := by decide +kernel
theorem dX10_left_9 : decode cX10_left 9 = .ok (.ifCond .eq 18, 3) := by decide +kernel
theorem dX10_left_12 : decode cX10_left 12 = .ok (.aload_n 0, 1) := by decide +kernel
theorem dX10_left_13 : decode cX10_left 13 = .ok (.getfield 7, 3) := by decide +kernel
theorem dX10_left_16 : decode cX10_left 16 = .ok (.sipush 179, 3) := by decide +kernel
theorem dX10_left_19 : decode cX10_left 19 = .ok (.iload_n 1, 1) := by decide +kernel
theorem dX10_left_20 : decode cX10_left 20 = .ok (.iadd, 1) := by decide +kernel
theorem dX10_left_21 : decode cX10_left 21 = .ok (.iconst 1, 1) := by decide +kernel
theorem dX10_left_22 : decode cX10_left 22 = .ok (.isub, 1) := by decide +kernel
theorem dX10_left_23 : decode cX10_left 23 = .ok (.iaload, 1) := by decide +kernel
theorem dX10_left_24 : decode cX10_left 24 = .ok (.goto 9, 3) := by decide +kernel
theorem dX10_left_27 : decode cX10_left 27 = .ok (.aload_n 0, 1) := by decide +kernel
theorem dX10_left_28 : decode cX10_left 28 = .ok (.bipush (-2), 2) := by decide +kernel
theorem dX10_left_30 : decode cX10_left 30 = .ok (.invokevirtual 72, 3) := by decide +kernel
theorem dX10_left_33 : decode cX10_left 33 = .ok (.ireturn, 1) := by decide +kernel
set_option maxRecDepth 20000 in
theorem ggX10_siteMany_X10_kind : GoodIn wsX10_siteMany wsX10_kind := goodIn_r _ [5] (by decide +kernel) (by decide +kernel)
set_option maxRecDepth 20000 in
theorem gX10_siteMany_X10_kind : GoodIn wsX10_siteMany (va_wsS RX10 111 yX10_kind wsX10_kind) := goodIn_app (goodIn_of _ (by decide +kernel)) ggX10_siteMany_X10_kind
theorem dX10_siteMany_0 : decode cX10_siteMany 0 = .ok (.iconst 0, 1) := by decide +kernel
theorem dX10_siteMany_1 : decode cX10_siteMany 1 = .ok (.istore_n 1, 1) := by decide +kernel
theorem dX10_siteMany_2 : decode cX10_siteMany 2 = .ok (.iconst 0, 1) := by decide +kernel
theorem dX10_siteMany_3 : decode cX10_siteMany 3 = .ok (.istore_n 2, 1) := by decide +kernel
theorem dX10_siteMany_4 : decode cX10_siteMany 4 = .ok (.iload_n 2, 1) := by decide +kernel
theorem dX10_siteMany_5 : decode cX10_siteMany 5 = .ok (.aload_n 0, 1) := by decide +kernel
theorem dX10_siteMany_6 : decode cX10_siteMany 6 = .ok (.getfield 7, 3) := by decide +kernel
theorem dX10_siteMany_9 : decode cX10_siteMany 9 = .ok (.sipush 148, 3) := by decide +kernel
theorem dX10_siteMany_12 : decode cX10_siteMany 12 = .ok (.iaload, 1) := by decide +kernel
theorem dX10_siteMany_13 : decode cX10_siteMany 13 = .ok (.if_icmp .ge 34, 3) := by decide +kernel
theorem dX10_siteMany_16 : decode cX10_siteMany 16 = .ok (.iload_n 1, 1) := by decide +kernel
theorem dX10_siteMany_17 : decode cX10_siteMany 17 = .ok (.aload_n 0, 1) := by decide +kernel
theorem dX10_siteMany_18 : decode cX10_siteMany 18 = .ok (.getfield 7, 3) := by decide +kernel
theorem dX10_siteMany_21 : decode cX10_siteMany 21 = .ok (.sipush 149, 3) := by decide +kernel
theorem dX10_siteMany_24 : decode cX10_siteMany 24 = .ok (.iload_n 2, 1) := by decide +kernel
theorem dX10_siteMany_25 : decode cX10_siteMany 25 = .ok (.iadd, 1) := by decide +kernel
theorem dX10_siteMany_26 : decode cX10_siteMany 26 = .ok (.iaload, 1) := by decide +kernel
theorem dX10_siteMany_27 : decode cX10_siteMany 27 = .ok (.invokestatic 111, 3) := by decide +kernel
theorem dX10_siteMany_30 : decode cX10_siteMany 30 = .ok (.iconst 3, 1) := by decide +kernel
theorem dX10_siteMany_31 : decode cX10_siteMany 31 = .ok (.if_icmp .ne 7, 3) := by decide +kernel
theorem dX10_siteMany_34 : decode cX10_siteMany 34 = .ok (.iconst 1, 1) := by decide +kernel
theorem dX10_siteMany_35 : decode cX10_siteMany 35 = .ok (.goto 4, 3) := by decide +kernel
theorem dX10_siteMany_38 : decode cX10_siteMany 38 = .ok (.iconst 0, 1) := by decide +kernel
theorem dX10_siteMany_39 : decode cX10_siteMany 39 = .ok (.iadd, 1) := by decide +kernel
theorem dX10_siteMany_40 : decode cX10_siteMany 40 = .ok (.istore_n 1, 1) := by decide +kernel
theorem dX10_siteMany_41 : decode cX10_siteMany 41 = .ok (.iinc 2 1, 3) := by decide +kernel
theorem dX10_siteMany_44 : decode cX10_siteMany 44 = .ok (.goto (-40), 3) := by decide +kernel
theorem dX10_siteMany_47 : decode cX10_siteMany 47 = .ok (.iload_n 1, 1) := by decide +kernel
theorem dX10_siteMany_48 : decode cX10_siteMany 48 = .ok (.ireturn, 1) := by decide +kernel
set_option maxRecDepth 20000 in
theorem ggX10_sites_X10_siteMany : GoodIn wsX10_sites wsX10_siteMany := goodIn_r _ [5, 6, 7, 8, 4, 9, 10, 11, 12, 13, 14, 15, 16, 17, 18, 19, 20, 21, 22, 23, 24, 25, 26, 27, 28, 29, 30, 31, 32] (by decide +kernel) (by decide +kernel)
set_option maxRecDepth 20000 in
theorem gX10_sites_X10_siteMany : GoodIn wsX10_sites (wsV RX10 222 RX10 yX10_siteMany wsX10_siteMany) := goodIn_app (goodIn_of _ (by decide +kernel)) ggX10_sites_X10_siteMany
theorem dX10_sites_0 : decode cX10_sites 0 = .ok (.aload_n 0, 1) := by decide +kernel
theorem dX10_sites_1 : decode cX10_sites 1 = .ok (.invokevirtual 222, 3) := by decide +kernel
theorem dX10_sites_4 : decode cX10_sites 4 = .ok (.ireturn, 1) := by decide +kernel
theorem dX10_nodes_0 : decode cX10_nodes 0 = .ok (.aload_n 0, 1) := by decide +kernel
theorem dX10_nodes_1 : decode cX10_nodes 1 = .ok (.getfield 7, 3) := by decide +kernel
theorem dX10_nodes_4 : decode cX10_nodes 4 = .ok (.sipush 148, 3) := by decide +kernel
theorem dX10_nodes_7 : decode cX10_nodes 7 = .ok (.iaload, 1) := by decide +kernel
theorem dX10_nodes_8 : decode cX10_nodes 8 = .ok (.ireturn, 1) := by decide +kernel
set_option maxRecDepth 20000 in
theorem ggX10_value_X10_in : GoodIn wsX10_value wsX10_in := goodIn_r _ [7] (by decide +kernel) (by decide +kernel)
set_option maxRecDepth 20000 in
theorem gX10_value_X10_in : GoodIn wsX10_value (va_wsS RX10 55 yX10_in wsX10_in) := goodIn_app (goodIn_of _ (by decide +kernel)) ggX10_value_X10_in
set_option maxRecDepth 20000 in
theorem ggX10_value_X10_error : GoodIn wsX10_value wsX10_error := goodIn_r _ [11, 12, 26, 27, 28, 29, 30, 31, 32, 33, 34, 35, 36, 37, 38, 39, 40, 41, 42, 43, 44, 45, 46, 47, 48] (by decide +kernel) (by decide +kernel)
set_option maxRecDepth 20000 in
theorem gX10_value_X10_error : GoodIn wsX10_value (wsV RX10 72 RX10 yX10_error wsX10_error) := goodIn_app (goodIn_of _ (by decide +kernel)) ggX10_value_X10_error
set_option maxRecDepth 20000 in
theorem ggX10_value_X10_kind : GoodIn wsX10_value wsX10_kind := goodIn_r _ [15] (by decide +kernel) (by decide +kernel)
set_option maxRecDepth 20000 in
theorem gX10_value_X10_kind : GoodIn wsX10_value (va_wsS RX10 111 yX10_kind wsX10_kind) := goodIn_app (goodIn_of _ (by decide +kernel)) ggX10_value_X10_kind
set_option maxRecDepth 20000 in
theorem ggX10_value_X10_which : GoodIn wsX10_value wsX10_which := goodIn_r _ [18] (by decide +kernel) (by decide +kernel)
set_option maxRecDepth 20000 in
theorem gX10_value_X10_which : GoodIn wsX10_value (va_wsS RX10 114 yX10_which wsX10_which) := goodIn_app (goodIn_of _ (by decide +kernel)) ggX10_value_X10_which
set_option maxRecDepth 20000 in
theorem ggX10_value_X10_function : GoodIn wsX10_value wsX10_function := goodIn_r _ [22, 13, 14, 6, 15, 16, 17, 18] (by decide +kernel) (by decide +kernel)
set_option maxRecDepth 20000 in
theorem gX10_value_X10_function : GoodIn wsX10_value (wsV RX10 154 RX10 yX10_function wsX10_function) := goodIn_app (goodIn_of _ (by decide +kernel)) ggX10_value_X10_function
set_option maxRecDepth 20000 in
theorem ggX10_value_X10_arguments : GoodIn wsX10_value wsX10_arguments := goodIn_r _ [25] (by decide +kernel) (by decide +kernel)
set_option maxRecDepth 20000 in
theorem gX10_value_X10_arguments : GoodIn wsX10_value (va_wsS RX10 167 yX10_arguments wsX10_arguments) := goodIn_app (goodIn_of _ (by decide +kernel)) ggX10_value_X10_arguments
theorem dX10_value_0 : decode cX10_value 0 = .ok (.iload_n 1, 1) := by decide +kernel
theorem dX10_value_1 : decode cX10_value 1 = .ok (.i2l, 1) := by decide +kernel
theorem dX10_value_2 : decode cX10_value 2 = .ok (.lconst 0, 1) := by decide +kernel
theorem dX10_value_3 : decode cX10_value 3 = .ok (.ldc2_w 225, 3) := by decide +kernel
theorem dX10_value_6 : decode cX10_value 6 = .ok (.invokestatic 55, 3) := by decide +kernel
theorem dX10_value_9 : decode cX10_value 9 = .ok (.ifCond .eq 15, 3) := by decide +kernel
theorem dX10_value_12 : decode cX10_value 12 = .ok (.iload_n 2, 1) := by decide +kernel
theorem dX10_value_13 : decode cX10_value 13 = .ok (.i2l, 1) := by decide +kernel
theorem dX10_value_14 : decode cX10_value 14 = .ok (.lconst 0, 1) := by decide +kernel
theorem dX10_value_15 : decode cX10_value 15 = .ok (.ldc2_w 225, 3) := by decide +kernel
theorem dX10_value_18 : decode cX10_value 18 = .ok (.invokestatic 55, 3) := by decide +kernel
theorem dX10_value_21 : decode cX10_value 21 = .ok (.ifCond .ne 10, 3) := by decide +kernel
theorem dX10_value_24 : decode cX10_value 24 = .ok (.aload_n 0, 1) := by decide +kernel
theorem dX10_value_25 : decode cX10_value 25 = .ok (.bipush (-2), 2) := by decide +kernel
theorem dX10_value_27 : decode cX10_value 27 = .ok (.invokevirtual 72, 3) := by decide +kernel
theorem dX10_value_30 : decode cX10_value 30 = .ok (.ireturn, 1) := by decide +kernel
theorem dX10_value_31 : decode cX10_value 31 = .ok (.iconst 0, 1) := by decide +kernel
theorem dX10_value_32 : decode cX10_value 32 = .ok (.istore_n 3, 1) := by decide +kernel
theorem dX10_value_33 : decode cX10_value 33 = .ok (.aload_n 0, 1) := by decide +kernel
theorem dX10_value_34 : decode cX10_value 34 = .ok (.getfield 7, 3) := by decide +kernel
theorem dX10_value_37 : decode cX10_value 37 = .ok (.sipush 148, 3) := by decide +kernel
theorem dX10_value_40 : decode cX10_value 40 = .ok (.iaload, 1) := by decide +kernel
theorem dX10_value_41 : decode cX10_value 41 = .ok (.iconst 1, 1) := by decide +kernel
theorem dX10_value_42 : decode cX10_value 42 = .ok (.isub, 1) := by decide +kernel
theorem dX10_value_43 : decode cX10_value 43 = .ok (.istore 4, 2) := by decide +kernel
theorem dX10_value_45 : decode cX10_value 45 = .ok (.iload 4, 2) := by decide +kernel
theorem dX10_value_47 : decode cX10_value 47 = .ok (.ifCond .lt 143, 3) := by decide +kernel
theorem dX10_value_50 : decode cX10_value 50 = .ok (.aload_n 0, 1) := by decide +kernel
theorem dX10_value_51 : decode cX10_value 51 = .ok (.getfield 7, 3) := by decide +kernel
theorem dX10_value_54 : decode cX10_value 54 = .ok (.sipush 149, 3) := by decide +kernel
theorem dX10_value_57 : decode cX10_value 57 = .ok (.iload 4, 2) := by decide +kernel
theorem dX10_value_59 : decode cX10_value 59 = .ok (.iadd, 1) := by decide +kernel
theorem dX10_value_60 : decode cX10_value 60 = .ok (.iaload, 1) := by decide +kernel
theorem dX10_value_61 : decode cX10_value 61 = .ok (.istore 5, 2) := by decide +kernel
theorem dX10_value_63 : decode cX10_value 63 = .ok (.iload 5, 2) := by decide +kernel
theorem dX10_value_65 : decode cX10_value 65 = .ok (.invokestatic 111, 3) := by decide +kernel
theorem dX10_value_68 : decode cX10_value 68 = .ok (.ifCond .ne 11, 3) := by decide +kernel
theorem dX10_value_71 : decode cX10_value 71 = .ok (.iload 5, 2) := by decide +kernel
theorem dX10_value_73 : decode cX10_value 73 = .ok (.invokestatic 114, 3) := by decide +kernel
theorem dX10_value_76 : decode cX10_value 76 = .ok (.goto 17, 3) := by decide +kernel
theorem dX10_value_79 : decode cX10_value 79 = .ok (.iload 5, 2) := by decide +kernel
theorem dX10_value_81 : decode cX10_value 81 = .ok (.invokestatic 111, 3) := by decide +kernel
theorem dX10_value_84 : decode cX10_value 84 = .ok (.iconst 1, 1) := by decide +kernel
theorem dX10_value_85 : decode cX10_value 85 = .ok (.if_icmp .ne 7, 3) := by decide +kernel
theorem dX10_value_88 : decode cX10_value 88 = .ok (.iload_n 1, 1) := by decide +kernel
theorem dX10_value_89 : decode cX10_value 89 = .ok (.goto 4, 3) := by decide +kernel
theorem dX10_value_92 : decode cX10_value 92 = .ok (.iload_n 2, 1) := by decide +kernel
theorem dX10_value_93 : decode cX10_value 93 = .ok (.istore 6, 2) := by decide +kernel
theorem dX10_value_95 : decode cX10_value 95 = .ok (.iload 5, 2) := by decide +kernel
theorem dX10_value_97 : decode cX10_value 97 = .ok (.invokestatic 111, 3) := by decide +kernel
theorem dX10_value_100 : decode cX10_value 100 = .ok (.iconst 2, 1) := by decide +kernel
theorem dX10_value_101 : decode cX10_value 101 = .ok (.if_icmp .le 68, 3) := by decide +kernel
theorem dX10_value_104 : decode cX10_value 104 = .ok (.aload_n 0, 1) := by decide +kernel
theorem dX10_value_105 : decode cX10_value 105 = .ok (.iload 5, 2) := by decide +kernel
theorem dX10_value_107 : decode cX10_value 107 = .ok (.invokevirtual 154, 3) := by decide +kernel
theorem dX10_value_110 : decode cX10_value 110 = .ok (.iconst 2, 1) := by decide +kernel
theorem dX10_value_111 : decode cX10_value 111 = .ok (.iadd, 1) := by decide +kernel
theorem dX10_value_112 : decode cX10_value 112 = .ok (.istore 7, 2) := by decide +kernel
theorem dX10_value_114 : decode cX10_value 114 = .ok (.aload_n 0, 1) := by decide +kernel
theorem dX10_value_115 : decode cX10_value 115 = .ok (.getfield 7, 3) := by decide +kernel
theorem dX10_value_118 : decode cX10_value 118 = .ok (.iload 7, 2) := by decide +kernel
theorem dX10_value_120 : decode cX10_value 120 = .ok (.iaload, 1) := by decide +kernel
theorem dX10_value_121 : decode cX10_value 121 = .ok (.istore 6, 2) := by decide +kernel
theorem dX10_value_123 : decode cX10_value 123 = .ok (.iconst 0, 1) := by decide +kernel
theorem dX10_value_124 : decode cX10_value 124 = .ok (.istore 8, 2) := by decide +kernel
theorem dX10_value_126 : decode cX10_value 126 = .ok (.iload 8, 2) := by decide +kernel
theorem dX10_value_128 : decode cX10_value 128 = .ok (.iload 5, 2) := by decide +kernel
theorem dX10_value_130 : decode cX10_value 130 = .ok (.invokestatic 167, 3) := by decide +kernel
theorem dX10_value_133 : decode cX10_value 133 = .ok (.if_icmp .ge 36, 3) := by decide +kernel
theorem dX10_value_136 : decode cX10_value 136 = .ok (.iinc 3 (-1), 3) := by decide +kernel
theorem dX10_value_139 : decode cX10_value 139 = .ok (.iload 6, 2) := by decide +kernel
theorem dX10_value_141 : decode cX10_value 141 = .ok (.aload_n 0, 1) := by decide +kernel
theorem dX10_value_142 : decode cX10_value 142 = .ok (.getfield 7, 3) := by decide +kernel
theorem dX10_value_145 : decode cX10_value 145 = .ok (.iload 7, 2) := by decide +kernel
theorem dX10_value_147 : decode cX10_value 147 = .ok (.iconst 1, 1) := by decide +kernel
theorem dX10_value_148 : decode cX10_value 148 = .ok (.iadd, 1) := by decide +kernel
theorem dX10_value_149 : decode cX10_value 149 = .ok (.iload 8, 2) := by decide +kernel
theorem dX10_value_151 : decode cX10_value 151 = .ok (.iadd, 1) := by decide +kernel
theorem dX10_value_152 : decode cX10_value 152 = .ok (.iaload, 1) := by decide +kernel
theorem dX10_value_153 : decode cX10_value 153 = .ok (.aload_n 0, 1) := by decide +kernel
theorem dX10_value_154 : decode cX10_value 154 = .ok (.getfield 43, 3) := by decide +kernel
theorem dX10_value_157 : decode cX10_value 157 = .ok (.iload_n 3, 1) := by decide +kernel
theorem dX10_value_158 : decode cX10_value 158 = .ok (.iaload, 1) := by decide +kernel
theorem dX10_value_159 : decode cX10_value 159 = .ok (.imul, 1) := by decide +kernel
theorem dX10_value_160 : decode cX10_value 160 = .ok (.iadd, 1) := by decide +kernel
theorem dX10_value_161 : decode cX10_value 161 = .ok (.istore 6, 2) := by decide +kernel
theorem dX10_value_163 : decode cX10_value 163 = .ok (.iinc 8 1, 3) := by decide +kernel
theorem dX10_value_166 : decode cX10_value 166 = .ok (.goto (-40), 3) := by decide +kernel
theorem dX10_value_169 : decode cX10_value 169 = .ok (.aload_n 0, 1) := by decide +kernel
theorem dX10_value_170 : decode cX10_value 170 = .ok (.getfield 43, 3) := by decide +kernel
theorem dX10_value_173 : decode cX10_value 173 = .ok (.iload_n 3, 1) := by decide +kernel
theorem dX10_value_174 : decode cX10_value 174 = .ok (.iload 6, 2) := by decide +kernel
theorem dX10_value_176 : decode cX10_value 176 = .ok (.sipush 1000, 3) := by decide +kernel
theorem dX10_value_179 : decode cX10_value 179 = .ok (.irem, 1) := by decide +kernel
theorem dX10_value_180 : decode cX10_value 180 = .ok (.iastore, 1) := by decide +kernel
theorem dX10_value_181 : decode cX10_value 181 = .ok (.iinc 3 1, 3) := by decide +kernel
theorem dX10_value_184 : decode cX10_value 184 = .ok (.iinc 4 (-1), 3) := by decide +kernel
theorem dX10_value_187 : decode cX10_value 187 = .ok (.goto (-142), 3) := by decide +kernel
theorem dX10_value_190 : decode cX10_value 190 = .ok (.aload_n 0, 1) := by decide +kernel
theorem dX10_value_191 : decode cX10_value 191 = .ok (.getfield 43, 3) := by decide +kernel
theorem dX10_value_194 : decode cX10_value 194 = .ok (.iconst 0, 1) := by decide +kernel
theorem dX10_value_195 : decode cX10_value 195 = .ok (.iaload, 1) := by decide +kernel
theorem dX10_value_196 : decode cX10_value 196 = .ok (.ireturn, 1) := by decide +kernel
theorem dX10_tells_0 : decode cX10_tells 0 = .ok (.aload_n 0, 1) := by decide +kernel
theorem dX10_tells_1 : decode cX10_tells 1 = .ok (.getfield 46, 3) := by decide +kernel
theorem dX10_tells_4 : decode cX10_tells 4 = .ok (.aload_n 0, 1) := by decide +kernel
theorem dX10_tells_5 : decode cX10_tells 5 = .ok (.getfield 227, 3) := by decide +kernel
theorem dX10_tells_8 : decode cX10_tells 8 = .ok (.iload_n 1, 1) := by decide +kernel
theorem dX10_tells_9 : decode cX10_tells 9 = .ok (.iastore, 1) := by decide +kernel
theorem dX10_tells_10 : decode cX10_tells 10 = .ok (.aload_n 0, 1) := by decide +kernel
theorem dX10_tells_11 : decode cX10_tells 11 = .ok (.dup, 1) := by decide +kernel
theorem dX10_tells_12 : decode cX10_tells 12 = .ok (.getfield 227, 3) := by decide +kernel
theorem dX10_tells_15 : decode cX10_tells 15 = .ok (.iconst 1, 1) := by decide +kernel
theorem dX10_tells_16 : decode cX10_tells 16 = .ok (.iadd, 1) := by decide +kernel
theorem dX10_tells_17 : decode cX10_tells 17 = .ok (.putfield 227, 3) := by decide +kernel
theorem dX10_tells_20 : decode cX10_tells 20 = .ok (.return_, 1) := by decide +kernel
set_option maxRecDepth 20000 in
theorem ggX10_tellsNode_X10_which : GoodIn wsX10_tellsNode wsX10_which := goodIn_r _ [4] (by decide +kernel) (by decide +kernel)
set_option maxRecDepth 20000 in
theorem gX10_tellsNode_X10_which : GoodIn wsX10_tellsNode (va_wsS RX10 114 yX10_which wsX10_which) := goodIn_app (goodIn_of _ (by decide +kernel)) ggX10_tellsNode_X10_which
set_option maxRecDepth 20000 in
theorem ggX10_tellsNode_X10_kind : GoodIn wsX10_tellsNode wsX10_kind := goodIn_r _ [7] (by decide +kernel) (by decide +kernel)
set_option maxRecDepth 20000 in
theorem gX10_tellsNode_X10_kind : GoodIn wsX10_tellsNode (va_wsS RX10 111 yX10_kind wsX10_kind) := goodIn_app (goodIn_of _ (by decide +kernel)) ggX10_tellsNode_X10_kind
set_option maxRecDepth 20000 in
theorem ggX10_tellsNode_X10_tells : GoodIn wsX10_tellsNode wsX10_tells := goodIn_r _ [11, 12, 13, 14, 15, 16, 17, 18, 19, 20, 21, 22, 23, 24, 25, 26, 27, 28, 29, 30, 31, 32, 33, 34, 35, 36] (by decide +kernel) (by decide +kernel)
set_option maxRecDepth 20000 in
theorem gX10_tellsNode_X10_tells : GoodIn wsX10_tellsNode (wsV RX10 230 RX10 yX10_tells wsX10_tells) := goodIn_app (goodIn_of _ (by decide +kernel)) ggX10_tellsNode_X10_tells
theorem dX10_tellsNode_0 : decode cX10_tellsNode 0 = .ok (.iload_n 1, 1) := by decide +kernel
theorem dX10_tellsNode_1 : decode cX10_tellsNode 1 = .ok (.invokestatic 114, 3) := by decide +kernel
theorem dX10_tellsNode_4 : decode cX10_tellsNode 4 = .ok (.istore_n 2, 1) := by decide +kernel
theorem dX10_tellsNode_5 : decode cX10_tellsNode 5 = .ok (.iload_n 1, 1) := by decide +kernel
theorem dX10_tellsNode_6 : decode cX10_tellsNode 6 = .ok (.invokestatic 111, 3) := by decide +kernel
theorem dX10_tellsNode_9 : decode cX10_tellsNode 9 = .ok (.tableswitch 76 0 2 #[27, 58, 67], 27) := by decide +kernel
theorem dX10_tellsNode_36 : decode cX10_tellsNode 36 = .ok (.iload_n 2, 1) := by decide +kernel
theorem dX10_tellsNode_37 : decode cX10_tellsNode 37 = .ok (.bipush 9, 2) := by decide +kernel
theorem dX10_tellsNode_39 : decode cX10_tellsNode 39 = .ok (.if_icmp .le 14, 3) := by decide +kernel
theorem dX10_tellsNode_42 : decode cX10_tellsNode 42 = .ok (.aload_n 0, 1) := by decide +kernel
theorem dX10_tellsNode_43 : decode cX10_tellsNode 43 = .ok (.bipush 48, 2) := by decide +kernel
theorem dX10_tellsNode_45 : decode cX10_tellsNode 45 = .ok (.iload_n 2, 1) := by decide +kernel
theorem dX10_tellsNode_46 : decode cX10_tellsNode 46 = .ok (.bipush 10, 2) := by decide +kernel
theorem dX10_tellsNode_48 : decode cX10_tellsNode 48 = .ok (.idiv, 1) := by decide +kernel
theorem dX10_tellsNode_49 : decode cX10_tellsNode 49 = .ok (.iadd, 1) := by decide +kernel
theorem dX10_tellsNode_50 : decode cX10_tellsNode 50 = .ok (.invokevirtual 230, 3) := by decide +kernel
theorem dX10_tellsNode_53 : decode cX10_tellsNode 53 = .ok (.aload_n 0, 1) := by decide +kernel
theorem dX10_tellsNode_54 : decode cX10_tellsNode 54 = .ok (.bipush 48, 2) := by decide +kernel
theorem dX10_tellsNode_56 : decode cX10_tellsNode 56 = .ok (.iload_n 2, 1) := by decide +kernel
theorem dX10_tellsNode_57 : decode cX10_tellsNode 57 = .ok (.bipush 10, 2) := by decide +kernel
theorem dX10_tellsNode_59 : decode cX10_tellsNode 59 = .ok (.irem, 1) := by decide +kernel
theorem dX10_tellsNode_60 : decode cX10_tellsNode 60 = .ok (.iadd, 1) := by decide +kernel
theorem dX10_tellsNode_61 : decode cX10_tellsNode 61 = .ok (.invokevirtual 230, 3) := by decide +kernel
theorem dX10_tellsNode_64 : decode cX10_tellsNode 64 = .ok (.goto 61, 3) := by decide +kernel
theorem dX10_tellsNode_67 : decode cX10_tellsNode 67 = .ok (.aload_n 0, 1) := by decide +kernel
theorem dX10_tellsNode_68 : decode cX10_tellsNode 68 = .ok (.bipush 120, 2) := by decide +kernel
theorem dX10_tellsNode_70 : decode cX10_tellsNode 70 = .ok (.invokevirtual 230, 3) := by decide +kernel
theorem dX10_tellsNode_73 : decode cX10_tellsNode 73 = .ok (.goto 52, 3) := by decide +kernel
theorem dX10_tellsNode_76 : decode cX10_tellsNode 76 = .ok (.aload_n 0, 1) := by decide +kernel
theorem dX10_tellsNode_77 : decode cX10_tellsNode 77 = .ok (.bipush 121, 2) := by decide +kernel
theorem dX10_tellsNode_79 : decode cX10_tellsNode 79 = .ok (.invokevirtual 230, 3) := by decide +kernel
theorem dX10_tellsNode_82 : decode cX10_tellsNode 82 = .ok (.goto 43, 3) := by decide +kernel
theorem dX10_tellsNode_85 : decode cX10_tellsNode 85 = .ok (.aload_n 0, 1) := by decide +kernel
theorem dX10_tellsNode_86 : decode cX10_tellsNode 86 = .ok (.iload_n 1, 1) := by decide +kernel
theorem dX10_tellsNode_87 : decode cX10_tellsNode 87 = .ok (.invokestatic 111, 3) := by decide +kernel
theorem dX10_tellsNode_90 : decode cX10_tellsNode 90 = .ok (.iconst 3, 1) := by decide +kernel
theorem dX10_tellsNode_91 : decode cX10_tellsNode 91 = .ok (.if_icmp .ne 8, 3) := by decide +kernel
theorem dX10_tellsNode_94 : decode cX10_tellsNode 94 = .ok (.bipush 97, 2) := by decide +kernel
theorem dX10_tellsNode_96 : decode cX10_tellsNode 96 = .ok (.goto 18, 3) := by decide +kernel
theorem dX10_tellsNode_99 : decode cX10_tellsNode 99 = .ok (.iload_n 1, 1) := by decide +kernel
theorem dX10_tellsNode_100 : decode cX10_tellsNode 100 = .ok (.invokestatic 111, 3) := by decide +kernel
theorem dX10_tellsNode_103 : decode cX10_tellsNode 103 = .ok (.iconst 4, 1) := by decide +kernel
theorem dX10_tellsNode_104 : decode cX10_tellsNode 104 = .ok (.if_icmp .ne 8, 3) := by decide +kernel
theorem dX10_tellsNode_107 : decode cX10_tellsNode 107 = .ok (.bipush 65, 2) := by decide +kernel
theorem dX10_tellsNode_109 : decode cX10_tellsNode 109 = .ok (.goto 5, 3) := by decide +kernel
theorem dX10_tellsNode_112 : decode cX10_tellsNode 112 = .ok (.bipush 112, 2) := by decide +kernel
theorem dX10_tellsNode_114 : decode cX10_tellsNode 114 = .ok (.iload_n 2, 1) := by decide +kernel
theorem dX10_tellsNode_115 : decode cX10_tellsNode 115 = .ok (.iadd, 1) := by decide +kernel
theorem dX10_tellsNode_116 : decode cX10_tellsNode 116 = .ok (.invokevirtual 230, 3) := by decide +kernel
theorem dX10_tellsNode_119 : decode cX10_tellsNode 119 = .ok (.aload_n 0, 1) := by decide +kernel
theorem dX10_tellsNode_120 : decode cX10_tellsNode 120 = .ok (.bipush 40, 2) := by decide +kernel
theorem dX10_tellsNode_122 : decode cX10_tellsNode 122 = .ok (.invokevirtual 230, 3) := by decide +kernel
theorem dX10_tellsNode_125 : decode cX10_tellsNode 125 = .ok (.return_, 1) := by decide +kernel
set_option maxRecDepth 20000 in
theorem ggX10_tellsAll_X10_tellsNode : GoodIn wsX10_tellsAll wsX10_tellsNode := goodIn_r _ [9, 10, 11, 8, 12, 13, 14, 15, 16, 17, 18, 19, 20, 1, 28, 29, 30, 31, 32, 33, 34, 35, 36, 37, 38, 39, 40, 41, 42, 43, 44, 45, 46, 47, 48, 49, 50] (by decide +kernel) (by decide +kernel)
set_option maxRecDepth 20000 in
theorem gX10_tellsAll_X10_tellsNode : GoodIn wsX10_tellsAll (wsV RX10 233 RX10 yX10_tellsNode wsX10_tellsNode) := goodIn_app (goodIn_of _ (by decide +kernel)) ggX10_tellsAll_X10_tellsNode
set_option maxRecDepth 20000 in
theorem ggX10_tellsAll_X10_arguments : GoodIn wsX10_tellsAll wsX10_arguments := goodIn_r _ [23] (by decide +kernel) (by decide +kernel)
set_option maxRecDepth 20000 in
theorem gX10_tellsAll_X10_arguments : GoodIn wsX10_tellsAll (va_wsS RX10 167 yX10_arguments wsX10_arguments) := goodIn_app (goodIn_of _ (by decide +kernel)) ggX10_tellsAll_X10_arguments
set_option maxRecDepth 20000 in
theorem ggX10_tellsAll_X10_kind : GoodIn wsX10_tellsAll wsX10_kind := goodIn_r _ [15] (by decide +kernel) (by decide +kernel)
set_option maxRecDepth 20000 in
theorem gX10_tellsAll_X10_kind : GoodIn wsX10_tellsAll (va_wsS RX10 111 yX10_kind wsX10_kind) := goodIn_app (goodIn_of _ (by decide +kernel)) ggX10_tellsAll_X10_kind
set_option maxRecDepth 20000 in
theorem ggX10_tellsAll_X10_tells : GoodIn wsX10_tellsAll wsX10_tells := goodIn_r _ [19, 20, 1, 28, 29, 30, 31, 32, 33, 34, 35, 36, 37, 38, 39, 40, 41, 42, 43, 44, 45, 46, 47, 48, 49, 50] (by decide +kernel) (by decide +kernel)
set_option maxRecDepth 20000 in
theorem gX10_tellsAll_X10_tells : GoodIn wsX10_tellsAll (wsV RX10 230 RX10 yX10_tells wsX10_tells) := goodIn_app (goodIn_of _ (by decide +kernel)) ggX10_tellsAll_X10_tells
set_option maxRecDepth 20000 in
theorem ggX10_tellsAll_X10_tellsEnds : GoodIn wsX10_tellsAll wsX10_tellsEnds := goodIn_r _ [27, 2, 4, 16, 17, 18, 8, 19, 20, 1, 28, 29, 30, 31, 32, 33, 34, 35, 36, 37, 38, 39, 40, 41, 42, 43, 44, 45, 46, 47, 48, 49, 50] (by decide +kernel) (by decide +kernel)
set_option maxRecDepth 20000 in
theorem gX10_tellsAll_X10_tellsEnds : GoodIn wsX10_tellsAll (wsV RX10 236 RX10 yX10_tellsEnds wsX10_tellsEnds) := goodIn_app (goodIn_of _ (by decide +kernel)) ggX10_tellsAll_X10_tellsEnds
theorem dX10_tellsAll_0 : decode cX10_tellsAll 0 = .ok (.aload_n 0, 1) := by decide +kernel
theorem dX10_tellsAll_1 : decode cX10_tellsAll 1 = .ok (.iconst 0, 1) := by decide +kernel
theorem dX10_tellsAll_2 : decode cX10_tellsAll 2 = .ok (.putfield 227, 3) := by decide +kernel
theorem dX10_tellsAll_5 : decode cX10_tellsAll 5 = .ok (.aload_n 0, 1) := by decide +kernel
theorem dX10_tellsAll_6 : decode cX10_tellsAll 6 = .ok (.iconst 0, 1) := by decide +kernel
theorem dX10_tellsAll_7 : decode cX10_tellsAll 7 = .ok (.putfield 157, 3) := by decide +kernel
theorem dX10_tellsAll_10 : decode cX10_tellsAll 10 = .ok (.iconst 0, 1) := by decide +kernel
theorem dX10_tellsAll_11 : decode cX10_tellsAll 11 = .ok (.istore_n 1, 1) := by decide +kernel
theorem dX10_tellsAll_12 : decode cX10_tellsAll 12 = .ok (.iload_n 1, 1) := by decide +kernel
theorem dX10_tellsAll_13 : decode cX10_tellsAll 13 = .ok (.aload_n 0, 1) := by decide +kernel
theorem dX10_tellsAll_14 : decode cX10_tellsAll 14 = .ok (.getfield 7, 3) := by decide +kernel
theorem dX10_tellsAll_17 : decode cX10_tellsAll 17 = .ok (.sipush 148, 3) := by decide +kernel
theorem dX10_tellsAll_20 : decode cX10_tellsAll 20 = .ok (.iaload, 1) := by decide +kernel
theorem dX10_tellsAll_21 : decode cX10_tellsAll 21 = .ok (.if_icmp .ge 76, 3) := by decide +kernel
theorem dX10_tellsAll_24 : decode cX10_tellsAll 24 = .ok (.aload_n 0, 1) := by decide +kernel
theorem dX10_tellsAll_25 : decode cX10_tellsAll 25 = .ok (.getfield 7, 3) := by decide +kernel
theorem dX10_tellsAll_28 : decode cX10_tellsAll 28 = .ok (.sipush 149, 3) := by decide +kernel
theorem dX10_tellsAll_31 : decode cX10_tellsAll 31 = .ok (.iload_n 1, 1) := by decide +kernel
theorem dX10_tellsAll_32 : decode cX10_tellsAll 32 = .ok (.iadd, 1) := by decide +kernel
theorem dX10_tellsAll_33 : decode cX10_tellsAll 33 = .ok (.iaload, 1) := by decide +kernel
theorem dX10_tellsAll_34 : decode cX10_tellsAll 34 = .ok (.istore_n 2, 1) := by decide +kernel
theorem dX10_tellsAll_35 : decode cX10_tellsAll 35 = .ok (.aload_n 0, 1) := by decide +kernel
theorem dX10_tellsAll_36 : decode cX10_tellsAll 36 = .ok (.iload_n 2, 1) := by decide +kernel
theorem dX10_tellsAll_37 : decode cX10_tellsAll 37 = .ok (.invokevirtual 233, 3) := by decide +kernel
theorem dX10_tellsAll_40 : decode cX10_tellsAll 40 = .ok (.iload_n 2, 1) := by decide +kernel
theorem dX10_tellsAll_41 : decode cX10_tellsAll 41 = .ok (.invokestatic 167, 3) := by decide +kernel
theorem dX10_tellsAll_44 : decode cX10_tellsAll 44 = .ok (.ifCond .le 29, 3) := by decide +kernel
theorem dX10_tellsAll_47 : decode cX10_tellsAll 47 = .ok (.aload_n 0, 1) := by decide +kernel
theorem dX10_tellsAll_48 : decode cX10_tellsAll 48 = .ok (.getfield 25, 3) := by decide +kernel
theorem dX10_tellsAll_51 : decode cX10_tellsAll 51 = .ok (.aload_n 0, 1) := by decide +kernel
theorem dX10_tellsAll_52 : decode cX10_tellsAll 52 = .ok (.getfield 157, 3) := by decide +kernel
theorem dX10_tellsAll_55 : decode cX10_tellsAll 55 = .ok (.iload_n 2, 1) := by decide +kernel
theorem dX10_tellsAll_56 : decode cX10_tellsAll 56 = .ok (.invokestatic 167, 3) := by decide +kernel
theorem dX10_tellsAll_59 : decode cX10_tellsAll 59 = .ok (.iastore, 1) := by decide +kernel
theorem dX10_tellsAll_60 : decode cX10_tellsAll 60 = .ok (.aload_n 0, 1) := by decide +kernel
theorem dX10_tellsAll_61 : decode cX10_tellsAll 61 = .ok (.dup, 1) := by decide +kernel
theorem dX10_tellsAll_62 : decode cX10_tellsAll 62 = .ok (.getfield 157, 3) := by decide +kernel
theorem dX10_tellsAll_65 : decode cX10_tellsAll 65 = .ok (.iconst 1, 1) := by decide +kernel
theorem dX10_tellsAll_66 : decode cX10_tellsAll 66 = .ok (.iadd, 1) := by decide +kernel
theorem dX10_tellsAll_67 : decode cX10_tellsAll 67 = .ok (.putfield 157, 3) := by decide +kernel
theorem dX10_tellsAll_70 : decode cX10_tellsAll 70 = .ok (.goto 21, 3) := by decide +kernel
theorem dX10_tellsAll_73 : decode cX10_tellsAll 73 = .ok (.iload_n 2, 1) := by decide +kernel
theorem dX10_tellsAll_74 : decode cX10_tellsAll 74 = .ok (.invokestatic 111, 3) := by decide +kernel
theorem dX10_tellsAll_77 : decode cX10_tellsAll 77 = .ok (.iconst 2, 1) := by decide +kernel
theorem dX10_tellsAll_78 : decode cX10_tellsAll 78 = .ok (.if_icmp .le 9, 3) := by decide +kernel
theorem dX10_tellsAll_81 : decode cX10_tellsAll 81 = .ok (.aload_n 0, 1) := by decide +kernel
theorem dX10_tellsAll_82 : decode cX10_tellsAll 82 = .ok (.bipush 41, 2) := by decide +kernel
theorem dX10_tellsAll_84 : decode cX10_tellsAll 84 = .ok (.invokevirtual 230, 3) := by decide +kernel
theorem dX10_tellsAll_87 : decode cX10_tellsAll 87 = .ok (.aload_n 0, 1) := by decide +kernel
theorem dX10_tellsAll_88 : decode cX10_tellsAll 88 = .ok (.invokevirtual 236, 3) := by decide +kernel
theorem dX10_tellsAll_91 : decode cX10_tellsAll 91 = .ok (.iinc 1 1, 3) := by decide +kernel
theorem dX10_tellsAll_94 : decode cX10_tellsAll 94 = .ok (.goto (-82), 3) := by decide +kernel
theorem dX10_tellsAll_97 : decode cX10_tellsAll 97 = .ok (.return_, 1) := by decide +kernel
set_option maxRecDepth 20000 in
theorem ggX10_tellsEnds_X10_tells : GoodIn wsX10_tellsEnds wsX10_tells := goodIn_r _ [7, 8, 9, 10, 11, 12, 13, 14, 15, 16, 17, 18, 19, 20, 21, 22, 23, 24, 25, 26, 27, 28, 29, 30, 31, 32] (by decide +kernel) (by decide +kernel)
set_option maxRecDepth 20000 in
theorem gX10_tellsEnds_X10_tells : GoodIn wsX10_tellsEnds (wsV RX10 230 RX10 yX10_tells wsX10_tells) := goodIn_app (goodIn_of _ (by decide +kernel)) ggX10_tellsEnds_X10_tells
theorem dX10_tellsEnds_0 : decode cX10_tellsEnds 0 = .ok (.aload_n 0, 1) := by decide +kernel
theorem dX10_tellsEnds_1 : decode cX10_tellsEnds 1 = .ok (.getfield 157, 3) := by decide +kernel
theorem dX10_tellsEnds_4 : decode cX10_tellsEnds 4 = .ok (.ifCond .le 7, 3) := by decide +kernel
theorem dX10_tellsEnds_7 : decode cX10_tellsEnds 7 = .ok (.iconst 1, 1) := by decide +kernel
theorem dX10_tellsEnds_8 : decode cX10_tellsEnds 8 = .ok (.goto 4, 3) := by decide +kernel
theorem dX10_tellsEnds_11 : decode cX10_tellsEnds 11 = .ok (.iconst 0, 1) := by decide +kernel
theorem dX10_tellsEnds_12 : decode cX10_tellsEnds 12 = .ok (.istore_n 1, 1) := by decide +kernel
theorem dX10_tellsEnds_13 : decode cX10_tellsEnds 13 = .ok (.iload_n 1, 1) := by decide +kernel
theorem dX10_tellsEnds_14 : decode cX10_tellsEnds 14 = .ok (.ifCond .eq 91, 3) := by decide +kernel
theorem dX10_tellsEnds_17 : decode cX10_tellsEnds 17 = .ok (.aload_n 0, 1) := by decide +kernel
theorem dX10_tellsEnds_18 : decode cX10_tellsEnds 18 = .ok (.getfield 25, 3) := by decide +kernel
theorem dX10_tellsEnds_21 : decode cX10_tellsEnds 21 = .ok (.aload_n 0, 1) := by decide +kernel
theorem dX10_tellsEnds_22 : decode cX10_tellsEnds 22 = .ok (.getfield 157, 3) := by decide +kernel
theorem dX10_tellsEnds_25 : decode cX10_tellsEnds 25 = .ok (.iconst 1, 1) := by decide +kernel
theorem dX10_tellsEnds_26 : decode cX10_tellsEnds 26 = .ok (.isub, 1) := by decide +kernel
theorem dX10_tellsEnds_27 : decode cX10_tellsEnds 27 = .ok (.dup2, 1) := by decide +kernel
theorem dX10_tellsEnds_28 : decode cX10_tellsEnds 28 = .ok (.iaload, 1) := by decide +kernel
theorem dX10_tellsEnds_29 : decode cX10_tellsEnds 29 = .ok (.iconst 1, 1) := by decide +kernel
theorem dX10_tellsEnds_30 : decode cX10_tellsEnds 30 = .ok (.isub, 1) := by decide +kernel
theorem dX10_tellsEnds_31 : decode cX10_tellsEnds 31 = .ok (.iastore, 1) := by decide +kernel
theorem dX10_tellsEnds_32 : decode cX10_tellsEnds 32 = .ok (.aload_n 0, 1) := by decide +kernel
theorem dX10_tellsEnds_33 : decode cX10_tellsEnds 33 = .ok (.getfield 25, 3) := by decide +kernel
theorem dX10_tellsEnds_36 : decode cX10_tellsEnds 36 = .ok (.aload_n 0, 1) := by decide +kernel
theorem dX10_tellsEnds_37 : decode cX10_tellsEnds 37 = .ok (.getfield 157, 3) := by decide +kernel
theorem dX10_tellsEnds_40 : decode cX10_tellsEnds 40 = .ok (.iconst 1, 1) := by decide +kernel
theorem dX10_tellsEnds_41 : decode cX10_tellsEnds 41 = .ok (.isub, 1) := by decide +kernel
theorem dX10_tellsEnds_42 : decode cX10_tellsEnds 42 = .ok (.iaload, 1) := by decide +kernel
theorem dX10_tellsEnds_43 : decode cX10_tellsEnds 43 = .ok (.ifCond .ne 7, 3) := by decide +kernel
theorem dX10_tellsEnds_46 : decode cX10_tellsEnds 46 = .ok (.iconst 1, 1) := by decide +kernel
theorem dX10_tellsEnds_47 : decode cX10_tellsEnds 47 = .ok (.goto 4, 3) := by decide +kernel
theorem dX10_tellsEnds_50 : decode cX10_tellsEnds 50 = .ok (.iconst 0, 1) := by decide +kernel
theorem dX10_tellsEnds_51 : decode cX10_tellsEnds 51 = .ok (.istore_n 1, 1) := by decide +kernel
theorem dX10_tellsEnds_52 : decode cX10_tellsEnds 52 = .ok (.aload_n 0, 1) := by decide +kernel
theorem dX10_tellsEnds_53 : decode cX10_tellsEnds 53 = .ok (.iload_n 1, 1) := by decide +kernel
theorem dX10_tellsEnds_54 : decode cX10_tellsEnds 54 = .ok (.ifCond .eq 8, 3) := by decide +kernel
theorem dX10_tellsEnds_57 : decode cX10_tellsEnds 57 = .ok (.bipush 41, 2) := by decide +kernel
theorem dX10_tellsEnds_59 : decode cX10_tellsEnds 59 = .ok (.goto 5, 3) := by decide +kernel
theorem dX10_tellsEnds_62 : decode cX10_tellsEnds 62 = .ok (.bipush 44, 2) := by decide +kernel
theorem dX10_tellsEnds_64 : decode cX10_tellsEnds 64 = .ok (.invokevirtual 230, 3) := by decide +kernel
theorem dX10_tellsEnds_67 : decode cX10_tellsEnds 67 = .ok (.aload_n 0, 1) := by decide +kernel
theorem dX10_tellsEnds_68 : decode cX10_tellsEnds 68 = .ok (.dup, 1) := by decide +kernel
theorem dX10_tellsEnds_69 : decode cX10_tellsEnds 69 = .ok (.getfield 157, 3) := by decide +kernel
theorem dX10_tellsEnds_72 : decode cX10_tellsEnds 72 = .ok (.iload_n 1, 1) := by decide +kernel
theorem dX10_tellsEnds_73 : decode cX10_tellsEnds 73 = .ok (.ifCond .eq 7, 3) := by decide +kernel
theorem dX10_tellsEnds_76 : decode cX10_tellsEnds 76 = .ok (.iconst 1, 1) := by decide +kernel
theorem dX10_tellsEnds_77 : decode cX10_tellsEnds 77 = .ok (.goto 4, 3) := by decide +kernel
theorem dX10_tellsEnds_80 : decode cX10_tellsEnds 80 = .ok (.iconst 0, 1) := by decide +kernel
theorem dX10_tellsEnds_81 : decode cX10_tellsEnds 81 = .ok (.isub, 1) := by decide +kernel
theorem dX10_tellsEnds_82 : decode cX10_tellsEnds 82 = .ok (.putfield 157, 3) := by decide +kernel
theorem dX10_tellsEnds_85 : decode cX10_tellsEnds 85 = .ok (.iload_n 1, 1) := by decide +kernel
theorem dX10_tellsEnds_86 : decode cX10_tellsEnds 86 = .ok (.ifCond .eq 14, 3) := by decide +kernel
theorem dX10_tellsEnds_89 : decode cX10_tellsEnds 89 = .ok (.aload_n 0, 1) := by decide +kernel
theorem dX10_tellsEnds_90 : decode cX10_tellsEnds 90 = .ok (.getfield 157, 3) := by decide +kernel
theorem dX10_tellsEnds_93 : decode cX10_tellsEnds 93 = .ok (.ifCond .le 7, 3) := by decide +kernel
theorem dX10_tellsEnds_96 : decode cX10_tellsEnds 96 = .ok (.iconst 1, 1) := by decide +kernel
theorem dX10_tellsEnds_97 : decode cX10_tellsEnds 97 = .ok (.goto 4, 3) := by decide +kernel
theorem dX10_tellsEnds_100 : decode cX10_tellsEnds 100 = .ok (.iconst 0, 1) := by decide +kernel
theorem dX10_tellsEnds_101 : decode cX10_tellsEnds 101 = .ok (.istore_n 1, 1) := by decide +kernel
theorem dX10_tellsEnds_102 : decode cX10_tellsEnds 102 = .ok (.goto (-89), 3) := by decide +kernel
theorem dX10_tellsEnds_105 : decode cX10_tellsEnds 105 = .ok (.return_, 1) := by decide +kernel
set_option maxRecDepth 20000 in
theorem ggX10_textByte_X10_error : GoodIn wsX10_textByte wsX10_error := goodIn_r _ [7, 8, 37, 38, 39, 40, 41, 42, 43, 44, 45, 46, 47, 48, 49, 50, 51, 52, 53, 54, 55, 56, 57, 58, 59] (by decide +kernel) (by decide +kernel)
set_option maxRecDepth 20000 in
theorem gX10_textByte_X10_error : GoodIn wsX10_textByte (wsV RX10 72 RX10 yX10_error wsX10_error) := goodIn_app (goodIn_of _ (by decide +kernel)) ggX10_textByte_X10_error
set_option maxRecDepth 20000 in
theorem ggX10_textByte_X10_tellsAll : GoodIn wsX10_textByte wsX10_tellsAll := goodIn_r _ [12, 1, 13, 14, 15, 16, 17, 18, 6, 19, 20, 21, 22, 23, 24, 25, 26, 27, 28, 29, 2, 30, 31, 32, 33, 34, 35, 36, 37, 38, 39, 40, 41, 42, 43, 44, 45, 46, 47, 48, 49, 50, 51, 52, 53, 54, 55, 56, 57, 58, 59] (by decide +kernel) (by decide +kernel)
set_option maxRecDepth 20000 in
theorem gX10_textByte_X10_tellsAll : GoodIn wsX10_textByte (wsV RX10 239 RX10 yX10_tellsAll wsX10_tellsAll) := goodIn_app (goodIn_of _ (by decide +kernel)) ggX10_textByte_X10_tellsAll
theorem dX10_textByte_0 : decode cX10_textByte 0 = .ok (.iload_n 1, 1) := by decide +kernel
theorem dX10_textByte_1 : decode cX10_textByte 1 = .ok (.iconst (-1), 1) := by decide +kernel
theorem dX10_textByte_2 : decode cX10_textByte 2 = .ok (.if_icmp .ge 10, 3) := by decide +kernel
theorem dX10_textByte_5 : decode cX10_textByte 5 = .ok (.aload_n 0, 1) := by decide +kernel
theorem dX10_textByte_6 : decode cX10_textByte 6 = .ok (.bipush (-2), 2) := by decide +kernel
theorem dX10_textByte_8 : decode cX10_textByte 8 = .ok (.invokevirtual 72, 3) := by decide +kernel
theorem dX10_textByte_11 : decode cX10_textByte 11 = .ok (.ireturn, 1) := by decide +kernel
theorem dX10_textByte_12 : decode cX10_textByte 12 = .ok (.aload_n 0, 1) := by decide +kernel
theorem dX10_textByte_13 : decode cX10_textByte 13 = .ok (.invokevirtual 239, 3) := by decide +kernel
theorem dX10_textByte_16 : decode cX10_textByte 16 = .ok (.iload_n 1, 1) := by decide +kernel
theorem dX10_textByte_17 : decode cX10_textByte 17 = .ok (.iconst (-1), 1) := by decide +kernel
theorem dX10_textByte_18 : decode cX10_textByte 18 = .ok (.if_icmp .ne 10, 3) := by decide +kernel
theorem dX10_textByte_21 : decode cX10_textByte 21 = .ok (.aload_n 0, 1) := by decide +kernel
theorem dX10_textByte_22 : decode cX10_textByte 22 = .ok (.getfield 227, 3) := by decide +kernel
theorem dX10_textByte_25 : decode cX10_textByte 25 = .ok (.goto 21, 3) := by decide +kernel
theorem dX10_textByte_28 : decode cX10_textByte 28 = .ok (.iload_n 1, 1) := by decide +kernel
theorem dX10_textByte_29 : decode cX10_textByte 29 = .ok (.aload_n 0, 1) := by decide +kernel
theorem dX10_textByte_30 : decode cX10_textByte 30 = .ok (.getfield 227, 3) := by decide +kernel
theorem dX10_textByte_33 : decode cX10_textByte 33 = .ok (.if_icmp .ge 12, 3) := by decide +kernel
theorem dX10_textByte_36 : decode cX10_textByte 36 = .ok (.aload_n 0, 1) := by decide +kernel
theorem dX10_textByte_37 : decode cX10_textByte 37 = .ok (.getfield 46, 3) := by decide +kernel
theorem dX10_textByte_40 : decode cX10_textByte 40 = .ok (.iload_n 1, 1) := by decide +kernel
theorem dX10_textByte_41 : decode cX10_textByte 41 = .ok (.iaload, 1) := by decide +kernel
theorem dX10_textByte_42 : decode cX10_textByte 42 = .ok (.goto 4, 3) := by decide +kernel
theorem dX10_textByte_45 : decode cX10_textByte 45 = .ok (.iconst (-1), 1) := by decide +kernel
theorem dX10_textByte_46 : decode cX10_textByte 46 = .ok (.ireturn, 1) := by decide +kernel
set_option maxRecDepth 20000 in
theorem ggX10_undo_X10_error : GoodIn wsX10_undo wsX10_error := goodIn_r _ [8, 9, 10, 11, 12, 13, 14, 15, 16, 17, 18, 19, 20, 21, 22, 23, 24, 25, 26, 27, 28, 29, 30, 31, 32] (by decide +kernel) (by decide +kernel)
set_option maxRecDepth 20000 in
theorem gX10_undo_X10_error : GoodIn wsX10_undo (wsV RX10 72 RX10 yX10_error wsX10_error) := goodIn_app (goodIn_of _ (by decide +kernel)) ggX10_undo_X10_error
theorem dX10_undo_0 : decode cX10_undo 0 = .ok (.aload_n 0, 1) := by decide +kernel
theorem dX10_undo_1 : decode cX10_undo 1 = .ok (.getfield 49, 3) := by decide +kernel
theorem dX10_undo_4 : decode cX10_undo 4 = .ok (.ifCond .ne 10, 3) := by decide +kernel
theorem dX10_undo_7 : decode cX10_undo 7 = .ok (.aload_n 0, 1) := by decide +kernel
theorem dX10_undo_8 : decode cX10_undo 8 = .ok (.bipush (-5), 2) := by decide +kernel
theorem dX10_undo_10 : decode cX10_undo 10 = .ok (.invokevirtual 72, 3) := by decide +kernel
theorem dX10_undo_13 : decode cX10_undo 13 = .ok (.ireturn, 1) := by decide +kernel
theorem dX10_undo_14 : decode cX10_undo 14 = .ok (.aload_n 0, 1) := by decide +kernel
theorem dX10_undo_15 : decode cX10_undo 15 = .ok (.dup, 1) := by decide +kernel
theorem dX10_undo_16 : decode cX10_undo 16 = .ok (.getfield 49, 3) := by decide +kernel
theorem dX10_undo_19 : decode cX10_undo 19 = .ok (.iconst 1, 1) := by decide +kernel
theorem dX10_undo_20 : decode cX10_undo 20 = .ok (.isub, 1) := by decide +kernel
theorem dX10_undo_21 : decode cX10_undo 21 = .ok (.putfield 49, 3) := by decide +kernel
theorem dX10_undo_24 : decode cX10_undo 24 = .ok (.iconst 0, 1) := by decide +kernel
theorem dX10_undo_25 : decode cX10_undo 25 = .ok (.istore_n 1, 1) := by decide +kernel
theorem dX10_undo_26 : decode cX10_undo 26 = .ok (.iload_n 1, 1) := by decide +kernel
theorem dX10_undo_27 : decode cX10_undo 27 = .ok (.sipush 186, 3) := by decide +kernel
theorem dX10_undo_30 : decode cX10_undo 30 = .ok (.if_icmp .ge 30, 3) := by decide +kernel
theorem dX10_undo_33 : decode cX10_undo 33 = .ok (.aload_n 0, 1) := by decide +kernel
theorem dX10_undo_34 : decode cX10_undo 34 = .ok (.getfield 7, 3) := by decide +kernel
theorem dX10_undo_37 : decode cX10_undo 37 = .ok (.iload_n 1, 1) := by decide +kernel
theorem dX10_undo_38 : decode cX10_undo 38 = .ok (.aload_n 0, 1) := by decide +kernel
theorem dX10_undo_39 : decode cX10_undo 39 = .ok (.getfield 13, 3) := by decide +kernel
theorem dX10_undo_42 : decode cX10_undo 42 = .ok (.sipush 186, 3) := by decide +kernel
theorem dX10_undo_45 : decode cX10_undo 45 = .ok (.aload_n 0, 1) := by decide +kernel
theorem dX10_undo_46 : decode cX10_undo 46 = .ok (.getfield 49, 3) := by decide +kernel
theorem dX10_undo_49 : decode cX10_undo 49 = .ok (.imul, 1) := by decide +kernel
theorem dX10_undo_50 : decode cX10_undo 50 = .ok (.iload_n 1, 1) := by decide +kernel
theorem dX10_undo_51 : decode cX10_undo 51 = .ok (.iadd, 1) := by decide +kernel
theorem dX10_undo_52 : decode cX10_undo 52 = .ok (.iaload, 1) := by decide +kernel
theorem dX10_undo_53 : decode cX10_undo 53 = .ok (.iastore, 1) := by decide +kernel
theorem dX10_undo_54 : decode cX10_undo 54 = .ok (.iinc 1 1, 3) := by decide +kernel
theorem dX10_undo_57 : decode cX10_undo 57 = .ok (.goto (-31), 3) := by decide +kernel
theorem dX10_undo_60 : decode cX10_undo 60 = .ok (.aload_n 0, 1) := by decide +kernel
theorem dX10_undo_61 : decode cX10_undo 61 = .ok (.getfield 49, 3) := by decide +kernel
theorem dX10_undo_64 : decode cX10_undo 64 = .ok (.ireturn, 1) := by decide +kernel
set_option maxRecDepth 20000 in
theorem ggX10_errorCount_X10_in : GoodIn wsX10_errorCount wsX10_in := goodIn_r _ [7] (by decide +kernel) (by decide +kernel)
set_option maxRecDepth 20000 in
theorem gX10_errorCount_X10_in : GoodIn wsX10_errorCount (va_wsS RX10 55 yX10_in wsX10_in) := goodIn_app (goodIn_of _ (by decide +kernel)) ggX10_errorCount_X10_in
set_option maxRecDepth 20000 in
theorem ggX10_errorCount_X10_error : GoodIn wsX10_errorCount wsX10_error := goodIn_r _ [11, 3, 12, 13, 14, 15, 16, 17, 18, 19, 20, 21, 22, 23, 24, 25, 26, 27, 28, 29, 30, 31, 32, 33, 34] (by decide +kernel) (by decide +kernel)
set_option maxRecDepth 20000 in
theorem gX10_errorCount_X10_error : GoodIn wsX10_errorCount (wsV RX10 72 RX10 yX10_error wsX10_error) := goodIn_app (goodIn_of _ (by decide +kernel)) ggX10_errorCount_X10_error
theorem dX10_errorCount_0 : decode cX10_errorCount 0 = .ok (.iload_n 1, 1) := by decide +kernel
theorem dX10_errorCount_1 : decode cX10_errorCount 1 = .ok (.i2l, 1) := by decide +kernel
theorem dX10_errorCount_2 : decode cX10_errorCount 2 = .ok (.ldc2_w 242, 3) := by decide +kernel
theorem dX10_errorCount_5 : decode cX10_errorCount 5 = .ok (.ldc2_w 244, 3) := by decide +kernel
theorem dX10_errorCount_8 : decode cX10_errorCount 8 = .ok (.invokestatic 55, 3) := by decide +kernel
theorem dX10_errorCount_11 : decode cX10_errorCount 11 = .ok (.ifCond .eq 15, 3) := by decide +kernel
theorem dX10_errorCount_14 : decode cX10_errorCount 14 = .ok (.aload_n 0, 1) := by decide +kernel
theorem dX10_errorCount_15 : decode cX10_errorCount 15 = .ok (.getfield 16, 3) := by decide +kernel
theorem dX10_errorCount_18 : decode cX10_errorCount 18 = .ok (.bipush (-2), 2) := by decide +kernel
theorem dX10_errorCount_20 : decode cX10_errorCount 20 = .ok (.iload_n 1, 1) := by decide +kernel
theorem dX10_errorCount_21 : decode cX10_errorCount 21 = .ok (.isub, 1) := by decide +kernel
theorem dX10_errorCount_22 : decode cX10_errorCount 22 = .ok (.iaload, 1) := by decide +kernel
theorem dX10_errorCount_23 : decode cX10_errorCount 23 = .ok (.goto 9, 3) := by decide +kernel
theorem dX10_errorCount_26 : decode cX10_errorCount 26 = .ok (.aload_n 0, 1) := by decide +kernel
theorem dX10_errorCount_27 : decode cX10_errorCount 27 = .ok (.bipush (-2), 2) := by decide +kernel
theorem dX10_errorCount_29 : decode cX10_errorCount 29 = .ok (.invokevirtual 72, 3) := by decide +kernel
theorem dX10_errorCount_32 : decode cX10_errorCount 32 = .ok (.ireturn, 1) := by decide +kernel
set_option maxRecDepth 20000 in
theorem ggX10_digest_X10_newOf : GoodIn wsX10_digest wsX10_newOf := goodIn_r _ [13, 5, 65, 66, 67, 68, 69, 70, 71, 72, 73, 74, 75, 76, 77, 78, 79, 80, 81, 82, 83, 84, 85, 86, 87] (by decide +kernel) (by decide +kernel)
set_option maxRecDepth 20000 in
theorem gX10_digest_X10_newOf : GoodIn wsX10_digest (wsV RX10 86 RX10 yX10_newOf wsX10_newOf) := goodIn_app (goodIn_of _ (by decide +kernel)) ggX10_digest_X10_newOf
set_option maxRecDepth 20000 in
theorem ggX10_digest_X10_faithful : GoodIn wsX10_digest wsX10_faithful := goodIn_r _ [17, 18, 19, 20, 12, 21, 5, 9, 10, 11, 13, 22, 23, 24, 25, 26, 27, 28, 29, 65, 66, 67, 68, 69, 70, 71, 72, 73, 74, 75, 76, 77, 78, 79, 80, 81, 82, 83, 84, 85, 86, 87] (by decide +kernel) (by decide +kernel)
set_option maxRecDepth 20000 in
theorem gX10_digest_X10_faithful : GoodIn wsX10_digest (wsV RX10 99 RX10 yX10_faithful wsX10_faithful) := goodIn_app (goodIn_of _ (by decide +kernel)) ggX10_digest_X10_faithful
set_option maxRecDepth 20000 in
theorem ggX10_digest_X10_adapter : GoodIn wsX10_digest wsX10_adapter := goodIn_r _ [33, 5, 65, 66, 67, 68, 69, 70, 71, 72, 73, 74, 75, 76, 77, 78, 79, 80, 81, 82, 83, 84, 85, 86, 87] (by decide +kernel) (by decide +kernel)
set_option maxRecDepth 20000 in
theorem gX10_digest_X10_adapter : GoodIn wsX10_digest (wsV RX10 108 RX10 yX10_adapter wsX10_adapter) := goodIn_app (goodIn_of _ (by decide +kernel)) ggX10_digest_X10_adapter
set_option maxRecDepth 20000 in
theorem ggX10_digest_X10_tellsAll : GoodIn wsX10_digest wsX10_tellsAll := goodIn_r _ [37, 6, 38, 5, 39, 40, 41, 42, 12, 43, 44, 45, 46, 47, 48, 49, 50, 51, 52, 53, 7, 54, 55, 56, 57, 58, 59, 60, 65, 66, 67, 68, 69, 70, 71, 72, 73, 74, 75, 76, 77, 78, 79, 80, 81, 82, 83, 84, 85, 86, 87] (by decide +kernel) (by decide +kernel)
set_option maxRecDepth 20000 in
theorem gX10_digest_X10_tellsAll : GoodIn wsX10_digest (wsV RX10 239 RX10 yX10_tellsAll wsX10_tellsAll) := goodIn_app (goodIn_of _ (by decide +kernel)) ggX10_digest_X10_tellsAll
set_option maxRecDepth 20000 in
theorem ggX10_digest_X10_siteMany : GoodIn wsX10_digest wsX10_siteMany := goodIn_r _ [64, 5, 47, 48, 12, 49, 65, 66, 67, 68, 69, 70, 71, 72, 73, 74, 75, 76, 77, 78, 79, 80, 81, 82, 83, 84, 85, 86, 87] (by decide +kernel) (by decide +kernel)
set_option maxRecDepth 20000 in
theorem gX10_digest_X10_siteMany : GoodIn wsX10_digest (wsV RX10 222 RX10 yX10_siteMany wsX10_siteMany) := goodIn_app (goodIn_of _ (by decide +kernel)) ggX10_digest_X10_siteMany
theorem dX10_digest_0 : decode cX10_digest 0 = .ok (.ldc2_w 246, 3) := by decide +kernel
theorem dX10_digest_3 : decode cX10_digest 3 = .ok (.lstore_n 1, 1) := by decide +kernel
theorem dX10_digest_4 : decode cX10_digest 4 = .ok (.iconst 0, 1) := by decide +kernel
theorem dX10_digest_5 : decode cX10_digest 5 = .ok (.istore_n 3, 1) := by decide +kernel
theorem dX10_digest_6 : decode cX10_digest 6 = .ok (.iload_n 3, 1) := by decide +kernel
theorem dX10_digest_7 : decode cX10_digest 7 = .ok (.iconst 4, 1) := by decide +kernel
theorem dX10_digest_8 : decode cX10_digest 8 = .ok (.if_icmp .ge 23, 3) := by decide +kernel
theorem dX10_digest_11 : decode cX10_digest 11 = .ok (.ldc2_w 248, 3) := by decide +kernel
theorem dX10_digest_14 : decode cX10_digest 14 = .ok (.lload_n 1, 1) := by decide +kernel
theorem dX10_digest_15 : decode cX10_digest 15 = .ok (.lmul, 1) := by decide +kernel
theorem dX10_digest_16 : decode cX10_digest 16 = .ok (.aload_n 0, 1) := by decide +kernel
theorem dX10_digest_17 : decode cX10_digest 17 = .ok (.getfield 16, 3) := by decide +kernel
theorem dX10_digest_20 : decode cX10_digest 20 = .ok (.iload_n 3, 1) := by decide +kernel
theorem dX10_digest_21 : decode cX10_digest 21 = .ok (.iaload, 1) := by decide +kernel
theorem dX10_digest_22 : decode cX10_digest 22 = .ok (.i2l, 1) := by decide +kernel
theorem dX10_digest_23 : decode cX10_digest 23 = .ok (.ladd, 1) := by decide +kernel
theorem dX10_digest_24 : decode cX10_digest 24 = .ok (.lstore_n 1, 1) := by decide +kernel
theorem dX10_digest_25 : decode cX10_digest 25 = .ok (.iinc 3 1, 3) := by decide +kernel
theorem dX10_digest_28 : decode cX10_digest 28 = .ok (.goto (-22), 3) := by decide +kernel
theorem dX10_digest_31 : decode cX10_digest 31 = .ok (.ldc2_w 248, 3) := by decide +kernel
theorem dX10_digest_34 : decode cX10_digest 34 = .ok (.lload_n 1, 1) := by decide +kernel
theorem dX10_digest_35 : decode cX10_digest 35 = .ok (.lmul, 1) := by decide +kernel
theorem dX10_digest_36 : decode cX10_digest 36 = .ok (.aload_n 0, 1) := by decide +kernel
theorem dX10_digest_37 : decode cX10_digest 37 = .ok (.getfield 119, 3) := by decide +kernel
theorem dX10_digest_40 : decode cX10_digest 40 = .ok (.i2l, 1) := by decide +kernel
theorem dX10_digest_41 : decode cX10_digest 41 = .ok (.ladd, 1) := by decide +kernel
theorem dX10_digest_42 : decode cX10_digest 42 = .ok (.lstore_n 1, 1) := by decide +kernel
theorem dX10_digest_43 : decode cX10_digest 43 = .ok (.iconst 0, 1) := by decide +kernel
theorem dX10_digest_44 : decode cX10_digest 44 = .ok (.istore_n 3, 1) := by decide +kernel
theorem dX10_digest_45 : decode cX10_digest 45 = .ok (.iload_n 3, 1) := by decide +kernel
theorem dX10_digest_46 : decode cX10_digest 46 = .ok (.bipush 84, 2) := by decide +kernel
theorem dX10_digest_48 : decode cX10_digest 48 = .ok (.if_icmp .ge 23, 3) := by decide +kernel
theorem dX10_digest_51 : decode cX10_digest 51 = .ok (.ldc2_w 248, 3) := by decide +kernel
theorem dX10_digest_54 : decode cX10_digest 54 = .ok (.lload_n 1, 1) := by decide +kernel
theorem dX10_digest_55 : decode cX10_digest 55 = .ok (.lmul, 1) := by decide +kernel
theorem dX10_digest_56 : decode cX10_digest 56 = .ok (.aload_n 0, 1) := by decide +kernel
theorem dX10_digest_57 : decode cX10_digest 57 = .ok (.getfield 7, 3) := by decide +kernel
theorem dX10_digest_60 : decode cX10_digest 60 = .ok (.iload_n 3, 1) := by decide +kernel
theorem dX10_digest_61 : decode cX10_digest 61 = .ok (.iaload, 1) := by decide +kernel
theorem dX10_digest_62 : decode cX10_digest 62 = .ok (.i2l, 1) := by decide +kernel
theorem dX10_digest_63 : decode cX10_digest 63 = .ok (.ladd, 1) := by decide +kernel
theorem dX10_digest_64 : decode cX10_digest 64 = .ok (.lstore_n 1, 1) := by decide +kernel
theorem dX10_digest_65 : decode cX10_digest 65 = .ok (.iinc 3 1, 3) := by decide +kernel
theorem dX10_digest_68 : decode cX10_digest 68 = .ok (.goto (-23), 3) := by decide +kernel
theorem dX10_digest_71 : decode cX10_digest 71 = .ok (.iconst 0, 1) := by decide +kernel
theorem dX10_digest_72 : decode cX10_digest 72 = .ok (.istore_n 3, 1) := by decide +kernel
theorem dX10_digest_73 : decode cX10_digest 73 = .ok (.iload_n 3, 1) := by decide +kernel
theorem dX10_digest_74 : decode cX10_digest 74 = .ok (.bipush 6, 2) := by decide +kernel
theorem dX10_digest_76 : decode cX10_digest 76 = .ok (.if_icmp .ge 50, 3) := by decide +kernel
theorem dX10_digest_79 : decode cX10_digest 79 = .ok (.ldc2_w 248, 3) := by decide +kernel
theorem dX10_digest_82 : decode cX10_digest 82 = .ok (.lload_n 1, 1) := by decide +kernel
theorem dX10_digest_83 : decode cX10_digest 83 = .ok (.lmul, 1) := by decide +kernel
theorem dX10_digest_84 : decode cX10_digest 84 = .ok (.aload_n 0, 1) := by decide +kernel
theorem dX10_digest_85 : decode cX10_digest 85 = .ok (.iload_n 3, 1) := by decide +kernel
theorem dX10_digest_86 : decode cX10_digest 86 = .ok (.invokevirtual 86, 3) := by decide +kernel
theorem dX10_digest_89 : decode cX10_digest 89 = .ok (.iconst (-1), 1) := by decide +kernel
theorem dX10_digest_90 : decode cX10_digest 90 = .ok (.if_icmp .ne 7, 3) := by decide +kernel
theorem dX10_digest_93 : decode cX10_digest 93 = .ok (.iconst 0, 1) := by decide +kernel
theorem dX10_digest_94 : decode cX10_digest 94 = .ok (.goto 10, 3) := by decide +kernel
theorem dX10_digest_97 : decode cX10_digest 97 = .ok (.iconst 1, 1) := by decide +kernel
theorem dX10_digest_98 : decode cX10_digest 98 = .ok (.aload_n 0, 1) := by decide +kernel
theorem dX10_digest_99 : decode cX10_digest 99 = .ok (.iload_n 3, 1) := by decide +kernel
theorem dX10_digest_100 : decode cX10_digest 100 = .ok (.invokevirtual 99, 3) := by decide +kernel
theorem dX10_digest_103 : decode cX10_digest 103 = .ok (.iadd, 1) := by decide +kernel
theorem dX10_digest_104 : decode cX10_digest 104 = .ok (.i2l, 1) := by decide +kernel
theorem dX10_digest_105 : decode cX10_digest 105 = .ok (.ladd, 1) := by decide +kernel
theorem dX10_digest_106 : decode cX10_digest 106 = .ok (.lstore_n 1, 1) := by decide +kernel
theorem dX10_digest_107 : decode cX10_digest 107 = .ok (.ldc2_w 248, 3) := by decide +kernel
theorem dX10_digest_110 : decode cX10_digest 110 = .ok (.lload_n 1, 1) := by decide +kernel
theorem dX10_digest_111 : decode cX10_digest 111 = .ok (.lmul, 1) := by decide +kernel
theorem dX10_digest_112 : decode cX10_digest 112 = .ok (.aload_n 0, 1) := by decide +kernel
theorem dX10_digest_113 : decode cX10_digest 113 = .ok (.iload_n 3, 1) := by decide +kernel
theorem dX10_digest_114 : decode cX10_digest 114 = .ok (.invokevirtual 108, 3) := by decide +kernel
theorem dX10_digest_117 : decode cX10_digest 117 = .ok (.i2l, 1) := by decide +kernel
theorem dX10_digest_118 : decode cX10_digest 118 = .ok (.ladd, 1) := by decide +kernel
theorem dX10_digest_119 : decode cX10_digest 119 = .ok (.lstore_n 1, 1) := by decide +kernel
theorem dX10_digest_120 : decode cX10_digest 120 = .ok (.iinc 3 1, 3) := by decide +kernel
theorem dX10_digest_123 : decode cX10_digest 123 = .ok (.goto (-50), 3) := by decide +kernel
theorem dX10_digest_126 : decode cX10_digest 126 = .ok (.ldc2_w 248, 3) := by decide +kernel
theorem dX10_digest_129 : decode cX10_digest 129 = .ok (.lload_n 1, 1) := by decide +kernel
theorem dX10_digest_130 : decode cX10_digest 130 = .ok (.lmul, 1) := by decide +kernel
theorem dX10_digest_131 : decode cX10_digest 131 = .ok (.aload_n 0, 1) := by decide +kernel
theorem dX10_digest_132 : decode cX10_digest 132 = .ok (.getfield 7, 3) := by decide +kernel
theorem dX10_digest_135 : decode cX10_digest 135 = .ok (.sipush 147, 3) := by decide +kernel
theorem dX10_digest_138 : decode cX10_digest 138 = .ok (.iaload, 1) := by decide +kernel
theorem dX10_digest_139 : decode cX10_digest 139 = .ok (.i2l, 1) := by decide +kernel
theorem dX10_digest_140 : decode cX10_digest 140 = .ok (.ladd, 1) := by decide +kernel
theorem dX10_digest_141 : decode cX10_digest 141 = .ok (.lstore_n 1, 1) := by decide +kernel
theorem dX10_digest_142 : decode cX10_digest 142 = .ok (.aload_n 0, 1) := by decide +kernel
theorem dX10_digest_143 : decode cX10_digest 143 = .ok (.invokevirtual 239, 3) := by decide +kernel
theorem dX10_digest_146 : decode cX10_digest 146 = .ok (.iconst 0, 1) := by decide +kernel
theorem dX10_digest_147 : decode cX10_digest 147 = .ok (.istore_n 3, 1) := by decide +kernel
theorem dX10_digest_148 : decode cX10_digest 148 = .ok (.iload_n 3, 1) := by decide +kernel
theorem dX10_digest_149 : decode cX10_digest 149 = .ok (.aload_n 0, 1) := by decide +kernel
theorem dX10_digest_150 : decode cX10_digest 150 = .ok (.getfield 227, 3) := by decide +kernel
theorem dX10_digest_153 : decode cX10_digest 153 = .ok (.if_icmp .ge 23, 3) := by decide +kernel
theorem dX10_digest_156 : decode cX10_digest 156 = .ok (.ldc2_w 248, 3) := by decide +kernel
theorem dX10_digest_159 : decode cX10_digest 159 = .ok (.lload_n 1, 1) := by decide +kernel
theorem dX10_digest_160 : decode cX10_digest 160 = .ok (.lmul, 1) := by decide +kernel
theorem dX10_digest_161 : decode cX10_digest 161 = .ok (.aload_n 0, 1) := by decide +kernel
theorem dX10_digest_162 : decode cX10_digest 162 = .ok (.getfield 46, 3) := by decide +kernel
theorem dX10_digest_165 : decode cX10_digest 165 = .ok (.iload_n 3, 1) := by decide +kernel
theorem dX10_digest_166 : decode cX10_digest 166 = .ok (.iaload, 1) := by decide +kernel
theorem dX10_digest_167 : decode cX10_digest 167 = .ok (.i2l, 1) := by decide +kernel
theorem dX10_digest_168 : decode cX10_digest 168 = .ok (.ladd, 1) := by decide +kernel
theorem dX10_digest_169 : decode cX10_digest 169 = .ok (.lstore_n 1, 1) := by decide +kernel
theorem dX10_digest_170 : decode cX10_digest 170 = .ok (.iinc 3 1, 3) := by decide +kernel
theorem dX10_digest_173 : decode cX10_digest 173 = .ok (.goto (-25), 3) := by decide +kernel
theorem dX10_digest_176 : decode cX10_digest 176 = .ok (.ldc2_w 248, 3) := by decide +kernel
theorem dX10_digest_179 : decode cX10_digest 179 = .ok (.lload_n 1, 1) := by decide +kernel
theorem dX10_digest_180 : decode cX10_digest 180 = .ok (.lmul, 1) := by decide +kernel
theorem dX10_digest_181 : decode cX10_digest 181 = .ok (.aload_n 0, 1) := by decide +kernel
theorem dX10_digest_182 : decode cX10_digest 182 = .ok (.invokevirtual 222, 3) := by decide +kernel
theorem dX10_digest_185 : decode cX10_digest 185 = .ok (.i2l, 1) := by decide +kernel
theorem dX10_digest_186 : decode cX10_digest 186 = .ok (.ladd, 1) := by decide +kernel
theorem dX10_digest_187 : decode cX10_digest 187 = .ok (.lstore_n 1, 1) := by decide +kernel
theorem dX10_digest_188 : decode cX10_digest 188 = .ok (.iconst 0, 1) := by decide +kernel
theorem dX10_digest_189 : decode cX10_digest 189 = .ok (.istore_n 3, 1) := by decide +kernel
theorem dX10_digest_190 : decode cX10_digest 190 = .ok (.iload_n 3, 1) := by decide +kernel
theorem dX10_digest_191 : decode cX10_digest 191 = .ok (.bipush 7, 2) := by decide +kernel
theorem dX10_digest_193 : decode cX10_digest 193 = .ok (.if_icmp .ge 27, 3) := by decide +kernel
theorem dX10_digest_196 : decode cX10_digest 196 = .ok (.ldc2_w 248, 3) := by decide +kernel
theorem dX10_digest_199 : decode cX10_digest 199 = .ok (.lload_n 1, 1) := by decide +kernel
theorem dX10_digest_200 : decode cX10_digest 200 = .ok (.lmul, 1) := by decide +kernel
theorem dX10_digest_201 : decode cX10_digest 201 = .ok (.aload_n 0, 1) := by decide +kernel
theorem dX10_digest_202 : decode cX10_digest 202 = .ok (.getfield 7, 3) := by decide +kernel
theorem dX10_digest_205 : decode cX10_digest 205 = .ok (.sipush 179, 3) := by decide +kernel
theorem dX10_digest_208 : decode cX10_digest 208 = .ok (.iload_n 3, 1) := by decide +kernel
theorem dX10_digest_209 : decode cX10_digest 209 = .ok (.iadd, 1) := by decide +kernel
theorem dX10_digest_210 : decode cX10_digest 210 = .ok (.iaload, 1) := by decide +kernel
theorem dX10_digest_211 : decode cX10_digest 211 = .ok (.i2l, 1) := by decide +kernel
theorem dX10_digest_212 : decode cX10_digest 212 = .ok (.ladd, 1) := by decide +kernel
theorem dX10_digest_213 : decode cX10_digest 213 = .ok (.lstore_n 1, 1) := by decide +kernel
theorem dX10_digest_214 : decode cX10_digest 214 = .ok (.iinc 3 1, 3) := by decide +kernel
theorem dX10_digest_217 : decode cX10_digest 217 = .ok (.goto (-27), 3) := by decide +kernel
theorem dX10_digest_220 : decode cX10_digest 220 = .ok (.ldc2_w 248, 3) := by decide +kernel
theorem dX10_digest_223 : decode cX10_digest 223 = .ok (.lload_n 1, 1) := by decide +kernel
