set_option maxRecDepth 20000 in
theorem gX10_setsTerm_X10_isFunction : GoodIn wsX10_setsTerm (va_wsS RX10 62 yX10_isFunction wsX10_isFunction) := goodIn_app (goodIn_of _ (by decide +kernel)) ggX10_setsTerm_X10_isFunction
set_option maxRecDepth 20000 in
theorem ggX10_setsTerm_X10_in : GoodIn wsX10_setsTerm wsX10_in := goodIn_r _ [12] (by decide +kernel) (by decide +kernel)
set_option maxRecDepth 20000 in
theorem gX10_setsTerm_X10_in : GoodIn wsX10_setsTerm (va_wsS RX10 55 yX10_in wsX10_in) := goodIn_app (goodIn_of _ (by decide +kernel)) ggX10_setsTerm_X10_in
set_option maxRecDepth 20000 in
theorem ggX10_setsTerm_X10_error : GoodIn wsX10_setsTerm wsX10_error := goodIn_r _ [16, 17, 24, 25, 26, 27, 28, 29, 30, 31, 32, 33, 34, 35, 36, 37, 38, 39, 40, 41, 42, 43, 44, 45, 46] (by decide +kernel) (by decide +kernel)
set_option maxRecDepth 20000 in
theorem gX10_setsTerm_X10_error : GoodIn wsX10_setsTerm (wsV RX10 72 RX10 yX10_error wsX10_error) := goodIn_app (goodIn_of _ (by decide +kernel)) ggX10_setsTerm_X10_error
set_option maxRecDepth 20000 in
theorem ggX10_setsTerm_X10_save : GoodIn wsX10_setsTerm wsX10_save := goodIn_r _ [21, 22, 23, 4, 24, 25, 26, 27, 28, 29, 30, 31, 32, 33, 34, 35, 36, 37, 38, 39, 40, 41, 42, 43, 44, 45, 46] (by decide +kernel) (by decide +kernel)
set_option maxRecDepth 20000 in
theorem gX10_setsTerm_X10_save : GoodIn wsX10_setsTerm (wsV RX10 59 RX10 yX10_save wsX10_save) := goodIn_app (goodIn_of _ (by decide +kernel)) ggX10_setsTerm_X10_save
theorem dX10_setsTerm_0 : decode cX10_setsTerm 0 = .ok (.iload_n 2, 1) := by decide +kernel
theorem dX10_setsTerm_1 : decode cX10_setsTerm 1 = .ok (.invokestatic 62, 3) := by decide +kernel
theorem dX10_setsTerm_4 : decode cX10_setsTerm 4 = .ok (.ifCond .eq 30, 3) := by decide +kernel
theorem dX10_setsTerm_7 : decode cX10_setsTerm 7 = .ok (.iload_n 3, 1) := by decide +kernel
theorem dX10_setsTerm_8 : decode cX10_setsTerm 8 = .ok (.i2l, 1) := by decide +kernel
theorem dX10_setsTerm_9 : decode cX10_setsTerm 9 = .ok (.ldc2_w 78, 3) := by decide +kernel
theorem dX10_setsTerm_12 : decode cX10_setsTerm 12 = .ok (.ldc2_w 66, 3) := by decide +kernel
theorem dX10_setsTerm_15 : decode cX10_setsTerm 15 = .ok (.invokestatic 55, 3) := by decide +kernel
theorem dX10_setsTerm_18 : decode cX10_setsTerm 18 = .ok (.ifCond .eq 16, 3) := by decide +kernel
theorem dX10_setsTerm_21 : decode cX10_setsTerm 21 = .ok (.iload 4, 2) := by decide +kernel
theorem dX10_setsTerm_23 : decode cX10_setsTerm 23 = .ok (.i2l, 1) := by decide +kernel
theorem dX10_setsTerm_24 : decode cX10_setsTerm 24 = .ok (.lconst 0, 1) := by decide +kernel
theorem dX10_setsTerm_25 : decode cX10_setsTerm 25 = .ok (.ldc2_w 80, 3) := by decide +kernel
theorem dX10_setsTerm_28 : decode cX10_setsTerm 28 = .ok (.invokestatic 55, 3) := by decide +kernel
theorem dX10_setsTerm_31 : decode cX10_setsTerm 31 = .ok (.ifCond .ne 10, 3) := by decide +kernel
theorem dX10_setsTerm_34 : decode cX10_setsTerm 34 = .ok (.aload_n 0, 1) := by decide +kernel
theorem dX10_setsTerm_35 : decode cX10_setsTerm 35 = .ok (.bipush (-2), 2) := by decide +kernel
theorem dX10_setsTerm_37 : decode cX10_setsTerm 37 = .ok (.invokevirtual 72, 3) := by decide +kernel
theorem dX10_setsTerm_40 : decode cX10_setsTerm 40 = .ok (.ireturn, 1) := by decide +kernel
theorem dX10_setsTerm_41 : decode cX10_setsTerm 41 = .ok (.aload_n 0, 1) := by decide +kernel
theorem dX10_setsTerm_42 : decode cX10_setsTerm 42 = .ok (.invokevirtual 59, 3) := by decide +kernel
theorem dX10_setsTerm_45 : decode cX10_setsTerm 45 = .ok (.iload_n 1, 1) := by decide +kernel
theorem dX10_setsTerm_46 : decode cX10_setsTerm 46 = .ok (.bipush 7, 2) := by decide +kernel
theorem dX10_setsTerm_48 : decode cX10_setsTerm 48 = .ok (.iload_n 2, 1) := by decide +kernel
theorem dX10_setsTerm_49 : decode cX10_setsTerm 49 = .ok (.imul, 1) := by decide +kernel
theorem dX10_setsTerm_50 : decode cX10_setsTerm 50 = .ok (.iadd, 1) := by decide +kernel
theorem dX10_setsTerm_51 : decode cX10_setsTerm 51 = .ok (.iconst 2, 1) := by decide +kernel
theorem dX10_setsTerm_52 : decode cX10_setsTerm 52 = .ok (.iadd, 1) := by decide +kernel
theorem dX10_setsTerm_53 : decode cX10_setsTerm 53 = .ok (.iconst 1, 1) := by decide +kernel
theorem dX10_setsTerm_54 : decode cX10_setsTerm 54 = .ok (.iadd, 1) := by decide +kernel
theorem dX10_setsTerm_55 : decode cX10_setsTerm 55 = .ok (.iload_n 3, 1) := by decide +kernel
theorem dX10_setsTerm_56 : decode cX10_setsTerm 56 = .ok (.iadd, 1) := by decide +kernel
theorem dX10_setsTerm_57 : decode cX10_setsTerm 57 = .ok (.istore 5, 2) := by decide +kernel
theorem dX10_setsTerm_59 : decode cX10_setsTerm 59 = .ok (.aload_n 0, 1) := by decide +kernel
theorem dX10_setsTerm_60 : decode cX10_setsTerm 60 = .ok (.getfield 7, 3) := by decide +kernel
theorem dX10_setsTerm_63 : decode cX10_setsTerm 63 = .ok (.iload 5, 2) := by decide +kernel
theorem dX10_setsTerm_65 : decode cX10_setsTerm 65 = .ok (.iaload, 1) := by decide +kernel
theorem dX10_setsTerm_66 : decode cX10_setsTerm 66 = .ok (.istore 6, 2) := by decide +kernel
theorem dX10_setsTerm_68 : decode cX10_setsTerm 68 = .ok (.aload_n 0, 1) := by decide +kernel
theorem dX10_setsTerm_69 : decode cX10_setsTerm 69 = .ok (.getfield 7, 3) := by decide +kernel
theorem dX10_setsTerm_72 : decode cX10_setsTerm 72 = .ok (.iload 5, 2) := by decide +kernel
theorem dX10_setsTerm_74 : decode cX10_setsTerm 74 = .ok (.iload 4, 2) := by decide +kernel
theorem dX10_setsTerm_76 : decode cX10_setsTerm 76 = .ok (.iastore, 1) := by decide +kernel
theorem dX10_setsTerm_77 : decode cX10_setsTerm 77 = .ok (.iload 6, 2) := by decide +kernel
theorem dX10_setsTerm_79 : decode cX10_setsTerm 79 = .ok (.ireturn, 1) := by decide +kernel
set_option maxRecDepth 20000 in
theorem ggX10_setOldTerm_X10_setsTerm : GoodIn wsX10_setOldTerm wsX10_setsTerm := goodIn_r _ [5, 6, 7, 8, 9, 10, 11, 4, 12, 13, 14, 15, 16, 17, 18, 19, 20, 21, 22, 23, 24, 25, 26, 27, 28, 29, 30, 31, 32, 33, 34, 35, 36, 37, 38, 39, 40, 41, 42, 43, 44, 45, 46, 47, 48, 49, 50] (by decide +kernel) (by decide +kernel)
set_option maxRecDepth 20000 in
theorem gX10_setOldTerm_X10_setsTerm : GoodIn wsX10_setOldTerm (wsV RX10 82 RX10 yX10_setsTerm wsX10_setsTerm) := goodIn_app (goodIn_of _ (by decide +kernel)) ggX10_setOldTerm_X10_setsTerm
theorem dX10_setOldTerm_0 : decode cX10_setOldTerm 0 = .ok (.aload_n 0, 1) := by decide +kernel
theorem dX10_setOldTerm_1 : decode cX10_setOldTerm 1 = .ok (.iconst 0, 1) := by decide +kernel
theorem dX10_setOldTerm_2 : decode cX10_setOldTerm 2 = .ok (.iload_n 1, 1) := by decide +kernel
theorem dX10_setOldTerm_3 : decode cX10_setOldTerm 3 = .ok (.iload_n 2, 1) := by decide +kernel
theorem dX10_setOldTerm_4 : decode cX10_setOldTerm 4 = .ok (.iload_n 3, 1) := by decide +kernel
theorem dX10_setOldTerm_5 : decode cX10_setOldTerm 5 = .ok (.invokevirtual 82, 3) := by decide +kernel
theorem dX10_setOldTerm_8 : decode cX10_setOldTerm 8 = .ok (.ireturn, 1) := by decide +kernel
set_option maxRecDepth 20000 in
theorem ggX10_setNewTerm_X10_setsTerm : GoodIn wsX10_setNewTerm wsX10_setsTerm := goodIn_r _ [5, 6, 7, 8, 9, 10, 11, 4, 12, 13, 14, 15, 16, 17, 18, 19, 20, 21, 22, 23, 24, 25, 26, 27, 28, 29, 30, 31, 32, 33, 34, 35, 36, 37, 38, 39, 40, 41, 42, 43, 44, 45, 46, 47, 48, 49, 50] (by decide +kernel) (by decide +kernel)
set_option maxRecDepth 20000 in
theorem gX10_setNewTerm_X10_setsTerm : GoodIn wsX10_setNewTerm (wsV RX10 82 RX10 yX10_setsTerm wsX10_setsTerm) := goodIn_app (goodIn_of _ (by decide +kernel)) ggX10_setNewTerm_X10_setsTerm
theorem dX10_setNewTerm_0 : decode cX10_setNewTerm 0 = .ok (.aload_n 0, 1) := by decide +kernel
theorem dX10_setNewTerm_1 : decode cX10_setNewTerm 1 = .ok (.bipush 42, 2) := by decide +kernel
theorem dX10_setNewTerm_3 : decode cX10_setNewTerm 3 = .ok (.iload_n 1, 1) := by decide +kernel
theorem dX10_setNewTerm_4 : decode cX10_setNewTerm 4 = .ok (.iload_n 2, 1) := by decide +kernel
theorem dX10_setNewTerm_5 : decode cX10_setNewTerm 5 = .ok (.iload_n 3, 1) := by decide +kernel
theorem dX10_setNewTerm_6 : decode cX10_setNewTerm 6 = .ok (.invokevirtual 82, 3) := by decide +kernel
theorem dX10_setNewTerm_9 : decode cX10_setNewTerm 9 = .ok (.ireturn, 1) := by decide +kernel
theorem dX10_newOf_0 : decode cX10_newOf 0 = .ok (.aload_n 0, 1) := by decide +kernel
theorem dX10_newOf_1 : decode cX10_newOf 1 = .ok (.getfield 7, 3) := by decide +kernel
theorem dX10_newOf_4 : decode cX10_newOf 4 = .ok (.bipush 117, 2) := by decide +kernel
theorem dX10_newOf_6 : decode cX10_newOf 6 = .ok (.iconst 5, 1) := by decide +kernel
theorem dX10_newOf_7 : decode cX10_newOf 7 = .ok (.iload_n 1, 1) := by decide +kernel
theorem dX10_newOf_8 : decode cX10_newOf 8 = .ok (.imul, 1) := by decide +kernel
theorem dX10_newOf_9 : decode cX10_newOf 9 = .ok (.iadd, 1) := by decide +kernel
theorem dX10_newOf_10 : decode cX10_newOf 10 = .ok (.iaload, 1) := by decide +kernel
theorem dX10_newOf_11 : decode cX10_newOf 11 = .ok (.ireturn, 1) := by decide +kernel
theorem dX10_entry_0 : decode cX10_entry 0 = .ok (.aload_n 0, 1) := by decide +kernel
theorem dX10_entry_1 : decode cX10_entry 1 = .ok (.getfield 7, 3) := by decide +kernel
theorem dX10_entry_4 : decode cX10_entry 4 = .ok (.bipush 117, 2) := by decide +kernel
theorem dX10_entry_6 : decode cX10_entry 6 = .ok (.iconst 5, 1) := by decide +kernel
theorem dX10_entry_7 : decode cX10_entry 7 = .ok (.iload_n 1, 1) := by decide +kernel
theorem dX10_entry_8 : decode cX10_entry 8 = .ok (.imul, 1) := by decide +kernel
theorem dX10_entry_9 : decode cX10_entry 9 = .ok (.iadd, 1) := by decide +kernel
theorem dX10_entry_10 : decode cX10_entry 10 = .ok (.iconst 1, 1) := by decide +kernel
theorem dX10_entry_11 : decode cX10_entry 11 = .ok (.iadd, 1) := by decide +kernel
theorem dX10_entry_12 : decode cX10_entry 12 = .ok (.iload_n 2, 1) := by decide +kernel
theorem dX10_entry_13 : decode cX10_entry 13 = .ok (.iadd, 1) := by decide +kernel
theorem dX10_entry_14 : decode cX10_entry 14 = .ok (.iaload, 1) := by decide +kernel
theorem dX10_entry_15 : decode cX10_entry 15 = .ok (.ireturn, 1) := by decide +kernel
set_option maxRecDepth 20000 in
theorem ggX10_used_X10_newOf : GoodIn wsX10_used wsX10_newOf := goodIn_r _ [6, 1, 7, 8, 9, 10, 11, 12, 13, 14, 15, 16, 17, 18, 19, 20, 21, 22, 23, 24, 25, 26, 27, 28, 29] (by decide +kernel) (by decide +kernel)
set_option maxRecDepth 20000 in
theorem gX10_used_X10_newOf : GoodIn wsX10_used (wsV RX10 86 RX10 yX10_newOf wsX10_newOf) := goodIn_app (goodIn_of _ (by decide +kernel)) ggX10_used_X10_newOf
theorem dX10_used_0 : decode cX10_used 0 = .ok (.aload_n 0, 1) := by decide +kernel
theorem dX10_used_1 : decode cX10_used 1 = .ok (.getfield 7, 3) := by decide +kernel
theorem dX10_used_4 : decode cX10_used 4 = .ok (.bipush 42, 2) := by decide +kernel
theorem dX10_used_6 : decode cX10_used 6 = .ok (.bipush 7, 2) := by decide +kernel
theorem dX10_used_8 : decode cX10_used 8 = .ok (.aload_n 0, 1) := by decide +kernel
theorem dX10_used_9 : decode cX10_used 9 = .ok (.iload_n 1, 1) := by decide +kernel
theorem dX10_used_10 : decode cX10_used 10 = .ok (.invokevirtual 86, 3) := by decide +kernel
theorem dX10_used_13 : decode cX10_used 13 = .ok (.imul, 1) := by decide +kernel
theorem dX10_used_14 : decode cX10_used 14 = .ok (.iadd, 1) := by decide +kernel
theorem dX10_used_15 : decode cX10_used 15 = .ok (.iconst 0, 1) := by decide +kernel
theorem dX10_used_16 : decode cX10_used 16 = .ok (.iadd, 1) := by decide +kernel
theorem dX10_used_17 : decode cX10_used 17 = .ok (.iaload, 1) := by decide +kernel
theorem dX10_used_18 : decode cX10_used 18 = .ok (.ireturn, 1) := by decide +kernel
set_option maxRecDepth 20000 in
theorem ggX10_isTrue_X10_newOf : GoodIn wsX10_isTrue wsX10_newOf := goodIn_r _ [6, 1, 15, 16, 17, 18, 19, 20, 21, 22, 23, 24, 25, 26, 27, 28, 29, 30, 31, 32, 33, 34, 35, 36, 37] (by decide +kernel) (by decide +kernel)
set_option maxRecDepth 20000 in
theorem gX10_isTrue_X10_newOf : GoodIn wsX10_isTrue (wsV RX10 86 RX10 yX10_newOf wsX10_newOf) := goodIn_app (goodIn_of _ (by decide +kernel)) ggX10_isTrue_X10_newOf
set_option maxRecDepth 20000 in
theorem ggX10_isTrue_X10_used : GoodIn wsX10_isTrue wsX10_used := goodIn_r _ [10, 1, 2, 3, 4, 5, 6, 15, 16, 17, 18, 19, 20, 21, 22, 23, 24, 25, 26, 27, 28, 29, 30, 31, 32, 33, 34, 35, 36, 37] (by decide +kernel) (by decide +kernel)
set_option maxRecDepth 20000 in
theorem gX10_isTrue_X10_used : GoodIn wsX10_isTrue (wsV RX10 89 RX10 yX10_used wsX10_used) := goodIn_app (goodIn_of _ (by decide +kernel)) ggX10_isTrue_X10_used
set_option maxRecDepth 20000 in
theorem ggX10_isTrue_X10_entry : GoodIn wsX10_isTrue wsX10_entry := goodIn_r _ [14, 1, 15, 16, 17, 18, 19, 20, 21, 22, 23, 24, 25, 26, 27, 28, 29, 30, 31, 32, 33, 34, 35, 36, 37] (by decide +kernel) (by decide +kernel)
set_option maxRecDepth 20000 in
theorem gX10_isTrue_X10_entry : GoodIn wsX10_isTrue (wsV RX10 92 RX10 yX10_entry wsX10_entry) := goodIn_app (goodIn_of _ (by decide +kernel)) ggX10_isTrue_X10_entry
theorem dX10_isTrue_0 : decode cX10_isTrue 0 = .ok (.bipush 42, 2) := by decide +kernel
theorem dX10_isTrue_2 : decode cX10_isTrue 2 = .ok (.bipush 7, 2) := by decide +kernel
theorem dX10_isTrue_4 : decode cX10_isTrue 4 = .ok (.aload_n 0, 1) := by decide +kernel
theorem dX10_isTrue_5 : decode cX10_isTrue 5 = .ok (.iload_n 1, 1) := by decide +kernel
theorem dX10_isTrue_6 : decode cX10_isTrue 6 = .ok (.invokevirtual 86, 3) := by decide +kernel
theorem dX10_isTrue_9 : decode cX10_isTrue 9 = .ok (.imul, 1) := by decide +kernel
theorem dX10_isTrue_10 : decode cX10_isTrue 10 = .ok (.iadd, 1) := by decide +kernel
theorem dX10_isTrue_11 : decode cX10_isTrue 11 = .ok (.istore_n 2, 1) := by decide +kernel
theorem dX10_isTrue_12 : decode cX10_isTrue 12 = .ok (.aload_n 0, 1) := by decide +kernel
theorem dX10_isTrue_13 : decode cX10_isTrue 13 = .ok (.getfield 7, 3) := by decide +kernel
theorem dX10_isTrue_16 : decode cX10_isTrue 16 = .ok (.iload_n 2, 1) := by decide +kernel
theorem dX10_isTrue_17 : decode cX10_isTrue 17 = .ok (.iconst 2, 1) := by decide +kernel
theorem dX10_isTrue_18 : decode cX10_isTrue 18 = .ok (.iadd, 1) := by decide +kernel
theorem dX10_isTrue_19 : decode cX10_isTrue 19 = .ok (.iaload, 1) := by decide +kernel
theorem dX10_isTrue_20 : decode cX10_isTrue 20 = .ok (.istore_n 3, 1) := by decide +kernel
theorem dX10_isTrue_21 : decode cX10_isTrue 21 = .ok (.aload_n 0, 1) := by decide +kernel
theorem dX10_isTrue_22 : decode cX10_isTrue 22 = .ok (.iload_n 1, 1) := by decide +kernel
theorem dX10_isTrue_23 : decode cX10_isTrue 23 = .ok (.invokevirtual 89, 3) := by decide +kernel
theorem dX10_isTrue_26 : decode cX10_isTrue 26 = .ok (.istore 4, 2) := by decide +kernel
theorem dX10_isTrue_28 : decode cX10_isTrue 28 = .ok (.iconst 0, 1) := by decide +kernel
theorem dX10_isTrue_29 : decode cX10_isTrue 29 = .ok (.istore 5, 2) := by decide +kernel
theorem dX10_isTrue_31 : decode cX10_isTrue 31 = .ok (.iload 5, 2) := by decide +kernel
theorem dX10_isTrue_33 : decode cX10_isTrue 33 = .ok (.iload 4, 2) := by decide +kernel
theorem dX10_isTrue_35 : decode cX10_isTrue 35 = .ok (.if_icmp .ge 78, 3) := by decide +kernel
theorem dX10_isTrue_38 : decode cX10_isTrue 38 = .ok (.aload_n 0, 1) := by decide +kernel
theorem dX10_isTrue_39 : decode cX10_isTrue 39 = .ok (.iload_n 1, 1) := by decide +kernel
theorem dX10_isTrue_40 : decode cX10_isTrue 40 = .ok (.iload 5, 2) := by decide +kernel
theorem dX10_isTrue_42 : decode cX10_isTrue 42 = .ok (.invokevirtual 92, 3) := by decide +kernel
theorem dX10_isTrue_45 : decode cX10_isTrue 45 = .ok (.istore 6, 2) := by decide +kernel
theorem dX10_isTrue_47 : decode cX10_isTrue 47 = .ok (.iload 6, 2) := by decide +kernel
theorem dX10_isTrue_49 : decode cX10_isTrue 49 = .ok (.bipush 100, 2) := by decide +kernel
theorem dX10_isTrue_51 : decode cX10_isTrue 51 = .ok (.if_icmp .ge 23, 3) := by decide +kernel
theorem dX10_isTrue_54 : decode cX10_isTrue 54 = .ok (.iload 6, 2) := by decide +kernel
theorem dX10_isTrue_56 : decode cX10_isTrue 56 = .ok (.aload_n 0, 1) := by decide +kernel
theorem dX10_isTrue_57 : decode cX10_isTrue 57 = .ok (.getfield 7, 3) := by decide +kernel
theorem dX10_isTrue_60 : decode cX10_isTrue 60 = .ok (.iconst 0, 1) := by decide +kernel
theorem dX10_isTrue_61 : decode cX10_isTrue 61 = .ok (.bipush 7, 2) := by decide +kernel
theorem dX10_isTrue_63 : decode cX10_isTrue 63 = .ok (.iload_n 1, 1) := by decide +kernel
theorem dX10_isTrue_64 : decode cX10_isTrue 64 = .ok (.imul, 1) := by decide +kernel
theorem dX10_isTrue_65 : decode cX10_isTrue 65 = .ok (.iadd, 1) := by decide +kernel
theorem dX10_isTrue_66 : decode cX10_isTrue 66 = .ok (.iconst 0, 1) := by decide +kernel
theorem dX10_isTrue_67 : decode cX10_isTrue 67 = .ok (.iadd, 1) := by decide +kernel
theorem dX10_isTrue_68 : decode cX10_isTrue 68 = .ok (.iaload, 1) := by decide +kernel
theorem dX10_isTrue_69 : decode cX10_isTrue 69 = .ok (.if_icmp .lt 5, 3) := by decide +kernel
theorem dX10_isTrue_72 : decode cX10_isTrue 72 = .ok (.iconst 0, 1) := by decide +kernel
theorem dX10_isTrue_73 : decode cX10_isTrue 73 = .ok (.ireturn, 1) := by decide +kernel
theorem dX10_isTrue_74 : decode cX10_isTrue 74 = .ok (.iload_n 3, 1) := by decide +kernel
theorem dX10_isTrue_75 : decode cX10_isTrue 75 = .ok (.iload 6, 2) := by decide +kernel
theorem dX10_isTrue_77 : decode cX10_isTrue 77 = .ok (.bipush 100, 2) := by decide +kernel
theorem dX10_isTrue_79 : decode cX10_isTrue 79 = .ok (.if_icmp .ge 7, 3) := by decide +kernel
theorem dX10_isTrue_82 : decode cX10_isTrue 82 = .ok (.iconst 0, 1) := by decide +kernel
theorem dX10_isTrue_83 : decode cX10_isTrue 83 = .ok (.goto 22, 3) := by decide +kernel
theorem dX10_isTrue_86 : decode cX10_isTrue 86 = .ok (.aload_n 0, 1) := by decide +kernel
theorem dX10_isTrue_87 : decode cX10_isTrue 87 = .ok (.getfield 7, 3) := by decide +kernel
theorem dX10_isTrue_90 : decode cX10_isTrue 90 = .ok (.iload_n 2, 1) := by decide +kernel
theorem dX10_isTrue_91 : decode cX10_isTrue 91 = .ok (.iconst 2, 1) := by decide +kernel
theorem dX10_isTrue_92 : decode cX10_isTrue 92 = .ok (.iadd, 1) := by decide +kernel
theorem dX10_isTrue_93 : decode cX10_isTrue 93 = .ok (.iconst 1, 1) := by decide +kernel
theorem dX10_isTrue_94 : decode cX10_isTrue 94 = .ok (.iadd, 1) := by decide +kernel
theorem dX10_isTrue_95 : decode cX10_isTrue 95 = .ok (.iload 5, 2) := by decide +kernel
theorem dX10_isTrue_97 : decode cX10_isTrue 97 = .ok (.iadd, 1) := by decide +kernel
theorem dX10_isTrue_98 : decode cX10_isTrue 98 = .ok (.iaload, 1) := by decide +kernel
theorem dX10_isTrue_99 : decode cX10_isTrue 99 = .ok (.iload 6, 2) := by decide +kernel
theorem dX10_isTrue_101 : decode cX10_isTrue 101 = .ok (.bipush 100, 2) := by decide +kernel
theorem dX10_isTrue_103 : decode cX10_isTrue 103 = .ok (.isub, 1) := by decide +kernel
theorem dX10_isTrue_104 : decode cX10_isTrue 104 = .ok (.imul, 1) := by decide +kernel
theorem dX10_isTrue_105 : decode cX10_isTrue 105 = .ok (.iadd, 1) := by decide +kernel
theorem dX10_isTrue_106 : decode cX10_isTrue 106 = .ok (.istore_n 3, 1) := by decide +kernel
theorem dX10_isTrue_107 : decode cX10_isTrue 107 = .ok (.iinc 5 1, 3) := by decide +kernel
theorem dX10_isTrue_110 : decode cX10_isTrue 110 = .ok (.goto (-79), 3) := by decide +kernel
theorem dX10_isTrue_113 : decode cX10_isTrue 113 = .ok (.iload_n 3, 1) := by decide +kernel
theorem dX10_isTrue_114 : decode cX10_isTrue 114 = .ok (.sipush 1000, 3) := by decide +kernel
theorem dX10_isTrue_117 : decode cX10_isTrue 117 = .ok (.irem, 1) := by decide +kernel
theorem dX10_isTrue_118 : decode cX10_isTrue 118 = .ok (.aload_n 0, 1) := by decide +kernel
theorem dX10_isTrue_119 : decode cX10_isTrue 119 = .ok (.getfield 7, 3) := by decide +kernel
theorem dX10_isTrue_122 : decode cX10_isTrue 122 = .ok (.iconst 0, 1) := by decide +kernel
theorem dX10_isTrue_123 : decode cX10_isTrue 123 = .ok (.bipush 7, 2) := by decide +kernel
theorem dX10_isTrue_125 : decode cX10_isTrue 125 = .ok (.iload_n 1, 1) := by decide +kernel
theorem dX10_isTrue_126 : decode cX10_isTrue 126 = .ok (.imul, 1) := by decide +kernel
theorem dX10_isTrue_127 : decode cX10_isTrue 127 = .ok (.iadd, 1) := by decide +kernel
theorem dX10_isTrue_128 : decode cX10_isTrue 128 = .ok (.iconst 2, 1) := by decide +kernel
theorem dX10_isTrue_129 : decode cX10_isTrue 129 = .ok (.iadd, 1) := by decide +kernel
theorem dX10_isTrue_130 : decode cX10_isTrue 130 = .ok (.iaload, 1) := by decide +kernel
theorem dX10_isTrue_131 : decode cX10_isTrue 131 = .ok (.if_icmp .ne 7, 3) := by decide +kernel
theorem dX10_isTrue_134 : decode cX10_isTrue 134 = .ok (.iconst 1, 1) := by decide +kernel
theorem dX10_isTrue_135 : decode cX10_isTrue 135 = .ok (.goto 4, 3) := by decide +kernel
theorem dX10_isTrue_138 : decode cX10_isTrue 138 = .ok (.iconst 0, 1) := by decide +kernel
theorem dX10_isTrue_139 : decode cX10_isTrue 139 = .ok (.istore 5, 2) := by decide +kernel
theorem dX10_isTrue_141 : decode cX10_isTrue 141 = .ok (.iconst 0, 1) := by decide +kernel
theorem dX10_isTrue_142 : decode cX10_isTrue 142 = .ok (.istore 6, 2) := by decide +kernel
theorem dX10_isTrue_144 : decode cX10_isTrue 144 = .ok (.iload 6, 2) := by decide +kernel
theorem dX10_isTrue_146 : decode cX10_isTrue 146 = .ok (.aload_n 0, 1) := by decide +kernel
theorem dX10_isTrue_147 : decode cX10_isTrue 147 = .ok (.getfield 7, 3) := by decide +kernel
theorem dX10_isTrue_150 : decode cX10_isTrue 150 = .ok (.iconst 0, 1) := by decide +kernel
theorem dX10_isTrue_151 : decode cX10_isTrue 151 = .ok (.bipush 7, 2) := by decide +kernel
theorem dX10_isTrue_153 : decode cX10_isTrue 153 = .ok (.iload_n 1, 1) := by decide +kernel
theorem dX10_isTrue_154 : decode cX10_isTrue 154 = .ok (.imul, 1) := by decide +kernel
theorem dX10_isTrue_155 : decode cX10_isTrue 155 = .ok (.iadd, 1) := by decide +kernel
theorem dX10_isTrue_156 : decode cX10_isTrue 156 = .ok (.iconst 0, 1) := by decide +kernel
theorem dX10_isTrue_157 : decode cX10_isTrue 157 = .ok (.iadd, 1) := by decide +kernel
theorem dX10_isTrue_158 : decode cX10_isTrue 158 = .ok (.iaload, 1) := by decide +kernel
theorem dX10_isTrue_159 : decode cX10_isTrue 159 = .ok (.if_icmp .ge 97, 3) := by decide +kernel
theorem dX10_isTrue_162 : decode cX10_isTrue 162 = .ok (.iconst 0, 1) := by decide +kernel
theorem dX10_isTrue_163 : decode cX10_isTrue 163 = .ok (.istore 7, 2) := by decide +kernel
theorem dX10_isTrue_165 : decode cX10_isTrue 165 = .ok (.iconst 0, 1) := by decide +kernel
theorem dX10_isTrue_166 : decode cX10_isTrue 166 = .ok (.istore 8, 2) := by decide +kernel
theorem dX10_isTrue_168 : decode cX10_isTrue 168 = .ok (.iload 8, 2) := by decide +kernel
theorem dX10_isTrue_170 : decode cX10_isTrue 170 = .ok (.iload 4, 2) := by decide +kernel
theorem dX10_isTrue_172 : decode cX10_isTrue 172 = .ok (.if_icmp .ge 43, 3) := by decide +kernel
theorem dX10_isTrue_175 : decode cX10_isTrue 175 = .ok (.iload 7, 2) := by decide +kernel
theorem dX10_isTrue_177 : decode cX10_isTrue 177 = .ok (.aload_n 0, 1) := by decide +kernel
theorem dX10_isTrue_178 : decode cX10_isTrue 178 = .ok (.iload_n 1, 1) := by decide +kernel
theorem dX10_isTrue_179 : decode cX10_isTrue 179 = .ok (.iload 8, 2) := by decide +kernel
theorem dX10_isTrue_181 : decode cX10_isTrue 181 = .ok (.invokevirtual 92, 3) := by decide +kernel
theorem dX10_isTrue_184 : decode cX10_isTrue 184 = .ok (.iload 6, 2) := by decide +kernel
theorem dX10_isTrue_186 : decode cX10_isTrue 186 = .ok (.if_icmp .ne 19, 3) := by decide +kernel
theorem dX10_isTrue_189 : decode cX10_isTrue 189 = .ok (.aload_n 0, 1) := by decide +kernel
theorem dX10_isTrue_190 : decode cX10_isTrue 190 = .ok (.getfield 7, 3) := by decide +kernel
theorem dX10_isTrue_193 : decode cX10_isTrue 193 = .ok (.iload_n 2, 1) := by decide +kernel
theorem dX10_isTrue_194 : decode cX10_isTrue 194 = .ok (.iconst 2, 1) := by decide +kernel
theorem dX10_isTrue_195 : decode cX10_isTrue 195 = .ok (.iadd, 1) := by decide +kernel
theorem dX10_isTrue_196 : decode cX10_isTrue 196 = .ok (.iconst 1, 1) := by decide +kernel
theorem dX10_isTrue_197 : decode cX10_isTrue 197 = .ok (.iadd, 1) := by decide +kernel
theorem dX10_isTrue_198 : decode cX10_isTrue 198 = .ok (.iload 8, 2) := by decide +kernel
theorem dX10_isTrue_200 : decode cX10_isTrue 200 = .ok (.iadd, 1) := by decide +kernel
theorem dX10_isTrue_201 : decode cX10_isTrue 201 = .ok (.iaload, 1) := by decide +kernel
theorem dX10_isTrue_202 : decode cX10_isTrue 202 = .ok (.goto 4, 3) := by decide +kernel
theorem dX10_isTrue_205 : decode cX10_isTrue 205 = .ok (.iconst 0, 1) := by decide +kernel
theorem dX10_isTrue_206 : decode cX10_isTrue 206 = .ok (.iadd, 1) := by decide +kernel
theorem dX10_isTrue_207 : decode cX10_isTrue 207 = .ok (.istore 7, 2) := by decide +kernel
theorem dX10_isTrue_209 : decode cX10_isTrue 209 = .ok (.iinc 8 1, 3) := by decide +kernel
theorem dX10_isTrue_212 : decode cX10_isTrue 212 = .ok (.goto (-44), 3) := by decide +kernel
theorem dX10_isTrue_215 : decode cX10_isTrue 215 = .ok (.iload 5, 2) := by decide +kernel
theorem dX10_isTrue_217 : decode cX10_isTrue 217 = .ok (.ifCond .eq 30, 3) := by decide +kernel
theorem dX10_isTrue_220 : decode cX10_isTrue 220 = .ok (.iload 7, 2) := by decide +kernel
theorem dX10_isTrue_222 : decode cX10_isTrue 222 = .ok (.aload_n 0, 1) := by decide +kernel
theorem dX10_isTrue_223 : decode cX10_isTrue 223 = .ok (.getfield 7, 3) := by decide +kernel
theorem dX10_isTrue_226 : decode cX10_isTrue 226 = .ok (.iconst 0, 1) := by decide +kernel
theorem dX10_isTrue_227 : decode cX10_isTrue 227 = .ok (.bipush 7, 2) := by decide +kernel
theorem dX10_isTrue_229 : decode cX10_isTrue 229 = .ok (.iload_n 1, 1) := by decide +kernel
theorem dX10_isTrue_230 : decode cX10_isTrue 230 = .ok (.imul, 1) := by decide +kernel
theorem dX10_isTrue_231 : decode cX10_isTrue 231 = .ok (.iadd, 1) := by decide +kernel
theorem dX10_isTrue_232 : decode cX10_isTrue 232 = .ok (.iconst 2, 1) := by decide +kernel
theorem dX10_isTrue_233 : decode cX10_isTrue 233 = .ok (.iadd, 1) := by decide +kernel
theorem dX10_isTrue_234 : decode cX10_isTrue 234 = .ok (.iconst 1, 1) := by decide +kernel
theorem dX10_isTrue_235 : decode cX10_isTrue 235 = .ok (.iadd, 1) := by decide +kernel
theorem dX10_isTrue_236 : decode cX10_isTrue 236 = .ok (.iload 6, 2) := by decide +kernel
theorem dX10_isTrue_238 : decode cX10_isTrue 238 = .ok (.iadd, 1) := by decide +kernel
theorem dX10_isTrue_239 : decode cX10_isTrue 239 = .ok (.iaload, 1) := by decide +kernel
theorem dX10_isTrue_240 : decode cX10_isTrue 240 = .ok (.if_icmp .ne 7, 3) := by decide +kernel
theorem dX10_isTrue_243 : decode cX10_isTrue 243 = .ok (.iconst 1, 1) := by decide +kernel
theorem dX10_isTrue_244 : decode cX10_isTrue 244 = .ok (.goto 4, 3) := by decide +kernel
theorem dX10_isTrue_247 : decode cX10_isTrue 247 = .ok (.iconst 0, 1) := by decide +kernel
theorem dX10_isTrue_248 : decode cX10_isTrue 248 = .ok (.istore 5, 2) := by decide +kernel
theorem dX10_isTrue_250 : decode cX10_isTrue 250 = .ok (.iinc 6 1, 3) := by decide +kernel
theorem dX10_isTrue_253 : decode cX10_isTrue 253 = .ok (.goto (-109), 3) := by decide +kernel
theorem dX10_isTrue_256 : decode cX10_isTrue 256 = .ok (.iload 5, 2) := by decide +kernel
theorem dX10_isTrue_258 : decode cX10_isTrue 258 = .ok (.ireturn, 1) := by decide +kernel
set_option maxRecDepth 20000 in
theorem ggX10_faithful_X10_isTrue : GoodIn wsX10_faithful wsX10_isTrue := goodIn_r _ [5, 6, 7, 8, 9, 4, 10, 11, 12, 13, 14, 15, 16, 17, 18, 19, 20, 21, 22, 23, 24, 25, 26, 27, 28, 29, 30, 31, 32, 33, 34, 35, 36, 37, 38, 39, 40, 41] (by decide +kernel) (by decide +kernel)
set_option maxRecDepth 20000 in
theorem gX10_faithful_X10_isTrue : GoodIn wsX10_faithful (wsV RX10 96 RX10 yX10_isTrue wsX10_isTrue) := goodIn_app (goodIn_of _ (by decide +kernel)) ggX10_faithful_X10_isTrue
theorem dX10_faithful_0 : decode cX10_faithful 0 = .ok (.aload_n 0, 1) := by decide +kernel
theorem dX10_faithful_1 : decode cX10_faithful 1 = .ok (.iload_n 1, 1) := by decide +kernel
theorem dX10_faithful_2 : decode cX10_faithful 2 = .ok (.invokevirtual 96, 3) := by decide +kernel
theorem dX10_faithful_5 : decode cX10_faithful 5 = .ok (.ifCond .eq 7, 3) := by decide +kernel
theorem dX10_faithful_8 : decode cX10_faithful 8 = .ok (.iconst 1, 1) := by decide +kernel
theorem dX10_faithful_9 : decode cX10_faithful 9 = .ok (.goto 4, 3) := by decide +kernel
theorem dX10_faithful_12 : decode cX10_faithful 12 = .ok (.iconst 0, 1) := by decide +kernel
theorem dX10_faithful_13 : decode cX10_faithful 13 = .ok (.ireturn, 1) := by decide +kernel
set_option maxRecDepth 20000 in
theorem ggX10_map_X10_isFunction : GoodIn wsX10_map wsX10_isFunction := goodIn_r _ [5, 6, 7, 8, 4, 9] (by decide +kernel) (by decide +kernel)
set_option maxRecDepth 20000 in
theorem gX10_map_X10_isFunction : GoodIn wsX10_map (va_wsS RX10 62 yX10_isFunction wsX10_isFunction) := goodIn_app (goodIn_of _ (by decide +kernel)) ggX10_map_X10_isFunction
set_option maxRecDepth 20000 in
theorem ggX10_map_X10_error : GoodIn wsX10_map wsX10_error := goodIn_r _ [13, 14, 41, 42, 43, 44, 45, 46, 47, 48, 49, 50, 51, 52, 53, 54, 55, 56, 57, 58, 59, 60, 61, 62, 63] (by decide +kernel) (by decide +kernel)
set_option maxRecDepth 20000 in
theorem gX10_map_X10_error : GoodIn wsX10_map (wsV RX10 72 RX10 yX10_error wsX10_error) := goodIn_app (goodIn_of _ (by decide +kernel)) ggX10_map_X10_error
set_option maxRecDepth 20000 in
theorem ggX10_map_X10_save : GoodIn wsX10_map wsX10_save := goodIn_r _ [18, 19, 20, 1, 41, 42, 43, 44, 45, 46, 47, 48, 49, 50, 51, 52, 53, 54, 55, 56, 57, 58, 59, 60, 61, 62, 63] (by decide +kernel) (by decide +kernel)
set_option maxRecDepth 20000 in
theorem gX10_map_X10_save : GoodIn wsX10_map (wsV RX10 59 RX10 yX10_save wsX10_save) := goodIn_app (goodIn_of _ (by decide +kernel)) ggX10_map_X10_save
set_option maxRecDepth 20000 in
theorem ggX10_map_X10_faithful : GoodIn wsX10_map wsX10_faithful := goodIn_r _ [24, 25, 26, 27, 4, 28, 1, 29, 30, 31, 32, 33, 34, 35, 36, 37, 38, 39, 40, 41, 42, 43, 44, 45, 46, 47, 48, 49, 50, 51, 52, 53, 54, 55, 56, 57, 58, 59, 60, 61, 62, 63] (by decide +kernel) (by decide +kernel)
set_option maxRecDepth 20000 in
theorem gX10_map_X10_faithful : GoodIn wsX10_map (wsV RX10 99 RX10 yX10_faithful wsX10_faithful) := goodIn_app (goodIn_of _ (by decide +kernel)) ggX10_map_X10_faithful
theorem dX10_map_0 : decode cX10_map 0 = .ok (.iload_n 1, 1) := by decide +kernel
theorem dX10_map_1 : decode cX10_map 1 = .ok (.invokestatic 62, 3) := by decide +kernel
theorem dX10_map_4 : decode cX10_map 4 = .ok (.ifCond .eq 10, 3) := by decide +kernel
theorem dX10_map_7 : decode cX10_map 7 = .ok (.iload_n 2, 1) := by decide +kernel
theorem dX10_map_8 : decode cX10_map 8 = .ok (.invokestatic 62, 3) := by decide +kernel
theorem dX10_map_11 : decode cX10_map 11 = .ok (.ifCond .ne 10, 3) := by decide +kernel
theorem dX10_map_14 : decode cX10_map 14 = .ok (.aload_n 0, 1) := by decide +kernel
theorem dX10_map_15 : decode cX10_map 15 = .ok (.bipush (-2), 2) := by decide +kernel
theorem dX10_map_17 : decode cX10_map 17 = .ok (.invokevirtual 72, 3) := by decide +kernel
theorem dX10_map_20 : decode cX10_map 20 = .ok (.ireturn, 1) := by decide +kernel
theorem dX10_map_21 : decode cX10_map 21 = .ok (.aload_n 0, 1) := by decide +kernel
theorem dX10_map_22 : decode cX10_map 22 = .ok (.invokevirtual 59, 3) := by decide +kernel
theorem dX10_map_25 : decode cX10_map 25 = .ok (.bipush 117, 2) := by decide +kernel
theorem dX10_map_27 : decode cX10_map 27 = .ok (.iconst 5, 1) := by decide +kernel
theorem dX10_map_28 : decode cX10_map 28 = .ok (.iload_n 1, 1) := by decide +kernel
theorem dX10_map_29 : decode cX10_map 29 = .ok (.imul, 1) := by decide +kernel
theorem dX10_map_30 : decode cX10_map 30 = .ok (.iadd, 1) := by decide +kernel
theorem dX10_map_31 : decode cX10_map 31 = .ok (.istore_n 3, 1) := by decide +kernel
theorem dX10_map_32 : decode cX10_map 32 = .ok (.aload_n 0, 1) := by decide +kernel
theorem dX10_map_33 : decode cX10_map 33 = .ok (.getfield 7, 3) := by decide +kernel
theorem dX10_map_36 : decode cX10_map 36 = .ok (.iload_n 3, 1) := by decide +kernel
theorem dX10_map_37 : decode cX10_map 37 = .ok (.iaload, 1) := by decide +kernel
theorem dX10_map_38 : decode cX10_map 38 = .ok (.iconst (-1), 1) := by decide +kernel
theorem dX10_map_39 : decode cX10_map 39 = .ok (.if_icmp .ne 40, 3) := by decide +kernel
theorem dX10_map_42 : decode cX10_map 42 = .ok (.aload_n 0, 1) := by decide +kernel
theorem dX10_map_43 : decode cX10_map 43 = .ok (.getfield 7, 3) := by decide +kernel
theorem dX10_map_46 : decode cX10_map 46 = .ok (.iload_n 3, 1) := by decide +kernel
theorem dX10_map_47 : decode cX10_map 47 = .ok (.iconst 1, 1) := by decide +kernel
theorem dX10_map_48 : decode cX10_map 48 = .ok (.iadd, 1) := by decide +kernel
theorem dX10_map_49 : decode cX10_map 49 = .ok (.iconst 0, 1) := by decide +kernel
theorem dX10_map_50 : decode cX10_map 50 = .ok (.iastore, 1) := by decide +kernel
theorem dX10_map_51 : decode cX10_map 51 = .ok (.aload_n 0, 1) := by decide +kernel
theorem dX10_map_52 : decode cX10_map 52 = .ok (.getfield 7, 3) := by decide +kernel
theorem dX10_map_55 : decode cX10_map 55 = .ok (.iload_n 3, 1) := by decide +kernel
theorem dX10_map_56 : decode cX10_map 56 = .ok (.iconst 2, 1) := by decide +kernel
theorem dX10_map_57 : decode cX10_map 57 = .ok (.iadd, 1) := by decide +kernel
theorem dX10_map_58 : decode cX10_map 58 = .ok (.iconst 1, 1) := by decide +kernel
theorem dX10_map_59 : decode cX10_map 59 = .ok (.iastore, 1) := by decide +kernel
theorem dX10_map_60 : decode cX10_map 60 = .ok (.aload_n 0, 1) := by decide +kernel
theorem dX10_map_61 : decode cX10_map 61 = .ok (.getfield 7, 3) := by decide +kernel
theorem dX10_map_64 : decode cX10_map 64 = .ok (.iload_n 3, 1) := by decide +kernel
theorem dX10_map_65 : decode cX10_map 65 = .ok (.iconst 3, 1) := by decide +kernel
theorem dX10_map_66 : decode cX10_map 66 = .ok (.iadd, 1) := by decide +kernel
theorem dX10_map_67 : decode cX10_map 67 = .ok (.iconst 2, 1) := by decide +kernel
theorem dX10_map_68 : decode cX10_map 68 = .ok (.iastore, 1) := by decide +kernel
theorem dX10_map_69 : decode cX10_map 69 = .ok (.aload_n 0, 1) := by decide +kernel
theorem dX10_map_70 : decode cX10_map 70 = .ok (.getfield 7, 3) := by decide +kernel
theorem dX10_map_73 : decode cX10_map 73 = .ok (.iload_n 3, 1) := by decide +kernel
theorem dX10_map_74 : decode cX10_map 74 = .ok (.iconst 4, 1) := by decide +kernel
theorem dX10_map_75 : decode cX10_map 75 = .ok (.iadd, 1) := by decide +kernel
theorem dX10_map_76 : decode cX10_map 76 = .ok (.bipush 100, 2) := by decide +kernel
theorem dX10_map_78 : decode cX10_map 78 = .ok (.iastore, 1) := by decide +kernel
theorem dX10_map_79 : decode cX10_map 79 = .ok (.aload_n 0, 1) := by decide +kernel
theorem dX10_map_80 : decode cX10_map 80 = .ok (.getfield 7, 3) := by decide +kernel
theorem dX10_map_83 : decode cX10_map 83 = .ok (.iload_n 3, 1) := by decide +kernel
theorem dX10_map_84 : decode cX10_map 84 = .ok (.iload_n 2, 1) := by decide +kernel
theorem dX10_map_85 : decode cX10_map 85 = .ok (.iastore, 1) := by decide +kernel
theorem dX10_map_86 : decode cX10_map 86 = .ok (.aload_n 0, 1) := by decide +kernel
theorem dX10_map_87 : decode cX10_map 87 = .ok (.iload_n 1, 1) := by decide +kernel
theorem dX10_map_88 : decode cX10_map 88 = .ok (.invokevirtual 99, 3) := by decide +kernel
theorem dX10_map_91 : decode cX10_map 91 = .ok (.ireturn, 1) := by decide +kernel
set_option maxRecDepth 20000 in
theorem ggX10_unmap_X10_isFunction : GoodIn wsX10_unmap wsX10_isFunction := goodIn_r _ [5, 6, 7, 8, 4, 9] (by decide +kernel) (by decide +kernel)
set_option maxRecDepth 20000 in
theorem gX10_unmap_X10_isFunction : GoodIn wsX10_unmap (va_wsS RX10 62 yX10_isFunction wsX10_isFunction) := goodIn_app (goodIn_of _ (by decide +kernel)) ggX10_unmap_X10_isFunction
set_option maxRecDepth 20000 in
theorem ggX10_unmap_X10_error : GoodIn wsX10_unmap wsX10_error := goodIn_r _ [13, 14, 25, 26, 27, 28, 29, 30, 31, 32, 33, 34, 35, 36, 37, 38, 39, 40, 41, 42, 43, 44, 45, 46, 47] (by decide +kernel) (by decide +kernel)
set_option maxRecDepth 20000 in
theorem gX10_unmap_X10_error : GoodIn wsX10_unmap (wsV RX10 72 RX10 yX10_error wsX10_error) := goodIn_app (goodIn_of _ (by decide +kernel)) ggX10_unmap_X10_error
set_option maxRecDepth 20000 in
theorem ggX10_unmap_X10_newOf : GoodIn wsX10_unmap wsX10_newOf := goodIn_r _ [18, 1, 25, 26, 27, 28, 29, 30, 31, 32, 33, 34, 35, 36, 37, 38, 39, 40, 41, 42, 43, 44, 45, 46, 47] (by decide +kernel) (by decide +kernel)
set_option maxRecDepth 20000 in
theorem gX10_unmap_X10_newOf : GoodIn wsX10_unmap (wsV RX10 86 RX10 yX10_newOf wsX10_newOf) := goodIn_app (goodIn_of _ (by decide +kernel)) ggX10_unmap_X10_newOf
set_option maxRecDepth 20000 in
theorem ggX10_unmap_X10_save : GoodIn wsX10_unmap wsX10_save := goodIn_r _ [22, 23, 24, 1, 25, 26, 27, 28, 29, 30, 31, 32, 33, 34, 35, 36, 37, 38, 39, 40, 41, 42, 43, 44, 45, 46, 47] (by decide +kernel) (by decide +kernel)
set_option maxRecDepth 20000 in
theorem gX10_unmap_X10_save : GoodIn wsX10_unmap (wsV RX10 59 RX10 yX10_save wsX10_save) := goodIn_app (goodIn_of _ (by decide +kernel)) ggX10_unmap_X10_save
theorem dX10_unmap_0 : decode cX10_unmap 0 = .ok (.iload_n 1, 1) := by decide +kernel
theorem dX10_unmap_1 : decode cX10_unmap 1 = .ok (.invokestatic 62, 3) := by decide +kernel
theorem dX10_unmap_4 : decode cX10_unmap 4 = .ok (.ifCond .ne 10, 3) := by decide +kernel
theorem dX10_unmap_7 : decode cX10_unmap 7 = .ok (.aload_n 0, 1) := by decide +kernel
theorem dX10_unmap_8 : decode cX10_unmap 8 = .ok (.bipush (-2), 2) := by decide +kernel
theorem dX10_unmap_10 : decode cX10_unmap 10 = .ok (.invokevirtual 72, 3) := by decide +kernel
theorem dX10_unmap_13 : decode cX10_unmap 13 = .ok (.ireturn, 1) := by decide +kernel
theorem dX10_unmap_14 : decode cX10_unmap 14 = .ok (.aload_n 0, 1) := by decide +kernel
theorem dX10_unmap_15 : decode cX10_unmap 15 = .ok (.iload_n 1, 1) := by decide +kernel
theorem dX10_unmap_16 : decode cX10_unmap 16 = .ok (.invokevirtual 86, 3) := by decide +kernel
theorem dX10_unmap_19 : decode cX10_unmap 19 = .ok (.istore_n 2, 1) := by decide +kernel
theorem dX10_unmap_20 : decode cX10_unmap 20 = .ok (.iload_n 2, 1) := by decide +kernel
theorem dX10_unmap_21 : decode cX10_unmap 21 = .ok (.iconst (-1), 1) := by decide +kernel
theorem dX10_unmap_22 : decode cX10_unmap 22 = .ok (.if_icmp .ne 10, 3) := by decide +kernel
theorem dX10_unmap_25 : decode cX10_unmap 25 = .ok (.aload_n 0, 1) := by decide +kernel
theorem dX10_unmap_26 : decode cX10_unmap 26 = .ok (.bipush (-3), 2) := by decide +kernel
theorem dX10_unmap_28 : decode cX10_unmap 28 = .ok (.invokevirtual 72, 3) := by decide +kernel
theorem dX10_unmap_31 : decode cX10_unmap 31 = .ok (.ireturn, 1) := by decide +kernel
theorem dX10_unmap_32 : decode cX10_unmap 32 = .ok (.aload_n 0, 1) := by decide +kernel
theorem dX10_unmap_33 : decode cX10_unmap 33 = .ok (.invokevirtual 59, 3) := by decide +kernel
theorem dX10_unmap_36 : decode cX10_unmap 36 = .ok (.aload_n 0, 1) := by decide +kernel
theorem dX10_unmap_37 : decode cX10_unmap 37 = .ok (.getfield 7, 3) := by decide +kernel
theorem dX10_unmap_40 : decode cX10_unmap 40 = .ok (.bipush 117, 2) := by decide +kernel
theorem dX10_unmap_42 : decode cX10_unmap 42 = .ok (.iconst 5, 1) := by decide +kernel
theorem dX10_unmap_43 : decode cX10_unmap 43 = .ok (.iload_n 1, 1) := by decide +kernel
theorem dX10_unmap_44 : decode cX10_unmap 44 = .ok (.imul, 1) := by decide +kernel
theorem dX10_unmap_45 : decode cX10_unmap 45 = .ok (.iadd, 1) := by decide +kernel
theorem dX10_unmap_46 : decode cX10_unmap 46 = .ok (.iconst (-1), 1) := by decide +kernel
theorem dX10_unmap_47 : decode cX10_unmap 47 = .ok (.iastore, 1) := by decide +kernel
theorem dX10_unmap_48 : decode cX10_unmap 48 = .ok (.iload_n 2, 1) := by decide +kernel
theorem dX10_unmap_49 : decode cX10_unmap 49 = .ok (.ireturn, 1) := by decide +kernel
set_option maxRecDepth 20000 in
theorem ggX10_setsEntry_X10_isFunction : GoodIn wsX10_setsEntry wsX10_isFunction := goodIn_r _ [6, 7, 8, 9, 5, 10] (by decide +kernel) (by decide +kernel)
set_option maxRecDepth 20000 in
theorem gX10_setsEntry_X10_isFunction : GoodIn wsX10_setsEntry (va_wsS RX10 62 yX10_isFunction wsX10_isFunction) := goodIn_app (goodIn_of _ (by decide +kernel)) ggX10_setsEntry_X10_isFunction
set_option maxRecDepth 20000 in
theorem ggX10_setsEntry_X10_in : GoodIn wsX10_setsEntry wsX10_in := goodIn_r _ [10] (by decide +kernel) (by decide +kernel)
set_option maxRecDepth 20000 in
theorem gX10_setsEntry_X10_in : GoodIn wsX10_setsEntry (va_wsS RX10 55 yX10_in wsX10_in) := goodIn_app (goodIn_of _ (by decide +kernel)) ggX10_setsEntry_X10_in
set_option maxRecDepth 20000 in
theorem ggX10_setsEntry_X10_error : GoodIn wsX10_setsEntry wsX10_error := goodIn_r _ [14, 15, 42, 43, 44, 45, 46, 47, 48, 49, 50, 51, 52, 53, 54, 55, 56, 57, 58, 59, 60, 61, 62, 63, 64] (by decide +kernel) (by decide +kernel)
set_option maxRecDepth 20000 in
theorem gX10_setsEntry_X10_error : GoodIn wsX10_setsEntry (wsV RX10 72 RX10 yX10_error wsX10_error) := goodIn_app (goodIn_of _ (by decide +kernel)) ggX10_setsEntry_X10_error
set_option maxRecDepth 20000 in
theorem ggX10_setsEntry_X10_newOf : GoodIn wsX10_setsEntry wsX10_newOf := goodIn_r _ [19, 2, 42, 43, 44, 45, 46, 47, 48, 49, 50, 51, 52, 53, 54, 55, 56, 57, 58, 59, 60, 61, 62, 63, 64] (by decide +kernel) (by decide +kernel)
set_option maxRecDepth 20000 in
theorem gX10_setsEntry_X10_newOf : GoodIn wsX10_setsEntry (wsV RX10 86 RX10 yX10_newOf wsX10_newOf) := goodIn_app (goodIn_of _ (by decide +kernel)) ggX10_setsEntry_X10_newOf
set_option maxRecDepth 20000 in
theorem ggX10_setsEntry_X10_save : GoodIn wsX10_setsEntry wsX10_save := goodIn_r _ [23, 24, 25, 2, 42, 43, 44, 45, 46, 47, 48, 49, 50, 51, 52, 53, 54, 55, 56, 57, 58, 59, 60, 61, 62, 63, 64] (by decide +kernel) (by decide +kernel)
set_option maxRecDepth 20000 in
theorem gX10_setsEntry_X10_save : GoodIn wsX10_setsEntry (wsV RX10 59 RX10 yX10_save wsX10_save) := goodIn_app (goodIn_of _ (by decide +kernel)) ggX10_setsEntry_X10_save
set_option maxRecDepth 20000 in
theorem ggX10_setsEntry_X10_faithful : GoodIn wsX10_setsEntry wsX10_faithful := goodIn_r _ [29, 30, 31, 32, 5, 33, 2, 16, 17, 18, 19, 34, 35, 36, 37, 38, 39, 40, 41, 42, 43, 44, 45, 46, 47, 48, 49, 50, 51, 52, 53, 54, 55, 56, 57, 58, 59, 60, 61, 62, 63, 64] (by decide +kernel) (by decide +kernel)
set_option maxRecDepth 20000 in
theorem gX10_setsEntry_X10_faithful : GoodIn wsX10_setsEntry (wsV RX10 99 RX10 yX10_faithful wsX10_faithful) := goodIn_app (goodIn_of _ (by decide +kernel)) ggX10_setsEntry_X10_faithful
theorem dX10_setsEntry_0 : decode cX10_setsEntry 0 = .ok (.iload_n 1, 1) := by decide +kernel
theorem dX10_setsEntry_1 : decode cX10_setsEntry 1 = .ok (.invokestatic 62, 3) := by decide +kernel
theorem dX10_setsEntry_4 : decode cX10_setsEntry 4 = .ok (.ifCond .eq 20, 3) := by decide +kernel
theorem dX10_setsEntry_7 : decode cX10_setsEntry 7 = .ok (.iload_n 2, 1) := by decide +kernel
theorem dX10_setsEntry_8 : decode cX10_setsEntry 8 = .ok (.i2l, 1) := by decide +kernel
theorem dX10_setsEntry_9 : decode cX10_setsEntry 9 = .ok (.lconst 0, 1) := by decide +kernel
theorem dX10_setsEntry_10 : decode cX10_setsEntry 10 = .ok (.ldc2_w 66, 3) := by decide +kernel
theorem dX10_setsEntry_13 : decode cX10_setsEntry 13 = .ok (.invokestatic 55, 3) := by decide +kernel
theorem dX10_setsEntry_16 : decode cX10_setsEntry 16 = .ok (.ifCond .eq 8, 3) := by decide +kernel
theorem dX10_setsEntry_19 : decode cX10_setsEntry 19 = .ok (.iload 4, 2) := by decide +kernel
theorem dX10_setsEntry_21 : decode cX10_setsEntry 21 = .ok (.ifCond .ne 10, 3) := by decide +kernel
theorem dX10_setsEntry_24 : decode cX10_setsEntry 24 = .ok (.aload_n 0, 1) := by decide +kernel
theorem dX10_setsEntry_25 : decode cX10_setsEntry 25 = .ok (.bipush (-2), 2) := by decide +kernel
theorem dX10_setsEntry_27 : decode cX10_setsEntry 27 = .ok (.invokevirtual 72, 3) := by decide +kernel
theorem dX10_setsEntry_30 : decode cX10_setsEntry 30 = .ok (.ireturn, 1) := by decide +kernel
theorem dX10_setsEntry_31 : decode cX10_setsEntry 31 = .ok (.aload_n 0, 1) := by decide +kernel
theorem dX10_setsEntry_32 : decode cX10_setsEntry 32 = .ok (.iload_n 1, 1) := by decide +kernel
theorem dX10_setsEntry_33 : decode cX10_setsEntry 33 = .ok (.invokevirtual 86, 3) := by decide +kernel
theorem dX10_setsEntry_36 : decode cX10_setsEntry 36 = .ok (.iconst (-1), 1) := by decide +kernel
theorem dX10_setsEntry_37 : decode cX10_setsEntry 37 = .ok (.if_icmp .ne 10, 3) := by decide +kernel
theorem dX10_setsEntry_40 : decode cX10_setsEntry 40 = .ok (.aload_n 0, 1) := by decide +kernel
theorem dX10_setsEntry_41 : decode cX10_setsEntry 41 = .ok (.bipush (-3), 2) := by decide +kernel
theorem dX10_setsEntry_43 : decode cX10_setsEntry 43 = .ok (.invokevirtual 72, 3) := by decide +kernel
theorem dX10_setsEntry_46 : decode cX10_setsEntry 46 = .ok (.ireturn, 1) := by decide +kernel
theorem dX10_setsEntry_47 : decode cX10_setsEntry 47 = .ok (.aload_n 0, 1) := by decide +kernel
theorem dX10_setsEntry_48 : decode cX10_setsEntry 48 = .ok (.invokevirtual 59, 3) := by decide +kernel
theorem dX10_setsEntry_51 : decode cX10_setsEntry 51 = .ok (.aload_n 0, 1) := by decide +kernel
theorem dX10_setsEntry_52 : decode cX10_setsEntry 52 = .ok (.getfield 7, 3) := by decide +kernel
theorem dX10_setsEntry_55 : decode cX10_setsEntry 55 = .ok (.bipush 117, 2) := by decide +kernel
theorem dX10_setsEntry_57 : decode cX10_setsEntry 57 = .ok (.iconst 5, 1) := by decide +kernel
theorem dX10_setsEntry_58 : decode cX10_setsEntry 58 = .ok (.iload_n 1, 1) := by decide +kernel
theorem dX10_setsEntry_59 : decode cX10_setsEntry 59 = .ok (.imul, 1) := by decide +kernel
theorem dX10_setsEntry_60 : decode cX10_setsEntry 60 = .ok (.iadd, 1) := by decide +kernel
theorem dX10_setsEntry_61 : decode cX10_setsEntry 61 = .ok (.iconst 1, 1) := by decide +kernel
theorem dX10_setsEntry_62 : decode cX10_setsEntry 62 = .ok (.iadd, 1) := by decide +kernel
theorem dX10_setsEntry_63 : decode cX10_setsEntry 63 = .ok (.iload_n 2, 1) := by decide +kernel
theorem dX10_setsEntry_64 : decode cX10_setsEntry 64 = .ok (.iadd, 1) := by decide +kernel
theorem dX10_setsEntry_65 : decode cX10_setsEntry 65 = .ok (.iload_n 3, 1) := by decide +kernel
theorem dX10_setsEntry_66 : decode cX10_setsEntry 66 = .ok (.iastore, 1) := by decide +kernel
theorem dX10_setsEntry_67 : decode cX10_setsEntry 67 = .ok (.aload_n 0, 1) := by decide +kernel
theorem dX10_setsEntry_68 : decode cX10_setsEntry 68 = .ok (.iload_n 1, 1) := by decide +kernel
theorem dX10_setsEntry_69 : decode cX10_setsEntry 69 = .ok (.invokevirtual 99, 3) := by decide +kernel
theorem dX10_setsEntry_72 : decode cX10_setsEntry 72 = .ok (.ireturn, 1) := by decide +kernel
set_option maxRecDepth 20000 in
theorem ggX10_setSource_X10_in : GoodIn wsX10_setSource wsX10_in := goodIn_r _ [5] (by decide +kernel) (by decide +kernel)
set_option maxRecDepth 20000 in
theorem gX10_setSource_X10_in : GoodIn wsX10_setSource (va_wsS RX10 55 yX10_in wsX10_in) := goodIn_app (goodIn_of _ (by decide +kernel)) ggX10_setSource_X10_in
set_option maxRecDepth 20000 in
theorem ggX10_setSource_X10_setsEntry : GoodIn wsX10_setSource wsX10_setsEntry := goodIn_r _ [9, 10, 11, 12, 13, 4, 14, 15, 2, 3, 5, 16, 17, 18, 19, 20, 21, 22, 23, 24, 25, 26, 27, 28, 29, 30, 31, 32, 33, 34, 35, 36, 37, 38, 39, 40, 41, 42, 43, 44, 45, 46, 47, 48, 49, 50, 51, 52, 53, 54, 55, 56, 57, 58, 59, 60, 61, 62, 63, 64, 65, 66, 67, 68, 69] (by decide +kernel) (by decide +kernel)
set_option maxRecDepth 20000 in
theorem gX10_setSource_X10_setsEntry : GoodIn wsX10_setSource (wsV RX10 104 RX10 yX10_setsEntry wsX10_setsEntry) := goodIn_app (goodIn_of _ (by decide +kernel)) ggX10_setSource_X10_setsEntry
theorem dX10_setSource_0 : decode cX10_setSource 0 = .ok (.aload_n 0, 1) := by decide +kernel
theorem dX10_setSource_1 : decode cX10_setSource 1 = .ok (.iload_n 1, 1) := by decide +kernel
theorem dX10_setSource_2 : decode cX10_setSource 2 = .ok (.iload_n 2, 1) := by decide +kernel
theorem dX10_setSource_3 : decode cX10_setSource 3 = .ok (.iload_n 3, 1) := by decide +kernel
theorem dX10_setSource_4 : decode cX10_setSource 4 = .ok (.iload_n 3, 1) := by decide +kernel
theorem dX10_setSource_5 : decode cX10_setSource 5 = .ok (.i2l, 1) := by decide +kernel
theorem dX10_setSource_6 : decode cX10_setSource 6 = .ok (.lconst 0, 1) := by decide +kernel
theorem dX10_setSource_7 : decode cX10_setSource 7 = .ok (.ldc2_w 102, 3) := by decide +kernel
theorem dX10_setSource_10 : decode cX10_setSource 10 = .ok (.invokestatic 55, 3) := by decide +kernel
theorem dX10_setSource_13 : decode cX10_setSource 13 = .ok (.invokevirtual 104, 3) := by decide +kernel
theorem dX10_setSource_16 : decode cX10_setSource 16 = .ok (.ireturn, 1) := by decide +kernel
set_option maxRecDepth 20000 in
theorem ggX10_setConstant_X10_in : GoodIn wsX10_setConstant wsX10_in := goodIn_r _ [5] (by decide +kernel) (by decide +kernel)
set_option maxRecDepth 20000 in
theorem gX10_setConstant_X10_in : GoodIn wsX10_setConstant (va_wsS RX10 55 yX10_in wsX10_in) := goodIn_app (goodIn_of _ (by decide +kernel)) ggX10_setConstant_X10_in
set_option maxRecDepth 20000 in
theorem ggX10_setConstant_X10_setsEntry : GoodIn wsX10_setConstant wsX10_setsEntry := goodIn_r _ [9, 10, 11, 12, 13, 4, 14, 15, 2, 3, 5, 16, 17, 18, 19, 20, 21, 22, 23, 24, 25, 26, 27, 28, 29, 30, 31, 32, 33, 34, 35, 36, 37, 38, 39, 40, 41, 42, 43, 44, 45, 46, 47, 48, 49, 50, 51, 52, 53, 54, 55, 56, 57, 58, 59, 60, 61, 62, 63, 64, 65, 66, 67, 68, 69] (by decide +kernel) (by decide +kernel)
set_option maxRecDepth 20000 in
theorem gX10_setConstant_X10_setsEntry : GoodIn wsX10_setConstant (wsV RX10 104 RX10 yX10_setsEntry wsX10_setsEntry) := goodIn_app (goodIn_of _ (by decide +kernel)) ggX10_setConstant_X10_setsEntry
theorem dX10_setConstant_0 : decode cX10_setConstant 0 = .ok (.iload_n 3, 1) := by decide +kernel
theorem dX10_setConstant_1 : decode cX10_setConstant 1 = .ok (.i2l, 1) := by decide +kernel
theorem dX10_setConstant_2 : decode cX10_setConstant 2 = .ok (.lconst 0, 1) := by decide +kernel
theorem dX10_setConstant_3 : decode cX10_setConstant 3 = .ok (.ldc2_w 80, 3) := by decide +kernel
theorem dX10_setConstant_6 : decode cX10_setConstant 6 = .ok (.invokestatic 55, 3) := by decide +kernel
theorem dX10_setConstant_9 : decode cX10_setConstant 9 = .ok (.istore 4, 2) := by decide +kernel
theorem dX10_setConstant_11 : decode cX10_setConstant 11 = .ok (.aload_n 0, 1) := by decide +kernel
theorem dX10_setConstant_12 : decode cX10_setConstant 12 = .ok (.iload_n 1, 1) := by decide +kernel
theorem dX10_setConstant_13 : decode cX10_setConstant 13 = .ok (.iload_n 2, 1) := by decide +kernel
theorem dX10_setConstant_14 : decode cX10_setConstant 14 = .ok (.iload 4, 2) := by decide +kernel
theorem dX10_setConstant_16 : decode cX10_setConstant 16 = .ok (.ifCond .eq 10, 3) := by decide +kernel
theorem dX10_setConstant_19 : decode cX10_setConstant 19 = .ok (.bipush 100, 2) := by decide +kernel
theorem dX10_setConstant_21 : decode cX10_setConstant 21 = .ok (.iload_n 3, 1) := by decide +kernel
theorem dX10_setConstant_22 : decode cX10_setConstant 22 = .ok (.iadd, 1) := by decide +kernel
theorem dX10_setConstant_23 : decode cX10_setConstant 23 = .ok (.goto 4, 3) := by decide +kernel
theorem dX10_setConstant_26 : decode cX10_setConstant 26 = .ok (.iconst 0, 1) := by decide +kernel
theorem dX10_setConstant_27 : decode cX10_setConstant 27 = .ok (.iload 4, 2) := by decide +kernel
theorem dX10_setConstant_29 : decode cX10_setConstant 29 = .ok (.invokevirtual 104, 3) := by decide +kernel
theorem dX10_setConstant_32 : decode cX10_setConstant 32 = .ok (.ireturn, 1) := by decide +kernel
set_option maxRecDepth 20000 in
theorem ggX10_isFaithful_X10_isFunction : GoodIn wsX10_isFaithful wsX10_isFunction := goodIn_r _ [4, 5, 6, 7, 3, 8] (by decide +kernel) (by decide +kernel)
set_option maxRecDepth 20000 in
theorem gX10_isFaithful_X10_isFunction : GoodIn wsX10_isFaithful (va_wsS RX10 62 yX10_isFunction wsX10_isFunction) := goodIn_app (goodIn_of _ (by decide +kernel)) ggX10_isFaithful_X10_isFunction
set_option maxRecDepth 20000 in
theorem ggX10_isFaithful_X10_error : GoodIn wsX10_isFaithful wsX10_error := goodIn_r _ [12, 13, 35, 36, 37, 38, 39, 40, 41, 42, 43, 44, 45, 46, 47, 48, 49, 50, 51, 52, 53, 54, 55, 56, 57] (by decide +kernel) (by decide +kernel)
set_option maxRecDepth 20000 in
theorem gX10_isFaithful_X10_error : GoodIn wsX10_isFaithful (wsV RX10 72 RX10 yX10_error wsX10_error) := goodIn_app (goodIn_of _ (by decide +kernel)) ggX10_isFaithful_X10_error
set_option maxRecDepth 20000 in
theorem ggX10_isFaithful_X10_newOf : GoodIn wsX10_isFaithful wsX10_newOf := goodIn_r _ [17, 18, 35, 36, 37, 38, 39, 40, 41, 42, 43, 44, 45, 46, 47, 48, 49, 50, 51, 52, 53, 54, 55, 56, 57] (by decide +kernel) (by decide +kernel)
set_option maxRecDepth 20000 in
theorem gX10_isFaithful_X10_newOf : GoodIn wsX10_isFaithful (wsV RX10 86 RX10 yX10_newOf wsX10_newOf) := goodIn_app (goodIn_of _ (by decide +kernel)) ggX10_isFaithful_X10_newOf
set_option maxRecDepth 20000 in
theorem ggX10_isFaithful_X10_faithful : GoodIn wsX10_isFaithful wsX10_faithful := goodIn_r _ [22, 23, 24, 25, 3, 26, 18, 14, 15, 16, 17, 27, 28, 29, 30, 31, 32, 33, 34, 35, 36, 37, 38, 39, 40, 41, 42, 43, 44, 45, 46, 47, 48, 49, 50, 51, 52, 53, 54, 55, 56, 57] (by decide +kernel) (by decide +kernel)
set_option maxRecDepth 20000 in
theorem gX10_isFaithful_X10_faithful : GoodIn wsX10_isFaithful (wsV RX10 99 RX10 yX10_faithful wsX10_faithful) := goodIn_app (goodIn_of _ (by decide +kernel)) ggX10_isFaithful_X10_faithful
theorem dX10_isFaithful_0 : decode cX10_isFaithful 0 = .ok (.iload_n 1, 1) := by decide +kernel
theorem dX10_isFaithful_1 : decode cX10_isFaithful 1 = .ok (.invokestatic 62, 3) := by decide +kernel
theorem dX10_isFaithful_4 : decode cX10_isFaithful 4 = .ok (.ifCond .ne 10, 3) := by decide +kernel
theorem dX10_isFaithful_7 : decode cX10_isFaithful 7 = .ok (.aload_n 0, 1) := by decide +kernel
theorem dX10_isFaithful_8 : decode cX10_isFaithful 8 = .ok (.bipush (-2), 2) := by decide +kernel
theorem dX10_isFaithful_10 : decode cX10_isFaithful 10 = .ok (.invokevirtual 72, 3) := by decide +kernel
theorem dX10_isFaithful_13 : decode cX10_isFaithful 13 = .ok (.ireturn, 1) := by decide +kernel
theorem dX10_isFaithful_14 : decode cX10_isFaithful 14 = .ok (.aload_n 0, 1) := by decide +kernel
theorem dX10_isFaithful_15 : decode cX10_isFaithful 15 = .ok (.iload_n 1, 1) := by decide +kernel
theorem dX10_isFaithful_16 : decode cX10_isFaithful 16 = .ok (.invokevirtual 86, 3) := by decide +kernel
theorem dX10_isFaithful_19 : decode cX10_isFaithful 19 = .ok (.iconst (-1), 1) := by decide +kernel
theorem dX10_isFaithful_20 : decode cX10_isFaithful 20 = .ok (.if_icmp .ne 12, 3) := by decide +kernel
theorem dX10_isFaithful_23 : decode cX10_isFaithful 23 = .ok (.aload_n 0, 1) := by decide +kernel
theorem dX10_isFaithful_24 : decode cX10_isFaithful 24 = .ok (.bipush (-3), 2) := by decide +kernel
theorem dX10_isFaithful_26 : decode cX10_isFaithful 26 = .ok (.invokevirtual 72, 3) := by decide +kernel
theorem dX10_isFaithful_29 : decode cX10_isFaithful 29 = .ok (.goto 8, 3) := by decide +kernel
theorem dX10_isFaithful_32 : decode cX10_isFaithful 32 = .ok (.aload_n 0, 1) := by decide +kernel
theorem dX10_isFaithful_33 : decode cX10_isFaithful 33 = .ok (.iload_n 1, 1) := by decide +kernel
theorem dX10_isFaithful_34 : decode cX10_isFaithful 34 = .ok (.invokevirtual 99, 3) := by decide +kernel
theorem dX10_isFaithful_37 : decode cX10_isFaithful 37 = .ok (.ireturn, 1) := by decide +kernel
set_option maxRecDepth 20000 in
theorem ggX10_allowAdapters_X10_in : GoodIn wsX10_allowAdapters wsX10_in := goodIn_r _ [5] (by decide +kernel) (by decide +kernel)
set_option maxRecDepth 20000 in
theorem gX10_allowAdapters_X10_in : GoodIn wsX10_allowAdapters (va_wsS RX10 55 yX10_in wsX10_in) := goodIn_app (goodIn_of _ (by decide +kernel)) ggX10_allowAdapters_X10_in
set_option maxRecDepth 20000 in
theorem ggX10_allowAdapters_X10_error : GoodIn wsX10_allowAdapters wsX10_error := goodIn_r _ [9, 10, 17, 18, 19, 20, 21, 22, 23, 24, 25, 26, 27, 28, 29, 30, 31, 32, 33, 34, 35, 36, 37, 38, 39] (by decide +kernel) (by decide +kernel)
set_option maxRecDepth 20000 in
theorem gX10_allowAdapters_X10_error : GoodIn wsX10_allowAdapters (wsV RX10 72 RX10 yX10_error wsX10_error) := goodIn_app (goodIn_of _ (by decide +kernel)) ggX10_allowAdapters_X10_error
set_option maxRecDepth 20000 in
theorem ggX10_allowAdapters_X10_save : GoodIn wsX10_allowAdapters wsX10_save := goodIn_r _ [14, 15, 16, 1, 17, 18, 19, 20, 21, 22, 23, 24, 25, 26, 27, 28, 29, 30, 31, 32, 33, 34, 35, 36, 37, 38, 39] (by decide +kernel) (by decide +kernel)
set_option maxRecDepth 20000 in
theorem gX10_allowAdapters_X10_save : GoodIn wsX10_allowAdapters (wsV RX10 59 RX10 yX10_save wsX10_save) := goodIn_app (goodIn_of _ (by decide +kernel)) ggX10_allowAdapters_X10_save
theorem dX10_allowAdapters_0 : decode cX10_allowAdapters 0 = .ok (.iload_n 1, 1) := by decide +kernel
theorem dX10_allowAdapters_1 : decode cX10_allowAdapters 1 = .ok (.i2l, 1) := by decide +kernel
theorem dX10_allowAdapters_2 : decode cX10_allowAdapters 2 = .ok (.lconst 0, 1) := by decide +kernel
theorem dX10_allowAdapters_3 : decode cX10_allowAdapters 3 = .ok (.lconst 1, 1) := by decide +kernel
theorem dX10_allowAdapters_4 : decode cX10_allowAdapters 4 = .ok (.invokestatic 55, 3) := by decide +kernel
theorem dX10_allowAdapters_7 : decode cX10_allowAdapters 7 = .ok (.ifCond .ne 10, 3) := by decide +kernel
theorem dX10_allowAdapters_10 : decode cX10_allowAdapters 10 = .ok (.aload_n 0, 1) := by decide +kernel
theorem dX10_allowAdapters_11 : decode cX10_allowAdapters 11 = .ok (.bipush (-2), 2) := by decide +kernel
theorem dX10_allowAdapters_13 : decode cX10_allowAdapters 13 = .ok (.invokevirtual 72, 3) := by decide +kernel
theorem dX10_allowAdapters_16 : decode cX10_allowAdapters 16 = .ok (.ireturn, 1) := by decide +kernel
theorem dX10_allowAdapters_17 : decode cX10_allowAdapters 17 = .ok (.aload_n 0, 1) := by decide +kernel
theorem dX10_allowAdapters_18 : decode cX10_allowAdapters 18 = .ok (.invokevirtual 59, 3) := by decide +kernel
theorem dX10_allowAdapters_21 : decode cX10_allowAdapters 21 = .ok (.aload_n 0, 1) := by decide +kernel
theorem dX10_allowAdapters_22 : decode cX10_allowAdapters 22 = .ok (.getfield 7, 3) := by decide +kernel
theorem dX10_allowAdapters_25 : decode cX10_allowAdapters 25 = .ok (.sipush 147, 3) := by decide +kernel
theorem dX10_allowAdapters_28 : decode cX10_allowAdapters 28 = .ok (.iaload, 1) := by decide +kernel
theorem dX10_allowAdapters_29 : decode cX10_allowAdapters 29 = .ok (.istore_n 2, 1) := by decide +kernel
theorem dX10_allowAdapters_30 : decode cX10_allowAdapters 30 = .ok (.aload_n 0, 1) := by decide +kernel
theorem dX10_allowAdapters_31 : decode cX10_allowAdapters 31 = .ok (.getfield 7, 3) := by decide +kernel
theorem dX10_allowAdapters_34 : decode cX10_allowAdapters 34 = .ok (.sipush 147, 3) := by decide +kernel
theorem dX10_allowAdapters_37 : decode cX10_allowAdapters 37 = .ok (.iload_n 1, 1) := by decide +kernel
theorem dX10_allowAdapters_38 : decode cX10_allowAdapters 38 = .ok (.iastore, 1) := by decide +kernel
theorem dX10_allowAdapters_39 : decode cX10_allowAdapters 39 = .ok (.iload_n 2, 1) := by decide +kernel
theorem dX10_allowAdapters_40 : decode cX10_allowAdapters 40 = .ok (.ireturn, 1) := by decide +kernel
theorem dX10_adapter_0 : decode cX10_adapter 0 = .ok (.iconst (-1), 1) := by decide +kernel
theorem dX10_adapter_1 : decode cX10_adapter 1 = .ok (.istore_n 2, 1) := by decide +kernel
theorem dX10_adapter_2 : decode cX10_adapter 2 = .ok (.iconst 0, 1) := by decide +kernel
theorem dX10_adapter_3 : decode cX10_adapter 3 = .ok (.istore_n 3, 1) := by decide +kernel
theorem dX10_adapter_4 : decode cX10_adapter 4 = .ok (.iload_n 3, 1) := by decide +kernel
theorem dX10_adapter_5 : decode cX10_adapter 5 = .ok (.aload_n 0, 1) := by decide +kernel
theorem dX10_adapter_6 : decode cX10_adapter 6 = .ok (.getfield 7, 3) := by decide +kernel
theorem dX10_adapter_9 : decode cX10_adapter 9 = .ok (.bipush 116, 2) := by decide +kernel
theorem dX10_adapter_11 : decode cX10_adapter 11 = .ok (.iaload, 1) := by decide +kernel
theorem dX10_adapter_12 : decode cX10_adapter 12 = .ok (.if_icmp .ge 34, 3) := by decide +kernel
theorem dX10_adapter_15 : decode cX10_adapter 15 = .ok (.aload_n 0, 1) := by decide +kernel
theorem dX10_adapter_16 : decode cX10_adapter 16 = .ok (.getfield 7, 3) := by decide +kernel
theorem dX10_adapter_19 : decode cX10_adapter 19 = .ok (.bipush 84, 2) := by decide +kernel
theorem dX10_adapter_21 : decode cX10_adapter 21 = .ok (.bipush 8, 2) := by decide +kernel
theorem dX10_adapter_23 : decode cX10_adapter 23 = .ok (.iload_n 3, 1) := by decide +kernel
theorem dX10_adapter_24 : decode cX10_adapter 24 = .ok (.imul, 1) := by decide +kernel
theorem dX10_adapter_25 : decode cX10_adapter 25 = .ok (.iadd, 1) := by decide +kernel
theorem dX10_adapter_26 : decode cX10_adapter 26 = .ok (.bipush 7, 2) := by decide +kernel
theorem dX10_adapter_28 : decode cX10_adapter 28 = .ok (.iadd, 1) := by decide +kernel
theorem dX10_adapter_29 : decode cX10_adapter 29 = .ok (.iaload, 1) := by decide +kernel
theorem dX10_adapter_30 : decode cX10_adapter 30 = .ok (.iload_n 1, 1) := by decide +kernel
theorem dX10_adapter_31 : decode cX10_adapter 31 = .ok (.if_icmp .ne 7, 3) := by decide +kernel
theorem dX10_adapter_34 : decode cX10_adapter 34 = .ok (.iload_n 3, 1) := by decide +kernel
theorem dX10_adapter_35 : decode cX10_adapter 35 = .ok (.goto 4, 3) := by decide +kernel
theorem dX10_adapter_38 : decode cX10_adapter 38 = .ok (.iload_n 2, 1) := by decide +kernel
theorem dX10_adapter_39 : decode cX10_adapter 39 = .ok (.istore_n 2, 1) := by decide +kernel
theorem dX10_adapter_40 : decode cX10_adapter 40 = .ok (.iinc 3 1, 3) := by decide +kernel
theorem dX10_adapter_43 : decode cX10_adapter 43 = .ok (.goto (-39), 3) := by decide +kernel
theorem dX10_adapter_46 : decode cX10_adapter 46 = .ok (.iload_n 2, 1) := by decide +kernel
theorem dX10_adapter_47 : decode cX10_adapter 47 = .ok (.ireturn, 1) := by decide +kernel
set_option maxRecDepth 20000 in
theorem ggX10_adapterOf_X10_isFunction : GoodIn wsX10_adapterOf wsX10_isFunction := goodIn_r _ [4, 5, 6, 7, 3, 8] (by decide +kernel) (by decide +kernel)
set_option maxRecDepth 20000 in
theorem gX10_adapterOf_X10_isFunction : GoodIn wsX10_adapterOf (va_wsS RX10 62 yX10_isFunction wsX10_isFunction) := goodIn_app (goodIn_of _ (by decide +kernel)) ggX10_adapterOf_X10_isFunction
set_option maxRecDepth 20000 in
theorem ggX10_adapterOf_X10_error : GoodIn wsX10_adapterOf wsX10_error := goodIn_r _ [12, 13, 19, 20, 21, 22, 23, 24, 25, 26, 27, 28, 29, 30, 31, 32, 33, 34, 35, 36, 37, 38, 39, 40, 41] (by decide +kernel) (by decide +kernel)
set_option maxRecDepth 20000 in
theorem gX10_adapterOf_X10_error : GoodIn wsX10_adapterOf (wsV RX10 72 RX10 yX10_error wsX10_error) := goodIn_app (goodIn_of _ (by decide +kernel)) ggX10_adapterOf_X10_error
set_option maxRecDepth 20000 in
theorem ggX10_adapterOf_X10_adapter : GoodIn wsX10_adapterOf wsX10_adapter := goodIn_r _ [17, 18, 19, 20, 21, 22, 23, 24, 25, 26, 27, 28, 29, 30, 31, 32, 33, 34, 35, 36, 37, 38, 39, 40, 41] (by decide +kernel) (by decide +kernel)
set_option maxRecDepth 20000 in
theorem gX10_adapterOf_X10_adapter : GoodIn wsX10_adapterOf (wsV RX10 108 RX10 yX10_adapter wsX10_adapter) := goodIn_app (goodIn_of _ (by decide +kernel)) ggX10_adapterOf_X10_adapter
theorem dX10_adapterOf_0 : decode cX10_adapterOf 0 = .ok (.iload_n 1, 1) := by decide +kernel
theorem dX10_adapterOf_1 : decode cX10_adapterOf 1 = .ok (.invokestatic 62, 3) := by decide +kernel
theorem dX10_adapterOf_4 : decode cX10_adapterOf 4 = .ok (.ifCond .ne 10, 3) := by decide +kernel
theorem dX10_adapterOf_7 : decode cX10_adapterOf 7 = .ok (.aload_n 0, 1) := by decide +kernel
theorem dX10_adapterOf_8 : decode cX10_adapterOf 8 = .ok (.bipush (-2), 2) := by decide +kernel
theorem dX10_adapterOf_10 : decode cX10_adapterOf 10 = .ok (.invokevirtual 72, 3) := by decide +kernel
theorem dX10_adapterOf_13 : decode cX10_adapterOf 13 = .ok (.ireturn, 1) := by decide +kernel
theorem dX10_adapterOf_14 : decode cX10_adapterOf 14 = .ok (.aload_n 0, 1) := by decide +kernel
theorem dX10_adapterOf_15 : decode cX10_adapterOf 15 = .ok (.iload_n 1, 1) := by decide +kernel
theorem dX10_adapterOf_16 : decode cX10_adapterOf 16 = .ok (.invokevirtual 108, 3) := by decide +kernel
theorem dX10_adapterOf_19 : decode cX10_adapterOf 19 = .ok (.istore_n 2, 1) := by decide +kernel
theorem dX10_adapterOf_20 : decode cX10_adapterOf 20 = .ok (.iload_n 2, 1) := by decide +kernel
theorem dX10_adapterOf_21 : decode cX10_adapterOf 21 = .ok (.iconst (-1), 1) := by decide +kernel
theorem dX10_adapterOf_22 : decode cX10_adapterOf 22 = .ok (.if_icmp .ne 12, 3) := by decide +kernel
theorem dX10_adapterOf_25 : decode cX10_adapterOf 25 = .ok (.aload_n 0, 1) := by decide +kernel
theorem dX10_adapterOf_26 : decode cX10_adapterOf 26 = .ok (.bipush (-3), 2) := by decide +kernel
theorem dX10_adapterOf_28 : decode cX10_adapterOf 28 = .ok (.invokevirtual 72, 3) := by decide +kernel
theorem dX10_adapterOf_31 : decode cX10_adapterOf 31 = .ok (.goto 4, 3) := by decide +kernel
theorem dX10_adapterOf_34 : decode cX10_adapterOf 34 = .ok (.iload_n 2, 1) := by decide +kernel
theorem dX10_adapterOf_35 : decode cX10_adapterOf 35 = .ok (.ireturn, 1) := by decide +kernel
theorem dX10_kind_0 : decode cX10_kind 0 = .ok (.iload_n 0, 1) := by decide +kernel
theorem dX10_kind_1 : decode cX10_kind 1 = .ok (.sipush 10000, 3) := by decide +kernel
theorem dX10_kind_4 : decode cX10_kind 4 = .ok (.idiv, 1) := by decide +kernel
theorem dX10_kind_5 : decode cX10_kind 5 = .ok (.ireturn, 1) := by decide +kernel
theorem dX10_which_0 : decode cX10_which 0 = .ok (.iload_n 0, 1) := by decide +kernel
theorem dX10_which_1 : decode cX10_which 1 = .ok (.bipush 10, 2) := by decide +kernel
theorem dX10_which_3 : decode cX10_which 3 = .ok (.idiv, 1) := by decide +kernel
theorem dX10_which_4 : decode cX10_which 4 = .ok (.sipush 1000, 3) := by decide +kernel
theorem dX10_which_7 : decode cX10_which 7 = .ok (.irem, 1) := by decide +kernel
theorem dX10_which_8 : decode cX10_which 8 = .ok (.ireturn, 1) := by decide +kernel
theorem dX10_arguments_0 : decode cX10_arguments 0 = .ok (.iload_n 0, 1) := by decide +kernel
theorem dX10_arguments_1 : decode cX10_arguments 1 = .ok (.bipush 10, 2) := by decide +kernel
theorem dX10_arguments_3 : decode cX10_arguments 3 = .ok (.irem, 1) := by decide +kernel
theorem dX10_arguments_4 : decode cX10_arguments 4 = .ok (.ireturn, 1) := by decide +kernel
theorem dX10_node_0 : decode cX10_node 0 = .ok (.sipush 10000, 3) := by decide +kernel
theorem dX10_node_3 : decode cX10_node 3 = .ok (.iload_n 0, 1) := by decide +kernel
theorem dX10_node_4 : decode cX10_node 4 = .ok (.imul, 1) := by decide +kernel
theorem dX10_node_5 : decode cX10_node 5 = .ok (.bipush 10, 2) := by decide +kernel
theorem dX10_node_7 : decode cX10_node 7 = .ok (.iload_n 1, 1) := by decide +kernel
theorem dX10_node_8 : decode cX10_node 8 = .ok (.imul, 1) := by decide +kernel
theorem dX10_node_9 : decode cX10_node 9 = .ok (.iadd, 1) := by decide +kernel
theorem dX10_node_10 : decode cX10_node 10 = .ok (.iload_n 2, 1) := by decide +kernel
theorem dX10_node_11 : decode cX10_node 11 = .ok (.iadd, 1) := by decide +kernel
theorem dX10_node_12 : decode cX10_node 12 = .ok (.ireturn, 1) := by decide +kernel
set_option maxRecDepth 20000 in
theorem ggX10_function_X10_kind : GoodIn wsX10_function wsX10_kind := goodIn_r _ [4] (by decide +kernel) (by decide +kernel)
set_option maxRecDepth 20000 in
theorem gX10_function_X10_kind : GoodIn wsX10_function (va_wsS RX10 111 yX10_kind wsX10_kind) := goodIn_app (goodIn_of _ (by decide +kernel)) ggX10_function_X10_kind
set_option maxRecDepth 20000 in
theorem ggX10_function_X10_which : GoodIn wsX10_function wsX10_which := goodIn_r _ [7] (by decide +kernel) (by decide +kernel)
set_option maxRecDepth 20000 in
theorem gX10_function_X10_which : GoodIn wsX10_function (va_wsS RX10 114 yX10_which wsX10_which) := goodIn_app (goodIn_of _ (by decide +kernel)) ggX10_function_X10_which
theorem dX10_function_0 : decode cX10_function 0 = .ok (.iload_n 1, 1) := by decide +kernel
theorem dX10_function_1 : decode cX10_function 1 = .ok (.invokestatic 111, 3) := by decide +kernel
theorem dX10_function_4 : decode cX10_function 4 = .ok (.iconst 3, 1) := by decide +kernel
theorem dX10_function_5 : decode cX10_function 5 = .ok (.if_icmp .ne 15, 3) := by decide +kernel
theorem dX10_function_8 : decode cX10_function 8 = .ok (.iconst 0, 1) := by decide +kernel
theorem dX10_function_9 : decode cX10_function 9 = .ok (.bipush 7, 2) := by decide +kernel
theorem dX10_function_11 : decode cX10_function 11 = .ok (.iload_n 1, 1) := by decide +kernel
theorem dX10_function_12 : decode cX10_function 12 = .ok (.invokestatic 114, 3) := by decide +kernel
theorem dX10_function_15 : decode cX10_function 15 = .ok (.imul, 1) := by decide +kernel
theorem dX10_function_16 : decode cX10_function 16 = .ok (.iadd, 1) := by decide +kernel
theorem dX10_function_17 : decode cX10_function 17 = .ok (.goto 34, 3) := by decide +kernel
theorem dX10_function_20 : decode cX10_function 20 = .ok (.iload_n 1, 1) := by decide +kernel
theorem dX10_function_21 : decode cX10_function 21 = .ok (.invokestatic 111, 3) := by decide +kernel
theorem dX10_function_24 : decode cX10_function 24 = .ok (.iconst 4, 1) := by decide +kernel
theorem dX10_function_25 : decode cX10_function 25 = .ok (.if_icmp .ne 16, 3) := by decide +kernel
theorem dX10_function_28 : decode cX10_function 28 = .ok (.bipush 42, 2) := by decide +kernel
theorem dX10_function_30 : decode cX10_function 30 = .ok (.bipush 7, 2) := by decide +kernel
theorem dX10_function_32 : decode cX10_function 32 = .ok (.iload_n 1, 1) := by decide +kernel
theorem dX10_function_33 : decode cX10_function 33 = .ok (.invokestatic 114, 3) := by decide +kernel
theorem dX10_function_36 : decode cX10_function 36 = .ok (.imul, 1) := by decide +kernel
theorem dX10_function_37 : decode cX10_function 37 = .ok (.iadd, 1) := by decide +kernel
theorem dX10_function_38 : decode cX10_function 38 = .ok (.goto 13, 3) := by decide +kernel
theorem dX10_function_41 : decode cX10_function 41 = .ok (.bipush 84, 2) := by decide +kernel
theorem dX10_function_43 : decode cX10_function 43 = .ok (.bipush 8, 2) := by decide +kernel
theorem dX10_function_45 : decode cX10_function 45 = .ok (.iload_n 1, 1) := by decide +kernel
theorem dX10_function_46 : decode cX10_function 46 = .ok (.invokestatic 114, 3) := by decide +kernel
theorem dX10_function_49 : decode cX10_function 49 = .ok (.imul, 1) := by decide +kernel
theorem dX10_function_50 : decode cX10_function 50 = .ok (.iadd, 1) := by decide +kernel
theorem dX10_function_51 : decode cX10_function 51 = .ok (.ireturn, 1) := by decide +kernel
set_option maxRecDepth 20000 in
theorem ggX10_append_X10_in : GoodIn wsX10_append wsX10_in := goodIn_r _ [7] (by decide +kernel) (by decide +kernel)
set_option maxRecDepth 20000 in
theorem gX10_append_X10_in : GoodIn wsX10_append (va_wsS RX10 55 yX10_in wsX10_in) := goodIn_app (goodIn_of _ (by decide +kernel)) ggX10_append_X10_in
set_option maxRecDepth 20000 in
theorem ggX10_append_X10_error : GoodIn wsX10_append wsX10_error := goodIn_r _ [11, 12, 13, 14, 15, 16, 17, 18, 19, 20, 21, 22, 23, 24, 25, 26, 27, 28, 29, 30, 31, 32, 33, 34, 35] (by decide +kernel) (by decide +kernel)
set_option maxRecDepth 20000 in
theorem gX10_append_X10_error : GoodIn wsX10_append (wsV RX10 72 RX10 yX10_error wsX10_error) := goodIn_app (goodIn_of _ (by decide +kernel)) ggX10_append_X10_error
theorem dX10_append_0 : decode cX10_append 0 = .ok (.iload_n 1, 1) := by decide +kernel
theorem dX10_append_1 : decode cX10_append 1 = .ok (.i2l, 1) := by decide +kernel
theorem dX10_append_2 : decode cX10_append 2 = .ok (.lconst 0, 1) := by decide +kernel
theorem dX10_append_3 : decode cX10_append 3 = .ok (.ldc2_w 117, 3) := by decide +kernel
theorem dX10_append_6 : decode cX10_append 6 = .ok (.invokestatic 55, 3) := by decide +kernel
theorem dX10_append_9 : decode cX10_append 9 = .ok (.ifCond .ne 10, 3) := by decide +kernel
theorem dX10_append_12 : decode cX10_append 12 = .ok (.aload_n 0, 1) := by decide +kernel
theorem dX10_append_13 : decode cX10_append 13 = .ok (.bipush (-2), 2) := by decide +kernel
theorem dX10_append_15 : decode cX10_append 15 = .ok (.invokevirtual 72, 3) := by decide +kernel
theorem dX10_append_18 : decode cX10_append 18 = .ok (.ireturn, 1) := by decide +kernel
theorem dX10_append_19 : decode cX10_append 19 = .ok (.aload_n 0, 1) := by decide +kernel
theorem dX10_append_20 : decode cX10_append 20 = .ok (.getfield 119, 3) := by decide +kernel
theorem dX10_append_23 : decode cX10_append 23 = .ok (.bipush 120, 2) := by decide +kernel
theorem dX10_append_25 : decode cX10_append 25 = .ok (.if_icmp .ne 10, 3) := by decide +kernel
theorem dX10_append_28 : decode cX10_append 28 = .ok (.aload_n 0, 1) := by decide +kernel
theorem dX10_append_29 : decode cX10_append 29 = .ok (.bipush (-4), 2) := by decide +kernel
theorem dX10_append_31 : decode cX10_append 31 = .ok (.invokevirtual 72, 3) := by decide +kernel
theorem dX10_append_34 : decode cX10_append 34 = .ok (.ireturn, 1) := by decide +kernel
theorem dX10_append_35 : decode cX10_append 35 = .ok (.aload_n 0, 1) := by decide +kernel
theorem dX10_append_36 : decode cX10_append 36 = .ok (.getfield 19, 3) := by decide +kernel
theorem dX10_append_39 : decode cX10_append 39 = .ok (.aload_n 0, 1) := by decide +kernel
theorem dX10_append_40 : decode cX10_append 40 = .ok (.getfield 119, 3) := by decide +kernel
theorem dX10_append_43 : decode cX10_append 43 = .ok (.iload_n 1, 1) := by decide +kernel
theorem dX10_append_44 : decode cX10_append 44 = .ok (.iastore, 1) := by decide +kernel
theorem dX10_append_45 : decode cX10_append 45 = .ok (.aload_n 0, 1) := by decide +kernel
theorem dX10_append_46 : decode cX10_append 46 = .ok (.dup, 1) := by decide +kernel
theorem dX10_append_47 : decode cX10_append 47 = .ok (.getfield 119, 3) := by decide +kernel
theorem dX10_append_50 : decode cX10_append 50 = .ok (.iconst 1, 1) := by decide +kernel
theorem dX10_append_51 : decode cX10_append 51 = .ok (.iadd, 1) := by decide +kernel
theorem dX10_append_52 : decode cX10_append 52 = .ok (.putfield 119, 3) := by decide +kernel
theorem dX10_append_55 : decode cX10_append 55 = .ok (.aload_n 0, 1) := by decide +kernel
theorem dX10_append_56 : decode cX10_append 56 = .ok (.getfield 119, 3) := by decide +kernel
theorem dX10_append_59 : decode cX10_append 59 = .ok (.ireturn, 1) := by decide +kernel
theorem dX10_clearText_0 : decode cX10_clearText 0 = .ok (.aload_n 0, 1) := by decide +kernel
theorem dX10_clearText_1 : decode cX10_clearText 1 = .ok (.getfield 119, 3) := by decide +kernel
theorem dX10_clearText_4 : decode cX10_clearText 4 = .ok (.istore_n 1, 1) := by decide +kernel
theorem dX10_clearText_5 : decode cX10_clearText 5 = .ok (.aload_n 0, 1) := by decide +kernel
theorem dX10_clearText_6 : decode cX10_clearText 6 = .ok (.iconst 0, 1) := by decide +kernel
theorem dX10_clearText_7 : decode cX10_clearText 7 = .ok (.putfield 119, 3) := by decide +kernel
theorem dX10_clearText_10 : decode cX10_clearText 10 = .ok (.iload_n 1, 1) := by decide +kernel
theorem dX10_clearText_11 : decode cX10_clearText 11 = .ok (.ireturn, 1) := by decide +kernel
theorem dX10_here_0 : decode cX10_here 0 = .ok (.iload_n 1, 1) := by decide +kernel
theorem dX10_here_1 : decode cX10_here 1 = .ok (.aload_n 0, 1) := by decide +kernel
theorem dX10_here_2 : decode cX10_here 2 = .ok (.getfield 119, 3) := by decide +kernel
theorem dX10_here_5 : decode cX10_here 5 = .ok (.if_icmp .ge 12, 3) := by decide +kernel
theorem dX10_here_8 : decode cX10_here 8 = .ok (.aload_n 0, 1) := by decide +kernel
theorem dX10_here_9 : decode cX10_here 9 = .ok (.getfield 19, 3) := by decide +kernel
theorem dX10_here_12 : decode cX10_here 12 = .ok (.iload_n 1, 1) := by decide +kernel
theorem dX10_here_13 : decode cX10_here 13 = .ok (.iaload, 1) := by decide +kernel
theorem dX10_here_14 : decode cX10_here 14 = .ok (.goto 4, 3) := by decide +kernel
theorem dX10_here_17 : decode cX10_here 17 = .ok (.iconst (-1), 1) := by decide +kernel
theorem dX10_here_18 : decode cX10_here 18 = .ok (.ireturn, 1) := by decide +kernel
set_option maxRecDepth 20000 in
theorem ggX10_isDigit_X10_in : GoodIn wsX10_isDigit wsX10_in := goodIn_r _ [6] (by decide +kernel) (by decide +kernel)
set_option maxRecDepth 20000 in
theorem gX10_isDigit_X10_in : GoodIn wsX10_isDigit (va_wsS RX10 55 yX10_in wsX10_in) := goodIn_app (goodIn_of _ (by decide +kernel)) ggX10_isDigit_X10_in
theorem dX10_isDigit_0 : decode cX10_isDigit 0 = .ok (.iload_n 0, 1) := by decide +kernel
theorem dX10_isDigit_1 : decode cX10_isDigit 1 = .ok (.i2l, 1) := by decide +kernel
theorem dX10_isDigit_2 : decode cX10_isDigit 2 = .ok (.ldc2_w 122, 3) := by decide +kernel
theorem dX10_isDigit_5 : decode cX10_isDigit 5 = .ok (.ldc2_w 124, 3) := by decide +kernel
theorem dX10_isDigit_8 : decode cX10_isDigit 8 = .ok (.invokestatic 55, 3) := by decide +kernel
theorem dX10_isDigit_11 : decode cX10_isDigit 11 = .ok (.ireturn, 1) := by decide +kernel
set_option maxRecDepth 20000 in
theorem ggX10_nodeOf_X10_node : GoodIn wsX10_nodeOf wsX10_node := goodIn_r _ [10] (by decide +kernel) (by decide +kernel)
set_option maxRecDepth 20000 in
theorem gX10_nodeOf_X10_node : GoodIn wsX10_nodeOf (va_wsS RX10 126 yX10_node wsX10_node) := goodIn_app (goodIn_of _ (by decide +kernel)) ggX10_nodeOf_X10_node
set_option maxRecDepth 20000 in
theorem ggX10_nodeOf_X10_in : GoodIn wsX10_nodeOf wsX10_in := goodIn_r _ [13] (by decide +kernel) (by decide +kernel)
set_option maxRecDepth 20000 in
theorem gX10_nodeOf_X10_in : GoodIn wsX10_nodeOf (va_wsS RX10 55 yX10_in wsX10_in) := goodIn_app (goodIn_of _ (by decide +kernel)) ggX10_nodeOf_X10_in
theorem dX10_nodeOf_0 : decode cX10_nodeOf 0 = .ok (.iload_n 1, 1) := by decide +kernel
theorem dX10_nodeOf_1 : decode cX10_nodeOf 1 = .ok (.bipush 120, 2) := by decide +kernel
theorem dX10_nodeOf_3 : decode cX10_nodeOf 3 = .ok (.if_icmp .eq 9, 3) := by decide +kernel
theorem dX10_nodeOf_6 : decode cX10_nodeOf 6 = .ok (.iload_n 1, 1) := by decide +kernel
theorem dX10_nodeOf_7 : decode cX10_nodeOf 7 = .ok (.bipush 121, 2) := by decide +kernel
theorem dX10_nodeOf_9 : decode cX10_nodeOf 9 = .ok (.if_icmp .ne 20, 3) := by decide +kernel
theorem dX10_nodeOf_12 : decode cX10_nodeOf 12 = .ok (.iload_n 1, 1) := by decide +kernel
theorem dX10_nodeOf_13 : decode cX10_nodeOf 13 = .ok (.bipush 120, 2) := by decide +kernel
theorem dX10_nodeOf_15 : decode cX10_nodeOf 15 = .ok (.if_icmp .ne 7, 3) := by decide +kernel
theorem dX10_nodeOf_18 : decode cX10_nodeOf 18 = .ok (.iconst 1, 1) := by decide +kernel
theorem dX10_nodeOf_19 : decode cX10_nodeOf 19 = .ok (.goto 4, 3) := by decide +kernel
theorem dX10_nodeOf_22 : decode cX10_nodeOf 22 = .ok (.iconst 2, 1) := by decide +kernel
theorem dX10_nodeOf_23 : decode cX10_nodeOf 23 = .ok (.iconst 0, 1) := by decide +kernel
theorem dX10_nodeOf_24 : decode cX10_nodeOf 24 = .ok (.iconst 0, 1) := by decide +kernel
theorem dX10_nodeOf_25 : decode cX10_nodeOf 25 = .ok (.invokestatic 126, 3) := by decide +kernel
theorem dX10_nodeOf_28 : decode cX10_nodeOf 28 = .ok (.ireturn, 1) := by decide +kernel
theorem dX10_nodeOf_29 : decode cX10_nodeOf 29 = .ok (.iload_n 1, 1) := by decide +kernel
theorem dX10_nodeOf_30 : decode cX10_nodeOf 30 = .ok (.i2l, 1) := by decide +kernel
theorem dX10_nodeOf_31 : decode cX10_nodeOf 31 = .ok (.ldc2_w 129, 3) := by decide +kernel
theorem dX10_nodeOf_34 : decode cX10_nodeOf 34 = .ok (.ldc2_w 131, 3) := by decide +kernel
theorem dX10_nodeOf_37 : decode cX10_nodeOf 37 = .ok (.invokestatic 55, 3) := by decide +kernel
theorem dX10_nodeOf_40 : decode cX10_nodeOf 40 = .ok (.ifCond .eq 13, 3) := by decide +kernel
theorem dX10_nodeOf_43 : decode cX10_nodeOf 43 = .ok (.iconst 3, 1) := by decide +kernel
theorem dX10_nodeOf_44 : decode cX10_nodeOf 44 = .ok (.iload_n 1, 1) := by decide +kernel
theorem dX10_nodeOf_45 : decode cX10_nodeOf 45 = .ok (.bipush 97, 2) := by decide +kernel
theorem dX10_nodeOf_47 : decode cX10_nodeOf 47 = .ok (.isub, 1) := by decide +kernel
theorem dX10_nodeOf_48 : decode cX10_nodeOf 48 = .ok (.iconst 0, 1) := by decide +kernel
theorem dX10_nodeOf_49 : decode cX10_nodeOf 49 = .ok (.invokestatic 126, 3) := by decide +kernel
theorem dX10_nodeOf_52 : decode cX10_nodeOf 52 = .ok (.ireturn, 1) := by decide +kernel
theorem dX10_nodeOf_53 : decode cX10_nodeOf 53 = .ok (.iload_n 1, 1) := by decide +kernel
theorem dX10_nodeOf_54 : decode cX10_nodeOf 54 = .ok (.i2l, 1) := by decide +kernel
theorem dX10_nodeOf_55 : decode cX10_nodeOf 55 = .ok (.ldc2_w 133, 3) := by decide +kernel
theorem dX10_nodeOf_58 : decode cX10_nodeOf 58 = .ok (.ldc2_w 135, 3) := by decide +kernel
theorem dX10_nodeOf_61 : decode cX10_nodeOf 61 = .ok (.invokestatic 55, 3) := by decide +kernel
theorem dX10_nodeOf_64 : decode cX10_nodeOf 64 = .ok (.ifCond .eq 13, 3) := by decide +kernel
theorem dX10_nodeOf_67 : decode cX10_nodeOf 67 = .ok (.iconst 4, 1) := by decide +kernel
theorem dX10_nodeOf_68 : decode cX10_nodeOf 68 = .ok (.iload_n 1, 1) := by decide +kernel
theorem dX10_nodeOf_69 : decode cX10_nodeOf 69 = .ok (.bipush 65, 2) := by decide +kernel
theorem dX10_nodeOf_71 : decode cX10_nodeOf 71 = .ok (.isub, 1) := by decide +kernel
theorem dX10_nodeOf_72 : decode cX10_nodeOf 72 = .ok (.iconst 0, 1) := by decide +kernel
theorem dX10_nodeOf_73 : decode cX10_nodeOf 73 = .ok (.invokestatic 126, 3) := by decide +kernel
theorem dX10_nodeOf_76 : decode cX10_nodeOf 76 = .ok (.ireturn, 1) := by decide +kernel
theorem dX10_nodeOf_77 : decode cX10_nodeOf 77 = .ok (.iload_n 1, 1) := by decide +kernel
theorem dX10_nodeOf_78 : decode cX10_nodeOf 78 = .ok (.i2l, 1) := by decide +kernel
theorem dX10_nodeOf_79 : decode cX10_nodeOf 79 = .ok (.ldc2_w 137, 3) := by decide +kernel
theorem dX10_nodeOf_82 : decode cX10_nodeOf 82 = .ok (.bipush 112, 2) := by decide +kernel
theorem dX10_nodeOf_84 : decode cX10_nodeOf 84 = .ok (.aload_n 0, 1) := by decide +kernel
theorem dX10_nodeOf_85 : decode cX10_nodeOf 85 = .ok (.getfield 7, 3) := by decide +kernel
theorem dX10_nodeOf_88 : decode cX10_nodeOf 88 = .ok (.bipush 116, 2) := by decide +kernel
theorem dX10_nodeOf_90 : decode cX10_nodeOf 90 = .ok (.iaload, 1) := by decide +kernel
theorem dX10_nodeOf_91 : decode cX10_nodeOf 91 = .ok (.iadd, 1) := by decide +kernel
theorem dX10_nodeOf_92 : decode cX10_nodeOf 92 = .ok (.iconst 1, 1) := by decide +kernel
theorem dX10_nodeOf_93 : decode cX10_nodeOf 93 = .ok (.isub, 1) := by decide +kernel
theorem dX10_nodeOf_94 : decode cX10_nodeOf 94 = .ok (.i2l, 1) := by decide +kernel
theorem dX10_nodeOf_95 : decode cX10_nodeOf 95 = .ok (.invokestatic 55, 3) := by decide +kernel
theorem dX10_nodeOf_98 : decode cX10_nodeOf 98 = .ok (.ifCond .eq 15, 3) := by decide +kernel
theorem dX10_nodeOf_101 : decode cX10_nodeOf 101 = .ok (.iconst 5, 1) := by decide +kernel
theorem dX10_nodeOf_102 : decode cX10_nodeOf 102 = .ok (.iload_n 1, 1) := by decide +kernel
theorem dX10_nodeOf_103 : decode cX10_nodeOf 103 = .ok (.bipush 112, 2) := by decide +kernel
theorem dX10_nodeOf_105 : decode cX10_nodeOf 105 = .ok (.isub, 1) := by decide +kernel
theorem dX10_nodeOf_106 : decode cX10_nodeOf 106 = .ok (.iconst 0, 1) := by decide +kernel
theorem dX10_nodeOf_107 : decode cX10_nodeOf 107 = .ok (.invokestatic 126, 3) := by decide +kernel
theorem dX10_nodeOf_110 : decode cX10_nodeOf 110 = .ok (.goto 4, 3) := by decide +kernel
theorem dX10_nodeOf_113 : decode cX10_nodeOf 113 = .ok (.iconst (-1), 1) := by decide +kernel
theorem dX10_nodeOf_114 : decode cX10_nodeOf 114 = .ok (.ireturn, 1) := by decide +kernel
set_option maxRecDepth 20000 in
theorem ggX10_readsNode_X10_here : GoodIn wsX10_readsNode wsX10_here := goodIn_r _ [11, 12, 13, 48, 49, 50, 51, 52, 53, 54, 55, 56, 57, 58, 59, 60, 61, 62, 63, 64, 65, 66, 67, 68, 69, 70] (by decide +kernel) (by decide +kernel)
set_option maxRecDepth 20000 in
theorem gX10_readsNode_X10_here : GoodIn wsX10_readsNode (wsV RX10 142 RX10 yX10_here wsX10_here) := goodIn_app (goodIn_of _ (by decide +kernel)) ggX10_readsNode_X10_here
set_option maxRecDepth 20000 in
theorem ggX10_readsNode_X10_isDigit : GoodIn wsX10_readsNode wsX10_isDigit := goodIn_r _ [16, 17, 18, 19, 20, 10, 21] (by decide +kernel) (by decide +kernel)
set_option maxRecDepth 20000 in
theorem gX10_readsNode_X10_isDigit : GoodIn wsX10_readsNode (va_wsS RX10 145 yX10_isDigit wsX10_isDigit) := goodIn_app (goodIn_of _ (by decide +kernel)) ggX10_readsNode_X10_isDigit
set_option maxRecDepth 20000 in
theorem ggX10_readsNode_X10_node : GoodIn wsX10_readsNode wsX10_node := goodIn_r _ [24] (by decide +kernel) (by decide +kernel)
set_option maxRecDepth 20000 in
theorem gX10_readsNode_X10_node : GoodIn wsX10_readsNode (va_wsS RX10 126 yX10_node wsX10_node) := goodIn_app (goodIn_of _ (by decide +kernel)) ggX10_readsNode_X10_node
set_option maxRecDepth 20000 in
theorem ggX10_readsNode_X10_nodeOf : GoodIn wsX10_readsNode wsX10_nodeOf := goodIn_r _ [28, 29, 30, 31, 32, 33, 3, 22, 23, 10, 24, 19, 20, 21, 48, 49, 50, 51, 52, 53, 54, 55, 56, 57, 58, 59, 60, 61, 62, 63, 64, 65, 66, 67, 68, 69, 70] (by decide +kernel) (by decide +kernel)
set_option maxRecDepth 20000 in
theorem gX10_readsNode_X10_nodeOf : GoodIn wsX10_readsNode (wsV RX10 148 RX10 yX10_nodeOf wsX10_nodeOf) := goodIn_app (goodIn_of _ (by decide +kernel)) ggX10_readsNode_X10_nodeOf
set_option maxRecDepth 20000 in
theorem ggX10_readsNode_X10_kind : GoodIn wsX10_readsNode wsX10_kind := goodIn_r _ [36] (by decide +kernel) (by decide +kernel)
set_option maxRecDepth 20000 in
theorem gX10_readsNode_X10_kind : GoodIn wsX10_readsNode (va_wsS RX10 111 yX10_kind wsX10_kind) := goodIn_app (goodIn_of _ (by decide +kernel)) ggX10_readsNode_X10_kind
set_option maxRecDepth 20000 in
theorem ggX10_readsNode_X10_function : GoodIn wsX10_readsNode wsX10_function := goodIn_r _ [40, 34, 35, 10, 36, 41, 42, 43] (by decide +kernel) (by decide +kernel)
set_option maxRecDepth 20000 in
theorem gX10_readsNode_X10_function : GoodIn wsX10_readsNode (wsV RX10 154 RX10 yX10_function wsX10_function) := goodIn_app (goodIn_of _ (by decide +kernel)) ggX10_readsNode_X10_function
set_option maxRecDepth 20000 in
theorem ggX10_readsNode_X10_closes : GoodIn wsX10_readsNode wsX10_closes := goodIn_r _ [47, 6, 5, 1, 7, 8, 9, 10, 11, 12, 13, 48, 49, 50, 51, 52, 53, 54, 55, 56, 57, 58, 59, 60, 61, 62, 63, 64, 65, 66, 67, 68, 69, 70] (by decide +kernel) (by decide +kernel)
set_option maxRecDepth 20000 in
theorem gX10_readsNode_X10_closes : GoodIn wsX10_readsNode (wsV RX10 160 RX10 yX10_closes wsX10_closes) := goodIn_app (goodIn_of _ (by decide +kernel)) ggX10_readsNode_X10_closes
theorem dX10_readsNode_0 : decode cX10_readsNode 0 = .ok (.aload_n 0, 1) := by decide +kernel
theorem dX10_readsNode_1 : decode cX10_readsNode 1 = .ok (.aload_n 0, 1) := by decide +kernel
theorem dX10_readsNode_2 : decode cX10_readsNode 2 = .ok (.getfield 139, 3) := by decide +kernel
theorem dX10_readsNode_5 : decode cX10_readsNode 5 = .ok (.invokevirtual 142, 3) := by decide +kernel
theorem dX10_readsNode_8 : decode cX10_readsNode 8 = .ok (.istore_n 1, 1) := by decide +kernel
theorem dX10_readsNode_9 : decode cX10_readsNode 9 = .ok (.iload_n 1, 1) := by decide +kernel
theorem dX10_readsNode_10 : decode cX10_readsNode 10 = .ok (.invokestatic 145, 3) := by decide +kernel
theorem dX10_readsNode_13 : decode cX10_readsNode 13 = .ok (.ifCond .eq 15, 3) := by decide +kernel
theorem dX10_readsNode_16 : decode cX10_readsNode 16 = .ok (.iconst 0, 1) := by decide +kernel
theorem dX10_readsNode_17 : decode cX10_readsNode 17 = .ok (.iload_n 1, 1) := by decide +kernel
theorem dX10_readsNode_18 : decode cX10_readsNode 18 = .ok (.bipush 48, 2) := by decide +kernel
theorem dX10_readsNode_20 : decode cX10_readsNode 20 = .ok (.isub, 1) := by decide +kernel
theorem dX10_readsNode_21 : decode cX10_readsNode 21 = .ok (.iconst 0, 1) := by decide +kernel
theorem dX10_readsNode_22 : decode cX10_readsNode 22 = .ok (.invokestatic 126, 3) := by decide +kernel
theorem dX10_readsNode_25 : decode cX10_readsNode 25 = .ok (.goto 8, 3) := by decide +kernel
theorem dX10_readsNode_28 : decode cX10_readsNode 28 = .ok (.aload_n 0, 1) := by decide +kernel
theorem dX10_readsNode_29 : decode cX10_readsNode 29 = .ok (.iload_n 1, 1) := by decide +kernel
theorem dX10_readsNode_30 : decode cX10_readsNode 30 = .ok (.invokevirtual 148, 3) := by decide +kernel
theorem dX10_readsNode_33 : decode cX10_readsNode 33 = .ok (.istore_n 2, 1) := by decide +kernel
theorem dX10_readsNode_34 : decode cX10_readsNode 34 = .ok (.iload_n 2, 1) := by decide +kernel
theorem dX10_readsNode_35 : decode cX10_readsNode 35 = .ok (.iconst (-1), 1) := by decide +kernel
theorem dX10_readsNode_36 : decode cX10_readsNode 36 = .ok (.if_icmp .eq 12, 3) := by decide +kernel
theorem dX10_readsNode_39 : decode cX10_readsNode 39 = .ok (.aload_n 0, 1) := by decide +kernel
theorem dX10_readsNode_40 : decode cX10_readsNode 40 = .ok (.getfield 151, 3) := by decide +kernel
theorem dX10_readsNode_43 : decode cX10_readsNode 43 = .ok (.bipush 30, 2) := by decide +kernel
theorem dX10_readsNode_45 : decode cX10_readsNode 45 = .ok (.if_icmp .ne 5, 3) := by decide +kernel
theorem dX10_readsNode_48 : decode cX10_readsNode 48 = .ok (.iconst 0, 1) := by decide +kernel
theorem dX10_readsNode_49 : decode cX10_readsNode 49 = .ok (.ireturn, 1) := by decide +kernel
theorem dX10_readsNode_50 : decode cX10_readsNode 50 = .ok (.aload_n 0, 1) := by decide +kernel
theorem dX10_readsNode_51 : decode cX10_readsNode 51 = .ok (.dup, 1) := by decide +kernel
theorem dX10_readsNode_52 : decode cX10_readsNode 52 = .ok (.getfield 139, 3) := by decide +kernel
theorem dX10_readsNode_55 : decode cX10_readsNode 55 = .ok (.iconst 1, 1) := by decide +kernel
theorem dX10_readsNode_56 : decode cX10_readsNode 56 = .ok (.iadd, 1) := by decide +kernel
theorem dX10_readsNode_57 : decode cX10_readsNode 57 = .ok (.putfield 139, 3) := by decide +kernel
theorem dX10_readsNode_60 : decode cX10_readsNode 60 = .ok (.iconst 0, 1) := by decide +kernel
theorem dX10_readsNode_61 : decode cX10_readsNode 61 = .ok (.istore_n 3, 1) := by decide +kernel
theorem dX10_readsNode_62 : decode cX10_readsNode 62 = .ok (.iload_n 1, 1) := by decide +kernel
theorem dX10_readsNode_63 : decode cX10_readsNode 63 = .ok (.invokestatic 145, 3) := by decide +kernel
theorem dX10_readsNode_66 : decode cX10_readsNode 66 = .ok (.ifCond .eq 52, 3) := by decide +kernel
theorem dX10_readsNode_69 : decode cX10_readsNode 69 = .ok (.aload_n 0, 1) := by decide +kernel
theorem dX10_readsNode_70 : decode cX10_readsNode 70 = .ok (.aload_n 0, 1) := by decide +kernel
theorem dX10_readsNode_71 : decode cX10_readsNode 71 = .ok (.getfield 139, 3) := by decide +kernel
theorem dX10_readsNode_74 : decode cX10_readsNode 74 = .ok (.invokevirtual 142, 3) := by decide +kernel
theorem dX10_readsNode_77 : decode cX10_readsNode 77 = .ok (.invokestatic 145, 3) := by decide +kernel
theorem dX10_readsNode_80 : decode cX10_readsNode 80 = .ok (.ifCond .eq 38, 3) := by decide +kernel
theorem dX10_readsNode_83 : decode cX10_readsNode 83 = .ok (.iconst 0, 1) := by decide +kernel
theorem dX10_readsNode_84 : decode cX10_readsNode 84 = .ok (.bipush 10, 2) := by decide +kernel
theorem dX10_readsNode_86 : decode cX10_readsNode 86 = .ok (.iload_n 1, 1) := by decide +kernel
theorem dX10_readsNode_87 : decode cX10_readsNode 87 = .ok (.bipush 48, 2) := by decide +kernel
theorem dX10_readsNode_89 : decode cX10_readsNode 89 = .ok (.isub, 1) := by decide +kernel
theorem dX10_readsNode_90 : decode cX10_readsNode 90 = .ok (.imul, 1) := by decide +kernel
theorem dX10_readsNode_91 : decode cX10_readsNode 91 = .ok (.aload_n 0, 1) := by decide +kernel
theorem dX10_readsNode_92 : decode cX10_readsNode 92 = .ok (.aload_n 0, 1) := by decide +kernel
theorem dX10_readsNode_93 : decode cX10_readsNode 93 = .ok (.getfield 139, 3) := by decide +kernel
theorem dX10_readsNode_96 : decode cX10_readsNode 96 = .ok (.invokevirtual 142, 3) := by decide +kernel
theorem dX10_readsNode_99 : decode cX10_readsNode 99 = .ok (.iadd, 1) := by decide +kernel
theorem dX10_readsNode_100 : decode cX10_readsNode 100 = .ok (.bipush 48, 2) := by decide +kernel
theorem dX10_readsNode_102 : decode cX10_readsNode 102 = .ok (.isub, 1) := by decide +kernel
theorem dX10_readsNode_103 : decode cX10_readsNode 103 = .ok (.iconst 0, 1) := by decide +kernel
theorem dX10_readsNode_104 : decode cX10_readsNode 104 = .ok (.invokestatic 126, 3) := by decide +kernel
theorem dX10_readsNode_107 : decode cX10_readsNode 107 = .ok (.istore_n 2, 1) := by decide +kernel
theorem dX10_readsNode_108 : decode cX10_readsNode 108 = .ok (.aload_n 0, 1) := by decide +kernel
theorem dX10_readsNode_109 : decode cX10_readsNode 109 = .ok (.dup, 1) := by decide +kernel
theorem dX10_readsNode_110 : decode cX10_readsNode 110 = .ok (.getfield 139, 3) := by decide +kernel
theorem dX10_readsNode_113 : decode cX10_readsNode 113 = .ok (.iconst 1, 1) := by decide +kernel
theorem dX10_readsNode_114 : decode cX10_readsNode 114 = .ok (.iadd, 1) := by decide +kernel
theorem dX10_readsNode_115 : decode cX10_readsNode 115 = .ok (.putfield 139, 3) := by decide +kernel
theorem dX10_readsNode_118 : decode cX10_readsNode 118 = .ok (.iload_n 2, 1) := by decide +kernel
theorem dX10_readsNode_119 : decode cX10_readsNode 119 = .ok (.invokestatic 111, 3) := by decide +kernel
theorem dX10_readsNode_122 : decode cX10_readsNode 122 = .ok (.iconst 2, 1) := by decide +kernel
theorem dX10_readsNode_123 : decode cX10_readsNode 123 = .ok (.if_icmp .le 41, 3) := by decide +kernel
theorem dX10_readsNode_126 : decode cX10_readsNode 126 = .ok (.aload_n 0, 1) := by decide +kernel
theorem dX10_readsNode_127 : decode cX10_readsNode 127 = .ok (.getfield 7, 3) := by decide +kernel
theorem dX10_readsNode_130 : decode cX10_readsNode 130 = .ok (.aload_n 0, 1) := by decide +kernel
theorem dX10_readsNode_131 : decode cX10_readsNode 131 = .ok (.iload_n 2, 1) := by decide +kernel
theorem dX10_readsNode_132 : decode cX10_readsNode 132 = .ok (.invokevirtual 154, 3) := by decide +kernel
theorem dX10_readsNode_135 : decode cX10_readsNode 135 = .ok (.iconst 0, 1) := by decide +kernel
theorem dX10_readsNode_136 : decode cX10_readsNode 136 = .ok (.iadd, 1) := by decide +kernel
theorem dX10_readsNode_137 : decode cX10_readsNode 137 = .ok (.iaload, 1) := by decide +kernel
theorem dX10_readsNode_138 : decode cX10_readsNode 138 = .ok (.istore_n 3, 1) := by decide +kernel
theorem dX10_readsNode_139 : decode cX10_readsNode 139 = .ok (.aload_n 0, 1) := by decide +kernel
theorem dX10_readsNode_140 : decode cX10_readsNode 140 = .ok (.aload_n 0, 1) := by decide +kernel
theorem dX10_readsNode_141 : decode cX10_readsNode 141 = .ok (.getfield 139, 3) := by decide +kernel
theorem dX10_readsNode_144 : decode cX10_readsNode 144 = .ok (.invokevirtual 142, 3) := by decide +kernel
theorem dX10_readsNode_147 : decode cX10_readsNode 147 = .ok (.bipush 40, 2) := by decide +kernel
theorem dX10_readsNode_149 : decode cX10_readsNode 149 = .ok (.if_icmp .eq 5, 3) := by decide +kernel
theorem dX10_readsNode_152 : decode cX10_readsNode 152 = .ok (.iconst 0, 1) := by decide +kernel
theorem dX10_readsNode_153 : decode cX10_readsNode 153 = .ok (.ireturn, 1) := by decide +kernel
theorem dX10_readsNode_154 : decode cX10_readsNode 154 = .ok (.aload_n 0, 1) := by decide +kernel
theorem dX10_readsNode_155 : decode cX10_readsNode 155 = .ok (.dup, 1) := by decide +kernel
theorem dX10_readsNode_156 : decode cX10_readsNode 156 = .ok (.getfield 139, 3) := by decide +kernel
theorem dX10_readsNode_159 : decode cX10_readsNode 159 = .ok (.iconst 1, 1) := by decide +kernel
theorem dX10_readsNode_160 : decode cX10_readsNode 160 = .ok (.iadd, 1) := by decide +kernel
theorem dX10_readsNode_161 : decode cX10_readsNode 161 = .ok (.putfield 139, 3) := by decide +kernel
theorem dX10_readsNode_164 : decode cX10_readsNode 164 = .ok (.aload_n 0, 1) := by decide +kernel
theorem dX10_readsNode_165 : decode cX10_readsNode 165 = .ok (.getfield 22, 3) := by decide +kernel
theorem dX10_readsNode_168 : decode cX10_readsNode 168 = .ok (.aload_n 0, 1) := by decide +kernel
theorem dX10_readsNode_169 : decode cX10_readsNode 169 = .ok (.getfield 151, 3) := by decide +kernel
theorem dX10_readsNode_172 : decode cX10_readsNode 172 = .ok (.iload_n 2, 1) := by decide +kernel
theorem dX10_readsNode_173 : decode cX10_readsNode 173 = .ok (.iload_n 3, 1) := by decide +kernel
theorem dX10_readsNode_174 : decode cX10_readsNode 174 = .ok (.iadd, 1) := by decide +kernel
theorem dX10_readsNode_175 : decode cX10_readsNode 175 = .ok (.iastore, 1) := by decide +kernel
theorem dX10_readsNode_176 : decode cX10_readsNode 176 = .ok (.aload_n 0, 1) := by decide +kernel
theorem dX10_readsNode_177 : decode cX10_readsNode 177 = .ok (.dup, 1) := by decide +kernel
theorem dX10_readsNode_178 : decode cX10_readsNode 178 = .ok (.getfield 151, 3) := by decide +kernel
theorem dX10_readsNode_181 : decode cX10_readsNode 181 = .ok (.iconst 1, 1) := by decide +kernel
theorem dX10_readsNode_182 : decode cX10_readsNode 182 = .ok (.iadd, 1) := by decide +kernel
theorem dX10_readsNode_183 : decode cX10_readsNode 183 = .ok (.putfield 151, 3) := by decide +kernel
theorem dX10_readsNode_186 : decode cX10_readsNode 186 = .ok (.iload_n 3, 1) := by decide +kernel
theorem dX10_readsNode_187 : decode cX10_readsNode 187 = .ok (.ifCond .le 25, 3) := by decide +kernel
theorem dX10_readsNode_190 : decode cX10_readsNode 190 = .ok (.aload_n 0, 1) := by decide +kernel
theorem dX10_readsNode_191 : decode cX10_readsNode 191 = .ok (.getfield 25, 3) := by decide +kernel
theorem dX10_readsNode_194 : decode cX10_readsNode 194 = .ok (.aload_n 0, 1) := by decide +kernel
theorem dX10_readsNode_195 : decode cX10_readsNode 195 = .ok (.getfield 157, 3) := by decide +kernel
theorem dX10_readsNode_198 : decode cX10_readsNode 198 = .ok (.iload_n 3, 1) := by decide +kernel
theorem dX10_readsNode_199 : decode cX10_readsNode 199 = .ok (.iastore, 1) := by decide +kernel
theorem dX10_readsNode_200 : decode cX10_readsNode 200 = .ok (.aload_n 0, 1) := by decide +kernel
theorem dX10_readsNode_201 : decode cX10_readsNode 201 = .ok (.dup, 1) := by decide +kernel
theorem dX10_readsNode_202 : decode cX10_readsNode 202 = .ok (.getfield 157, 3) := by decide +kernel
theorem dX10_readsNode_205 : decode cX10_readsNode 205 = .ok (.iconst 1, 1) := by decide +kernel
theorem dX10_readsNode_206 : decode cX10_readsNode 206 = .ok (.iadd, 1) := by decide +kernel
theorem dX10_readsNode_207 : decode cX10_readsNode 207 = .ok (.putfield 157, 3) := by decide +kernel
theorem dX10_readsNode_210 : decode cX10_readsNode 210 = .ok (.iconst 1, 1) := by decide +kernel
theorem dX10_readsNode_211 : decode cX10_readsNode 211 = .ok (.ireturn, 1) := by decide +kernel
theorem dX10_readsNode_212 : decode cX10_readsNode 212 = .ok (.iload_n 2, 1) := by decide +kernel
theorem dX10_readsNode_213 : decode cX10_readsNode 213 = .ok (.invokestatic 111, 3) := by decide +kernel
theorem dX10_readsNode_216 : decode cX10_readsNode 216 = .ok (.iconst 2, 1) := by decide +kernel
theorem dX10_readsNode_217 : decode cX10_readsNode 217 = .ok (.if_icmp .le 28, 3) := by decide +kernel
theorem dX10_readsNode_220 : decode cX10_readsNode 220 = .ok (.aload_n 0, 1) := by decide +kernel
theorem dX10_readsNode_221 : decode cX10_readsNode 221 = .ok (.aload_n 0, 1) := by decide +kernel
theorem dX10_readsNode_222 : decode cX10_readsNode 222 = .ok (.getfield 139, 3) := by decide +kernel
theorem dX10_readsNode_225 : decode cX10_readsNode 225 = .ok (.invokevirtual 142, 3) := by decide +kernel
theorem dX10_readsNode_228 : decode cX10_readsNode 228 = .ok (.bipush 41, 2) := by decide +kernel
theorem dX10_readsNode_230 : decode cX10_readsNode 230 = .ok (.if_icmp .eq 5, 3) := by decide +kernel
theorem dX10_readsNode_233 : decode cX10_readsNode 233 = .ok (.iconst 0, 1) := by decide +kernel
theorem dX10_readsNode_234 : decode cX10_readsNode 234 = .ok (.ireturn, 1) := by decide +kernel
theorem dX10_readsNode_235 : decode cX10_readsNode 235 = .ok (.aload_n 0, 1) := by decide +kernel
theorem dX10_readsNode_236 : decode cX10_readsNode 236 = .ok (.dup, 1) := by decide +kernel
theorem dX10_readsNode_237 : decode cX10_readsNode 237 = .ok (.getfield 139, 3) := by decide +kernel
theorem dX10_readsNode_240 : decode cX10_readsNode 240 = .ok (.iconst 1, 1) := by decide +kernel
theorem dX10_readsNode_241 : decode cX10_readsNode 241 = .ok (.iadd, 1) := by decide +kernel
theorem dX10_readsNode_242 : decode cX10_readsNode 242 = .ok (.putfield 139, 3) := by decide +kernel
theorem dX10_readsNode_245 : decode cX10_readsNode 245 = .ok (.aload_n 0, 1) := by decide +kernel
theorem dX10_readsNode_246 : decode cX10_readsNode 246 = .ok (.invokevirtual 160, 3) := by decide +kernel
theorem dX10_readsNode_249 : decode cX10_readsNode 249 = .ok (.ireturn, 1) := by decide +kernel
set_option maxRecDepth 20000 in
theorem ggX10_closes_X10_here : GoodIn wsX10_closes wsX10_here := goodIn_r _ [8, 9, 10, 11, 12, 13, 14, 15, 16, 17, 18, 19, 20, 21, 22, 23, 24, 25, 26, 27, 28, 29, 30, 31, 32, 33] (by decide +kernel) (by decide +kernel)
set_option maxRecDepth 20000 in
theorem gX10_closes_X10_here : GoodIn wsX10_closes (wsV RX10 142 RX10 yX10_here wsX10_here) := goodIn_app (goodIn_of _ (by decide +kernel)) ggX10_closes_X10_here
theorem dX10_closes_0 : decode cX10_closes 0 = .ok (.aload_n 0, 1) := by decide +kernel
theorem dX10_closes_1 : decode cX10_closes 1 = .ok (.getfield 157, 3) := by decide +kernel
theorem dX10_closes_4 : decode cX10_closes 4 = .ok (.ifCond .le 91, 3) := by decide +kernel
theorem dX10_closes_7 : decode cX10_closes 7 = .ok (.aload_n 0, 1) := by decide +kernel
theorem dX10_closes_8 : decode cX10_closes 8 = .ok (.getfield 25, 3) := by decide +kernel
theorem dX10_closes_11 : decode cX10_closes 11 = .ok (.aload_n 0, 1) := by decide +kernel
theorem dX10_closes_12 : decode cX10_closes 12 = .ok (.getfield 157, 3) := by decide +kernel
theorem dX10_closes_15 : decode cX10_closes 15 = .ok (.iconst 1, 1) := by decide +kernel
theorem dX10_closes_16 : decode cX10_closes 16 = .ok (.isub, 1) := by decide +kernel
theorem dX10_closes_17 : decode cX10_closes 17 = .ok (.dup2, 1) := by decide +kernel
theorem dX10_closes_18 : decode cX10_closes 18 = .ok (.iaload, 1) := by decide +kernel
theorem dX10_closes_19 : decode cX10_closes 19 = .ok (.iconst 1, 1) := by decide +kernel
theorem dX10_closes_20 : decode cX10_closes 20 = .ok (.isub, 1) := by decide +kernel
theorem dX10_closes_21 : decode cX10_closes 21 = .ok (.iastore, 1) := by decide +kernel
theorem dX10_closes_22 : decode cX10_closes 22 = .ok (.aload_n 0, 1) := by decide +kernel
theorem dX10_closes_23 : decode cX10_closes 23 = .ok (.aload_n 0, 1) := by decide +kernel
theorem dX10_closes_24 : decode cX10_closes 24 = .ok (.getfield 139, 3) := by decide +kernel
theorem dX10_closes_27 : decode cX10_closes 27 = .ok (.invokevirtual 142, 3) := by decide +kernel
theorem dX10_closes_30 : decode cX10_closes 30 = .ok (.aload_n 0, 1) := by decide +kernel
theorem dX10_closes_31 : decode cX10_closes 31 = .ok (.getfield 25, 3) := by decide +kernel
theorem dX10_closes_34 : decode cX10_closes 34 = .ok (.aload_n 0, 1) := by decide +kernel
theorem dX10_closes_35 : decode cX10_closes 35 = .ok (.getfield 157, 3) := by decide +kernel
theorem dX10_closes_38 : decode cX10_closes 38 = .ok (.iconst 1, 1) := by decide +kernel
theorem dX10_closes_39 : decode cX10_closes 39 = .ok (.isub, 1) := by decide +kernel
theorem dX10_closes_40 : decode cX10_closes 40 = .ok (.iaload, 1) := by decide +kernel
theorem dX10_closes_41 : decode cX10_closes 41 = .ok (.ifCond .le 8, 3) := by decide +kernel
theorem dX10_closes_44 : decode cX10_closes 44 = .ok (.bipush 44, 2) := by decide +kernel
theorem dX10_closes_46 : decode cX10_closes 46 = .ok (.goto 5, 3) := by decide +kernel
theorem dX10_closes_49 : decode cX10_closes 49 = .ok (.bipush 41, 2) := by decide +kernel
theorem dX10_closes_51 : decode cX10_closes 51 = .ok (.if_icmp .eq 5, 3) := by decide +kernel
theorem dX10_closes_54 : decode cX10_closes 54 = .ok (.iconst 0, 1) := by decide +kernel
theorem dX10_closes_55 : decode cX10_closes 55 = .ok (.ireturn, 1) := by decide +kernel
theorem dX10_closes_56 : decode cX10_closes 56 = .ok (.aload_n 0, 1) := by decide +kernel
theorem dX10_closes_57 : decode cX10_closes 57 = .ok (.dup, 1) := by decide +kernel
theorem dX10_closes_58 : decode cX10_closes 58 = .ok (.getfield 139, 3) := by decide +kernel
theorem dX10_closes_61 : decode cX10_closes 61 = .ok (.iconst 1, 1) := by decide +kernel
theorem dX10_closes_62 : decode cX10_closes 62 = .ok (.iadd, 1) := by decide +kernel
theorem dX10_closes_63 : decode cX10_closes 63 = .ok (.putfield 139, 3) := by decide +kernel
theorem dX10_closes_66 : decode cX10_closes 66 = .ok (.aload_n 0, 1) := by decide +kernel
theorem dX10_closes_67 : decode cX10_closes 67 = .ok (.getfield 25, 3) := by decide +kernel
theorem dX10_closes_70 : decode cX10_closes 70 = .ok (.aload_n 0, 1) := by decide +kernel
theorem dX10_closes_71 : decode cX10_closes 71 = .ok (.getfield 157, 3) := by decide +kernel
theorem dX10_closes_74 : decode cX10_closes 74 = .ok (.iconst 1, 1) := by decide +kernel
theorem dX10_closes_75 : decode cX10_closes 75 = .ok (.isub, 1) := by decide +kernel
theorem dX10_closes_76 : decode cX10_closes 76 = .ok (.iaload, 1) := by decide +kernel
theorem dX10_closes_77 : decode cX10_closes 77 = .ok (.ifCond .le 5, 3) := by decide +kernel
theorem dX10_closes_80 : decode cX10_closes 80 = .ok (.iconst 1, 1) := by decide +kernel
theorem dX10_closes_81 : decode cX10_closes 81 = .ok (.ireturn, 1) := by decide +kernel
theorem dX10_closes_82 : decode cX10_closes 82 = .ok (.aload_n 0, 1) := by decide +kernel
theorem dX10_closes_83 : decode cX10_closes 83 = .ok (.dup, 1) := by decide +kernel
theorem dX10_closes_84 : decode cX10_closes 84 = .ok (.getfield 157, 3) := by decide +kernel
theorem dX10_closes_87 : decode cX10_closes 87 = .ok (.iconst 1, 1) := by decide +kernel
theorem dX10_closes_88 : decode cX10_closes 88 = .ok (.isub, 1) := by decide +kernel
theorem dX10_closes_89 : decode cX10_closes 89 = .ok (.putfield 157, 3) := by decide +kernel
theorem dX10_closes_92 : decode cX10_closes 92 = .ok (.goto (-92), 3) := by decide +kernel
theorem dX10_closes_95 : decode cX10_closes 95 = .ok (.iconst 1, 1) := by decide +kernel
theorem dX10_closes_96 : decode cX10_closes 96 = .ok (.ireturn, 1) := by decide +kernel
set_option maxRecDepth 20000 in
theorem ggX10_parse_X10_readsNode : GoodIn wsX10_parse wsX10_readsNode := goodIn_r _ [11, 1, 2, 5, 6, 12, 3, 13, 14, 15, 10, 16, 4, 17, 18, 19, 20, 21, 22, 23, 24, 25, 26, 27, 28, 29, 30, 31, 32, 33, 34, 35, 36, 37, 38, 39, 40, 41, 42, 43, 44, 45, 46, 47, 48, 49, 50, 51, 58, 59, 60, 61, 62, 63, 64, 65, 66, 67, 68, 69, 70, 71, 72, 73, 74, 75, 76, 77, 78, 79, 80] (by decide +kernel) (by decide +kernel)
set_option maxRecDepth 20000 in
theorem gX10_parse_X10_readsNode : GoodIn wsX10_parse (wsV RX10 164 RX10 yX10_readsNode wsX10_readsNode) := goodIn_app (goodIn_of _ (by decide +kernel)) ggX10_parse_X10_readsNode
set_option maxRecDepth 20000 in
theorem ggX10_parse_X10_save : GoodIn wsX10_parse wsX10_save := goodIn_r _ [55, 56, 57, 5, 58, 59, 60, 61, 62, 63, 64, 65, 66, 67, 68, 69, 70, 71, 72, 73, 74, 75, 76, 77, 78, 79, 80] (by decide +kernel) (by decide +kernel)
set_option maxRecDepth 20000 in
theorem gX10_parse_X10_save : GoodIn wsX10_parse (wsV RX10 59 RX10 yX10_save wsX10_save) := goodIn_app (goodIn_of _ (by decide +kernel)) ggX10_parse_X10_save
theorem dX10_parse_0 : decode cX10_parse 0 = .ok (.aload_n 0, 1) := by decide +kernel
theorem dX10_parse_1 : decode cX10_parse 1 = .ok (.iconst 0, 1) := by decide +kernel
theorem dX10_parse_2 : decode cX10_parse 2 = .ok (.putfield 139, 3) := by decide +kernel
theorem dX10_parse_5 : decode cX10_parse 5 = .ok (.aload_n 0, 1) := by decide +kernel
theorem dX10_parse_6 : decode cX10_parse 6 = .ok (.iconst 0, 1) := by decide +kernel
theorem dX10_parse_7 : decode cX10_parse 7 = .ok (.putfield 151, 3) := by decide +kernel
theorem dX10_parse_10 : decode cX10_parse 10 = .ok (.aload_n 0, 1) := by decide +kernel
theorem dX10_parse_11 : decode cX10_parse 11 = .ok (.iconst 0, 1) := by decide +kernel
theorem dX10_parse_12 : decode cX10_parse 12 = .ok (.putfield 157, 3) := by decide +kernel
theorem dX10_parse_15 : decode cX10_parse 15 = .ok (.aload_n 0, 1) := by decide +kernel
theorem dX10_parse_16 : decode cX10_parse 16 = .ok (.invokevirtual 164, 3) := by decide +kernel
theorem dX10_parse_19 : decode cX10_parse 19 = .ok (.ifCond .ne 11, 3) := by decide +kernel
theorem dX10_parse_22 : decode cX10_parse 22 = .ok (.bipush (-10), 2) := by decide +kernel
theorem dX10_parse_24 : decode cX10_parse 24 = .ok (.aload_n 0, 1) := by decide +kernel
theorem dX10_parse_25 : decode cX10_parse 25 = .ok (.getfield 139, 3) := by decide +kernel
theorem dX10_parse_28 : decode cX10_parse 28 = .ok (.isub, 1) := by decide +kernel
theorem dX10_parse_29 : decode cX10_parse 29 = .ok (.ireturn, 1) := by decide +kernel
theorem dX10_parse_30 : decode cX10_parse 30 = .ok (.aload_n 0, 1) := by decide +kernel
theorem dX10_parse_31 : decode cX10_parse 31 = .ok (.getfield 157, 3) := by decide +kernel
theorem dX10_parse_34 : decode cX10_parse 34 = .ok (.ifCond .gt (-19), 3) := by decide +kernel
theorem dX10_parse_37 : decode cX10_parse 37 = .ok (.aload_n 0, 1) := by decide +kernel
theorem dX10_parse_38 : decode cX10_parse 38 = .ok (.getfield 139, 3) := by decide +kernel
theorem dX10_parse_41 : decode cX10_parse 41 = .ok (.aload_n 0, 1) := by decide +kernel
theorem dX10_parse_42 : decode cX10_parse 42 = .ok (.getfield 119, 3) := by decide +kernel
theorem dX10_parse_45 : decode cX10_parse 45 = .ok (.if_icmp .ge 11, 3) := by decide +kernel
theorem dX10_parse_48 : decode cX10_parse 48 = .ok (.bipush (-10), 2) := by decide +kernel
theorem dX10_parse_50 : decode cX10_parse 50 = .ok (.aload_n 0, 1) := by decide +kernel
theorem dX10_parse_51 : decode cX10_parse 51 = .ok (.getfield 139, 3) := by decide +kernel
theorem dX10_parse_54 : decode cX10_parse 54 = .ok (.isub, 1) := by decide +kernel
theorem dX10_parse_55 : decode cX10_parse 55 = .ok (.ireturn, 1) := by decide +kernel
theorem dX10_parse_56 : decode cX10_parse 56 = .ok (.aload_n 0, 1) := by decide +kernel
theorem dX10_parse_57 : decode cX10_parse 57 = .ok (.invokevirtual 59, 3) := by decide +kernel
theorem dX10_parse_60 : decode cX10_parse 60 = .ok (.iconst 0, 1) := by decide +kernel
theorem dX10_parse_61 : decode cX10_parse 61 = .ok (.istore_n 1, 1) := by decide +kernel
theorem dX10_parse_62 : decode cX10_parse 62 = .ok (.iload_n 1, 1) := by decide +kernel
theorem dX10_parse_63 : decode cX10_parse 63 = .ok (.aload_n 0, 1) := by decide +kernel
theorem dX10_parse_64 : decode cX10_parse 64 = .ok (.getfield 151, 3) := by decide +kernel
theorem dX10_parse_67 : decode cX10_parse 67 = .ok (.if_icmp .ge 25, 3) := by decide +kernel
theorem dX10_parse_70 : decode cX10_parse 70 = .ok (.aload_n 0, 1) := by decide +kernel
theorem dX10_parse_71 : decode cX10_parse 71 = .ok (.getfield 7, 3) := by decide +kernel
theorem dX10_parse_74 : decode cX10_parse 74 = .ok (.sipush 149, 3) := by decide +kernel
theorem dX10_parse_77 : decode cX10_parse 77 = .ok (.iload_n 1, 1) := by decide +kernel
theorem dX10_parse_78 : decode cX10_parse 78 = .ok (.iadd, 1) := by decide +kernel
theorem dX10_parse_79 : decode cX10_parse 79 = .ok (.aload_n 0, 1) := by decide +kernel
theorem dX10_parse_80 : decode cX10_parse 80 = .ok (.getfield 22, 3) := by decide +kernel
theorem dX10_parse_83 : decode cX10_parse 83 = .ok (.iload_n 1, 1) := by decide +kernel
theorem dX10_parse_84 : decode cX10_parse 84 = .ok (.iaload, 1) := by decide +kernel
theorem dX10_parse_85 : decode cX10_parse 85 = .ok (.iastore, 1) := by decide +kernel
theorem dX10_parse_86 : decode cX10_parse 86 = .ok (.iinc 1 1, 3) := by decide +kernel
theorem dX10_parse_89 : decode cX10_parse 89 = .ok (.goto (-27), 3) := by decide +kernel
theorem dX10_parse_92 : decode cX10_parse 92 = .ok (.aload_n 0, 1) := by decide +kernel
theorem dX10_parse_93 : decode cX10_parse 93 = .ok (.getfield 7, 3) := by decide +kernel
theorem dX10_parse_96 : decode cX10_parse 96 = .ok (.sipush 148, 3) := by decide +kernel
theorem dX10_parse_99 : decode cX10_parse 99 = .ok (.aload_n 0, 1) := by decide +kernel
theorem dX10_parse_100 : decode cX10_parse 100 = .ok (.getfield 151, 3) := by decide +kernel
theorem dX10_parse_103 : decode cX10_parse 103 = .ok (.iastore, 1) := by decide +kernel
theorem dX10_parse_104 : decode cX10_parse 104 = .ok (.aload_n 0, 1) := by decide +kernel
theorem dX10_parse_105 : decode cX10_parse 105 = .ok (.getfield 151, 3) := by decide +kernel
theorem dX10_parse_108 : decode cX10_parse 108 = .ok (.ireturn, 1) := by decide +kernel
set_option maxRecDepth 20000 in
theorem ggX10_hasEffect_X10_kind : GoodIn wsX10_hasEffect wsX10_kind := goodIn_r _ [7] (by decide +kernel) (by decide +kernel)
set_option maxRecDepth 20000 in
theorem gX10_hasEffect_X10_kind : GoodIn wsX10_hasEffect (va_wsS RX10 111 yX10_kind wsX10_kind) := goodIn_app (goodIn_of _ (by decide +kernel)) ggX10_hasEffect_X10_kind
set_option maxRecDepth 20000 in
theorem ggX10_hasEffect_X10_function : GoodIn wsX10_hasEffect wsX10_function := goodIn_r _ [11, 4, 5, 6, 7, 12, 13, 14] (by decide +kernel) (by decide +kernel)
set_option maxRecDepth 20000 in
theorem gX10_hasEffect_X10_function : GoodIn wsX10_hasEffect (wsV RX10 154 RX10 yX10_function wsX10_function) := goodIn_app (goodIn_of _ (by decide +kernel)) ggX10_hasEffect_X10_function
theorem dX10_hasEffect_0 : decode cX10_hasEffect 0 = .ok (.iconst 0, 1) := by decide +kernel
theorem dX10_hasEffect_1 : decode cX10_hasEffect 1 = .ok (.istore_n 2, 1) := by decide +kernel
theorem dX10_hasEffect_2 : decode cX10_hasEffect 2 = .ok (.aload_n 0, 1) := by decide +kernel
theorem dX10_hasEffect_3 : decode cX10_hasEffect 3 = .ok (.getfield 31, 3) := by decide +kernel
theorem dX10_hasEffect_6 : decode cX10_hasEffect 6 = .ok (.iload_n 1, 1) := by decide +kernel
theorem dX10_hasEffect_7 : decode cX10_hasEffect 7 = .ok (.iaload, 1) := by decide +kernel
theorem dX10_hasEffect_8 : decode cX10_hasEffect 8 = .ok (.istore_n 3, 1) := by decide +kernel
theorem dX10_hasEffect_9 : decode cX10_hasEffect 9 = .ok (.iload_n 3, 1) := by decide +kernel
theorem dX10_hasEffect_10 : decode cX10_hasEffect 10 = .ok (.aload_n 0, 1) := by decide +kernel
theorem dX10_hasEffect_11 : decode cX10_hasEffect 11 = .ok (.getfield 31, 3) := by decide +kernel
theorem dX10_hasEffect_14 : decode cX10_hasEffect 14 = .ok (.iload_n 1, 1) := by decide +kernel
theorem dX10_hasEffect_15 : decode cX10_hasEffect 15 = .ok (.iconst 1, 1) := by decide +kernel
theorem dX10_hasEffect_16 : decode cX10_hasEffect 16 = .ok (.iadd, 1) := by decide +kernel
theorem dX10_hasEffect_17 : decode cX10_hasEffect 17 = .ok (.iaload, 1) := by decide +kernel
theorem dX10_hasEffect_18 : decode cX10_hasEffect 18 = .ok (.if_icmp .ge 53, 3) := by decide +kernel
theorem dX10_hasEffect_21 : decode cX10_hasEffect 21 = .ok (.iload_n 2, 1) := by decide +kernel
theorem dX10_hasEffect_22 : decode cX10_hasEffect 22 = .ok (.ifCond .ne 37, 3) := by decide +kernel
theorem dX10_hasEffect_25 : decode cX10_hasEffect 25 = .ok (.aload_n 0, 1) := by decide +kernel
theorem dX10_hasEffect_26 : decode cX10_hasEffect 26 = .ok (.getfield 28, 3) := by decide +kernel
theorem dX10_hasEffect_29 : decode cX10_hasEffect 29 = .ok (.iload_n 3, 1) := by decide +kernel
theorem dX10_hasEffect_30 : decode cX10_hasEffect 30 = .ok (.iaload, 1) := by decide +kernel
theorem dX10_hasEffect_31 : decode cX10_hasEffect 31 = .ok (.invokestatic 111, 3) := by decide +kernel
theorem dX10_hasEffect_34 : decode cX10_hasEffect 34 = .ok (.iconst 2, 1) := by decide +kernel
theorem dX10_hasEffect_35 : decode cX10_hasEffect 35 = .ok (.if_icmp .le 28, 3) := by decide +kernel
theorem dX10_hasEffect_38 : decode cX10_hasEffect 38 = .ok (.aload_n 0, 1) := by decide +kernel
theorem dX10_hasEffect_39 : decode cX10_hasEffect 39 = .ok (.getfield 7, 3) := by decide +kernel
theorem dX10_hasEffect_42 : decode cX10_hasEffect 42 = .ok (.aload_n 0, 1) := by decide +kernel
theorem dX10_hasEffect_43 : decode cX10_hasEffect 43 = .ok (.aload_n 0, 1) := by decide +kernel
theorem dX10_hasEffect_44 : decode cX10_hasEffect 44 = .ok (.getfield 28, 3) := by decide +kernel
theorem dX10_hasEffect_47 : decode cX10_hasEffect 47 = .ok (.iload_n 3, 1) := by decide +kernel
theorem dX10_hasEffect_48 : decode cX10_hasEffect 48 = .ok (.iaload, 1) := by decide +kernel
theorem dX10_hasEffect_49 : decode cX10_hasEffect 49 = .ok (.invokevirtual 154, 3) := by decide +kernel
theorem dX10_hasEffect_52 : decode cX10_hasEffect 52 = .ok (.iconst 1, 1) := by decide +kernel
theorem dX10_hasEffect_53 : decode cX10_hasEffect 53 = .ok (.iadd, 1) := by decide +kernel
theorem dX10_hasEffect_54 : decode cX10_hasEffect 54 = .ok (.iaload, 1) := by decide +kernel
theorem dX10_hasEffect_55 : decode cX10_hasEffect 55 = .ok (.iconst 1, 1) := by decide +kernel
theorem dX10_hasEffect_56 : decode cX10_hasEffect 56 = .ok (.if_icmp .ne 7, 3) := by decide +kernel
theorem dX10_hasEffect_59 : decode cX10_hasEffect 59 = .ok (.iconst 1, 1) := by decide +kernel
theorem dX10_hasEffect_60 : decode cX10_hasEffect 60 = .ok (.goto 4, 3) := by decide +kernel
theorem dX10_hasEffect_63 : decode cX10_hasEffect 63 = .ok (.iconst 0, 1) := by decide +kernel
theorem dX10_hasEffect_64 : decode cX10_hasEffect 64 = .ok (.istore_n 2, 1) := by decide +kernel
theorem dX10_hasEffect_65 : decode cX10_hasEffect 65 = .ok (.iinc 3 1, 3) := by decide +kernel
theorem dX10_hasEffect_68 : decode cX10_hasEffect 68 = .ok (.goto (-59), 3) := by decide +kernel
theorem dX10_hasEffect_71 : decode cX10_hasEffect 71 = .ok (.iload_n 2, 1) := by decide +kernel
theorem dX10_hasEffect_72 : decode cX10_hasEffect 72 = .ok (.ireturn, 1) := by decide +kernel
set_option maxRecDepth 20000 in
theorem ggX10_putsCall_X10_arguments : GoodIn wsX10_putsCall wsX10_arguments := goodIn_r _ [8] (by decide +kernel) (by decide +kernel)
set_option maxRecDepth 20000 in
theorem gX10_putsCall_X10_arguments : GoodIn wsX10_putsCall (va_wsS RX10 167 yX10_arguments wsX10_arguments) := goodIn_app (goodIn_of _ (by decide +kernel)) ggX10_putsCall_X10_arguments
theorem dX10_putsCall_0 : decode cX10_putsCall 0 = .ok (.iload_n 1, 1) := by decide +kernel
theorem dX10_putsCall_1 : decode cX10_putsCall 1 = .ok (.invokestatic 167, 3) := by decide +kernel
theorem dX10_putsCall_4 : decode cX10_putsCall 4 = .ok (.istore_n 2, 1) := by decide +kernel
theorem dX10_putsCall_5 : decode cX10_putsCall 5 = .ok (.aload_n 0, 1) := by decide +kernel
theorem dX10_putsCall_6 : decode cX10_putsCall 6 = .ok (.getfield 31, 3) := by decide +kernel
theorem dX10_putsCall_9 : decode cX10_putsCall 9 = .ok (.aload_n 0, 1) := by decide +kernel
theorem dX10_putsCall_10 : decode cX10_putsCall 10 = .ok (.getfield 170, 3) := by decide +kernel
theorem dX10_putsCall_13 : decode cX10_putsCall 13 = .ok (.iload_n 2, 1) := by decide +kernel
theorem dX10_putsCall_14 : decode cX10_putsCall 14 = .ok (.isub, 1) := by decide +kernel
theorem dX10_putsCall_15 : decode cX10_putsCall 15 = .ok (.iaload, 1) := by decide +kernel
theorem dX10_putsCall_16 : decode cX10_putsCall 16 = .ok (.istore_n 3, 1) := by decide +kernel
theorem dX10_putsCall_17 : decode cX10_putsCall 17 = .ok (.aload_n 0, 1) := by decide +kernel
theorem dX10_putsCall_18 : decode cX10_putsCall 18 = .ok (.getfield 173, 3) := by decide +kernel
theorem dX10_putsCall_21 : decode cX10_putsCall 21 = .ok (.istore 4, 2) := by decide +kernel
theorem dX10_putsCall_23 : decode cX10_putsCall 23 = .ok (.iload 4, 2) := by decide +kernel
theorem dX10_putsCall_25 : decode cX10_putsCall 25 = .ok (.iload_n 3, 1) := by decide +kernel
theorem dX10_putsCall_26 : decode cX10_putsCall 26 = .ok (.if_icmp .le 25, 3) := by decide +kernel
theorem dX10_putsCall_29 : decode cX10_putsCall 29 = .ok (.aload_n 0, 1) := by decide +kernel
theorem dX10_putsCall_30 : decode cX10_putsCall 30 = .ok (.getfield 28, 3) := by decide +kernel
theorem dX10_putsCall_33 : decode cX10_putsCall 33 = .ok (.iload 4, 2) := by decide +kernel
theorem dX10_putsCall_35 : decode cX10_putsCall 35 = .ok (.aload_n 0, 1) := by decide +kernel
theorem dX10_putsCall_36 : decode cX10_putsCall 36 = .ok (.getfield 28, 3) := by decide +kernel
theorem dX10_putsCall_39 : decode cX10_putsCall 39 = .ok (.iload 4, 2) := by decide +kernel
theorem dX10_putsCall_41 : decode cX10_putsCall 41 = .ok (.iconst 1, 1) := by decide +kernel
theorem dX10_putsCall_42 : decode cX10_putsCall 42 = .ok (.isub, 1) := by decide +kernel
theorem dX10_putsCall_43 : decode cX10_putsCall 43 = .ok (.iaload, 1) := by decide +kernel
theorem dX10_putsCall_44 : decode cX10_putsCall 44 = .ok (.iastore, 1) := by decide +kernel
theorem dX10_putsCall_45 : decode cX10_putsCall 45 = .ok (.iinc 4 (-1), 3) := by decide +kernel
theorem dX10_putsCall_48 : decode cX10_putsCall 48 = .ok (.goto (-25), 3) := by decide +kernel
theorem dX10_putsCall_51 : decode cX10_putsCall 51 = .ok (.aload_n 0, 1) := by decide +kernel
theorem dX10_putsCall_52 : decode cX10_putsCall 52 = .ok (.getfield 28, 3) := by decide +kernel
theorem dX10_putsCall_55 : decode cX10_putsCall 55 = .ok (.iload_n 3, 1) := by decide +kernel
theorem dX10_putsCall_56 : decode cX10_putsCall 56 = .ok (.iload_n 1, 1) := by decide +kernel
theorem dX10_putsCall_57 : decode cX10_putsCall 57 = .ok (.iastore, 1) := by decide +kernel
theorem dX10_putsCall_58 : decode cX10_putsCall 58 = .ok (.aload_n 0, 1) := by decide +kernel
theorem dX10_putsCall_59 : decode cX10_putsCall 59 = .ok (.dup, 1) := by decide +kernel
theorem dX10_putsCall_60 : decode cX10_putsCall 60 = .ok (.getfield 173, 3) := by decide +kernel
theorem dX10_putsCall_63 : decode cX10_putsCall 63 = .ok (.iconst 1, 1) := by decide +kernel
theorem dX10_putsCall_64 : decode cX10_putsCall 64 = .ok (.iadd, 1) := by decide +kernel
theorem dX10_putsCall_65 : decode cX10_putsCall 65 = .ok (.putfield 173, 3) := by decide +kernel
theorem dX10_putsCall_68 : decode cX10_putsCall 68 = .ok (.aload_n 0, 1) := by decide +kernel
theorem dX10_putsCall_69 : decode cX10_putsCall 69 = .ok (.dup, 1) := by decide +kernel
theorem dX10_putsCall_70 : decode cX10_putsCall 70 = .ok (.getfield 170, 3) := by decide +kernel
theorem dX10_putsCall_73 : decode cX10_putsCall 73 = .ok (.iconst 1, 1) := by decide +kernel
theorem dX10_putsCall_74 : decode cX10_putsCall 74 = .ok (.iload_n 2, 1) := by decide +kernel
theorem dX10_putsCall_75 : decode cX10_putsCall 75 = .ok (.isub, 1) := by decide +kernel
theorem dX10_putsCall_76 : decode cX10_putsCall 76 = .ok (.iadd, 1) := by decide +kernel
theorem dX10_putsCall_77 : decode cX10_putsCall 77 = .ok (.putfield 170, 3) := by decide +kernel
theorem dX10_putsCall_80 : decode cX10_putsCall 80 = .ok (.aload_n 0, 1) := by decide +kernel
theorem dX10_putsCall_81 : decode cX10_putsCall 81 = .ok (.getfield 31, 3) := by decide +kernel
theorem dX10_putsCall_84 : decode cX10_putsCall 84 = .ok (.aload_n 0, 1) := by decide +kernel
theorem dX10_putsCall_85 : decode cX10_putsCall 85 = .ok (.getfield 170, 3) := by decide +kernel
theorem dX10_putsCall_88 : decode cX10_putsCall 88 = .ok (.aload_n 0, 1) := by decide +kernel
theorem dX10_putsCall_89 : decode cX10_putsCall 89 = .ok (.getfield 173, 3) := by decide +kernel
theorem dX10_putsCall_92 : decode cX10_putsCall 92 = .ok (.iastore, 1) := by decide +kernel
theorem dX10_putsCall_93 : decode cX10_putsCall 93 = .ok (.return_, 1) := by decide +kernel
set_option maxRecDepth 20000 in
theorem ggX10_first_X10_arguments : GoodIn wsX10_first wsX10_arguments := goodIn_r _ [5] (by decide +kernel) (by decide +kernel)
set_option maxRecDepth 20000 in
theorem gX10_first_X10_arguments : GoodIn wsX10_first (va_wsS RX10 167 yX10_arguments wsX10_arguments) := goodIn_app (goodIn_of _ (by decide +kernel)) ggX10_first_X10_arguments
theorem dX10_first_0 : decode cX10_first 0 = .ok (.aload_n 0, 1) := by decide +kernel
theorem dX10_first_1 : decode cX10_first 1 = .ok (.getfield 170, 3) := by decide +kernel
theorem dX10_first_4 : decode cX10_first 4 = .ok (.iload_n 1, 1) := by decide +kernel
theorem dX10_first_5 : decode cX10_first 5 = .ok (.invokestatic 167, 3) := by decide +kernel
theorem dX10_first_8 : decode cX10_first 8 = .ok (.isub, 1) := by decide +kernel
theorem dX10_first_9 : decode cX10_first 9 = .ok (.ireturn, 1) := by decide +kernel
set_option maxRecDepth 20000 in
theorem ggX10_uses_X10_used : GoodIn wsX10_uses wsX10_used := goodIn_r _ [5, 6, 7, 8, 9, 4, 10, 15, 16, 17, 18, 19, 20, 21, 22, 23, 24, 25, 26, 27, 28, 29, 30, 31, 32, 33, 34, 35, 36, 37] (by decide +kernel) (by decide +kernel)
set_option maxRecDepth 20000 in
theorem gX10_uses_X10_used : GoodIn wsX10_uses (wsV RX10 89 RX10 yX10_used wsX10_used) := goodIn_app (goodIn_of _ (by decide +kernel)) ggX10_uses_X10_used
set_option maxRecDepth 20000 in
theorem ggX10_uses_X10_entry : GoodIn wsX10_uses wsX10_entry := goodIn_r _ [14, 6, 15, 16, 17, 18, 19, 20, 21, 22, 23, 24, 25, 26, 27, 28, 29, 30, 31, 32, 33, 34, 35, 36, 37] (by decide +kernel) (by decide +kernel)
set_option maxRecDepth 20000 in
theorem gX10_uses_X10_entry : GoodIn wsX10_uses (wsV RX10 92 RX10 yX10_entry wsX10_entry) := goodIn_app (goodIn_of _ (by decide +kernel)) ggX10_uses_X10_entry
theorem dX10_uses_0 : decode cX10_uses 0 = .ok (.iconst 0, 1) := by decide +kernel
theorem dX10_uses_1 : decode cX10_uses 1 = .ok (.istore_n 3, 1) := by decide +kernel
theorem dX10_uses_2 : decode cX10_uses 2 = .ok (.iconst 0, 1) := by decide +kernel
theorem dX10_uses_3 : decode cX10_uses 3 = .ok (.istore 4, 2) := by decide +kernel
theorem dX10_uses_5 : decode cX10_uses 5 = .ok (.iload 4, 2) := by decide +kernel
theorem dX10_uses_7 : decode cX10_uses 7 = .ok (.aload_n 0, 1) := by decide +kernel
theorem dX10_uses_8 : decode cX10_uses 8 = .ok (.iload_n 1, 1) := by decide +kernel
theorem dX10_uses_9 : decode cX10_uses 9 = .ok (.invokevirtual 89, 3) := by decide +kernel
theorem dX10_uses_12 : decode cX10_uses 12 = .ok (.if_icmp .ge 28, 3) := by decide +kernel
theorem dX10_uses_15 : decode cX10_uses 15 = .ok (.iload_n 3, 1) := by decide +kernel
theorem dX10_uses_16 : decode cX10_uses 16 = .ok (.aload_n 0, 1) := by decide +kernel
theorem dX10_uses_17 : decode cX10_uses 17 = .ok (.iload_n 1, 1) := by decide +kernel
theorem dX10_uses_18 : decode cX10_uses 18 = .ok (.iload 4, 2) := by decide +kernel
theorem dX10_uses_20 : decode cX10_uses 20 = .ok (.invokevirtual 92, 3) := by decide +kernel
theorem dX10_uses_23 : decode cX10_uses 23 = .ok (.iload_n 2, 1) := by decide +kernel
theorem dX10_uses_24 : decode cX10_uses 24 = .ok (.if_icmp .ne 7, 3) := by decide +kernel
theorem dX10_uses_27 : decode cX10_uses 27 = .ok (.iconst 1, 1) := by decide +kernel
theorem dX10_uses_28 : decode cX10_uses 28 = .ok (.goto 4, 3) := by decide +kernel
theorem dX10_uses_31 : decode cX10_uses 31 = .ok (.iconst 0, 1) := by decide +kernel
theorem dX10_uses_32 : decode cX10_uses 32 = .ok (.iadd, 1) := by decide +kernel
theorem dX10_uses_33 : decode cX10_uses 33 = .ok (.istore_n 3, 1) := by decide +kernel
theorem dX10_uses_34 : decode cX10_uses 34 = .ok (.iinc 4 1, 3) := by decide +kernel
theorem dX10_uses_37 : decode cX10_uses 37 = .ok (.goto (-32), 3) := by decide +kernel
theorem dX10_uses_40 : decode cX10_uses 40 = .ok (.iload_n 3, 1) := by decide +kernel
theorem dX10_uses_41 : decode cX10_uses 41 = .ok (.ireturn, 1) := by decide +kernel
set_option maxRecDepth 20000 in
theorem ggX10_reason_X10_which : GoodIn wsX10_reason wsX10_which := goodIn_r _ [6] (by decide +kernel) (by decide +kernel)
set_option maxRecDepth 20000 in
theorem gX10_reason_X10_which : GoodIn wsX10_reason (va_wsS RX10 114 yX10_which wsX10_which) := goodIn_app (goodIn_of _ (by decide +kernel)) ggX10_reason_X10_which
set_option maxRecDepth 20000 in
theorem ggX10_reason_X10_first : GoodIn wsX10_reason wsX10_first := goodIn_r _ [10, 2, 11, 12, 5, 13, 52, 53, 54, 55, 56, 57, 58, 59, 60, 61, 62, 63, 64, 65, 66, 67, 68, 69, 70, 71, 72, 73, 74] (by decide +kernel) (by decide +kernel)
set_option maxRecDepth 20000 in
theorem gX10_reason_X10_first : GoodIn wsX10_reason (wsV RX10 176 RX10 yX10_first wsX10_first) := goodIn_app (goodIn_of _ (by decide +kernel)) ggX10_reason_X10_first
set_option maxRecDepth 20000 in
theorem ggX10_reason_X10_arguments : GoodIn wsX10_reason wsX10_arguments := goodIn_r _ [13] (by decide +kernel) (by decide +kernel)
set_option maxRecDepth 20000 in
theorem gX10_reason_X10_arguments : GoodIn wsX10_reason (va_wsS RX10 167 yX10_arguments wsX10_arguments) := goodIn_app (goodIn_of _ (by decide +kernel)) ggX10_reason_X10_arguments
set_option maxRecDepth 20000 in
theorem ggX10_reason_X10_hasEffect : GoodIn wsX10_reason wsX10_hasEffect := goodIn_r _ [17, 18, 19, 20, 21, 22, 5, 23, 24, 25, 26, 27, 3, 4, 6, 52, 53, 54, 55, 56, 57, 58, 59, 60, 61, 62, 63, 64, 65, 66, 67, 68, 69, 70, 71, 72, 73, 74] (by decide +kernel) (by decide +kernel)
set_option maxRecDepth 20000 in
theorem gX10_reason_X10_hasEffect : GoodIn wsX10_reason (wsV RX10 179 RX10 yX10_hasEffect wsX10_hasEffect) := goodIn_app (goodIn_of _ (by decide +kernel)) ggX10_reason_X10_hasEffect
set_option maxRecDepth 20000 in
theorem ggX10_reason_X10_uses : GoodIn wsX10_reason wsX10_uses := goodIn_r _ [31, 32, 33, 34, 5, 35, 20, 36, 37, 38, 39, 40, 41, 42, 43, 52, 53, 54, 55, 56, 57, 58, 59, 60, 61, 62, 63, 64, 65, 66, 67, 68, 69, 70, 71, 72, 73, 74] (by decide +kernel) (by decide +kernel)
set_option maxRecDepth 20000 in
theorem gX10_reason_X10_uses : GoodIn wsX10_reason (wsV RX10 182 RX10 yX10_uses wsX10_uses) := goodIn_app (goodIn_of _ (by decide +kernel)) ggX10_reason_X10_uses
set_option maxRecDepth 20000 in
theorem ggX10_reason_X10_used : GoodIn wsX10_reason wsX10_used := goodIn_r _ [35, 20, 36, 37, 38, 5, 39, 52, 53, 54, 55, 56, 57, 58, 59, 60, 61, 62, 63, 64, 65, 66, 67, 68, 69, 70, 71, 72, 73, 74] (by decide +kernel) (by decide +kernel)
set_option maxRecDepth 20000 in
theorem gX10_reason_X10_used : GoodIn wsX10_reason (wsV RX10 89 RX10 yX10_used wsX10_used) := goodIn_app (goodIn_of _ (by decide +kernel)) ggX10_reason_X10_used
set_option maxRecDepth 20000 in
theorem ggX10_reason_X10_entry : GoodIn wsX10_reason wsX10_entry := goodIn_r _ [43, 20, 52, 53, 54, 55, 56, 57, 58, 59, 60, 61, 62, 63, 64, 65, 66, 67, 68, 69, 70, 71, 72, 73, 74] (by decide +kernel) (by decide +kernel)
set_option maxRecDepth 20000 in
theorem gX10_reason_X10_entry : GoodIn wsX10_reason (wsV RX10 92 RX10 yX10_entry wsX10_entry) := goodIn_app (goodIn_of _ (by decide +kernel)) ggX10_reason_X10_entry
set_option maxRecDepth 20000 in
theorem ggX10_reason_X10_size : GoodIn wsX10_reason wsX10_size := goodIn_r _ [47, 18, 52, 53, 54, 55, 56, 57, 58, 59, 60, 61, 62, 63, 64, 65, 66, 67, 68, 69, 70, 71, 72, 73, 74] (by decide +kernel) (by decide +kernel)
set_option maxRecDepth 20000 in
theorem gX10_reason_X10_size : GoodIn wsX10_reason (wsV RX10 188 RX10 yX10_size wsX10_size) := goodIn_app (goodIn_of _ (by decide +kernel)) ggX10_reason_X10_size
set_option maxRecDepth 20000 in
theorem ggX10_reason_X10_sizeThen : GoodIn wsX10_reason wsX10_sizeThen := goodIn_r _ [51, 32, 33, 34, 5, 35, 20, 36, 37, 38, 39, 40, 41, 42, 43, 44, 45, 46, 47, 18, 52, 53, 54, 55, 56, 57, 58, 59, 60, 61, 62, 63, 64, 65, 66, 67, 68, 69, 70, 71, 72, 73, 74] (by decide +kernel) (by decide +kernel)
set_option maxRecDepth 20000 in
theorem gX10_reason_X10_sizeThen : GoodIn wsX10_reason (wsV RX10 191 RX10 yX10_sizeThen wsX10_sizeThen) := goodIn_app (goodIn_of _ (by decide +kernel)) ggX10_reason_X10_sizeThen
theorem dX10_reason_0 : decode cX10_reason 0 = .ok (.iload_n 1, 1) := by decide +kernel
theorem dX10_reason_1 : decode cX10_reason 1 = .ok (.invokestatic 114, 3) := by decide +kernel
theorem dX10_reason_4 : decode cX10_reason 4 = .ok (.istore_n 2, 1) := by decide +kernel
theorem dX10_reason_5 : decode cX10_reason 5 = .ok (.aload_n 0, 1) := by decide +kernel
theorem dX10_reason_6 : decode cX10_reason 6 = .ok (.iload_n 1, 1) := by decide +kernel
theorem dX10_reason_7 : decode cX10_reason 7 = .ok (.invokevirtual 176, 3) := by decide +kernel
theorem dX10_reason_10 : decode cX10_reason 10 = .ok (.istore_n 3, 1) := by decide +kernel
theorem dX10_reason_11 : decode cX10_reason 11 = .ok (.iconst 0, 1) := by decide +kernel
theorem dX10_reason_12 : decode cX10_reason 12 = .ok (.istore 4, 2) := by decide +kernel
theorem dX10_reason_14 : decode cX10_reason 14 = .ok (.iconst 0, 1) := by decide +kernel
theorem dX10_reason_15 : decode cX10_reason 15 = .ok (.istore 5, 2) := by decide +kernel
theorem dX10_reason_17 : decode cX10_reason 17 = .ok (.iconst 0, 1) := by decide +kernel
theorem dX10_reason_18 : decode cX10_reason 18 = .ok (.istore 6, 2) := by decide +kernel
theorem dX10_reason_20 : decode cX10_reason 20 = .ok (.iload 6, 2) := by decide +kernel
theorem dX10_reason_22 : decode cX10_reason 22 = .ok (.iload_n 1, 1) := by decide +kernel
theorem dX10_reason_23 : decode cX10_reason 23 = .ok (.invokestatic 167, 3) := by decide +kernel
theorem dX10_reason_26 : decode cX10_reason 26 = .ok (.if_icmp .ge 76, 3) := by decide +kernel
theorem dX10_reason_29 : decode cX10_reason 29 = .ok (.iload 4, 2) := by decide +kernel
theorem dX10_reason_31 : decode cX10_reason 31 = .ok (.ifCond .ne 25, 3) := by decide +kernel
theorem dX10_reason_34 : decode cX10_reason 34 = .ok (.aload_n 0, 1) := by decide +kernel
theorem dX10_reason_35 : decode cX10_reason 35 = .ok (.iload_n 3, 1) := by decide +kernel
theorem dX10_reason_36 : decode cX10_reason 36 = .ok (.iload 6, 2) := by decide +kernel
theorem dX10_reason_38 : decode cX10_reason 38 = .ok (.iadd, 1) := by decide +kernel
theorem dX10_reason_39 : decode cX10_reason 39 = .ok (.invokevirtual 179, 3) := by decide +kernel
theorem dX10_reason_42 : decode cX10_reason 42 = .ok (.ifCond .eq 18, 3) := by decide +kernel
theorem dX10_reason_45 : decode cX10_reason 45 = .ok (.aload_n 0, 1) := by decide +kernel
theorem dX10_reason_46 : decode cX10_reason 46 = .ok (.iload_n 2, 1) := by decide +kernel
theorem dX10_reason_47 : decode cX10_reason 47 = .ok (.iload 6, 2) := by decide +kernel
theorem dX10_reason_49 : decode cX10_reason 49 = .ok (.invokevirtual 182, 3) := by decide +kernel
theorem dX10_reason_52 : decode cX10_reason 52 = .ok (.iconst 1, 1) := by decide +kernel
