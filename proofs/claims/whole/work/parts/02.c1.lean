theorem dX5_effectReason_119 : decode cX5_effectReason 119 = .ok (.goto 4, 3) := by decide +kernel
theorem dX5_effectReason_122 : decode cX5_effectReason 122 = .ok (.iconst 0, 1) := by decide +kernel
theorem dX5_effectReason_123 : decode cX5_effectReason 123 = .ok (.ireturn, 1) := by decide +kernel
set_option maxRecDepth 20000 in
theorem ggX5_countUses_X4_sourceAt : GoodIn wsX5_countUses wsX4_sourceAt := goodIn_r _ [5, 6, 7, 8, 9, 10, 11, 12] (by decide +kernel) (by decide +kernel)
set_option maxRecDepth 20000 in
theorem gX5_countUses_X4_sourceAt : GoodIn wsX5_countUses (wsV RX5 130 RX4 yX4_sourceAt wsX4_sourceAt) := goodIn_app (goodIn_of _ (by decide +kernel)) ggX5_countUses_X4_sourceAt
theorem dX5_countUses_0 : decode cX5_countUses 0 = .ok (.iconst 0, 1) := by decide +kernel
theorem dX5_countUses_1 : decode cX5_countUses 1 = .ok (.istore 4, 2) := by decide +kernel
theorem dX5_countUses_3 : decode cX5_countUses 3 = .ok (.iconst 0, 1) := by decide +kernel
theorem dX5_countUses_4 : decode cX5_countUses 4 = .ok (.istore 5, 2) := by decide +kernel
theorem dX5_countUses_6 : decode cX5_countUses 6 = .ok (.iload 5, 2) := by decide +kernel
theorem dX5_countUses_8 : decode cX5_countUses 8 = .ok (.iload_n 2, 1) := by decide +kernel
theorem dX5_countUses_9 : decode cX5_countUses 9 = .ok (.if_icmp .ge 23, 3) := by decide +kernel
theorem dX5_countUses_12 : decode cX5_countUses 12 = .ok (.aload_n 0, 1) := by decide +kernel
theorem dX5_countUses_13 : decode cX5_countUses 13 = .ok (.iload_n 1, 1) := by decide +kernel
theorem dX5_countUses_14 : decode cX5_countUses 14 = .ok (.iload 5, 2) := by decide +kernel
theorem dX5_countUses_16 : decode cX5_countUses 16 = .ok (.invokevirtual 130, 3) := by decide +kernel
theorem dX5_countUses_19 : decode cX5_countUses 19 = .ok (.iload_n 3, 1) := by decide +kernel
theorem dX5_countUses_20 : decode cX5_countUses 20 = .ok (.if_icmp .ne 6, 3) := by decide +kernel
theorem dX5_countUses_23 : decode cX5_countUses 23 = .ok (.iinc 4 1, 3) := by decide +kernel
theorem dX5_countUses_26 : decode cX5_countUses 26 = .ok (.iinc 5 1, 3) := by decide +kernel
theorem dX5_countUses_29 : decode cX5_countUses 29 = .ok (.goto (-23), 3) := by decide +kernel
theorem dX5_countUses_32 : decode cX5_countUses 32 = .ok (.iload 4, 2) := by decide +kernel
theorem dX5_countUses_34 : decode cX5_countUses 34 = .ok (.ireturn, 1) := by decide +kernel
set_option maxRecDepth 20000 in
theorem ggX5_reordersEffects_X4_sourceAt : GoodIn wsX5_reordersEffects wsX4_sourceAt := goodIn_r _ [6, 7, 8, 9, 10, 17, 18, 19] (by decide +kernel) (by decide +kernel)
set_option maxRecDepth 20000 in
theorem gX5_reordersEffects_X4_sourceAt : GoodIn wsX5_reordersEffects (wsV RX5 130 RX4 yX4_sourceAt wsX4_sourceAt) := goodIn_app (goodIn_of _ (by decide +kernel)) ggX5_reordersEffects_X4_sourceAt
set_option maxRecDepth 20000 in
theorem ggX5_reordersEffects_X9_isSource : GoodIn wsX5_reordersEffects wsX9_isSource := goodIn_r _ [12, 13, 8, 9, 10] (by decide +kernel) (by decide +kernel)
set_option maxRecDepth 20000 in
theorem gX5_reordersEffects_X9_isSource_n133 : GoodIn wsX5_reordersEffects (wsX9_isSource) := ggX5_reordersEffects_X9_isSource
theorem dX5_reordersEffects_0 : decode cX5_reordersEffects 0 = .ok (.iconst (-1), 1) := by decide +kernel
theorem dX5_reordersEffects_1 : decode cX5_reordersEffects 1 = .ok (.istore 4, 2) := by decide +kernel
theorem dX5_reordersEffects_3 : decode cX5_reordersEffects 3 = .ok (.iconst 0, 1) := by decide +kernel
theorem dX5_reordersEffects_4 : decode cX5_reordersEffects 4 = .ok (.istore 5, 2) := by decide +kernel
theorem dX5_reordersEffects_6 : decode cX5_reordersEffects 6 = .ok (.iload 5, 2) := by decide +kernel
theorem dX5_reordersEffects_8 : decode cX5_reordersEffects 8 = .ok (.iload_n 3, 1) := by decide +kernel
theorem dX5_reordersEffects_9 : decode cX5_reordersEffects 9 = .ok (.if_icmp .ge 49, 3) := by decide +kernel
theorem dX5_reordersEffects_12 : decode cX5_reordersEffects 12 = .ok (.aload_n 1, 1) := by decide +kernel
theorem dX5_reordersEffects_13 : decode cX5_reordersEffects 13 = .ok (.iload_n 2, 1) := by decide +kernel
theorem dX5_reordersEffects_14 : decode cX5_reordersEffects 14 = .ok (.iload 5, 2) := by decide +kernel
theorem dX5_reordersEffects_16 : decode cX5_reordersEffects 16 = .ok (.invokevirtual 130, 3) := by decide +kernel
theorem dX5_reordersEffects_19 : decode cX5_reordersEffects 19 = .ok (.istore 6, 2) := by decide +kernel
theorem dX5_reordersEffects_21 : decode cX5_reordersEffects 21 = .ok (.iload 6, 2) := by decide +kernel
theorem dX5_reordersEffects_23 : decode cX5_reordersEffects 23 = .ok (.invokestatic 133, 3) := by decide +kernel
theorem dX5_reordersEffects_26 : decode cX5_reordersEffects 26 = .ok (.ifCond .eq 26, 3) := by decide +kernel
theorem dX5_reordersEffects_29 : decode cX5_reordersEffects 29 = .ok (.aload_n 0, 1) := by decide +kernel
theorem dX5_reordersEffects_30 : decode cX5_reordersEffects 30 = .ok (.getfield 22, 3) := by decide +kernel
theorem dX5_reordersEffects_33 : decode cX5_reordersEffects 33 = .ok (.iload 6, 2) := by decide +kernel
theorem dX5_reordersEffects_35 : decode cX5_reordersEffects 35 = .ok (.baload, 1) := by decide +kernel
theorem dX5_reordersEffects_36 : decode cX5_reordersEffects 36 = .ok (.ifCond .eq 16, 3) := by decide +kernel
theorem dX5_reordersEffects_39 : decode cX5_reordersEffects 39 = .ok (.iload 6, 2) := by decide +kernel
theorem dX5_reordersEffects_41 : decode cX5_reordersEffects 41 = .ok (.iload 4, 2) := by decide +kernel
theorem dX5_reordersEffects_43 : decode cX5_reordersEffects 43 = .ok (.if_icmp .ge 5, 3) := by decide +kernel
theorem dX5_reordersEffects_46 : decode cX5_reordersEffects 46 = .ok (.iconst 1, 1) := by decide +kernel
theorem dX5_reordersEffects_47 : decode cX5_reordersEffects 47 = .ok (.ireturn, 1) := by decide +kernel
theorem dX5_reordersEffects_48 : decode cX5_reordersEffects 48 = .ok (.iload 6, 2) := by decide +kernel
theorem dX5_reordersEffects_50 : decode cX5_reordersEffects 50 = .ok (.istore 4, 2) := by decide +kernel
theorem dX5_reordersEffects_52 : decode cX5_reordersEffects 52 = .ok (.iinc 5 1, 3) := by decide +kernel
theorem dX5_reordersEffects_55 : decode cX5_reordersEffects 55 = .ok (.goto (-49), 3) := by decide +kernel
theorem dX5_reordersEffects_58 : decode cX5_reordersEffects 58 = .ok (.iconst 0, 1) := by decide +kernel
theorem dX5_reordersEffects_59 : decode cX5_reordersEffects 59 = .ok (.ireturn, 1) := by decide +kernel
set_option maxRecDepth 20000 in
theorem ggX5_sizeAfterReplacing_X6_endOf : GoodIn wsX5_sizeAfterReplacing wsX6_endOf := goodIn_r _ [9, 10, 11, 12, 13, 14, 33, 34, 35, 36] (by decide +kernel) (by decide +kernel)
set_option maxRecDepth 20000 in
theorem gX5_sizeAfterReplacing_X6_endOf : GoodIn wsX5_sizeAfterReplacing (wsV RX5 49 RX6 yX6_endOf wsX6_endOf) := goodIn_app (goodIn_of _ (by decide +kernel)) ggX5_sizeAfterReplacing_X6_endOf
set_option maxRecDepth 20000 in
theorem ggX5_sizeAfterReplacing_X4_sourceAt : GoodIn wsX5_sizeAfterReplacing wsX4_sourceAt := goodIn_r _ [19, 20, 12, 13, 14, 40, 41, 42] (by decide +kernel) (by decide +kernel)
set_option maxRecDepth 20000 in
theorem gX5_sizeAfterReplacing_X4_sourceAt : GoodIn wsX5_sizeAfterReplacing (wsV RX5 130 RX4 yX4_sourceAt wsX4_sourceAt) := goodIn_app (goodIn_of _ (by decide +kernel)) ggX5_sizeAfterReplacing_X4_sourceAt
set_option maxRecDepth 20000 in
theorem ggX5_sizeAfterReplacing_X9_isSource : GoodIn wsX5_sizeAfterReplacing wsX9_isSource := goodIn_r _ [22, 23, 12, 13, 14] (by decide +kernel) (by decide +kernel)
set_option maxRecDepth 20000 in
theorem gX5_sizeAfterReplacing_X9_isSource_n133 : GoodIn wsX5_sizeAfterReplacing (wsX9_isSource) := ggX5_sizeAfterReplacing_X9_isSource
theorem dX5_sizeAfterReplacing_0 : decode cX5_sizeAfterReplacing 0 = .ok (.aload_n 1, 1) := by decide +kernel
theorem dX5_sizeAfterReplacing_1 : decode cX5_sizeAfterReplacing 1 = .ok (.getfield 26, 3) := by decide +kernel
theorem dX5_sizeAfterReplacing_4 : decode cX5_sizeAfterReplacing 4 = .ok (.getfield 31, 3) := by decide +kernel
theorem dX5_sizeAfterReplacing_7 : decode cX5_sizeAfterReplacing 7 = .ok (.aload_n 1, 1) := by decide +kernel
theorem dX5_sizeAfterReplacing_8 : decode cX5_sizeAfterReplacing 8 = .ok (.getfield 26, 3) := by decide +kernel
theorem dX5_sizeAfterReplacing_11 : decode cX5_sizeAfterReplacing 11 = .ok (.iload_n 2, 1) := by decide +kernel
theorem dX5_sizeAfterReplacing_12 : decode cX5_sizeAfterReplacing 12 = .ok (.invokevirtual 49, 3) := by decide +kernel
theorem dX5_sizeAfterReplacing_15 : decode cX5_sizeAfterReplacing 15 = .ok (.iload_n 2, 1) := by decide +kernel
theorem dX5_sizeAfterReplacing_16 : decode cX5_sizeAfterReplacing 16 = .ok (.isub, 1) := by decide +kernel
theorem dX5_sizeAfterReplacing_17 : decode cX5_sizeAfterReplacing 17 = .ok (.isub, 1) := by decide +kernel
theorem dX5_sizeAfterReplacing_18 : decode cX5_sizeAfterReplacing 18 = .ok (.iconst 1, 1) := by decide +kernel
theorem dX5_sizeAfterReplacing_19 : decode cX5_sizeAfterReplacing 19 = .ok (.iadd, 1) := by decide +kernel
theorem dX5_sizeAfterReplacing_20 : decode cX5_sizeAfterReplacing 20 = .ok (.istore 5, 2) := by decide +kernel
theorem dX5_sizeAfterReplacing_22 : decode cX5_sizeAfterReplacing 22 = .ok (.iconst 0, 1) := by decide +kernel
theorem dX5_sizeAfterReplacing_23 : decode cX5_sizeAfterReplacing 23 = .ok (.istore 6, 2) := by decide +kernel
theorem dX5_sizeAfterReplacing_25 : decode cX5_sizeAfterReplacing 25 = .ok (.iload 6, 2) := by decide +kernel
theorem dX5_sizeAfterReplacing_27 : decode cX5_sizeAfterReplacing 27 = .ok (.iload 4, 2) := by decide +kernel
theorem dX5_sizeAfterReplacing_29 : decode cX5_sizeAfterReplacing 29 = .ok (.if_icmp .ge 55, 3) := by decide +kernel
theorem dX5_sizeAfterReplacing_32 : decode cX5_sizeAfterReplacing 32 = .ok (.aload_n 1, 1) := by decide +kernel
theorem dX5_sizeAfterReplacing_33 : decode cX5_sizeAfterReplacing 33 = .ok (.getfield 86, 3) := by decide +kernel
theorem dX5_sizeAfterReplacing_36 : decode cX5_sizeAfterReplacing 36 = .ok (.iload_n 3, 1) := by decide +kernel
theorem dX5_sizeAfterReplacing_37 : decode cX5_sizeAfterReplacing 37 = .ok (.iload 6, 2) := by decide +kernel
theorem dX5_sizeAfterReplacing_39 : decode cX5_sizeAfterReplacing 39 = .ok (.invokevirtual 130, 3) := by decide +kernel
theorem dX5_sizeAfterReplacing_42 : decode cX5_sizeAfterReplacing 42 = .ok (.istore 7, 2) := by decide +kernel
theorem dX5_sizeAfterReplacing_44 : decode cX5_sizeAfterReplacing 44 = .ok (.iload 5, 2) := by decide +kernel
theorem dX5_sizeAfterReplacing_46 : decode cX5_sizeAfterReplacing 46 = .ok (.iload 7, 2) := by decide +kernel
theorem dX5_sizeAfterReplacing_48 : decode cX5_sizeAfterReplacing 48 = .ok (.invokestatic 133, 3) := by decide +kernel
theorem dX5_sizeAfterReplacing_51 : decode cX5_sizeAfterReplacing 51 = .ok (.ifCond .eq 23, 3) := by decide +kernel
theorem dX5_sizeAfterReplacing_54 : decode cX5_sizeAfterReplacing 54 = .ok (.aload_n 0, 1) := by decide +kernel
theorem dX5_sizeAfterReplacing_55 : decode cX5_sizeAfterReplacing 55 = .ok (.getfield 18, 3) := by decide +kernel
theorem dX5_sizeAfterReplacing_58 : decode cX5_sizeAfterReplacing 58 = .ok (.iload 7, 2) := by decide +kernel
theorem dX5_sizeAfterReplacing_60 : decode cX5_sizeAfterReplacing 60 = .ok (.iconst 1, 1) := by decide +kernel
theorem dX5_sizeAfterReplacing_61 : decode cX5_sizeAfterReplacing 61 = .ok (.iadd, 1) := by decide +kernel
theorem dX5_sizeAfterReplacing_62 : decode cX5_sizeAfterReplacing 62 = .ok (.iaload, 1) := by decide +kernel
theorem dX5_sizeAfterReplacing_63 : decode cX5_sizeAfterReplacing 63 = .ok (.aload_n 0, 1) := by decide +kernel
theorem dX5_sizeAfterReplacing_64 : decode cX5_sizeAfterReplacing 64 = .ok (.getfield 18, 3) := by decide +kernel
theorem dX5_sizeAfterReplacing_67 : decode cX5_sizeAfterReplacing 67 = .ok (.iload 7, 2) := by decide +kernel
theorem dX5_sizeAfterReplacing_69 : decode cX5_sizeAfterReplacing 69 = .ok (.iaload, 1) := by decide +kernel
theorem dX5_sizeAfterReplacing_70 : decode cX5_sizeAfterReplacing 70 = .ok (.isub, 1) := by decide +kernel
theorem dX5_sizeAfterReplacing_71 : decode cX5_sizeAfterReplacing 71 = .ok (.goto 4, 3) := by decide +kernel
theorem dX5_sizeAfterReplacing_74 : decode cX5_sizeAfterReplacing 74 = .ok (.iconst 1, 1) := by decide +kernel
theorem dX5_sizeAfterReplacing_75 : decode cX5_sizeAfterReplacing 75 = .ok (.iadd, 1) := by decide +kernel
theorem dX5_sizeAfterReplacing_76 : decode cX5_sizeAfterReplacing 76 = .ok (.istore 5, 2) := by decide +kernel
theorem dX5_sizeAfterReplacing_78 : decode cX5_sizeAfterReplacing 78 = .ok (.iinc 6 1, 3) := by decide +kernel
theorem dX5_sizeAfterReplacing_81 : decode cX5_sizeAfterReplacing 81 = .ok (.goto (-56), 3) := by decide +kernel
theorem dX5_sizeAfterReplacing_84 : decode cX5_sizeAfterReplacing 84 = .ok (.iload 5, 2) := by decide +kernel
theorem dX5_sizeAfterReplacing_86 : decode cX5_sizeAfterReplacing 86 = .ok (.ireturn, 1) := by decide +kernel
set_option maxRecDepth 20000 in
theorem ggX5_replaceSite_X4_targetOf : GoodIn wsX5_replaceSite wsX4_targetOf := goodIn_r _ [10, 11, 12, 13, 14, 77, 78, 79] (by decide +kernel) (by decide +kernel)
set_option maxRecDepth 20000 in
theorem gX5_replaceSite_X4_targetOf : GoodIn wsX5_replaceSite (wsV RX5 108 RX4 yX4_targetOf wsX4_targetOf) := goodIn_app (goodIn_of _ (by decide +kernel)) ggX5_replaceSite_X4_targetOf
set_option maxRecDepth 20000 in
theorem ggX5_replaceSite_X6_add : GoodIn wsX5_replaceSite wsX6_add := goodIn_r _ [19, 20, 21, 22, 23, 64, 65, 66, 67] (by decide +kernel) (by decide +kernel)
set_option maxRecDepth 20000 in
theorem gX5_replaceSite_X6_add : GoodIn wsX5_replaceSite (wsV RX5 136 RX6 yX6_add wsX6_add) := goodIn_app (goodIn_of _ (by decide +kernel)) ggX5_replaceSite_X6_add
set_option maxRecDepth 20000 in
theorem ggX5_replaceSite_X4_sourceAt : GoodIn wsX5_replaceSite wsX4_sourceAt := goodIn_r _ [27, 28, 12, 13, 14, 77, 78, 79] (by decide +kernel) (by decide +kernel)
set_option maxRecDepth 20000 in
theorem gX5_replaceSite_X4_sourceAt : GoodIn wsX5_replaceSite (wsV RX5 130 RX4 yX4_sourceAt wsX4_sourceAt) := goodIn_app (goodIn_of _ (by decide +kernel)) ggX5_replaceSite_X4_sourceAt
set_option maxRecDepth 20000 in
theorem ggX5_replaceSite_X9_isSource : GoodIn wsX5_replaceSite wsX9_isSource := goodIn_r _ [30, 31, 12, 13, 14] (by decide +kernel) (by decide +kernel)
set_option maxRecDepth 20000 in
theorem gX5_replaceSite_X9_isSource_n133 : GoodIn wsX5_replaceSite (wsX9_isSource) := ggX5_replaceSite_X9_isSource
set_option maxRecDepth 20000 in
theorem ggX5_replaceSite_X6_addNodes : GoodIn wsX5_replaceSite wsX6_addNodes := goodIn_r _ [35, 36, 37, 38, 39, 20, 21, 22, 23, 40, 16, 17, 18, 19, 64, 65, 66, 67] (by decide +kernel) (by decide +kernel)
set_option maxRecDepth 20000 in
theorem gX5_replaceSite_X6_addNodes : GoodIn wsX5_replaceSite (wsV RX5 140 RX6 yX6_addNodes wsX6_addNodes) := goodIn_app (goodIn_of _ (by decide +kernel)) ggX5_replaceSite_X6_addNodes
set_option maxRecDepth 20000 in
theorem ggX5_replaceSite_X4_constantAt : GoodIn wsX5_replaceSite wsX4_constantAt := goodIn_r _ [44, 45, 12, 13, 14, 77, 78, 79] (by decide +kernel) (by decide +kernel)
set_option maxRecDepth 20000 in
theorem gX5_replaceSite_X4_constantAt : GoodIn wsX5_replaceSite (wsV RX5 144 RX4 yX4_constantAt wsX4_constantAt) := goodIn_app (goodIn_of _ (by decide +kernel)) ggX5_replaceSite_X4_constantAt
set_option maxRecDepth 20000 in
theorem ggX5_replaceSite_X6_endOf : GoodIn wsX5_replaceSite wsX6_endOf := goodIn_r _ [49, 20, 23, 12, 13, 14, 64, 65, 66, 67] (by decide +kernel) (by decide +kernel)
set_option maxRecDepth 20000 in
theorem gX5_replaceSite_X6_endOf : GoodIn wsX5_replaceSite (wsV RX5 49 RX6 yX6_endOf wsX6_endOf) := goodIn_app (goodIn_of _ (by decide +kernel)) ggX5_replaceSite_X6_endOf
set_option maxRecDepth 20000 in
theorem ggX5_replaceSite_X6_replace : GoodIn wsX5_replaceSite wsX6_replace := goodIn_r _ [53, 20, 21, 22, 23, 54, 55, 18, 56, 57, 58, 59, 60, 64, 65, 66, 67] (by decide +kernel) (by decide +kernel)
set_option maxRecDepth 20000 in
theorem gX5_replaceSite_X6_replace : GoodIn wsX5_replaceSite (wsV RX5 147 RX6 yX6_replace wsX6_replace) := goodIn_app (goodIn_of _ (by decide +kernel)) ggX5_replaceSite_X6_replace
theorem dX5_replaceSite_0 : decode cX5_replaceSite 0 = .ok (.aload_n 0, 1) := by decide +kernel
theorem dX5_replaceSite_1 : decode cX5_replaceSite 1 = .ok (.getfield 12, 3) := by decide +kernel
theorem dX5_replaceSite_4 : decode cX5_replaceSite 4 = .ok (.iconst 0, 1) := by decide +kernel
theorem dX5_replaceSite_5 : decode cX5_replaceSite 5 = .ok (.putfield 31, 3) := by decide +kernel
theorem dX5_replaceSite_8 : decode cX5_replaceSite 8 = .ok (.aload_n 0, 1) := by decide +kernel
theorem dX5_replaceSite_9 : decode cX5_replaceSite 9 = .ok (.getfield 12, 3) := by decide +kernel
theorem dX5_replaceSite_12 : decode cX5_replaceSite 12 = .ok (.iconst 3, 1) := by decide +kernel
theorem dX5_replaceSite_13 : decode cX5_replaceSite 13 = .ok (.aload_n 1, 1) := by decide +kernel
theorem dX5_replaceSite_14 : decode cX5_replaceSite 14 = .ok (.getfield 86, 3) := by decide +kernel
theorem dX5_replaceSite_17 : decode cX5_replaceSite 17 = .ok (.iload_n 3, 1) := by decide +kernel
theorem dX5_replaceSite_18 : decode cX5_replaceSite 18 = .ok (.invokevirtual 108, 3) := by decide +kernel
theorem dX5_replaceSite_21 : decode cX5_replaceSite 21 = .ok (.iload 4, 2) := by decide +kernel
theorem dX5_replaceSite_23 : decode cX5_replaceSite 23 = .ok (.invokevirtual 136, 3) := by decide +kernel
theorem dX5_replaceSite_26 : decode cX5_replaceSite 26 = .ok (.pop, 1) := by decide +kernel
theorem dX5_replaceSite_27 : decode cX5_replaceSite 27 = .ok (.iconst 0, 1) := by decide +kernel
theorem dX5_replaceSite_28 : decode cX5_replaceSite 28 = .ok (.istore 5, 2) := by decide +kernel
theorem dX5_replaceSite_30 : decode cX5_replaceSite 30 = .ok (.iload 5, 2) := by decide +kernel
theorem dX5_replaceSite_32 : decode cX5_replaceSite 32 = .ok (.iload 4, 2) := by decide +kernel
theorem dX5_replaceSite_34 : decode cX5_replaceSite 34 = .ok (.if_icmp .ge 79, 3) := by decide +kernel
theorem dX5_replaceSite_37 : decode cX5_replaceSite 37 = .ok (.aload_n 1, 1) := by decide +kernel
theorem dX5_replaceSite_38 : decode cX5_replaceSite 38 = .ok (.getfield 86, 3) := by decide +kernel
theorem dX5_replaceSite_41 : decode cX5_replaceSite 41 = .ok (.iload_n 3, 1) := by decide +kernel
theorem dX5_replaceSite_42 : decode cX5_replaceSite 42 = .ok (.iload 5, 2) := by decide +kernel
theorem dX5_replaceSite_44 : decode cX5_replaceSite 44 = .ok (.invokevirtual 130, 3) := by decide +kernel
theorem dX5_replaceSite_47 : decode cX5_replaceSite 47 = .ok (.istore 6, 2) := by decide +kernel
theorem dX5_replaceSite_49 : decode cX5_replaceSite 49 = .ok (.iload 6, 2) := by decide +kernel
theorem dX5_replaceSite_51 : decode cX5_replaceSite 51 = .ok (.invokestatic 133, 3) := by decide +kernel
theorem dX5_replaceSite_54 : decode cX5_replaceSite 54 = .ok (.ifCond .eq 33, 3) := by decide +kernel
theorem dX5_replaceSite_57 : decode cX5_replaceSite 57 = .ok (.aload_n 0, 1) := by decide +kernel
theorem dX5_replaceSite_58 : decode cX5_replaceSite 58 = .ok (.getfield 12, 3) := by decide +kernel
theorem dX5_replaceSite_61 : decode cX5_replaceSite 61 = .ok (.aload_n 1, 1) := by decide +kernel
theorem dX5_replaceSite_62 : decode cX5_replaceSite 62 = .ok (.getfield 26, 3) := by decide +kernel
theorem dX5_replaceSite_65 : decode cX5_replaceSite 65 = .ok (.aload_n 0, 1) := by decide +kernel
theorem dX5_replaceSite_66 : decode cX5_replaceSite 66 = .ok (.getfield 18, 3) := by decide +kernel
theorem dX5_replaceSite_69 : decode cX5_replaceSite 69 = .ok (.iload 6, 2) := by decide +kernel
theorem dX5_replaceSite_71 : decode cX5_replaceSite 71 = .ok (.iaload, 1) := by decide +kernel
theorem dX5_replaceSite_72 : decode cX5_replaceSite 72 = .ok (.aload_n 0, 1) := by decide +kernel
theorem dX5_replaceSite_73 : decode cX5_replaceSite 73 = .ok (.getfield 18, 3) := by decide +kernel
theorem dX5_replaceSite_76 : decode cX5_replaceSite 76 = .ok (.iload 6, 2) := by decide +kernel
theorem dX5_replaceSite_78 : decode cX5_replaceSite 78 = .ok (.iconst 1, 1) := by decide +kernel
theorem dX5_replaceSite_79 : decode cX5_replaceSite 79 = .ok (.iadd, 1) := by decide +kernel
theorem dX5_replaceSite_80 : decode cX5_replaceSite 80 = .ok (.iaload, 1) := by decide +kernel
theorem dX5_replaceSite_81 : decode cX5_replaceSite 81 = .ok (.invokevirtual 140, 3) := by decide +kernel
theorem dX5_replaceSite_84 : decode cX5_replaceSite 84 = .ok (.goto 23, 3) := by decide +kernel
theorem dX5_replaceSite_87 : decode cX5_replaceSite 87 = .ok (.aload_n 0, 1) := by decide +kernel
theorem dX5_replaceSite_88 : decode cX5_replaceSite 88 = .ok (.getfield 12, 3) := by decide +kernel
theorem dX5_replaceSite_91 : decode cX5_replaceSite 91 = .ok (.iconst 0, 1) := by decide +kernel
theorem dX5_replaceSite_92 : decode cX5_replaceSite 92 = .ok (.aload_n 1, 1) := by decide +kernel
theorem dX5_replaceSite_93 : decode cX5_replaceSite 93 = .ok (.getfield 86, 3) := by decide +kernel
theorem dX5_replaceSite_96 : decode cX5_replaceSite 96 = .ok (.iload_n 3, 1) := by decide +kernel
theorem dX5_replaceSite_97 : decode cX5_replaceSite 97 = .ok (.iload 5, 2) := by decide +kernel
theorem dX5_replaceSite_99 : decode cX5_replaceSite 99 = .ok (.invokevirtual 144, 3) := by decide +kernel
theorem dX5_replaceSite_102 : decode cX5_replaceSite 102 = .ok (.iconst 0, 1) := by decide +kernel
theorem dX5_replaceSite_103 : decode cX5_replaceSite 103 = .ok (.invokevirtual 136, 3) := by decide +kernel
theorem dX5_replaceSite_106 : decode cX5_replaceSite 106 = .ok (.pop, 1) := by decide +kernel
theorem dX5_replaceSite_107 : decode cX5_replaceSite 107 = .ok (.iinc 5 1, 3) := by decide +kernel
theorem dX5_replaceSite_110 : decode cX5_replaceSite 110 = .ok (.goto (-80), 3) := by decide +kernel
theorem dX5_replaceSite_113 : decode cX5_replaceSite 113 = .ok (.aload_n 1, 1) := by decide +kernel
theorem dX5_replaceSite_114 : decode cX5_replaceSite 114 = .ok (.getfield 26, 3) := by decide +kernel
theorem dX5_replaceSite_117 : decode cX5_replaceSite 117 = .ok (.iload_n 2, 1) := by decide +kernel
theorem dX5_replaceSite_118 : decode cX5_replaceSite 118 = .ok (.aload_n 1, 1) := by decide +kernel
theorem dX5_replaceSite_119 : decode cX5_replaceSite 119 = .ok (.getfield 26, 3) := by decide +kernel
theorem dX5_replaceSite_122 : decode cX5_replaceSite 122 = .ok (.iload_n 2, 1) := by decide +kernel
theorem dX5_replaceSite_123 : decode cX5_replaceSite 123 = .ok (.invokevirtual 49, 3) := by decide +kernel
theorem dX5_replaceSite_126 : decode cX5_replaceSite 126 = .ok (.aload_n 0, 1) := by decide +kernel
theorem dX5_replaceSite_127 : decode cX5_replaceSite 127 = .ok (.getfield 12, 3) := by decide +kernel
theorem dX5_replaceSite_130 : decode cX5_replaceSite 130 = .ok (.invokevirtual 147, 3) := by decide +kernel
theorem dX5_replaceSite_133 : decode cX5_replaceSite 133 = .ok (.return_, 1) := by decide +kernel
theorem dX6_init_0 : decode cX6_init 0 = .ok (.aload_n 0, 1) := by decide +kernel
theorem dX6_init_1 : decode cX6_init 1 = .ok (.invokespecial 3, 3) := by decide +kernel
theorem dX6_init_4 : decode cX6_init 4 = .ok (.aload_n 0, 1) := by decide +kernel
theorem dX6_init_5 : decode cX6_init 5 = .ok (.iconst 0, 1) := by decide +kernel
theorem dX6_init_6 : decode cX6_init 6 = .ok (.putfield 9, 3) := by decide +kernel
theorem dX6_init_9 : decode cX6_init 9 = .ok (.aload_n 0, 1) := by decide +kernel
theorem dX6_init_10 : decode cX6_init 10 = .ok (.bipush 30, 2) := by decide +kernel
theorem dX6_init_12 : decode cX6_init 12 = .ok (.newarray .int, 2) := by decide +kernel
theorem dX6_init_14 : decode cX6_init 14 = .ok (.putfield 15, 3) := by decide +kernel
theorem dX6_init_17 : decode cX6_init 17 = .ok (.aload_n 0, 1) := by decide +kernel
theorem dX6_init_18 : decode cX6_init 18 = .ok (.bipush 30, 2) := by decide +kernel
theorem dX6_init_20 : decode cX6_init 20 = .ok (.newarray .int, 2) := by decide +kernel
theorem dX6_init_22 : decode cX6_init 22 = .ok (.putfield 19, 3) := by decide +kernel
theorem dX6_init_25 : decode cX6_init 25 = .ok (.aload_n 0, 1) := by decide +kernel
theorem dX6_init_26 : decode cX6_init 26 = .ok (.bipush 30, 2) := by decide +kernel
theorem dX6_init_28 : decode cX6_init 28 = .ok (.newarray .int, 2) := by decide +kernel
theorem dX6_init_30 : decode cX6_init 30 = .ok (.putfield 22, 3) := by decide +kernel
theorem dX6_init_33 : decode cX6_init 33 = .ok (.return_, 1) := by decide +kernel
theorem dX6_add_0 : decode cX6_add 0 = .ok (.aload_n 0, 1) := by decide +kernel
theorem dX6_add_1 : decode cX6_add 1 = .ok (.getfield 9, 3) := by decide +kernel
theorem dX6_add_4 : decode cX6_add 4 = .ok (.bipush 30, 2) := by decide +kernel
theorem dX6_add_6 : decode cX6_add 6 = .ok (.if_icmp .lt 5, 3) := by decide +kernel
theorem dX6_add_9 : decode cX6_add 9 = .ok (.iconst 0, 1) := by decide +kernel
theorem dX6_add_10 : decode cX6_add 10 = .ok (.ireturn, 1) := by decide +kernel
theorem dX6_add_11 : decode cX6_add 11 = .ok (.aload_n 0, 1) := by decide +kernel
theorem dX6_add_12 : decode cX6_add 12 = .ok (.getfield 15, 3) := by decide +kernel
theorem dX6_add_15 : decode cX6_add 15 = .ok (.aload_n 0, 1) := by decide +kernel
theorem dX6_add_16 : decode cX6_add 16 = .ok (.getfield 9, 3) := by decide +kernel
theorem dX6_add_19 : decode cX6_add 19 = .ok (.iload_n 1, 1) := by decide +kernel
theorem dX6_add_20 : decode cX6_add 20 = .ok (.iastore, 1) := by decide +kernel
theorem dX6_add_21 : decode cX6_add 21 = .ok (.aload_n 0, 1) := by decide +kernel
theorem dX6_add_22 : decode cX6_add 22 = .ok (.getfield 19, 3) := by decide +kernel
theorem dX6_add_25 : decode cX6_add 25 = .ok (.aload_n 0, 1) := by decide +kernel
theorem dX6_add_26 : decode cX6_add 26 = .ok (.getfield 9, 3) := by decide +kernel
theorem dX6_add_29 : decode cX6_add 29 = .ok (.iload_n 2, 1) := by decide +kernel
theorem dX6_add_30 : decode cX6_add 30 = .ok (.iastore, 1) := by decide +kernel
theorem dX6_add_31 : decode cX6_add 31 = .ok (.aload_n 0, 1) := by decide +kernel
theorem dX6_add_32 : decode cX6_add 32 = .ok (.getfield 22, 3) := by decide +kernel
theorem dX6_add_35 : decode cX6_add 35 = .ok (.aload_n 0, 1) := by decide +kernel
theorem dX6_add_36 : decode cX6_add 36 = .ok (.getfield 9, 3) := by decide +kernel
theorem dX6_add_39 : decode cX6_add 39 = .ok (.iload_n 3, 1) := by decide +kernel
theorem dX6_add_40 : decode cX6_add 40 = .ok (.iastore, 1) := by decide +kernel
theorem dX6_add_41 : decode cX6_add 41 = .ok (.aload_n 0, 1) := by decide +kernel
theorem dX6_add_42 : decode cX6_add 42 = .ok (.dup, 1) := by decide +kernel
theorem dX6_add_43 : decode cX6_add 43 = .ok (.getfield 9, 3) := by decide +kernel
theorem dX6_add_46 : decode cX6_add 46 = .ok (.iconst 1, 1) := by decide +kernel
theorem dX6_add_47 : decode cX6_add 47 = .ok (.iadd, 1) := by decide +kernel
theorem dX6_add_48 : decode cX6_add 48 = .ok (.putfield 9, 3) := by decide +kernel
theorem dX6_add_51 : decode cX6_add 51 = .ok (.iconst 1, 1) := by decide +kernel
theorem dX6_add_52 : decode cX6_add 52 = .ok (.ireturn, 1) := by decide +kernel
set_option maxRecDepth 20000 in
theorem ggX6_addNodes_X6_add : GoodIn wsX6_addNodes wsX6_add := goodIn_r _ [13, 5, 6, 7, 8, 14, 15, 16, 17] (by decide +kernel) (by decide +kernel)
set_option maxRecDepth 20000 in
theorem gX6_addNodes_X6_add : GoodIn wsX6_addNodes (wsV RX6 31 RX6 yX6_add wsX6_add) := goodIn_app (goodIn_of _ (by decide +kernel)) ggX6_addNodes_X6_add
theorem dX6_addNodes_0 : decode cX6_addNodes 0 = .ok (.iload_n 2, 1) := by decide +kernel
theorem dX6_addNodes_1 : decode cX6_addNodes 1 = .ok (.iconst 0, 1) := by decide +kernel
theorem dX6_addNodes_2 : decode cX6_addNodes 2 = .ok (.invokestatic 25, 3) := by decide +kernel
theorem dX6_addNodes_5 : decode cX6_addNodes 5 = .ok (.istore 4, 2) := by decide +kernel
theorem dX6_addNodes_7 : decode cX6_addNodes 7 = .ok (.iload 4, 2) := by decide +kernel
theorem dX6_addNodes_9 : decode cX6_addNodes 9 = .ok (.iload_n 3, 1) := by decide +kernel
theorem dX6_addNodes_10 : decode cX6_addNodes 10 = .ok (.if_icmp .ge 44, 3) := by decide +kernel
theorem dX6_addNodes_13 : decode cX6_addNodes 13 = .ok (.iload 4, 2) := by decide +kernel
theorem dX6_addNodes_15 : decode cX6_addNodes 15 = .ok (.aload_n 1, 1) := by decide +kernel
theorem dX6_addNodes_16 : decode cX6_addNodes 16 = .ok (.getfield 9, 3) := by decide +kernel
theorem dX6_addNodes_19 : decode cX6_addNodes 19 = .ok (.if_icmp .ge 35, 3) := by decide +kernel
theorem dX6_addNodes_22 : decode cX6_addNodes 22 = .ok (.aload_n 0, 1) := by decide +kernel
theorem dX6_addNodes_23 : decode cX6_addNodes 23 = .ok (.aload_n 1, 1) := by decide +kernel
theorem dX6_addNodes_24 : decode cX6_addNodes 24 = .ok (.getfield 15, 3) := by decide +kernel
theorem dX6_addNodes_27 : decode cX6_addNodes 27 = .ok (.iload 4, 2) := by decide +kernel
theorem dX6_addNodes_29 : decode cX6_addNodes 29 = .ok (.iaload, 1) := by decide +kernel
theorem dX6_addNodes_30 : decode cX6_addNodes 30 = .ok (.aload_n 1, 1) := by decide +kernel
theorem dX6_addNodes_31 : decode cX6_addNodes 31 = .ok (.getfield 19, 3) := by decide +kernel
theorem dX6_addNodes_34 : decode cX6_addNodes 34 = .ok (.iload 4, 2) := by decide +kernel
theorem dX6_addNodes_36 : decode cX6_addNodes 36 = .ok (.iaload, 1) := by decide +kernel
theorem dX6_addNodes_37 : decode cX6_addNodes 37 = .ok (.aload_n 1, 1) := by decide +kernel
theorem dX6_addNodes_38 : decode cX6_addNodes 38 = .ok (.getfield 22, 3) := by decide +kernel
theorem dX6_addNodes_41 : decode cX6_addNodes 41 = .ok (.iload 4, 2) := by decide +kernel
theorem dX6_addNodes_43 : decode cX6_addNodes 43 = .ok (.iaload, 1) := by decide +kernel
theorem dX6_addNodes_44 : decode cX6_addNodes 44 = .ok (.invokevirtual 31, 3) := by decide +kernel
theorem dX6_addNodes_47 : decode cX6_addNodes 47 = .ok (.pop, 1) := by decide +kernel
theorem dX6_addNodes_48 : decode cX6_addNodes 48 = .ok (.iinc 4 1, 3) := by decide +kernel
theorem dX6_addNodes_51 : decode cX6_addNodes 51 = .ok (.goto (-44), 3) := by decide +kernel
theorem dX6_addNodes_54 : decode cX6_addNodes 54 = .ok (.return_, 1) := by decide +kernel
set_option maxRecDepth 20000 in
theorem ggX6_endOf_X9_within : GoodIn wsX6_endOf wsX9_within := goodIn_r _ [5] (by decide +kernel) (by decide +kernel)
set_option maxRecDepth 20000 in
theorem gX6_endOf_X9_within_n35 : GoodIn wsX6_endOf (wsX9_within) := ggX6_endOf_X9_within
theorem dX6_endOf_0 : decode cX6_endOf 0 = .ok (.iconst 1, 1) := by decide +kernel
theorem dX6_endOf_1 : decode cX6_endOf 1 = .ok (.istore_n 2, 1) := by decide +kernel
theorem dX6_endOf_2 : decode cX6_endOf 2 = .ok (.iload_n 1, 1) := by decide +kernel
theorem dX6_endOf_3 : decode cX6_endOf 3 = .ok (.istore_n 3, 1) := by decide +kernel
theorem dX6_endOf_4 : decode cX6_endOf 4 = .ok (.iload_n 2, 1) := by decide +kernel
theorem dX6_endOf_5 : decode cX6_endOf 5 = .ok (.ifCond .le 34, 3) := by decide +kernel
theorem dX6_endOf_8 : decode cX6_endOf 8 = .ok (.iload_n 3, 1) := by decide +kernel
theorem dX6_endOf_9 : decode cX6_endOf 9 = .ok (.iconst 0, 1) := by decide +kernel
theorem dX6_endOf_10 : decode cX6_endOf 10 = .ok (.aload_n 0, 1) := by decide +kernel
theorem dX6_endOf_11 : decode cX6_endOf 11 = .ok (.getfield 9, 3) := by decide +kernel
theorem dX6_endOf_14 : decode cX6_endOf 14 = .ok (.iconst 1, 1) := by decide +kernel
theorem dX6_endOf_15 : decode cX6_endOf 15 = .ok (.isub, 1) := by decide +kernel
theorem dX6_endOf_16 : decode cX6_endOf 16 = .ok (.invokestatic 35, 3) := by decide +kernel
theorem dX6_endOf_19 : decode cX6_endOf 19 = .ok (.ifCond .eq 20, 3) := by decide +kernel
theorem dX6_endOf_22 : decode cX6_endOf 22 = .ok (.iload_n 2, 1) := by decide +kernel
theorem dX6_endOf_23 : decode cX6_endOf 23 = .ok (.aload_n 0, 1) := by decide +kernel
theorem dX6_endOf_24 : decode cX6_endOf 24 = .ok (.getfield 22, 3) := by decide +kernel
theorem dX6_endOf_27 : decode cX6_endOf 27 = .ok (.iload_n 3, 1) := by decide +kernel
theorem dX6_endOf_28 : decode cX6_endOf 28 = .ok (.iaload, 1) := by decide +kernel
theorem dX6_endOf_29 : decode cX6_endOf 29 = .ok (.iconst 1, 1) := by decide +kernel
theorem dX6_endOf_30 : decode cX6_endOf 30 = .ok (.isub, 1) := by decide +kernel
theorem dX6_endOf_31 : decode cX6_endOf 31 = .ok (.iadd, 1) := by decide +kernel
theorem dX6_endOf_32 : decode cX6_endOf 32 = .ok (.istore_n 2, 1) := by decide +kernel
theorem dX6_endOf_33 : decode cX6_endOf 33 = .ok (.iinc 3 1, 3) := by decide +kernel
theorem dX6_endOf_36 : decode cX6_endOf 36 = .ok (.goto (-32), 3) := by decide +kernel
theorem dX6_endOf_39 : decode cX6_endOf 39 = .ok (.iload_n 3, 1) := by decide +kernel
theorem dX6_endOf_40 : decode cX6_endOf 40 = .ok (.ireturn, 1) := by decide +kernel
set_option maxRecDepth 20000 in
theorem ggX6_replace_X6_replaceIn : GoodIn wsX6_replace wsX6_replaceIn := goodIn_r _ [8, 9, 10, 11, 12] (by decide +kernel) (by decide +kernel)
set_option maxRecDepth 20000 in
theorem gX6_replace_X6_replaceIn : GoodIn wsX6_replace (va_wsS RX6 38 yX6_replaceIn wsX6_replaceIn) := goodIn_app (goodIn_of _ (by decide +kernel)) ggX6_replace_X6_replaceIn
theorem dX6_replace_0 : decode cX6_replace 0 = .ok (.aload_n 0, 1) := by decide +kernel
theorem dX6_replace_1 : decode cX6_replace 1 = .ok (.getfield 9, 3) := by decide +kernel
theorem dX6_replace_4 : decode cX6_replace 4 = .ok (.iload_n 2, 1) := by decide +kernel
theorem dX6_replace_5 : decode cX6_replace 5 = .ok (.isub, 1) := by decide +kernel
theorem dX6_replace_6 : decode cX6_replace 6 = .ok (.istore 4, 2) := by decide +kernel
theorem dX6_replace_8 : decode cX6_replace 8 = .ok (.iload_n 1, 1) := by decide +kernel
theorem dX6_replace_9 : decode cX6_replace 9 = .ok (.aload_n 3, 1) := by decide +kernel
theorem dX6_replace_10 : decode cX6_replace 10 = .ok (.getfield 9, 3) := by decide +kernel
theorem dX6_replace_13 : decode cX6_replace 13 = .ok (.iadd, 1) := by decide +kernel
theorem dX6_replace_14 : decode cX6_replace 14 = .ok (.iload 4, 2) := by decide +kernel
theorem dX6_replace_16 : decode cX6_replace 16 = .ok (.iadd, 1) := by decide +kernel
theorem dX6_replace_17 : decode cX6_replace 17 = .ok (.istore 5, 2) := by decide +kernel
theorem dX6_replace_19 : decode cX6_replace 19 = .ok (.iload_n 1, 1) := by decide +kernel
theorem dX6_replace_20 : decode cX6_replace 20 = .ok (.ifCond .lt 20, 3) := by decide +kernel
theorem dX6_replace_23 : decode cX6_replace 23 = .ok (.iload_n 2, 1) := by decide +kernel
theorem dX6_replace_24 : decode cX6_replace 24 = .ok (.iload_n 1, 1) := by decide +kernel
theorem dX6_replace_25 : decode cX6_replace 25 = .ok (.if_icmp .lt 15, 3) := by decide +kernel
theorem dX6_replace_28 : decode cX6_replace 28 = .ok (.iload 4, 2) := by decide +kernel
theorem dX6_replace_30 : decode cX6_replace 30 = .ok (.ifCond .lt 10, 3) := by decide +kernel
theorem dX6_replace_33 : decode cX6_replace 33 = .ok (.iload 5, 2) := by decide +kernel
theorem dX6_replace_35 : decode cX6_replace 35 = .ok (.bipush 30, 2) := by decide +kernel
theorem dX6_replace_37 : decode cX6_replace 37 = .ok (.if_icmp .le 4, 3) := by decide +kernel
theorem dX6_replace_40 : decode cX6_replace 40 = .ok (.return_, 1) := by decide +kernel
theorem dX6_replace_41 : decode cX6_replace 41 = .ok (.aload_n 0, 1) := by decide +kernel
theorem dX6_replace_42 : decode cX6_replace 42 = .ok (.getfield 15, 3) := by decide +kernel
theorem dX6_replace_45 : decode cX6_replace 45 = .ok (.iload_n 2, 1) := by decide +kernel
theorem dX6_replace_46 : decode cX6_replace 46 = .ok (.iload 4, 2) := by decide +kernel
theorem dX6_replace_48 : decode cX6_replace 48 = .ok (.aload_n 3, 1) := by decide +kernel
theorem dX6_replace_49 : decode cX6_replace 49 = .ok (.getfield 15, 3) := by decide +kernel
theorem dX6_replace_52 : decode cX6_replace 52 = .ok (.iload_n 1, 1) := by decide +kernel
theorem dX6_replace_53 : decode cX6_replace 53 = .ok (.aload_n 3, 1) := by decide +kernel
theorem dX6_replace_54 : decode cX6_replace 54 = .ok (.getfield 9, 3) := by decide +kernel
theorem dX6_replace_57 : decode cX6_replace 57 = .ok (.invokestatic 38, 3) := by decide +kernel
theorem dX6_replace_60 : decode cX6_replace 60 = .ok (.aload_n 0, 1) := by decide +kernel
theorem dX6_replace_61 : decode cX6_replace 61 = .ok (.getfield 19, 3) := by decide +kernel
theorem dX6_replace_64 : decode cX6_replace 64 = .ok (.iload_n 2, 1) := by decide +kernel
theorem dX6_replace_65 : decode cX6_replace 65 = .ok (.iload 4, 2) := by decide +kernel
theorem dX6_replace_67 : decode cX6_replace 67 = .ok (.aload_n 3, 1) := by decide +kernel
theorem dX6_replace_68 : decode cX6_replace 68 = .ok (.getfield 19, 3) := by decide +kernel
theorem dX6_replace_71 : decode cX6_replace 71 = .ok (.iload_n 1, 1) := by decide +kernel
theorem dX6_replace_72 : decode cX6_replace 72 = .ok (.aload_n 3, 1) := by decide +kernel
theorem dX6_replace_73 : decode cX6_replace 73 = .ok (.getfield 9, 3) := by decide +kernel
theorem dX6_replace_76 : decode cX6_replace 76 = .ok (.invokestatic 38, 3) := by decide +kernel
theorem dX6_replace_79 : decode cX6_replace 79 = .ok (.aload_n 0, 1) := by decide +kernel
theorem dX6_replace_80 : decode cX6_replace 80 = .ok (.getfield 22, 3) := by decide +kernel
theorem dX6_replace_83 : decode cX6_replace 83 = .ok (.iload_n 2, 1) := by decide +kernel
theorem dX6_replace_84 : decode cX6_replace 84 = .ok (.iload 4, 2) := by decide +kernel
theorem dX6_replace_86 : decode cX6_replace 86 = .ok (.aload_n 3, 1) := by decide +kernel
theorem dX6_replace_87 : decode cX6_replace 87 = .ok (.getfield 22, 3) := by decide +kernel
theorem dX6_replace_90 : decode cX6_replace 90 = .ok (.iload_n 1, 1) := by decide +kernel
theorem dX6_replace_91 : decode cX6_replace 91 = .ok (.aload_n 3, 1) := by decide +kernel
theorem dX6_replace_92 : decode cX6_replace 92 = .ok (.getfield 9, 3) := by decide +kernel
theorem dX6_replace_95 : decode cX6_replace 95 = .ok (.invokestatic 38, 3) := by decide +kernel
theorem dX6_replace_98 : decode cX6_replace 98 = .ok (.aload_n 0, 1) := by decide +kernel
theorem dX6_replace_99 : decode cX6_replace 99 = .ok (.iload 5, 2) := by decide +kernel
theorem dX6_replace_101 : decode cX6_replace 101 = .ok (.putfield 9, 3) := by decide +kernel
theorem dX6_replace_104 : decode cX6_replace 104 = .ok (.return_, 1) := by decide +kernel
theorem dX6_replaceIn_0 : decode cX6_replaceIn 0 = .ok (.aload_n 0, 1) := by decide +kernel
theorem dX6_replaceIn_1 : decode cX6_replaceIn 1 = .ok (.iload_n 1, 1) := by decide +kernel
theorem dX6_replaceIn_2 : decode cX6_replaceIn 2 = .ok (.aload_n 0, 1) := by decide +kernel
theorem dX6_replaceIn_3 : decode cX6_replaceIn 3 = .ok (.iload 4, 2) := by decide +kernel
theorem dX6_replaceIn_5 : decode cX6_replaceIn 5 = .ok (.iload 5, 2) := by decide +kernel
theorem dX6_replaceIn_7 : decode cX6_replaceIn 7 = .ok (.iadd, 1) := by decide +kernel
theorem dX6_replaceIn_8 : decode cX6_replaceIn 8 = .ok (.iload_n 2, 1) := by decide +kernel
theorem dX6_replaceIn_9 : decode cX6_replaceIn 9 = .ok (.invokestatic 42, 3) := by decide +kernel
theorem dX6_replaceIn_12 : decode cX6_replaceIn 12 = .ok (.aload_n 3, 1) := by decide +kernel
theorem dX6_replaceIn_13 : decode cX6_replaceIn 13 = .ok (.iconst 0, 1) := by decide +kernel
theorem dX6_replaceIn_14 : decode cX6_replaceIn 14 = .ok (.aload_n 0, 1) := by decide +kernel
theorem dX6_replaceIn_15 : decode cX6_replaceIn 15 = .ok (.iload 4, 2) := by decide +kernel
theorem dX6_replaceIn_17 : decode cX6_replaceIn 17 = .ok (.iload 5, 2) := by decide +kernel
theorem dX6_replaceIn_19 : decode cX6_replaceIn 19 = .ok (.invokestatic 42, 3) := by decide +kernel
theorem dX6_replaceIn_22 : decode cX6_replaceIn 22 = .ok (.return_, 1) := by decide +kernel
theorem dX6_countSites_0 : decode cX6_countSites 0 = .ok (.iconst 0, 1) := by decide +kernel
theorem dX6_countSites_1 : decode cX6_countSites 1 = .ok (.istore_n 1, 1) := by decide +kernel
theorem dX6_countSites_2 : decode cX6_countSites 2 = .ok (.iconst 0, 1) := by decide +kernel
theorem dX6_countSites_3 : decode cX6_countSites 3 = .ok (.istore_n 2, 1) := by decide +kernel
theorem dX6_countSites_4 : decode cX6_countSites 4 = .ok (.iload_n 2, 1) := by decide +kernel
theorem dX6_countSites_5 : decode cX6_countSites 5 = .ok (.aload_n 0, 1) := by decide +kernel
theorem dX6_countSites_6 : decode cX6_countSites 6 = .ok (.getfield 9, 3) := by decide +kernel
theorem dX6_countSites_9 : decode cX6_countSites 9 = .ok (.if_icmp .ge 22, 3) := by decide +kernel
theorem dX6_countSites_12 : decode cX6_countSites 12 = .ok (.aload_n 0, 1) := by decide +kernel
theorem dX6_countSites_13 : decode cX6_countSites 13 = .ok (.getfield 15, 3) := by decide +kernel
theorem dX6_countSites_16 : decode cX6_countSites 16 = .ok (.iload_n 2, 1) := by decide +kernel
theorem dX6_countSites_17 : decode cX6_countSites 17 = .ok (.iaload, 1) := by decide +kernel
theorem dX6_countSites_18 : decode cX6_countSites 18 = .ok (.iconst 2, 1) := by decide +kernel
theorem dX6_countSites_19 : decode cX6_countSites 19 = .ok (.if_icmp .ne 6, 3) := by decide +kernel
theorem dX6_countSites_22 : decode cX6_countSites 22 = .ok (.iinc 1 1, 3) := by decide +kernel
theorem dX6_countSites_25 : decode cX6_countSites 25 = .ok (.iinc 2 1, 3) := by decide +kernel
theorem dX6_countSites_28 : decode cX6_countSites 28 = .ok (.goto (-24), 3) := by decide +kernel
theorem dX6_countSites_31 : decode cX6_countSites 31 = .ok (.iload_n 1, 1) := by decide +kernel
theorem dX6_countSites_32 : decode cX6_countSites 32 = .ok (.ireturn, 1) := by decide +kernel
set_option maxRecDepth 20000 in
theorem ggX6_copyFrom_X6_addNodes : GoodIn wsX6_copyFrom wsX6_addNodes := goodIn_r _ [6, 7, 8, 9, 10, 1, 11, 12, 13, 14, 15, 16, 5, 17, 18, 19, 20, 21] (by decide +kernel) (by decide +kernel)
set_option maxRecDepth 20000 in
theorem gX6_copyFrom_X6_addNodes : GoodIn wsX6_copyFrom (wsV RX6 48 RX6 yX6_addNodes wsX6_addNodes) := goodIn_app (goodIn_of _ (by decide +kernel)) ggX6_copyFrom_X6_addNodes
theorem dX6_copyFrom_0 : decode cX6_copyFrom 0 = .ok (.aload_n 0, 1) := by decide +kernel
theorem dX6_copyFrom_1 : decode cX6_copyFrom 1 = .ok (.iconst 0, 1) := by decide +kernel
theorem dX6_copyFrom_2 : decode cX6_copyFrom 2 = .ok (.putfield 9, 3) := by decide +kernel
theorem dX6_copyFrom_5 : decode cX6_copyFrom 5 = .ok (.aload_n 0, 1) := by decide +kernel
theorem dX6_copyFrom_6 : decode cX6_copyFrom 6 = .ok (.aload_n 1, 1) := by decide +kernel
theorem dX6_copyFrom_7 : decode cX6_copyFrom 7 = .ok (.iconst 0, 1) := by decide +kernel
theorem dX6_copyFrom_8 : decode cX6_copyFrom 8 = .ok (.aload_n 1, 1) := by decide +kernel
theorem dX6_copyFrom_9 : decode cX6_copyFrom 9 = .ok (.getfield 9, 3) := by decide +kernel
theorem dX6_copyFrom_12 : decode cX6_copyFrom 12 = .ok (.invokevirtual 48, 3) := by decide +kernel
theorem dX6_copyFrom_15 : decode cX6_copyFrom 15 = .ok (.return_, 1) := by decide +kernel
theorem dX7_init_0 : decode cX7_init 0 = .ok (.aload_n 0, 1) := by decide +kernel
theorem dX7_init_1 : decode cX7_init 1 = .ok (.invokespecial 3, 3) := by decide +kernel
theorem dX7_init_4 : decode cX7_init 4 = .ok (.aload_n 0, 1) := by decide +kernel
theorem dX7_init_5 : decode cX7_init 5 = .ok (.bipush 120, 2) := by decide +kernel
theorem dX7_init_7 : decode cX7_init 7 = .ok (.newarray .int, 2) := by decide +kernel
theorem dX7_init_9 : decode cX7_init 9 = .ok (.putfield 11, 3) := by decide +kernel
theorem dX7_init_12 : decode cX7_init 12 = .ok (.aload_n 0, 1) := by decide +kernel
theorem dX7_init_13 : decode cX7_init 13 = .ok (.iconst 0, 1) := by decide +kernel
theorem dX7_init_14 : decode cX7_init 14 = .ok (.putfield 15, 3) := by decide +kernel
theorem dX7_init_17 : decode cX7_init 17 = .ok (.aload_n 0, 1) := by decide +kernel
theorem dX7_init_18 : decode cX7_init 18 = .ok (.bipush 30, 2) := by decide +kernel
theorem dX7_init_20 : decode cX7_init 20 = .ok (.newarray .int, 2) := by decide +kernel
theorem dX7_init_22 : decode cX7_init 22 = .ok (.putfield 19, 3) := by decide +kernel
theorem dX7_init_25 : decode cX7_init 25 = .ok (.aload_n 0, 1) := by decide +kernel
theorem dX7_init_26 : decode cX7_init 26 = .ok (.iconst 0, 1) := by decide +kernel
theorem dX7_init_27 : decode cX7_init 27 = .ok (.putfield 22, 3) := by decide +kernel
theorem dX7_init_30 : decode cX7_init 30 = .ok (.return_, 1) := by decide +kernel
set_option maxRecDepth 20000 in
theorem ggX7_write_X9_isCall : GoodIn wsX7_write wsX9_isCall := goodIn_r _ [9] (by decide +kernel) (by decide +kernel)
set_option maxRecDepth 20000 in
theorem gX7_write_X9_isCall_n33 : GoodIn wsX7_write (wsX9_isCall) := ggX7_write_X9_isCall
set_option maxRecDepth 20000 in
theorem ggX7_write_X7_openCall : GoodIn wsX7_write wsX7_openCall := goodIn_r _ [14, 2, 15, 16, 17, 13, 18, 19, 20, 21, 22, 1, 23, 24, 25, 26, 27, 32, 33, 34, 35] (by decide +kernel) (by decide +kernel)
set_option maxRecDepth 20000 in
theorem gX7_write_X7_openCall : GoodIn wsX7_write (wsV RX7 43 RX7 yX7_openCall wsX7_openCall) := goodIn_app (goodIn_of _ (by decide +kernel)) ggX7_write_X7_openCall
set_option maxRecDepth 20000 in
theorem ggX7_write_X7_writeLeaf : GoodIn wsX7_write wsX7_writeLeaf := goodIn_r _ [31, 19, 20, 21, 13, 22, 1, 23, 32, 33, 34, 35] (by decide +kernel) (by decide +kernel)
set_option maxRecDepth 20000 in
theorem gX7_write_X7_writeLeaf : GoodIn wsX7_write (wsV RX7 47 RX7 yX7_writeLeaf wsX7_writeLeaf) := goodIn_app (goodIn_of _ (by decide +kernel)) ggX7_write_X7_writeLeaf
set_option maxRecDepth 20000 in
theorem ggX7_write_X7_finishArgument : GoodIn wsX7_write wsX7_finishArgument := goodIn_r _ [27, 2, 15, 19, 20, 21, 13, 22, 1, 23, 32, 33, 34, 35] (by decide +kernel) (by decide +kernel)
set_option maxRecDepth 20000 in
theorem gX7_write_X7_finishArgument : GoodIn wsX7_write (wsV RX7 51 RX7 yX7_finishArgument wsX7_finishArgument) := goodIn_app (goodIn_of _ (by decide +kernel)) ggX7_write_X7_finishArgument
theorem dX7_write_0 : decode cX7_write 0 = .ok (.aload_n 0, 1) := by decide +kernel
theorem dX7_write_1 : decode cX7_write 1 = .ok (.iconst 0, 1) := by decide +kernel
theorem dX7_write_2 : decode cX7_write 2 = .ok (.putfield 15, 3) := by decide +kernel
theorem dX7_write_5 : decode cX7_write 5 = .ok (.aload_n 0, 1) := by decide +kernel
theorem dX7_write_6 : decode cX7_write 6 = .ok (.iconst 0, 1) := by decide +kernel
theorem dX7_write_7 : decode cX7_write 7 = .ok (.putfield 22, 3) := by decide +kernel
theorem dX7_write_10 : decode cX7_write 10 = .ok (.iconst 0, 1) := by decide +kernel
theorem dX7_write_11 : decode cX7_write 11 = .ok (.istore_n 2, 1) := by decide +kernel
theorem dX7_write_12 : decode cX7_write 12 = .ok (.iload_n 2, 1) := by decide +kernel
theorem dX7_write_13 : decode cX7_write 13 = .ok (.aload_n 1, 1) := by decide +kernel
theorem dX7_write_14 : decode cX7_write 14 = .ok (.getfield 25, 3) := by decide +kernel
theorem dX7_write_17 : decode cX7_write 17 = .ok (.if_icmp .ge 66, 3) := by decide +kernel
theorem dX7_write_20 : decode cX7_write 20 = .ok (.aload_n 1, 1) := by decide +kernel
theorem dX7_write_21 : decode cX7_write 21 = .ok (.getfield 30, 3) := by decide +kernel
theorem dX7_write_24 : decode cX7_write 24 = .ok (.iload_n 2, 1) := by decide +kernel
theorem dX7_write_25 : decode cX7_write 25 = .ok (.iaload, 1) := by decide +kernel
theorem dX7_write_26 : decode cX7_write 26 = .ok (.invokestatic 33, 3) := by decide +kernel
theorem dX7_write_29 : decode cX7_write 29 = .ok (.ifCond .eq 28, 3) := by decide +kernel
theorem dX7_write_32 : decode cX7_write 32 = .ok (.aload_n 0, 1) := by decide +kernel
theorem dX7_write_33 : decode cX7_write 33 = .ok (.aload_n 1, 1) := by decide +kernel
theorem dX7_write_34 : decode cX7_write 34 = .ok (.getfield 30, 3) := by decide +kernel
theorem dX7_write_37 : decode cX7_write 37 = .ok (.iload_n 2, 1) := by decide +kernel
theorem dX7_write_38 : decode cX7_write 38 = .ok (.iaload, 1) := by decide +kernel
theorem dX7_write_39 : decode cX7_write 39 = .ok (.aload_n 1, 1) := by decide +kernel
theorem dX7_write_40 : decode cX7_write 40 = .ok (.getfield 37, 3) := by decide +kernel
theorem dX7_write_43 : decode cX7_write 43 = .ok (.iload_n 2, 1) := by decide +kernel
theorem dX7_write_44 : decode cX7_write 44 = .ok (.iaload, 1) := by decide +kernel
theorem dX7_write_45 : decode cX7_write 45 = .ok (.aload_n 1, 1) := by decide +kernel
theorem dX7_write_46 : decode cX7_write 46 = .ok (.getfield 40, 3) := by decide +kernel
theorem dX7_write_49 : decode cX7_write 49 = .ok (.iload_n 2, 1) := by decide +kernel
theorem dX7_write_50 : decode cX7_write 50 = .ok (.iaload, 1) := by decide +kernel
theorem dX7_write_51 : decode cX7_write 51 = .ok (.invokevirtual 43, 3) := by decide +kernel
theorem dX7_write_54 : decode cX7_write 54 = .ok (.goto 23, 3) := by decide +kernel
theorem dX7_write_57 : decode cX7_write 57 = .ok (.aload_n 0, 1) := by decide +kernel
theorem dX7_write_58 : decode cX7_write 58 = .ok (.aload_n 1, 1) := by decide +kernel
theorem dX7_write_59 : decode cX7_write 59 = .ok (.getfield 30, 3) := by decide +kernel
theorem dX7_write_62 : decode cX7_write 62 = .ok (.iload_n 2, 1) := by decide +kernel
theorem dX7_write_63 : decode cX7_write 63 = .ok (.iaload, 1) := by decide +kernel
theorem dX7_write_64 : decode cX7_write 64 = .ok (.aload_n 1, 1) := by decide +kernel
theorem dX7_write_65 : decode cX7_write 65 = .ok (.getfield 37, 3) := by decide +kernel
theorem dX7_write_68 : decode cX7_write 68 = .ok (.iload_n 2, 1) := by decide +kernel
theorem dX7_write_69 : decode cX7_write 69 = .ok (.iaload, 1) := by decide +kernel
theorem dX7_write_70 : decode cX7_write 70 = .ok (.invokevirtual 47, 3) := by decide +kernel
theorem dX7_write_73 : decode cX7_write 73 = .ok (.aload_n 0, 1) := by decide +kernel
theorem dX7_write_74 : decode cX7_write 74 = .ok (.invokevirtual 51, 3) := by decide +kernel
theorem dX7_write_77 : decode cX7_write 77 = .ok (.iinc 2 1, 3) := by decide +kernel
theorem dX7_write_80 : decode cX7_write 80 = .ok (.goto (-68), 3) := by decide +kernel
theorem dX7_write_83 : decode cX7_write 83 = .ok (.return_, 1) := by decide +kernel
set_option maxRecDepth 20000 in
theorem ggX7_writeLeaf_X7_put : GoodIn wsX7_writeLeaf wsX7_put := goodIn_r _ [5, 6, 7, 8, 9, 10, 11] (by decide +kernel) (by decide +kernel)
set_option maxRecDepth 20000 in
theorem gX7_writeLeaf_X7_put : GoodIn wsX7_writeLeaf (wsV RX7 54 RX7 yX7_put wsX7_put) := goodIn_app (goodIn_of _ (by decide +kernel)) ggX7_writeLeaf_X7_put
theorem dX7_writeLeaf_0 : decode cX7_writeLeaf 0 = .ok (.iload_n 1, 1) := by decide +kernel
theorem dX7_writeLeaf_1 : decode cX7_writeLeaf 1 = .ok (.iconst 1, 1) := by decide +kernel
theorem dX7_writeLeaf_2 : decode cX7_writeLeaf 2 = .ok (.if_icmp .ne 12, 3) := by decide +kernel
theorem dX7_writeLeaf_5 : decode cX7_writeLeaf 5 = .ok (.aload_n 0, 1) := by decide +kernel
theorem dX7_writeLeaf_6 : decode cX7_writeLeaf 6 = .ok (.bipush 120, 2) := by decide +kernel
theorem dX7_writeLeaf_8 : decode cX7_writeLeaf 8 = .ok (.iload_n 2, 1) := by decide +kernel
theorem dX7_writeLeaf_9 : decode cX7_writeLeaf 9 = .ok (.iadd, 1) := by decide +kernel
theorem dX7_writeLeaf_10 : decode cX7_writeLeaf 10 = .ok (.invokevirtual 54, 3) := by decide +kernel
theorem dX7_writeLeaf_13 : decode cX7_writeLeaf 13 = .ok (.return_, 1) := by decide +kernel
theorem dX7_writeLeaf_14 : decode cX7_writeLeaf 14 = .ok (.iload_n 2, 1) := by decide +kernel
theorem dX7_writeLeaf_15 : decode cX7_writeLeaf 15 = .ok (.bipush 10, 2) := by decide +kernel
theorem dX7_writeLeaf_17 : decode cX7_writeLeaf 17 = .ok (.if_icmp .lt 14, 3) := by decide +kernel
theorem dX7_writeLeaf_20 : decode cX7_writeLeaf 20 = .ok (.aload_n 0, 1) := by decide +kernel
theorem dX7_writeLeaf_21 : decode cX7_writeLeaf 21 = .ok (.bipush 48, 2) := by decide +kernel
theorem dX7_writeLeaf_23 : decode cX7_writeLeaf 23 = .ok (.iload_n 2, 1) := by decide +kernel
theorem dX7_writeLeaf_24 : decode cX7_writeLeaf 24 = .ok (.bipush 10, 2) := by decide +kernel
theorem dX7_writeLeaf_26 : decode cX7_writeLeaf 26 = .ok (.idiv, 1) := by decide +kernel
theorem dX7_writeLeaf_27 : decode cX7_writeLeaf 27 = .ok (.iadd, 1) := by decide +kernel
theorem dX7_writeLeaf_28 : decode cX7_writeLeaf 28 = .ok (.invokevirtual 54, 3) := by decide +kernel
theorem dX7_writeLeaf_31 : decode cX7_writeLeaf 31 = .ok (.aload_n 0, 1) := by decide +kernel
theorem dX7_writeLeaf_32 : decode cX7_writeLeaf 32 = .ok (.bipush 48, 2) := by decide +kernel
theorem dX7_writeLeaf_34 : decode cX7_writeLeaf 34 = .ok (.iload_n 2, 1) := by decide +kernel
theorem dX7_writeLeaf_35 : decode cX7_writeLeaf 35 = .ok (.bipush 10, 2) := by decide +kernel
theorem dX7_writeLeaf_37 : decode cX7_writeLeaf 37 = .ok (.irem, 1) := by decide +kernel
theorem dX7_writeLeaf_38 : decode cX7_writeLeaf 38 = .ok (.iadd, 1) := by decide +kernel
theorem dX7_writeLeaf_39 : decode cX7_writeLeaf 39 = .ok (.invokevirtual 54, 3) := by decide +kernel
theorem dX7_writeLeaf_42 : decode cX7_writeLeaf 42 = .ok (.return_, 1) := by decide +kernel
set_option maxRecDepth 20000 in
theorem ggX7_openCall_X7_firstLetterOf : GoodIn wsX7_openCall wsX7_firstLetterOf := goodIn_r _ [6] (by decide +kernel) (by decide +kernel)
set_option maxRecDepth 20000 in
theorem gX7_openCall_X7_firstLetterOf : GoodIn wsX7_openCall (va_wsS RX7 58 yX7_firstLetterOf wsX7_firstLetterOf) := goodIn_app (goodIn_of _ (by decide +kernel)) ggX7_openCall_X7_firstLetterOf
set_option maxRecDepth 20000 in
theorem ggX7_openCall_X7_put : GoodIn wsX7_openCall wsX7_put := goodIn_r _ [10, 11, 12, 17, 18, 19, 20] (by decide +kernel) (by decide +kernel)
set_option maxRecDepth 20000 in
theorem gX7_openCall_X7_put : GoodIn wsX7_openCall (wsV RX7 54 RX7 yX7_put wsX7_put) := goodIn_app (goodIn_of _ (by decide +kernel)) ggX7_openCall_X7_put
set_option maxRecDepth 20000 in
theorem ggX7_openCall_X7_finishArgument : GoodIn wsX7_openCall wsX7_finishArgument := goodIn_r _ [16, 1, 2, 7, 8, 9, 5, 10, 11, 12, 17, 18, 19, 20] (by decide +kernel) (by decide +kernel)
set_option maxRecDepth 20000 in
theorem gX7_openCall_X7_finishArgument : GoodIn wsX7_openCall (wsV RX7 51 RX7 yX7_finishArgument wsX7_finishArgument) := goodIn_app (goodIn_of _ (by decide +kernel)) ggX7_openCall_X7_finishArgument
theorem dX7_openCall_0 : decode cX7_openCall 0 = .ok (.aload_n 0, 1) := by decide +kernel
theorem dX7_openCall_1 : decode cX7_openCall 1 = .ok (.iload_n 1, 1) := by decide +kernel
theorem dX7_openCall_2 : decode cX7_openCall 2 = .ok (.invokestatic 58, 3) := by decide +kernel
theorem dX7_openCall_5 : decode cX7_openCall 5 = .ok (.iload_n 2, 1) := by decide +kernel
theorem dX7_openCall_6 : decode cX7_openCall 6 = .ok (.iadd, 1) := by decide +kernel
theorem dX7_openCall_7 : decode cX7_openCall 7 = .ok (.invokevirtual 54, 3) := by decide +kernel
theorem dX7_openCall_10 : decode cX7_openCall 10 = .ok (.aload_n 0, 1) := by decide +kernel
theorem dX7_openCall_11 : decode cX7_openCall 11 = .ok (.bipush 40, 2) := by decide +kernel
theorem dX7_openCall_13 : decode cX7_openCall 13 = .ok (.invokevirtual 54, 3) := by decide +kernel
theorem dX7_openCall_16 : decode cX7_openCall 16 = .ok (.iload_n 3, 1) := by decide +kernel
theorem dX7_openCall_17 : decode cX7_openCall 17 = .ok (.ifCond .ne 16, 3) := by decide +kernel
theorem dX7_openCall_20 : decode cX7_openCall 20 = .ok (.aload_n 0, 1) := by decide +kernel
theorem dX7_openCall_21 : decode cX7_openCall 21 = .ok (.bipush 41, 2) := by decide +kernel
theorem dX7_openCall_23 : decode cX7_openCall 23 = .ok (.invokevirtual 54, 3) := by decide +kernel
theorem dX7_openCall_26 : decode cX7_openCall 26 = .ok (.aload_n 0, 1) := by decide +kernel
theorem dX7_openCall_27 : decode cX7_openCall 27 = .ok (.invokevirtual 51, 3) := by decide +kernel
theorem dX7_openCall_30 : decode cX7_openCall 30 = .ok (.goto 32, 3) := by decide +kernel
theorem dX7_openCall_33 : decode cX7_openCall 33 = .ok (.aload_n 0, 1) := by decide +kernel
theorem dX7_openCall_34 : decode cX7_openCall 34 = .ok (.getfield 22, 3) := by decide +kernel
theorem dX7_openCall_37 : decode cX7_openCall 37 = .ok (.bipush 30, 2) := by decide +kernel
theorem dX7_openCall_39 : decode cX7_openCall 39 = .ok (.if_icmp .ge 23, 3) := by decide +kernel
theorem dX7_openCall_42 : decode cX7_openCall 42 = .ok (.aload_n 0, 1) := by decide +kernel
theorem dX7_openCall_43 : decode cX7_openCall 43 = .ok (.getfield 19, 3) := by decide +kernel
theorem dX7_openCall_46 : decode cX7_openCall 46 = .ok (.aload_n 0, 1) := by decide +kernel
theorem dX7_openCall_47 : decode cX7_openCall 47 = .ok (.getfield 22, 3) := by decide +kernel
theorem dX7_openCall_50 : decode cX7_openCall 50 = .ok (.iload_n 3, 1) := by decide +kernel
theorem dX7_openCall_51 : decode cX7_openCall 51 = .ok (.iastore, 1) := by decide +kernel
theorem dX7_openCall_52 : decode cX7_openCall 52 = .ok (.aload_n 0, 1) := by decide +kernel
theorem dX7_openCall_53 : decode cX7_openCall 53 = .ok (.dup, 1) := by decide +kernel
theorem dX7_openCall_54 : decode cX7_openCall 54 = .ok (.getfield 22, 3) := by decide +kernel
theorem dX7_openCall_57 : decode cX7_openCall 57 = .ok (.iconst 1, 1) := by decide +kernel
theorem dX7_openCall_58 : decode cX7_openCall 58 = .ok (.iadd, 1) := by decide +kernel
theorem dX7_openCall_59 : decode cX7_openCall 59 = .ok (.putfield 22, 3) := by decide +kernel
theorem dX7_openCall_62 : decode cX7_openCall 62 = .ok (.return_, 1) := by decide +kernel
theorem dX7_firstLetterOf_0 : decode cX7_firstLetterOf 0 = .ok (.iload_n 0, 1) := by decide +kernel
theorem dX7_firstLetterOf_1 : decode cX7_firstLetterOf 1 = .ok (.iconst 2, 1) := by decide +kernel
theorem dX7_firstLetterOf_2 : decode cX7_firstLetterOf 2 = .ok (.if_icmp .ne 6, 3) := by decide +kernel
theorem dX7_firstLetterOf_5 : decode cX7_firstLetterOf 5 = .ok (.bipush 97, 2) := by decide +kernel
theorem dX7_firstLetterOf_7 : decode cX7_firstLetterOf 7 = .ok (.ireturn, 1) := by decide +kernel
theorem dX7_firstLetterOf_8 : decode cX7_firstLetterOf 8 = .ok (.iload_n 0, 1) := by decide +kernel
theorem dX7_firstLetterOf_9 : decode cX7_firstLetterOf 9 = .ok (.iconst 3, 1) := by decide +kernel
theorem dX7_firstLetterOf_10 : decode cX7_firstLetterOf 10 = .ok (.if_icmp .ne 8, 3) := by decide +kernel
theorem dX7_firstLetterOf_13 : decode cX7_firstLetterOf 13 = .ok (.bipush 65, 2) := by decide +kernel
theorem dX7_firstLetterOf_15 : decode cX7_firstLetterOf 15 = .ok (.goto 5, 3) := by decide +kernel
theorem dX7_firstLetterOf_18 : decode cX7_firstLetterOf 18 = .ok (.bipush 112, 2) := by decide +kernel
theorem dX7_firstLetterOf_20 : decode cX7_firstLetterOf 20 = .ok (.ireturn, 1) := by decide +kernel
set_option maxRecDepth 20000 in
theorem ggX7_finishArgument_X7_put : GoodIn wsX7_finishArgument wsX7_put := goodIn_r _ [7, 8, 9, 10, 11, 12, 13] (by decide +kernel) (by decide +kernel)
set_option maxRecDepth 20000 in
theorem gX7_finishArgument_X7_put : GoodIn wsX7_finishArgument (wsV RX7 54 RX7 yX7_put wsX7_put) := goodIn_app (goodIn_of _ (by decide +kernel)) ggX7_finishArgument_X7_put
theorem dX7_finishArgument_0 : decode cX7_finishArgument 0 = .ok (.aload_n 0, 1) := by decide +kernel
theorem dX7_finishArgument_1 : decode cX7_finishArgument 1 = .ok (.getfield 22, 3) := by decide +kernel
theorem dX7_finishArgument_4 : decode cX7_finishArgument 4 = .ok (.ifCond .le 58, 3) := by decide +kernel
theorem dX7_finishArgument_7 : decode cX7_finishArgument 7 = .ok (.aload_n 0, 1) := by decide +kernel
theorem dX7_finishArgument_8 : decode cX7_finishArgument 8 = .ok (.getfield 19, 3) := by decide +kernel
theorem dX7_finishArgument_11 : decode cX7_finishArgument 11 = .ok (.aload_n 0, 1) := by decide +kernel
theorem dX7_finishArgument_12 : decode cX7_finishArgument 12 = .ok (.getfield 22, 3) := by decide +kernel
theorem dX7_finishArgument_15 : decode cX7_finishArgument 15 = .ok (.iconst 1, 1) := by decide +kernel
theorem dX7_finishArgument_16 : decode cX7_finishArgument 16 = .ok (.isub, 1) := by decide +kernel
theorem dX7_finishArgument_17 : decode cX7_finishArgument 17 = .ok (.dup2, 1) := by decide +kernel
theorem dX7_finishArgument_18 : decode cX7_finishArgument 18 = .ok (.iaload, 1) := by decide +kernel
theorem dX7_finishArgument_19 : decode cX7_finishArgument 19 = .ok (.iconst 1, 1) := by decide +kernel
theorem dX7_finishArgument_20 : decode cX7_finishArgument 20 = .ok (.isub, 1) := by decide +kernel
theorem dX7_finishArgument_21 : decode cX7_finishArgument 21 = .ok (.iastore, 1) := by decide +kernel
theorem dX7_finishArgument_22 : decode cX7_finishArgument 22 = .ok (.aload_n 0, 1) := by decide +kernel
theorem dX7_finishArgument_23 : decode cX7_finishArgument 23 = .ok (.getfield 19, 3) := by decide +kernel
theorem dX7_finishArgument_26 : decode cX7_finishArgument 26 = .ok (.aload_n 0, 1) := by decide +kernel
theorem dX7_finishArgument_27 : decode cX7_finishArgument 27 = .ok (.getfield 22, 3) := by decide +kernel
theorem dX7_finishArgument_30 : decode cX7_finishArgument 30 = .ok (.iconst 1, 1) := by decide +kernel
theorem dX7_finishArgument_31 : decode cX7_finishArgument 31 = .ok (.isub, 1) := by decide +kernel
theorem dX7_finishArgument_32 : decode cX7_finishArgument 32 = .ok (.iaload, 1) := by decide +kernel
theorem dX7_finishArgument_33 : decode cX7_finishArgument 33 = .ok (.ifCond .le 10, 3) := by decide +kernel
theorem dX7_finishArgument_36 : decode cX7_finishArgument 36 = .ok (.aload_n 0, 1) := by decide +kernel
theorem dX7_finishArgument_37 : decode cX7_finishArgument 37 = .ok (.bipush 44, 2) := by decide +kernel
theorem dX7_finishArgument_39 : decode cX7_finishArgument 39 = .ok (.invokevirtual 54, 3) := by decide +kernel
theorem dX7_finishArgument_42 : decode cX7_finishArgument 42 = .ok (.return_, 1) := by decide +kernel
theorem dX7_finishArgument_43 : decode cX7_finishArgument 43 = .ok (.aload_n 0, 1) := by decide +kernel
theorem dX7_finishArgument_44 : decode cX7_finishArgument 44 = .ok (.bipush 41, 2) := by decide +kernel
theorem dX7_finishArgument_46 : decode cX7_finishArgument 46 = .ok (.invokevirtual 54, 3) := by decide +kernel
theorem dX7_finishArgument_49 : decode cX7_finishArgument 49 = .ok (.aload_n 0, 1) := by decide +kernel
theorem dX7_finishArgument_50 : decode cX7_finishArgument 50 = .ok (.dup, 1) := by decide +kernel
theorem dX7_finishArgument_51 : decode cX7_finishArgument 51 = .ok (.getfield 22, 3) := by decide +kernel
theorem dX7_finishArgument_54 : decode cX7_finishArgument 54 = .ok (.iconst 1, 1) := by decide +kernel
theorem dX7_finishArgument_55 : decode cX7_finishArgument 55 = .ok (.isub, 1) := by decide +kernel
theorem dX7_finishArgument_56 : decode cX7_finishArgument 56 = .ok (.putfield 22, 3) := by decide +kernel
theorem dX7_finishArgument_59 : decode cX7_finishArgument 59 = .ok (.goto (-59), 3) := by decide +kernel
theorem dX7_finishArgument_62 : decode cX7_finishArgument 62 = .ok (.return_, 1) := by decide +kernel
theorem dX7_put_0 : decode cX7_put 0 = .ok (.aload_n 0, 1) := by decide +kernel
theorem dX7_put_1 : decode cX7_put 1 = .ok (.getfield 15, 3) := by decide +kernel
theorem dX7_put_4 : decode cX7_put 4 = .ok (.bipush 120, 2) := by decide +kernel
theorem dX7_put_6 : decode cX7_put 6 = .ok (.if_icmp .ge 23, 3) := by decide +kernel
theorem dX7_put_9 : decode cX7_put 9 = .ok (.aload_n 0, 1) := by decide +kernel
theorem dX7_put_10 : decode cX7_put 10 = .ok (.getfield 11, 3) := by decide +kernel
theorem dX7_put_13 : decode cX7_put 13 = .ok (.aload_n 0, 1) := by decide +kernel
theorem dX7_put_14 : decode cX7_put 14 = .ok (.getfield 15, 3) := by decide +kernel
theorem dX7_put_17 : decode cX7_put 17 = .ok (.iload_n 1, 1) := by decide +kernel
theorem dX7_put_18 : decode cX7_put 18 = .ok (.iastore, 1) := by decide +kernel
theorem dX7_put_19 : decode cX7_put 19 = .ok (.aload_n 0, 1) := by decide +kernel
theorem dX7_put_20 : decode cX7_put 20 = .ok (.dup, 1) := by decide +kernel
theorem dX7_put_21 : decode cX7_put 21 = .ok (.getfield 15, 3) := by decide +kernel
theorem dX7_put_24 : decode cX7_put 24 = .ok (.iconst 1, 1) := by decide +kernel
theorem dX7_put_25 : decode cX7_put 25 = .ok (.iadd, 1) := by decide +kernel
theorem dX7_put_26 : decode cX7_put 26 = .ok (.putfield 15, 3) := by decide +kernel
theorem dX7_put_29 : decode cX7_put 29 = .ok (.return_, 1) := by decide +kernel
set_option maxRecDepth 20000 in
theorem ggX8_init_X1_init : GoodIn wsX8_init wsX1_init := goodIn_r _ [25, 26, 2, 3, 27, 28, 29, 30, 31, 11, 32, 33, 34, 35, 36, 37, 38, 59, 60, 61, 62] (by decide +kernel) (by decide +kernel)
set_option maxRecDepth 20000 in
theorem gX8_init_X1_init : GoodIn wsX8_init (wsX1_init) := ggX8_init_X1_init
set_option maxRecDepth 20000 in
theorem ggX8_init_X4_init : GoodIn wsX8_init wsX4_init := goodIn_r _ [41, 42, 2, 3, 11, 43, 44, 45, 46, 36, 37, 38, 72, 73, 74] (by decide +kernel) (by decide +kernel)
set_option maxRecDepth 20000 in
theorem gX8_init_X4_init : GoodIn wsX8_init (wsX4_init) := ggX8_init_X4_init
set_option maxRecDepth 20000 in
theorem ggX8_init_X6_init : GoodIn wsX8_init wsX6_init := goodIn_r _ [48, 49, 2, 3, 50, 11, 51, 52, 53, 75, 76, 77, 78] (by decide +kernel) (by decide +kernel)
set_option maxRecDepth 20000 in
theorem gX8_init_X6_init_n46 : GoodIn wsX8_init (wsX6_init) := ggX8_init_X6_init
set_option maxRecDepth 20000 in
theorem ggX8_init_J7_fill_53178 : GoodIn wsX8_init wsJ7_fill_53178 := goodIn_r _ [38] (by decide +kernel) (by decide +kernel)
set_option maxRecDepth 20000 in
theorem gX8_init_J7_fill_53178 : GoodIn wsX8_init (va_wsS RX8 54 yJ7_fill_53178 wsJ7_fill_53178) := goodIn_app (goodIn_of _ (by decide +kernel)) ggX8_init_J7_fill_53178
set_option maxRecDepth 20000 in
theorem ggX8_init_X6_add : GoodIn wsX8_init wsX6_add := goodIn_r _ [58, 50, 51, 52, 53, 75, 76, 77, 78] (by decide +kernel) (by decide +kernel)
set_option maxRecDepth 20000 in
theorem gX8_init_X6_add : GoodIn wsX8_init (wsV RX8 60 RX6 yX6_add wsX6_add) := goodIn_app (goodIn_of _ (by decide +kernel)) ggX8_init_X6_add
theorem dX8_init_0 : decode cX8_init 0 = .ok (.aload_n 0, 1) := by decide +kernel
theorem dX8_init_1 : decode cX8_init 1 = .ok (.invokespecial 3, 3) := by decide +kernel
theorem dX8_init_4 : decode cX8_init 4 = .ok (.aload_n 0, 1) := by decide +kernel
theorem dX8_init_5 : decode cX8_init 5 = .ok (.new 9, 3) := by decide +kernel
theorem dX8_init_8 : decode cX8_init 8 = .ok (.dup, 1) := by decide +kernel
theorem dX8_init_9 : decode cX8_init 9 = .ok (.bipush 6, 2) := by decide +kernel
theorem dX8_init_11 : decode cX8_init 11 = .ok (.invokespecial 11, 3) := by decide +kernel
theorem dX8_init_14 : decode cX8_init 14 = .ok (.putfield 14, 3) := by decide +kernel
theorem dX8_init_17 : decode cX8_init 17 = .ok (.aload_n 0, 1) := by decide +kernel
theorem dX8_init_18 : decode cX8_init 18 = .ok (.new 9, 3) := by decide +kernel
theorem dX8_init_21 : decode cX8_init 21 = .ok (.dup, 1) := by decide +kernel
theorem dX8_init_22 : decode cX8_init 22 = .ok (.bipush 6, 2) := by decide +kernel
theorem dX8_init_24 : decode cX8_init 24 = .ok (.invokespecial 11, 3) := by decide +kernel
theorem dX8_init_27 : decode cX8_init 27 = .ok (.putfield 20, 3) := by decide +kernel
theorem dX8_init_30 : decode cX8_init 30 = .ok (.aload_n 0, 1) := by decide +kernel
theorem dX8_init_31 : decode cX8_init 31 = .ok (.new 9, 3) := by decide +kernel
theorem dX8_init_34 : decode cX8_init 34 = .ok (.dup, 1) := by decide +kernel
theorem dX8_init_35 : decode cX8_init 35 = .ok (.iconst 4, 1) := by decide +kernel
theorem dX8_init_36 : decode cX8_init 36 = .ok (.invokespecial 11, 3) := by decide +kernel
theorem dX8_init_39 : decode cX8_init 39 = .ok (.putfield 23, 3) := by decide +kernel
theorem dX8_init_42 : decode cX8_init 42 = .ok (.aload_n 0, 1) := by decide +kernel
theorem dX8_init_43 : decode cX8_init 43 = .ok (.iconst 0, 1) := by decide +kernel
theorem dX8_init_44 : decode cX8_init 44 = .ok (.putfield 26, 3) := by decide +kernel
theorem dX8_init_47 : decode cX8_init 47 = .ok (.aload_n 0, 1) := by decide +kernel
theorem dX8_init_48 : decode cX8_init 48 = .ok (.bipush 6, 2) := by decide +kernel
theorem dX8_init_50 : decode cX8_init 50 = .ok (.newarray .int, 2) := by decide +kernel
theorem dX8_init_52 : decode cX8_init 52 = .ok (.putfield 30, 3) := by decide +kernel
theorem dX8_init_55 : decode cX8_init 55 = .ok (.aload_n 0, 1) := by decide +kernel
theorem dX8_init_56 : decode cX8_init 56 = .ok (.iconst 0, 1) := by decide +kernel
theorem dX8_init_57 : decode cX8_init 57 = .ok (.putfield 34, 3) := by decide +kernel
theorem dX8_init_60 : decode cX8_init 60 = .ok (.aload_n 0, 1) := by decide +kernel
theorem dX8_init_61 : decode cX8_init 61 = .ok (.new 37, 3) := by decide +kernel
theorem dX8_init_64 : decode cX8_init 64 = .ok (.dup, 1) := by decide +kernel
theorem dX8_init_65 : decode cX8_init 65 = .ok (.invokespecial 39, 3) := by decide +kernel
theorem dX8_init_68 : decode cX8_init 68 = .ok (.putfield 40, 3) := by decide +kernel
theorem dX8_init_71 : decode cX8_init 71 = .ok (.aload_n 0, 1) := by decide +kernel
theorem dX8_init_72 : decode cX8_init 72 = .ok (.new 44, 3) := by decide +kernel
theorem dX8_init_75 : decode cX8_init 75 = .ok (.dup, 1) := by decide +kernel
theorem dX8_init_76 : decode cX8_init 76 = .ok (.invokespecial 46, 3) := by decide +kernel
theorem dX8_init_79 : decode cX8_init 79 = .ok (.putfield 47, 3) := by decide +kernel
theorem dX8_init_82 : decode cX8_init 82 = .ok (.aload_n 0, 1) := by decide +kernel
theorem dX8_init_83 : decode cX8_init 83 = .ok (.bipush 8, 2) := by decide +kernel
theorem dX8_init_85 : decode cX8_init 85 = .ok (.newarray .int, 2) := by decide +kernel
theorem dX8_init_87 : decode cX8_init 87 = .ok (.putfield 51, 3) := by decide +kernel
theorem dX8_init_90 : decode cX8_init 90 = .ok (.aload_n 0, 1) := by decide +kernel
theorem dX8_init_91 : decode cX8_init 91 = .ok (.getfield 30, 3) := by decide +kernel
theorem dX8_init_94 : decode cX8_init 94 = .ok (.iconst (-1), 1) := by decide +kernel
theorem dX8_init_95 : decode cX8_init 95 = .ok (.invokestatic 54, 3) := by decide +kernel
theorem dX8_init_98 : decode cX8_init 98 = .ok (.aload_n 0, 1) := by decide +kernel
theorem dX8_init_99 : decode cX8_init 99 = .ok (.getfield 47, 3) := by decide +kernel
theorem dX8_init_102 : decode cX8_init 102 = .ok (.iconst 0, 1) := by decide +kernel
theorem dX8_init_103 : decode cX8_init 103 = .ok (.iconst 0, 1) := by decide +kernel
theorem dX8_init_104 : decode cX8_init 104 = .ok (.iconst 0, 1) := by decide +kernel
theorem dX8_init_105 : decode cX8_init 105 = .ok (.invokevirtual 60, 3) := by decide +kernel
theorem dX8_init_108 : decode cX8_init 108 = .ok (.pop, 1) := by decide +kernel
theorem dX8_init_109 : decode cX8_init 109 = .ok (.return_, 1) := by decide +kernel
set_option maxRecDepth 20000 in
theorem ggX8_copyFrom_X1_copyFrom : GoodIn wsX8_copyFrom wsX1_copyFrom := goodIn_r _ [18, 19, 20, 21, 22, 17, 23, 24, 25, 26, 27, 7, 8, 9, 28, 29, 30, 70, 71, 72, 73] (by decide +kernel) (by decide +kernel)
set_option maxRecDepth 20000 in
theorem gX8_copyFrom_X1_copyFrom : GoodIn wsX8_copyFrom (wsV RX8 64 RX1 yX1_copyFrom wsX1_copyFrom) := goodIn_app (goodIn_of _ (by decide +kernel)) ggX8_copyFrom_X1_copyFrom
set_option maxRecDepth 20000 in
theorem ggX8_copyFrom_X4_copyFrom : GoodIn wsX8_copyFrom wsX4_copyFrom := goodIn_r _ [35, 36, 37, 7, 8, 9, 38, 39, 74, 75, 76] (by decide +kernel) (by decide +kernel)
set_option maxRecDepth 20000 in
theorem gX8_copyFrom_X4_copyFrom : GoodIn wsX8_copyFrom (wsV RX8 74 RX4 yX4_copyFrom wsX4_copyFrom) := goodIn_app (goodIn_of _ (by decide +kernel)) ggX8_copyFrom_X4_copyFrom
set_option maxRecDepth 20000 in
theorem ggX8_copyFrom_X6_copyFrom : GoodIn wsX8_copyFrom wsX6_copyFrom := goodIn_r _ [44, 45, 46, 47, 48, 43, 49, 50, 51, 52, 53, 54, 55, 56, 57, 58, 59, 60, 77, 78, 79, 80] (by decide +kernel) (by decide +kernel)
set_option maxRecDepth 20000 in
theorem gX8_copyFrom_X6_copyFrom : GoodIn wsX8_copyFrom (wsV RX8 77 RX6 yX6_copyFrom wsX6_copyFrom) := goodIn_app (goodIn_of _ (by decide +kernel)) ggX8_copyFrom_X6_copyFrom
theorem dX8_copyFrom_0 : decode cX8_copyFrom 0 = .ok (.aload_n 0, 1) := by decide +kernel
theorem dX8_copyFrom_1 : decode cX8_copyFrom 1 = .ok (.getfield 14, 3) := by decide +kernel
theorem dX8_copyFrom_4 : decode cX8_copyFrom 4 = .ok (.aload_n 1, 1) := by decide +kernel
theorem dX8_copyFrom_5 : decode cX8_copyFrom 5 = .ok (.getfield 14, 3) := by decide +kernel
theorem dX8_copyFrom_8 : decode cX8_copyFrom 8 = .ok (.invokevirtual 64, 3) := by decide +kernel
theorem dX8_copyFrom_11 : decode cX8_copyFrom 11 = .ok (.aload_n 0, 1) := by decide +kernel
theorem dX8_copyFrom_12 : decode cX8_copyFrom 12 = .ok (.getfield 20, 3) := by decide +kernel
theorem dX8_copyFrom_15 : decode cX8_copyFrom 15 = .ok (.aload_n 1, 1) := by decide +kernel
theorem dX8_copyFrom_16 : decode cX8_copyFrom 16 = .ok (.getfield 20, 3) := by decide +kernel
theorem dX8_copyFrom_19 : decode cX8_copyFrom 19 = .ok (.invokevirtual 64, 3) := by decide +kernel
theorem dX8_copyFrom_22 : decode cX8_copyFrom 22 = .ok (.aload_n 0, 1) := by decide +kernel
theorem dX8_copyFrom_23 : decode cX8_copyFrom 23 = .ok (.getfield 23, 3) := by decide +kernel
theorem dX8_copyFrom_26 : decode cX8_copyFrom 26 = .ok (.aload_n 1, 1) := by decide +kernel
theorem dX8_copyFrom_27 : decode cX8_copyFrom 27 = .ok (.getfield 23, 3) := by decide +kernel
theorem dX8_copyFrom_30 : decode cX8_copyFrom 30 = .ok (.invokevirtual 64, 3) := by decide +kernel
theorem dX8_copyFrom_33 : decode cX8_copyFrom 33 = .ok (.aload_n 0, 1) := by decide +kernel
theorem dX8_copyFrom_34 : decode cX8_copyFrom 34 = .ok (.aload_n 1, 1) := by decide +kernel
theorem dX8_copyFrom_35 : decode cX8_copyFrom 35 = .ok (.getfield 26, 3) := by decide +kernel
theorem dX8_copyFrom_38 : decode cX8_copyFrom 38 = .ok (.putfield 26, 3) := by decide +kernel
theorem dX8_copyFrom_41 : decode cX8_copyFrom 41 = .ok (.aload_n 1, 1) := by decide +kernel
theorem dX8_copyFrom_42 : decode cX8_copyFrom 42 = .ok (.getfield 30, 3) := by decide +kernel
theorem dX8_copyFrom_45 : decode cX8_copyFrom 45 = .ok (.iconst 0, 1) := by decide +kernel
theorem dX8_copyFrom_46 : decode cX8_copyFrom 46 = .ok (.aload_n 0, 1) := by decide +kernel
theorem dX8_copyFrom_47 : decode cX8_copyFrom 47 = .ok (.getfield 30, 3) := by decide +kernel
theorem dX8_copyFrom_50 : decode cX8_copyFrom 50 = .ok (.iconst 0, 1) := by decide +kernel
theorem dX8_copyFrom_51 : decode cX8_copyFrom 51 = .ok (.bipush 6, 2) := by decide +kernel
theorem dX8_copyFrom_53 : decode cX8_copyFrom 53 = .ok (.invokestatic 68, 3) := by decide +kernel
theorem dX8_copyFrom_56 : decode cX8_copyFrom 56 = .ok (.aload_n 0, 1) := by decide +kernel
theorem dX8_copyFrom_57 : decode cX8_copyFrom 57 = .ok (.aload_n 1, 1) := by decide +kernel
theorem dX8_copyFrom_58 : decode cX8_copyFrom 58 = .ok (.getfield 34, 3) := by decide +kernel
theorem dX8_copyFrom_61 : decode cX8_copyFrom 61 = .ok (.putfield 34, 3) := by decide +kernel
theorem dX8_copyFrom_64 : decode cX8_copyFrom 64 = .ok (.aload_n 0, 1) := by decide +kernel
theorem dX8_copyFrom_65 : decode cX8_copyFrom 65 = .ok (.getfield 40, 3) := by decide +kernel
theorem dX8_copyFrom_68 : decode cX8_copyFrom 68 = .ok (.aload_n 1, 1) := by decide +kernel
theorem dX8_copyFrom_69 : decode cX8_copyFrom 69 = .ok (.getfield 40, 3) := by decide +kernel
theorem dX8_copyFrom_72 : decode cX8_copyFrom 72 = .ok (.invokevirtual 74, 3) := by decide +kernel
theorem dX8_copyFrom_75 : decode cX8_copyFrom 75 = .ok (.aload_n 0, 1) := by decide +kernel
theorem dX8_copyFrom_76 : decode cX8_copyFrom 76 = .ok (.getfield 47, 3) := by decide +kernel
theorem dX8_copyFrom_79 : decode cX8_copyFrom 79 = .ok (.aload_n 1, 1) := by decide +kernel
theorem dX8_copyFrom_80 : decode cX8_copyFrom 80 = .ok (.getfield 47, 3) := by decide +kernel
theorem dX8_copyFrom_83 : decode cX8_copyFrom 83 = .ok (.invokevirtual 77, 3) := by decide +kernel
theorem dX8_copyFrom_86 : decode cX8_copyFrom 86 = .ok (.aload_n 1, 1) := by decide +kernel
theorem dX8_copyFrom_87 : decode cX8_copyFrom 87 = .ok (.getfield 51, 3) := by decide +kernel
theorem dX8_copyFrom_90 : decode cX8_copyFrom 90 = .ok (.iconst 0, 1) := by decide +kernel
theorem dX8_copyFrom_91 : decode cX8_copyFrom 91 = .ok (.aload_n 0, 1) := by decide +kernel
theorem dX8_copyFrom_92 : decode cX8_copyFrom 92 = .ok (.getfield 51, 3) := by decide +kernel
theorem dX8_copyFrom_95 : decode cX8_copyFrom 95 = .ok (.iconst 0, 1) := by decide +kernel
theorem dX8_copyFrom_96 : decode cX8_copyFrom 96 = .ok (.bipush 8, 2) := by decide +kernel
theorem dX8_copyFrom_98 : decode cX8_copyFrom 98 = .ok (.invokestatic 68, 3) := by decide +kernel
theorem dX8_copyFrom_101 : decode cX8_copyFrom 101 = .ok (.return_, 1) := by decide +kernel
theorem dX8_tableOf_0 : decode cX8_tableOf 0 = .ok (.iload_n 1, 1) := by decide +kernel
theorem dX8_tableOf_1 : decode cX8_tableOf 1 = .ok (.iconst 2, 1) := by decide +kernel
theorem dX8_tableOf_2 : decode cX8_tableOf 2 = .ok (.if_icmp .ne 8, 3) := by decide +kernel
theorem dX8_tableOf_5 : decode cX8_tableOf 5 = .ok (.aload_n 0, 1) := by decide +kernel
theorem dX8_tableOf_6 : decode cX8_tableOf 6 = .ok (.getfield 14, 3) := by decide +kernel
theorem dX8_tableOf_9 : decode cX8_tableOf 9 = .ok (.areturn, 1) := by decide +kernel
theorem dX8_tableOf_10 : decode cX8_tableOf 10 = .ok (.iload_n 1, 1) := by decide +kernel
theorem dX8_tableOf_11 : decode cX8_tableOf 11 = .ok (.iconst 3, 1) := by decide +kernel
theorem dX8_tableOf_12 : decode cX8_tableOf 12 = .ok (.if_icmp .ne 10, 3) := by decide +kernel
theorem dX8_tableOf_15 : decode cX8_tableOf 15 = .ok (.aload_n 0, 1) := by decide +kernel
theorem dX8_tableOf_16 : decode cX8_tableOf 16 = .ok (.getfield 20, 3) := by decide +kernel
theorem dX8_tableOf_19 : decode cX8_tableOf 19 = .ok (.goto 7, 3) := by decide +kernel
theorem dX8_tableOf_22 : decode cX8_tableOf 22 = .ok (.aload_n 0, 1) := by decide +kernel
theorem dX8_tableOf_23 : decode cX8_tableOf 23 = .ok (.getfield 23, 3) := by decide +kernel
theorem dX8_tableOf_26 : decode cX8_tableOf 26 = .ok (.areturn, 1) := by decide +kernel
set_option maxRecDepth 20000 in
theorem ggX8_usedEntries_X4_targetOf : GoodIn wsX8_usedEntries wsX4_targetOf := goodIn_r _ [7, 8, 9, 10, 11, 28, 29, 30] (by decide +kernel) (by decide +kernel)
set_option maxRecDepth 20000 in
theorem gX8_usedEntries_X4_targetOf : GoodIn wsX8_usedEntries (wsV RX8 80 RX4 yX4_targetOf wsX4_targetOf) := goodIn_app (goodIn_of _ (by decide +kernel)) ggX8_usedEntries_X4_targetOf
set_option maxRecDepth 20000 in
theorem ggX8_usedEntries_X1_arityOf : GoodIn wsX8_usedEntries wsX1_arityOf := goodIn_r _ [16, 17, 18, 9, 10, 11, 31, 32, 33, 34] (by decide +kernel) (by decide +kernel)
set_option maxRecDepth 20000 in
theorem gX8_usedEntries_X1_arityOf : GoodIn wsX8_usedEntries (wsV RX8 84 RX1 yX1_arityOf wsX1_arityOf) := goodIn_app (goodIn_of _ (by decide +kernel)) ggX8_usedEntries_X1_arityOf
theorem dX8_usedEntries_0 : decode cX8_usedEntries 0 = .ok (.aload_n 0, 1) := by decide +kernel
theorem dX8_usedEntries_1 : decode cX8_usedEntries 1 = .ok (.getfield 20, 3) := by decide +kernel
theorem dX8_usedEntries_4 : decode cX8_usedEntries 4 = .ok (.aload_n 0, 1) := by decide +kernel
theorem dX8_usedEntries_5 : decode cX8_usedEntries 5 = .ok (.getfield 40, 3) := by decide +kernel
theorem dX8_usedEntries_8 : decode cX8_usedEntries 8 = .ok (.iload_n 1, 1) := by decide +kernel
theorem dX8_usedEntries_9 : decode cX8_usedEntries 9 = .ok (.invokevirtual 80, 3) := by decide +kernel
theorem dX8_usedEntries_12 : decode cX8_usedEntries 12 = .ok (.invokevirtual 84, 3) := by decide +kernel
theorem dX8_usedEntries_15 : decode cX8_usedEntries 15 = .ok (.ireturn, 1) := by decide +kernel
set_option maxRecDepth 20000 in
theorem ggX8_keepsMeaning_X8_usedEntries : GoodIn wsX8_keepsMeaning wsX8_usedEntries := goodIn_r _ [6, 7, 1, 8, 9, 10, 11, 12, 13, 14, 15, 16, 17, 18, 19, 20, 21, 22, 23, 55, 56, 57, 58, 59, 60, 61, 62, 63, 64, 65, 66, 67, 68, 69, 70] (by decide +kernel) (by decide +kernel)
set_option maxRecDepth 20000 in
theorem gX8_keepsMeaning_X8_usedEntries : GoodIn wsX8_keepsMeaning (wsV RX8 87 RX8 yX8_usedEntries wsX8_usedEntries) := goodIn_app (goodIn_of _ (by decide +kernel)) ggX8_keepsMeaning_X8_usedEntries
set_option maxRecDepth 20000 in
theorem ggX8_keepsMeaning_X4_targetOf : GoodIn wsX8_keepsMeaning wsX4_targetOf := goodIn_r _ [12, 13, 14, 15, 16, 64, 65, 66] (by decide +kernel) (by decide +kernel)
set_option maxRecDepth 20000 in
theorem gX8_keepsMeaning_X4_targetOf : GoodIn wsX8_keepsMeaning (wsV RX8 80 RX4 yX4_targetOf wsX4_targetOf) := goodIn_app (goodIn_of _ (by decide +kernel)) ggX8_keepsMeaning_X4_targetOf
set_option maxRecDepth 20000 in
theorem ggX8_keepsMeaning_X8_isWellFormed : GoodIn wsX8_keepsMeaning wsX8_isWellFormed := goodIn_r _ [27, 1, 28, 29, 30, 31, 11, 32, 33, 14, 15, 16, 17, 18, 19, 20, 21, 22, 23, 55, 56, 57, 58, 59, 60, 61, 62, 63, 64, 65, 66, 67, 68, 69, 70] (by decide +kernel) (by decide +kernel)
set_option maxRecDepth 20000 in
theorem gX8_keepsMeaning_X8_isWellFormed : GoodIn wsX8_keepsMeaning (wsV RX8 90 RX8 yX8_isWellFormed wsX8_isWellFormed) := goodIn_app (goodIn_of _ (by decide +kernel)) ggX8_keepsMeaning_X8_isWellFormed
set_option maxRecDepth 20000 in
theorem ggX8_keepsMeaning_X8_keepsConstant : GoodIn wsX8_keepsMeaning wsX8_keepsConstant := goodIn_r _ [37, 1, 7, 28, 8, 9, 10, 11, 12, 13, 14, 15, 16, 38, 39, 40, 20, 41, 42, 43, 44, 45, 29, 30, 31, 32, 33, 46, 47, 48, 49, 50, 55, 56, 57, 58, 59, 60, 61, 62, 63, 64, 65, 66, 67, 68, 69, 70] (by decide +kernel) (by decide +kernel)
set_option maxRecDepth 20000 in
theorem gX8_keepsMeaning_X8_keepsConstant : GoodIn wsX8_keepsMeaning (wsV RX8 94 RX8 yX8_keepsConstant wsX8_keepsConstant) := goodIn_app (goodIn_of _ (by decide +kernel)) ggX8_keepsMeaning_X8_keepsConstant
set_option maxRecDepth 20000 in
theorem ggX8_keepsMeaning_X8_keepsCoefficients : GoodIn wsX8_keepsMeaning wsX8_keepsCoefficients := goodIn_r _ [54, 1, 28, 7, 8, 9, 10, 11, 12, 13, 14, 15, 16, 17, 18, 19, 20, 21, 22, 23, 29, 30, 31, 32, 33, 38, 39, 40, 41, 42, 43, 44, 45, 55, 56, 57, 58, 59, 60, 61, 62, 63, 64, 65, 66, 67, 68, 69, 70] (by decide +kernel) (by decide +kernel)
set_option maxRecDepth 20000 in
theorem gX8_keepsMeaning_X8_keepsCoefficients : GoodIn wsX8_keepsMeaning (wsV RX8 97 RX8 yX8_keepsCoefficients wsX8_keepsCoefficients) := goodIn_app (goodIn_of _ (by decide +kernel)) ggX8_keepsMeaning_X8_keepsCoefficients
theorem dX8_keepsMeaning_0 : decode cX8_keepsMeaning 0 = .ok (.aload_n 0, 1) := by decide +kernel
theorem dX8_keepsMeaning_1 : decode cX8_keepsMeaning 1 = .ok (.iload_n 1, 1) := by decide +kernel
theorem dX8_keepsMeaning_2 : decode cX8_keepsMeaning 2 = .ok (.invokevirtual 87, 3) := by decide +kernel
theorem dX8_keepsMeaning_5 : decode cX8_keepsMeaning 5 = .ok (.istore_n 2, 1) := by decide +kernel
theorem dX8_keepsMeaning_6 : decode cX8_keepsMeaning 6 = .ok (.aload_n 0, 1) := by decide +kernel
theorem dX8_keepsMeaning_7 : decode cX8_keepsMeaning 7 = .ok (.getfield 40, 3) := by decide +kernel
theorem dX8_keepsMeaning_10 : decode cX8_keepsMeaning 10 = .ok (.iload_n 1, 1) := by decide +kernel
theorem dX8_keepsMeaning_11 : decode cX8_keepsMeaning 11 = .ok (.invokevirtual 80, 3) := by decide +kernel
theorem dX8_keepsMeaning_14 : decode cX8_keepsMeaning 14 = .ok (.iconst (-1), 1) := by decide +kernel
theorem dX8_keepsMeaning_15 : decode cX8_keepsMeaning 15 = .ok (.if_icmp .eq 34, 3) := by decide +kernel
theorem dX8_keepsMeaning_18 : decode cX8_keepsMeaning 18 = .ok (.aload_n 0, 1) := by decide +kernel
theorem dX8_keepsMeaning_19 : decode cX8_keepsMeaning 19 = .ok (.iload_n 1, 1) := by decide +kernel
theorem dX8_keepsMeaning_20 : decode cX8_keepsMeaning 20 = .ok (.iload_n 2, 1) := by decide +kernel
theorem dX8_keepsMeaning_21 : decode cX8_keepsMeaning 21 = .ok (.invokevirtual 90, 3) := by decide +kernel
theorem dX8_keepsMeaning_24 : decode cX8_keepsMeaning 24 = .ok (.ifCond .eq 25, 3) := by decide +kernel
theorem dX8_keepsMeaning_27 : decode cX8_keepsMeaning 27 = .ok (.aload_n 0, 1) := by decide +kernel
theorem dX8_keepsMeaning_28 : decode cX8_keepsMeaning 28 = .ok (.iload_n 1, 1) := by decide +kernel
theorem dX8_keepsMeaning_29 : decode cX8_keepsMeaning 29 = .ok (.iload_n 2, 1) := by decide +kernel
theorem dX8_keepsMeaning_30 : decode cX8_keepsMeaning 30 = .ok (.invokevirtual 94, 3) := by decide +kernel
theorem dX8_keepsMeaning_33 : decode cX8_keepsMeaning 33 = .ok (.ifCond .eq 16, 3) := by decide +kernel
theorem dX8_keepsMeaning_36 : decode cX8_keepsMeaning 36 = .ok (.aload_n 0, 1) := by decide +kernel
theorem dX8_keepsMeaning_37 : decode cX8_keepsMeaning 37 = .ok (.iload_n 1, 1) := by decide +kernel
theorem dX8_keepsMeaning_38 : decode cX8_keepsMeaning 38 = .ok (.iload_n 2, 1) := by decide +kernel
theorem dX8_keepsMeaning_39 : decode cX8_keepsMeaning 39 = .ok (.invokevirtual 97, 3) := by decide +kernel
theorem dX8_keepsMeaning_42 : decode cX8_keepsMeaning 42 = .ok (.ifCond .eq 7, 3) := by decide +kernel
theorem dX8_keepsMeaning_45 : decode cX8_keepsMeaning 45 = .ok (.iconst 1, 1) := by decide +kernel
theorem dX8_keepsMeaning_46 : decode cX8_keepsMeaning 46 = .ok (.goto 4, 3) := by decide +kernel
theorem dX8_keepsMeaning_49 : decode cX8_keepsMeaning 49 = .ok (.iconst 0, 1) := by decide +kernel
theorem dX8_keepsMeaning_50 : decode cX8_keepsMeaning 50 = .ok (.ireturn, 1) := by decide +kernel
set_option maxRecDepth 20000 in
theorem ggX8_isWellFormed_X4_sourceAt : GoodIn wsX8_isWellFormed wsX4_sourceAt := goodIn_r _ [7, 8, 9, 10, 11, 28, 29, 30] (by decide +kernel) (by decide +kernel)
set_option maxRecDepth 20000 in
theorem gX8_isWellFormed_X4_sourceAt : GoodIn wsX8_isWellFormed (wsV RX8 100 RX4 yX4_sourceAt wsX4_sourceAt) := goodIn_app (goodIn_of _ (by decide +kernel)) ggX8_isWellFormed_X4_sourceAt
set_option maxRecDepth 20000 in
theorem ggX8_isWellFormed_X1_arityOf : GoodIn wsX8_isWellFormed wsX1_arityOf := goodIn_r _ [16, 17, 18, 9, 10, 11, 31, 32, 33, 34] (by decide +kernel) (by decide +kernel)
set_option maxRecDepth 20000 in
theorem gX8_isWellFormed_X1_arityOf : GoodIn wsX8_isWellFormed (wsV RX8 84 RX1 yX1_arityOf wsX1_arityOf) := goodIn_app (goodIn_of _ (by decide +kernel)) ggX8_isWellFormed_X1_arityOf
theorem dX8_isWellFormed_0 : decode cX8_isWellFormed 0 = .ok (.iconst 0, 1) := by decide +kernel
theorem dX8_isWellFormed_1 : decode cX8_isWellFormed 1 = .ok (.istore_n 3, 1) := by decide +kernel
theorem dX8_isWellFormed_2 : decode cX8_isWellFormed 2 = .ok (.iload_n 3, 1) := by decide +kernel
theorem dX8_isWellFormed_3 : decode cX8_isWellFormed 3 = .ok (.iload_n 2, 1) := by decide +kernel
theorem dX8_isWellFormed_4 : decode cX8_isWellFormed 4 = .ok (.if_icmp .ge 31, 3) := by decide +kernel
theorem dX8_isWellFormed_7 : decode cX8_isWellFormed 7 = .ok (.aload_n 0, 1) := by decide +kernel
theorem dX8_isWellFormed_8 : decode cX8_isWellFormed 8 = .ok (.getfield 40, 3) := by decide +kernel
theorem dX8_isWellFormed_11 : decode cX8_isWellFormed 11 = .ok (.iload_n 1, 1) := by decide +kernel
theorem dX8_isWellFormed_12 : decode cX8_isWellFormed 12 = .ok (.iload_n 3, 1) := by decide +kernel
theorem dX8_isWellFormed_13 : decode cX8_isWellFormed 13 = .ok (.invokevirtual 100, 3) := by decide +kernel
theorem dX8_isWellFormed_16 : decode cX8_isWellFormed 16 = .ok (.aload_n 0, 1) := by decide +kernel
theorem dX8_isWellFormed_17 : decode cX8_isWellFormed 17 = .ok (.getfield 14, 3) := by decide +kernel
theorem dX8_isWellFormed_20 : decode cX8_isWellFormed 20 = .ok (.iload_n 1, 1) := by decide +kernel
theorem dX8_isWellFormed_21 : decode cX8_isWellFormed 21 = .ok (.invokevirtual 84, 3) := by decide +kernel
theorem dX8_isWellFormed_24 : decode cX8_isWellFormed 24 = .ok (.if_icmp .lt 5, 3) := by decide +kernel
theorem dX8_isWellFormed_27 : decode cX8_isWellFormed 27 = .ok (.iconst 0, 1) := by decide +kernel
theorem dX8_isWellFormed_28 : decode cX8_isWellFormed 28 = .ok (.ireturn, 1) := by decide +kernel
theorem dX8_isWellFormed_29 : decode cX8_isWellFormed 29 = .ok (.iinc 3 1, 3) := by decide +kernel
theorem dX8_isWellFormed_32 : decode cX8_isWellFormed 32 = .ok (.goto (-30), 3) := by decide +kernel
theorem dX8_isWellFormed_35 : decode cX8_isWellFormed 35 = .ok (.iconst 1, 1) := by decide +kernel
theorem dX8_isWellFormed_36 : decode cX8_isWellFormed 36 = .ok (.ireturn, 1) := by decide +kernel
set_option maxRecDepth 20000 in
theorem ggX8_keepsConstant_X4_targetOf : GoodIn wsX8_keepsConstant wsX4_targetOf := goodIn_r _ [8, 9, 10, 11, 12, 41, 42, 43] (by decide +kernel) (by decide +kernel)
set_option maxRecDepth 20000 in
theorem gX8_keepsConstant_X4_targetOf : GoodIn wsX8_keepsConstant (wsV RX8 80 RX4 yX4_targetOf wsX4_targetOf) := goodIn_app (goodIn_of _ (by decide +kernel)) ggX8_keepsConstant_X4_targetOf
set_option maxRecDepth 20000 in
theorem ggX8_keepsConstant_X1_term : GoodIn wsX8_keepsConstant wsX1_term := goodIn_r _ [17, 18, 19, 20, 16, 21, 10, 11, 12, 44, 45, 46, 47] (by decide +kernel) (by decide +kernel)
set_option maxRecDepth 20000 in
theorem gX8_keepsConstant_X1_term : GoodIn wsX8_keepsConstant (wsV RX8 104 RX1 yX1_term wsX1_term) := goodIn_app (goodIn_of _ (by decide +kernel)) ggX8_keepsConstant_X1_term
set_option maxRecDepth 20000 in
theorem ggX8_keepsConstant_X4_sourceAt : GoodIn wsX8_keepsConstant wsX4_sourceAt := goodIn_r _ [25, 26, 10, 11, 12, 41, 42, 43] (by decide +kernel) (by decide +kernel)
set_option maxRecDepth 20000 in
theorem gX8_keepsConstant_X4_sourceAt : GoodIn wsX8_keepsConstant (wsV RX8 100 RX4 yX4_sourceAt wsX4_sourceAt) := goodIn_app (goodIn_of _ (by decide +kernel)) ggX8_keepsConstant_X4_sourceAt
set_option maxRecDepth 20000 in
theorem ggX8_keepsConstant_X4_constantAt : GoodIn wsX8_keepsConstant wsX4_constantAt := goodIn_r _ [30, 31, 10, 11, 12, 41, 42, 43] (by decide +kernel) (by decide +kernel)
set_option maxRecDepth 20000 in
theorem gX8_keepsConstant_X4_constantAt : GoodIn wsX8_keepsConstant (wsV RX8 107 RX4 yX4_constantAt wsX4_constantAt) := goodIn_app (goodIn_of _ (by decide +kernel)) ggX8_keepsConstant_X4_constantAt
theorem dX8_keepsConstant_0 : decode cX8_keepsConstant 0 = .ok (.aload_n 0, 1) := by decide +kernel
theorem dX8_keepsConstant_1 : decode cX8_keepsConstant 1 = .ok (.getfield 40, 3) := by decide +kernel
theorem dX8_keepsConstant_4 : decode cX8_keepsConstant 4 = .ok (.iload_n 1, 1) := by decide +kernel
theorem dX8_keepsConstant_5 : decode cX8_keepsConstant 5 = .ok (.invokevirtual 80, 3) := by decide +kernel
theorem dX8_keepsConstant_8 : decode cX8_keepsConstant 8 = .ok (.istore_n 3, 1) := by decide +kernel
theorem dX8_keepsConstant_9 : decode cX8_keepsConstant 9 = .ok (.aload_n 0, 1) := by decide +kernel
theorem dX8_keepsConstant_10 : decode cX8_keepsConstant 10 = .ok (.getfield 20, 3) := by decide +kernel
theorem dX8_keepsConstant_13 : decode cX8_keepsConstant 13 = .ok (.iload_n 3, 1) := by decide +kernel
theorem dX8_keepsConstant_14 : decode cX8_keepsConstant 14 = .ok (.iconst (-1), 1) := by decide +kernel
theorem dX8_keepsConstant_15 : decode cX8_keepsConstant 15 = .ok (.invokevirtual 104, 3) := by decide +kernel
theorem dX8_keepsConstant_18 : decode cX8_keepsConstant 18 = .ok (.istore 4, 2) := by decide +kernel
theorem dX8_keepsConstant_20 : decode cX8_keepsConstant 20 = .ok (.iconst 0, 1) := by decide +kernel
theorem dX8_keepsConstant_21 : decode cX8_keepsConstant 21 = .ok (.istore 5, 2) := by decide +kernel
theorem dX8_keepsConstant_23 : decode cX8_keepsConstant 23 = .ok (.iload 5, 2) := by decide +kernel
theorem dX8_keepsConstant_25 : decode cX8_keepsConstant 25 = .ok (.iload_n 2, 1) := by decide +kernel
theorem dX8_keepsConstant_26 : decode cX8_keepsConstant 26 = .ok (.if_icmp .ge 49, 3) := by decide +kernel
theorem dX8_keepsConstant_29 : decode cX8_keepsConstant 29 = .ok (.aload_n 0, 1) := by decide +kernel
theorem dX8_keepsConstant_30 : decode cX8_keepsConstant 30 = .ok (.getfield 40, 3) := by decide +kernel
theorem dX8_keepsConstant_33 : decode cX8_keepsConstant 33 = .ok (.iload_n 1, 1) := by decide +kernel
theorem dX8_keepsConstant_34 : decode cX8_keepsConstant 34 = .ok (.iload 5, 2) := by decide +kernel
theorem dX8_keepsConstant_36 : decode cX8_keepsConstant 36 = .ok (.invokevirtual 100, 3) := by decide +kernel
theorem dX8_keepsConstant_39 : decode cX8_keepsConstant 39 = .ok (.iconst (-1), 1) := by decide +kernel
theorem dX8_keepsConstant_40 : decode cX8_keepsConstant 40 = .ok (.if_icmp .ne 29, 3) := by decide +kernel
theorem dX8_keepsConstant_43 : decode cX8_keepsConstant 43 = .ok (.iload 4, 2) := by decide +kernel
theorem dX8_keepsConstant_45 : decode cX8_keepsConstant 45 = .ok (.aload_n 0, 1) := by decide +kernel
theorem dX8_keepsConstant_46 : decode cX8_keepsConstant 46 = .ok (.getfield 20, 3) := by decide +kernel
theorem dX8_keepsConstant_49 : decode cX8_keepsConstant 49 = .ok (.iload_n 3, 1) := by decide +kernel
theorem dX8_keepsConstant_50 : decode cX8_keepsConstant 50 = .ok (.iload 5, 2) := by decide +kernel
theorem dX8_keepsConstant_52 : decode cX8_keepsConstant 52 = .ok (.invokevirtual 104, 3) := by decide +kernel
theorem dX8_keepsConstant_55 : decode cX8_keepsConstant 55 = .ok (.aload_n 0, 1) := by decide +kernel
theorem dX8_keepsConstant_56 : decode cX8_keepsConstant 56 = .ok (.getfield 40, 3) := by decide +kernel
theorem dX8_keepsConstant_59 : decode cX8_keepsConstant 59 = .ok (.iload_n 1, 1) := by decide +kernel
theorem dX8_keepsConstant_60 : decode cX8_keepsConstant 60 = .ok (.iload 5, 2) := by decide +kernel
theorem dX8_keepsConstant_62 : decode cX8_keepsConstant 62 = .ok (.invokevirtual 107, 3) := by decide +kernel
theorem dX8_keepsConstant_65 : decode cX8_keepsConstant 65 = .ok (.imul, 1) := by decide +kernel
theorem dX8_keepsConstant_66 : decode cX8_keepsConstant 66 = .ok (.iadd, 1) := by decide +kernel
theorem dX8_keepsConstant_67 : decode cX8_keepsConstant 67 = .ok (.istore 4, 2) := by decide +kernel
theorem dX8_keepsConstant_69 : decode cX8_keepsConstant 69 = .ok (.iinc 5 1, 3) := by decide +kernel
theorem dX8_keepsConstant_72 : decode cX8_keepsConstant 72 = .ok (.goto (-49), 3) := by decide +kernel
theorem dX8_keepsConstant_75 : decode cX8_keepsConstant 75 = .ok (.iload 4, 2) := by decide +kernel
theorem dX8_keepsConstant_77 : decode cX8_keepsConstant 77 = .ok (.sipush 1000, 3) := by decide +kernel
theorem dX8_keepsConstant_80 : decode cX8_keepsConstant 80 = .ok (.irem, 1) := by decide +kernel
theorem dX8_keepsConstant_81 : decode cX8_keepsConstant 81 = .ok (.aload_n 0, 1) := by decide +kernel
theorem dX8_keepsConstant_82 : decode cX8_keepsConstant 82 = .ok (.getfield 14, 3) := by decide +kernel
theorem dX8_keepsConstant_85 : decode cX8_keepsConstant 85 = .ok (.iload_n 1, 1) := by decide +kernel
theorem dX8_keepsConstant_86 : decode cX8_keepsConstant 86 = .ok (.iconst (-1), 1) := by decide +kernel
theorem dX8_keepsConstant_87 : decode cX8_keepsConstant 87 = .ok (.invokevirtual 104, 3) := by decide +kernel
theorem dX8_keepsConstant_90 : decode cX8_keepsConstant 90 = .ok (.if_icmp .ne 7, 3) := by decide +kernel
theorem dX8_keepsConstant_93 : decode cX8_keepsConstant 93 = .ok (.iconst 1, 1) := by decide +kernel
theorem dX8_keepsConstant_94 : decode cX8_keepsConstant 94 = .ok (.goto 4, 3) := by decide +kernel
theorem dX8_keepsConstant_97 : decode cX8_keepsConstant 97 = .ok (.iconst 0, 1) := by decide +kernel
theorem dX8_keepsConstant_98 : decode cX8_keepsConstant 98 = .ok (.ireturn, 1) := by decide +kernel
set_option maxRecDepth 20000 in
theorem ggX8_keepsCoefficients_X4_targetOf : GoodIn wsX8_keepsCoefficients wsX4_targetOf := goodIn_r _ [8, 9, 10, 11, 12, 42, 43, 44] (by decide +kernel) (by decide +kernel)
set_option maxRecDepth 20000 in
theorem gX8_keepsCoefficients_X4_targetOf : GoodIn wsX8_keepsCoefficients (wsV RX8 80 RX4 yX4_targetOf wsX4_targetOf) := goodIn_app (goodIn_of _ (by decide +kernel)) ggX8_keepsCoefficients_X4_targetOf
set_option maxRecDepth 20000 in
theorem ggX8_keepsCoefficients_X1_arityOf : GoodIn wsX8_keepsCoefficients wsX1_arityOf := goodIn_r _ [17, 18, 19, 10, 11, 12, 45, 46, 47, 48] (by decide +kernel) (by decide +kernel)
set_option maxRecDepth 20000 in
theorem gX8_keepsCoefficients_X1_arityOf : GoodIn wsX8_keepsCoefficients (wsV RX8 84 RX1 yX1_arityOf wsX1_arityOf) := goodIn_app (goodIn_of _ (by decide +kernel)) ggX8_keepsCoefficients_X1_arityOf
set_option maxRecDepth 20000 in
theorem ggX8_keepsCoefficients_X4_sourceAt : GoodIn wsX8_keepsCoefficients wsX4_sourceAt := goodIn_r _ [23, 24, 10, 11, 12, 42, 43, 44] (by decide +kernel) (by decide +kernel)
set_option maxRecDepth 20000 in
theorem gX8_keepsCoefficients_X4_sourceAt : GoodIn wsX8_keepsCoefficients (wsV RX8 100 RX4 yX4_sourceAt wsX4_sourceAt) := goodIn_app (goodIn_of _ (by decide +kernel)) ggX8_keepsCoefficients_X4_sourceAt
set_option maxRecDepth 20000 in
theorem ggX8_keepsCoefficients_X1_term : GoodIn wsX8_keepsCoefficients wsX1_term := goodIn_r _ [28, 29, 30, 31, 16, 32, 10, 11, 12, 45, 46, 47, 48] (by decide +kernel) (by decide +kernel)
set_option maxRecDepth 20000 in
theorem gX8_keepsCoefficients_X1_term : GoodIn wsX8_keepsCoefficients (wsV RX8 104 RX1 yX1_term wsX1_term) := goodIn_app (goodIn_of _ (by decide +kernel)) ggX8_keepsCoefficients_X1_term
theorem dX8_keepsCoefficients_0 : decode cX8_keepsCoefficients 0 = .ok (.aload_n 0, 1) := by decide +kernel
theorem dX8_keepsCoefficients_1 : decode cX8_keepsCoefficients 1 = .ok (.getfield 40, 3) := by decide +kernel
theorem dX8_keepsCoefficients_4 : decode cX8_keepsCoefficients 4 = .ok (.iload_n 1, 1) := by decide +kernel
theorem dX8_keepsCoefficients_5 : decode cX8_keepsCoefficients 5 = .ok (.invokevirtual 80, 3) := by decide +kernel
theorem dX8_keepsCoefficients_8 : decode cX8_keepsCoefficients 8 = .ok (.istore_n 3, 1) := by decide +kernel
theorem dX8_keepsCoefficients_9 : decode cX8_keepsCoefficients 9 = .ok (.iconst 0, 1) := by decide +kernel
theorem dX8_keepsCoefficients_10 : decode cX8_keepsCoefficients 10 = .ok (.istore 4, 2) := by decide +kernel
theorem dX8_keepsCoefficients_12 : decode cX8_keepsCoefficients 12 = .ok (.iload 4, 2) := by decide +kernel
theorem dX8_keepsCoefficients_14 : decode cX8_keepsCoefficients 14 = .ok (.aload_n 0, 1) := by decide +kernel
theorem dX8_keepsCoefficients_15 : decode cX8_keepsCoefficients 15 = .ok (.getfield 14, 3) := by decide +kernel
theorem dX8_keepsCoefficients_18 : decode cX8_keepsCoefficients 18 = .ok (.iload_n 1, 1) := by decide +kernel
theorem dX8_keepsCoefficients_19 : decode cX8_keepsCoefficients 19 = .ok (.invokevirtual 84, 3) := by decide +kernel
theorem dX8_keepsCoefficients_22 : decode cX8_keepsCoefficients 22 = .ok (.if_icmp .ge 78, 3) := by decide +kernel
theorem dX8_keepsCoefficients_25 : decode cX8_keepsCoefficients 25 = .ok (.iconst 0, 1) := by decide +kernel
theorem dX8_keepsCoefficients_26 : decode cX8_keepsCoefficients 26 = .ok (.istore 5, 2) := by decide +kernel
theorem dX8_keepsCoefficients_28 : decode cX8_keepsCoefficients 28 = .ok (.iconst 0, 1) := by decide +kernel
theorem dX8_keepsCoefficients_29 : decode cX8_keepsCoefficients 29 = .ok (.istore 6, 2) := by decide +kernel
theorem dX8_keepsCoefficients_31 : decode cX8_keepsCoefficients 31 = .ok (.iload 6, 2) := by decide +kernel
theorem dX8_keepsCoefficients_33 : decode cX8_keepsCoefficients 33 = .ok (.iload_n 2, 1) := by decide +kernel
theorem dX8_keepsCoefficients_34 : decode cX8_keepsCoefficients 34 = .ok (.if_icmp .ge 39, 3) := by decide +kernel
theorem dX8_keepsCoefficients_37 : decode cX8_keepsCoefficients 37 = .ok (.aload_n 0, 1) := by decide +kernel
theorem dX8_keepsCoefficients_38 : decode cX8_keepsCoefficients 38 = .ok (.getfield 40, 3) := by decide +kernel
theorem dX8_keepsCoefficients_41 : decode cX8_keepsCoefficients 41 = .ok (.iload_n 1, 1) := by decide +kernel
theorem dX8_keepsCoefficients_42 : decode cX8_keepsCoefficients 42 = .ok (.iload 6, 2) := by decide +kernel
theorem dX8_keepsCoefficients_44 : decode cX8_keepsCoefficients 44 = .ok (.invokevirtual 100, 3) := by decide +kernel
theorem dX8_keepsCoefficients_47 : decode cX8_keepsCoefficients 47 = .ok (.iload 4, 2) := by decide +kernel
theorem dX8_keepsCoefficients_49 : decode cX8_keepsCoefficients 49 = .ok (.if_icmp .ne 18, 3) := by decide +kernel
theorem dX8_keepsCoefficients_52 : decode cX8_keepsCoefficients 52 = .ok (.iload 5, 2) := by decide +kernel
theorem dX8_keepsCoefficients_54 : decode cX8_keepsCoefficients 54 = .ok (.aload_n 0, 1) := by decide +kernel
theorem dX8_keepsCoefficients_55 : decode cX8_keepsCoefficients 55 = .ok (.getfield 20, 3) := by decide +kernel
theorem dX8_keepsCoefficients_58 : decode cX8_keepsCoefficients 58 = .ok (.iload_n 3, 1) := by decide +kernel
theorem dX8_keepsCoefficients_59 : decode cX8_keepsCoefficients 59 = .ok (.iload 6, 2) := by decide +kernel
theorem dX8_keepsCoefficients_61 : decode cX8_keepsCoefficients 61 = .ok (.invokevirtual 104, 3) := by decide +kernel
theorem dX8_keepsCoefficients_64 : decode cX8_keepsCoefficients 64 = .ok (.iadd, 1) := by decide +kernel
theorem dX8_keepsCoefficients_65 : decode cX8_keepsCoefficients 65 = .ok (.istore 5, 2) := by decide +kernel
theorem dX8_keepsCoefficients_67 : decode cX8_keepsCoefficients 67 = .ok (.iinc 6 1, 3) := by decide +kernel
theorem dX8_keepsCoefficients_70 : decode cX8_keepsCoefficients 70 = .ok (.goto (-39), 3) := by decide +kernel
theorem dX8_keepsCoefficients_73 : decode cX8_keepsCoefficients 73 = .ok (.iload 5, 2) := by decide +kernel
theorem dX8_keepsCoefficients_75 : decode cX8_keepsCoefficients 75 = .ok (.sipush 1000, 3) := by decide +kernel
theorem dX8_keepsCoefficients_78 : decode cX8_keepsCoefficients 78 = .ok (.irem, 1) := by decide +kernel
theorem dX8_keepsCoefficients_79 : decode cX8_keepsCoefficients 79 = .ok (.aload_n 0, 1) := by decide +kernel
theorem dX8_keepsCoefficients_80 : decode cX8_keepsCoefficients 80 = .ok (.getfield 14, 3) := by decide +kernel
theorem dX8_keepsCoefficients_83 : decode cX8_keepsCoefficients 83 = .ok (.iload_n 1, 1) := by decide +kernel
theorem dX8_keepsCoefficients_84 : decode cX8_keepsCoefficients 84 = .ok (.iload 4, 2) := by decide +kernel
theorem dX8_keepsCoefficients_86 : decode cX8_keepsCoefficients 86 = .ok (.invokevirtual 104, 3) := by decide +kernel
theorem dX8_keepsCoefficients_89 : decode cX8_keepsCoefficients 89 = .ok (.if_icmp .eq 5, 3) := by decide +kernel
theorem dX8_keepsCoefficients_92 : decode cX8_keepsCoefficients 92 = .ok (.iconst 0, 1) := by decide +kernel
theorem dX8_keepsCoefficients_93 : decode cX8_keepsCoefficients 93 = .ok (.ireturn, 1) := by decide +kernel
theorem dX8_keepsCoefficients_94 : decode cX8_keepsCoefficients 94 = .ok (.iinc 4 1, 3) := by decide +kernel
theorem dX8_keepsCoefficients_97 : decode cX8_keepsCoefficients 97 = .ok (.goto (-85), 3) := by decide +kernel
theorem dX8_keepsCoefficients_100 : decode cX8_keepsCoefficients 100 = .ok (.iconst 1, 1) := by decide +kernel
theorem dX8_keepsCoefficients_101 : decode cX8_keepsCoefficients 101 = .ok (.ireturn, 1) := by decide +kernel
set_option maxRecDepth 20000 in
theorem ggX8_canUseAdapter_X8_adapterNumber : GoodIn wsX8_canUseAdapter wsX8_adapterNumber := goodIn_r _ [7, 8, 9, 10, 11, 12, 13, 14, 15, 16, 17, 18, 19, 20] (by decide +kernel) (by decide +kernel)
set_option maxRecDepth 20000 in
theorem gX8_canUseAdapter_X8_adapterNumber : GoodIn wsX8_canUseAdapter (wsV RX8 110 RX8 yX8_adapterNumber wsX8_adapterNumber) := goodIn_app (goodIn_of _ (by decide +kernel)) ggX8_canUseAdapter_X8_adapterNumber
theorem dX8_canUseAdapter_0 : decode cX8_canUseAdapter 0 = .ok (.aload_n 0, 1) := by decide +kernel
theorem dX8_canUseAdapter_1 : decode cX8_canUseAdapter 1 = .ok (.getfield 34, 3) := by decide +kernel
theorem dX8_canUseAdapter_4 : decode cX8_canUseAdapter 4 = .ok (.iconst 1, 1) := by decide +kernel
theorem dX8_canUseAdapter_5 : decode cX8_canUseAdapter 5 = .ok (.if_icmp .ne 24, 3) := by decide +kernel
theorem dX8_canUseAdapter_8 : decode cX8_canUseAdapter 8 = .ok (.aload_n 0, 1) := by decide +kernel
theorem dX8_canUseAdapter_9 : decode cX8_canUseAdapter 9 = .ok (.iload_n 1, 1) := by decide +kernel
theorem dX8_canUseAdapter_10 : decode cX8_canUseAdapter 10 = .ok (.invokevirtual 110, 3) := by decide +kernel
theorem dX8_canUseAdapter_13 : decode cX8_canUseAdapter 13 = .ok (.iconst (-1), 1) := by decide +kernel
theorem dX8_canUseAdapter_14 : decode cX8_canUseAdapter 14 = .ok (.if_icmp .ne 11, 3) := by decide +kernel
theorem dX8_canUseAdapter_17 : decode cX8_canUseAdapter 17 = .ok (.aload_n 0, 1) := by decide +kernel
theorem dX8_canUseAdapter_18 : decode cX8_canUseAdapter 18 = .ok (.getfield 26, 3) := by decide +kernel
theorem dX8_canUseAdapter_21 : decode cX8_canUseAdapter 21 = .ok (.iconst 4, 1) := by decide +kernel
theorem dX8_canUseAdapter_22 : decode cX8_canUseAdapter 22 = .ok (.if_icmp .ge 7, 3) := by decide +kernel
theorem dX8_canUseAdapter_25 : decode cX8_canUseAdapter 25 = .ok (.iconst 1, 1) := by decide +kernel
theorem dX8_canUseAdapter_26 : decode cX8_canUseAdapter 26 = .ok (.goto 4, 3) := by decide +kernel
theorem dX8_canUseAdapter_29 : decode cX8_canUseAdapter 29 = .ok (.iconst 0, 1) := by decide +kernel
theorem dX8_canUseAdapter_30 : decode cX8_canUseAdapter 30 = .ok (.ireturn, 1) := by decide +kernel
set_option maxRecDepth 20000 in
theorem ggX8_adapterNumber_X9_within : GoodIn wsX8_adapterNumber wsX9_within := goodIn_r _ [4] (by decide +kernel) (by decide +kernel)
set_option maxRecDepth 20000 in
theorem gX8_adapterNumber_X9_within_n113 : GoodIn wsX8_adapterNumber (wsX9_within) := ggX8_adapterNumber_X9_within
theorem dX8_adapterNumber_0 : decode cX8_adapterNumber 0 = .ok (.iload_n 1, 1) := by decide +kernel
theorem dX8_adapterNumber_1 : decode cX8_adapterNumber 1 = .ok (.iconst 0, 1) := by decide +kernel
theorem dX8_adapterNumber_2 : decode cX8_adapterNumber 2 = .ok (.iconst 5, 1) := by decide +kernel
theorem dX8_adapterNumber_3 : decode cX8_adapterNumber 3 = .ok (.invokestatic 113, 3) := by decide +kernel
theorem dX8_adapterNumber_6 : decode cX8_adapterNumber 6 = .ok (.ifCond .eq 12, 3) := by decide +kernel
theorem dX8_adapterNumber_9 : decode cX8_adapterNumber 9 = .ok (.aload_n 0, 1) := by decide +kernel
theorem dX8_adapterNumber_10 : decode cX8_adapterNumber 10 = .ok (.getfield 30, 3) := by decide +kernel
theorem dX8_adapterNumber_13 : decode cX8_adapterNumber 13 = .ok (.iload_n 1, 1) := by decide +kernel
theorem dX8_adapterNumber_14 : decode cX8_adapterNumber 14 = .ok (.iaload, 1) := by decide +kernel
theorem dX8_adapterNumber_15 : decode cX8_adapterNumber 15 = .ok (.goto 4, 3) := by decide +kernel
theorem dX8_adapterNumber_18 : decode cX8_adapterNumber 18 = .ok (.iconst (-1), 1) := by decide +kernel
theorem dX8_adapterNumber_19 : decode cX8_adapterNumber 19 = .ok (.ireturn, 1) := by decide +kernel
set_option maxRecDepth 20000 in
theorem ggX8_provideAdapter_X9_within : GoodIn wsX8_provideAdapter wsX9_within := goodIn_r _ [7] (by decide +kernel) (by decide +kernel)
set_option maxRecDepth 20000 in
theorem gX8_provideAdapter_X9_within_n113 : GoodIn wsX8_provideAdapter (wsX9_within) := ggX8_provideAdapter_X9_within
set_option maxRecDepth 20000 in
theorem ggX8_provideAdapter_X1_copyFunction : GoodIn wsX8_provideAdapter wsX1_copyFunction := goodIn_r _ [12, 13, 14, 15, 16, 17, 18, 19, 20, 5, 6, 7, 35, 36, 37, 38] (by decide +kernel) (by decide +kernel)
set_option maxRecDepth 20000 in
theorem gX8_provideAdapter_X1_copyFunction : GoodIn wsX8_provideAdapter (wsV RX8 116 RX1 yX1_copyFunction wsX1_copyFunction) := goodIn_app (goodIn_of _ (by decide +kernel)) ggX8_provideAdapter_X1_copyFunction
set_option maxRecDepth 20000 in
theorem ggX8_provideAdapter_X8_adapterNumber : GoodIn wsX8_provideAdapter wsX8_adapterNumber := goodIn_r _ [25, 1, 5, 6, 7, 26, 27, 28, 29, 30, 31, 32, 33, 34] (by decide +kernel) (by decide +kernel)
set_option maxRecDepth 20000 in
theorem gX8_provideAdapter_X8_adapterNumber : GoodIn wsX8_provideAdapter (wsV RX8 110 RX8 yX8_adapterNumber wsX8_adapterNumber) := goodIn_app (goodIn_of _ (by decide +kernel)) ggX8_provideAdapter_X8_adapterNumber
theorem dX8_provideAdapter_0 : decode cX8_provideAdapter 0 = .ok (.iload_n 1, 1) := by decide +kernel
theorem dX8_provideAdapter_1 : decode cX8_provideAdapter 1 = .ok (.iconst 0, 1) := by decide +kernel
theorem dX8_provideAdapter_2 : decode cX8_provideAdapter 2 = .ok (.iconst 5, 1) := by decide +kernel
theorem dX8_provideAdapter_3 : decode cX8_provideAdapter 3 = .ok (.invokestatic 113, 3) := by decide +kernel
theorem dX8_provideAdapter_6 : decode cX8_provideAdapter 6 = .ok (.ifCond .eq 49, 3) := by decide +kernel
theorem dX8_provideAdapter_9 : decode cX8_provideAdapter 9 = .ok (.aload_n 0, 1) := by decide +kernel
theorem dX8_provideAdapter_10 : decode cX8_provideAdapter 10 = .ok (.getfield 30, 3) := by decide +kernel
theorem dX8_provideAdapter_13 : decode cX8_provideAdapter 13 = .ok (.iload_n 1, 1) := by decide +kernel
theorem dX8_provideAdapter_14 : decode cX8_provideAdapter 14 = .ok (.iaload, 1) := by decide +kernel
theorem dX8_provideAdapter_15 : decode cX8_provideAdapter 15 = .ok (.iconst (-1), 1) := by decide +kernel
theorem dX8_provideAdapter_16 : decode cX8_provideAdapter 16 = .ok (.if_icmp .ne 39, 3) := by decide +kernel
theorem dX8_provideAdapter_19 : decode cX8_provideAdapter 19 = .ok (.aload_n 0, 1) := by decide +kernel
theorem dX8_provideAdapter_20 : decode cX8_provideAdapter 20 = .ok (.getfield 23, 3) := by decide +kernel
theorem dX8_provideAdapter_23 : decode cX8_provideAdapter 23 = .ok (.aload_n 0, 1) := by decide +kernel
theorem dX8_provideAdapter_24 : decode cX8_provideAdapter 24 = .ok (.getfield 26, 3) := by decide +kernel
theorem dX8_provideAdapter_27 : decode cX8_provideAdapter 27 = .ok (.aload_n 0, 1) := by decide +kernel
theorem dX8_provideAdapter_28 : decode cX8_provideAdapter 28 = .ok (.getfield 14, 3) := by decide +kernel
theorem dX8_provideAdapter_31 : decode cX8_provideAdapter 31 = .ok (.iload_n 1, 1) := by decide +kernel
theorem dX8_provideAdapter_32 : decode cX8_provideAdapter 32 = .ok (.invokevirtual 116, 3) := by decide +kernel
theorem dX8_provideAdapter_35 : decode cX8_provideAdapter 35 = .ok (.aload_n 0, 1) := by decide +kernel
theorem dX8_provideAdapter_36 : decode cX8_provideAdapter 36 = .ok (.getfield 30, 3) := by decide +kernel
theorem dX8_provideAdapter_39 : decode cX8_provideAdapter 39 = .ok (.iload_n 1, 1) := by decide +kernel
theorem dX8_provideAdapter_40 : decode cX8_provideAdapter 40 = .ok (.aload_n 0, 1) := by decide +kernel
theorem dX8_provideAdapter_41 : decode cX8_provideAdapter 41 = .ok (.getfield 26, 3) := by decide +kernel
theorem dX8_provideAdapter_44 : decode cX8_provideAdapter 44 = .ok (.iastore, 1) := by decide +kernel
theorem dX8_provideAdapter_45 : decode cX8_provideAdapter 45 = .ok (.aload_n 0, 1) := by decide +kernel
theorem dX8_provideAdapter_46 : decode cX8_provideAdapter 46 = .ok (.dup, 1) := by decide +kernel
theorem dX8_provideAdapter_47 : decode cX8_provideAdapter 47 = .ok (.getfield 26, 3) := by decide +kernel
theorem dX8_provideAdapter_50 : decode cX8_provideAdapter 50 = .ok (.iconst 1, 1) := by decide +kernel
theorem dX8_provideAdapter_51 : decode cX8_provideAdapter 51 = .ok (.iadd, 1) := by decide +kernel
theorem dX8_provideAdapter_52 : decode cX8_provideAdapter 52 = .ok (.putfield 26, 3) := by decide +kernel
theorem dX8_provideAdapter_55 : decode cX8_provideAdapter 55 = .ok (.aload_n 0, 1) := by decide +kernel
theorem dX8_provideAdapter_56 : decode cX8_provideAdapter 56 = .ok (.iload_n 1, 1) := by decide +kernel
theorem dX8_provideAdapter_57 : decode cX8_provideAdapter 57 = .ok (.invokevirtual 110, 3) := by decide +kernel
theorem dX8_provideAdapter_60 : decode cX8_provideAdapter 60 = .ok (.ireturn, 1) := by decide +kernel
set_option maxRecDepth 20000 in
theorem ggX8_hasEffect_X9_isCall : GoodIn wsX8_hasEffect wsX9_isCall := goodIn_r _ [11] (by decide +kernel) (by decide +kernel)
set_option maxRecDepth 20000 in
theorem gX8_hasEffect_X9_isCall_n131 : GoodIn wsX8_hasEffect (wsX9_isCall) := ggX8_hasEffect_X9_isCall
set_option maxRecDepth 20000 in
theorem ggX8_hasEffect_X8_tableOf : GoodIn wsX8_hasEffect wsX8_tableOf := goodIn_r _ [16, 17, 18, 19, 29, 30, 31, 32, 33, 34, 35, 36, 37] (by decide +kernel) (by decide +kernel)
set_option maxRecDepth 20000 in
theorem gX8_hasEffect_X8_tableOf : GoodIn wsX8_hasEffect (wsV RX8 135 RX8 yX8_tableOf wsX8_tableOf) := goodIn_app (goodIn_of _ (by decide +kernel)) ggX8_hasEffect_X8_tableOf
set_option maxRecDepth 20000 in
theorem ggX8_hasEffect_X1_effectOf : GoodIn wsX8_hasEffect wsX1_effectOf := goodIn_r _ [24, 25, 26, 27, 10, 28, 42, 43, 44, 45] (by decide +kernel) (by decide +kernel)
set_option maxRecDepth 20000 in
theorem gX8_hasEffect_X1_effectOf : GoodIn wsX8_hasEffect (wsV RX8 142 RX1 yX1_effectOf wsX1_effectOf) := goodIn_app (goodIn_of _ (by decide +kernel)) ggX8_hasEffect_X1_effectOf
theorem dX8_hasEffect_0 : decode cX8_hasEffect 0 = .ok (.iload_n 1, 1) := by decide +kernel
theorem dX8_hasEffect_1 : decode cX8_hasEffect 1 = .ok (.iconst 0, 1) := by decide +kernel
theorem dX8_hasEffect_2 : decode cX8_hasEffect 2 = .ok (.invokestatic 120, 3) := by decide +kernel
theorem dX8_hasEffect_5 : decode cX8_hasEffect 5 = .ok (.istore_n 3, 1) := by decide +kernel
theorem dX8_hasEffect_6 : decode cX8_hasEffect 6 = .ok (.iload_n 3, 1) := by decide +kernel
theorem dX8_hasEffect_7 : decode cX8_hasEffect 7 = .ok (.iload_n 2, 1) := by decide +kernel
theorem dX8_hasEffect_8 : decode cX8_hasEffect 8 = .ok (.if_icmp .ge 63, 3) := by decide +kernel
theorem dX8_hasEffect_11 : decode cX8_hasEffect 11 = .ok (.iload_n 3, 1) := by decide +kernel
theorem dX8_hasEffect_12 : decode cX8_hasEffect 12 = .ok (.aload_n 0, 1) := by decide +kernel
theorem dX8_hasEffect_13 : decode cX8_hasEffect 13 = .ok (.getfield 47, 3) := by decide +kernel
theorem dX8_hasEffect_16 : decode cX8_hasEffect 16 = .ok (.getfield 125, 3) := by decide +kernel
theorem dX8_hasEffect_19 : decode cX8_hasEffect 19 = .ok (.if_icmp .ge 52, 3) := by decide +kernel
theorem dX8_hasEffect_22 : decode cX8_hasEffect 22 = .ok (.aload_n 0, 1) := by decide +kernel
theorem dX8_hasEffect_23 : decode cX8_hasEffect 23 = .ok (.getfield 47, 3) := by decide +kernel
theorem dX8_hasEffect_26 : decode cX8_hasEffect 26 = .ok (.getfield 128, 3) := by decide +kernel
theorem dX8_hasEffect_29 : decode cX8_hasEffect 29 = .ok (.iload_n 3, 1) := by decide +kernel
theorem dX8_hasEffect_30 : decode cX8_hasEffect 30 = .ok (.iaload, 1) := by decide +kernel
theorem dX8_hasEffect_31 : decode cX8_hasEffect 31 = .ok (.istore 4, 2) := by decide +kernel
theorem dX8_hasEffect_33 : decode cX8_hasEffect 33 = .ok (.iload 4, 2) := by decide +kernel
theorem dX8_hasEffect_35 : decode cX8_hasEffect 35 = .ok (.invokestatic 131, 3) := by decide +kernel
theorem dX8_hasEffect_38 : decode cX8_hasEffect 38 = .ok (.ifCond .eq 27, 3) := by decide +kernel
theorem dX8_hasEffect_41 : decode cX8_hasEffect 41 = .ok (.aload_n 0, 1) := by decide +kernel
theorem dX8_hasEffect_42 : decode cX8_hasEffect 42 = .ok (.iload 4, 2) := by decide +kernel
theorem dX8_hasEffect_44 : decode cX8_hasEffect 44 = .ok (.invokevirtual 135, 3) := by decide +kernel
theorem dX8_hasEffect_47 : decode cX8_hasEffect 47 = .ok (.aload_n 0, 1) := by decide +kernel
theorem dX8_hasEffect_48 : decode cX8_hasEffect 48 = .ok (.getfield 47, 3) := by decide +kernel
theorem dX8_hasEffect_51 : decode cX8_hasEffect 51 = .ok (.getfield 139, 3) := by decide +kernel
theorem dX8_hasEffect_54 : decode cX8_hasEffect 54 = .ok (.iload_n 3, 1) := by decide +kernel
theorem dX8_hasEffect_55 : decode cX8_hasEffect 55 = .ok (.iaload, 1) := by decide +kernel
theorem dX8_hasEffect_56 : decode cX8_hasEffect 56 = .ok (.invokevirtual 142, 3) := by decide +kernel
theorem dX8_hasEffect_59 : decode cX8_hasEffect 59 = .ok (.iconst 1, 1) := by decide +kernel
theorem dX8_hasEffect_60 : decode cX8_hasEffect 60 = .ok (.if_icmp .ne 5, 3) := by decide +kernel
theorem dX8_hasEffect_63 : decode cX8_hasEffect 63 = .ok (.iconst 1, 1) := by decide +kernel
theorem dX8_hasEffect_64 : decode cX8_hasEffect 64 = .ok (.ireturn, 1) := by decide +kernel
theorem dX8_hasEffect_65 : decode cX8_hasEffect 65 = .ok (.iinc 3 1, 3) := by decide +kernel
theorem dX8_hasEffect_68 : decode cX8_hasEffect 68 = .ok (.goto (-62), 3) := by decide +kernel
theorem dX8_hasEffect_71 : decode cX8_hasEffect 71 = .ok (.iconst 0, 1) := by decide +kernel
theorem dX8_hasEffect_72 : decode cX8_hasEffect 72 = .ok (.ireturn, 1) := by decide +kernel
set_option maxRecDepth 20000 in
theorem ggX9_init_X8_init : GoodIn wsX9_init wsX8_init := goodIn_r _ [36, 37, 2, 3, 38, 39, 40, 41, 42, 43, 44, 32, 45, 46, 47, 48, 49, 50, 51, 17, 18, 52, 53, 54, 55, 56, 57, 58, 59, 60, 61, 62, 63, 64, 65, 66, 67, 68, 69, 70, 71, 72, 73, 74, 75, 76, 77, 78, 79, 80, 81, 82, 83, 84, 85, 86, 87, 88, 89, 159, 160, 161, 162, 124, 125, 126, 127, 128, 129, 130, 131, 132, 163, 164, 165, 146, 147, 148, 149] (by decide +kernel) (by decide +kernel)
set_option maxRecDepth 20000 in
theorem gX9_init_X8_init : GoodIn wsX9_init (wsX8_init) := ggX9_init_X8_init
set_option maxRecDepth 20000 in
theorem ggX9_init_X2_init : GoodIn wsX9_init wsX2_init := goodIn_r _ [92, 93, 2, 3, 94, 95, 96, 5, 6, 97, 35, 36, 37, 38, 39, 40, 41, 42, 43, 44, 32, 45, 46, 47, 48, 49, 50, 51, 17, 18, 52, 53, 54, 55, 56, 57, 58, 59, 60, 61, 62, 63, 64, 65, 66, 67, 68, 69, 70, 71, 72, 73, 74, 75, 76, 77, 78, 79, 80, 81, 82, 83, 84, 85, 86, 87, 88, 89, 141, 142, 124, 125, 126, 127, 128, 129, 130, 131, 132, 159, 160, 161, 162, 163, 164, 165, 146, 147, 148, 149] (by decide +kernel) (by decide +kernel)
set_option maxRecDepth 20000 in
theorem gX9_init_X2_init : GoodIn wsX9_init (wsX2_init) := ggX9_init_X2_init
set_option maxRecDepth 20000 in
theorem ggX9_init_X3_init : GoodIn wsX9_init wsX3_init := goodIn_r _ [99, 100, 2, 3, 32, 101, 102, 103, 143, 144, 145] (by decide +kernel) (by decide +kernel)
set_option maxRecDepth 20000 in
theorem gX9_init_X3_init_n25 : GoodIn wsX9_init (wsX3_init) := ggX9_init_X3_init
set_option maxRecDepth 20000 in
theorem ggX9_init_X6_init : GoodIn wsX9_init wsX6_init := goodIn_r _ [79, 80, 2, 3, 81, 32, 82, 83, 84, 146, 147, 148, 149] (by decide +kernel) (by decide +kernel)
set_option maxRecDepth 20000 in
theorem gX9_init_X6_init_n32 : GoodIn wsX9_init (wsX6_init) := ggX9_init_X6_init
set_option maxRecDepth 20000 in
theorem ggX9_init_X7_init : GoodIn wsX9_init wsX7_init := goodIn_r _ [105, 106, 2, 3, 32, 107, 108, 109, 110, 150, 151, 152, 153] (by decide +kernel) (by decide +kernel)
set_option maxRecDepth 20000 in
theorem gX9_init_X7_init_n39 : GoodIn wsX9_init (wsX7_init) := ggX9_init_X7_init
set_option maxRecDepth 20000 in
theorem ggX9_init_X0_init : GoodIn wsX9_init wsX0_init := goodIn_r _ [112, 113, 2, 3, 32, 114, 115, 154, 155] (by decide +kernel) (by decide +kernel)
set_option maxRecDepth 20000 in
theorem gX9_init_X0_init_n46 : GoodIn wsX9_init (wsX0_init) := ggX9_init_X0_init
set_option maxRecDepth 20000 in
theorem ggX9_init_X5_init : GoodIn wsX9_init wsX5_init := goodIn_r _ [117, 118, 2, 3, 119, 17, 18, 120, 32, 121, 122, 123, 78, 79, 80, 81, 82, 83, 84, 146, 147, 148, 149, 156, 157, 158] (by decide +kernel) (by decide +kernel)
set_option maxRecDepth 20000 in
theorem gX9_init_X5_init_n53 : GoodIn wsX9_init (wsX5_init) := ggX9_init_X5_init
theorem dX9_init_0 : decode cX9_init 0 = .ok (.aload_n 0, 1) := by decide +kernel
theorem dX9_init_1 : decode cX9_init 1 = .ok (.invokespecial 1, 3) := by decide +kernel
theorem dX9_init_4 : decode cX9_init 4 = .ok (.aload_n 0, 1) := by decide +kernel
theorem dX9_init_5 : decode cX9_init 5 = .ok (.new 7, 3) := by decide +kernel
theorem dX9_init_8 : decode cX9_init 8 = .ok (.dup, 1) := by decide +kernel
theorem dX9_init_9 : decode cX9_init 9 = .ok (.invokespecial 9, 3) := by decide +kernel
theorem dX9_init_12 : decode cX9_init 12 = .ok (.putfield 10, 3) := by decide +kernel
theorem dX9_init_15 : decode cX9_init 15 = .ok (.aload_n 0, 1) := by decide +kernel
theorem dX9_init_16 : decode cX9_init 16 = .ok (.new 16, 3) := by decide +kernel
theorem dX9_init_19 : decode cX9_init 19 = .ok (.dup, 1) := by decide +kernel
theorem dX9_init_20 : decode cX9_init 20 = .ok (.invokespecial 18, 3) := by decide +kernel
theorem dX9_init_23 : decode cX9_init 23 = .ok (.putfield 19, 3) := by decide +kernel
theorem dX9_init_26 : decode cX9_init 26 = .ok (.aload_n 0, 1) := by decide +kernel
theorem dX9_init_27 : decode cX9_init 27 = .ok (.new 23, 3) := by decide +kernel
theorem dX9_init_30 : decode cX9_init 30 = .ok (.dup, 1) := by decide +kernel
theorem dX9_init_31 : decode cX9_init 31 = .ok (.invokespecial 25, 3) := by decide +kernel
theorem dX9_init_34 : decode cX9_init 34 = .ok (.putfield 26, 3) := by decide +kernel
theorem dX9_init_37 : decode cX9_init 37 = .ok (.aload_n 0, 1) := by decide +kernel
theorem dX9_init_38 : decode cX9_init 38 = .ok (.new 30, 3) := by decide +kernel
theorem dX9_init_41 : decode cX9_init 41 = .ok (.dup, 1) := by decide +kernel
theorem dX9_init_42 : decode cX9_init 42 = .ok (.invokespecial 32, 3) := by decide +kernel
theorem dX9_init_45 : decode cX9_init 45 = .ok (.putfield 33, 3) := by decide +kernel
theorem dX9_init_48 : decode cX9_init 48 = .ok (.aload_n 0, 1) := by decide +kernel
theorem dX9_init_49 : decode cX9_init 49 = .ok (.new 37, 3) := by decide +kernel
theorem dX9_init_52 : decode cX9_init 52 = .ok (.dup, 1) := by decide +kernel
theorem dX9_init_53 : decode cX9_init 53 = .ok (.invokespecial 39, 3) := by decide +kernel
theorem dX9_init_56 : decode cX9_init 56 = .ok (.putfield 40, 3) := by decide +kernel
theorem dX9_init_59 : decode cX9_init 59 = .ok (.aload_n 0, 1) := by decide +kernel
theorem dX9_init_60 : decode cX9_init 60 = .ok (.new 44, 3) := by decide +kernel
theorem dX9_init_63 : decode cX9_init 63 = .ok (.dup, 1) := by decide +kernel
theorem dX9_init_64 : decode cX9_init 64 = .ok (.invokespecial 46, 3) := by decide +kernel
theorem dX9_init_67 : decode cX9_init 67 = .ok (.putfield 47, 3) := by decide +kernel
theorem dX9_init_70 : decode cX9_init 70 = .ok (.aload_n 0, 1) := by decide +kernel
theorem dX9_init_71 : decode cX9_init 71 = .ok (.new 51, 3) := by decide +kernel
theorem dX9_init_74 : decode cX9_init 74 = .ok (.dup, 1) := by decide +kernel
theorem dX9_init_75 : decode cX9_init 75 = .ok (.invokespecial 53, 3) := by decide +kernel
theorem dX9_init_78 : decode cX9_init 78 = .ok (.putfield 54, 3) := by decide +kernel
theorem dX9_init_81 : decode cX9_init 81 = .ok (.aload_n 0, 1) := by decide +kernel
theorem dX9_init_82 : decode cX9_init 82 = .ok (.iconst 4, 1) := by decide +kernel
theorem dX9_init_83 : decode cX9_init 83 = .ok (.newarray .int, 2) := by decide +kernel
theorem dX9_init_85 : decode cX9_init 85 = .ok (.putfield 58, 3) := by decide +kernel
theorem dX9_init_88 : decode cX9_init 88 = .ok (.return_, 1) := by decide +kernel
set_option maxRecDepth 20000 in
theorem ggX9_setOld_X9_isOld : GoodIn wsX9_setOld wsX9_isOld := goodIn_r _ [6, 7, 8, 5, 9] (by decide +kernel) (by decide +kernel)
set_option maxRecDepth 20000 in
theorem gX9_setOld_X9_isOld : GoodIn wsX9_setOld (va_wsS RX9 62 yX9_isOld wsX9_isOld) := goodIn_app (goodIn_of _ (by decide +kernel)) ggX9_setOld_X9_isOld
set_option maxRecDepth 20000 in
theorem ggX9_setOld_X9_within : GoodIn wsX9_setOld wsX9_within := goodIn_r _ [9] (by decide +kernel) (by decide +kernel)
set_option maxRecDepth 20000 in
theorem gX9_setOld_X9_within : GoodIn wsX9_setOld (va_wsS RX9 66 yX9_within wsX9_within) := goodIn_app (goodIn_of _ (by decide +kernel)) ggX9_setOld_X9_within
set_option maxRecDepth 20000 in
theorem ggX9_setOld_X9_refuse : GoodIn wsX9_setOld wsX9_refuse := goodIn_r _ [13, 14, 7, 8, 5, 9, 101, 102, 103, 104, 105, 106, 107, 108] (by decide +kernel) (by decide +kernel)
set_option maxRecDepth 20000 in
theorem gX9_setOld_X9_refuse : GoodIn wsX9_setOld (wsV RX9 70 RX9 yX9_refuse wsX9_refuse) := goodIn_app (goodIn_of _ (by decide +kernel)) ggX9_setOld_X9_refuse
set_option maxRecDepth 20000 in
theorem ggX9_setOld_X9_changeShape : GoodIn wsX9_setOld wsX9_changeShape := goodIn_r _ [18, 19, 1, 20, 21, 22, 23, 24, 25, 26, 27, 28, 29, 30, 31, 32, 33, 34, 35, 36, 37, 38, 39, 40, 41, 42, 43, 44, 45, 46, 47, 48, 49, 50, 51, 52, 53, 54, 55, 56, 57, 58, 59, 60, 61, 62, 8, 5, 9, 63, 64, 65, 66, 67, 68, 69, 70, 71, 72, 73, 74, 75, 76, 77, 78, 79, 80, 81, 82, 83, 84, 85, 86, 87, 88, 89, 90, 91, 92, 93, 94, 95, 96, 97, 98, 99, 100, 101, 102, 103, 104, 105, 106, 107, 108, 118, 119, 109, 110, 111, 112, 113, 114, 115, 116, 117, 120, 121, 122, 123, 124, 125, 126, 127, 128, 129, 130] (by decide +kernel) (by decide +kernel)
set_option maxRecDepth 20000 in
theorem gX9_setOld_X9_changeShape : GoodIn wsX9_setOld (wsV RX9 78 RX9 yX9_changeShape wsX9_changeShape) := goodIn_app (goodIn_of _ (by decide +kernel)) ggX9_setOld_X9_changeShape
theorem dX9_setOld_0 : decode cX9_setOld 0 = .ok (.iload_n 1, 1) := by decide +kernel
theorem dX9_setOld_1 : decode cX9_setOld 1 = .ok (.invokestatic 62, 3) := by decide +kernel
theorem dX9_setOld_4 : decode cX9_setOld 4 = .ok (.ifCond .eq 21, 3) := by decide +kernel
theorem dX9_setOld_7 : decode cX9_setOld 7 = .ok (.iload_n 2, 1) := by decide +kernel
theorem dX9_setOld_8 : decode cX9_setOld 8 = .ok (.iconst 0, 1) := by decide +kernel
theorem dX9_setOld_9 : decode cX9_setOld 9 = .ok (.iconst 3, 1) := by decide +kernel
theorem dX9_setOld_10 : decode cX9_setOld 10 = .ok (.invokestatic 66, 3) := by decide +kernel
theorem dX9_setOld_13 : decode cX9_setOld 13 = .ok (.ifCond .eq 12, 3) := by decide +kernel
theorem dX9_setOld_16 : decode cX9_setOld 16 = .ok (.iload_n 3, 1) := by decide +kernel
theorem dX9_setOld_17 : decode cX9_setOld 17 = .ok (.iconst 0, 1) := by decide +kernel
theorem dX9_setOld_18 : decode cX9_setOld 18 = .ok (.iconst 1, 1) := by decide +kernel
theorem dX9_setOld_19 : decode cX9_setOld 19 = .ok (.invokestatic 66, 3) := by decide +kernel
theorem dX9_setOld_22 : decode cX9_setOld 22 = .ok (.ifCond .ne 10, 3) := by decide +kernel
theorem dX9_setOld_25 : decode cX9_setOld 25 = .ok (.aload_n 0, 1) := by decide +kernel
theorem dX9_setOld_26 : decode cX9_setOld 26 = .ok (.bipush (-2), 2) := by decide +kernel
theorem dX9_setOld_28 : decode cX9_setOld 28 = .ok (.invokevirtual 70, 3) := by decide +kernel
theorem dX9_setOld_31 : decode cX9_setOld 31 = .ok (.ireturn, 1) := by decide +kernel
theorem dX9_setOld_32 : decode cX9_setOld 32 = .ok (.aload_n 0, 1) := by decide +kernel
theorem dX9_setOld_33 : decode cX9_setOld 33 = .ok (.aload_n 0, 1) := by decide +kernel
theorem dX9_setOld_34 : decode cX9_setOld 34 = .ok (.getfield 10, 3) := by decide +kernel
theorem dX9_setOld_37 : decode cX9_setOld 37 = .ok (.getfield 74, 3) := by decide +kernel
theorem dX9_setOld_40 : decode cX9_setOld 40 = .ok (.iload_n 1, 1) := by decide +kernel
theorem dX9_setOld_41 : decode cX9_setOld 41 = .ok (.iload_n 2, 1) := by decide +kernel
theorem dX9_setOld_42 : decode cX9_setOld 42 = .ok (.iload_n 3, 1) := by decide +kernel
theorem dX9_setOld_43 : decode cX9_setOld 43 = .ok (.invokevirtual 78, 3) := by decide +kernel
theorem dX9_setOld_46 : decode cX9_setOld 46 = .ok (.ireturn, 1) := by decide +kernel
set_option maxRecDepth 20000 in
theorem ggX9_setNew_X9_isNew : GoodIn wsX9_setNew wsX9_isNew := goodIn_r _ [6, 7, 8, 5, 9] (by decide +kernel) (by decide +kernel)
set_option maxRecDepth 20000 in
theorem gX9_setNew_X9_isNew : GoodIn wsX9_setNew (va_wsS RX9 82 yX9_isNew wsX9_isNew) := goodIn_app (goodIn_of _ (by decide +kernel)) ggX9_setNew_X9_isNew
set_option maxRecDepth 20000 in
theorem ggX9_setNew_X9_within : GoodIn wsX9_setNew wsX9_within := goodIn_r _ [9] (by decide +kernel) (by decide +kernel)
set_option maxRecDepth 20000 in
theorem gX9_setNew_X9_within : GoodIn wsX9_setNew (va_wsS RX9 66 yX9_within wsX9_within) := goodIn_app (goodIn_of _ (by decide +kernel)) ggX9_setNew_X9_within
set_option maxRecDepth 20000 in
theorem ggX9_setNew_X9_refuse : GoodIn wsX9_setNew wsX9_refuse := goodIn_r _ [13, 14, 7, 8, 5, 9, 101, 102, 103, 104, 105, 106, 107, 108] (by decide +kernel) (by decide +kernel)
set_option maxRecDepth 20000 in
theorem gX9_setNew_X9_refuse : GoodIn wsX9_setNew (wsV RX9 70 RX9 yX9_refuse wsX9_refuse) := goodIn_app (goodIn_of _ (by decide +kernel)) ggX9_setNew_X9_refuse
set_option maxRecDepth 20000 in
theorem ggX9_setNew_X9_changeShape : GoodIn wsX9_setNew wsX9_changeShape := goodIn_r _ [18, 19, 1, 20, 21, 22, 23, 24, 25, 26, 27, 28, 29, 30, 31, 32, 33, 34, 35, 36, 37, 38, 39, 40, 41, 42, 43, 44, 45, 46, 47, 48, 49, 50, 51, 52, 53, 54, 55, 56, 57, 58, 59, 60, 61, 62, 8, 5, 9, 63, 64, 65, 66, 67, 68, 69, 70, 71, 72, 73, 74, 75, 76, 77, 78, 79, 80, 81, 82, 83, 84, 85, 86, 87, 88, 89, 90, 91, 92, 93, 94, 95, 96, 97, 98, 99, 100, 101, 102, 103, 104, 105, 106, 107, 108, 118, 119, 109, 110, 111, 112, 113, 114, 115, 116, 117, 120, 121, 122, 123, 124, 125, 126, 127, 128, 129, 130] (by decide +kernel) (by decide +kernel)
set_option maxRecDepth 20000 in
theorem gX9_setNew_X9_changeShape : GoodIn wsX9_setNew (wsV RX9 78 RX9 yX9_changeShape wsX9_changeShape) := goodIn_app (goodIn_of _ (by decide +kernel)) ggX9_setNew_X9_changeShape
theorem dX9_setNew_0 : decode cX9_setNew 0 = .ok (.iload_n 1, 1) := by decide +kernel
theorem dX9_setNew_1 : decode cX9_setNew 1 = .ok (.invokestatic 82, 3) := by decide +kernel
theorem dX9_setNew_4 : decode cX9_setNew 4 = .ok (.ifCond .eq 21, 3) := by decide +kernel
theorem dX9_setNew_7 : decode cX9_setNew 7 = .ok (.iload_n 2, 1) := by decide +kernel
theorem dX9_setNew_8 : decode cX9_setNew 8 = .ok (.iconst 0, 1) := by decide +kernel
theorem dX9_setNew_9 : decode cX9_setNew 9 = .ok (.iconst 4, 1) := by decide +kernel
theorem dX9_setNew_10 : decode cX9_setNew 10 = .ok (.invokestatic 66, 3) := by decide +kernel
theorem dX9_setNew_13 : decode cX9_setNew 13 = .ok (.ifCond .eq 12, 3) := by decide +kernel
theorem dX9_setNew_16 : decode cX9_setNew 16 = .ok (.iload_n 3, 1) := by decide +kernel
theorem dX9_setNew_17 : decode cX9_setNew 17 = .ok (.iconst 0, 1) := by decide +kernel
theorem dX9_setNew_18 : decode cX9_setNew 18 = .ok (.iconst 1, 1) := by decide +kernel
theorem dX9_setNew_19 : decode cX9_setNew 19 = .ok (.invokestatic 66, 3) := by decide +kernel
theorem dX9_setNew_22 : decode cX9_setNew 22 = .ok (.ifCond .ne 10, 3) := by decide +kernel
theorem dX9_setNew_25 : decode cX9_setNew 25 = .ok (.aload_n 0, 1) := by decide +kernel
theorem dX9_setNew_26 : decode cX9_setNew 26 = .ok (.bipush (-2), 2) := by decide +kernel
theorem dX9_setNew_28 : decode cX9_setNew 28 = .ok (.invokevirtual 70, 3) := by decide +kernel
theorem dX9_setNew_31 : decode cX9_setNew 31 = .ok (.ireturn, 1) := by decide +kernel
theorem dX9_setNew_32 : decode cX9_setNew 32 = .ok (.aload_n 0, 1) := by decide +kernel
theorem dX9_setNew_33 : decode cX9_setNew 33 = .ok (.aload_n 0, 1) := by decide +kernel
theorem dX9_setNew_34 : decode cX9_setNew 34 = .ok (.getfield 10, 3) := by decide +kernel
theorem dX9_setNew_37 : decode cX9_setNew 37 = .ok (.getfield 85, 3) := by decide +kernel
theorem dX9_setNew_40 : decode cX9_setNew 40 = .ok (.iload_n 1, 1) := by decide +kernel
theorem dX9_setNew_41 : decode cX9_setNew 41 = .ok (.iload_n 2, 1) := by decide +kernel
theorem dX9_setNew_42 : decode cX9_setNew 42 = .ok (.iload_n 3, 1) := by decide +kernel
theorem dX9_setNew_43 : decode cX9_setNew 43 = .ok (.invokevirtual 78, 3) := by decide +kernel
theorem dX9_setNew_46 : decode cX9_setNew 46 = .ok (.ireturn, 1) := by decide +kernel
set_option maxRecDepth 20000 in
theorem ggX9_setOldTerm_X9_isOld : GoodIn wsX9_setOldTerm wsX9_isOld := goodIn_r _ [6, 7, 8, 5, 9] (by decide +kernel) (by decide +kernel)
set_option maxRecDepth 20000 in
theorem gX9_setOldTerm_X9_isOld : GoodIn wsX9_setOldTerm (va_wsS RX9 62 yX9_isOld wsX9_isOld) := goodIn_app (goodIn_of _ (by decide +kernel)) ggX9_setOldTerm_X9_isOld
set_option maxRecDepth 20000 in
theorem ggX9_setOldTerm_X9_isTermPosition : GoodIn wsX9_setOldTerm wsX9_isTermPosition := goodIn_r _ [12, 7, 8, 5, 9] (by decide +kernel) (by decide +kernel)
set_option maxRecDepth 20000 in
theorem gX9_setOldTerm_X9_isTermPosition : GoodIn wsX9_setOldTerm (va_wsS RX9 88 yX9_isTermPosition wsX9_isTermPosition) := goodIn_app (goodIn_of _ (by decide +kernel)) ggX9_setOldTerm_X9_isTermPosition
set_option maxRecDepth 20000 in
theorem ggX9_setOldTerm_X9_within : GoodIn wsX9_setOldTerm wsX9_within := goodIn_r _ [9] (by decide +kernel) (by decide +kernel)
set_option maxRecDepth 20000 in
theorem gX9_setOldTerm_X9_within : GoodIn wsX9_setOldTerm (va_wsS RX9 66 yX9_within wsX9_within) := goodIn_app (goodIn_of _ (by decide +kernel)) ggX9_setOldTerm_X9_within
set_option maxRecDepth 20000 in
theorem ggX9_setOldTerm_X9_refuse : GoodIn wsX9_setOldTerm wsX9_refuse := goodIn_r _ [16, 17, 7, 8, 5, 9, 107, 108, 109, 110, 111, 112, 113, 114] (by decide +kernel) (by decide +kernel)
set_option maxRecDepth 20000 in
theorem gX9_setOldTerm_X9_refuse : GoodIn wsX9_setOldTerm (wsV RX9 70 RX9 yX9_refuse wsX9_refuse) := goodIn_app (goodIn_of _ (by decide +kernel)) ggX9_setOldTerm_X9_refuse
set_option maxRecDepth 20000 in
theorem ggX9_setOldTerm_X9_changeTerm : GoodIn wsX9_setOldTerm wsX9_changeTerm := goodIn_r _ [21, 22, 1, 23, 24, 25, 26, 27, 28, 29, 30, 31, 32, 33, 34, 35, 36, 37, 38, 39, 40, 41, 42, 43, 44, 45, 46, 47, 48, 49, 50, 51, 52, 53, 54, 55, 56, 57, 58, 59, 60, 61, 62, 63, 64, 65, 8, 5, 9, 66, 67, 68, 69, 70, 71, 72, 73, 74, 75, 76, 77, 78, 79, 80, 81, 82, 83, 84, 85, 86, 87, 88, 89, 90, 91, 92, 93, 94, 95, 96, 97, 98, 99, 100, 101, 102, 103, 104, 105, 106, 107, 108, 109, 110, 111, 112, 113, 114, 124, 125, 115, 116, 117, 118, 119, 120, 121, 122, 123, 126, 127, 128, 129, 130, 131, 132, 133, 134, 135, 136] (by decide +kernel) (by decide +kernel)
set_option maxRecDepth 20000 in
theorem gX9_setOldTerm_X9_changeTerm : GoodIn wsX9_setOldTerm (wsV RX9 91 RX9 yX9_changeTerm wsX9_changeTerm) := goodIn_app (goodIn_of _ (by decide +kernel)) ggX9_setOldTerm_X9_changeTerm
theorem dX9_setOldTerm_0 : decode cX9_setOldTerm 0 = .ok (.iload_n 1, 1) := by decide +kernel
theorem dX9_setOldTerm_1 : decode cX9_setOldTerm 1 = .ok (.invokestatic 62, 3) := by decide +kernel
theorem dX9_setOldTerm_4 : decode cX9_setOldTerm 4 = .ok (.ifCond .eq 20, 3) := by decide +kernel
theorem dX9_setOldTerm_7 : decode cX9_setOldTerm 7 = .ok (.iload_n 2, 1) := by decide +kernel
theorem dX9_setOldTerm_8 : decode cX9_setOldTerm 8 = .ok (.invokestatic 88, 3) := by decide +kernel
theorem dX9_setOldTerm_11 : decode cX9_setOldTerm 11 = .ok (.ifCond .eq 13, 3) := by decide +kernel
theorem dX9_setOldTerm_14 : decode cX9_setOldTerm 14 = .ok (.iload_n 3, 1) := by decide +kernel
theorem dX9_setOldTerm_15 : decode cX9_setOldTerm 15 = .ok (.iconst 0, 1) := by decide +kernel
theorem dX9_setOldTerm_16 : decode cX9_setOldTerm 16 = .ok (.bipush 99, 2) := by decide +kernel
theorem dX9_setOldTerm_18 : decode cX9_setOldTerm 18 = .ok (.invokestatic 66, 3) := by decide +kernel
theorem dX9_setOldTerm_21 : decode cX9_setOldTerm 21 = .ok (.ifCond .ne 10, 3) := by decide +kernel
theorem dX9_setOldTerm_24 : decode cX9_setOldTerm 24 = .ok (.aload_n 0, 1) := by decide +kernel
theorem dX9_setOldTerm_25 : decode cX9_setOldTerm 25 = .ok (.bipush (-2), 2) := by decide +kernel
theorem dX9_setOldTerm_27 : decode cX9_setOldTerm 27 = .ok (.invokevirtual 70, 3) := by decide +kernel
theorem dX9_setOldTerm_30 : decode cX9_setOldTerm 30 = .ok (.ireturn, 1) := by decide +kernel
theorem dX9_setOldTerm_31 : decode cX9_setOldTerm 31 = .ok (.aload_n 0, 1) := by decide +kernel
theorem dX9_setOldTerm_32 : decode cX9_setOldTerm 32 = .ok (.aload_n 0, 1) := by decide +kernel
theorem dX9_setOldTerm_33 : decode cX9_setOldTerm 33 = .ok (.getfield 10, 3) := by decide +kernel
theorem dX9_setOldTerm_36 : decode cX9_setOldTerm 36 = .ok (.getfield 74, 3) := by decide +kernel
theorem dX9_setOldTerm_39 : decode cX9_setOldTerm 39 = .ok (.iload_n 1, 1) := by decide +kernel
theorem dX9_setOldTerm_40 : decode cX9_setOldTerm 40 = .ok (.iload_n 2, 1) := by decide +kernel
theorem dX9_setOldTerm_41 : decode cX9_setOldTerm 41 = .ok (.iload_n 3, 1) := by decide +kernel
theorem dX9_setOldTerm_42 : decode cX9_setOldTerm 42 = .ok (.invokevirtual 91, 3) := by decide +kernel
theorem dX9_setOldTerm_45 : decode cX9_setOldTerm 45 = .ok (.ireturn, 1) := by decide +kernel
set_option maxRecDepth 20000 in
theorem ggX9_setNewTerm_X9_isNew : GoodIn wsX9_setNewTerm wsX9_isNew := goodIn_r _ [6, 7, 8, 5, 9] (by decide +kernel) (by decide +kernel)
set_option maxRecDepth 20000 in
theorem gX9_setNewTerm_X9_isNew : GoodIn wsX9_setNewTerm (va_wsS RX9 82 yX9_isNew wsX9_isNew) := goodIn_app (goodIn_of _ (by decide +kernel)) ggX9_setNewTerm_X9_isNew
set_option maxRecDepth 20000 in
theorem ggX9_setNewTerm_X9_isTermPosition : GoodIn wsX9_setNewTerm wsX9_isTermPosition := goodIn_r _ [12, 7, 8, 5, 9] (by decide +kernel) (by decide +kernel)
set_option maxRecDepth 20000 in
theorem gX9_setNewTerm_X9_isTermPosition : GoodIn wsX9_setNewTerm (va_wsS RX9 88 yX9_isTermPosition wsX9_isTermPosition) := goodIn_app (goodIn_of _ (by decide +kernel)) ggX9_setNewTerm_X9_isTermPosition
set_option maxRecDepth 20000 in
theorem ggX9_setNewTerm_X9_within : GoodIn wsX9_setNewTerm wsX9_within := goodIn_r _ [9] (by decide +kernel) (by decide +kernel)
set_option maxRecDepth 20000 in
theorem gX9_setNewTerm_X9_within : GoodIn wsX9_setNewTerm (va_wsS RX9 66 yX9_within wsX9_within) := goodIn_app (goodIn_of _ (by decide +kernel)) ggX9_setNewTerm_X9_within
