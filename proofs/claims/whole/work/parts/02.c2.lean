set_option maxRecDepth 20000 in
theorem ggX9_setNewTerm_X9_refuse : GoodIn wsX9_setNewTerm wsX9_refuse := goodIn_r _ [16, 17, 7, 8, 5, 9, 107, 108, 109, 110, 111, 112, 113, 114] (by decide +kernel) (by decide +kernel)
set_option maxRecDepth 20000 in
theorem gX9_setNewTerm_X9_refuse : GoodIn wsX9_setNewTerm (wsV RX9 70 RX9 yX9_refuse wsX9_refuse) := goodIn_app (goodIn_of _ (by decide +kernel)) ggX9_setNewTerm_X9_refuse
set_option maxRecDepth 20000 in
theorem ggX9_setNewTerm_X9_changeTerm : GoodIn wsX9_setNewTerm wsX9_changeTerm := goodIn_r _ [21, 22, 1, 23, 24, 25, 26, 27, 28, 29, 30, 31, 32, 33, 34, 35, 36, 37, 38, 39, 40, 41, 42, 43, 44, 45, 46, 47, 48, 49, 50, 51, 52, 53, 54, 55, 56, 57, 58, 59, 60, 61, 62, 63, 64, 65, 8, 5, 9, 66, 67, 68, 69, 70, 71, 72, 73, 74, 75, 76, 77, 78, 79, 80, 81, 82, 83, 84, 85, 86, 87, 88, 89, 90, 91, 92, 93, 94, 95, 96, 97, 98, 99, 100, 101, 102, 103, 104, 105, 106, 107, 108, 109, 110, 111, 112, 113, 114, 124, 125, 115, 116, 117, 118, 119, 120, 121, 122, 123, 126, 127, 128, 129, 130, 131, 132, 133, 134, 135, 136] (by decide +kernel) (by decide +kernel)
set_option maxRecDepth 20000 in
theorem gX9_setNewTerm_X9_changeTerm : GoodIn wsX9_setNewTerm (wsV RX9 91 RX9 yX9_changeTerm wsX9_changeTerm) := goodIn_app (goodIn_of _ (by decide +kernel)) ggX9_setNewTerm_X9_changeTerm
theorem dX9_setNewTerm_0 : decode cX9_setNewTerm 0 = .ok (.iload_n 1, 1) := by decide +kernel
theorem dX9_setNewTerm_1 : decode cX9_setNewTerm 1 = .ok (.invokestatic 82, 3) := by decide +kernel
theorem dX9_setNewTerm_4 : decode cX9_setNewTerm 4 = .ok (.ifCond .eq 20, 3) := by decide +kernel
theorem dX9_setNewTerm_7 : decode cX9_setNewTerm 7 = .ok (.iload_n 2, 1) := by decide +kernel
theorem dX9_setNewTerm_8 : decode cX9_setNewTerm 8 = .ok (.invokestatic 88, 3) := by decide +kernel
theorem dX9_setNewTerm_11 : decode cX9_setNewTerm 11 = .ok (.ifCond .eq 13, 3) := by decide +kernel
theorem dX9_setNewTerm_14 : decode cX9_setNewTerm 14 = .ok (.iload_n 3, 1) := by decide +kernel
theorem dX9_setNewTerm_15 : decode cX9_setNewTerm 15 = .ok (.iconst 0, 1) := by decide +kernel
theorem dX9_setNewTerm_16 : decode cX9_setNewTerm 16 = .ok (.bipush 99, 2) := by decide +kernel
theorem dX9_setNewTerm_18 : decode cX9_setNewTerm 18 = .ok (.invokestatic 66, 3) := by decide +kernel
theorem dX9_setNewTerm_21 : decode cX9_setNewTerm 21 = .ok (.ifCond .ne 10, 3) := by decide +kernel
theorem dX9_setNewTerm_24 : decode cX9_setNewTerm 24 = .ok (.aload_n 0, 1) := by decide +kernel
theorem dX9_setNewTerm_25 : decode cX9_setNewTerm 25 = .ok (.bipush (-2), 2) := by decide +kernel
theorem dX9_setNewTerm_27 : decode cX9_setNewTerm 27 = .ok (.invokevirtual 70, 3) := by decide +kernel
theorem dX9_setNewTerm_30 : decode cX9_setNewTerm 30 = .ok (.ireturn, 1) := by decide +kernel
theorem dX9_setNewTerm_31 : decode cX9_setNewTerm 31 = .ok (.aload_n 0, 1) := by decide +kernel
theorem dX9_setNewTerm_32 : decode cX9_setNewTerm 32 = .ok (.aload_n 0, 1) := by decide +kernel
theorem dX9_setNewTerm_33 : decode cX9_setNewTerm 33 = .ok (.getfield 10, 3) := by decide +kernel
theorem dX9_setNewTerm_36 : decode cX9_setNewTerm 36 = .ok (.getfield 85, 3) := by decide +kernel
theorem dX9_setNewTerm_39 : decode cX9_setNewTerm 39 = .ok (.iload_n 1, 1) := by decide +kernel
theorem dX9_setNewTerm_40 : decode cX9_setNewTerm 40 = .ok (.iload_n 2, 1) := by decide +kernel
theorem dX9_setNewTerm_41 : decode cX9_setNewTerm 41 = .ok (.iload_n 3, 1) := by decide +kernel
theorem dX9_setNewTerm_42 : decode cX9_setNewTerm 42 = .ok (.invokevirtual 91, 3) := by decide +kernel
theorem dX9_setNewTerm_45 : decode cX9_setNewTerm 45 = .ok (.ireturn, 1) := by decide +kernel
set_option maxRecDepth 20000 in
theorem ggX9_map_X9_isOld : GoodIn wsX9_map wsX9_isOld := goodIn_r _ [7, 8, 9, 6, 10] (by decide +kernel) (by decide +kernel)
set_option maxRecDepth 20000 in
theorem gX9_map_X9_isOld : GoodIn wsX9_map (va_wsS RX9 62 yX9_isOld wsX9_isOld) := goodIn_app (goodIn_of _ (by decide +kernel)) ggX9_map_X9_isOld
set_option maxRecDepth 20000 in
theorem ggX9_map_X9_isNew : GoodIn wsX9_map wsX9_isNew := goodIn_r _ [13, 8, 9, 6, 10] (by decide +kernel) (by decide +kernel)
set_option maxRecDepth 20000 in
theorem gX9_map_X9_isNew : GoodIn wsX9_map (va_wsS RX9 82 yX9_isNew wsX9_isNew) := goodIn_app (goodIn_of _ (by decide +kernel)) ggX9_map_X9_isNew
set_option maxRecDepth 20000 in
theorem ggX9_map_X9_refuse : GoodIn wsX9_map wsX9_refuse := goodIn_r _ [17, 18, 8, 9, 6, 10, 152, 153, 154, 155, 156, 157, 158, 159] (by decide +kernel) (by decide +kernel)
set_option maxRecDepth 20000 in
theorem gX9_map_X9_refuse : GoodIn wsX9_map (wsV RX9 70 RX9 yX9_refuse wsX9_refuse) := goodIn_app (goodIn_of _ (by decide +kernel)) ggX9_map_X9_refuse
set_option maxRecDepth 20000 in
theorem ggX9_map_X2_save : GoodIn wsX9_map wsX2_save := goodIn_r _ [23, 24, 25, 26, 27, 28, 22, 29, 30, 31, 32, 33, 34, 35, 36, 37, 38, 39, 40, 41, 42, 43, 44, 45, 46, 47, 48, 49, 50, 51, 52, 53, 54, 55, 56, 57, 58, 59, 60, 61, 9, 6, 10, 62, 63, 64, 65, 66, 67, 68, 69, 70, 71, 72, 73, 74, 75, 76, 77, 78, 79, 80, 81, 82, 83, 84, 85, 86, 87, 88, 89, 90, 91, 169, 170, 160, 161, 162, 163, 164, 165, 166, 167, 168, 171, 172, 173, 174, 175, 176, 177, 178, 179, 180, 181] (by decide +kernel) (by decide +kernel)
set_option maxRecDepth 20000 in
theorem gX9_map_X2_save : GoodIn wsX9_map (wsV RX9 94 RX2 yX2_save wsX2_save) := goodIn_app (goodIn_of _ (by decide +kernel)) ggX9_map_X2_save
set_option maxRecDepth 20000 in
theorem ggX9_map_X4_targetOf : GoodIn wsX9_map wsX4_targetOf := goodIn_r _ [95, 67, 9, 6, 10, 175, 176, 177] (by decide +kernel) (by decide +kernel)
set_option maxRecDepth 20000 in
theorem gX9_map_X4_targetOf : GoodIn wsX9_map (wsV RX9 102 RX4 yX4_targetOf wsX4_targetOf) := goodIn_app (goodIn_of _ (by decide +kernel)) ggX9_map_X4_targetOf
set_option maxRecDepth 20000 in
theorem ggX9_map_X4_resetEntries : GoodIn wsX9_map wsX4_resetEntries := goodIn_r _ [99, 100, 101, 102, 65, 103, 69, 70, 9, 6, 10, 175, 176, 177] (by decide +kernel) (by decide +kernel)
set_option maxRecDepth 20000 in
theorem gX9_map_X4_resetEntries : GoodIn wsX9_map (wsV RX9 107 RX4 yX4_resetEntries wsX4_resetEntries) := goodIn_app (goodIn_of _ (by decide +kernel)) ggX9_map_X4_resetEntries
set_option maxRecDepth 20000 in
theorem ggX9_map_X4_putTarget : GoodIn wsX9_map wsX4_putTarget := goodIn_r _ [107, 67, 9, 6, 10, 175, 176, 177] (by decide +kernel) (by decide +kernel)
set_option maxRecDepth 20000 in
theorem gX9_map_X4_putTarget : GoodIn wsX9_map (wsV RX9 111 RX4 yX4_putTarget wsX4_putTarget) := goodIn_app (goodIn_of _ (by decide +kernel)) ggX9_map_X4_putTarget
set_option maxRecDepth 20000 in
theorem ggX9_map_X9_faithfulness : GoodIn wsX9_map wsX9_faithfulness := goodIn_r _ [111, 2, 112, 113, 114, 33, 115, 45, 116, 117, 118, 119, 36, 120, 93, 94, 65, 95, 67, 9, 6, 10, 121, 122, 123, 51, 124, 53, 58, 125, 126, 127, 128, 35, 129, 130, 131, 132, 69, 133, 134, 135, 136, 137, 138, 139, 140, 60, 141, 142, 143, 144, 145, 146, 147, 70, 148, 149, 150, 151, 152, 153, 154, 155, 156, 157, 158, 159, 160, 161, 162, 163, 164, 165, 166, 167, 168, 175, 176, 177, 171, 172, 173, 174] (by decide +kernel) (by decide +kernel)
set_option maxRecDepth 20000 in
theorem gX9_map_X9_faithfulness : GoodIn wsX9_map (wsV RX9 115 RX9 yX9_faithfulness wsX9_faithfulness) := goodIn_app (goodIn_of _ (by decide +kernel)) ggX9_map_X9_faithfulness
theorem dX9_map_0 : decode cX9_map 0 = .ok (.iload_n 1, 1) := by decide +kernel
theorem dX9_map_1 : decode cX9_map 1 = .ok (.invokestatic 62, 3) := by decide +kernel
theorem dX9_map_4 : decode cX9_map 4 = .ok (.ifCond .eq 10, 3) := by decide +kernel
theorem dX9_map_7 : decode cX9_map 7 = .ok (.iload_n 2, 1) := by decide +kernel
theorem dX9_map_8 : decode cX9_map 8 = .ok (.invokestatic 82, 3) := by decide +kernel
theorem dX9_map_11 : decode cX9_map 11 = .ok (.ifCond .ne 10, 3) := by decide +kernel
theorem dX9_map_14 : decode cX9_map 14 = .ok (.aload_n 0, 1) := by decide +kernel
theorem dX9_map_15 : decode cX9_map 15 = .ok (.bipush (-2), 2) := by decide +kernel
theorem dX9_map_17 : decode cX9_map 17 = .ok (.invokevirtual 70, 3) := by decide +kernel
theorem dX9_map_20 : decode cX9_map 20 = .ok (.ireturn, 1) := by decide +kernel
theorem dX9_map_21 : decode cX9_map 21 = .ok (.aload_n 0, 1) := by decide +kernel
theorem dX9_map_22 : decode cX9_map 22 = .ok (.getfield 19, 3) := by decide +kernel
theorem dX9_map_25 : decode cX9_map 25 = .ok (.aload_n 0, 1) := by decide +kernel
theorem dX9_map_26 : decode cX9_map 26 = .ok (.getfield 10, 3) := by decide +kernel
theorem dX9_map_29 : decode cX9_map 29 = .ok (.invokevirtual 94, 3) := by decide +kernel
theorem dX9_map_32 : decode cX9_map 32 = .ok (.aload_n 0, 1) := by decide +kernel
theorem dX9_map_33 : decode cX9_map 33 = .ok (.getfield 10, 3) := by decide +kernel
theorem dX9_map_36 : decode cX9_map 36 = .ok (.getfield 98, 3) := by decide +kernel
theorem dX9_map_39 : decode cX9_map 39 = .ok (.iload_n 1, 1) := by decide +kernel
theorem dX9_map_40 : decode cX9_map 40 = .ok (.invokevirtual 102, 3) := by decide +kernel
theorem dX9_map_43 : decode cX9_map 43 = .ok (.iconst (-1), 1) := by decide +kernel
theorem dX9_map_44 : decode cX9_map 44 = .ok (.if_icmp .ne 14, 3) := by decide +kernel
theorem dX9_map_47 : decode cX9_map 47 = .ok (.aload_n 0, 1) := by decide +kernel
theorem dX9_map_48 : decode cX9_map 48 = .ok (.getfield 10, 3) := by decide +kernel
theorem dX9_map_51 : decode cX9_map 51 = .ok (.getfield 98, 3) := by decide +kernel
theorem dX9_map_54 : decode cX9_map 54 = .ok (.iload_n 1, 1) := by decide +kernel
theorem dX9_map_55 : decode cX9_map 55 = .ok (.invokevirtual 107, 3) := by decide +kernel
theorem dX9_map_58 : decode cX9_map 58 = .ok (.aload_n 0, 1) := by decide +kernel
theorem dX9_map_59 : decode cX9_map 59 = .ok (.getfield 10, 3) := by decide +kernel
theorem dX9_map_62 : decode cX9_map 62 = .ok (.getfield 98, 3) := by decide +kernel
theorem dX9_map_65 : decode cX9_map 65 = .ok (.iload_n 1, 1) := by decide +kernel
theorem dX9_map_66 : decode cX9_map 66 = .ok (.iload_n 2, 1) := by decide +kernel
theorem dX9_map_67 : decode cX9_map 67 = .ok (.invokevirtual 111, 3) := by decide +kernel
theorem dX9_map_70 : decode cX9_map 70 = .ok (.aload_n 0, 1) := by decide +kernel
theorem dX9_map_71 : decode cX9_map 71 = .ok (.iload_n 1, 1) := by decide +kernel
theorem dX9_map_72 : decode cX9_map 72 = .ok (.invokevirtual 115, 3) := by decide +kernel
theorem dX9_map_75 : decode cX9_map 75 = .ok (.ireturn, 1) := by decide +kernel
set_option maxRecDepth 20000 in
theorem ggX9_unmap_X9_isOld : GoodIn wsX9_unmap wsX9_isOld := goodIn_r _ [7, 8, 9, 6, 10] (by decide +kernel) (by decide +kernel)
set_option maxRecDepth 20000 in
theorem gX9_unmap_X9_isOld : GoodIn wsX9_unmap (va_wsS RX9 62 yX9_isOld wsX9_isOld) := goodIn_app (goodIn_of _ (by decide +kernel)) ggX9_unmap_X9_isOld
set_option maxRecDepth 20000 in
theorem ggX9_unmap_X9_refuse : GoodIn wsX9_unmap wsX9_refuse := goodIn_r _ [14, 15, 8, 9, 6, 10, 97, 98, 99, 100, 101, 102, 103, 104] (by decide +kernel) (by decide +kernel)
set_option maxRecDepth 20000 in
theorem gX9_unmap_X9_refuse : GoodIn wsX9_unmap (wsV RX9 70 RX9 yX9_refuse wsX9_refuse) := goodIn_app (goodIn_of _ (by decide +kernel)) ggX9_unmap_X9_refuse
set_option maxRecDepth 20000 in
theorem ggX9_unmap_X4_targetOf : GoodIn wsX9_unmap wsX4_targetOf := goodIn_r _ [20, 21, 9, 6, 10, 114, 115, 116] (by decide +kernel) (by decide +kernel)
set_option maxRecDepth 20000 in
theorem gX9_unmap_X4_targetOf : GoodIn wsX9_unmap (wsV RX9 102 RX4 yX4_targetOf wsX4_targetOf) := goodIn_app (goodIn_of _ (by decide +kernel)) ggX9_unmap_X4_targetOf
set_option maxRecDepth 20000 in
theorem ggX9_unmap_X2_save : GoodIn wsX9_unmap wsX2_save := goodIn_r _ [26, 27, 28, 29, 30, 31, 25, 32, 33, 34, 35, 36, 37, 38, 39, 40, 41, 42, 43, 44, 45, 46, 47, 48, 49, 50, 51, 52, 53, 54, 55, 56, 57, 58, 59, 60, 61, 62, 63, 64, 9, 6, 10, 65, 66, 67, 19, 68, 21, 69, 70, 71, 72, 73, 74, 75, 76, 77, 78, 79, 80, 81, 82, 83, 84, 85, 86, 87, 88, 89, 90, 91, 92, 117, 118, 105, 106, 107, 108, 109, 110, 111, 112, 113, 119, 120, 121, 122, 114, 115, 116, 123, 124, 125, 126] (by decide +kernel) (by decide +kernel)
set_option maxRecDepth 20000 in
theorem gX9_unmap_X2_save : GoodIn wsX9_unmap (wsV RX9 94 RX2 yX2_save wsX2_save) := goodIn_app (goodIn_of _ (by decide +kernel)) ggX9_unmap_X2_save
set_option maxRecDepth 20000 in
theorem ggX9_unmap_X4_putTarget : GoodIn wsX9_unmap wsX4_putTarget := goodIn_r _ [96, 21, 9, 6, 10, 114, 115, 116] (by decide +kernel) (by decide +kernel)
set_option maxRecDepth 20000 in
theorem gX9_unmap_X4_putTarget : GoodIn wsX9_unmap (wsV RX9 111 RX4 yX4_putTarget wsX4_putTarget) := goodIn_app (goodIn_of _ (by decide +kernel)) ggX9_unmap_X4_putTarget
theorem dX9_unmap_0 : decode cX9_unmap 0 = .ok (.iload_n 1, 1) := by decide +kernel
theorem dX9_unmap_1 : decode cX9_unmap 1 = .ok (.invokestatic 62, 3) := by decide +kernel
theorem dX9_unmap_4 : decode cX9_unmap 4 = .ok (.ifCond .ne 10, 3) := by decide +kernel
theorem dX9_unmap_7 : decode cX9_unmap 7 = .ok (.aload_n 0, 1) := by decide +kernel
theorem dX9_unmap_8 : decode cX9_unmap 8 = .ok (.bipush (-2), 2) := by decide +kernel
theorem dX9_unmap_10 : decode cX9_unmap 10 = .ok (.invokevirtual 70, 3) := by decide +kernel
theorem dX9_unmap_13 : decode cX9_unmap 13 = .ok (.ireturn, 1) := by decide +kernel
theorem dX9_unmap_14 : decode cX9_unmap 14 = .ok (.aload_n 0, 1) := by decide +kernel
theorem dX9_unmap_15 : decode cX9_unmap 15 = .ok (.getfield 10, 3) := by decide +kernel
theorem dX9_unmap_18 : decode cX9_unmap 18 = .ok (.getfield 98, 3) := by decide +kernel
theorem dX9_unmap_21 : decode cX9_unmap 21 = .ok (.iload_n 1, 1) := by decide +kernel
theorem dX9_unmap_22 : decode cX9_unmap 22 = .ok (.invokevirtual 102, 3) := by decide +kernel
theorem dX9_unmap_25 : decode cX9_unmap 25 = .ok (.istore_n 2, 1) := by decide +kernel
theorem dX9_unmap_26 : decode cX9_unmap 26 = .ok (.iload_n 2, 1) := by decide +kernel
theorem dX9_unmap_27 : decode cX9_unmap 27 = .ok (.iconst (-1), 1) := by decide +kernel
theorem dX9_unmap_28 : decode cX9_unmap 28 = .ok (.if_icmp .ne 10, 3) := by decide +kernel
theorem dX9_unmap_31 : decode cX9_unmap 31 = .ok (.aload_n 0, 1) := by decide +kernel
theorem dX9_unmap_32 : decode cX9_unmap 32 = .ok (.bipush (-3), 2) := by decide +kernel
theorem dX9_unmap_34 : decode cX9_unmap 34 = .ok (.invokevirtual 70, 3) := by decide +kernel
theorem dX9_unmap_37 : decode cX9_unmap 37 = .ok (.ireturn, 1) := by decide +kernel
theorem dX9_unmap_38 : decode cX9_unmap 38 = .ok (.aload_n 0, 1) := by decide +kernel
theorem dX9_unmap_39 : decode cX9_unmap 39 = .ok (.getfield 19, 3) := by decide +kernel
theorem dX9_unmap_42 : decode cX9_unmap 42 = .ok (.aload_n 0, 1) := by decide +kernel
theorem dX9_unmap_43 : decode cX9_unmap 43 = .ok (.getfield 10, 3) := by decide +kernel
theorem dX9_unmap_46 : decode cX9_unmap 46 = .ok (.invokevirtual 94, 3) := by decide +kernel
theorem dX9_unmap_49 : decode cX9_unmap 49 = .ok (.aload_n 0, 1) := by decide +kernel
theorem dX9_unmap_50 : decode cX9_unmap 50 = .ok (.getfield 10, 3) := by decide +kernel
theorem dX9_unmap_53 : decode cX9_unmap 53 = .ok (.getfield 98, 3) := by decide +kernel
theorem dX9_unmap_56 : decode cX9_unmap 56 = .ok (.iload_n 1, 1) := by decide +kernel
theorem dX9_unmap_57 : decode cX9_unmap 57 = .ok (.iconst (-1), 1) := by decide +kernel
theorem dX9_unmap_58 : decode cX9_unmap 58 = .ok (.invokevirtual 111, 3) := by decide +kernel
theorem dX9_unmap_61 : decode cX9_unmap 61 = .ok (.iload_n 2, 1) := by decide +kernel
theorem dX9_unmap_62 : decode cX9_unmap 62 = .ok (.ireturn, 1) := by decide +kernel
set_option maxRecDepth 20000 in
theorem ggX9_setSource_X9_isOld : GoodIn wsX9_setSource wsX9_isOld := goodIn_r _ [4, 5, 6, 3, 7] (by decide +kernel) (by decide +kernel)
set_option maxRecDepth 20000 in
theorem gX9_setSource_X9_isOld : GoodIn wsX9_setSource (va_wsS RX9 62 yX9_isOld wsX9_isOld) := goodIn_app (goodIn_of _ (by decide +kernel)) ggX9_setSource_X9_isOld
set_option maxRecDepth 20000 in
theorem ggX9_setSource_X9_isEntryPosition : GoodIn wsX9_setSource wsX9_isEntryPosition := goodIn_r _ [10, 5, 6, 3, 7] (by decide +kernel) (by decide +kernel)
set_option maxRecDepth 20000 in
theorem gX9_setSource_X9_isEntryPosition : GoodIn wsX9_setSource (va_wsS RX9 118 yX9_isEntryPosition wsX9_isEntryPosition) := goodIn_app (goodIn_of _ (by decide +kernel)) ggX9_setSource_X9_isEntryPosition
set_option maxRecDepth 20000 in
theorem ggX9_setSource_X9_isSource : GoodIn wsX9_setSource wsX9_isSource := goodIn_r _ [13, 5, 6, 3, 7] (by decide +kernel) (by decide +kernel)
set_option maxRecDepth 20000 in
theorem gX9_setSource_X9_isSource : GoodIn wsX9_setSource (va_wsS RX9 121 yX9_isSource wsX9_isSource) := goodIn_app (goodIn_of _ (by decide +kernel)) ggX9_setSource_X9_isSource
set_option maxRecDepth 20000 in
theorem ggX9_setSource_X9_refuse : GoodIn wsX9_setSource wsX9_refuse := goodIn_r _ [17, 18, 5, 6, 3, 7, 151, 152, 153, 154, 155, 156, 157, 158] (by decide +kernel) (by decide +kernel)
set_option maxRecDepth 20000 in
theorem gX9_setSource_X9_refuse : GoodIn wsX9_setSource (wsV RX9 70 RX9 yX9_refuse wsX9_refuse) := goodIn_app (goodIn_of _ (by decide +kernel)) ggX9_setSource_X9_refuse
set_option maxRecDepth 20000 in
theorem ggX9_setSource_X9_changeEntry : GoodIn wsX9_setSource wsX9_changeEntry := goodIn_r _ [22, 23, 24, 25, 26, 27, 28, 29, 30, 31, 6, 3, 7, 14, 15, 16, 17, 18, 5, 32, 33, 34, 35, 36, 37, 38, 39, 40, 41, 42, 43, 44, 45, 46, 47, 48, 49, 50, 51, 52, 53, 54, 55, 56, 57, 58, 59, 60, 61, 62, 63, 64, 65, 66, 67, 68, 69, 70, 71, 72, 73, 74, 75, 76, 77, 78, 79, 80, 81, 82, 83, 84, 85, 86, 87, 88, 89, 90, 91, 92, 93, 94, 95, 96, 97, 98, 99, 100, 101, 102, 103, 104, 105, 106, 107, 108, 109, 110, 111, 112, 113, 114, 115, 116, 117, 118, 119, 120, 121, 122, 123, 124, 125, 126, 127, 128, 129, 130, 131, 132, 133, 134, 135, 136, 137, 138, 139, 140, 141, 142, 143, 144, 145, 146, 147, 148, 149, 150, 151, 152, 153, 154, 155, 156, 157, 158, 159, 160, 161, 162, 163, 164, 165, 166, 167, 168, 169, 170, 171, 172, 173, 174, 175, 176, 177, 178, 179, 180] (by decide +kernel) (by decide +kernel)
set_option maxRecDepth 20000 in
theorem gX9_setSource_X9_changeEntry : GoodIn wsX9_setSource (wsV RX9 124 RX9 yX9_changeEntry wsX9_changeEntry) := goodIn_app (goodIn_of _ (by decide +kernel)) ggX9_setSource_X9_changeEntry
theorem dX9_setSource_0 : decode cX9_setSource 0 = .ok (.iload_n 1, 1) := by decide +kernel
theorem dX9_setSource_1 : decode cX9_setSource 1 = .ok (.invokestatic 62, 3) := by decide +kernel
theorem dX9_setSource_4 : decode cX9_setSource 4 = .ok (.ifCond .eq 17, 3) := by decide +kernel
theorem dX9_setSource_7 : decode cX9_setSource 7 = .ok (.iload_n 2, 1) := by decide +kernel
theorem dX9_setSource_8 : decode cX9_setSource 8 = .ok (.invokestatic 118, 3) := by decide +kernel
theorem dX9_setSource_11 : decode cX9_setSource 11 = .ok (.ifCond .eq 10, 3) := by decide +kernel
theorem dX9_setSource_14 : decode cX9_setSource 14 = .ok (.iload_n 3, 1) := by decide +kernel
theorem dX9_setSource_15 : decode cX9_setSource 15 = .ok (.invokestatic 121, 3) := by decide +kernel
theorem dX9_setSource_18 : decode cX9_setSource 18 = .ok (.ifCond .ne 10, 3) := by decide +kernel
theorem dX9_setSource_21 : decode cX9_setSource 21 = .ok (.aload_n 0, 1) := by decide +kernel
theorem dX9_setSource_22 : decode cX9_setSource 22 = .ok (.bipush (-2), 2) := by decide +kernel
theorem dX9_setSource_24 : decode cX9_setSource 24 = .ok (.invokevirtual 70, 3) := by decide +kernel
theorem dX9_setSource_27 : decode cX9_setSource 27 = .ok (.ireturn, 1) := by decide +kernel
theorem dX9_setSource_28 : decode cX9_setSource 28 = .ok (.aload_n 0, 1) := by decide +kernel
theorem dX9_setSource_29 : decode cX9_setSource 29 = .ok (.iload_n 1, 1) := by decide +kernel
theorem dX9_setSource_30 : decode cX9_setSource 30 = .ok (.iload_n 2, 1) := by decide +kernel
theorem dX9_setSource_31 : decode cX9_setSource 31 = .ok (.iload_n 3, 1) := by decide +kernel
theorem dX9_setSource_32 : decode cX9_setSource 32 = .ok (.iconst 0, 1) := by decide +kernel
theorem dX9_setSource_33 : decode cX9_setSource 33 = .ok (.invokevirtual 124, 3) := by decide +kernel
theorem dX9_setSource_36 : decode cX9_setSource 36 = .ok (.ireturn, 1) := by decide +kernel
set_option maxRecDepth 20000 in
theorem ggX9_setConstant_X9_isOld : GoodIn wsX9_setConstant wsX9_isOld := goodIn_r _ [4, 5, 6, 3, 7] (by decide +kernel) (by decide +kernel)
set_option maxRecDepth 20000 in
theorem gX9_setConstant_X9_isOld : GoodIn wsX9_setConstant (va_wsS RX9 62 yX9_isOld wsX9_isOld) := goodIn_app (goodIn_of _ (by decide +kernel)) ggX9_setConstant_X9_isOld
set_option maxRecDepth 20000 in
theorem ggX9_setConstant_X9_isEntryPosition : GoodIn wsX9_setConstant wsX9_isEntryPosition := goodIn_r _ [10, 5, 6, 3, 7] (by decide +kernel) (by decide +kernel)
set_option maxRecDepth 20000 in
theorem gX9_setConstant_X9_isEntryPosition : GoodIn wsX9_setConstant (va_wsS RX9 118 yX9_isEntryPosition wsX9_isEntryPosition) := goodIn_app (goodIn_of _ (by decide +kernel)) ggX9_setConstant_X9_isEntryPosition
set_option maxRecDepth 20000 in
theorem ggX9_setConstant_X9_within : GoodIn wsX9_setConstant wsX9_within := goodIn_r _ [7] (by decide +kernel) (by decide +kernel)
set_option maxRecDepth 20000 in
theorem gX9_setConstant_X9_within : GoodIn wsX9_setConstant (va_wsS RX9 66 yX9_within wsX9_within) := goodIn_app (goodIn_of _ (by decide +kernel)) ggX9_setConstant_X9_within
set_option maxRecDepth 20000 in
theorem ggX9_setConstant_X9_refuse : GoodIn wsX9_setConstant wsX9_refuse := goodIn_r _ [14, 15, 5, 6, 3, 7, 148, 149, 150, 151, 152, 153, 154, 155] (by decide +kernel) (by decide +kernel)
set_option maxRecDepth 20000 in
theorem gX9_setConstant_X9_refuse : GoodIn wsX9_setConstant (wsV RX9 70 RX9 yX9_refuse wsX9_refuse) := goodIn_app (goodIn_of _ (by decide +kernel)) ggX9_setConstant_X9_refuse
set_option maxRecDepth 20000 in
theorem ggX9_setConstant_X9_changeEntry : GoodIn wsX9_setConstant wsX9_changeEntry := goodIn_r _ [19, 20, 21, 22, 23, 24, 25, 26, 27, 28, 6, 3, 7, 11, 12, 13, 14, 15, 5, 29, 30, 31, 32, 33, 34, 35, 36, 37, 38, 39, 40, 41, 42, 43, 44, 45, 46, 47, 48, 49, 50, 51, 52, 53, 54, 55, 56, 57, 58, 59, 60, 61, 62, 63, 64, 65, 66, 67, 68, 69, 70, 71, 72, 73, 74, 75, 76, 77, 78, 79, 80, 81, 82, 83, 84, 85, 86, 87, 88, 89, 90, 91, 92, 93, 94, 95, 96, 97, 98, 99, 100, 101, 102, 103, 104, 105, 106, 107, 108, 109, 110, 111, 112, 113, 114, 115, 116, 117, 118, 119, 120, 121, 122, 123, 124, 125, 126, 127, 128, 129, 130, 131, 132, 133, 134, 135, 136, 137, 138, 139, 140, 141, 142, 143, 144, 145, 146, 147, 148, 149, 150, 151, 152, 153, 154, 155, 156, 157, 158, 159, 160, 161, 162, 163, 164, 165, 166, 167, 168, 169, 170, 171, 172, 173, 174, 175, 176, 177] (by decide +kernel) (by decide +kernel)
set_option maxRecDepth 20000 in
theorem gX9_setConstant_X9_changeEntry : GoodIn wsX9_setConstant (wsV RX9 124 RX9 yX9_changeEntry wsX9_changeEntry) := goodIn_app (goodIn_of _ (by decide +kernel)) ggX9_setConstant_X9_changeEntry
theorem dX9_setConstant_0 : decode cX9_setConstant 0 = .ok (.iload_n 1, 1) := by decide +kernel
theorem dX9_setConstant_1 : decode cX9_setConstant 1 = .ok (.invokestatic 62, 3) := by decide +kernel
theorem dX9_setConstant_4 : decode cX9_setConstant 4 = .ok (.ifCond .eq 20, 3) := by decide +kernel
theorem dX9_setConstant_7 : decode cX9_setConstant 7 = .ok (.iload_n 2, 1) := by decide +kernel
theorem dX9_setConstant_8 : decode cX9_setConstant 8 = .ok (.invokestatic 118, 3) := by decide +kernel
theorem dX9_setConstant_11 : decode cX9_setConstant 11 = .ok (.ifCond .eq 13, 3) := by decide +kernel
theorem dX9_setConstant_14 : decode cX9_setConstant 14 = .ok (.iload_n 3, 1) := by decide +kernel
theorem dX9_setConstant_15 : decode cX9_setConstant 15 = .ok (.iconst 0, 1) := by decide +kernel
theorem dX9_setConstant_16 : decode cX9_setConstant 16 = .ok (.bipush 99, 2) := by decide +kernel
theorem dX9_setConstant_18 : decode cX9_setConstant 18 = .ok (.invokestatic 66, 3) := by decide +kernel
theorem dX9_setConstant_21 : decode cX9_setConstant 21 = .ok (.ifCond .ne 10, 3) := by decide +kernel
theorem dX9_setConstant_24 : decode cX9_setConstant 24 = .ok (.aload_n 0, 1) := by decide +kernel
theorem dX9_setConstant_25 : decode cX9_setConstant 25 = .ok (.bipush (-2), 2) := by decide +kernel
theorem dX9_setConstant_27 : decode cX9_setConstant 27 = .ok (.invokevirtual 70, 3) := by decide +kernel
theorem dX9_setConstant_30 : decode cX9_setConstant 30 = .ok (.ireturn, 1) := by decide +kernel
theorem dX9_setConstant_31 : decode cX9_setConstant 31 = .ok (.aload_n 0, 1) := by decide +kernel
theorem dX9_setConstant_32 : decode cX9_setConstant 32 = .ok (.iload_n 1, 1) := by decide +kernel
theorem dX9_setConstant_33 : decode cX9_setConstant 33 = .ok (.iload_n 2, 1) := by decide +kernel
theorem dX9_setConstant_34 : decode cX9_setConstant 34 = .ok (.iconst (-1), 1) := by decide +kernel
theorem dX9_setConstant_35 : decode cX9_setConstant 35 = .ok (.iload_n 3, 1) := by decide +kernel
theorem dX9_setConstant_36 : decode cX9_setConstant 36 = .ok (.invokevirtual 124, 3) := by decide +kernel
theorem dX9_setConstant_39 : decode cX9_setConstant 39 = .ok (.ireturn, 1) := by decide +kernel
set_option maxRecDepth 20000 in
theorem ggX9_isFaithful_X9_isOld : GoodIn wsX9_isFaithful wsX9_isOld := goodIn_r _ [6, 7, 8, 5, 9] (by decide +kernel) (by decide +kernel)
set_option maxRecDepth 20000 in
theorem gX9_isFaithful_X9_isOld : GoodIn wsX9_isFaithful (va_wsS RX9 62 yX9_isOld wsX9_isOld) := goodIn_app (goodIn_of _ (by decide +kernel)) ggX9_isFaithful_X9_isOld
set_option maxRecDepth 20000 in
theorem ggX9_isFaithful_X9_refuse : GoodIn wsX9_isFaithful wsX9_refuse := goodIn_r _ [13, 14, 7, 8, 5, 9, 75, 76, 77, 78, 79, 80, 81, 82] (by decide +kernel) (by decide +kernel)
set_option maxRecDepth 20000 in
theorem gX9_isFaithful_X9_refuse : GoodIn wsX9_isFaithful (wsV RX9 70 RX9 yX9_refuse wsX9_refuse) := goodIn_app (goodIn_of _ (by decide +kernel)) ggX9_isFaithful_X9_refuse
set_option maxRecDepth 20000 in
theorem ggX9_isFaithful_X4_targetOf : GoodIn wsX9_isFaithful wsX4_targetOf := goodIn_r _ [19, 20, 8, 5, 9, 92, 93, 94] (by decide +kernel) (by decide +kernel)
set_option maxRecDepth 20000 in
theorem gX9_isFaithful_X4_targetOf : GoodIn wsX9_isFaithful (wsV RX9 102 RX4 yX4_targetOf wsX4_targetOf) := goodIn_app (goodIn_of _ (by decide +kernel)) ggX9_isFaithful_X4_targetOf
set_option maxRecDepth 20000 in
theorem ggX9_isFaithful_X9_faithfulness : GoodIn wsX9_isFaithful wsX9_faithfulness := goodIn_r _ [24, 1, 25, 26, 27, 28, 29, 30, 31, 32, 33, 34, 35, 36, 16, 17, 18, 19, 20, 8, 5, 9, 37, 38, 39, 40, 41, 42, 43, 44, 45, 46, 47, 48, 49, 50, 51, 52, 53, 54, 55, 56, 57, 58, 59, 60, 61, 62, 63, 64, 65, 66, 67, 68, 69, 70, 71, 72, 73, 74, 75, 76, 77, 78, 79, 80, 81, 82, 83, 84, 85, 86, 87, 88, 89, 90, 91, 92, 93, 94, 95, 96, 97, 98] (by decide +kernel) (by decide +kernel)
set_option maxRecDepth 20000 in
theorem gX9_isFaithful_X9_faithfulness : GoodIn wsX9_isFaithful (wsV RX9 115 RX9 yX9_faithfulness wsX9_faithfulness) := goodIn_app (goodIn_of _ (by decide +kernel)) ggX9_isFaithful_X9_faithfulness
theorem dX9_isFaithful_0 : decode cX9_isFaithful 0 = .ok (.iload_n 1, 1) := by decide +kernel
theorem dX9_isFaithful_1 : decode cX9_isFaithful 1 = .ok (.invokestatic 62, 3) := by decide +kernel
theorem dX9_isFaithful_4 : decode cX9_isFaithful 4 = .ok (.ifCond .ne 10, 3) := by decide +kernel
theorem dX9_isFaithful_7 : decode cX9_isFaithful 7 = .ok (.aload_n 0, 1) := by decide +kernel
theorem dX9_isFaithful_8 : decode cX9_isFaithful 8 = .ok (.bipush (-2), 2) := by decide +kernel
theorem dX9_isFaithful_10 : decode cX9_isFaithful 10 = .ok (.invokevirtual 70, 3) := by decide +kernel
theorem dX9_isFaithful_13 : decode cX9_isFaithful 13 = .ok (.ireturn, 1) := by decide +kernel
theorem dX9_isFaithful_14 : decode cX9_isFaithful 14 = .ok (.aload_n 0, 1) := by decide +kernel
theorem dX9_isFaithful_15 : decode cX9_isFaithful 15 = .ok (.getfield 10, 3) := by decide +kernel
theorem dX9_isFaithful_18 : decode cX9_isFaithful 18 = .ok (.getfield 98, 3) := by decide +kernel
theorem dX9_isFaithful_21 : decode cX9_isFaithful 21 = .ok (.iload_n 1, 1) := by decide +kernel
theorem dX9_isFaithful_22 : decode cX9_isFaithful 22 = .ok (.invokevirtual 102, 3) := by decide +kernel
theorem dX9_isFaithful_25 : decode cX9_isFaithful 25 = .ok (.iconst (-1), 1) := by decide +kernel
theorem dX9_isFaithful_26 : decode cX9_isFaithful 26 = .ok (.if_icmp .ne 10, 3) := by decide +kernel
theorem dX9_isFaithful_29 : decode cX9_isFaithful 29 = .ok (.aload_n 0, 1) := by decide +kernel
theorem dX9_isFaithful_30 : decode cX9_isFaithful 30 = .ok (.bipush (-3), 2) := by decide +kernel
theorem dX9_isFaithful_32 : decode cX9_isFaithful 32 = .ok (.invokevirtual 70, 3) := by decide +kernel
theorem dX9_isFaithful_35 : decode cX9_isFaithful 35 = .ok (.ireturn, 1) := by decide +kernel
theorem dX9_isFaithful_36 : decode cX9_isFaithful 36 = .ok (.aload_n 0, 1) := by decide +kernel
theorem dX9_isFaithful_37 : decode cX9_isFaithful 37 = .ok (.iload_n 1, 1) := by decide +kernel
theorem dX9_isFaithful_38 : decode cX9_isFaithful 38 = .ok (.invokevirtual 115, 3) := by decide +kernel
theorem dX9_isFaithful_41 : decode cX9_isFaithful 41 = .ok (.ireturn, 1) := by decide +kernel
set_option maxRecDepth 20000 in
theorem ggX9_allowAdapters_X9_within : GoodIn wsX9_allowAdapters wsX9_within := goodIn_r _ [7] (by decide +kernel) (by decide +kernel)
set_option maxRecDepth 20000 in
theorem gX9_allowAdapters_X9_within : GoodIn wsX9_allowAdapters (va_wsS RX9 66 yX9_within wsX9_within) := goodIn_app (goodIn_of _ (by decide +kernel)) ggX9_allowAdapters_X9_within
set_option maxRecDepth 20000 in
theorem ggX9_allowAdapters_X9_refuse : GoodIn wsX9_allowAdapters wsX9_refuse := goodIn_r _ [11, 12, 4, 5, 6, 7, 86, 87, 88, 89, 90, 91, 92, 93] (by decide +kernel) (by decide +kernel)
set_option maxRecDepth 20000 in
theorem gX9_allowAdapters_X9_refuse : GoodIn wsX9_allowAdapters (wsV RX9 70 RX9 yX9_refuse wsX9_refuse) := goodIn_app (goodIn_of _ (by decide +kernel)) ggX9_allowAdapters_X9_refuse
set_option maxRecDepth 20000 in
theorem ggX9_allowAdapters_X2_save : GoodIn wsX9_allowAdapters wsX2_save := goodIn_r _ [17, 18, 19, 20, 21, 22, 16, 23, 24, 25, 26, 27, 28, 29, 30, 31, 32, 33, 34, 35, 36, 37, 38, 39, 40, 41, 42, 43, 44, 45, 46, 47, 48, 49, 50, 51, 52, 53, 54, 55, 5, 6, 7, 56, 57, 58, 59, 60, 61, 62, 63, 64, 65, 66, 67, 68, 69, 70, 71, 72, 73, 74, 75, 76, 77, 78, 79, 80, 81, 82, 83, 84, 85, 103, 104, 94, 95, 96, 97, 98, 99, 100, 101, 102, 105, 106, 107, 108, 109, 110, 111, 112, 113, 114, 115] (by decide +kernel) (by decide +kernel)
set_option maxRecDepth 20000 in
theorem gX9_allowAdapters_X2_save : GoodIn wsX9_allowAdapters (wsV RX9 94 RX2 yX2_save wsX2_save) := goodIn_app (goodIn_of _ (by decide +kernel)) ggX9_allowAdapters_X2_save
theorem dX9_allowAdapters_0 : decode cX9_allowAdapters 0 = .ok (.iload_n 1, 1) := by decide +kernel
theorem dX9_allowAdapters_1 : decode cX9_allowAdapters 1 = .ok (.iconst 0, 1) := by decide +kernel
theorem dX9_allowAdapters_2 : decode cX9_allowAdapters 2 = .ok (.iconst 1, 1) := by decide +kernel
theorem dX9_allowAdapters_3 : decode cX9_allowAdapters 3 = .ok (.invokestatic 66, 3) := by decide +kernel
theorem dX9_allowAdapters_6 : decode cX9_allowAdapters 6 = .ok (.ifCond .ne 10, 3) := by decide +kernel
theorem dX9_allowAdapters_9 : decode cX9_allowAdapters 9 = .ok (.aload_n 0, 1) := by decide +kernel
theorem dX9_allowAdapters_10 : decode cX9_allowAdapters 10 = .ok (.bipush (-2), 2) := by decide +kernel
theorem dX9_allowAdapters_12 : decode cX9_allowAdapters 12 = .ok (.invokevirtual 70, 3) := by decide +kernel
theorem dX9_allowAdapters_15 : decode cX9_allowAdapters 15 = .ok (.ireturn, 1) := by decide +kernel
theorem dX9_allowAdapters_16 : decode cX9_allowAdapters 16 = .ok (.aload_n 0, 1) := by decide +kernel
theorem dX9_allowAdapters_17 : decode cX9_allowAdapters 17 = .ok (.getfield 19, 3) := by decide +kernel
theorem dX9_allowAdapters_20 : decode cX9_allowAdapters 20 = .ok (.aload_n 0, 1) := by decide +kernel
theorem dX9_allowAdapters_21 : decode cX9_allowAdapters 21 = .ok (.getfield 10, 3) := by decide +kernel
theorem dX9_allowAdapters_24 : decode cX9_allowAdapters 24 = .ok (.invokevirtual 94, 3) := by decide +kernel
theorem dX9_allowAdapters_27 : decode cX9_allowAdapters 27 = .ok (.aload_n 0, 1) := by decide +kernel
theorem dX9_allowAdapters_28 : decode cX9_allowAdapters 28 = .ok (.getfield 10, 3) := by decide +kernel
theorem dX9_allowAdapters_31 : decode cX9_allowAdapters 31 = .ok (.getfield 128, 3) := by decide +kernel
theorem dX9_allowAdapters_34 : decode cX9_allowAdapters 34 = .ok (.istore_n 2, 1) := by decide +kernel
theorem dX9_allowAdapters_35 : decode cX9_allowAdapters 35 = .ok (.aload_n 0, 1) := by decide +kernel
theorem dX9_allowAdapters_36 : decode cX9_allowAdapters 36 = .ok (.getfield 10, 3) := by decide +kernel
theorem dX9_allowAdapters_39 : decode cX9_allowAdapters 39 = .ok (.iload_n 1, 1) := by decide +kernel
theorem dX9_allowAdapters_40 : decode cX9_allowAdapters 40 = .ok (.putfield 128, 3) := by decide +kernel
theorem dX9_allowAdapters_43 : decode cX9_allowAdapters 43 = .ok (.iload_n 2, 1) := by decide +kernel
theorem dX9_allowAdapters_44 : decode cX9_allowAdapters 44 = .ok (.ireturn, 1) := by decide +kernel
set_option maxRecDepth 20000 in
theorem ggX9_adapterOf_X9_isOld : GoodIn wsX9_adapterOf wsX9_isOld := goodIn_r _ [5, 6, 7, 4, 8] (by decide +kernel) (by decide +kernel)
set_option maxRecDepth 20000 in
theorem gX9_adapterOf_X9_isOld : GoodIn wsX9_adapterOf (va_wsS RX9 62 yX9_isOld wsX9_isOld) := goodIn_app (goodIn_of _ (by decide +kernel)) ggX9_adapterOf_X9_isOld
set_option maxRecDepth 20000 in
theorem ggX9_adapterOf_X9_refuse : GoodIn wsX9_adapterOf wsX9_refuse := goodIn_r _ [12, 13, 6, 7, 4, 8, 20, 21, 22, 23, 24, 25, 26, 27] (by decide +kernel) (by decide +kernel)
set_option maxRecDepth 20000 in
theorem gX9_adapterOf_X9_refuse : GoodIn wsX9_adapterOf (wsV RX9 70 RX9 yX9_refuse wsX9_refuse) := goodIn_app (goodIn_of _ (by decide +kernel)) ggX9_adapterOf_X9_refuse
set_option maxRecDepth 20000 in
theorem ggX9_adapterOf_X8_adapterNumber : GoodIn wsX9_adapterOf wsX8_adapterNumber := goodIn_r _ [18, 19, 7, 4, 8, 28, 29, 30, 31, 32, 33, 34, 35, 36] (by decide +kernel) (by decide +kernel)
set_option maxRecDepth 20000 in
theorem gX9_adapterOf_X8_adapterNumber : GoodIn wsX9_adapterOf (wsV RX9 132 RX8 yX8_adapterNumber wsX8_adapterNumber) := goodIn_app (goodIn_of _ (by decide +kernel)) ggX9_adapterOf_X8_adapterNumber
theorem dX9_adapterOf_0 : decode cX9_adapterOf 0 = .ok (.iload_n 1, 1) := by decide +kernel
theorem dX9_adapterOf_1 : decode cX9_adapterOf 1 = .ok (.invokestatic 62, 3) := by decide +kernel
theorem dX9_adapterOf_4 : decode cX9_adapterOf 4 = .ok (.ifCond .ne 10, 3) := by decide +kernel
theorem dX9_adapterOf_7 : decode cX9_adapterOf 7 = .ok (.aload_n 0, 1) := by decide +kernel
theorem dX9_adapterOf_8 : decode cX9_adapterOf 8 = .ok (.bipush (-2), 2) := by decide +kernel
theorem dX9_adapterOf_10 : decode cX9_adapterOf 10 = .ok (.invokevirtual 70, 3) := by decide +kernel
theorem dX9_adapterOf_13 : decode cX9_adapterOf 13 = .ok (.ireturn, 1) := by decide +kernel
theorem dX9_adapterOf_14 : decode cX9_adapterOf 14 = .ok (.aload_n 0, 1) := by decide +kernel
theorem dX9_adapterOf_15 : decode cX9_adapterOf 15 = .ok (.getfield 10, 3) := by decide +kernel
theorem dX9_adapterOf_18 : decode cX9_adapterOf 18 = .ok (.iload_n 1, 1) := by decide +kernel
theorem dX9_adapterOf_19 : decode cX9_adapterOf 19 = .ok (.invokevirtual 132, 3) := by decide +kernel
theorem dX9_adapterOf_22 : decode cX9_adapterOf 22 = .ok (.istore_n 2, 1) := by decide +kernel
theorem dX9_adapterOf_23 : decode cX9_adapterOf 23 = .ok (.iload_n 2, 1) := by decide +kernel
theorem dX9_adapterOf_24 : decode cX9_adapterOf 24 = .ok (.iconst (-1), 1) := by decide +kernel
theorem dX9_adapterOf_25 : decode cX9_adapterOf 25 = .ok (.if_icmp .ne 12, 3) := by decide +kernel
theorem dX9_adapterOf_28 : decode cX9_adapterOf 28 = .ok (.aload_n 0, 1) := by decide +kernel
theorem dX9_adapterOf_29 : decode cX9_adapterOf 29 = .ok (.bipush (-3), 2) := by decide +kernel
theorem dX9_adapterOf_31 : decode cX9_adapterOf 31 = .ok (.invokevirtual 70, 3) := by decide +kernel
theorem dX9_adapterOf_34 : decode cX9_adapterOf 34 = .ok (.goto 4, 3) := by decide +kernel
theorem dX9_adapterOf_37 : decode cX9_adapterOf 37 = .ok (.iload_n 2, 1) := by decide +kernel
theorem dX9_adapterOf_38 : decode cX9_adapterOf 38 = .ok (.ireturn, 1) := by decide +kernel
set_option maxRecDepth 20000 in
theorem ggX9_append_X9_within : GoodIn wsX9_append wsX9_within := goodIn_r _ [6] (by decide +kernel) (by decide +kernel)
set_option maxRecDepth 20000 in
theorem gX9_append_X9_within : GoodIn wsX9_append (va_wsS RX9 66 yX9_within wsX9_within) := goodIn_app (goodIn_of _ (by decide +kernel)) ggX9_append_X9_within
set_option maxRecDepth 20000 in
theorem ggX9_append_X9_refuse : GoodIn wsX9_append wsX9_refuse := goodIn_r _ [10, 11, 3, 4, 5, 6, 19, 20, 21, 22, 23, 24, 25, 26] (by decide +kernel) (by decide +kernel)
set_option maxRecDepth 20000 in
theorem gX9_append_X9_refuse : GoodIn wsX9_append (wsV RX9 70 RX9 yX9_refuse wsX9_refuse) := goodIn_app (goodIn_of _ (by decide +kernel)) ggX9_append_X9_refuse
set_option maxRecDepth 20000 in
theorem ggX9_append_X3_add : GoodIn wsX9_append wsX3_add := goodIn_r _ [16, 17, 18, 27, 28, 29] (by decide +kernel) (by decide +kernel)
set_option maxRecDepth 20000 in
theorem gX9_append_X3_add : GoodIn wsX9_append (wsV RX9 135 RX3 yX3_add wsX3_add) := goodIn_app (goodIn_of _ (by decide +kernel)) ggX9_append_X3_add
theorem dX9_append_0 : decode cX9_append 0 = .ok (.iload_n 1, 1) := by decide +kernel
theorem dX9_append_1 : decode cX9_append 1 = .ok (.iconst 0, 1) := by decide +kernel
theorem dX9_append_2 : decode cX9_append 2 = .ok (.bipush 127, 2) := by decide +kernel
theorem dX9_append_4 : decode cX9_append 4 = .ok (.invokestatic 66, 3) := by decide +kernel
theorem dX9_append_7 : decode cX9_append 7 = .ok (.ifCond .ne 10, 3) := by decide +kernel
theorem dX9_append_10 : decode cX9_append 10 = .ok (.aload_n 0, 1) := by decide +kernel
theorem dX9_append_11 : decode cX9_append 11 = .ok (.bipush (-2), 2) := by decide +kernel
theorem dX9_append_13 : decode cX9_append 13 = .ok (.invokevirtual 70, 3) := by decide +kernel
theorem dX9_append_16 : decode cX9_append 16 = .ok (.ireturn, 1) := by decide +kernel
theorem dX9_append_17 : decode cX9_append 17 = .ok (.aload_n 0, 1) := by decide +kernel
theorem dX9_append_18 : decode cX9_append 18 = .ok (.getfield 26, 3) := by decide +kernel
theorem dX9_append_21 : decode cX9_append 21 = .ok (.iload_n 1, 1) := by decide +kernel
theorem dX9_append_22 : decode cX9_append 22 = .ok (.invokevirtual 135, 3) := by decide +kernel
theorem dX9_append_25 : decode cX9_append 25 = .ok (.ifCond .eq 13, 3) := by decide +kernel
theorem dX9_append_28 : decode cX9_append 28 = .ok (.aload_n 0, 1) := by decide +kernel
theorem dX9_append_29 : decode cX9_append 29 = .ok (.getfield 26, 3) := by decide +kernel
theorem dX9_append_32 : decode cX9_append 32 = .ok (.getfield 138, 3) := by decide +kernel
theorem dX9_append_35 : decode cX9_append 35 = .ok (.goto 9, 3) := by decide +kernel
theorem dX9_append_38 : decode cX9_append 38 = .ok (.aload_n 0, 1) := by decide +kernel
theorem dX9_append_39 : decode cX9_append 39 = .ok (.bipush (-4), 2) := by decide +kernel
theorem dX9_append_41 : decode cX9_append 41 = .ok (.invokevirtual 70, 3) := by decide +kernel
theorem dX9_append_44 : decode cX9_append 44 = .ok (.ireturn, 1) := by decide +kernel
theorem dX9_clearText_0 : decode cX9_clearText 0 = .ok (.aload_n 0, 1) := by decide +kernel
theorem dX9_clearText_1 : decode cX9_clearText 1 = .ok (.getfield 26, 3) := by decide +kernel
theorem dX9_clearText_4 : decode cX9_clearText 4 = .ok (.getfield 138, 3) := by decide +kernel
theorem dX9_clearText_7 : decode cX9_clearText 7 = .ok (.istore_n 1, 1) := by decide +kernel
theorem dX9_clearText_8 : decode cX9_clearText 8 = .ok (.aload_n 0, 1) := by decide +kernel
theorem dX9_clearText_9 : decode cX9_clearText 9 = .ok (.getfield 26, 3) := by decide +kernel
theorem dX9_clearText_12 : decode cX9_clearText 12 = .ok (.iconst 0, 1) := by decide +kernel
theorem dX9_clearText_13 : decode cX9_clearText 13 = .ok (.putfield 138, 3) := by decide +kernel
theorem dX9_clearText_16 : decode cX9_clearText 16 = .ok (.iload_n 1, 1) := by decide +kernel
theorem dX9_clearText_17 : decode cX9_clearText 17 = .ok (.ireturn, 1) := by decide +kernel
set_option maxRecDepth 20000 in
theorem ggX9_parse_X3_readProgram : GoodIn wsX9_parse wsX3_readProgram := goodIn_r _ [12, 13, 14, 15, 16, 17, 18, 11, 19, 20, 21, 22, 23, 24, 25, 26, 27, 28, 29, 30, 31, 32, 33, 34, 35, 36, 37, 38, 39, 40, 41, 42, 43, 44, 45, 46, 47, 48, 49, 50, 51, 52, 53, 54, 55, 56, 57, 58, 59, 60, 61, 62, 63, 64, 132, 133, 134, 144, 145, 146, 147, 135, 136, 137, 138, 139, 140, 141, 142, 143, 148, 149, 150, 151] (by decide +kernel) (by decide +kernel)
set_option maxRecDepth 20000 in
theorem gX9_parse_X3_readProgram : GoodIn wsX9_parse (wsV RX9 141 RX3 yX3_readProgram wsX3_readProgram) := goodIn_app (goodIn_of _ (by decide +kernel)) ggX9_parse_X3_readProgram
set_option maxRecDepth 20000 in
theorem ggX9_parse_X2_save : GoodIn wsX9_parse wsX2_save := goodIn_r _ [69, 70, 71, 72, 73, 74, 68, 75, 76, 77, 78, 49, 79, 51, 52, 53, 80, 81, 82, 83, 84, 85, 86, 87, 88, 89, 90, 91, 92, 57, 93, 59, 94, 95, 96, 97, 60, 98, 99, 100, 22, 23, 24, 101, 102, 103, 104, 105, 106, 107, 108, 109, 110, 111, 112, 36, 113, 38, 114, 115, 116, 117, 118, 119, 120, 121, 39, 40, 41, 122, 34, 35, 37, 152, 153, 135, 136, 137, 138, 139, 140, 141, 142, 143, 148, 149, 150, 151, 154, 155, 156, 144, 145, 146, 147] (by decide +kernel) (by decide +kernel)
set_option maxRecDepth 20000 in
theorem gX9_parse_X2_save : GoodIn wsX9_parse (wsV RX9 94 RX2 yX2_save wsX2_save) := goodIn_app (goodIn_of _ (by decide +kernel)) ggX9_parse_X2_save
set_option maxRecDepth 20000 in
theorem ggX9_parse_X6_copyFrom : GoodIn wsX9_parse wsX6_copyFrom := goodIn_r _ [113, 38, 114, 115, 116, 36, 117, 118, 119, 120, 121, 39, 40, 41, 122, 34, 35, 37, 144, 145, 146, 147] (by decide +kernel) (by decide +kernel)
set_option maxRecDepth 20000 in
theorem gX9_parse_X6_copyFrom : GoodIn wsX9_parse (wsV RX9 151 RX6 yX6_copyFrom wsX6_copyFrom) := goodIn_app (goodIn_of _ (by decide +kernel)) ggX9_parse_X6_copyFrom
theorem dX9_parse_0 : decode cX9_parse 0 = .ok (.aload_n 0, 1) := by decide +kernel
theorem dX9_parse_1 : decode cX9_parse 1 = .ok (.getfield 26, 3) := by decide +kernel
theorem dX9_parse_4 : decode cX9_parse 4 = .ok (.aload_n 0, 1) := by decide +kernel
theorem dX9_parse_5 : decode cX9_parse 5 = .ok (.getfield 10, 3) := by decide +kernel
theorem dX9_parse_8 : decode cX9_parse 8 = .ok (.aload_n 0, 1) := by decide +kernel
theorem dX9_parse_9 : decode cX9_parse 9 = .ok (.getfield 33, 3) := by decide +kernel
theorem dX9_parse_12 : decode cX9_parse 12 = .ok (.invokevirtual 141, 3) := by decide +kernel
theorem dX9_parse_15 : decode cX9_parse 15 = .ok (.ifCond .ne 14, 3) := by decide +kernel
theorem dX9_parse_18 : decode cX9_parse 18 = .ok (.bipush (-10), 2) := by decide +kernel
theorem dX9_parse_20 : decode cX9_parse 20 = .ok (.aload_n 0, 1) := by decide +kernel
theorem dX9_parse_21 : decode cX9_parse 21 = .ok (.getfield 26, 3) := by decide +kernel
theorem dX9_parse_24 : decode cX9_parse 24 = .ok (.getfield 145, 3) := by decide +kernel
theorem dX9_parse_27 : decode cX9_parse 27 = .ok (.isub, 1) := by decide +kernel
theorem dX9_parse_28 : decode cX9_parse 28 = .ok (.ireturn, 1) := by decide +kernel
theorem dX9_parse_29 : decode cX9_parse 29 = .ok (.aload_n 0, 1) := by decide +kernel
theorem dX9_parse_30 : decode cX9_parse 30 = .ok (.getfield 19, 3) := by decide +kernel
theorem dX9_parse_33 : decode cX9_parse 33 = .ok (.aload_n 0, 1) := by decide +kernel
theorem dX9_parse_34 : decode cX9_parse 34 = .ok (.getfield 10, 3) := by decide +kernel
theorem dX9_parse_37 : decode cX9_parse 37 = .ok (.invokevirtual 94, 3) := by decide +kernel
theorem dX9_parse_40 : decode cX9_parse 40 = .ok (.aload_n 0, 1) := by decide +kernel
theorem dX9_parse_41 : decode cX9_parse 41 = .ok (.getfield 10, 3) := by decide +kernel
theorem dX9_parse_44 : decode cX9_parse 44 = .ok (.getfield 148, 3) := by decide +kernel
theorem dX9_parse_47 : decode cX9_parse 47 = .ok (.aload_n 0, 1) := by decide +kernel
theorem dX9_parse_48 : decode cX9_parse 48 = .ok (.getfield 33, 3) := by decide +kernel
theorem dX9_parse_51 : decode cX9_parse 51 = .ok (.invokevirtual 151, 3) := by decide +kernel
theorem dX9_parse_54 : decode cX9_parse 54 = .ok (.aload_n 0, 1) := by decide +kernel
theorem dX9_parse_55 : decode cX9_parse 55 = .ok (.getfield 10, 3) := by decide +kernel
theorem dX9_parse_58 : decode cX9_parse 58 = .ok (.getfield 148, 3) := by decide +kernel
theorem dX9_parse_61 : decode cX9_parse 61 = .ok (.getfield 155, 3) := by decide +kernel
theorem dX9_parse_64 : decode cX9_parse 64 = .ok (.ireturn, 1) := by decide +kernel
set_option maxRecDepth 20000 in
theorem ggX9_migrate_X2_save : GoodIn wsX9_migrate wsX2_save := goodIn_r _ [9, 10, 11, 12, 13, 14, 8, 15, 16, 17, 18, 19, 20, 21, 22, 23, 24, 25, 26, 27, 28, 29, 30, 31, 32, 33, 34, 35, 36, 37, 38, 39, 40, 41, 42, 43, 44, 45, 46, 47, 48, 49, 50, 51, 52, 53, 54, 55, 56, 57, 58, 59, 60, 61, 62, 63, 64, 65, 66, 67, 68, 69, 70, 71, 72, 73, 74, 75, 76, 77, 78, 79, 80, 252, 253, 243, 244, 245, 246, 247, 248, 249, 250, 251, 254, 255, 256, 257, 258, 259, 260, 261, 262, 263, 264] (by decide +kernel) (by decide +kernel)
set_option maxRecDepth 20000 in
theorem gX9_migrate_X2_save : GoodIn wsX9_migrate (wsV RX9 94 RX2 yX2_save wsX2_save) := goodIn_app (goodIn_of _ (by decide +kernel)) ggX9_migrate_X2_save
set_option maxRecDepth 20000 in
theorem ggX9_migrate_J7_fill_53178 : GoodIn wsX9_migrate wsJ7_fill_53178 := goodIn_r _ [84] (by decide +kernel) (by decide +kernel)
set_option maxRecDepth 20000 in
theorem gX9_migrate_J7_fill_53178 : GoodIn wsX9_migrate (va_wsS RX9 161 yJ7_fill_53178 wsJ7_fill_53178) := goodIn_app (goodIn_of _ (by decide +kernel)) ggX9_migrate_J7_fill_53178
set_option maxRecDepth 20000 in
theorem ggX9_migrate_X5_treatFrom : GoodIn wsX9_migrate wsX5_treatFrom := goodIn_r _ [88, 89, 90, 91, 92, 93, 94, 95, 86, 96, 97, 98, 99, 100, 101, 102, 103, 104, 105, 106, 37, 107, 39, 44, 48, 49, 50, 108, 109, 110, 19, 111, 31, 112, 113, 114, 115, 22, 116, 117, 118, 54, 119, 56, 120, 121, 122, 123, 124, 21, 125, 126, 127, 128, 58, 129, 130, 131, 132, 133, 134, 135, 136, 46, 137, 138, 139, 140, 141, 142, 143, 59, 144, 145, 146, 147, 148, 149, 150, 151, 152, 153, 154, 155, 30, 24, 156, 157, 158, 159, 25, 160, 161, 162, 163, 23, 164, 41, 42, 43, 45, 47, 27, 28, 29, 165, 166, 167, 168, 169, 170, 171, 72, 172, 173, 174, 175, 176, 177, 63, 178, 65, 76, 179, 180, 181, 182, 183, 71, 73, 32, 184, 185, 186, 187, 188, 189, 190, 191, 192, 193, 194, 195, 196, 197, 198, 199, 200, 201, 202, 203, 204, 205, 206, 207, 208, 209, 210, 211, 212, 213, 214, 215, 216, 217, 218, 219, 220, 221, 222, 78, 79, 80, 74, 75, 223, 67, 68, 69, 70, 77, 224, 225, 226, 227, 228, 229, 230, 231, 232, 233, 234, 85, 87, 243, 244, 245, 246, 247, 248, 249, 250, 251, 261, 262, 263, 264, 254, 255, 256, 257, 258, 259, 260, 265, 266, 267] (by decide +kernel) (by decide +kernel)
set_option maxRecDepth 20000 in
theorem gX9_migrate_X5_treatFrom_n167 : GoodIn wsX9_migrate (wsX5_treatFrom) := ggX9_migrate_X5_treatFrom
theorem dX9_migrate_0 : decode cX9_migrate 0 = .ok (.aload_n 0, 1) := by decide +kernel
theorem dX9_migrate_1 : decode cX9_migrate 1 = .ok (.getfield 19, 3) := by decide +kernel
theorem dX9_migrate_4 : decode cX9_migrate 4 = .ok (.aload_n 0, 1) := by decide +kernel
theorem dX9_migrate_5 : decode cX9_migrate 5 = .ok (.getfield 10, 3) := by decide +kernel
theorem dX9_migrate_8 : decode cX9_migrate 8 = .ok (.invokevirtual 94, 3) := by decide +kernel
theorem dX9_migrate_11 : decode cX9_migrate 11 = .ok (.aload_n 0, 1) := by decide +kernel
theorem dX9_migrate_12 : decode cX9_migrate 12 = .ok (.getfield 10, 3) := by decide +kernel
theorem dX9_migrate_15 : decode cX9_migrate 15 = .ok (.getfield 158, 3) := by decide +kernel
theorem dX9_migrate_18 : decode cX9_migrate 18 = .ok (.iconst 0, 1) := by decide +kernel
theorem dX9_migrate_19 : decode cX9_migrate 19 = .ok (.invokestatic 161, 3) := by decide +kernel
theorem dX9_migrate_22 : decode cX9_migrate 22 = .ok (.aload_n 0, 1) := by decide +kernel
theorem dX9_migrate_23 : decode cX9_migrate 23 = .ok (.getfield 54, 3) := by decide +kernel
theorem dX9_migrate_26 : decode cX9_migrate 26 = .ok (.aload_n 0, 1) := by decide +kernel
theorem dX9_migrate_27 : decode cX9_migrate 27 = .ok (.getfield 10, 3) := by decide +kernel
theorem dX9_migrate_30 : decode cX9_migrate 30 = .ok (.iconst 0, 1) := by decide +kernel
theorem dX9_migrate_31 : decode cX9_migrate 31 = .ok (.iconst 0, 1) := by decide +kernel
theorem dX9_migrate_32 : decode cX9_migrate 32 = .ok (.invokevirtual 167, 3) := by decide +kernel
theorem dX9_migrate_35 : decode cX9_migrate 35 = .ok (.pop, 1) := by decide +kernel
theorem dX9_migrate_36 : decode cX9_migrate 36 = .ok (.aload_n 0, 1) := by decide +kernel
theorem dX9_migrate_37 : decode cX9_migrate 37 = .ok (.getfield 10, 3) := by decide +kernel
theorem dX9_migrate_40 : decode cX9_migrate 40 = .ok (.getfield 158, 3) := by decide +kernel
theorem dX9_migrate_43 : decode cX9_migrate 43 = .ok (.iconst 0, 1) := by decide +kernel
theorem dX9_migrate_44 : decode cX9_migrate 44 = .ok (.iaload, 1) := by decide +kernel
theorem dX9_migrate_45 : decode cX9_migrate 45 = .ok (.ireturn, 1) := by decide +kernel
set_option maxRecDepth 20000 in
theorem ggX9_left_X9_within : GoodIn wsX9_left wsX9_within := goodIn_r _ [6] (by decide +kernel) (by decide +kernel)
set_option maxRecDepth 20000 in
theorem gX9_left_X9_within : GoodIn wsX9_left (va_wsS RX9 66 yX9_within wsX9_within) := goodIn_app (goodIn_of _ (by decide +kernel)) ggX9_left_X9_within
set_option maxRecDepth 20000 in
theorem ggX9_left_X9_refuse : GoodIn wsX9_left wsX9_refuse := goodIn_r _ [10, 11, 3, 4, 5, 6, 12, 13, 14, 15, 16, 17, 18, 19] (by decide +kernel) (by decide +kernel)
set_option maxRecDepth 20000 in
theorem gX9_left_X9_refuse : GoodIn wsX9_left (wsV RX9 70 RX9 yX9_refuse wsX9_refuse) := goodIn_app (goodIn_of _ (by decide +kernel)) ggX9_left_X9_refuse
theorem dX9_left_0 : decode cX9_left 0 = .ok (.iload_n 1, 1) := by decide +kernel
theorem dX9_left_1 : decode cX9_left 1 = .ok (.iconst 1, 1) := by decide +kernel
theorem dX9_left_2 : decode cX9_left 2 = .ok (.bipush 7, 2) := by decide +kernel
theorem dX9_left_4 : decode cX9_left 4 = .ok (.invokestatic 66, 3) := by decide +kernel
theorem dX9_left_7 : decode cX9_left 7 = .ok (.ifCond .ne 10, 3) := by decide +kernel
theorem dX9_left_10 : decode cX9_left 10 = .ok (.aload_n 0, 1) := by decide +kernel
theorem dX9_left_11 : decode cX9_left 11 = .ok (.bipush (-2), 2) := by decide +kernel
theorem dX9_left_13 : decode cX9_left 13 = .ok (.invokevirtual 70, 3) := by decide +kernel
theorem dX9_left_16 : decode cX9_left 16 = .ok (.ireturn, 1) := by decide +kernel
theorem dX9_left_17 : decode cX9_left 17 = .ok (.aload_n 0, 1) := by decide +kernel
theorem dX9_left_18 : decode cX9_left 18 = .ok (.getfield 10, 3) := by decide +kernel
theorem dX9_left_21 : decode cX9_left 21 = .ok (.getfield 158, 3) := by decide +kernel
theorem dX9_left_24 : decode cX9_left 24 = .ok (.iload_n 1, 1) := by decide +kernel
theorem dX9_left_25 : decode cX9_left 25 = .ok (.iaload, 1) := by decide +kernel
theorem dX9_left_26 : decode cX9_left 26 = .ok (.ireturn, 1) := by decide +kernel
set_option maxRecDepth 20000 in
theorem ggX9_sites_X6_countSites : GoodIn wsX9_sites wsX6_countSites := goodIn_r _ [7, 8, 9, 27, 28, 29, 30] (by decide +kernel) (by decide +kernel)
set_option maxRecDepth 20000 in
theorem gX9_sites_X6_countSites : GoodIn wsX9_sites (wsV RX9 171 RX6 yX6_countSites wsX6_countSites) := goodIn_app (goodIn_of _ (by decide +kernel)) ggX9_sites_X6_countSites
theorem dX9_sites_0 : decode cX9_sites 0 = .ok (.aload_n 0, 1) := by decide +kernel
theorem dX9_sites_1 : decode cX9_sites 1 = .ok (.getfield 10, 3) := by decide +kernel
theorem dX9_sites_4 : decode cX9_sites 4 = .ok (.getfield 148, 3) := by decide +kernel
theorem dX9_sites_7 : decode cX9_sites 7 = .ok (.invokevirtual 171, 3) := by decide +kernel
theorem dX9_sites_10 : decode cX9_sites 10 = .ok (.ireturn, 1) := by decide +kernel
theorem dX9_nodes_0 : decode cX9_nodes 0 = .ok (.aload_n 0, 1) := by decide +kernel
theorem dX9_nodes_1 : decode cX9_nodes 1 = .ok (.getfield 10, 3) := by decide +kernel
theorem dX9_nodes_4 : decode cX9_nodes 4 = .ok (.getfield 148, 3) := by decide +kernel
theorem dX9_nodes_7 : decode cX9_nodes 7 = .ok (.getfield 155, 3) := by decide +kernel
theorem dX9_nodes_10 : decode cX9_nodes 10 = .ok (.ireturn, 1) := by decide +kernel
set_option maxRecDepth 20000 in
theorem ggX9_value_X9_within : GoodIn wsX9_value wsX9_within := goodIn_r _ [6] (by decide +kernel) (by decide +kernel)
set_option maxRecDepth 20000 in
theorem gX9_value_X9_within : GoodIn wsX9_value (va_wsS RX9 66 yX9_within wsX9_within) := goodIn_app (goodIn_of _ (by decide +kernel)) ggX9_value_X9_within
set_option maxRecDepth 20000 in
theorem ggX9_value_X9_refuse : GoodIn wsX9_value wsX9_refuse := goodIn_r _ [10, 11, 3, 4, 5, 6, 55, 56, 57, 58, 59, 60, 61, 62] (by decide +kernel) (by decide +kernel)
set_option maxRecDepth 20000 in
theorem gX9_value_X9_refuse : GoodIn wsX9_value (wsV RX9 70 RX9 yX9_refuse wsX9_refuse) := goodIn_app (goodIn_of _ (by decide +kernel)) ggX9_value_X9_refuse
set_option maxRecDepth 20000 in
theorem ggX9_value_X0_evaluate : GoodIn wsX9_value wsX0_evaluate := goodIn_r _ [16, 17, 18, 19, 20, 21, 22, 23, 5, 24, 25, 26, 27, 28, 29, 30, 31, 32, 33, 34, 35, 15, 36, 37, 38, 39, 40, 41, 42, 43, 44, 45, 4, 6, 46, 47, 48, 49, 50, 51, 52, 53, 54, 63, 64, 65, 66, 67, 68, 69, 70, 71, 72, 73, 74, 75, 76, 77, 78, 79, 80, 81] (by decide +kernel) (by decide +kernel)
set_option maxRecDepth 20000 in
theorem gX9_value_X0_evaluate : GoodIn wsX9_value (wsV RX9 175 RX0 yX0_evaluate wsX0_evaluate) := goodIn_app (goodIn_of _ (by decide +kernel)) ggX9_value_X0_evaluate
theorem dX9_value_0 : decode cX9_value 0 = .ok (.iload_n 1, 1) := by decide +kernel
theorem dX9_value_1 : decode cX9_value 1 = .ok (.iconst 0, 1) := by decide +kernel
theorem dX9_value_2 : decode cX9_value 2 = .ok (.sipush 999, 3) := by decide +kernel
theorem dX9_value_5 : decode cX9_value 5 = .ok (.invokestatic 66, 3) := by decide +kernel
theorem dX9_value_8 : decode cX9_value 8 = .ok (.ifCond .eq 14, 3) := by decide +kernel
theorem dX9_value_11 : decode cX9_value 11 = .ok (.iload_n 2, 1) := by decide +kernel
theorem dX9_value_12 : decode cX9_value 12 = .ok (.iconst 0, 1) := by decide +kernel
theorem dX9_value_13 : decode cX9_value 13 = .ok (.sipush 999, 3) := by decide +kernel
theorem dX9_value_16 : decode cX9_value 16 = .ok (.invokestatic 66, 3) := by decide +kernel
theorem dX9_value_19 : decode cX9_value 19 = .ok (.ifCond .ne 10, 3) := by decide +kernel
theorem dX9_value_22 : decode cX9_value 22 = .ok (.aload_n 0, 1) := by decide +kernel
theorem dX9_value_23 : decode cX9_value 23 = .ok (.bipush (-2), 2) := by decide +kernel
theorem dX9_value_25 : decode cX9_value 25 = .ok (.invokevirtual 70, 3) := by decide +kernel
theorem dX9_value_28 : decode cX9_value 28 = .ok (.ireturn, 1) := by decide +kernel
theorem dX9_value_29 : decode cX9_value 29 = .ok (.aload_n 0, 1) := by decide +kernel
theorem dX9_value_30 : decode cX9_value 30 = .ok (.getfield 47, 3) := by decide +kernel
theorem dX9_value_33 : decode cX9_value 33 = .ok (.aload_n 0, 1) := by decide +kernel
theorem dX9_value_34 : decode cX9_value 34 = .ok (.getfield 10, 3) := by decide +kernel
theorem dX9_value_37 : decode cX9_value 37 = .ok (.iload_n 1, 1) := by decide +kernel
theorem dX9_value_38 : decode cX9_value 38 = .ok (.iload_n 2, 1) := by decide +kernel
theorem dX9_value_39 : decode cX9_value 39 = .ok (.invokevirtual 175, 3) := by decide +kernel
theorem dX9_value_42 : decode cX9_value 42 = .ok (.ireturn, 1) := by decide +kernel
set_option maxRecDepth 20000 in
theorem ggX9_textByte_X9_refuse : GoodIn wsX9_textByte wsX9_refuse := goodIn_r _ [10, 11, 12, 13, 9, 14, 49, 50, 51, 52, 53, 54, 55, 56] (by decide +kernel) (by decide +kernel)
set_option maxRecDepth 20000 in
theorem gX9_textByte_X9_refuse : GoodIn wsX9_textByte (wsV RX9 70 RX9 yX9_refuse wsX9_refuse) := goodIn_app (goodIn_of _ (by decide +kernel)) ggX9_textByte_X9_refuse
set_option maxRecDepth 20000 in
theorem ggX9_textByte_X7_write : GoodIn wsX9_textByte wsX7_write := goodIn_r _ [19, 20, 21, 22, 23, 24, 25, 26, 9, 27, 28, 29, 30, 18, 31, 32, 33, 34, 35, 36, 37, 38, 39, 40, 41, 42, 43, 44, 45, 46, 47, 48, 66, 67, 68, 69, 70, 71, 72, 73] (by decide +kernel) (by decide +kernel)
set_option maxRecDepth 20000 in
theorem gX9_textByte_X7_write : GoodIn wsX9_textByte (wsV RX9 178 RX7 yX7_write wsX7_write) := goodIn_app (goodIn_of _ (by decide +kernel)) ggX9_textByte_X7_write
theorem dX9_textByte_0 : decode cX9_textByte 0 = .ok (.iload_n 1, 1) := by decide +kernel
theorem dX9_textByte_1 : decode cX9_textByte 1 = .ok (.iconst (-1), 1) := by decide +kernel
theorem dX9_textByte_2 : decode cX9_textByte 2 = .ok (.if_icmp .ge 10, 3) := by decide +kernel
theorem dX9_textByte_5 : decode cX9_textByte 5 = .ok (.aload_n 0, 1) := by decide +kernel
theorem dX9_textByte_6 : decode cX9_textByte 6 = .ok (.bipush (-2), 2) := by decide +kernel
theorem dX9_textByte_8 : decode cX9_textByte 8 = .ok (.invokevirtual 70, 3) := by decide +kernel
theorem dX9_textByte_11 : decode cX9_textByte 11 = .ok (.ireturn, 1) := by decide +kernel
theorem dX9_textByte_12 : decode cX9_textByte 12 = .ok (.aload_n 0, 1) := by decide +kernel
theorem dX9_textByte_13 : decode cX9_textByte 13 = .ok (.getfield 40, 3) := by decide +kernel
theorem dX9_textByte_16 : decode cX9_textByte 16 = .ok (.aload_n 0, 1) := by decide +kernel
theorem dX9_textByte_17 : decode cX9_textByte 17 = .ok (.getfield 10, 3) := by decide +kernel
theorem dX9_textByte_20 : decode cX9_textByte 20 = .ok (.getfield 148, 3) := by decide +kernel
theorem dX9_textByte_23 : decode cX9_textByte 23 = .ok (.invokevirtual 178, 3) := by decide +kernel
theorem dX9_textByte_26 : decode cX9_textByte 26 = .ok (.iload_n 1, 1) := by decide +kernel
theorem dX9_textByte_27 : decode cX9_textByte 27 = .ok (.iconst (-1), 1) := by decide +kernel
theorem dX9_textByte_28 : decode cX9_textByte 28 = .ok (.if_icmp .ne 11, 3) := by decide +kernel
theorem dX9_textByte_31 : decode cX9_textByte 31 = .ok (.aload_n 0, 1) := by decide +kernel
theorem dX9_textByte_32 : decode cX9_textByte 32 = .ok (.getfield 40, 3) := by decide +kernel
theorem dX9_textByte_35 : decode cX9_textByte 35 = .ok (.getfield 181, 3) := by decide +kernel
theorem dX9_textByte_38 : decode cX9_textByte 38 = .ok (.ireturn, 1) := by decide +kernel
theorem dX9_textByte_39 : decode cX9_textByte 39 = .ok (.iload_n 1, 1) := by decide +kernel
theorem dX9_textByte_40 : decode cX9_textByte 40 = .ok (.aload_n 0, 1) := by decide +kernel
theorem dX9_textByte_41 : decode cX9_textByte 41 = .ok (.getfield 40, 3) := by decide +kernel
theorem dX9_textByte_44 : decode cX9_textByte 44 = .ok (.getfield 181, 3) := by decide +kernel
theorem dX9_textByte_47 : decode cX9_textByte 47 = .ok (.if_icmp .ge 15, 3) := by decide +kernel
theorem dX9_textByte_50 : decode cX9_textByte 50 = .ok (.aload_n 0, 1) := by decide +kernel
theorem dX9_textByte_51 : decode cX9_textByte 51 = .ok (.getfield 40, 3) := by decide +kernel
theorem dX9_textByte_54 : decode cX9_textByte 54 = .ok (.getfield 182, 3) := by decide +kernel
theorem dX9_textByte_57 : decode cX9_textByte 57 = .ok (.iload_n 1, 1) := by decide +kernel
theorem dX9_textByte_58 : decode cX9_textByte 58 = .ok (.iaload, 1) := by decide +kernel
theorem dX9_textByte_59 : decode cX9_textByte 59 = .ok (.goto 4, 3) := by decide +kernel
theorem dX9_textByte_62 : decode cX9_textByte 62 = .ok (.iconst (-1), 1) := by decide +kernel
theorem dX9_textByte_63 : decode cX9_textByte 63 = .ok (.ireturn, 1) := by decide +kernel
set_option maxRecDepth 20000 in
theorem ggX9_undo_X2_restore : GoodIn wsX9_undo wsX2_restore := goodIn_r _ [8, 9, 10, 11, 12, 13, 14, 15, 16, 17, 18, 19, 20, 21, 22, 23, 24, 25, 26, 27, 28, 29, 30, 31, 32, 33, 34, 35, 36, 37, 38, 39, 40, 41, 42, 43, 44, 45, 46, 47, 48, 49, 50, 51, 52, 53, 54, 55, 56, 57, 58, 59, 60, 61, 62, 63, 64, 65, 66, 67, 68, 69, 70, 71, 72, 73, 74, 75, 90, 91, 92, 93, 94, 95, 96, 97, 98, 99, 100, 101, 102, 103, 104, 105, 106, 107, 108, 109, 110, 111] (by decide +kernel) (by decide +kernel)
set_option maxRecDepth 20000 in
theorem gX9_undo_X2_restore : GoodIn wsX9_undo (wsV RX9 185 RX2 yX2_restore wsX2_restore) := goodIn_app (goodIn_of _ (by decide +kernel)) ggX9_undo_X2_restore
set_option maxRecDepth 20000 in
theorem ggX9_undo_X9_refuse : GoodIn wsX9_undo wsX9_refuse := goodIn_r _ [79, 80, 81, 43, 44, 45, 82, 83, 84, 85, 86, 87, 88, 89] (by decide +kernel) (by decide +kernel)
set_option maxRecDepth 20000 in
theorem gX9_undo_X9_refuse : GoodIn wsX9_undo (wsV RX9 70 RX9 yX9_refuse wsX9_refuse) := goodIn_app (goodIn_of _ (by decide +kernel)) ggX9_undo_X9_refuse
theorem dX9_undo_0 : decode cX9_undo 0 = .ok (.aload_n 0, 1) := by decide +kernel
theorem dX9_undo_1 : decode cX9_undo 1 = .ok (.getfield 19, 3) := by decide +kernel
theorem dX9_undo_4 : decode cX9_undo 4 = .ok (.aload_n 0, 1) := by decide +kernel
theorem dX9_undo_5 : decode cX9_undo 5 = .ok (.getfield 10, 3) := by decide +kernel
theorem dX9_undo_8 : decode cX9_undo 8 = .ok (.invokevirtual 185, 3) := by decide +kernel
theorem dX9_undo_11 : decode cX9_undo 11 = .ok (.ifCond .eq 13, 3) := by decide +kernel
theorem dX9_undo_14 : decode cX9_undo 14 = .ok (.aload_n 0, 1) := by decide +kernel
theorem dX9_undo_15 : decode cX9_undo 15 = .ok (.getfield 19, 3) := by decide +kernel
theorem dX9_undo_18 : decode cX9_undo 18 = .ok (.getfield 189, 3) := by decide +kernel
theorem dX9_undo_21 : decode cX9_undo 21 = .ok (.goto 9, 3) := by decide +kernel
theorem dX9_undo_24 : decode cX9_undo 24 = .ok (.aload_n 0, 1) := by decide +kernel
theorem dX9_undo_25 : decode cX9_undo 25 = .ok (.bipush (-5), 2) := by decide +kernel
theorem dX9_undo_27 : decode cX9_undo 27 = .ok (.invokevirtual 70, 3) := by decide +kernel
theorem dX9_undo_30 : decode cX9_undo 30 = .ok (.ireturn, 1) := by decide +kernel
set_option maxRecDepth 20000 in
theorem ggX9_errorCount_X9_within : GoodIn wsX9_errorCount wsX9_within := goodIn_r _ [5] (by decide +kernel) (by decide +kernel)
set_option maxRecDepth 20000 in
theorem gX9_errorCount_X9_within : GoodIn wsX9_errorCount (va_wsS RX9 66 yX9_within wsX9_within) := goodIn_app (goodIn_of _ (by decide +kernel)) ggX9_errorCount_X9_within
set_option maxRecDepth 20000 in
theorem ggX9_errorCount_X9_refuse : GoodIn wsX9_errorCount wsX9_refuse := goodIn_r _ [9, 1, 2, 3, 4, 5, 10, 11, 12, 13, 14, 15, 16, 17] (by decide +kernel) (by decide +kernel)
set_option maxRecDepth 20000 in
theorem gX9_errorCount_X9_refuse : GoodIn wsX9_errorCount (wsV RX9 70 RX9 yX9_refuse wsX9_refuse) := goodIn_app (goodIn_of _ (by decide +kernel)) ggX9_errorCount_X9_refuse
theorem dX9_errorCount_0 : decode cX9_errorCount 0 = .ok (.iload_n 1, 1) := by decide +kernel
theorem dX9_errorCount_1 : decode cX9_errorCount 1 = .ok (.bipush (-5), 2) := by decide +kernel
theorem dX9_errorCount_3 : decode cX9_errorCount 3 = .ok (.bipush (-2), 2) := by decide +kernel
theorem dX9_errorCount_5 : decode cX9_errorCount 5 = .ok (.invokestatic 66, 3) := by decide +kernel
theorem dX9_errorCount_8 : decode cX9_errorCount 8 = .ok (.ifCond .ne 10, 3) := by decide +kernel
theorem dX9_errorCount_11 : decode cX9_errorCount 11 = .ok (.aload_n 0, 1) := by decide +kernel
theorem dX9_errorCount_12 : decode cX9_errorCount 12 = .ok (.bipush (-2), 2) := by decide +kernel
theorem dX9_errorCount_14 : decode cX9_errorCount 14 = .ok (.invokevirtual 70, 3) := by decide +kernel
theorem dX9_errorCount_17 : decode cX9_errorCount 17 = .ok (.ireturn, 1) := by decide +kernel
theorem dX9_errorCount_18 : decode cX9_errorCount 18 = .ok (.aload_n 0, 1) := by decide +kernel
theorem dX9_errorCount_19 : decode cX9_errorCount 19 = .ok (.getfield 58, 3) := by decide +kernel
theorem dX9_errorCount_22 : decode cX9_errorCount 22 = .ok (.bipush (-2), 2) := by decide +kernel
theorem dX9_errorCount_24 : decode cX9_errorCount 24 = .ok (.iload_n 1, 1) := by decide +kernel
theorem dX9_errorCount_25 : decode cX9_errorCount 25 = .ok (.isub, 1) := by decide +kernel
theorem dX9_errorCount_26 : decode cX9_errorCount 26 = .ok (.iaload, 1) := by decide +kernel
theorem dX9_errorCount_27 : decode cX9_errorCount 27 = .ok (.ireturn, 1) := by decide +kernel
set_option maxRecDepth 20000 in
theorem ggX9_digest_X9_mix : GoodIn wsX9_digest wsX9_mix := goodIn_r _ [15, 16] (by decide +kernel) (by decide +kernel)
set_option maxRecDepth 20000 in
theorem gX9_digest_X9_mix : GoodIn wsX9_digest (va_wsS RX9 194 yX9_mix wsX9_mix) := goodIn_app (goodIn_of _ (by decide +kernel)) ggX9_digest_X9_mix
set_option maxRecDepth 20000 in
theorem ggX9_digest_X9_mixFunctions : GoodIn wsX9_digest wsX9_mixFunctions := goodIn_r _ [19, 20, 21, 22, 23, 24, 25, 26, 27, 28, 14, 29, 12, 13, 15, 16, 30, 31, 32, 33, 34, 35, 36, 37, 38, 39, 40, 41, 42, 171, 172, 173, 174] (by decide +kernel) (by decide +kernel)
set_option maxRecDepth 20000 in
theorem gX9_digest_X9_mixFunctions : GoodIn wsX9_digest (va_wsS RX9 198 yX9_mixFunctions wsX9_mixFunctions) := goodIn_app (goodIn_of _ (by decide +kernel)) ggX9_digest_X9_mixFunctions
set_option maxRecDepth 20000 in
theorem ggX9_digest_X9_mixMappings : GoodIn wsX9_digest wsX9_mixMappings := goodIn_r _ [46, 5, 47, 48, 49, 50, 51, 52, 53, 28, 14, 29, 54, 55, 56, 57, 58, 59, 60, 61, 62, 63, 64, 65, 66, 67, 68, 69, 70, 22, 23, 24, 25, 26, 27, 71, 72, 73, 74, 75, 76, 77, 78, 79, 80, 81, 82, 83, 84, 85, 36, 37, 38, 39, 40, 41, 42, 86, 87, 88, 89, 90, 91, 92, 93, 94, 12, 13, 15, 16, 95, 96, 97, 98, 99, 149, 150, 151, 152, 153, 154, 155, 156, 160, 161, 162, 163, 164, 165, 166, 167, 168, 175, 176, 177, 171, 172, 173, 174] (by decide +kernel) (by decide +kernel)
set_option maxRecDepth 20000 in
theorem gX9_digest_X9_mixMappings : GoodIn wsX9_digest (wsV RX9 202 RX9 yX9_mixMappings wsX9_mixMappings) := goodIn_app (goodIn_of _ (by decide +kernel)) ggX9_digest_X9_mixMappings
set_option maxRecDepth 20000 in
theorem ggX9_digest_X9_mixProgram : GoodIn wsX9_digest wsX9_mixProgram := goodIn_r _ [103, 104, 5, 105, 106, 107, 108, 109, 110, 111, 112, 113, 114, 115, 116, 117, 118, 119, 14, 120, 121, 122, 123, 124, 125, 126, 127, 128, 129, 130, 131, 132, 133, 134, 135, 136, 137, 138, 139, 140, 141, 12, 13, 15, 16, 142, 143, 144, 145, 146, 147, 148, 149, 150, 151, 152, 153, 154, 155, 156, 160, 161, 162, 163, 164, 165, 166, 167, 168, 178, 179, 180, 181, 182, 183, 184, 185] (by decide +kernel) (by decide +kernel)
set_option maxRecDepth 20000 in
theorem gX9_digest_X9_mixProgram : GoodIn wsX9_digest (wsV RX9 206 RX9 yX9_mixProgram wsX9_mixProgram) := goodIn_app (goodIn_of _ (by decide +kernel)) ggX9_digest_X9_mixProgram
theorem dX9_digest_0 : decode cX9_digest 0 = .ok (.ldc2_w 192, 3) := by decide +kernel
theorem dX9_digest_3 : decode cX9_digest 3 = .ok (.lstore_n 1, 1) := by decide +kernel
theorem dX9_digest_4 : decode cX9_digest 4 = .ok (.iconst 0, 1) := by decide +kernel
theorem dX9_digest_5 : decode cX9_digest 5 = .ok (.istore_n 3, 1) := by decide +kernel
theorem dX9_digest_6 : decode cX9_digest 6 = .ok (.iload_n 3, 1) := by decide +kernel
theorem dX9_digest_7 : decode cX9_digest 7 = .ok (.aload_n 0, 1) := by decide +kernel
theorem dX9_digest_8 : decode cX9_digest 8 = .ok (.getfield 58, 3) := by decide +kernel
theorem dX9_digest_11 : decode cX9_digest 11 = .ok (.arraylength, 1) := by decide +kernel
theorem dX9_digest_12 : decode cX9_digest 12 = .ok (.if_icmp .ge 20, 3) := by decide +kernel
theorem dX9_digest_15 : decode cX9_digest 15 = .ok (.lload_n 1, 1) := by decide +kernel
theorem dX9_digest_16 : decode cX9_digest 16 = .ok (.aload_n 0, 1) := by decide +kernel
theorem dX9_digest_17 : decode cX9_digest 17 = .ok (.getfield 58, 3) := by decide +kernel
theorem dX9_digest_20 : decode cX9_digest 20 = .ok (.iload_n 3, 1) := by decide +kernel
theorem dX9_digest_21 : decode cX9_digest 21 = .ok (.iaload, 1) := by decide +kernel
theorem dX9_digest_22 : decode cX9_digest 22 = .ok (.invokestatic 194, 3) := by decide +kernel
theorem dX9_digest_25 : decode cX9_digest 25 = .ok (.lstore_n 1, 1) := by decide +kernel
theorem dX9_digest_26 : decode cX9_digest 26 = .ok (.iinc 3 1, 3) := by decide +kernel
theorem dX9_digest_29 : decode cX9_digest 29 = .ok (.goto (-23), 3) := by decide +kernel
theorem dX9_digest_32 : decode cX9_digest 32 = .ok (.lload_n 1, 1) := by decide +kernel
theorem dX9_digest_33 : decode cX9_digest 33 = .ok (.aload_n 0, 1) := by decide +kernel
theorem dX9_digest_34 : decode cX9_digest 34 = .ok (.getfield 26, 3) := by decide +kernel
theorem dX9_digest_37 : decode cX9_digest 37 = .ok (.getfield 138, 3) := by decide +kernel
theorem dX9_digest_40 : decode cX9_digest 40 = .ok (.invokestatic 194, 3) := by decide +kernel
theorem dX9_digest_43 : decode cX9_digest 43 = .ok (.lstore_n 1, 1) := by decide +kernel
theorem dX9_digest_44 : decode cX9_digest 44 = .ok (.lload_n 1, 1) := by decide +kernel
theorem dX9_digest_45 : decode cX9_digest 45 = .ok (.aload_n 0, 1) := by decide +kernel
theorem dX9_digest_46 : decode cX9_digest 46 = .ok (.getfield 10, 3) := by decide +kernel
theorem dX9_digest_49 : decode cX9_digest 49 = .ok (.getfield 74, 3) := by decide +kernel
theorem dX9_digest_52 : decode cX9_digest 52 = .ok (.invokestatic 198, 3) := by decide +kernel
theorem dX9_digest_55 : decode cX9_digest 55 = .ok (.lstore_n 1, 1) := by decide +kernel
theorem dX9_digest_56 : decode cX9_digest 56 = .ok (.lload_n 1, 1) := by decide +kernel
theorem dX9_digest_57 : decode cX9_digest 57 = .ok (.aload_n 0, 1) := by decide +kernel
theorem dX9_digest_58 : decode cX9_digest 58 = .ok (.getfield 10, 3) := by decide +kernel
theorem dX9_digest_61 : decode cX9_digest 61 = .ok (.getfield 85, 3) := by decide +kernel
theorem dX9_digest_64 : decode cX9_digest 64 = .ok (.invokestatic 198, 3) := by decide +kernel
theorem dX9_digest_67 : decode cX9_digest 67 = .ok (.lstore_n 1, 1) := by decide +kernel
theorem dX9_digest_68 : decode cX9_digest 68 = .ok (.aload_n 0, 1) := by decide +kernel
theorem dX9_digest_69 : decode cX9_digest 69 = .ok (.lload_n 1, 1) := by decide +kernel
theorem dX9_digest_70 : decode cX9_digest 70 = .ok (.invokevirtual 202, 3) := by decide +kernel
theorem dX9_digest_73 : decode cX9_digest 73 = .ok (.lstore_n 1, 1) := by decide +kernel
theorem dX9_digest_74 : decode cX9_digest 74 = .ok (.lload_n 1, 1) := by decide +kernel
theorem dX9_digest_75 : decode cX9_digest 75 = .ok (.aload_n 0, 1) := by decide +kernel
theorem dX9_digest_76 : decode cX9_digest 76 = .ok (.getfield 10, 3) := by decide +kernel
theorem dX9_digest_79 : decode cX9_digest 79 = .ok (.getfield 128, 3) := by decide +kernel
theorem dX9_digest_82 : decode cX9_digest 82 = .ok (.invokestatic 194, 3) := by decide +kernel
theorem dX9_digest_85 : decode cX9_digest 85 = .ok (.lstore_n 1, 1) := by decide +kernel
theorem dX9_digest_86 : decode cX9_digest 86 = .ok (.aload_n 0, 1) := by decide +kernel
theorem dX9_digest_87 : decode cX9_digest 87 = .ok (.lload_n 1, 1) := by decide +kernel
theorem dX9_digest_88 : decode cX9_digest 88 = .ok (.invokevirtual 206, 3) := by decide +kernel
theorem dX9_digest_91 : decode cX9_digest 91 = .ok (.lstore_n 1, 1) := by decide +kernel
theorem dX9_digest_92 : decode cX9_digest 92 = .ok (.iconst 1, 1) := by decide +kernel
theorem dX9_digest_93 : decode cX9_digest 93 = .ok (.istore_n 3, 1) := by decide +kernel
theorem dX9_digest_94 : decode cX9_digest 94 = .ok (.iload_n 3, 1) := by decide +kernel
theorem dX9_digest_95 : decode cX9_digest 95 = .ok (.bipush 7, 2) := by decide +kernel
theorem dX9_digest_97 : decode cX9_digest 97 = .ok (.if_icmp .gt 23, 3) := by decide +kernel
theorem dX9_digest_100 : decode cX9_digest 100 = .ok (.lload_n 1, 1) := by decide +kernel
theorem dX9_digest_101 : decode cX9_digest 101 = .ok (.aload_n 0, 1) := by decide +kernel
theorem dX9_digest_102 : decode cX9_digest 102 = .ok (.getfield 10, 3) := by decide +kernel
theorem dX9_digest_105 : decode cX9_digest 105 = .ok (.getfield 158, 3) := by decide +kernel
theorem dX9_digest_108 : decode cX9_digest 108 = .ok (.iload_n 3, 1) := by decide +kernel
theorem dX9_digest_109 : decode cX9_digest 109 = .ok (.iaload, 1) := by decide +kernel
theorem dX9_digest_110 : decode cX9_digest 110 = .ok (.invokestatic 194, 3) := by decide +kernel
theorem dX9_digest_113 : decode cX9_digest 113 = .ok (.lstore_n 1, 1) := by decide +kernel
theorem dX9_digest_114 : decode cX9_digest 114 = .ok (.iinc 3 1, 3) := by decide +kernel
theorem dX9_digest_117 : decode cX9_digest 117 = .ok (.goto (-23), 3) := by decide +kernel
theorem dX9_digest_120 : decode cX9_digest 120 = .ok (.lload_n 1, 1) := by decide +kernel
theorem dX9_digest_121 : decode cX9_digest 121 = .ok (.aload_n 0, 1) := by decide +kernel
theorem dX9_digest_122 : decode cX9_digest 122 = .ok (.getfield 19, 3) := by decide +kernel
theorem dX9_digest_125 : decode cX9_digest 125 = .ok (.getfield 189, 3) := by decide +kernel
theorem dX9_digest_128 : decode cX9_digest 128 = .ok (.invokestatic 194, 3) := by decide +kernel
theorem dX9_digest_131 : decode cX9_digest 131 = .ok (.lreturn, 1) := by decide +kernel
theorem dX9_mix_0 : decode cX9_mix 0 = .ok (.ldc2_w 209, 3) := by decide +kernel
theorem dX9_mix_3 : decode cX9_mix 3 = .ok (.lload_n 0, 1) := by decide +kernel
theorem dX9_mix_4 : decode cX9_mix 4 = .ok (.lmul, 1) := by decide +kernel
theorem dX9_mix_5 : decode cX9_mix 5 = .ok (.iload_n 2, 1) := by decide +kernel
theorem dX9_mix_6 : decode cX9_mix 6 = .ok (.i2l, 1) := by decide +kernel
theorem dX9_mix_7 : decode cX9_mix 7 = .ok (.ladd, 1) := by decide +kernel
theorem dX9_mix_8 : decode cX9_mix 8 = .ok (.lreturn, 1) := by decide +kernel
set_option maxRecDepth 20000 in
theorem ggX9_mixFunctions_X1_arityOf : GoodIn wsX9_mixFunctions wsX1_arityOf := goodIn_r _ [6, 7, 8, 9, 10, 11, 29, 30, 31, 32] (by decide +kernel) (by decide +kernel)
set_option maxRecDepth 20000 in
theorem gX9_mixFunctions_X1_arityOf : GoodIn wsX9_mixFunctions (wsV RX9 214 RX1 yX1_arityOf wsX1_arityOf) := goodIn_app (goodIn_of _ (by decide +kernel)) ggX9_mixFunctions_X1_arityOf
set_option maxRecDepth 20000 in
theorem ggX9_mixFunctions_X9_mix : GoodIn wsX9_mixFunctions wsX9_mix := goodIn_r _ [14, 15] (by decide +kernel) (by decide +kernel)
set_option maxRecDepth 20000 in
theorem gX9_mixFunctions_X9_mix : GoodIn wsX9_mixFunctions (va_wsS RX9 194 yX9_mix wsX9_mix) := goodIn_app (goodIn_of _ (by decide +kernel)) ggX9_mixFunctions_X9_mix
set_option maxRecDepth 20000 in
theorem ggX9_mixFunctions_X1_effectOf : GoodIn wsX9_mixFunctions wsX1_effectOf := goodIn_r _ [19, 7, 20, 9, 10, 11, 29, 30, 31, 32] (by decide +kernel) (by decide +kernel)
set_option maxRecDepth 20000 in
theorem gX9_mixFunctions_X1_effectOf : GoodIn wsX9_mixFunctions (wsV RX9 217 RX1 yX1_effectOf wsX1_effectOf) := goodIn_app (goodIn_of _ (by decide +kernel)) ggX9_mixFunctions_X1_effectOf
set_option maxRecDepth 20000 in
theorem ggX9_mixFunctions_X1_term : GoodIn wsX9_mixFunctions wsX1_term := goodIn_r _ [24, 25, 26, 27, 5, 28, 9, 10, 11, 29, 30, 31, 32] (by decide +kernel) (by decide +kernel)
set_option maxRecDepth 20000 in
theorem gX9_mixFunctions_X1_term : GoodIn wsX9_mixFunctions (wsV RX9 220 RX1 yX1_term wsX1_term) := goodIn_app (goodIn_of _ (by decide +kernel)) ggX9_mixFunctions_X1_term
theorem dX9_mixFunctions_0 : decode cX9_mixFunctions 0 = .ok (.lload_n 0, 1) := by decide +kernel
theorem dX9_mixFunctions_1 : decode cX9_mixFunctions 1 = .ok (.lstore_n 3, 1) := by decide +kernel
theorem dX9_mixFunctions_2 : decode cX9_mixFunctions 2 = .ok (.iconst 0, 1) := by decide +kernel
theorem dX9_mixFunctions_3 : decode cX9_mixFunctions 3 = .ok (.istore 5, 2) := by decide +kernel
theorem dX9_mixFunctions_5 : decode cX9_mixFunctions 5 = .ok (.iload 5, 2) := by decide +kernel
theorem dX9_mixFunctions_7 : decode cX9_mixFunctions 7 = .ok (.aload_n 2, 1) := by decide +kernel
theorem dX9_mixFunctions_8 : decode cX9_mixFunctions 8 = .ok (.getfield 211, 3) := by decide +kernel
theorem dX9_mixFunctions_11 : decode cX9_mixFunctions 11 = .ok (.if_icmp .ge 59, 3) := by decide +kernel
theorem dX9_mixFunctions_14 : decode cX9_mixFunctions 14 = .ok (.lload_n 3, 1) := by decide +kernel
theorem dX9_mixFunctions_15 : decode cX9_mixFunctions 15 = .ok (.aload_n 2, 1) := by decide +kernel
theorem dX9_mixFunctions_16 : decode cX9_mixFunctions 16 = .ok (.iload 5, 2) := by decide +kernel
theorem dX9_mixFunctions_18 : decode cX9_mixFunctions 18 = .ok (.invokevirtual 214, 3) := by decide +kernel
theorem dX9_mixFunctions_21 : decode cX9_mixFunctions 21 = .ok (.invokestatic 194, 3) := by decide +kernel
theorem dX9_mixFunctions_24 : decode cX9_mixFunctions 24 = .ok (.lstore_n 3, 1) := by decide +kernel
theorem dX9_mixFunctions_25 : decode cX9_mixFunctions 25 = .ok (.lload_n 3, 1) := by decide +kernel
theorem dX9_mixFunctions_26 : decode cX9_mixFunctions 26 = .ok (.aload_n 2, 1) := by decide +kernel
theorem dX9_mixFunctions_27 : decode cX9_mixFunctions 27 = .ok (.iload 5, 2) := by decide +kernel
theorem dX9_mixFunctions_29 : decode cX9_mixFunctions 29 = .ok (.invokevirtual 217, 3) := by decide +kernel
theorem dX9_mixFunctions_32 : decode cX9_mixFunctions 32 = .ok (.invokestatic 194, 3) := by decide +kernel
theorem dX9_mixFunctions_35 : decode cX9_mixFunctions 35 = .ok (.lstore_n 3, 1) := by decide +kernel
theorem dX9_mixFunctions_36 : decode cX9_mixFunctions 36 = .ok (.iconst (-1), 1) := by decide +kernel
theorem dX9_mixFunctions_37 : decode cX9_mixFunctions 37 = .ok (.istore 6, 2) := by decide +kernel
theorem dX9_mixFunctions_39 : decode cX9_mixFunctions 39 = .ok (.iload 6, 2) := by decide +kernel
theorem dX9_mixFunctions_41 : decode cX9_mixFunctions 41 = .ok (.iconst 4, 1) := by decide +kernel
theorem dX9_mixFunctions_42 : decode cX9_mixFunctions 42 = .ok (.if_icmp .ge 22, 3) := by decide +kernel
theorem dX9_mixFunctions_45 : decode cX9_mixFunctions 45 = .ok (.lload_n 3, 1) := by decide +kernel
theorem dX9_mixFunctions_46 : decode cX9_mixFunctions 46 = .ok (.aload_n 2, 1) := by decide +kernel
theorem dX9_mixFunctions_47 : decode cX9_mixFunctions 47 = .ok (.iload 5, 2) := by decide +kernel
theorem dX9_mixFunctions_49 : decode cX9_mixFunctions 49 = .ok (.iload 6, 2) := by decide +kernel
theorem dX9_mixFunctions_51 : decode cX9_mixFunctions 51 = .ok (.invokevirtual 220, 3) := by decide +kernel
theorem dX9_mixFunctions_54 : decode cX9_mixFunctions 54 = .ok (.invokestatic 194, 3) := by decide +kernel
theorem dX9_mixFunctions_57 : decode cX9_mixFunctions 57 = .ok (.lstore_n 3, 1) := by decide +kernel
theorem dX9_mixFunctions_58 : decode cX9_mixFunctions 58 = .ok (.iinc 6 1, 3) := by decide +kernel
theorem dX9_mixFunctions_61 : decode cX9_mixFunctions 61 = .ok (.goto (-22), 3) := by decide +kernel
theorem dX9_mixFunctions_64 : decode cX9_mixFunctions 64 = .ok (.iinc 5 1, 3) := by decide +kernel
theorem dX9_mixFunctions_67 : decode cX9_mixFunctions 67 = .ok (.goto (-62), 3) := by decide +kernel
theorem dX9_mixFunctions_70 : decode cX9_mixFunctions 70 = .ok (.lload_n 3, 1) := by decide +kernel
theorem dX9_mixFunctions_71 : decode cX9_mixFunctions 71 = .ok (.lreturn, 1) := by decide +kernel
set_option maxRecDepth 20000 in
theorem ggX9_mixMappings_X4_targetOf : GoodIn wsX9_mixMappings wsX4_targetOf := goodIn_r _ [7, 8, 9, 10, 11, 92, 93, 94] (by decide +kernel) (by decide +kernel)
set_option maxRecDepth 20000 in
theorem gX9_mixMappings_X4_targetOf : GoodIn wsX9_mixMappings (wsV RX9 102 RX4 yX4_targetOf wsX4_targetOf) := goodIn_app (goodIn_of _ (by decide +kernel)) ggX9_mixMappings_X4_targetOf
set_option maxRecDepth 20000 in
theorem ggX9_mixMappings_X9_faithfulness : GoodIn wsX9_mixMappings wsX9_faithfulness := goodIn_r _ [15, 1, 16, 17, 18, 19, 20, 21, 22, 23, 24, 25, 26, 27, 4, 5, 6, 7, 8, 9, 10, 11, 28, 29, 30, 31, 32, 33, 34, 35, 36, 37, 38, 39, 40, 41, 42, 43, 44, 45, 46, 47, 48, 49, 50, 51, 52, 53, 54, 55, 56, 57, 58, 59, 60, 61, 62, 63, 64, 65, 75, 76, 77, 78, 79, 80, 81, 82, 83, 84, 85, 86, 87, 88, 89, 90, 91, 92, 93, 94, 95, 96, 97, 98] (by decide +kernel) (by decide +kernel)
set_option maxRecDepth 20000 in
theorem gX9_mixMappings_X9_faithfulness : GoodIn wsX9_mixMappings (wsV RX9 115 RX9 yX9_faithfulness wsX9_faithfulness) := goodIn_app (goodIn_of _ (by decide +kernel)) ggX9_mixMappings_X9_faithfulness
set_option maxRecDepth 20000 in
theorem ggX9_mixMappings_X9_mix : GoodIn wsX9_mixMappings wsX9_mix := goodIn_r _ [68, 69] (by decide +kernel) (by decide +kernel)
set_option maxRecDepth 20000 in
theorem gX9_mixMappings_X9_mix : GoodIn wsX9_mixMappings (va_wsS RX9 194 yX9_mix wsX9_mix) := goodIn_app (goodIn_of _ (by decide +kernel)) ggX9_mixMappings_X9_mix
set_option maxRecDepth 20000 in
theorem ggX9_mixMappings_X8_adapterNumber : GoodIn wsX9_mixMappings wsX8_adapterNumber := goodIn_r _ [73, 74, 9, 10, 11, 83, 84, 85, 86, 87, 88, 89, 90, 91] (by decide +kernel) (by decide +kernel)
set_option maxRecDepth 20000 in
theorem gX9_mixMappings_X8_adapterNumber : GoodIn wsX9_mixMappings (wsV RX9 132 RX8 yX8_adapterNumber wsX8_adapterNumber) := goodIn_app (goodIn_of _ (by decide +kernel)) ggX9_mixMappings_X8_adapterNumber
theorem dX9_mixMappings_0 : decode cX9_mixMappings 0 = .ok (.lload_n 1, 1) := by decide +kernel
theorem dX9_mixMappings_1 : decode cX9_mixMappings 1 = .ok (.lstore_n 3, 1) := by decide +kernel
theorem dX9_mixMappings_2 : decode cX9_mixMappings 2 = .ok (.iconst 0, 1) := by decide +kernel
theorem dX9_mixMappings_3 : decode cX9_mixMappings 3 = .ok (.istore 5, 2) := by decide +kernel
theorem dX9_mixMappings_5 : decode cX9_mixMappings 5 = .ok (.iload 5, 2) := by decide +kernel
theorem dX9_mixMappings_7 : decode cX9_mixMappings 7 = .ok (.bipush 6, 2) := by decide +kernel
theorem dX9_mixMappings_9 : decode cX9_mixMappings 9 = .ok (.if_icmp .ge 68, 3) := by decide +kernel
theorem dX9_mixMappings_12 : decode cX9_mixMappings 12 = .ok (.aload_n 0, 1) := by decide +kernel
theorem dX9_mixMappings_13 : decode cX9_mixMappings 13 = .ok (.getfield 10, 3) := by decide +kernel
theorem dX9_mixMappings_16 : decode cX9_mixMappings 16 = .ok (.getfield 98, 3) := by decide +kernel
theorem dX9_mixMappings_19 : decode cX9_mixMappings 19 = .ok (.iload 5, 2) := by decide +kernel
theorem dX9_mixMappings_21 : decode cX9_mixMappings 21 = .ok (.invokevirtual 102, 3) := by decide +kernel
theorem dX9_mixMappings_24 : decode cX9_mixMappings 24 = .ok (.iconst (-1), 1) := by decide +kernel
theorem dX9_mixMappings_25 : decode cX9_mixMappings 25 = .ok (.if_icmp .eq 7, 3) := by decide +kernel
theorem dX9_mixMappings_28 : decode cX9_mixMappings 28 = .ok (.iconst 1, 1) := by decide +kernel
theorem dX9_mixMappings_29 : decode cX9_mixMappings 29 = .ok (.goto 4, 3) := by decide +kernel
theorem dX9_mixMappings_32 : decode cX9_mixMappings 32 = .ok (.iconst 0, 1) := by decide +kernel
theorem dX9_mixMappings_33 : decode cX9_mixMappings 33 = .ok (.istore 6, 2) := by decide +kernel
theorem dX9_mixMappings_35 : decode cX9_mixMappings 35 = .ok (.lload_n 3, 1) := by decide +kernel
theorem dX9_mixMappings_36 : decode cX9_mixMappings 36 = .ok (.iload 6, 2) := by decide +kernel
theorem dX9_mixMappings_38 : decode cX9_mixMappings 38 = .ok (.ifCond .eq 14, 3) := by decide +kernel
theorem dX9_mixMappings_41 : decode cX9_mixMappings 41 = .ok (.iconst 1, 1) := by decide +kernel
theorem dX9_mixMappings_42 : decode cX9_mixMappings 42 = .ok (.aload_n 0, 1) := by decide +kernel
theorem dX9_mixMappings_43 : decode cX9_mixMappings 43 = .ok (.iload 5, 2) := by decide +kernel
theorem dX9_mixMappings_45 : decode cX9_mixMappings 45 = .ok (.invokevirtual 115, 3) := by decide +kernel
theorem dX9_mixMappings_48 : decode cX9_mixMappings 48 = .ok (.iadd, 1) := by decide +kernel
theorem dX9_mixMappings_49 : decode cX9_mixMappings 49 = .ok (.goto 4, 3) := by decide +kernel
theorem dX9_mixMappings_52 : decode cX9_mixMappings 52 = .ok (.iconst 0, 1) := by decide +kernel
theorem dX9_mixMappings_53 : decode cX9_mixMappings 53 = .ok (.invokestatic 194, 3) := by decide +kernel
theorem dX9_mixMappings_56 : decode cX9_mixMappings 56 = .ok (.lstore_n 3, 1) := by decide +kernel
theorem dX9_mixMappings_57 : decode cX9_mixMappings 57 = .ok (.lload_n 3, 1) := by decide +kernel
theorem dX9_mixMappings_58 : decode cX9_mixMappings 58 = .ok (.aload_n 0, 1) := by decide +kernel
theorem dX9_mixMappings_59 : decode cX9_mixMappings 59 = .ok (.getfield 10, 3) := by decide +kernel
theorem dX9_mixMappings_62 : decode cX9_mixMappings 62 = .ok (.iload 5, 2) := by decide +kernel
theorem dX9_mixMappings_64 : decode cX9_mixMappings 64 = .ok (.invokevirtual 132, 3) := by decide +kernel
theorem dX9_mixMappings_67 : decode cX9_mixMappings 67 = .ok (.invokestatic 194, 3) := by decide +kernel
theorem dX9_mixMappings_70 : decode cX9_mixMappings 70 = .ok (.lstore_n 3, 1) := by decide +kernel
theorem dX9_mixMappings_71 : decode cX9_mixMappings 71 = .ok (.iinc 5 1, 3) := by decide +kernel
theorem dX9_mixMappings_74 : decode cX9_mixMappings 74 = .ok (.goto (-69), 3) := by decide +kernel
theorem dX9_mixMappings_77 : decode cX9_mixMappings 77 = .ok (.lload_n 3, 1) := by decide +kernel
theorem dX9_mixMappings_78 : decode cX9_mixMappings 78 = .ok (.lreturn, 1) := by decide +kernel
set_option maxRecDepth 20000 in
theorem ggX9_mixProgram_X7_write : GoodIn wsX9_mixProgram wsX7_write := goodIn_r _ [10, 11, 12, 13, 14, 15, 16, 17, 18, 19, 20, 21, 22, 9, 23, 24, 25, 26, 27, 28, 29, 30, 31, 32, 33, 34, 35, 36, 37, 38, 39, 40, 69, 70, 71, 72, 73, 74, 75, 76] (by decide +kernel) (by decide +kernel)
set_option maxRecDepth 20000 in
theorem gX9_mixProgram_X7_write : GoodIn wsX9_mixProgram (wsV RX9 178 RX7 yX7_write wsX7_write) := goodIn_app (goodIn_of _ (by decide +kernel)) ggX9_mixProgram_X7_write
set_option maxRecDepth 20000 in
theorem ggX9_mixProgram_X9_mix : GoodIn wsX9_mixProgram wsX9_mix := goodIn_r _ [43, 44] (by decide +kernel) (by decide +kernel)
set_option maxRecDepth 20000 in
theorem gX9_mixProgram_X9_mix : GoodIn wsX9_mixProgram (va_wsS RX9 194 yX9_mix wsX9_mix) := goodIn_app (goodIn_of _ (by decide +kernel)) ggX9_mixProgram_X9_mix
set_option maxRecDepth 20000 in
theorem ggX9_mixProgram_X6_countSites : GoodIn wsX9_mixProgram wsX6_countSites := goodIn_r _ [49, 50, 51, 73, 74, 75, 76] (by decide +kernel) (by decide +kernel)
set_option maxRecDepth 20000 in
theorem gX9_mixProgram_X6_countSites : GoodIn wsX9_mixProgram (wsV RX9 171 RX6 yX6_countSites wsX6_countSites) := goodIn_app (goodIn_of _ (by decide +kernel)) ggX9_mixProgram_X6_countSites
theorem dX9_mixProgram_0 : decode cX9_mixProgram 0 = .ok (.lload_n 1, 1) := by decide +kernel
theorem dX9_mixProgram_1 : decode cX9_mixProgram 1 = .ok (.lstore_n 3, 1) := by decide +kernel
theorem dX9_mixProgram_2 : decode cX9_mixProgram 2 = .ok (.aload_n 0, 1) := by decide +kernel
theorem dX9_mixProgram_3 : decode cX9_mixProgram 3 = .ok (.getfield 40, 3) := by decide +kernel
theorem dX9_mixProgram_6 : decode cX9_mixProgram 6 = .ok (.aload_n 0, 1) := by decide +kernel
theorem dX9_mixProgram_7 : decode cX9_mixProgram 7 = .ok (.getfield 10, 3) := by decide +kernel
theorem dX9_mixProgram_10 : decode cX9_mixProgram 10 = .ok (.getfield 148, 3) := by decide +kernel
theorem dX9_mixProgram_13 : decode cX9_mixProgram 13 = .ok (.invokevirtual 178, 3) := by decide +kernel
theorem dX9_mixProgram_16 : decode cX9_mixProgram 16 = .ok (.iconst 0, 1) := by decide +kernel
theorem dX9_mixProgram_17 : decode cX9_mixProgram 17 = .ok (.istore 5, 2) := by decide +kernel
theorem dX9_mixProgram_19 : decode cX9_mixProgram 19 = .ok (.iload 5, 2) := by decide +kernel
theorem dX9_mixProgram_21 : decode cX9_mixProgram 21 = .ok (.aload_n 0, 1) := by decide +kernel
theorem dX9_mixProgram_22 : decode cX9_mixProgram 22 = .ok (.getfield 40, 3) := by decide +kernel
theorem dX9_mixProgram_25 : decode cX9_mixProgram 25 = .ok (.getfield 181, 3) := by decide +kernel
theorem dX9_mixProgram_28 : decode cX9_mixProgram 28 = .ok (.if_icmp .ge 24, 3) := by decide +kernel
theorem dX9_mixProgram_31 : decode cX9_mixProgram 31 = .ok (.lload_n 3, 1) := by decide +kernel
theorem dX9_mixProgram_32 : decode cX9_mixProgram 32 = .ok (.aload_n 0, 1) := by decide +kernel
theorem dX9_mixProgram_33 : decode cX9_mixProgram 33 = .ok (.getfield 40, 3) := by decide +kernel
theorem dX9_mixProgram_36 : decode cX9_mixProgram 36 = .ok (.getfield 182, 3) := by decide +kernel
theorem dX9_mixProgram_39 : decode cX9_mixProgram 39 = .ok (.iload 5, 2) := by decide +kernel
theorem dX9_mixProgram_41 : decode cX9_mixProgram 41 = .ok (.iaload, 1) := by decide +kernel
theorem dX9_mixProgram_42 : decode cX9_mixProgram 42 = .ok (.invokestatic 194, 3) := by decide +kernel
theorem dX9_mixProgram_45 : decode cX9_mixProgram 45 = .ok (.lstore_n 3, 1) := by decide +kernel
theorem dX9_mixProgram_46 : decode cX9_mixProgram 46 = .ok (.iinc 5 1, 3) := by decide +kernel
theorem dX9_mixProgram_49 : decode cX9_mixProgram 49 = .ok (.goto (-30), 3) := by decide +kernel
theorem dX9_mixProgram_52 : decode cX9_mixProgram 52 = .ok (.lload_n 3, 1) := by decide +kernel
theorem dX9_mixProgram_53 : decode cX9_mixProgram 53 = .ok (.aload_n 0, 1) := by decide +kernel
theorem dX9_mixProgram_54 : decode cX9_mixProgram 54 = .ok (.getfield 10, 3) := by decide +kernel
theorem dX9_mixProgram_57 : decode cX9_mixProgram 57 = .ok (.getfield 148, 3) := by decide +kernel
theorem dX9_mixProgram_60 : decode cX9_mixProgram 60 = .ok (.invokevirtual 171, 3) := by decide +kernel
theorem dX9_mixProgram_63 : decode cX9_mixProgram 63 = .ok (.invokestatic 194, 3) := by decide +kernel
theorem dX9_mixProgram_66 : decode cX9_mixProgram 66 = .ok (.lreturn, 1) := by decide +kernel
set_option maxRecDepth 20000 in
theorem ggX9_changeShape_X2_save : GoodIn wsX9_changeShape wsX2_save := goodIn_r _ [7, 8, 9, 10, 11, 12, 6, 13, 14, 15, 16, 17, 18, 19, 20, 21, 22, 23, 24, 25, 26, 27, 28, 29, 30, 31, 32, 33, 34, 35, 36, 37, 38, 39, 40, 41, 42, 43, 44, 45, 46, 47, 48, 49, 50, 51, 52, 53, 54, 55, 56, 57, 58, 59, 60, 61, 62, 63, 64, 65, 66, 67, 68, 69, 70, 71, 72, 73, 74, 75, 76, 77, 78, 95, 96, 97, 98, 99, 100, 101, 102, 103, 104, 105, 106, 107, 108, 109, 110, 111, 112, 113, 114, 115, 116] (by decide +kernel) (by decide +kernel)
set_option maxRecDepth 20000 in
theorem gX9_changeShape_X2_save : GoodIn wsX9_changeShape (wsV RX9 94 RX2 yX2_save wsX2_save) := goodIn_app (goodIn_of _ (by decide +kernel)) ggX9_changeShape_X2_save
set_option maxRecDepth 20000 in
theorem ggX9_changeShape_X1_arityOf : GoodIn wsX9_changeShape wsX1_arityOf := goodIn_r _ [82, 37, 42, 46, 47, 48, 106, 107, 108, 109] (by decide +kernel) (by decide +kernel)
set_option maxRecDepth 20000 in
theorem gX9_changeShape_X1_arityOf : GoodIn wsX9_changeShape (wsV RX9 214 RX1 yX1_arityOf wsX1_arityOf) := goodIn_app (goodIn_of _ (by decide +kernel)) ggX9_changeShape_X1_arityOf
set_option maxRecDepth 20000 in
theorem ggX9_changeShape_X1_putShape : GoodIn wsX9_changeShape wsX1_putShape := goodIn_r _ [86, 37, 42, 43, 46, 47, 48, 106, 107, 108, 109] (by decide +kernel) (by decide +kernel)
set_option maxRecDepth 20000 in
theorem gX9_changeShape_X1_putShape : GoodIn wsX9_changeShape (wsV RX9 224 RX1 yX1_putShape wsX1_putShape) := goodIn_app (goodIn_of _ (by decide +kernel)) ggX9_changeShape_X1_putShape
theorem dX9_changeShape_0 : decode cX9_changeShape 0 = .ok (.aload_n 0, 1) := by decide +kernel
theorem dX9_changeShape_1 : decode cX9_changeShape 1 = .ok (.getfield 19, 3) := by decide +kernel
theorem dX9_changeShape_4 : decode cX9_changeShape 4 = .ok (.aload_n 0, 1) := by decide +kernel
theorem dX9_changeShape_5 : decode cX9_changeShape 5 = .ok (.getfield 10, 3) := by decide +kernel
theorem dX9_changeShape_8 : decode cX9_changeShape 8 = .ok (.invokevirtual 94, 3) := by decide +kernel
theorem dX9_changeShape_11 : decode cX9_changeShape 11 = .ok (.aload_n 1, 1) := by decide +kernel
theorem dX9_changeShape_12 : decode cX9_changeShape 12 = .ok (.iload_n 2, 1) := by decide +kernel
theorem dX9_changeShape_13 : decode cX9_changeShape 13 = .ok (.invokevirtual 214, 3) := by decide +kernel
theorem dX9_changeShape_16 : decode cX9_changeShape 16 = .ok (.istore 5, 2) := by decide +kernel
theorem dX9_changeShape_18 : decode cX9_changeShape 18 = .ok (.aload_n 1, 1) := by decide +kernel
theorem dX9_changeShape_19 : decode cX9_changeShape 19 = .ok (.iload_n 2, 1) := by decide +kernel
theorem dX9_changeShape_20 : decode cX9_changeShape 20 = .ok (.iload_n 3, 1) := by decide +kernel
theorem dX9_changeShape_21 : decode cX9_changeShape 21 = .ok (.iload 4, 2) := by decide +kernel
theorem dX9_changeShape_23 : decode cX9_changeShape 23 = .ok (.invokevirtual 224, 3) := by decide +kernel
theorem dX9_changeShape_26 : decode cX9_changeShape 26 = .ok (.iload 5, 2) := by decide +kernel
theorem dX9_changeShape_28 : decode cX9_changeShape 28 = .ok (.ireturn, 1) := by decide +kernel
set_option maxRecDepth 20000 in
theorem ggX9_changeTerm_X2_save : GoodIn wsX9_changeTerm wsX2_save := goodIn_r _ [7, 8, 9, 10, 11, 12, 6, 13, 14, 15, 16, 17, 18, 19, 20, 21, 22, 23, 24, 25, 26, 27, 28, 29, 30, 31, 32, 33, 34, 35, 36, 37, 38, 39, 40, 41, 42, 43, 44, 45, 46, 47, 48, 49, 50, 51, 52, 53, 54, 55, 56, 57, 58, 59, 60, 61, 62, 63, 64, 65, 66, 67, 68, 69, 70, 71, 72, 73, 74, 75, 76, 77, 78, 98, 99, 100, 101, 102, 103, 104, 105, 106, 107, 108, 109, 110, 111, 112, 113, 114, 115, 116, 117, 118, 119] (by decide +kernel) (by decide +kernel)
set_option maxRecDepth 20000 in
theorem gX9_changeTerm_X2_save : GoodIn wsX9_changeTerm (wsV RX9 94 RX2 yX2_save wsX2_save) := goodIn_app (goodIn_of _ (by decide +kernel)) ggX9_changeTerm_X2_save
set_option maxRecDepth 20000 in
theorem ggX9_changeTerm_X1_term : GoodIn wsX9_changeTerm wsX1_term := goodIn_r _ [82, 44, 83, 84, 35, 85, 46, 47, 48, 109, 110, 111, 112] (by decide +kernel) (by decide +kernel)
set_option maxRecDepth 20000 in
theorem gX9_changeTerm_X1_term : GoodIn wsX9_changeTerm (wsV RX9 220 RX1 yX1_term wsX1_term) := goodIn_app (goodIn_of _ (by decide +kernel)) ggX9_changeTerm_X1_term
set_option maxRecDepth 20000 in
theorem ggX9_changeTerm_X1_putTerm : GoodIn wsX9_changeTerm wsX1_putTerm := goodIn_r _ [89, 44, 83, 84, 35, 85, 46, 47, 48, 109, 110, 111, 112] (by decide +kernel) (by decide +kernel)
set_option maxRecDepth 20000 in
theorem gX9_changeTerm_X1_putTerm : GoodIn wsX9_changeTerm (wsV RX9 228 RX1 yX1_putTerm wsX1_putTerm) := goodIn_app (goodIn_of _ (by decide +kernel)) ggX9_changeTerm_X1_putTerm
theorem dX9_changeTerm_0 : decode cX9_changeTerm 0 = .ok (.aload_n 0, 1) := by decide +kernel
theorem dX9_changeTerm_1 : decode cX9_changeTerm 1 = .ok (.getfield 19, 3) := by decide +kernel
theorem dX9_changeTerm_4 : decode cX9_changeTerm 4 = .ok (.aload_n 0, 1) := by decide +kernel
theorem dX9_changeTerm_5 : decode cX9_changeTerm 5 = .ok (.getfield 10, 3) := by decide +kernel
theorem dX9_changeTerm_8 : decode cX9_changeTerm 8 = .ok (.invokevirtual 94, 3) := by decide +kernel
theorem dX9_changeTerm_11 : decode cX9_changeTerm 11 = .ok (.aload_n 1, 1) := by decide +kernel
theorem dX9_changeTerm_12 : decode cX9_changeTerm 12 = .ok (.iload_n 2, 1) := by decide +kernel
theorem dX9_changeTerm_13 : decode cX9_changeTerm 13 = .ok (.iload_n 3, 1) := by decide +kernel
theorem dX9_changeTerm_14 : decode cX9_changeTerm 14 = .ok (.invokevirtual 220, 3) := by decide +kernel
theorem dX9_changeTerm_17 : decode cX9_changeTerm 17 = .ok (.istore 5, 2) := by decide +kernel
theorem dX9_changeTerm_19 : decode cX9_changeTerm 19 = .ok (.aload_n 1, 1) := by decide +kernel
theorem dX9_changeTerm_20 : decode cX9_changeTerm 20 = .ok (.iload_n 2, 1) := by decide +kernel
theorem dX9_changeTerm_21 : decode cX9_changeTerm 21 = .ok (.iload_n 3, 1) := by decide +kernel
theorem dX9_changeTerm_22 : decode cX9_changeTerm 22 = .ok (.iload 4, 2) := by decide +kernel
theorem dX9_changeTerm_24 : decode cX9_changeTerm 24 = .ok (.invokevirtual 228, 3) := by decide +kernel
theorem dX9_changeTerm_27 : decode cX9_changeTerm 27 = .ok (.iload 5, 2) := by decide +kernel
theorem dX9_changeTerm_29 : decode cX9_changeTerm 29 = .ok (.ireturn, 1) := by decide +kernel
set_option maxRecDepth 20000 in
theorem ggX9_changeEntry_X4_targetOf : GoodIn wsX9_changeEntry wsX4_targetOf := goodIn_r _ [8, 9, 10, 11, 12, 155, 156, 157] (by decide +kernel) (by decide +kernel)
set_option maxRecDepth 20000 in
theorem gX9_changeEntry_X4_targetOf : GoodIn wsX9_changeEntry (wsV RX9 102 RX4 yX4_targetOf wsX4_targetOf) := goodIn_app (goodIn_of _ (by decide +kernel)) ggX9_changeEntry_X4_targetOf
set_option maxRecDepth 20000 in
theorem ggX9_changeEntry_X9_refuse : GoodIn wsX9_changeEntry wsX9_refuse := goodIn_r _ [16, 17, 18, 10, 11, 12, 138, 139, 140, 141, 142, 143, 144, 145] (by decide +kernel) (by decide +kernel)
set_option maxRecDepth 20000 in
theorem gX9_changeEntry_X9_refuse : GoodIn wsX9_changeEntry (wsV RX9 70 RX9 yX9_refuse wsX9_refuse) := goodIn_app (goodIn_of _ (by decide +kernel)) ggX9_changeEntry_X9_refuse
set_option maxRecDepth 20000 in
theorem ggX9_changeEntry_X2_save : GoodIn wsX9_changeEntry wsX2_save := goodIn_r _ [23, 24, 25, 26, 27, 28, 22, 29, 30, 31, 32, 33, 34, 35, 36, 37, 38, 39, 40, 41, 42, 43, 44, 45, 46, 47, 48, 49, 50, 51, 52, 53, 54, 55, 56, 57, 58, 59, 60, 61, 10, 11, 12, 62, 63, 64, 7, 65, 9, 66, 67, 68, 69, 70, 71, 72, 73, 74, 75, 76, 77, 78, 79, 80, 81, 82, 83, 84, 85, 86, 87, 88, 89, 158, 159, 146, 147, 148, 149, 150, 151, 152, 153, 154, 160, 161, 162, 163, 155, 156, 157, 164, 165, 166, 167] (by decide +kernel) (by decide +kernel)
set_option maxRecDepth 20000 in
theorem gX9_changeEntry_X2_save : GoodIn wsX9_changeEntry (wsV RX9 94 RX2 yX2_save wsX2_save) := goodIn_app (goodIn_of _ (by decide +kernel)) ggX9_changeEntry_X2_save
set_option maxRecDepth 20000 in
theorem ggX9_changeEntry_X4_putEntry : GoodIn wsX9_changeEntry wsX4_putEntry := goodIn_r _ [93, 67, 68, 10, 11, 12, 155, 156, 157] (by decide +kernel) (by decide +kernel)
set_option maxRecDepth 20000 in
theorem gX9_changeEntry_X4_putEntry : GoodIn wsX9_changeEntry (wsV RX9 231 RX4 yX4_putEntry wsX4_putEntry) := goodIn_app (goodIn_of _ (by decide +kernel)) ggX9_changeEntry_X4_putEntry
set_option maxRecDepth 20000 in
theorem ggX9_changeEntry_X9_faithfulness : GoodIn wsX9_changeEntry wsX9_faithfulness := goodIn_r _ [97, 1, 98, 99, 100, 33, 101, 45, 102, 103, 104, 105, 36, 106, 5, 6, 7, 8, 9, 10, 11, 12, 107, 108, 109, 51, 110, 53, 58, 111, 112, 113, 114, 35, 115, 116, 117, 118, 67, 119, 120, 121, 122, 123, 124, 125, 126, 60, 127, 128, 129, 130, 131, 132, 133, 68, 134, 135, 136, 137, 138, 139, 140, 141, 142, 143, 144, 145, 146, 147, 148, 149, 150, 151, 152, 153, 154, 155, 156, 157, 160, 161, 162, 163] (by decide +kernel) (by decide +kernel)
set_option maxRecDepth 20000 in
theorem gX9_changeEntry_X9_faithfulness : GoodIn wsX9_changeEntry (wsV RX9 115 RX9 yX9_faithfulness wsX9_faithfulness) := goodIn_app (goodIn_of _ (by decide +kernel)) ggX9_changeEntry_X9_faithfulness
theorem dX9_changeEntry_0 : decode cX9_changeEntry 0 = .ok (.aload_n 0, 1) := by decide +kernel
theorem dX9_changeEntry_1 : decode cX9_changeEntry 1 = .ok (.getfield 10, 3) := by decide +kernel
theorem dX9_changeEntry_4 : decode cX9_changeEntry 4 = .ok (.getfield 98, 3) := by decide +kernel
theorem dX9_changeEntry_7 : decode cX9_changeEntry 7 = .ok (.iload_n 1, 1) := by decide +kernel
theorem dX9_changeEntry_8 : decode cX9_changeEntry 8 = .ok (.invokevirtual 102, 3) := by decide +kernel
theorem dX9_changeEntry_11 : decode cX9_changeEntry 11 = .ok (.iconst (-1), 1) := by decide +kernel
theorem dX9_changeEntry_12 : decode cX9_changeEntry 12 = .ok (.if_icmp .ne 10, 3) := by decide +kernel
theorem dX9_changeEntry_15 : decode cX9_changeEntry 15 = .ok (.aload_n 0, 1) := by decide +kernel
theorem dX9_changeEntry_16 : decode cX9_changeEntry 16 = .ok (.bipush (-3), 2) := by decide +kernel
theorem dX9_changeEntry_18 : decode cX9_changeEntry 18 = .ok (.invokevirtual 70, 3) := by decide +kernel
theorem dX9_changeEntry_21 : decode cX9_changeEntry 21 = .ok (.ireturn, 1) := by decide +kernel
theorem dX9_changeEntry_22 : decode cX9_changeEntry 22 = .ok (.aload_n 0, 1) := by decide +kernel
theorem dX9_changeEntry_23 : decode cX9_changeEntry 23 = .ok (.getfield 19, 3) := by decide +kernel
theorem dX9_changeEntry_26 : decode cX9_changeEntry 26 = .ok (.aload_n 0, 1) := by decide +kernel
theorem dX9_changeEntry_27 : decode cX9_changeEntry 27 = .ok (.getfield 10, 3) := by decide +kernel
theorem dX9_changeEntry_30 : decode cX9_changeEntry 30 = .ok (.invokevirtual 94, 3) := by decide +kernel
theorem dX9_changeEntry_33 : decode cX9_changeEntry 33 = .ok (.aload_n 0, 1) := by decide +kernel
theorem dX9_changeEntry_34 : decode cX9_changeEntry 34 = .ok (.getfield 10, 3) := by decide +kernel
theorem dX9_changeEntry_37 : decode cX9_changeEntry 37 = .ok (.getfield 98, 3) := by decide +kernel
theorem dX9_changeEntry_40 : decode cX9_changeEntry 40 = .ok (.iload_n 1, 1) := by decide +kernel
theorem dX9_changeEntry_41 : decode cX9_changeEntry 41 = .ok (.iload_n 2, 1) := by decide +kernel
theorem dX9_changeEntry_42 : decode cX9_changeEntry 42 = .ok (.iload_n 3, 1) := by decide +kernel
theorem dX9_changeEntry_43 : decode cX9_changeEntry 43 = .ok (.iload 4, 2) := by decide +kernel
theorem dX9_changeEntry_45 : decode cX9_changeEntry 45 = .ok (.invokevirtual 231, 3) := by decide +kernel
theorem dX9_changeEntry_48 : decode cX9_changeEntry 48 = .ok (.aload_n 0, 1) := by decide +kernel
theorem dX9_changeEntry_49 : decode cX9_changeEntry 49 = .ok (.iload_n 1, 1) := by decide +kernel
theorem dX9_changeEntry_50 : decode cX9_changeEntry 50 = .ok (.invokevirtual 115, 3) := by decide +kernel
theorem dX9_changeEntry_53 : decode cX9_changeEntry 53 = .ok (.ireturn, 1) := by decide +kernel
set_option maxRecDepth 20000 in
theorem ggX9_faithfulness_X8_keepsMeaning : GoodIn wsX9_faithfulness wsX8_keepsMeaning := goodIn_r _ [6, 7, 8, 9, 10, 5, 11, 12, 13, 14, 15, 16, 17, 18, 19, 20, 21, 22, 23, 24, 25, 26, 27, 28, 29, 30, 31, 32, 33, 34, 35, 36, 37, 38, 39, 40, 41, 42, 43, 44, 45, 46, 47, 48, 49, 50, 51, 52, 53, 54, 55, 56, 57, 58, 59, 68, 69, 70, 71, 72, 73, 74, 75, 76, 77, 78, 79, 80, 81, 82, 83] (by decide +kernel) (by decide +kernel)
set_option maxRecDepth 20000 in
theorem gX9_faithfulness_X8_keepsMeaning : GoodIn wsX9_faithfulness (wsV RX9 235 RX8 yX8_keepsMeaning wsX8_keepsMeaning) := goodIn_app (goodIn_of _ (by decide +kernel)) ggX9_faithfulness_X8_keepsMeaning
theorem dX9_faithfulness_0 : decode cX9_faithfulness 0 = .ok (.aload_n 0, 1) := by decide +kernel
theorem dX9_faithfulness_1 : decode cX9_faithfulness 1 = .ok (.getfield 10, 3) := by decide +kernel
theorem dX9_faithfulness_4 : decode cX9_faithfulness 4 = .ok (.iload_n 1, 1) := by decide +kernel
theorem dX9_faithfulness_5 : decode cX9_faithfulness 5 = .ok (.invokevirtual 235, 3) := by decide +kernel
theorem dX9_faithfulness_8 : decode cX9_faithfulness 8 = .ok (.ifCond .eq 7, 3) := by decide +kernel
theorem dX9_faithfulness_11 : decode cX9_faithfulness 11 = .ok (.iconst 1, 1) := by decide +kernel
theorem dX9_faithfulness_12 : decode cX9_faithfulness 12 = .ok (.goto 4, 3) := by decide +kernel
theorem dX9_faithfulness_15 : decode cX9_faithfulness 15 = .ok (.iconst 0, 1) := by decide +kernel
theorem dX9_faithfulness_16 : decode cX9_faithfulness 16 = .ok (.ireturn, 1) := by decide +kernel
set_option maxRecDepth 20000 in
theorem ggX9_refuse_X9_within : GoodIn wsX9_refuse wsX9_within := goodIn_r _ [5] (by decide +kernel) (by decide +kernel)
set_option maxRecDepth 20000 in
theorem gX9_refuse_X9_within : GoodIn wsX9_refuse (va_wsS RX9 66 yX9_within wsX9_within) := goodIn_app (goodIn_of _ (by decide +kernel)) ggX9_refuse_X9_within
theorem dX9_refuse_0 : decode cX9_refuse 0 = .ok (.bipush (-2), 2) := by decide +kernel
theorem dX9_refuse_2 : decode cX9_refuse 2 = .ok (.iload_n 1, 1) := by decide +kernel
theorem dX9_refuse_3 : decode cX9_refuse 3 = .ok (.isub, 1) := by decide +kernel
theorem dX9_refuse_4 : decode cX9_refuse 4 = .ok (.istore_n 2, 1) := by decide +kernel
theorem dX9_refuse_5 : decode cX9_refuse 5 = .ok (.iload_n 2, 1) := by decide +kernel
theorem dX9_refuse_6 : decode cX9_refuse 6 = .ok (.iconst 0, 1) := by decide +kernel
theorem dX9_refuse_7 : decode cX9_refuse 7 = .ok (.aload_n 0, 1) := by decide +kernel
theorem dX9_refuse_8 : decode cX9_refuse 8 = .ok (.getfield 58, 3) := by decide +kernel
theorem dX9_refuse_11 : decode cX9_refuse 11 = .ok (.arraylength, 1) := by decide +kernel
theorem dX9_refuse_12 : decode cX9_refuse 12 = .ok (.iconst 1, 1) := by decide +kernel
theorem dX9_refuse_13 : decode cX9_refuse 13 = .ok (.isub, 1) := by decide +kernel
theorem dX9_refuse_14 : decode cX9_refuse 14 = .ok (.invokestatic 66, 3) := by decide +kernel
theorem dX9_refuse_17 : decode cX9_refuse 17 = .ok (.ifCond .eq 13, 3) := by decide +kernel
theorem dX9_refuse_20 : decode cX9_refuse 20 = .ok (.aload_n 0, 1) := by decide +kernel
theorem dX9_refuse_21 : decode cX9_refuse 21 = .ok (.getfield 58, 3) := by decide +kernel
theorem dX9_refuse_24 : decode cX9_refuse 24 = .ok (.iload_n 2, 1) := by decide +kernel
theorem dX9_refuse_25 : decode cX9_refuse 25 = .ok (.dup2, 1) := by decide +kernel
theorem dX9_refuse_26 : decode cX9_refuse 26 = .ok (.iaload, 1) := by decide +kernel
theorem dX9_refuse_27 : decode cX9_refuse 27 = .ok (.iconst 1, 1) := by decide +kernel
theorem dX9_refuse_28 : decode cX9_refuse 28 = .ok (.iadd, 1) := by decide +kernel
theorem dX9_refuse_29 : decode cX9_refuse 29 = .ok (.iastore, 1) := by decide +kernel
theorem dX9_refuse_30 : decode cX9_refuse 30 = .ok (.iload_n 1, 1) := by decide +kernel
theorem dX9_refuse_31 : decode cX9_refuse 31 = .ok (.ireturn, 1) := by decide +kernel
set_option maxRecDepth 20000 in
theorem ggX9_isOld_X9_within : GoodIn wsX9_isOld wsX9_within := goodIn_r _ [4] (by decide +kernel) (by decide +kernel)
set_option maxRecDepth 20000 in
theorem gX9_isOld_X9_within : GoodIn wsX9_isOld (va_wsS RX9 66 yX9_within wsX9_within) := goodIn_app (goodIn_of _ (by decide +kernel)) ggX9_isOld_X9_within
theorem dX9_isOld_0 : decode cX9_isOld 0 = .ok (.iload_n 0, 1) := by decide +kernel
theorem dX9_isOld_1 : decode cX9_isOld 1 = .ok (.iconst 0, 1) := by decide +kernel
theorem dX9_isOld_2 : decode cX9_isOld 2 = .ok (.iconst 5, 1) := by decide +kernel
theorem dX9_isOld_3 : decode cX9_isOld 3 = .ok (.invokestatic 66, 3) := by decide +kernel
theorem dX9_isOld_6 : decode cX9_isOld 6 = .ok (.ireturn, 1) := by decide +kernel
set_option maxRecDepth 20000 in
theorem ggX9_isNew_X9_within : GoodIn wsX9_isNew wsX9_within := goodIn_r _ [4] (by decide +kernel) (by decide +kernel)
set_option maxRecDepth 20000 in
theorem gX9_isNew_X9_within : GoodIn wsX9_isNew (va_wsS RX9 66 yX9_within wsX9_within) := goodIn_app (goodIn_of _ (by decide +kernel)) ggX9_isNew_X9_within
theorem dX9_isNew_0 : decode cX9_isNew 0 = .ok (.iload_n 0, 1) := by decide +kernel
theorem dX9_isNew_1 : decode cX9_isNew 1 = .ok (.iconst 0, 1) := by decide +kernel
theorem dX9_isNew_2 : decode cX9_isNew 2 = .ok (.iconst 5, 1) := by decide +kernel
theorem dX9_isNew_3 : decode cX9_isNew 3 = .ok (.invokestatic 66, 3) := by decide +kernel
theorem dX9_isNew_6 : decode cX9_isNew 6 = .ok (.ireturn, 1) := by decide +kernel
set_option maxRecDepth 20000 in
theorem ggX9_isTermPosition_X9_within : GoodIn wsX9_isTermPosition wsX9_within := goodIn_r _ [4] (by decide +kernel) (by decide +kernel)
set_option maxRecDepth 20000 in
theorem gX9_isTermPosition_X9_within : GoodIn wsX9_isTermPosition (va_wsS RX9 66 yX9_within wsX9_within) := goodIn_app (goodIn_of _ (by decide +kernel)) ggX9_isTermPosition_X9_within
theorem dX9_isTermPosition_0 : decode cX9_isTermPosition 0 = .ok (.iload_n 0, 1) := by decide +kernel
theorem dX9_isTermPosition_1 : decode cX9_isTermPosition 1 = .ok (.iconst (-1), 1) := by decide +kernel
theorem dX9_isTermPosition_2 : decode cX9_isTermPosition 2 = .ok (.iconst 3, 1) := by decide +kernel
theorem dX9_isTermPosition_3 : decode cX9_isTermPosition 3 = .ok (.invokestatic 66, 3) := by decide +kernel
theorem dX9_isTermPosition_6 : decode cX9_isTermPosition 6 = .ok (.ireturn, 1) := by decide +kernel
set_option maxRecDepth 20000 in
theorem ggX9_isEntryPosition_X9_within : GoodIn wsX9_isEntryPosition wsX9_within := goodIn_r _ [4] (by decide +kernel) (by decide +kernel)
set_option maxRecDepth 20000 in
theorem gX9_isEntryPosition_X9_within : GoodIn wsX9_isEntryPosition (va_wsS RX9 66 yX9_within wsX9_within) := goodIn_app (goodIn_of _ (by decide +kernel)) ggX9_isEntryPosition_X9_within
theorem dX9_isEntryPosition_0 : decode cX9_isEntryPosition 0 = .ok (.iload_n 0, 1) := by decide +kernel
theorem dX9_isEntryPosition_1 : decode cX9_isEntryPosition 1 = .ok (.iconst 0, 1) := by decide +kernel
theorem dX9_isEntryPosition_2 : decode cX9_isEntryPosition 2 = .ok (.iconst 3, 1) := by decide +kernel
theorem dX9_isEntryPosition_3 : decode cX9_isEntryPosition 3 = .ok (.invokestatic 66, 3) := by decide +kernel
theorem dX9_isEntryPosition_6 : decode cX9_isEntryPosition 6 = .ok (.ireturn, 1) := by decide +kernel
set_option maxRecDepth 20000 in
theorem ggX9_isSource_X9_within : GoodIn wsX9_isSource wsX9_within := goodIn_r _ [4] (by decide +kernel) (by decide +kernel)
set_option maxRecDepth 20000 in
theorem gX9_isSource_X9_within : GoodIn wsX9_isSource (va_wsS RX9 66 yX9_within wsX9_within) := goodIn_app (goodIn_of _ (by decide +kernel)) ggX9_isSource_X9_within
theorem dX9_isSource_0 : decode cX9_isSource 0 = .ok (.iload_n 0, 1) := by decide +kernel
theorem dX9_isSource_1 : decode cX9_isSource 1 = .ok (.iconst 0, 1) := by decide +kernel
theorem dX9_isSource_2 : decode cX9_isSource 2 = .ok (.iconst 2, 1) := by decide +kernel
theorem dX9_isSource_3 : decode cX9_isSource 3 = .ok (.invokestatic 66, 3) := by decide +kernel
theorem dX9_isSource_6 : decode cX9_isSource 6 = .ok (.ireturn, 1) := by decide +kernel
theorem dX9_within_0 : decode cX9_within 0 = .ok (.iload_n 0, 1) := by decide +kernel
theorem dX9_within_1 : decode cX9_within 1 = .ok (.iload_n 1, 1) := by decide +kernel
theorem dX9_within_2 : decode cX9_within 2 = .ok (.if_icmp .lt 12, 3) := by decide +kernel
theorem dX9_within_5 : decode cX9_within 5 = .ok (.iload_n 0, 1) := by decide +kernel
theorem dX9_within_6 : decode cX9_within 6 = .ok (.iload_n 2, 1) := by decide +kernel
theorem dX9_within_7 : decode cX9_within 7 = .ok (.if_icmp .gt 7, 3) := by decide +kernel
theorem dX9_within_10 : decode cX9_within 10 = .ok (.iconst 1, 1) := by decide +kernel
theorem dX9_within_11 : decode cX9_within 11 = .ok (.goto 4, 3) := by decide +kernel
theorem dX9_within_14 : decode cX9_within 14 = .ok (.iconst 0, 1) := by decide +kernel
theorem dX9_within_15 : decode cX9_within 15 = .ok (.ireturn, 1) := by decide +kernel
theorem dX9_isCall_0 : decode cX9_isCall 0 = .ok (.iload_n 0, 1) := by decide +kernel
theorem dX9_isCall_1 : decode cX9_isCall 1 = .ok (.iconst 2, 1) := by decide +kernel
theorem dX9_isCall_2 : decode cX9_isCall 2 = .ok (.if_icmp .eq 13, 3) := by decide +kernel
theorem dX9_isCall_5 : decode cX9_isCall 5 = .ok (.iload_n 0, 1) := by decide +kernel
theorem dX9_isCall_6 : decode cX9_isCall 6 = .ok (.iconst 3, 1) := by decide +kernel
theorem dX9_isCall_7 : decode cX9_isCall 7 = .ok (.if_icmp .eq 8, 3) := by decide +kernel
theorem dX9_isCall_10 : decode cX9_isCall 10 = .ok (.iload_n 0, 1) := by decide +kernel
theorem dX9_isCall_11 : decode cX9_isCall 11 = .ok (.iconst 4, 1) := by decide +kernel
theorem dX9_isCall_12 : decode cX9_isCall 12 = .ok (.if_icmp .ne 7, 3) := by decide +kernel
theorem dX9_isCall_15 : decode cX9_isCall 15 = .ok (.iconst 1, 1) := by decide +kernel
theorem dX9_isCall_16 : decode cX9_isCall 16 = .ok (.goto 4, 3) := by decide +kernel
theorem dX9_isCall_19 : decode cX9_isCall 19 = .ok (.iconst 0, 1) := by decide +kernel
theorem dX9_isCall_20 : decode cX9_isCall 20 = .ok (.ireturn, 1) := by decide +kernel
theorem dX10_init_0 : decode cX10_init 0 = .ok (.aload_n 0, 1) := by decide +kernel
theorem dX10_init_1 : decode cX10_init 1 = .ok (.invokespecial 1, 3) := by decide +kernel
theorem dX10_init_4 : decode cX10_init 4 = .ok (.aload_n 0, 1) := by decide +kernel
theorem dX10_init_5 : decode cX10_init 5 = .ok (.sipush 186, 3) := by decide +kernel
theorem dX10_init_8 : decode cX10_init 8 = .ok (.newarray .int, 2) := by decide +kernel
theorem dX10_init_10 : decode cX10_init 10 = .ok (.putfield 7, 3) := by decide +kernel
theorem dX10_init_13 : decode cX10_init 13 = .ok (.aload_n 0, 1) := by decide +kernel
theorem dX10_init_14 : decode cX10_init 14 = .ok (.sipush 744, 3) := by decide +kernel
theorem dX10_init_17 : decode cX10_init 17 = .ok (.newarray .int, 2) := by decide +kernel
theorem dX10_init_19 : decode cX10_init 19 = .ok (.putfield 13, 3) := by decide +kernel
theorem dX10_init_22 : decode cX10_init 22 = .ok (.aload_n 0, 1) := by decide +kernel
theorem dX10_init_23 : decode cX10_init 23 = .ok (.iconst 4, 1) := by decide +kernel
theorem dX10_init_24 : decode cX10_init 24 = .ok (.newarray .int, 2) := by decide +kernel
theorem dX10_init_26 : decode cX10_init 26 = .ok (.putfield 16, 3) := by decide +kernel
theorem dX10_init_29 : decode cX10_init 29 = .ok (.aload_n 0, 1) := by decide +kernel
theorem dX10_init_30 : decode cX10_init 30 = .ok (.bipush 120, 2) := by decide +kernel
theorem dX10_init_32 : decode cX10_init 32 = .ok (.newarray .int, 2) := by decide +kernel
theorem dX10_init_34 : decode cX10_init 34 = .ok (.putfield 19, 3) := by decide +kernel
theorem dX10_init_37 : decode cX10_init 37 = .ok (.aload_n 0, 1) := by decide +kernel
theorem dX10_init_38 : decode cX10_init 38 = .ok (.bipush 30, 2) := by decide +kernel
theorem dX10_init_40 : decode cX10_init 40 = .ok (.newarray .int, 2) := by decide +kernel
theorem dX10_init_42 : decode cX10_init 42 = .ok (.putfield 22, 3) := by decide +kernel
theorem dX10_init_45 : decode cX10_init 45 = .ok (.aload_n 0, 1) := by decide +kernel
theorem dX10_init_46 : decode cX10_init 46 = .ok (.bipush 30, 2) := by decide +kernel
theorem dX10_init_48 : decode cX10_init 48 = .ok (.newarray .int, 2) := by decide +kernel
theorem dX10_init_50 : decode cX10_init 50 = .ok (.putfield 25, 3) := by decide +kernel
theorem dX10_init_53 : decode cX10_init 53 = .ok (.aload_n 0, 1) := by decide +kernel
theorem dX10_init_54 : decode cX10_init 54 = .ok (.bipush 30, 2) := by decide +kernel
theorem dX10_init_56 : decode cX10_init 56 = .ok (.newarray .int, 2) := by decide +kernel
theorem dX10_init_58 : decode cX10_init 58 = .ok (.putfield 28, 3) := by decide +kernel
theorem dX10_init_61 : decode cX10_init 61 = .ok (.aload_n 0, 1) := by decide +kernel
theorem dX10_init_62 : decode cX10_init 62 = .ok (.bipush 31, 2) := by decide +kernel
theorem dX10_init_64 : decode cX10_init 64 = .ok (.newarray .int, 2) := by decide +kernel
theorem dX10_init_66 : decode cX10_init 66 = .ok (.putfield 31, 3) := by decide +kernel
theorem dX10_init_69 : decode cX10_init 69 = .ok (.aload_n 0, 1) := by decide +kernel
theorem dX10_init_70 : decode cX10_init 70 = .ok (.bipush 30, 2) := by decide +kernel
theorem dX10_init_72 : decode cX10_init 72 = .ok (.newarray .int, 2) := by decide +kernel
theorem dX10_init_74 : decode cX10_init 74 = .ok (.putfield 34, 3) := by decide +kernel
theorem dX10_init_77 : decode cX10_init 77 = .ok (.aload_n 0, 1) := by decide +kernel
theorem dX10_init_78 : decode cX10_init 78 = .ok (.bipush 30, 2) := by decide +kernel
theorem dX10_init_80 : decode cX10_init 80 = .ok (.newarray .int, 2) := by decide +kernel
theorem dX10_init_82 : decode cX10_init 82 = .ok (.putfield 37, 3) := by decide +kernel
theorem dX10_init_85 : decode cX10_init 85 = .ok (.aload_n 0, 1) := by decide +kernel
theorem dX10_init_86 : decode cX10_init 86 = .ok (.bipush 30, 2) := by decide +kernel
theorem dX10_init_88 : decode cX10_init 88 = .ok (.newarray .int, 2) := by decide +kernel
theorem dX10_init_90 : decode cX10_init 90 = .ok (.putfield 40, 3) := by decide +kernel
theorem dX10_init_93 : decode cX10_init 93 = .ok (.aload_n 0, 1) := by decide +kernel
theorem dX10_init_94 : decode cX10_init 94 = .ok (.bipush 30, 2) := by decide +kernel
theorem dX10_init_96 : decode cX10_init 96 = .ok (.newarray .int, 2) := by decide +kernel
theorem dX10_init_98 : decode cX10_init 98 = .ok (.putfield 43, 3) := by decide +kernel
theorem dX10_init_101 : decode cX10_init 101 = .ok (.aload_n 0, 1) := by decide +kernel
theorem dX10_init_102 : decode cX10_init 102 = .ok (.sipush 200, 3) := by decide +kernel
theorem dX10_init_105 : decode cX10_init 105 = .ok (.newarray .int, 2) := by decide +kernel
theorem dX10_init_107 : decode cX10_init 107 = .ok (.putfield 46, 3) := by decide +kernel
theorem dX10_init_110 : decode cX10_init 110 = .ok (.iconst 0, 1) := by decide +kernel
theorem dX10_init_111 : decode cX10_init 111 = .ok (.istore_n 1, 1) := by decide +kernel
theorem dX10_init_112 : decode cX10_init 112 = .ok (.iload_n 1, 1) := by decide +kernel
theorem dX10_init_113 : decode cX10_init 113 = .ok (.bipush 12, 2) := by decide +kernel
theorem dX10_init_115 : decode cX10_init 115 = .ok (.if_icmp .ge 19, 3) := by decide +kernel
theorem dX10_init_118 : decode cX10_init 118 = .ok (.aload_n 0, 1) := by decide +kernel
theorem dX10_init_119 : decode cX10_init 119 = .ok (.getfield 7, 3) := by decide +kernel
theorem dX10_init_122 : decode cX10_init 122 = .ok (.bipush 7, 2) := by decide +kernel
theorem dX10_init_124 : decode cX10_init 124 = .ok (.iload_n 1, 1) := by decide +kernel
theorem dX10_init_125 : decode cX10_init 125 = .ok (.imul, 1) := by decide +kernel
theorem dX10_init_126 : decode cX10_init 126 = .ok (.iconst 1, 1) := by decide +kernel
theorem dX10_init_127 : decode cX10_init 127 = .ok (.iastore, 1) := by decide +kernel
theorem dX10_init_128 : decode cX10_init 128 = .ok (.iinc 1 1, 3) := by decide +kernel
theorem dX10_init_131 : decode cX10_init 131 = .ok (.goto (-19), 3) := by decide +kernel
theorem dX10_init_134 : decode cX10_init 134 = .ok (.iconst 0, 1) := by decide +kernel
theorem dX10_init_135 : decode cX10_init 135 = .ok (.istore_n 1, 1) := by decide +kernel
theorem dX10_init_136 : decode cX10_init 136 = .ok (.iload_n 1, 1) := by decide +kernel
theorem dX10_init_137 : decode cX10_init 137 = .ok (.bipush 6, 2) := by decide +kernel
theorem dX10_init_139 : decode cX10_init 139 = .ok (.if_icmp .ge 21, 3) := by decide +kernel
theorem dX10_init_142 : decode cX10_init 142 = .ok (.aload_n 0, 1) := by decide +kernel
theorem dX10_init_143 : decode cX10_init 143 = .ok (.getfield 7, 3) := by decide +kernel
theorem dX10_init_146 : decode cX10_init 146 = .ok (.bipush 117, 2) := by decide +kernel
theorem dX10_init_148 : decode cX10_init 148 = .ok (.iconst 5, 1) := by decide +kernel
theorem dX10_init_149 : decode cX10_init 149 = .ok (.iload_n 1, 1) := by decide +kernel
theorem dX10_init_150 : decode cX10_init 150 = .ok (.imul, 1) := by decide +kernel
theorem dX10_init_151 : decode cX10_init 151 = .ok (.iadd, 1) := by decide +kernel
theorem dX10_init_152 : decode cX10_init 152 = .ok (.iconst (-1), 1) := by decide +kernel
theorem dX10_init_153 : decode cX10_init 153 = .ok (.iastore, 1) := by decide +kernel
theorem dX10_init_154 : decode cX10_init 154 = .ok (.iinc 1 1, 3) := by decide +kernel
theorem dX10_init_157 : decode cX10_init 157 = .ok (.goto (-21), 3) := by decide +kernel
theorem dX10_init_160 : decode cX10_init 160 = .ok (.aload_n 0, 1) := by decide +kernel
theorem dX10_init_161 : decode cX10_init 161 = .ok (.getfield 7, 3) := by decide +kernel
theorem dX10_init_164 : decode cX10_init 164 = .ok (.sipush 148, 3) := by decide +kernel
theorem dX10_init_167 : decode cX10_init 167 = .ok (.iconst 1, 1) := by decide +kernel
theorem dX10_init_168 : decode cX10_init 168 = .ok (.iastore, 1) := by decide +kernel
theorem dX10_init_169 : decode cX10_init 169 = .ok (.aload_n 0, 1) := by decide +kernel
theorem dX10_init_170 : decode cX10_init 170 = .ok (.getfield 7, 3) := by decide +kernel
theorem dX10_init_173 : decode cX10_init 173 = .ok (.sipush 149, 3) := by decide +kernel
theorem dX10_init_176 : decode cX10_init 176 = .ok (.iconst 0, 1) := by decide +kernel
theorem dX10_init_177 : decode cX10_init 177 = .ok (.iastore, 1) := by decide +kernel
theorem dX10_init_178 : decode cX10_init 178 = .ok (.return_, 1) := by decide +kernel
theorem dX10_in_0 : decode cX10_in 0 = .ok (.lload_n 0, 1) := by decide +kernel
theorem dX10_in_1 : decode cX10_in 1 = .ok (.lload_n 2, 1) := by decide +kernel
theorem dX10_in_2 : decode cX10_in 2 = .ok (.lcmp, 1) := by decide +kernel
theorem dX10_in_3 : decode cX10_in 3 = .ok (.ifCond .lt 14, 3) := by decide +kernel
theorem dX10_in_6 : decode cX10_in 6 = .ok (.lload_n 0, 1) := by decide +kernel
theorem dX10_in_7 : decode cX10_in 7 = .ok (.lload 4, 2) := by decide +kernel
theorem dX10_in_9 : decode cX10_in 9 = .ok (.lcmp, 1) := by decide +kernel
theorem dX10_in_10 : decode cX10_in 10 = .ok (.ifCond .gt 7, 3) := by decide +kernel
theorem dX10_in_13 : decode cX10_in 13 = .ok (.iconst 1, 1) := by decide +kernel
theorem dX10_in_14 : decode cX10_in 14 = .ok (.goto 4, 3) := by decide +kernel
theorem dX10_in_17 : decode cX10_in 17 = .ok (.iconst 0, 1) := by decide +kernel
theorem dX10_in_18 : decode cX10_in 18 = .ok (.ireturn, 1) := by decide +kernel
theorem dX10_error_0 : decode cX10_error 0 = .ok (.aload_n 0, 1) := by decide +kernel
theorem dX10_error_1 : decode cX10_error 1 = .ok (.getfield 16, 3) := by decide +kernel
theorem dX10_error_4 : decode cX10_error 4 = .ok (.bipush (-2), 2) := by decide +kernel
theorem dX10_error_6 : decode cX10_error 6 = .ok (.iload_n 1, 1) := by decide +kernel
theorem dX10_error_7 : decode cX10_error 7 = .ok (.isub, 1) := by decide +kernel
theorem dX10_error_8 : decode cX10_error 8 = .ok (.dup2, 1) := by decide +kernel
theorem dX10_error_9 : decode cX10_error 9 = .ok (.iaload, 1) := by decide +kernel
theorem dX10_error_10 : decode cX10_error 10 = .ok (.iconst 1, 1) := by decide +kernel
theorem dX10_error_11 : decode cX10_error 11 = .ok (.iadd, 1) := by decide +kernel
theorem dX10_error_12 : decode cX10_error 12 = .ok (.iastore, 1) := by decide +kernel
theorem dX10_error_13 : decode cX10_error 13 = .ok (.iload_n 1, 1) := by decide +kernel
theorem dX10_error_14 : decode cX10_error 14 = .ok (.ireturn, 1) := by decide +kernel
theorem dX10_save_0 : decode cX10_save 0 = .ok (.aload_n 0, 1) := by decide +kernel
theorem dX10_save_1 : decode cX10_save 1 = .ok (.getfield 49, 3) := by decide +kernel
theorem dX10_save_4 : decode cX10_save 4 = .ok (.iconst 4, 1) := by decide +kernel
theorem dX10_save_5 : decode cX10_save 5 = .ok (.if_icmp .ne 44, 3) := by decide +kernel
theorem dX10_save_8 : decode cX10_save 8 = .ok (.iconst 0, 1) := by decide +kernel
theorem dX10_save_9 : decode cX10_save 9 = .ok (.istore_n 1, 1) := by decide +kernel
theorem dX10_save_10 : decode cX10_save 10 = .ok (.iload_n 1, 1) := by decide +kernel
theorem dX10_save_11 : decode cX10_save 11 = .ok (.sipush 558, 3) := by decide +kernel
theorem dX10_save_14 : decode cX10_save 14 = .ok (.if_icmp .ge 25, 3) := by decide +kernel
theorem dX10_save_17 : decode cX10_save 17 = .ok (.aload_n 0, 1) := by decide +kernel
theorem dX10_save_18 : decode cX10_save 18 = .ok (.getfield 13, 3) := by decide +kernel
theorem dX10_save_21 : decode cX10_save 21 = .ok (.iload_n 1, 1) := by decide +kernel
theorem dX10_save_22 : decode cX10_save 22 = .ok (.aload_n 0, 1) := by decide +kernel
theorem dX10_save_23 : decode cX10_save 23 = .ok (.getfield 13, 3) := by decide +kernel
theorem dX10_save_26 : decode cX10_save 26 = .ok (.iload_n 1, 1) := by decide +kernel
theorem dX10_save_27 : decode cX10_save 27 = .ok (.sipush 186, 3) := by decide +kernel
theorem dX10_save_30 : decode cX10_save 30 = .ok (.iadd, 1) := by decide +kernel
theorem dX10_save_31 : decode cX10_save 31 = .ok (.iaload, 1) := by decide +kernel
theorem dX10_save_32 : decode cX10_save 32 = .ok (.iastore, 1) := by decide +kernel
theorem dX10_save_33 : decode cX10_save 33 = .ok (.iinc 1 1, 3) := by decide +kernel
theorem dX10_save_36 : decode cX10_save 36 = .ok (.goto (-26), 3) := by decide +kernel
theorem dX10_save_39 : decode cX10_save 39 = .ok (.aload_n 0, 1) := by decide +kernel
theorem dX10_save_40 : decode cX10_save 40 = .ok (.dup, 1) := by decide +kernel
theorem dX10_save_41 : decode cX10_save 41 = .ok (.getfield 49, 3) := by decide +kernel
theorem dX10_save_44 : decode cX10_save 44 = .ok (.iconst 1, 1) := by decide +kernel
theorem dX10_save_45 : decode cX10_save 45 = .ok (.isub, 1) := by decide +kernel
theorem dX10_save_46 : decode cX10_save 46 = .ok (.putfield 49, 3) := by decide +kernel
theorem dX10_save_49 : decode cX10_save 49 = .ok (.iconst 0, 1) := by decide +kernel
theorem dX10_save_50 : decode cX10_save 50 = .ok (.istore_n 1, 1) := by decide +kernel
theorem dX10_save_51 : decode cX10_save 51 = .ok (.iload_n 1, 1) := by decide +kernel
theorem dX10_save_52 : decode cX10_save 52 = .ok (.sipush 186, 3) := by decide +kernel
theorem dX10_save_55 : decode cX10_save 55 = .ok (.if_icmp .ge 30, 3) := by decide +kernel
theorem dX10_save_58 : decode cX10_save 58 = .ok (.aload_n 0, 1) := by decide +kernel
theorem dX10_save_59 : decode cX10_save 59 = .ok (.getfield 13, 3) := by decide +kernel
theorem dX10_save_62 : decode cX10_save 62 = .ok (.sipush 186, 3) := by decide +kernel
theorem dX10_save_65 : decode cX10_save 65 = .ok (.aload_n 0, 1) := by decide +kernel
theorem dX10_save_66 : decode cX10_save 66 = .ok (.getfield 49, 3) := by decide +kernel
theorem dX10_save_69 : decode cX10_save 69 = .ok (.imul, 1) := by decide +kernel
theorem dX10_save_70 : decode cX10_save 70 = .ok (.iload_n 1, 1) := by decide +kernel
theorem dX10_save_71 : decode cX10_save 71 = .ok (.iadd, 1) := by decide +kernel
theorem dX10_save_72 : decode cX10_save 72 = .ok (.aload_n 0, 1) := by decide +kernel
theorem dX10_save_73 : decode cX10_save 73 = .ok (.getfield 7, 3) := by decide +kernel
theorem dX10_save_76 : decode cX10_save 76 = .ok (.iload_n 1, 1) := by decide +kernel
theorem dX10_save_77 : decode cX10_save 77 = .ok (.iaload, 1) := by decide +kernel
theorem dX10_save_78 : decode cX10_save 78 = .ok (.iastore, 1) := by decide +kernel
theorem dX10_save_79 : decode cX10_save 79 = .ok (.iinc 1 1, 3) := by decide +kernel
theorem dX10_save_82 : decode cX10_save 82 = .ok (.goto (-31), 3) := by decide +kernel
theorem dX10_save_85 : decode cX10_save 85 = .ok (.aload_n 0, 1) := by decide +kernel
theorem dX10_save_86 : decode cX10_save 86 = .ok (.dup, 1) := by decide +kernel
theorem dX10_save_87 : decode cX10_save 87 = .ok (.getfield 49, 3) := by decide +kernel
theorem dX10_save_90 : decode cX10_save 90 = .ok (.iconst 1, 1) := by decide +kernel
theorem dX10_save_91 : decode cX10_save 91 = .ok (.iadd, 1) := by decide +kernel
theorem dX10_save_92 : decode cX10_save 92 = .ok (.putfield 49, 3) := by decide +kernel
theorem dX10_save_95 : decode cX10_save 95 = .ok (.return_, 1) := by decide +kernel
set_option maxRecDepth 20000 in
theorem ggX10_isFunction_X10_in : GoodIn wsX10_isFunction wsX10_in := goodIn_r _ [5] (by decide +kernel) (by decide +kernel)
set_option maxRecDepth 20000 in
theorem gX10_isFunction_X10_in : GoodIn wsX10_isFunction (va_wsS RX10 55 yX10_in wsX10_in) := goodIn_app (goodIn_of _ (by decide +kernel)) ggX10_isFunction_X10_in
theorem dX10_isFunction_0 : decode cX10_isFunction 0 = .ok (.iload_n 0, 1) := by decide +kernel
theorem dX10_isFunction_1 : decode cX10_isFunction 1 = .ok (.i2l, 1) := by decide +kernel
theorem dX10_isFunction_2 : decode cX10_isFunction 2 = .ok (.lconst 0, 1) := by decide +kernel
theorem dX10_isFunction_3 : decode cX10_isFunction 3 = .ok (.ldc2_w 53, 3) := by decide +kernel
theorem dX10_isFunction_6 : decode cX10_isFunction 6 = .ok (.invokestatic 55, 3) := by decide +kernel
theorem dX10_isFunction_9 : decode cX10_isFunction 9 = .ok (.ireturn, 1) := by decide +kernel
set_option maxRecDepth 20000 in
theorem ggX10_sets_X10_save : GoodIn wsX10_sets wsX10_save := goodIn_r _ [6, 7, 8, 1, 9, 10, 11, 12, 13, 14, 15, 16, 17, 18, 19, 20, 21, 22, 23, 24, 25, 26, 27, 28, 29, 30, 31] (by decide +kernel) (by decide +kernel)
set_option maxRecDepth 20000 in
theorem gX10_sets_X10_save : GoodIn wsX10_sets (wsV RX10 59 RX10 yX10_save wsX10_save) := goodIn_app (goodIn_of _ (by decide +kernel)) ggX10_sets_X10_save
theorem dX10_sets_0 : decode cX10_sets 0 = .ok (.aload_n 0, 1) := by decide +kernel
theorem dX10_sets_1 : decode cX10_sets 1 = .ok (.invokevirtual 59, 3) := by decide +kernel
theorem dX10_sets_4 : decode cX10_sets 4 = .ok (.aload_n 0, 1) := by decide +kernel
theorem dX10_sets_5 : decode cX10_sets 5 = .ok (.getfield 7, 3) := by decide +kernel
theorem dX10_sets_8 : decode cX10_sets 8 = .ok (.iload_n 1, 1) := by decide +kernel
theorem dX10_sets_9 : decode cX10_sets 9 = .ok (.iconst 0, 1) := by decide +kernel
theorem dX10_sets_10 : decode cX10_sets 10 = .ok (.iadd, 1) := by decide +kernel
theorem dX10_sets_11 : decode cX10_sets 11 = .ok (.iaload, 1) := by decide +kernel
theorem dX10_sets_12 : decode cX10_sets 12 = .ok (.istore 4, 2) := by decide +kernel
theorem dX10_sets_14 : decode cX10_sets 14 = .ok (.aload_n 0, 1) := by decide +kernel
theorem dX10_sets_15 : decode cX10_sets 15 = .ok (.getfield 7, 3) := by decide +kernel
theorem dX10_sets_18 : decode cX10_sets 18 = .ok (.iload_n 1, 1) := by decide +kernel
theorem dX10_sets_19 : decode cX10_sets 19 = .ok (.iconst 0, 1) := by decide +kernel
theorem dX10_sets_20 : decode cX10_sets 20 = .ok (.iadd, 1) := by decide +kernel
theorem dX10_sets_21 : decode cX10_sets 21 = .ok (.iload_n 2, 1) := by decide +kernel
theorem dX10_sets_22 : decode cX10_sets 22 = .ok (.iastore, 1) := by decide +kernel
theorem dX10_sets_23 : decode cX10_sets 23 = .ok (.aload_n 0, 1) := by decide +kernel
theorem dX10_sets_24 : decode cX10_sets 24 = .ok (.getfield 7, 3) := by decide +kernel
theorem dX10_sets_27 : decode cX10_sets 27 = .ok (.iload_n 1, 1) := by decide +kernel
theorem dX10_sets_28 : decode cX10_sets 28 = .ok (.iconst 1, 1) := by decide +kernel
theorem dX10_sets_29 : decode cX10_sets 29 = .ok (.iadd, 1) := by decide +kernel
theorem dX10_sets_30 : decode cX10_sets 30 = .ok (.iload_n 3, 1) := by decide +kernel
theorem dX10_sets_31 : decode cX10_sets 31 = .ok (.iastore, 1) := by decide +kernel
theorem dX10_sets_32 : decode cX10_sets 32 = .ok (.iload 4, 2) := by decide +kernel
theorem dX10_sets_34 : decode cX10_sets 34 = .ok (.ireturn, 1) := by decide +kernel
set_option maxRecDepth 20000 in
theorem ggX10_setOld_X10_isFunction : GoodIn wsX10_setOld wsX10_isFunction := goodIn_r _ [5, 6, 7, 8, 4, 9] (by decide +kernel) (by decide +kernel)
set_option maxRecDepth 20000 in
theorem gX10_setOld_X10_isFunction : GoodIn wsX10_setOld (va_wsS RX10 62 yX10_isFunction wsX10_isFunction) := goodIn_app (goodIn_of _ (by decide +kernel)) ggX10_setOld_X10_isFunction
set_option maxRecDepth 20000 in
theorem ggX10_setOld_X10_in : GoodIn wsX10_setOld wsX10_in := goodIn_r _ [9] (by decide +kernel) (by decide +kernel)
set_option maxRecDepth 20000 in
theorem gX10_setOld_X10_in : GoodIn wsX10_setOld (va_wsS RX10 55 yX10_in wsX10_in) := goodIn_app (goodIn_of _ (by decide +kernel)) ggX10_setOld_X10_in
set_option maxRecDepth 20000 in
theorem ggX10_setOld_X10_sets : GoodIn wsX10_setOld wsX10_sets := goodIn_r _ [13, 14, 15, 16, 17, 4, 18, 19, 20, 26, 27, 28, 29, 30, 31, 32, 33, 34, 35, 36, 37, 38, 39, 40, 41, 42, 43, 44, 45, 46, 47, 48] (by decide +kernel) (by decide +kernel)
set_option maxRecDepth 20000 in
theorem gX10_setOld_X10_sets : GoodIn wsX10_setOld (wsV RX10 68 RX10 yX10_sets wsX10_sets) := goodIn_app (goodIn_of _ (by decide +kernel)) ggX10_setOld_X10_sets
set_option maxRecDepth 20000 in
theorem ggX10_setOld_X10_error : GoodIn wsX10_setOld wsX10_error := goodIn_r _ [24, 25, 26, 27, 28, 29, 30, 31, 32, 33, 34, 35, 36, 37, 38, 39, 40, 41, 42, 43, 44, 45, 46, 47, 48] (by decide +kernel) (by decide +kernel)
set_option maxRecDepth 20000 in
theorem gX10_setOld_X10_error : GoodIn wsX10_setOld (wsV RX10 72 RX10 yX10_error wsX10_error) := goodIn_app (goodIn_of _ (by decide +kernel)) ggX10_setOld_X10_error
theorem dX10_setOld_0 : decode cX10_setOld 0 = .ok (.iload_n 1, 1) := by decide +kernel
theorem dX10_setOld_1 : decode cX10_setOld 1 = .ok (.invokestatic 62, 3) := by decide +kernel
theorem dX10_setOld_4 : decode cX10_setOld 4 = .ok (.ifCond .eq 29, 3) := by decide +kernel
theorem dX10_setOld_7 : decode cX10_setOld 7 = .ok (.iload_n 2, 1) := by decide +kernel
theorem dX10_setOld_8 : decode cX10_setOld 8 = .ok (.i2l, 1) := by decide +kernel
theorem dX10_setOld_9 : decode cX10_setOld 9 = .ok (.lconst 0, 1) := by decide +kernel
theorem dX10_setOld_10 : decode cX10_setOld 10 = .ok (.ldc2_w 66, 3) := by decide +kernel
theorem dX10_setOld_13 : decode cX10_setOld 13 = .ok (.invokestatic 55, 3) := by decide +kernel
theorem dX10_setOld_16 : decode cX10_setOld 16 = .ok (.ifCond .eq 17, 3) := by decide +kernel
theorem dX10_setOld_19 : decode cX10_setOld 19 = .ok (.iload_n 3, 1) := by decide +kernel
theorem dX10_setOld_20 : decode cX10_setOld 20 = .ok (.i2l, 1) := by decide +kernel
theorem dX10_setOld_21 : decode cX10_setOld 21 = .ok (.lconst 0, 1) := by decide +kernel
theorem dX10_setOld_22 : decode cX10_setOld 22 = .ok (.lconst 1, 1) := by decide +kernel
theorem dX10_setOld_23 : decode cX10_setOld 23 = .ok (.invokestatic 55, 3) := by decide +kernel
theorem dX10_setOld_26 : decode cX10_setOld 26 = .ok (.ifCond .eq 7, 3) := by decide +kernel
theorem dX10_setOld_29 : decode cX10_setOld 29 = .ok (.iconst 1, 1) := by decide +kernel
theorem dX10_setOld_30 : decode cX10_setOld 30 = .ok (.goto 4, 3) := by decide +kernel
theorem dX10_setOld_33 : decode cX10_setOld 33 = .ok (.iconst 0, 1) := by decide +kernel
theorem dX10_setOld_34 : decode cX10_setOld 34 = .ok (.istore 4, 2) := by decide +kernel
theorem dX10_setOld_36 : decode cX10_setOld 36 = .ok (.iload 4, 2) := by decide +kernel
theorem dX10_setOld_38 : decode cX10_setOld 38 = .ok (.ifCond .eq 18, 3) := by decide +kernel
theorem dX10_setOld_41 : decode cX10_setOld 41 = .ok (.aload_n 0, 1) := by decide +kernel
theorem dX10_setOld_42 : decode cX10_setOld 42 = .ok (.iconst 0, 1) := by decide +kernel
theorem dX10_setOld_43 : decode cX10_setOld 43 = .ok (.bipush 7, 2) := by decide +kernel
theorem dX10_setOld_45 : decode cX10_setOld 45 = .ok (.iload_n 1, 1) := by decide +kernel
theorem dX10_setOld_46 : decode cX10_setOld 46 = .ok (.imul, 1) := by decide +kernel
theorem dX10_setOld_47 : decode cX10_setOld 47 = .ok (.iadd, 1) := by decide +kernel
theorem dX10_setOld_48 : decode cX10_setOld 48 = .ok (.iload_n 2, 1) := by decide +kernel
theorem dX10_setOld_49 : decode cX10_setOld 49 = .ok (.iload_n 3, 1) := by decide +kernel
theorem dX10_setOld_50 : decode cX10_setOld 50 = .ok (.invokevirtual 68, 3) := by decide +kernel
theorem dX10_setOld_53 : decode cX10_setOld 53 = .ok (.goto 9, 3) := by decide +kernel
theorem dX10_setOld_56 : decode cX10_setOld 56 = .ok (.aload_n 0, 1) := by decide +kernel
theorem dX10_setOld_57 : decode cX10_setOld 57 = .ok (.bipush (-2), 2) := by decide +kernel
theorem dX10_setOld_59 : decode cX10_setOld 59 = .ok (.invokevirtual 72, 3) := by decide +kernel
theorem dX10_setOld_62 : decode cX10_setOld 62 = .ok (.ireturn, 1) := by decide +kernel
set_option maxRecDepth 20000 in
theorem ggX10_setNew_X10_isFunction : GoodIn wsX10_setNew wsX10_isFunction := goodIn_r _ [5, 6, 7, 8, 4, 9] (by decide +kernel) (by decide +kernel)
set_option maxRecDepth 20000 in
theorem gX10_setNew_X10_isFunction : GoodIn wsX10_setNew (va_wsS RX10 62 yX10_isFunction wsX10_isFunction) := goodIn_app (goodIn_of _ (by decide +kernel)) ggX10_setNew_X10_isFunction
set_option maxRecDepth 20000 in
theorem ggX10_setNew_X10_in : GoodIn wsX10_setNew wsX10_in := goodIn_r _ [9] (by decide +kernel) (by decide +kernel)
set_option maxRecDepth 20000 in
theorem gX10_setNew_X10_in : GoodIn wsX10_setNew (va_wsS RX10 55 yX10_in wsX10_in) := goodIn_app (goodIn_of _ (by decide +kernel)) ggX10_setNew_X10_in
set_option maxRecDepth 20000 in
theorem ggX10_setNew_X10_sets : GoodIn wsX10_setNew wsX10_sets := goodIn_r _ [13, 14, 15, 16, 17, 4, 18, 19, 20, 26, 27, 28, 29, 30, 31, 32, 33, 34, 35, 36, 37, 38, 39, 40, 41, 42, 43, 44, 45, 46, 47, 48] (by decide +kernel) (by decide +kernel)
set_option maxRecDepth 20000 in
theorem gX10_setNew_X10_sets : GoodIn wsX10_setNew (wsV RX10 68 RX10 yX10_sets wsX10_sets) := goodIn_app (goodIn_of _ (by decide +kernel)) ggX10_setNew_X10_sets
set_option maxRecDepth 20000 in
theorem ggX10_setNew_X10_error : GoodIn wsX10_setNew wsX10_error := goodIn_r _ [24, 25, 26, 27, 28, 29, 30, 31, 32, 33, 34, 35, 36, 37, 38, 39, 40, 41, 42, 43, 44, 45, 46, 47, 48] (by decide +kernel) (by decide +kernel)
set_option maxRecDepth 20000 in
theorem gX10_setNew_X10_error : GoodIn wsX10_setNew (wsV RX10 72 RX10 yX10_error wsX10_error) := goodIn_app (goodIn_of _ (by decide +kernel)) ggX10_setNew_X10_error
theorem dX10_setNew_0 : decode cX10_setNew 0 = .ok (.iload_n 1, 1) := by decide +kernel
theorem dX10_setNew_1 : decode cX10_setNew 1 = .ok (.invokestatic 62, 3) := by decide +kernel
theorem dX10_setNew_4 : decode cX10_setNew 4 = .ok (.ifCond .eq 29, 3) := by decide +kernel
theorem dX10_setNew_7 : decode cX10_setNew 7 = .ok (.iload_n 2, 1) := by decide +kernel
theorem dX10_setNew_8 : decode cX10_setNew 8 = .ok (.i2l, 1) := by decide +kernel
theorem dX10_setNew_9 : decode cX10_setNew 9 = .ok (.lconst 0, 1) := by decide +kernel
theorem dX10_setNew_10 : decode cX10_setNew 10 = .ok (.ldc2_w 76, 3) := by decide +kernel
theorem dX10_setNew_13 : decode cX10_setNew 13 = .ok (.invokestatic 55, 3) := by decide +kernel
theorem dX10_setNew_16 : decode cX10_setNew 16 = .ok (.ifCond .eq 17, 3) := by decide +kernel
theorem dX10_setNew_19 : decode cX10_setNew 19 = .ok (.iload_n 3, 1) := by decide +kernel
theorem dX10_setNew_20 : decode cX10_setNew 20 = .ok (.i2l, 1) := by decide +kernel
theorem dX10_setNew_21 : decode cX10_setNew 21 = .ok (.lconst 0, 1) := by decide +kernel
theorem dX10_setNew_22 : decode cX10_setNew 22 = .ok (.lconst 1, 1) := by decide +kernel
theorem dX10_setNew_23 : decode cX10_setNew 23 = .ok (.invokestatic 55, 3) := by decide +kernel
theorem dX10_setNew_26 : decode cX10_setNew 26 = .ok (.ifCond .eq 7, 3) := by decide +kernel
theorem dX10_setNew_29 : decode cX10_setNew 29 = .ok (.iconst 1, 1) := by decide +kernel
theorem dX10_setNew_30 : decode cX10_setNew 30 = .ok (.goto 4, 3) := by decide +kernel
theorem dX10_setNew_33 : decode cX10_setNew 33 = .ok (.iconst 0, 1) := by decide +kernel
theorem dX10_setNew_34 : decode cX10_setNew 34 = .ok (.istore 4, 2) := by decide +kernel
theorem dX10_setNew_36 : decode cX10_setNew 36 = .ok (.iload 4, 2) := by decide +kernel
theorem dX10_setNew_38 : decode cX10_setNew 38 = .ok (.ifCond .eq 19, 3) := by decide +kernel
theorem dX10_setNew_41 : decode cX10_setNew 41 = .ok (.aload_n 0, 1) := by decide +kernel
theorem dX10_setNew_42 : decode cX10_setNew 42 = .ok (.bipush 42, 2) := by decide +kernel
theorem dX10_setNew_44 : decode cX10_setNew 44 = .ok (.bipush 7, 2) := by decide +kernel
theorem dX10_setNew_46 : decode cX10_setNew 46 = .ok (.iload_n 1, 1) := by decide +kernel
theorem dX10_setNew_47 : decode cX10_setNew 47 = .ok (.imul, 1) := by decide +kernel
theorem dX10_setNew_48 : decode cX10_setNew 48 = .ok (.iadd, 1) := by decide +kernel
theorem dX10_setNew_49 : decode cX10_setNew 49 = .ok (.iload_n 2, 1) := by decide +kernel
theorem dX10_setNew_50 : decode cX10_setNew 50 = .ok (.iload_n 3, 1) := by decide +kernel
theorem dX10_setNew_51 : decode cX10_setNew 51 = .ok (.invokevirtual 68, 3) := by decide +kernel
theorem dX10_setNew_54 : decode cX10_setNew 54 = .ok (.goto 9, 3) := by decide +kernel
theorem dX10_setNew_57 : decode cX10_setNew 57 = .ok (.aload_n 0, 1) := by decide +kernel
theorem dX10_setNew_58 : decode cX10_setNew 58 = .ok (.bipush (-2), 2) := by decide +kernel
theorem dX10_setNew_60 : decode cX10_setNew 60 = .ok (.invokevirtual 72, 3) := by decide +kernel
theorem dX10_setNew_63 : decode cX10_setNew 63 = .ok (.ireturn, 1) := by decide +kernel
set_option maxRecDepth 20000 in
theorem ggX10_setsTerm_X10_isFunction : GoodIn wsX10_setsTerm wsX10_isFunction := goodIn_r _ [8, 9, 10, 11, 7, 12] (by decide +kernel) (by decide +kernel)
