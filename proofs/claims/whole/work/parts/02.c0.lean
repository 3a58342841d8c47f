theorem wsL_law_in : ∀ w ∈ wsL_law, w ∈ lw_tbl := fun w h => (fun h => (List.mem_append.mp h).elim (fun h => (List.mem_append.mp h).elim (fun h => (List.mem_append.mp h).elim (fun h => (List.mem_append.mp h).elim (fun h => (List.mem_append.mp h).elim (fun h => (List.mem_append.mp h).elim (fun h => (List.mem_append.mp h).elim (fun h => (List.mem_append.mp h).elim (fun h => (List.mem_append.mp h).elim (fun h => (List.mem_append.mp h).elim (fun h => (List.mem_append.mp h).elim (fun h => (List.mem_append.mp h).elim (fun h => (List.mem_append.mp h).elim (in_wsL_law_r1 w) (fun h => (List.mem_append.mp h).elim (in_wsL_law_r2 w) (fun h => (List.mem_append.mp h).elim (in_wsL_law_r3 w) (fun h => (List.mem_append.mp h).elim (in_wsL_law_r4 w) (fun h => (List.mem_append.mp h).elim (in_wsL_law_r5 w) (fun h => (List.mem_append.mp h).elim (in_wsL_law_r6 w) (fun h => (List.mem_append.mp h).elim (in_wsL_law_r7 w) (fun h => (List.mem_append.mp h).elim (in_wsL_law_r8 w) (fun h => (List.mem_append.mp h).elim (in_wsL_law_r9 w) (fun h => (List.mem_append.mp h).elim (in_wsL_law_r10 w) (fun h => (List.mem_append.mp h).elim (in_wsL_law_r11 w) (fun h => (List.mem_append.mp h).elim (in_wsL_law_r12 w) (fun h => (List.mem_append.mp h).elim (in_wsL_law_r13 w) (fun h => (List.mem_append.mp h).elim (in_wsL_law_r14 w) (fun h => (List.mem_append.mp h).elim (in_wsL_law_r15 w) (fun h => (List.mem_append.mp h).elim (in_wsL_law_r16 w) (fun h => (List.mem_append.mp h).elim (in_wsL_law_r17 w) (fun h => (List.mem_append.mp h).elim (in_wsL_law_r18 w) (fun h => (List.mem_append.mp h).elim (in_wsL_law_r19 w) (fun h => (List.mem_append.mp h).elim (in_wsL_law_r20 w) (fun h => (List.mem_append.mp h).elim (in_wsL_law_r21 w) (fun h => (List.mem_append.mp h).elim (in_wsL_law_r22 w) (fun h => (List.mem_append.mp h).elim (in_wsL_law_r23 w) (fun h => (List.mem_append.mp h).elim (in_wsL_law_r24 w) (fun h => (List.mem_append.mp h).elim (in_wsL_law_r25 w) (fun h => (List.mem_append.mp h).elim (in_wsL_law_r26 w) (fun h => (List.mem_append.mp h).elim (in_wsL_law_r27 w) (fun h => (List.mem_append.mp h).elim (in_wsL_law_r28 w) (fun h => (List.mem_append.mp h).elim (in_wsL_law_r29 w) (fun h => (List.mem_append.mp h).elim (in_wsL_law_r30 w) (fun h => (List.mem_append.mp h).elim (in_wsL_law_r31 w) (fun h => (List.mem_append.mp h).elim (in_wsL_law_r32 w) (fun h => (List.mem_append.mp h).elim (in_wsL_law_r33 w) (fun h => (List.mem_append.mp h).elim (in_wsL_law_r34 w) (fun h => (List.mem_append.mp h).elim (in_wsL_law_r35 w) (fun h => (List.mem_append.mp h).elim (in_wsL_law_r36 w) (in_wsL_law_r37 w))))))))))))))))))))))))))))))))))))) (in_wsX90 w)) (in_wsX100 w)) (in_wsX80 w)) (in_wsX20 w)) (in_wsX30 w)) (in_wsX60 w)) (in_wsX70 w)) (in_wsX00 w)) (in_wsX50 w)) (in_wsX10 w)) (in_wsX40 w)) (fun h => absurd h List.not_mem_nil)) h
theorem inlX0 : ∀ w ∈ wsX00, w ∈ wsL_law := fun _ h => List.mem_append_left _ (List.mem_append_left _ (List.mem_append_left _ (List.mem_append_left _ (List.mem_append_right _ h))))
theorem inX0 : ∀ w ∈ wsX00, w ∈ lw_tbl := fun w h => wsL_law_in w (inlX0 w h)
theorem inlX1 : ∀ w ∈ wsX10, w ∈ wsL_law := fun _ h => List.mem_append_left _ (List.mem_append_left _ (List.mem_append_right _ h))
theorem inX1 : ∀ w ∈ wsX10, w ∈ lw_tbl := fun w h => wsL_law_in w (inlX1 w h)
theorem inlX2 : ∀ w ∈ wsX20, w ∈ wsL_law := fun _ h => List.mem_append_left _ (List.mem_append_left _ (List.mem_append_left _ (List.mem_append_left _ (List.mem_append_left _ (List.mem_append_left _ (List.mem_append_left _ (List.mem_append_left _ (List.mem_append_right _ h))))))))
theorem inX2 : ∀ w ∈ wsX20, w ∈ lw_tbl := fun w h => wsL_law_in w (inlX2 w h)
theorem inlX3 : ∀ w ∈ wsX30, w ∈ wsL_law := fun _ h => List.mem_append_left _ (List.mem_append_left _ (List.mem_append_left _ (List.mem_append_left _ (List.mem_append_left _ (List.mem_append_left _ (List.mem_append_left _ (List.mem_append_right _ h)))))))
theorem inX3 : ∀ w ∈ wsX30, w ∈ lw_tbl := fun w h => wsL_law_in w (inlX3 w h)
theorem inlX4 : ∀ w ∈ wsX40, w ∈ wsL_law := fun _ h => List.mem_append_left _ (List.mem_append_right _ h)
theorem inX4 : ∀ w ∈ wsX40, w ∈ lw_tbl := fun w h => wsL_law_in w (inlX4 w h)
theorem inlX5 : ∀ w ∈ wsX50, w ∈ wsL_law := fun _ h => List.mem_append_left _ (List.mem_append_left _ (List.mem_append_left _ (List.mem_append_right _ h)))
theorem inX5 : ∀ w ∈ wsX50, w ∈ lw_tbl := fun w h => wsL_law_in w (inlX5 w h)
theorem inlX6 : ∀ w ∈ wsX60, w ∈ wsL_law := fun _ h => List.mem_append_left _ (List.mem_append_left _ (List.mem_append_left _ (List.mem_append_left _ (List.mem_append_left _ (List.mem_append_left _ (List.mem_append_right _ h))))))
theorem inX6 : ∀ w ∈ wsX60, w ∈ lw_tbl := fun w h => wsL_law_in w (inlX6 w h)
theorem inlX7 : ∀ w ∈ wsX70, w ∈ wsL_law := fun _ h => List.mem_append_left _ (List.mem_append_left _ (List.mem_append_left _ (List.mem_append_left _ (List.mem_append_left _ (List.mem_append_right _ h)))))
theorem inX7 : ∀ w ∈ wsX70, w ∈ lw_tbl := fun w h => wsL_law_in w (inlX7 w h)
theorem inlX8 : ∀ w ∈ wsX80, w ∈ wsL_law := fun _ h => List.mem_append_left _ (List.mem_append_left _ (List.mem_append_left _ (List.mem_append_left _ (List.mem_append_left _ (List.mem_append_left _ (List.mem_append_left _ (List.mem_append_left _ (List.mem_append_left _ (List.mem_append_right _ h)))))))))
theorem inX8 : ∀ w ∈ wsX80, w ∈ lw_tbl := fun w h => wsL_law_in w (inlX8 w h)
theorem inlX9 : ∀ w ∈ wsX90, w ∈ wsL_law := fun _ h => List.mem_append_left _ (List.mem_append_left _ (List.mem_append_left _ (List.mem_append_left _ (List.mem_append_left _ (List.mem_append_left _ (List.mem_append_left _ (List.mem_append_left _ (List.mem_append_left _ (List.mem_append_left _ (List.mem_append_left _ (List.mem_append_right _ h)))))))))))
theorem inX9 : ∀ w ∈ wsX90, w ∈ lw_tbl := fun w h => wsL_law_in w (inlX9 w h)
theorem inlX10 : ∀ w ∈ wsX100, w ∈ wsL_law := fun _ h => List.mem_append_left _ (List.mem_append_left _ (List.mem_append_left _ (List.mem_append_left _ (List.mem_append_left _ (List.mem_append_left _ (List.mem_append_left _ (List.mem_append_left _ (List.mem_append_left _ (List.mem_append_left _ (List.mem_append_right _ h))))))))))
theorem inX10 : ∀ w ∈ wsX100, w ∈ lw_tbl := fun w h => wsL_law_in w (inlX10 w h)
theorem inJ9 : ∀ w ∈ wsJ90, w ∈ lw_tbl := by decide +kernel
theorem inJ10 : ∀ w ∈ wsJ100, w ∈ lw_tbl := by decide +kernel
theorem inJ7 : ∀ w ∈ wsJ70, w ∈ lw_tbl := by decide +kernel
theorem dX0_init_0 : decode cX0_init 0 = .ok (.aload_n 0, 1) := by decide +kernel
theorem dX0_init_1 : decode cX0_init 1 = .ok (.invokespecial 3, 3) := by decide +kernel
theorem dX0_init_4 : decode cX0_init 4 = .ok (.aload_n 0, 1) := by decide +kernel
theorem dX0_init_5 : decode cX0_init 5 = .ok (.bipush 30, 2) := by decide +kernel
theorem dX0_init_7 : decode cX0_init 7 = .ok (.newarray .int, 2) := by decide +kernel
theorem dX0_init_9 : decode cX0_init 9 = .ok (.putfield 9, 3) := by decide +kernel
theorem dX0_init_12 : decode cX0_init 12 = .ok (.aload_n 0, 1) := by decide +kernel
theorem dX0_init_13 : decode cX0_init 13 = .ok (.iconst 0, 1) := by decide +kernel
theorem dX0_init_14 : decode cX0_init 14 = .ok (.putfield 15, 3) := by decide +kernel
theorem dX0_init_17 : decode cX0_init 17 = .ok (.return_, 1) := by decide +kernel
set_option maxRecDepth 20000 in
theorem ggX0_evaluate_X9_isCall : GoodIn wsX0_evaluate wsX9_isCall := goodIn_r _ [9] (by decide +kernel) (by decide +kernel)
set_option maxRecDepth 20000 in
theorem gX0_evaluate_X9_isCall_n33 : GoodIn wsX0_evaluate (wsX9_isCall) := ggX0_evaluate_X9_isCall
set_option maxRecDepth 20000 in
theorem ggX0_evaluate_X8_tableOf : GoodIn wsX0_evaluate wsX8_tableOf := goodIn_r _ [14, 15, 16, 17, 43, 44, 45, 46, 47, 48, 49, 50, 51] (by decide +kernel) (by decide +kernel)
set_option maxRecDepth 20000 in
theorem gX0_evaluate_X8_tableOf : GoodIn wsX0_evaluate (wsV RX0 37 RX8 yX8_tableOf wsX8_tableOf) := goodIn_app (goodIn_of _ (by decide +kernel)) ggX0_evaluate_X8_tableOf
set_option maxRecDepth 20000 in
theorem ggX0_evaluate_X0_callResult : GoodIn wsX0_evaluate wsX0_callResult := goodIn_r _ [22, 23, 24, 25, 26, 27, 28, 29, 30, 31, 32, 8, 33, 34, 35, 36, 21, 37, 2, 38, 58, 59, 60, 61, 52, 53] (by decide +kernel) (by decide +kernel)
set_option maxRecDepth 20000 in
theorem gX0_evaluate_X0_callResult : GoodIn wsX0_evaluate (wsV RX0 47 RX0 yX0_callResult wsX0_callResult) := goodIn_app (goodIn_of _ (by decide +kernel)) ggX0_evaluate_X0_callResult
set_option maxRecDepth 20000 in
theorem ggX0_evaluate_X0_push : GoodIn wsX0_evaluate wsX0_push := goodIn_r _ [42, 2, 38, 52, 53] (by decide +kernel) (by decide +kernel)
set_option maxRecDepth 20000 in
theorem gX0_evaluate_X0_push : GoodIn wsX0_evaluate (wsV RX0 51 RX0 yX0_push wsX0_push) := goodIn_app (goodIn_of _ (by decide +kernel)) ggX0_evaluate_X0_push
set_option maxRecDepth 20000 in
theorem ggX0_evaluate_X0_pop : GoodIn wsX0_evaluate wsX0_pop := goodIn_r _ [37, 2, 38, 52, 53] (by decide +kernel) (by decide +kernel)
set_option maxRecDepth 20000 in
theorem gX0_evaluate_X0_pop : GoodIn wsX0_evaluate (wsV RX0 55 RX0 yX0_pop wsX0_pop) := goodIn_app (goodIn_of _ (by decide +kernel)) ggX0_evaluate_X0_pop
theorem dX0_evaluate_0 : decode cX0_evaluate 0 = .ok (.aload_n 1, 1) := by decide +kernel
theorem dX0_evaluate_1 : decode cX0_evaluate 1 = .ok (.getfield 19, 3) := by decide +kernel
theorem dX0_evaluate_4 : decode cX0_evaluate 4 = .ok (.astore 4, 2) := by decide +kernel
theorem dX0_evaluate_6 : decode cX0_evaluate 6 = .ok (.aload_n 0, 1) := by decide +kernel
theorem dX0_evaluate_7 : decode cX0_evaluate 7 = .ok (.iconst 0, 1) := by decide +kernel
theorem dX0_evaluate_8 : decode cX0_evaluate 8 = .ok (.putfield 15, 3) := by decide +kernel
theorem dX0_evaluate_11 : decode cX0_evaluate 11 = .ok (.aload 4, 2) := by decide +kernel
theorem dX0_evaluate_13 : decode cX0_evaluate 13 = .ok (.getfield 25, 3) := by decide +kernel
theorem dX0_evaluate_16 : decode cX0_evaluate 16 = .ok (.iconst 1, 1) := by decide +kernel
theorem dX0_evaluate_17 : decode cX0_evaluate 17 = .ok (.isub, 1) := by decide +kernel
theorem dX0_evaluate_18 : decode cX0_evaluate 18 = .ok (.istore 5, 2) := by decide +kernel
theorem dX0_evaluate_20 : decode cX0_evaluate 20 = .ok (.iload 5, 2) := by decide +kernel
theorem dX0_evaluate_22 : decode cX0_evaluate 22 = .ok (.ifCond .lt 113, 3) := by decide +kernel
theorem dX0_evaluate_25 : decode cX0_evaluate 25 = .ok (.aload 4, 2) := by decide +kernel
theorem dX0_evaluate_27 : decode cX0_evaluate 27 = .ok (.getfield 30, 3) := by decide +kernel
theorem dX0_evaluate_30 : decode cX0_evaluate 30 = .ok (.iload 5, 2) := by decide +kernel
theorem dX0_evaluate_32 : decode cX0_evaluate 32 = .ok (.iaload, 1) := by decide +kernel
theorem dX0_evaluate_33 : decode cX0_evaluate 33 = .ok (.invokestatic 33, 3) := by decide +kernel
theorem dX0_evaluate_36 : decode cX0_evaluate 36 = .ok (.ifCond .eq 46, 3) := by decide +kernel
theorem dX0_evaluate_39 : decode cX0_evaluate 39 = .ok (.aload_n 1, 1) := by decide +kernel
theorem dX0_evaluate_40 : decode cX0_evaluate 40 = .ok (.aload 4, 2) := by decide +kernel
theorem dX0_evaluate_42 : decode cX0_evaluate 42 = .ok (.getfield 30, 3) := by decide +kernel
theorem dX0_evaluate_45 : decode cX0_evaluate 45 = .ok (.iload 5, 2) := by decide +kernel
theorem dX0_evaluate_47 : decode cX0_evaluate 47 = .ok (.iaload, 1) := by decide +kernel
theorem dX0_evaluate_48 : decode cX0_evaluate 48 = .ok (.invokevirtual 37, 3) := by decide +kernel
theorem dX0_evaluate_51 : decode cX0_evaluate 51 = .ok (.astore 6, 2) := by decide +kernel
theorem dX0_evaluate_53 : decode cX0_evaluate 53 = .ok (.aload_n 0, 1) := by decide +kernel
theorem dX0_evaluate_54 : decode cX0_evaluate 54 = .ok (.aload_n 0, 1) := by decide +kernel
theorem dX0_evaluate_55 : decode cX0_evaluate 55 = .ok (.aload 6, 2) := by decide +kernel
theorem dX0_evaluate_57 : decode cX0_evaluate 57 = .ok (.aload 4, 2) := by decide +kernel
theorem dX0_evaluate_59 : decode cX0_evaluate 59 = .ok (.getfield 41, 3) := by decide +kernel
theorem dX0_evaluate_62 : decode cX0_evaluate 62 = .ok (.iload 5, 2) := by decide +kernel
theorem dX0_evaluate_64 : decode cX0_evaluate 64 = .ok (.iaload, 1) := by decide +kernel
theorem dX0_evaluate_65 : decode cX0_evaluate 65 = .ok (.aload 4, 2) := by decide +kernel
theorem dX0_evaluate_67 : decode cX0_evaluate 67 = .ok (.getfield 44, 3) := by decide +kernel
theorem dX0_evaluate_70 : decode cX0_evaluate 70 = .ok (.iload 5, 2) := by decide +kernel
theorem dX0_evaluate_72 : decode cX0_evaluate 72 = .ok (.iaload, 1) := by decide +kernel
theorem dX0_evaluate_73 : decode cX0_evaluate 73 = .ok (.invokevirtual 47, 3) := by decide +kernel
theorem dX0_evaluate_76 : decode cX0_evaluate 76 = .ok (.invokevirtual 51, 3) := by decide +kernel
theorem dX0_evaluate_79 : decode cX0_evaluate 79 = .ok (.goto 50, 3) := by decide +kernel
theorem dX0_evaluate_82 : decode cX0_evaluate 82 = .ok (.aload 4, 2) := by decide +kernel
theorem dX0_evaluate_84 : decode cX0_evaluate 84 = .ok (.getfield 30, 3) := by decide +kernel
theorem dX0_evaluate_87 : decode cX0_evaluate 87 = .ok (.iload 5, 2) := by decide +kernel
theorem dX0_evaluate_89 : decode cX0_evaluate 89 = .ok (.iaload, 1) := by decide +kernel
theorem dX0_evaluate_90 : decode cX0_evaluate 90 = .ok (.iconst 1, 1) := by decide +kernel
theorem dX0_evaluate_91 : decode cX0_evaluate 91 = .ok (.if_icmp .ne 26, 3) := by decide +kernel
theorem dX0_evaluate_94 : decode cX0_evaluate 94 = .ok (.aload_n 0, 1) := by decide +kernel
theorem dX0_evaluate_95 : decode cX0_evaluate 95 = .ok (.aload 4, 2) := by decide +kernel
theorem dX0_evaluate_97 : decode cX0_evaluate 97 = .ok (.getfield 41, 3) := by decide +kernel
theorem dX0_evaluate_100 : decode cX0_evaluate 100 = .ok (.iload 5, 2) := by decide +kernel
theorem dX0_evaluate_102 : decode cX0_evaluate 102 = .ok (.iaload, 1) := by decide +kernel
theorem dX0_evaluate_103 : decode cX0_evaluate 103 = .ok (.ifCond .ne 7, 3) := by decide +kernel
theorem dX0_evaluate_106 : decode cX0_evaluate 106 = .ok (.iload_n 2, 1) := by decide +kernel
theorem dX0_evaluate_107 : decode cX0_evaluate 107 = .ok (.goto 4, 3) := by decide +kernel
theorem dX0_evaluate_110 : decode cX0_evaluate 110 = .ok (.iload_n 3, 1) := by decide +kernel
theorem dX0_evaluate_111 : decode cX0_evaluate 111 = .ok (.invokevirtual 51, 3) := by decide +kernel
theorem dX0_evaluate_114 : decode cX0_evaluate 114 = .ok (.goto 15, 3) := by decide +kernel
theorem dX0_evaluate_117 : decode cX0_evaluate 117 = .ok (.aload_n 0, 1) := by decide +kernel
theorem dX0_evaluate_118 : decode cX0_evaluate 118 = .ok (.aload 4, 2) := by decide +kernel
theorem dX0_evaluate_120 : decode cX0_evaluate 120 = .ok (.getfield 41, 3) := by decide +kernel
theorem dX0_evaluate_123 : decode cX0_evaluate 123 = .ok (.iload 5, 2) := by decide +kernel
theorem dX0_evaluate_125 : decode cX0_evaluate 125 = .ok (.iaload, 1) := by decide +kernel
theorem dX0_evaluate_126 : decode cX0_evaluate 126 = .ok (.invokevirtual 51, 3) := by decide +kernel
theorem dX0_evaluate_129 : decode cX0_evaluate 129 = .ok (.iinc 5 (-1), 3) := by decide +kernel
theorem dX0_evaluate_132 : decode cX0_evaluate 132 = .ok (.goto (-112), 3) := by decide +kernel
theorem dX0_evaluate_135 : decode cX0_evaluate 135 = .ok (.aload_n 0, 1) := by decide +kernel
theorem dX0_evaluate_136 : decode cX0_evaluate 136 = .ok (.invokevirtual 55, 3) := by decide +kernel
theorem dX0_evaluate_139 : decode cX0_evaluate 139 = .ok (.ireturn, 1) := by decide +kernel
set_option maxRecDepth 20000 in
theorem ggX0_callResult_X1_term : GoodIn wsX0_callResult wsX1_term := goodIn_r _ [5, 6, 7, 8, 4, 9, 10, 11, 12, 20, 21, 22, 23] (by decide +kernel) (by decide +kernel)
set_option maxRecDepth 20000 in
theorem gX0_callResult_X1_term : GoodIn wsX0_callResult (wsV RX0 59 RX1 yX1_term wsX1_term) := goodIn_app (goodIn_of _ (by decide +kernel)) ggX0_callResult_X1_term
set_option maxRecDepth 20000 in
theorem ggX0_callResult_X0_pop : GoodIn wsX0_callResult wsX0_pop := goodIn_r _ [17, 18, 19, 24, 25] (by decide +kernel) (by decide +kernel)
set_option maxRecDepth 20000 in
theorem gX0_callResult_X0_pop : GoodIn wsX0_callResult (wsV RX0 55 RX0 yX0_pop wsX0_pop) := goodIn_app (goodIn_of _ (by decide +kernel)) ggX0_callResult_X0_pop
theorem dX0_callResult_0 : decode cX0_callResult 0 = .ok (.aload_n 1, 1) := by decide +kernel
theorem dX0_callResult_1 : decode cX0_callResult 1 = .ok (.iload_n 2, 1) := by decide +kernel
theorem dX0_callResult_2 : decode cX0_callResult 2 = .ok (.iconst (-1), 1) := by decide +kernel
theorem dX0_callResult_3 : decode cX0_callResult 3 = .ok (.invokevirtual 59, 3) := by decide +kernel
theorem dX0_callResult_6 : decode cX0_callResult 6 = .ok (.istore 4, 2) := by decide +kernel
theorem dX0_callResult_8 : decode cX0_callResult 8 = .ok (.iconst 0, 1) := by decide +kernel
theorem dX0_callResult_9 : decode cX0_callResult 9 = .ok (.istore 5, 2) := by decide +kernel
theorem dX0_callResult_11 : decode cX0_callResult 11 = .ok (.iload 5, 2) := by decide +kernel
theorem dX0_callResult_13 : decode cX0_callResult 13 = .ok (.iload_n 3, 1) := by decide +kernel
theorem dX0_callResult_14 : decode cX0_callResult 14 = .ok (.if_icmp .ge 26, 3) := by decide +kernel
theorem dX0_callResult_17 : decode cX0_callResult 17 = .ok (.iload 4, 2) := by decide +kernel
theorem dX0_callResult_19 : decode cX0_callResult 19 = .ok (.aload_n 1, 1) := by decide +kernel
theorem dX0_callResult_20 : decode cX0_callResult 20 = .ok (.iload_n 2, 1) := by decide +kernel
theorem dX0_callResult_21 : decode cX0_callResult 21 = .ok (.iload 5, 2) := by decide +kernel
theorem dX0_callResult_23 : decode cX0_callResult 23 = .ok (.invokevirtual 59, 3) := by decide +kernel
theorem dX0_callResult_26 : decode cX0_callResult 26 = .ok (.aload_n 0, 1) := by decide +kernel
theorem dX0_callResult_27 : decode cX0_callResult 27 = .ok (.invokevirtual 55, 3) := by decide +kernel
theorem dX0_callResult_30 : decode cX0_callResult 30 = .ok (.imul, 1) := by decide +kernel
theorem dX0_callResult_31 : decode cX0_callResult 31 = .ok (.iadd, 1) := by decide +kernel
theorem dX0_callResult_32 : decode cX0_callResult 32 = .ok (.istore 4, 2) := by decide +kernel
theorem dX0_callResult_34 : decode cX0_callResult 34 = .ok (.iinc 5 1, 3) := by decide +kernel
theorem dX0_callResult_37 : decode cX0_callResult 37 = .ok (.goto (-26), 3) := by decide +kernel
theorem dX0_callResult_40 : decode cX0_callResult 40 = .ok (.iload 4, 2) := by decide +kernel
theorem dX0_callResult_42 : decode cX0_callResult 42 = .ok (.sipush 1000, 3) := by decide +kernel
theorem dX0_callResult_45 : decode cX0_callResult 45 = .ok (.irem, 1) := by decide +kernel
theorem dX0_callResult_46 : decode cX0_callResult 46 = .ok (.ireturn, 1) := by decide +kernel
theorem dX0_push_0 : decode cX0_push 0 = .ok (.aload_n 0, 1) := by decide +kernel
theorem dX0_push_1 : decode cX0_push 1 = .ok (.getfield 15, 3) := by decide +kernel
theorem dX0_push_4 : decode cX0_push 4 = .ok (.bipush 30, 2) := by decide +kernel
theorem dX0_push_6 : decode cX0_push 6 = .ok (.if_icmp .ge 23, 3) := by decide +kernel
theorem dX0_push_9 : decode cX0_push 9 = .ok (.aload_n 0, 1) := by decide +kernel
theorem dX0_push_10 : decode cX0_push 10 = .ok (.getfield 9, 3) := by decide +kernel
theorem dX0_push_13 : decode cX0_push 13 = .ok (.aload_n 0, 1) := by decide +kernel
theorem dX0_push_14 : decode cX0_push 14 = .ok (.getfield 15, 3) := by decide +kernel
theorem dX0_push_17 : decode cX0_push 17 = .ok (.iload_n 1, 1) := by decide +kernel
theorem dX0_push_18 : decode cX0_push 18 = .ok (.iastore, 1) := by decide +kernel
theorem dX0_push_19 : decode cX0_push 19 = .ok (.aload_n 0, 1) := by decide +kernel
theorem dX0_push_20 : decode cX0_push 20 = .ok (.dup, 1) := by decide +kernel
theorem dX0_push_21 : decode cX0_push 21 = .ok (.getfield 15, 3) := by decide +kernel
theorem dX0_push_24 : decode cX0_push 24 = .ok (.iconst 1, 1) := by decide +kernel
theorem dX0_push_25 : decode cX0_push 25 = .ok (.iadd, 1) := by decide +kernel
theorem dX0_push_26 : decode cX0_push 26 = .ok (.putfield 15, 3) := by decide +kernel
theorem dX0_push_29 : decode cX0_push 29 = .ok (.return_, 1) := by decide +kernel
theorem dX0_pop_0 : decode cX0_pop 0 = .ok (.aload_n 0, 1) := by decide +kernel
theorem dX0_pop_1 : decode cX0_pop 1 = .ok (.getfield 15, 3) := by decide +kernel
theorem dX0_pop_4 : decode cX0_pop 4 = .ok (.ifCond .gt 5, 3) := by decide +kernel
theorem dX0_pop_7 : decode cX0_pop 7 = .ok (.iconst 0, 1) := by decide +kernel
theorem dX0_pop_8 : decode cX0_pop 8 = .ok (.ireturn, 1) := by decide +kernel
theorem dX0_pop_9 : decode cX0_pop 9 = .ok (.aload_n 0, 1) := by decide +kernel
theorem dX0_pop_10 : decode cX0_pop 10 = .ok (.dup, 1) := by decide +kernel
theorem dX0_pop_11 : decode cX0_pop 11 = .ok (.getfield 15, 3) := by decide +kernel
theorem dX0_pop_14 : decode cX0_pop 14 = .ok (.iconst 1, 1) := by decide +kernel
theorem dX0_pop_15 : decode cX0_pop 15 = .ok (.isub, 1) := by decide +kernel
theorem dX0_pop_16 : decode cX0_pop 16 = .ok (.putfield 15, 3) := by decide +kernel
theorem dX0_pop_19 : decode cX0_pop 19 = .ok (.aload_n 0, 1) := by decide +kernel
theorem dX0_pop_20 : decode cX0_pop 20 = .ok (.getfield 9, 3) := by decide +kernel
theorem dX0_pop_23 : decode cX0_pop 23 = .ok (.aload_n 0, 1) := by decide +kernel
theorem dX0_pop_24 : decode cX0_pop 24 = .ok (.getfield 15, 3) := by decide +kernel
theorem dX0_pop_27 : decode cX0_pop 27 = .ok (.iaload, 1) := by decide +kernel
theorem dX0_pop_28 : decode cX0_pop 28 = .ok (.ireturn, 1) := by decide +kernel
set_option maxRecDepth 20000 in
theorem ggX1_init_J7_fill_53178 : GoodIn wsX1_init wsJ7_fill_53178 := goodIn_r _ [16] (by decide +kernel) (by decide +kernel)
set_option maxRecDepth 20000 in
theorem gX1_init_J7_fill_53178 : GoodIn wsX1_init (va_wsS RX1 31 yJ7_fill_53178 wsJ7_fill_53178) := goodIn_app (goodIn_of _ (by decide +kernel)) ggX1_init_J7_fill_53178
theorem dX1_init_0 : decode cX1_init 0 = .ok (.aload_n 0, 1) := by decide +kernel
theorem dX1_init_1 : decode cX1_init 1 = .ok (.invokespecial 3, 3) := by decide +kernel
theorem dX1_init_4 : decode cX1_init 4 = .ok (.aload_n 0, 1) := by decide +kernel
theorem dX1_init_5 : decode cX1_init 5 = .ok (.iload_n 1, 1) := by decide +kernel
theorem dX1_init_6 : decode cX1_init 6 = .ok (.iconst 0, 1) := by decide +kernel
theorem dX1_init_7 : decode cX1_init 7 = .ok (.invokestatic 9, 3) := by decide +kernel
theorem dX1_init_10 : decode cX1_init 10 = .ok (.putfield 15, 3) := by decide +kernel
theorem dX1_init_13 : decode cX1_init 13 = .ok (.aload_n 0, 1) := by decide +kernel
theorem dX1_init_14 : decode cX1_init 14 = .ok (.aload_n 0, 1) := by decide +kernel
theorem dX1_init_15 : decode cX1_init 15 = .ok (.getfield 15, 3) := by decide +kernel
theorem dX1_init_18 : decode cX1_init 18 = .ok (.newarray .int, 2) := by decide +kernel
theorem dX1_init_20 : decode cX1_init 20 = .ok (.putfield 21, 3) := by decide +kernel
theorem dX1_init_23 : decode cX1_init 23 = .ok (.aload_n 0, 1) := by decide +kernel
theorem dX1_init_24 : decode cX1_init 24 = .ok (.aload_n 0, 1) := by decide +kernel
theorem dX1_init_25 : decode cX1_init 25 = .ok (.getfield 15, 3) := by decide +kernel
theorem dX1_init_28 : decode cX1_init 28 = .ok (.newarray .int, 2) := by decide +kernel
theorem dX1_init_30 : decode cX1_init 30 = .ok (.putfield 25, 3) := by decide +kernel
theorem dX1_init_33 : decode cX1_init 33 = .ok (.aload_n 0, 1) := by decide +kernel
theorem dX1_init_34 : decode cX1_init 34 = .ok (.aload_n 0, 1) := by decide +kernel
theorem dX1_init_35 : decode cX1_init 35 = .ok (.getfield 15, 3) := by decide +kernel
theorem dX1_init_38 : decode cX1_init 38 = .ok (.iconst 5, 1) := by decide +kernel
theorem dX1_init_39 : decode cX1_init 39 = .ok (.imul, 1) := by decide +kernel
theorem dX1_init_40 : decode cX1_init 40 = .ok (.newarray .int, 2) := by decide +kernel
theorem dX1_init_42 : decode cX1_init 42 = .ok (.putfield 28, 3) := by decide +kernel
theorem dX1_init_45 : decode cX1_init 45 = .ok (.aload_n 0, 1) := by decide +kernel
theorem dX1_init_46 : decode cX1_init 46 = .ok (.getfield 21, 3) := by decide +kernel
theorem dX1_init_49 : decode cX1_init 49 = .ok (.iconst 1, 1) := by decide +kernel
theorem dX1_init_50 : decode cX1_init 50 = .ok (.invokestatic 31, 3) := by decide +kernel
theorem dX1_init_53 : decode cX1_init 53 = .ok (.return_, 1) := by decide +kernel
set_option maxRecDepth 20000 in
theorem ggX1_arityOf_X9_within : GoodIn wsX1_arityOf wsX9_within := goodIn_r _ [5] (by decide +kernel) (by decide +kernel)
set_option maxRecDepth 20000 in
theorem gX1_arityOf_X9_within_n37 : GoodIn wsX1_arityOf (wsX9_within) := ggX1_arityOf_X9_within
theorem dX1_arityOf_0 : decode cX1_arityOf 0 = .ok (.iload_n 1, 1) := by decide +kernel
theorem dX1_arityOf_1 : decode cX1_arityOf 1 = .ok (.iconst 0, 1) := by decide +kernel
theorem dX1_arityOf_2 : decode cX1_arityOf 2 = .ok (.aload_n 0, 1) := by decide +kernel
theorem dX1_arityOf_3 : decode cX1_arityOf 3 = .ok (.getfield 15, 3) := by decide +kernel
theorem dX1_arityOf_6 : decode cX1_arityOf 6 = .ok (.iconst 1, 1) := by decide +kernel
theorem dX1_arityOf_7 : decode cX1_arityOf 7 = .ok (.isub, 1) := by decide +kernel
theorem dX1_arityOf_8 : decode cX1_arityOf 8 = .ok (.invokestatic 37, 3) := by decide +kernel
theorem dX1_arityOf_11 : decode cX1_arityOf 11 = .ok (.ifCond .eq 12, 3) := by decide +kernel
theorem dX1_arityOf_14 : decode cX1_arityOf 14 = .ok (.aload_n 0, 1) := by decide +kernel
theorem dX1_arityOf_15 : decode cX1_arityOf 15 = .ok (.getfield 21, 3) := by decide +kernel
theorem dX1_arityOf_18 : decode cX1_arityOf 18 = .ok (.iload_n 1, 1) := by decide +kernel
theorem dX1_arityOf_19 : decode cX1_arityOf 19 = .ok (.iaload, 1) := by decide +kernel
theorem dX1_arityOf_20 : decode cX1_arityOf 20 = .ok (.goto 4, 3) := by decide +kernel
theorem dX1_arityOf_23 : decode cX1_arityOf 23 = .ok (.iconst 0, 1) := by decide +kernel
theorem dX1_arityOf_24 : decode cX1_arityOf 24 = .ok (.ireturn, 1) := by decide +kernel
set_option maxRecDepth 20000 in
theorem ggX1_effectOf_X9_within : GoodIn wsX1_effectOf wsX9_within := goodIn_r _ [5] (by decide +kernel) (by decide +kernel)
set_option maxRecDepth 20000 in
theorem gX1_effectOf_X9_within_n37 : GoodIn wsX1_effectOf (wsX9_within) := ggX1_effectOf_X9_within
theorem dX1_effectOf_0 : decode cX1_effectOf 0 = .ok (.iload_n 1, 1) := by decide +kernel
theorem dX1_effectOf_1 : decode cX1_effectOf 1 = .ok (.iconst 0, 1) := by decide +kernel
theorem dX1_effectOf_2 : decode cX1_effectOf 2 = .ok (.aload_n 0, 1) := by decide +kernel
theorem dX1_effectOf_3 : decode cX1_effectOf 3 = .ok (.getfield 15, 3) := by decide +kernel
theorem dX1_effectOf_6 : decode cX1_effectOf 6 = .ok (.iconst 1, 1) := by decide +kernel
theorem dX1_effectOf_7 : decode cX1_effectOf 7 = .ok (.isub, 1) := by decide +kernel
theorem dX1_effectOf_8 : decode cX1_effectOf 8 = .ok (.invokestatic 37, 3) := by decide +kernel
theorem dX1_effectOf_11 : decode cX1_effectOf 11 = .ok (.ifCond .eq 12, 3) := by decide +kernel
theorem dX1_effectOf_14 : decode cX1_effectOf 14 = .ok (.aload_n 0, 1) := by decide +kernel
theorem dX1_effectOf_15 : decode cX1_effectOf 15 = .ok (.getfield 25, 3) := by decide +kernel
theorem dX1_effectOf_18 : decode cX1_effectOf 18 = .ok (.iload_n 1, 1) := by decide +kernel
theorem dX1_effectOf_19 : decode cX1_effectOf 19 = .ok (.iaload, 1) := by decide +kernel
theorem dX1_effectOf_20 : decode cX1_effectOf 20 = .ok (.goto 4, 3) := by decide +kernel
theorem dX1_effectOf_23 : decode cX1_effectOf 23 = .ok (.iconst 0, 1) := by decide +kernel
theorem dX1_effectOf_24 : decode cX1_effectOf 24 = .ok (.ireturn, 1) := by decide +kernel
set_option maxRecDepth 20000 in
theorem ggX1_putShape_X9_within : GoodIn wsX1_putShape wsX9_within := goodIn_r _ [6] (by decide +kernel) (by decide +kernel)
set_option maxRecDepth 20000 in
theorem gX1_putShape_X9_within_n37 : GoodIn wsX1_putShape (wsX9_within) := ggX1_putShape_X9_within
theorem dX1_putShape_0 : decode cX1_putShape 0 = .ok (.iload_n 1, 1) := by decide +kernel
theorem dX1_putShape_1 : decode cX1_putShape 1 = .ok (.iconst 0, 1) := by decide +kernel
theorem dX1_putShape_2 : decode cX1_putShape 2 = .ok (.aload_n 0, 1) := by decide +kernel
theorem dX1_putShape_3 : decode cX1_putShape 3 = .ok (.getfield 15, 3) := by decide +kernel
theorem dX1_putShape_6 : decode cX1_putShape 6 = .ok (.iconst 1, 1) := by decide +kernel
theorem dX1_putShape_7 : decode cX1_putShape 7 = .ok (.isub, 1) := by decide +kernel
theorem dX1_putShape_8 : decode cX1_putShape 8 = .ok (.invokestatic 37, 3) := by decide +kernel
theorem dX1_putShape_11 : decode cX1_putShape 11 = .ok (.ifCond .eq 17, 3) := by decide +kernel
theorem dX1_putShape_14 : decode cX1_putShape 14 = .ok (.aload_n 0, 1) := by decide +kernel
theorem dX1_putShape_15 : decode cX1_putShape 15 = .ok (.getfield 21, 3) := by decide +kernel
theorem dX1_putShape_18 : decode cX1_putShape 18 = .ok (.iload_n 1, 1) := by decide +kernel
theorem dX1_putShape_19 : decode cX1_putShape 19 = .ok (.iload_n 2, 1) := by decide +kernel
theorem dX1_putShape_20 : decode cX1_putShape 20 = .ok (.iastore, 1) := by decide +kernel
theorem dX1_putShape_21 : decode cX1_putShape 21 = .ok (.aload_n 0, 1) := by decide +kernel
theorem dX1_putShape_22 : decode cX1_putShape 22 = .ok (.getfield 25, 3) := by decide +kernel
theorem dX1_putShape_25 : decode cX1_putShape 25 = .ok (.iload_n 1, 1) := by decide +kernel
theorem dX1_putShape_26 : decode cX1_putShape 26 = .ok (.iload_n 3, 1) := by decide +kernel
theorem dX1_putShape_27 : decode cX1_putShape 27 = .ok (.iastore, 1) := by decide +kernel
theorem dX1_putShape_28 : decode cX1_putShape 28 = .ok (.return_, 1) := by decide +kernel
set_option maxRecDepth 20000 in
theorem ggX1_term_X1_slotOf : GoodIn wsX1_term wsX1_slotOf := goodIn_r _ [5] (by decide +kernel) (by decide +kernel)
set_option maxRecDepth 20000 in
theorem gX1_term_X1_slotOf : GoodIn wsX1_term (va_wsS RX1 41 yX1_slotOf wsX1_slotOf) := goodIn_app (goodIn_of _ (by decide +kernel)) ggX1_term_X1_slotOf
set_option maxRecDepth 20000 in
theorem ggX1_term_X9_within : GoodIn wsX1_term wsX9_within := goodIn_r _ [8] (by decide +kernel) (by decide +kernel)
set_option maxRecDepth 20000 in
theorem gX1_term_X9_within_n37 : GoodIn wsX1_term (wsX9_within) := ggX1_term_X9_within
theorem dX1_term_0 : decode cX1_term 0 = .ok (.iload_n 1, 1) := by decide +kernel
theorem dX1_term_1 : decode cX1_term 1 = .ok (.iload_n 2, 1) := by decide +kernel
theorem dX1_term_2 : decode cX1_term 2 = .ok (.invokestatic 41, 3) := by decide +kernel
theorem dX1_term_5 : decode cX1_term 5 = .ok (.istore_n 3, 1) := by decide +kernel
theorem dX1_term_6 : decode cX1_term 6 = .ok (.iload_n 3, 1) := by decide +kernel
theorem dX1_term_7 : decode cX1_term 7 = .ok (.iconst 0, 1) := by decide +kernel
theorem dX1_term_8 : decode cX1_term 8 = .ok (.aload_n 0, 1) := by decide +kernel
theorem dX1_term_9 : decode cX1_term 9 = .ok (.getfield 28, 3) := by decide +kernel
theorem dX1_term_12 : decode cX1_term 12 = .ok (.arraylength, 1) := by decide +kernel
theorem dX1_term_13 : decode cX1_term 13 = .ok (.iconst 1, 1) := by decide +kernel
theorem dX1_term_14 : decode cX1_term 14 = .ok (.isub, 1) := by decide +kernel
theorem dX1_term_15 : decode cX1_term 15 = .ok (.invokestatic 37, 3) := by decide +kernel
theorem dX1_term_18 : decode cX1_term 18 = .ok (.ifCond .eq 12, 3) := by decide +kernel
theorem dX1_term_21 : decode cX1_term 21 = .ok (.aload_n 0, 1) := by decide +kernel
theorem dX1_term_22 : decode cX1_term 22 = .ok (.getfield 28, 3) := by decide +kernel
theorem dX1_term_25 : decode cX1_term 25 = .ok (.iload_n 3, 1) := by decide +kernel
theorem dX1_term_26 : decode cX1_term 26 = .ok (.iaload, 1) := by decide +kernel
theorem dX1_term_27 : decode cX1_term 27 = .ok (.goto 4, 3) := by decide +kernel
theorem dX1_term_30 : decode cX1_term 30 = .ok (.iconst 0, 1) := by decide +kernel
theorem dX1_term_31 : decode cX1_term 31 = .ok (.ireturn, 1) := by decide +kernel
set_option maxRecDepth 20000 in
theorem ggX1_putTerm_X1_slotOf : GoodIn wsX1_putTerm wsX1_slotOf := goodIn_r _ [5] (by decide +kernel) (by decide +kernel)
set_option maxRecDepth 20000 in
theorem gX1_putTerm_X1_slotOf : GoodIn wsX1_putTerm (va_wsS RX1 41 yX1_slotOf wsX1_slotOf) := goodIn_app (goodIn_of _ (by decide +kernel)) ggX1_putTerm_X1_slotOf
set_option maxRecDepth 20000 in
theorem ggX1_putTerm_X9_within : GoodIn wsX1_putTerm wsX9_within := goodIn_r _ [8] (by decide +kernel) (by decide +kernel)
set_option maxRecDepth 20000 in
theorem gX1_putTerm_X9_within_n37 : GoodIn wsX1_putTerm (wsX9_within) := ggX1_putTerm_X9_within
theorem dX1_putTerm_0 : decode cX1_putTerm 0 = .ok (.iload_n 1, 1) := by decide +kernel
theorem dX1_putTerm_1 : decode cX1_putTerm 1 = .ok (.iload_n 2, 1) := by decide +kernel
theorem dX1_putTerm_2 : decode cX1_putTerm 2 = .ok (.invokestatic 41, 3) := by decide +kernel
theorem dX1_putTerm_5 : decode cX1_putTerm 5 = .ok (.istore 4, 2) := by decide +kernel
theorem dX1_putTerm_7 : decode cX1_putTerm 7 = .ok (.iload 4, 2) := by decide +kernel
theorem dX1_putTerm_9 : decode cX1_putTerm 9 = .ok (.iconst 0, 1) := by decide +kernel
theorem dX1_putTerm_10 : decode cX1_putTerm 10 = .ok (.aload_n 0, 1) := by decide +kernel
theorem dX1_putTerm_11 : decode cX1_putTerm 11 = .ok (.getfield 28, 3) := by decide +kernel
theorem dX1_putTerm_14 : decode cX1_putTerm 14 = .ok (.arraylength, 1) := by decide +kernel
theorem dX1_putTerm_15 : decode cX1_putTerm 15 = .ok (.iconst 1, 1) := by decide +kernel
theorem dX1_putTerm_16 : decode cX1_putTerm 16 = .ok (.isub, 1) := by decide +kernel
theorem dX1_putTerm_17 : decode cX1_putTerm 17 = .ok (.invokestatic 37, 3) := by decide +kernel
theorem dX1_putTerm_20 : decode cX1_putTerm 20 = .ok (.ifCond .eq 11, 3) := by decide +kernel
theorem dX1_putTerm_23 : decode cX1_putTerm 23 = .ok (.aload_n 0, 1) := by decide +kernel
theorem dX1_putTerm_24 : decode cX1_putTerm 24 = .ok (.getfield 28, 3) := by decide +kernel
theorem dX1_putTerm_27 : decode cX1_putTerm 27 = .ok (.iload 4, 2) := by decide +kernel
theorem dX1_putTerm_29 : decode cX1_putTerm 29 = .ok (.iload_n 3, 1) := by decide +kernel
theorem dX1_putTerm_30 : decode cX1_putTerm 30 = .ok (.iastore, 1) := by decide +kernel
theorem dX1_putTerm_31 : decode cX1_putTerm 31 = .ok (.return_, 1) := by decide +kernel
theorem dX1_slotOf_0 : decode cX1_slotOf 0 = .ok (.iload_n 0, 1) := by decide +kernel
theorem dX1_slotOf_1 : decode cX1_slotOf 1 = .ok (.iconst 5, 1) := by decide +kernel
theorem dX1_slotOf_2 : decode cX1_slotOf 2 = .ok (.imul, 1) := by decide +kernel
theorem dX1_slotOf_3 : decode cX1_slotOf 3 = .ok (.iload_n 1, 1) := by decide +kernel
theorem dX1_slotOf_4 : decode cX1_slotOf 4 = .ok (.iadd, 1) := by decide +kernel
theorem dX1_slotOf_5 : decode cX1_slotOf 5 = .ok (.iconst (-1), 1) := by decide +kernel
theorem dX1_slotOf_6 : decode cX1_slotOf 6 = .ok (.isub, 1) := by decide +kernel
theorem dX1_slotOf_7 : decode cX1_slotOf 7 = .ok (.ireturn, 1) := by decide +kernel
set_option maxRecDepth 20000 in
theorem ggX1_copyFunction_X9_within : GoodIn wsX1_copyFunction wsX9_within := goodIn_r _ [11] (by decide +kernel) (by decide +kernel)
set_option maxRecDepth 20000 in
theorem gX1_copyFunction_X9_within_n37 : GoodIn wsX1_copyFunction (wsX9_within) := ggX1_copyFunction_X9_within
theorem dX1_copyFunction_0 : decode cX1_copyFunction 0 = .ok (.iload_n 1, 1) := by decide +kernel
theorem dX1_copyFunction_1 : decode cX1_copyFunction 1 = .ok (.iconst 0, 1) := by decide +kernel
theorem dX1_copyFunction_2 : decode cX1_copyFunction 2 = .ok (.aload_n 0, 1) := by decide +kernel
theorem dX1_copyFunction_3 : decode cX1_copyFunction 3 = .ok (.getfield 15, 3) := by decide +kernel
theorem dX1_copyFunction_6 : decode cX1_copyFunction 6 = .ok (.iconst 1, 1) := by decide +kernel
theorem dX1_copyFunction_7 : decode cX1_copyFunction 7 = .ok (.isub, 1) := by decide +kernel
theorem dX1_copyFunction_8 : decode cX1_copyFunction 8 = .ok (.invokestatic 37, 3) := by decide +kernel
theorem dX1_copyFunction_11 : decode cX1_copyFunction 11 = .ok (.ifCond .eq 17, 3) := by decide +kernel
theorem dX1_copyFunction_14 : decode cX1_copyFunction 14 = .ok (.iload_n 3, 1) := by decide +kernel
theorem dX1_copyFunction_15 : decode cX1_copyFunction 15 = .ok (.iconst 0, 1) := by decide +kernel
theorem dX1_copyFunction_16 : decode cX1_copyFunction 16 = .ok (.aload_n 2, 1) := by decide +kernel
theorem dX1_copyFunction_17 : decode cX1_copyFunction 17 = .ok (.getfield 15, 3) := by decide +kernel
theorem dX1_copyFunction_20 : decode cX1_copyFunction 20 = .ok (.iconst 1, 1) := by decide +kernel
theorem dX1_copyFunction_21 : decode cX1_copyFunction 21 = .ok (.isub, 1) := by decide +kernel
theorem dX1_copyFunction_22 : decode cX1_copyFunction 22 = .ok (.invokestatic 37, 3) := by decide +kernel
theorem dX1_copyFunction_25 : decode cX1_copyFunction 25 = .ok (.ifCond .ne 4, 3) := by decide +kernel
theorem dX1_copyFunction_28 : decode cX1_copyFunction 28 = .ok (.return_, 1) := by decide +kernel
theorem dX1_copyFunction_29 : decode cX1_copyFunction 29 = .ok (.aload_n 0, 1) := by decide +kernel
theorem dX1_copyFunction_30 : decode cX1_copyFunction 30 = .ok (.getfield 21, 3) := by decide +kernel
theorem dX1_copyFunction_33 : decode cX1_copyFunction 33 = .ok (.iload_n 1, 1) := by decide +kernel
theorem dX1_copyFunction_34 : decode cX1_copyFunction 34 = .ok (.aload_n 2, 1) := by decide +kernel
theorem dX1_copyFunction_35 : decode cX1_copyFunction 35 = .ok (.getfield 21, 3) := by decide +kernel
theorem dX1_copyFunction_38 : decode cX1_copyFunction 38 = .ok (.iload_n 3, 1) := by decide +kernel
theorem dX1_copyFunction_39 : decode cX1_copyFunction 39 = .ok (.iaload, 1) := by decide +kernel
theorem dX1_copyFunction_40 : decode cX1_copyFunction 40 = .ok (.iastore, 1) := by decide +kernel
theorem dX1_copyFunction_41 : decode cX1_copyFunction 41 = .ok (.aload_n 0, 1) := by decide +kernel
theorem dX1_copyFunction_42 : decode cX1_copyFunction 42 = .ok (.getfield 25, 3) := by decide +kernel
theorem dX1_copyFunction_45 : decode cX1_copyFunction 45 = .ok (.iload_n 1, 1) := by decide +kernel
theorem dX1_copyFunction_46 : decode cX1_copyFunction 46 = .ok (.aload_n 2, 1) := by decide +kernel
theorem dX1_copyFunction_47 : decode cX1_copyFunction 47 = .ok (.getfield 25, 3) := by decide +kernel
theorem dX1_copyFunction_50 : decode cX1_copyFunction 50 = .ok (.iload_n 3, 1) := by decide +kernel
theorem dX1_copyFunction_51 : decode cX1_copyFunction 51 = .ok (.iaload, 1) := by decide +kernel
theorem dX1_copyFunction_52 : decode cX1_copyFunction 52 = .ok (.iastore, 1) := by decide +kernel
theorem dX1_copyFunction_53 : decode cX1_copyFunction 53 = .ok (.aload_n 2, 1) := by decide +kernel
theorem dX1_copyFunction_54 : decode cX1_copyFunction 54 = .ok (.getfield 28, 3) := by decide +kernel
theorem dX1_copyFunction_57 : decode cX1_copyFunction 57 = .ok (.iload_n 3, 1) := by decide +kernel
theorem dX1_copyFunction_58 : decode cX1_copyFunction 58 = .ok (.iconst 5, 1) := by decide +kernel
theorem dX1_copyFunction_59 : decode cX1_copyFunction 59 = .ok (.imul, 1) := by decide +kernel
theorem dX1_copyFunction_60 : decode cX1_copyFunction 60 = .ok (.aload_n 0, 1) := by decide +kernel
theorem dX1_copyFunction_61 : decode cX1_copyFunction 61 = .ok (.getfield 28, 3) := by decide +kernel
theorem dX1_copyFunction_64 : decode cX1_copyFunction 64 = .ok (.iload_n 1, 1) := by decide +kernel
theorem dX1_copyFunction_65 : decode cX1_copyFunction 65 = .ok (.iconst 5, 1) := by decide +kernel
theorem dX1_copyFunction_66 : decode cX1_copyFunction 66 = .ok (.imul, 1) := by decide +kernel
theorem dX1_copyFunction_67 : decode cX1_copyFunction 67 = .ok (.iconst 5, 1) := by decide +kernel
theorem dX1_copyFunction_68 : decode cX1_copyFunction 68 = .ok (.invokestatic 44, 3) := by decide +kernel
theorem dX1_copyFunction_71 : decode cX1_copyFunction 71 = .ok (.return_, 1) := by decide +kernel
set_option maxRecDepth 20000 in
theorem ggX1_copyFrom_X1_copyFunction : GoodIn wsX1_copyFrom wsX1_copyFunction := goodIn_r _ [6, 1, 7, 8, 9, 10, 11, 12, 13, 14, 15, 16, 17, 18, 19, 20] (by decide +kernel) (by decide +kernel)
set_option maxRecDepth 20000 in
theorem gX1_copyFrom_X1_copyFunction : GoodIn wsX1_copyFrom (wsV RX1 50 RX1 yX1_copyFunction wsX1_copyFunction) := goodIn_app (goodIn_of _ (by decide +kernel)) ggX1_copyFrom_X1_copyFunction
theorem dX1_copyFrom_0 : decode cX1_copyFrom 0 = .ok (.iconst 0, 1) := by decide +kernel
theorem dX1_copyFrom_1 : decode cX1_copyFrom 1 = .ok (.istore_n 2, 1) := by decide +kernel
theorem dX1_copyFrom_2 : decode cX1_copyFrom 2 = .ok (.iload_n 2, 1) := by decide +kernel
theorem dX1_copyFrom_3 : decode cX1_copyFrom 3 = .ok (.aload_n 0, 1) := by decide +kernel
theorem dX1_copyFrom_4 : decode cX1_copyFrom 4 = .ok (.getfield 15, 3) := by decide +kernel
theorem dX1_copyFrom_7 : decode cX1_copyFrom 7 = .ok (.if_icmp .ge 16, 3) := by decide +kernel
theorem dX1_copyFrom_10 : decode cX1_copyFrom 10 = .ok (.aload_n 0, 1) := by decide +kernel
theorem dX1_copyFrom_11 : decode cX1_copyFrom 11 = .ok (.iload_n 2, 1) := by decide +kernel
theorem dX1_copyFrom_12 : decode cX1_copyFrom 12 = .ok (.aload_n 1, 1) := by decide +kernel
theorem dX1_copyFrom_13 : decode cX1_copyFrom 13 = .ok (.iload_n 2, 1) := by decide +kernel
theorem dX1_copyFrom_14 : decode cX1_copyFrom 14 = .ok (.invokevirtual 50, 3) := by decide +kernel
theorem dX1_copyFrom_17 : decode cX1_copyFrom 17 = .ok (.iinc 2 1, 3) := by decide +kernel
theorem dX1_copyFrom_20 : decode cX1_copyFrom 20 = .ok (.goto (-18), 3) := by decide +kernel
theorem dX1_copyFrom_23 : decode cX1_copyFrom 23 = .ok (.return_, 1) := by decide +kernel
set_option maxRecDepth 20000 in
theorem ggX2_init_X8_init : GoodIn wsX2_init wsX8_init := goodIn_r _ [11, 12, 2, 3, 13, 14, 15, 16, 17, 18, 19, 20, 21, 22, 23, 24, 25, 26, 27, 28, 29, 30, 31, 32, 33, 34, 35, 36, 37, 38, 39, 40, 41, 42, 43, 44, 45, 46, 47, 48, 49, 50, 51, 52, 53, 54, 55, 56, 57, 58, 59, 60, 61, 62, 63, 64, 65, 66, 67, 79, 80, 81, 82, 70, 71, 72, 73, 74, 75, 76, 77, 78, 83, 84, 85, 86, 87, 88, 89] (by decide +kernel) (by decide +kernel)
set_option maxRecDepth 20000 in
theorem gX2_init_X8_init : GoodIn wsX2_init (wsX8_init) := ggX2_init_X8_init
theorem dX2_init_0 : decode cX2_init 0 = .ok (.aload_n 0, 1) := by decide +kernel
theorem dX2_init_1 : decode cX2_init 1 = .ok (.invokespecial 3, 3) := by decide +kernel
theorem dX2_init_4 : decode cX2_init 4 = .ok (.aload_n 0, 1) := by decide +kernel
theorem dX2_init_5 : decode cX2_init 5 = .ok (.iconst 4, 1) := by decide +kernel
theorem dX2_init_6 : decode cX2_init 6 = .ok (.anewarray 9, 3) := by decide +kernel
theorem dX2_init_9 : decode cX2_init 9 = .ok (.putfield 11, 3) := by decide +kernel
theorem dX2_init_12 : decode cX2_init 12 = .ok (.aload_n 0, 1) := by decide +kernel
theorem dX2_init_13 : decode cX2_init 13 = .ok (.iconst 0, 1) := by decide +kernel
theorem dX2_init_14 : decode cX2_init 14 = .ok (.putfield 17, 3) := by decide +kernel
theorem dX2_init_17 : decode cX2_init 17 = .ok (.iconst 0, 1) := by decide +kernel
theorem dX2_init_18 : decode cX2_init 18 = .ok (.istore_n 1, 1) := by decide +kernel
theorem dX2_init_19 : decode cX2_init 19 = .ok (.iload_n 1, 1) := by decide +kernel
theorem dX2_init_20 : decode cX2_init 20 = .ok (.iconst 4, 1) := by decide +kernel
theorem dX2_init_21 : decode cX2_init 21 = .ok (.if_icmp .ge 22, 3) := by decide +kernel
theorem dX2_init_24 : decode cX2_init 24 = .ok (.aload_n 0, 1) := by decide +kernel
theorem dX2_init_25 : decode cX2_init 25 = .ok (.getfield 11, 3) := by decide +kernel
theorem dX2_init_28 : decode cX2_init 28 = .ok (.iload_n 1, 1) := by decide +kernel
theorem dX2_init_29 : decode cX2_init 29 = .ok (.new 9, 3) := by decide +kernel
theorem dX2_init_32 : decode cX2_init 32 = .ok (.dup, 1) := by decide +kernel
theorem dX2_init_33 : decode cX2_init 33 = .ok (.invokespecial 21, 3) := by decide +kernel
theorem dX2_init_36 : decode cX2_init 36 = .ok (.aastore, 1) := by decide +kernel
theorem dX2_init_37 : decode cX2_init 37 = .ok (.iinc 1 1, 3) := by decide +kernel
theorem dX2_init_40 : decode cX2_init 40 = .ok (.goto (-21), 3) := by decide +kernel
theorem dX2_init_43 : decode cX2_init 43 = .ok (.return_, 1) := by decide +kernel
set_option maxRecDepth 20000 in
theorem ggX2_save_X2_dropOldest : GoodIn wsX2_save wsX2_dropOldest := goodIn_r _ [7, 2, 1, 73, 74] (by decide +kernel) (by decide +kernel)
set_option maxRecDepth 20000 in
theorem gX2_save_X2_dropOldest : GoodIn wsX2_save (wsV RX2 22 RX2 yX2_dropOldest wsX2_dropOldest) := goodIn_app (goodIn_of _ (by decide +kernel)) ggX2_save_X2_dropOldest
set_option maxRecDepth 20000 in
theorem ggX2_save_X8_copyFrom : GoodIn wsX2_save wsX8_copyFrom := goodIn_r _ [12, 13, 14, 15, 16, 17, 18, 19, 20, 21, 22, 23, 24, 25, 26, 27, 28, 29, 30, 31, 32, 33, 34, 35, 36, 37, 38, 39, 40, 41, 42, 43, 44, 45, 46, 47, 48, 49, 50, 51, 52, 53, 54, 55, 56, 57, 58, 59, 60, 61, 62, 63, 64, 65, 66, 67, 68, 69, 70, 71, 72, 75, 76, 77, 78, 79, 80, 81, 82, 83, 84, 85, 86, 87, 88, 89, 90, 91, 92, 93, 94] (by decide +kernel) (by decide +kernel)
set_option maxRecDepth 20000 in
theorem gX2_save_X8_copyFrom : GoodIn wsX2_save (wsV RX2 25 RX8 yX8_copyFrom wsX8_copyFrom) := goodIn_app (goodIn_of _ (by decide +kernel)) ggX2_save_X8_copyFrom
theorem dX2_save_0 : decode cX2_save 0 = .ok (.aload_n 0, 1) := by decide +kernel
theorem dX2_save_1 : decode cX2_save 1 = .ok (.getfield 17, 3) := by decide +kernel
theorem dX2_save_4 : decode cX2_save 4 = .ok (.iconst 4, 1) := by decide +kernel
theorem dX2_save_5 : decode cX2_save 5 = .ok (.if_icmp .lt 7, 3) := by decide +kernel
theorem dX2_save_8 : decode cX2_save 8 = .ok (.aload_n 0, 1) := by decide +kernel
theorem dX2_save_9 : decode cX2_save 9 = .ok (.invokevirtual 22, 3) := by decide +kernel
theorem dX2_save_12 : decode cX2_save 12 = .ok (.aload_n 0, 1) := by decide +kernel
theorem dX2_save_13 : decode cX2_save 13 = .ok (.getfield 11, 3) := by decide +kernel
theorem dX2_save_16 : decode cX2_save 16 = .ok (.aload_n 0, 1) := by decide +kernel
theorem dX2_save_17 : decode cX2_save 17 = .ok (.getfield 17, 3) := by decide +kernel
theorem dX2_save_20 : decode cX2_save 20 = .ok (.aaload, 1) := by decide +kernel
theorem dX2_save_21 : decode cX2_save 21 = .ok (.aload_n 1, 1) := by decide +kernel
theorem dX2_save_22 : decode cX2_save 22 = .ok (.invokevirtual 25, 3) := by decide +kernel
theorem dX2_save_25 : decode cX2_save 25 = .ok (.aload_n 0, 1) := by decide +kernel
theorem dX2_save_26 : decode cX2_save 26 = .ok (.dup, 1) := by decide +kernel
theorem dX2_save_27 : decode cX2_save 27 = .ok (.getfield 17, 3) := by decide +kernel
theorem dX2_save_30 : decode cX2_save 30 = .ok (.iconst 1, 1) := by decide +kernel
theorem dX2_save_31 : decode cX2_save 31 = .ok (.iadd, 1) := by decide +kernel
theorem dX2_save_32 : decode cX2_save 32 = .ok (.putfield 17, 3) := by decide +kernel
theorem dX2_save_35 : decode cX2_save 35 = .ok (.return_, 1) := by decide +kernel
theorem dX2_dropOldest_0 : decode cX2_dropOldest 0 = .ok (.aload_n 0, 1) := by decide +kernel
theorem dX2_dropOldest_1 : decode cX2_dropOldest 1 = .ok (.getfield 11, 3) := by decide +kernel
theorem dX2_dropOldest_4 : decode cX2_dropOldest 4 = .ok (.iconst 0, 1) := by decide +kernel
theorem dX2_dropOldest_5 : decode cX2_dropOldest 5 = .ok (.aaload, 1) := by decide +kernel
theorem dX2_dropOldest_6 : decode cX2_dropOldest 6 = .ok (.astore_n 1, 1) := by decide +kernel
theorem dX2_dropOldest_7 : decode cX2_dropOldest 7 = .ok (.iconst 1, 1) := by decide +kernel
theorem dX2_dropOldest_8 : decode cX2_dropOldest 8 = .ok (.istore_n 2, 1) := by decide +kernel
theorem dX2_dropOldest_9 : decode cX2_dropOldest 9 = .ok (.iload_n 2, 1) := by decide +kernel
theorem dX2_dropOldest_10 : decode cX2_dropOldest 10 = .ok (.iconst 4, 1) := by decide +kernel
theorem dX2_dropOldest_11 : decode cX2_dropOldest 11 = .ok (.if_icmp .ge 23, 3) := by decide +kernel
theorem dX2_dropOldest_14 : decode cX2_dropOldest 14 = .ok (.aload_n 0, 1) := by decide +kernel
theorem dX2_dropOldest_15 : decode cX2_dropOldest 15 = .ok (.getfield 11, 3) := by decide +kernel
theorem dX2_dropOldest_18 : decode cX2_dropOldest 18 = .ok (.iload_n 2, 1) := by decide +kernel
theorem dX2_dropOldest_19 : decode cX2_dropOldest 19 = .ok (.iconst 1, 1) := by decide +kernel
theorem dX2_dropOldest_20 : decode cX2_dropOldest 20 = .ok (.isub, 1) := by decide +kernel
theorem dX2_dropOldest_21 : decode cX2_dropOldest 21 = .ok (.aload_n 0, 1) := by decide +kernel
theorem dX2_dropOldest_22 : decode cX2_dropOldest 22 = .ok (.getfield 11, 3) := by decide +kernel
theorem dX2_dropOldest_25 : decode cX2_dropOldest 25 = .ok (.iload_n 2, 1) := by decide +kernel
theorem dX2_dropOldest_26 : decode cX2_dropOldest 26 = .ok (.aaload, 1) := by decide +kernel
theorem dX2_dropOldest_27 : decode cX2_dropOldest 27 = .ok (.aastore, 1) := by decide +kernel
theorem dX2_dropOldest_28 : decode cX2_dropOldest 28 = .ok (.iinc 2 1, 3) := by decide +kernel
theorem dX2_dropOldest_31 : decode cX2_dropOldest 31 = .ok (.goto (-22), 3) := by decide +kernel
theorem dX2_dropOldest_34 : decode cX2_dropOldest 34 = .ok (.aload_n 0, 1) := by decide +kernel
theorem dX2_dropOldest_35 : decode cX2_dropOldest 35 = .ok (.getfield 11, 3) := by decide +kernel
theorem dX2_dropOldest_38 : decode cX2_dropOldest 38 = .ok (.iconst 3, 1) := by decide +kernel
theorem dX2_dropOldest_39 : decode cX2_dropOldest 39 = .ok (.aload_n 1, 1) := by decide +kernel
theorem dX2_dropOldest_40 : decode cX2_dropOldest 40 = .ok (.aastore, 1) := by decide +kernel
theorem dX2_dropOldest_41 : decode cX2_dropOldest 41 = .ok (.aload_n 0, 1) := by decide +kernel
theorem dX2_dropOldest_42 : decode cX2_dropOldest 42 = .ok (.iconst 3, 1) := by decide +kernel
theorem dX2_dropOldest_43 : decode cX2_dropOldest 43 = .ok (.putfield 17, 3) := by decide +kernel
theorem dX2_dropOldest_46 : decode cX2_dropOldest 46 = .ok (.return_, 1) := by decide +kernel
set_option maxRecDepth 20000 in
theorem ggX2_restore_X8_copyFrom : GoodIn wsX2_restore wsX8_copyFrom := goodIn_r _ [7, 8, 9, 10, 11, 12, 13, 14, 15, 16, 17, 18, 19, 20, 21, 22, 23, 24, 25, 26, 27, 28, 29, 30, 31, 32, 33, 34, 35, 36, 37, 38, 39, 40, 41, 42, 43, 44, 45, 46, 47, 48, 49, 50, 51, 52, 53, 54, 55, 56, 57, 58, 59, 60, 61, 62, 63, 64, 65, 66, 67, 70, 71, 72, 73, 74, 75, 76, 77, 78, 79, 80, 81, 82, 83, 84, 85, 86, 87, 88, 89] (by decide +kernel) (by decide +kernel)
set_option maxRecDepth 20000 in
theorem gX2_restore_X8_copyFrom : GoodIn wsX2_restore (wsV RX2 25 RX8 yX8_copyFrom wsX8_copyFrom) := goodIn_app (goodIn_of _ (by decide +kernel)) ggX2_restore_X8_copyFrom
theorem dX2_restore_0 : decode cX2_restore 0 = .ok (.aload_n 0, 1) := by decide +kernel
theorem dX2_restore_1 : decode cX2_restore 1 = .ok (.getfield 17, 3) := by decide +kernel
theorem dX2_restore_4 : decode cX2_restore 4 = .ok (.ifCond .gt 5, 3) := by decide +kernel
theorem dX2_restore_7 : decode cX2_restore 7 = .ok (.iconst 0, 1) := by decide +kernel
theorem dX2_restore_8 : decode cX2_restore 8 = .ok (.ireturn, 1) := by decide +kernel
theorem dX2_restore_9 : decode cX2_restore 9 = .ok (.aload_n 0, 1) := by decide +kernel
theorem dX2_restore_10 : decode cX2_restore 10 = .ok (.dup, 1) := by decide +kernel
theorem dX2_restore_11 : decode cX2_restore 11 = .ok (.getfield 17, 3) := by decide +kernel
theorem dX2_restore_14 : decode cX2_restore 14 = .ok (.iconst 1, 1) := by decide +kernel
theorem dX2_restore_15 : decode cX2_restore 15 = .ok (.isub, 1) := by decide +kernel
theorem dX2_restore_16 : decode cX2_restore 16 = .ok (.putfield 17, 3) := by decide +kernel
theorem dX2_restore_19 : decode cX2_restore 19 = .ok (.aload_n 1, 1) := by decide +kernel
theorem dX2_restore_20 : decode cX2_restore 20 = .ok (.aload_n 0, 1) := by decide +kernel
theorem dX2_restore_21 : decode cX2_restore 21 = .ok (.getfield 11, 3) := by decide +kernel
theorem dX2_restore_24 : decode cX2_restore 24 = .ok (.aload_n 0, 1) := by decide +kernel
theorem dX2_restore_25 : decode cX2_restore 25 = .ok (.getfield 17, 3) := by decide +kernel
theorem dX2_restore_28 : decode cX2_restore 28 = .ok (.aaload, 1) := by decide +kernel
theorem dX2_restore_29 : decode cX2_restore 29 = .ok (.invokevirtual 25, 3) := by decide +kernel
theorem dX2_restore_32 : decode cX2_restore 32 = .ok (.iconst 1, 1) := by decide +kernel
theorem dX2_restore_33 : decode cX2_restore 33 = .ok (.ireturn, 1) := by decide +kernel
theorem dX3_init_0 : decode cX3_init 0 = .ok (.aload_n 0, 1) := by decide +kernel
theorem dX3_init_1 : decode cX3_init 1 = .ok (.invokespecial 3, 3) := by decide +kernel
theorem dX3_init_4 : decode cX3_init 4 = .ok (.aload_n 0, 1) := by decide +kernel
theorem dX3_init_5 : decode cX3_init 5 = .ok (.bipush 120, 2) := by decide +kernel
theorem dX3_init_7 : decode cX3_init 7 = .ok (.newarray .int, 2) := by decide +kernel
theorem dX3_init_9 : decode cX3_init 9 = .ok (.putfield 9, 3) := by decide +kernel
theorem dX3_init_12 : decode cX3_init 12 = .ok (.aload_n 0, 1) := by decide +kernel
theorem dX3_init_13 : decode cX3_init 13 = .ok (.iconst 0, 1) := by decide +kernel
theorem dX3_init_14 : decode cX3_init 14 = .ok (.putfield 15, 3) := by decide +kernel
theorem dX3_init_17 : decode cX3_init 17 = .ok (.aload_n 0, 1) := by decide +kernel
theorem dX3_init_18 : decode cX3_init 18 = .ok (.iconst 0, 1) := by decide +kernel
theorem dX3_init_19 : decode cX3_init 19 = .ok (.putfield 19, 3) := by decide +kernel
theorem dX3_init_22 : decode cX3_init 22 = .ok (.return_, 1) := by decide +kernel
theorem dX3_add_0 : decode cX3_add 0 = .ok (.aload_n 0, 1) := by decide +kernel
theorem dX3_add_1 : decode cX3_add 1 = .ok (.getfield 15, 3) := by decide +kernel
theorem dX3_add_4 : decode cX3_add 4 = .ok (.bipush 120, 2) := by decide +kernel
theorem dX3_add_6 : decode cX3_add 6 = .ok (.if_icmp .lt 5, 3) := by decide +kernel
theorem dX3_add_9 : decode cX3_add 9 = .ok (.iconst 0, 1) := by decide +kernel
theorem dX3_add_10 : decode cX3_add 10 = .ok (.ireturn, 1) := by decide +kernel
theorem dX3_add_11 : decode cX3_add 11 = .ok (.aload_n 0, 1) := by decide +kernel
theorem dX3_add_12 : decode cX3_add 12 = .ok (.getfield 9, 3) := by decide +kernel
theorem dX3_add_15 : decode cX3_add 15 = .ok (.aload_n 0, 1) := by decide +kernel
theorem dX3_add_16 : decode cX3_add 16 = .ok (.getfield 15, 3) := by decide +kernel
theorem dX3_add_19 : decode cX3_add 19 = .ok (.iload_n 1, 1) := by decide +kernel
theorem dX3_add_20 : decode cX3_add 20 = .ok (.iastore, 1) := by decide +kernel
theorem dX3_add_21 : decode cX3_add 21 = .ok (.aload_n 0, 1) := by decide +kernel
theorem dX3_add_22 : decode cX3_add 22 = .ok (.dup, 1) := by decide +kernel
theorem dX3_add_23 : decode cX3_add 23 = .ok (.getfield 15, 3) := by decide +kernel
theorem dX3_add_26 : decode cX3_add 26 = .ok (.iconst 1, 1) := by decide +kernel
theorem dX3_add_27 : decode cX3_add 27 = .ok (.iadd, 1) := by decide +kernel
theorem dX3_add_28 : decode cX3_add 28 = .ok (.putfield 15, 3) := by decide +kernel
theorem dX3_add_31 : decode cX3_add 31 = .ok (.iconst 1, 1) := by decide +kernel
theorem dX3_add_32 : decode cX3_add 32 = .ok (.ireturn, 1) := by decide +kernel
set_option maxRecDepth 20000 in
theorem ggX3_readProgram_X3_readExpression : GoodIn wsX3_readProgram wsX3_readExpression := goodIn_r _ [8, 1, 3, 2, 9, 10, 11, 12, 13, 14, 15, 16, 7, 17, 18, 19, 20, 21, 22, 23, 24, 25, 26, 27, 28, 29, 30, 31, 32, 33, 34, 35, 36, 37, 38, 39, 40, 41, 42, 43, 44, 45, 46, 47, 48, 49, 50, 51, 52, 53, 4, 5, 6, 54, 55, 56, 61, 62, 63, 64, 65, 66, 67, 68, 69, 70, 71, 72, 73, 57, 58, 59, 60] (by decide +kernel) (by decide +kernel)
set_option maxRecDepth 20000 in
theorem gX3_readProgram_X3_readExpression : GoodIn wsX3_readProgram (wsV RX3 27 RX3 yX3_readExpression wsX3_readExpression) := goodIn_app (goodIn_of _ (by decide +kernel)) ggX3_readProgram_X3_readExpression
theorem dX3_readProgram_0 : decode cX3_readProgram 0 = .ok (.aload_n 0, 1) := by decide +kernel
theorem dX3_readProgram_1 : decode cX3_readProgram 1 = .ok (.iconst 0, 1) := by decide +kernel
theorem dX3_readProgram_2 : decode cX3_readProgram 2 = .ok (.putfield 19, 3) := by decide +kernel
theorem dX3_readProgram_5 : decode cX3_readProgram 5 = .ok (.aload_n 2, 1) := by decide +kernel
theorem dX3_readProgram_6 : decode cX3_readProgram 6 = .ok (.iconst 0, 1) := by decide +kernel
theorem dX3_readProgram_7 : decode cX3_readProgram 7 = .ok (.putfield 22, 3) := by decide +kernel
theorem dX3_readProgram_10 : decode cX3_readProgram 10 = .ok (.aload_n 0, 1) := by decide +kernel
theorem dX3_readProgram_11 : decode cX3_readProgram 11 = .ok (.aload_n 1, 1) := by decide +kernel
theorem dX3_readProgram_12 : decode cX3_readProgram 12 = .ok (.aload_n 2, 1) := by decide +kernel
theorem dX3_readProgram_13 : decode cX3_readProgram 13 = .ok (.invokevirtual 27, 3) := by decide +kernel
theorem dX3_readProgram_16 : decode cX3_readProgram 16 = .ok (.ifCond .eq 18, 3) := by decide +kernel
theorem dX3_readProgram_19 : decode cX3_readProgram 19 = .ok (.aload_n 0, 1) := by decide +kernel
theorem dX3_readProgram_20 : decode cX3_readProgram 20 = .ok (.getfield 19, 3) := by decide +kernel
theorem dX3_readProgram_23 : decode cX3_readProgram 23 = .ok (.aload_n 0, 1) := by decide +kernel
theorem dX3_readProgram_24 : decode cX3_readProgram 24 = .ok (.getfield 15, 3) := by decide +kernel
theorem dX3_readProgram_27 : decode cX3_readProgram 27 = .ok (.if_icmp .ne 7, 3) := by decide +kernel
theorem dX3_readProgram_30 : decode cX3_readProgram 30 = .ok (.iconst 1, 1) := by decide +kernel
theorem dX3_readProgram_31 : decode cX3_readProgram 31 = .ok (.goto 4, 3) := by decide +kernel
theorem dX3_readProgram_34 : decode cX3_readProgram 34 = .ok (.iconst 0, 1) := by decide +kernel
theorem dX3_readProgram_35 : decode cX3_readProgram 35 = .ok (.ireturn, 1) := by decide +kernel
set_option maxRecDepth 20000 in
theorem ggX3_readExpression_X9_within : GoodIn wsX3_readExpression wsX9_within := goodIn_r _ [8] (by decide +kernel) (by decide +kernel)
set_option maxRecDepth 20000 in
theorem gX3_readExpression_X9_within_n31 : GoodIn wsX3_readExpression (wsX9_within) := ggX3_readExpression_X9_within
set_option maxRecDepth 20000 in
theorem ggX3_readExpression_X3_readNumber : GoodIn wsX3_readExpression wsX3_readNumber := goodIn_r _ [13, 4, 1, 14, 15, 16, 12, 17, 2, 6, 7, 8, 18, 19, 20, 21, 22, 23, 24, 25, 26, 53, 54, 55, 69, 70, 71, 72] (by decide +kernel) (by decide +kernel)
set_option maxRecDepth 20000 in
theorem gX3_readExpression_X3_readNumber : GoodIn wsX3_readExpression (wsV RX3 35 RX3 yX3_readNumber wsX3_readNumber) := goodIn_app (goodIn_of _ (by decide +kernel)) ggX3_readExpression_X3_readNumber
set_option maxRecDepth 20000 in
theorem ggX3_readExpression_X6_add : GoodIn wsX3_readExpression wsX6_add := goodIn_r _ [22, 23, 24, 25, 26, 69, 70, 71, 72] (by decide +kernel) (by decide +kernel)
set_option maxRecDepth 20000 in
theorem gX3_readExpression_X6_add : GoodIn wsX3_readExpression (wsV RX3 39 RX6 yX6_add wsX6_add) := goodIn_app (goodIn_of _ (by decide +kernel)) ggX3_readExpression_X6_add
set_option maxRecDepth 20000 in
theorem ggX3_readExpression_X3_readCall : GoodIn wsX3_readExpression wsX3_readCall := goodIn_r _ [30, 1, 31, 32, 33, 34, 35, 36, 37, 38, 39, 40, 41, 42, 43, 44, 45, 6, 7, 8, 46, 47, 48, 12, 49, 2, 4, 18, 19, 20, 21, 22, 23, 24, 25, 26, 50, 51, 52, 0, 3, 5, 9, 10, 11, 13, 14, 15, 16, 17, 27, 28, 29, 53, 54, 55, 56, 57, 58, 59, 60, 61, 62, 63, 64, 65, 66, 67, 68, 69, 70, 71, 72] (by decide +kernel) (by decide +kernel)
set_option maxRecDepth 20000 in
theorem gX3_readExpression_X3_readCall : GoodIn wsX3_readExpression (wsV RX3 42 RX3 yX3_readCall wsX3_readCall) := goodIn_app (goodIn_of _ (by decide +kernel)) ggX3_readExpression_X3_readCall
theorem dX3_readExpression_0 : decode cX3_readExpression 0 = .ok (.aload_n 0, 1) := by decide +kernel
theorem dX3_readExpression_1 : decode cX3_readExpression 1 = .ok (.getfield 19, 3) := by decide +kernel
theorem dX3_readExpression_4 : decode cX3_readExpression 4 = .ok (.aload_n 0, 1) := by decide +kernel
theorem dX3_readExpression_5 : decode cX3_readExpression 5 = .ok (.getfield 15, 3) := by decide +kernel
theorem dX3_readExpression_8 : decode cX3_readExpression 8 = .ok (.if_icmp .ge 12, 3) := by decide +kernel
theorem dX3_readExpression_11 : decode cX3_readExpression 11 = .ok (.aload_n 2, 1) := by decide +kernel
theorem dX3_readExpression_12 : decode cX3_readExpression 12 = .ok (.getfield 22, 3) := by decide +kernel
theorem dX3_readExpression_15 : decode cX3_readExpression 15 = .ok (.bipush 30, 2) := by decide +kernel
theorem dX3_readExpression_17 : decode cX3_readExpression 17 = .ok (.if_icmp .lt 5, 3) := by decide +kernel
theorem dX3_readExpression_20 : decode cX3_readExpression 20 = .ok (.iconst 0, 1) := by decide +kernel
theorem dX3_readExpression_21 : decode cX3_readExpression 21 = .ok (.ireturn, 1) := by decide +kernel
theorem dX3_readExpression_22 : decode cX3_readExpression 22 = .ok (.aload_n 0, 1) := by decide +kernel
theorem dX3_readExpression_23 : decode cX3_readExpression 23 = .ok (.getfield 9, 3) := by decide +kernel
theorem dX3_readExpression_26 : decode cX3_readExpression 26 = .ok (.aload_n 0, 1) := by decide +kernel
theorem dX3_readExpression_27 : decode cX3_readExpression 27 = .ok (.getfield 19, 3) := by decide +kernel
theorem dX3_readExpression_30 : decode cX3_readExpression 30 = .ok (.iaload, 1) := by decide +kernel
theorem dX3_readExpression_31 : decode cX3_readExpression 31 = .ok (.istore_n 3, 1) := by decide +kernel
theorem dX3_readExpression_32 : decode cX3_readExpression 32 = .ok (.iload_n 3, 1) := by decide +kernel
theorem dX3_readExpression_33 : decode cX3_readExpression 33 = .ok (.bipush 48, 2) := by decide +kernel
theorem dX3_readExpression_35 : decode cX3_readExpression 35 = .ok (.bipush 57, 2) := by decide +kernel
theorem dX3_readExpression_37 : decode cX3_readExpression 37 = .ok (.invokestatic 31, 3) := by decide +kernel
theorem dX3_readExpression_40 : decode cX3_readExpression 40 = .ok (.ifCond .eq 9, 3) := by decide +kernel
theorem dX3_readExpression_43 : decode cX3_readExpression 43 = .ok (.aload_n 0, 1) := by decide +kernel
theorem dX3_readExpression_44 : decode cX3_readExpression 44 = .ok (.aload_n 2, 1) := by decide +kernel
theorem dX3_readExpression_45 : decode cX3_readExpression 45 = .ok (.invokevirtual 35, 3) := by decide +kernel
theorem dX3_readExpression_48 : decode cX3_readExpression 48 = .ok (.ireturn, 1) := by decide +kernel
theorem dX3_readExpression_49 : decode cX3_readExpression 49 = .ok (.iload_n 3, 1) := by decide +kernel
theorem dX3_readExpression_50 : decode cX3_readExpression 50 = .ok (.bipush 120, 2) := by decide +kernel
theorem dX3_readExpression_52 : decode cX3_readExpression 52 = .ok (.bipush 121, 2) := by decide +kernel
theorem dX3_readExpression_54 : decode cX3_readExpression 54 = .ok (.invokestatic 31, 3) := by decide +kernel
theorem dX3_readExpression_57 : decode cX3_readExpression 57 = .ok (.ifCond .eq 24, 3) := by decide +kernel
theorem dX3_readExpression_60 : decode cX3_readExpression 60 = .ok (.aload_n 0, 1) := by decide +kernel
theorem dX3_readExpression_61 : decode cX3_readExpression 61 = .ok (.dup, 1) := by decide +kernel
theorem dX3_readExpression_62 : decode cX3_readExpression 62 = .ok (.getfield 19, 3) := by decide +kernel
theorem dX3_readExpression_65 : decode cX3_readExpression 65 = .ok (.iconst 1, 1) := by decide +kernel
theorem dX3_readExpression_66 : decode cX3_readExpression 66 = .ok (.iadd, 1) := by decide +kernel
theorem dX3_readExpression_67 : decode cX3_readExpression 67 = .ok (.putfield 19, 3) := by decide +kernel
theorem dX3_readExpression_70 : decode cX3_readExpression 70 = .ok (.aload_n 2, 1) := by decide +kernel
theorem dX3_readExpression_71 : decode cX3_readExpression 71 = .ok (.iconst 1, 1) := by decide +kernel
theorem dX3_readExpression_72 : decode cX3_readExpression 72 = .ok (.iload_n 3, 1) := by decide +kernel
theorem dX3_readExpression_73 : decode cX3_readExpression 73 = .ok (.bipush 120, 2) := by decide +kernel
theorem dX3_readExpression_75 : decode cX3_readExpression 75 = .ok (.isub, 1) := by decide +kernel
theorem dX3_readExpression_76 : decode cX3_readExpression 76 = .ok (.iconst 0, 1) := by decide +kernel
theorem dX3_readExpression_77 : decode cX3_readExpression 77 = .ok (.invokevirtual 39, 3) := by decide +kernel
theorem dX3_readExpression_80 : decode cX3_readExpression 80 = .ok (.ireturn, 1) := by decide +kernel
theorem dX3_readExpression_81 : decode cX3_readExpression 81 = .ok (.iload_n 3, 1) := by decide +kernel
theorem dX3_readExpression_82 : decode cX3_readExpression 82 = .ok (.bipush 97, 2) := by decide +kernel
theorem dX3_readExpression_84 : decode cX3_readExpression 84 = .ok (.bipush 102, 2) := by decide +kernel
theorem dX3_readExpression_86 : decode cX3_readExpression 86 = .ok (.invokestatic 31, 3) := by decide +kernel
theorem dX3_readExpression_89 : decode cX3_readExpression 89 = .ok (.ifCond .eq 15, 3) := by decide +kernel
theorem dX3_readExpression_92 : decode cX3_readExpression 92 = .ok (.aload_n 0, 1) := by decide +kernel
theorem dX3_readExpression_93 : decode cX3_readExpression 93 = .ok (.aload_n 1, 1) := by decide +kernel
theorem dX3_readExpression_94 : decode cX3_readExpression 94 = .ok (.aload_n 2, 1) := by decide +kernel
theorem dX3_readExpression_95 : decode cX3_readExpression 95 = .ok (.iconst 2, 1) := by decide +kernel
theorem dX3_readExpression_96 : decode cX3_readExpression 96 = .ok (.iload_n 3, 1) := by decide +kernel
theorem dX3_readExpression_97 : decode cX3_readExpression 97 = .ok (.bipush 97, 2) := by decide +kernel
theorem dX3_readExpression_99 : decode cX3_readExpression 99 = .ok (.isub, 1) := by decide +kernel
theorem dX3_readExpression_100 : decode cX3_readExpression 100 = .ok (.invokevirtual 42, 3) := by decide +kernel
theorem dX3_readExpression_103 : decode cX3_readExpression 103 = .ok (.ireturn, 1) := by decide +kernel
theorem dX3_readExpression_104 : decode cX3_readExpression 104 = .ok (.iload_n 3, 1) := by decide +kernel
theorem dX3_readExpression_105 : decode cX3_readExpression 105 = .ok (.bipush 65, 2) := by decide +kernel
theorem dX3_readExpression_107 : decode cX3_readExpression 107 = .ok (.bipush 70, 2) := by decide +kernel
theorem dX3_readExpression_109 : decode cX3_readExpression 109 = .ok (.invokestatic 31, 3) := by decide +kernel
theorem dX3_readExpression_112 : decode cX3_readExpression 112 = .ok (.ifCond .eq 15, 3) := by decide +kernel
theorem dX3_readExpression_115 : decode cX3_readExpression 115 = .ok (.aload_n 0, 1) := by decide +kernel
theorem dX3_readExpression_116 : decode cX3_readExpression 116 = .ok (.aload_n 1, 1) := by decide +kernel
theorem dX3_readExpression_117 : decode cX3_readExpression 117 = .ok (.aload_n 2, 1) := by decide +kernel
theorem dX3_readExpression_118 : decode cX3_readExpression 118 = .ok (.iconst 3, 1) := by decide +kernel
theorem dX3_readExpression_119 : decode cX3_readExpression 119 = .ok (.iload_n 3, 1) := by decide +kernel
theorem dX3_readExpression_120 : decode cX3_readExpression 120 = .ok (.bipush 65, 2) := by decide +kernel
theorem dX3_readExpression_122 : decode cX3_readExpression 122 = .ok (.isub, 1) := by decide +kernel
theorem dX3_readExpression_123 : decode cX3_readExpression 123 = .ok (.invokevirtual 42, 3) := by decide +kernel
theorem dX3_readExpression_126 : decode cX3_readExpression 126 = .ok (.ireturn, 1) := by decide +kernel
theorem dX3_readExpression_127 : decode cX3_readExpression 127 = .ok (.iload_n 3, 1) := by decide +kernel
theorem dX3_readExpression_128 : decode cX3_readExpression 128 = .ok (.bipush 112, 2) := by decide +kernel
theorem dX3_readExpression_130 : decode cX3_readExpression 130 = .ok (.bipush 112, 2) := by decide +kernel
theorem dX3_readExpression_132 : decode cX3_readExpression 132 = .ok (.aload_n 1, 1) := by decide +kernel
theorem dX3_readExpression_133 : decode cX3_readExpression 133 = .ok (.getfield 46, 3) := by decide +kernel
theorem dX3_readExpression_136 : decode cX3_readExpression 136 = .ok (.iadd, 1) := by decide +kernel
theorem dX3_readExpression_137 : decode cX3_readExpression 137 = .ok (.iconst 1, 1) := by decide +kernel
theorem dX3_readExpression_138 : decode cX3_readExpression 138 = .ok (.isub, 1) := by decide +kernel
theorem dX3_readExpression_139 : decode cX3_readExpression 139 = .ok (.invokestatic 31, 3) := by decide +kernel
theorem dX3_readExpression_142 : decode cX3_readExpression 142 = .ok (.ifCond .eq 15, 3) := by decide +kernel
theorem dX3_readExpression_145 : decode cX3_readExpression 145 = .ok (.aload_n 0, 1) := by decide +kernel
theorem dX3_readExpression_146 : decode cX3_readExpression 146 = .ok (.aload_n 1, 1) := by decide +kernel
theorem dX3_readExpression_147 : decode cX3_readExpression 147 = .ok (.aload_n 2, 1) := by decide +kernel
theorem dX3_readExpression_148 : decode cX3_readExpression 148 = .ok (.iconst 4, 1) := by decide +kernel
theorem dX3_readExpression_149 : decode cX3_readExpression 149 = .ok (.iload_n 3, 1) := by decide +kernel
theorem dX3_readExpression_150 : decode cX3_readExpression 150 = .ok (.bipush 112, 2) := by decide +kernel
theorem dX3_readExpression_152 : decode cX3_readExpression 152 = .ok (.isub, 1) := by decide +kernel
theorem dX3_readExpression_153 : decode cX3_readExpression 153 = .ok (.invokevirtual 42, 3) := by decide +kernel
theorem dX3_readExpression_156 : decode cX3_readExpression 156 = .ok (.ireturn, 1) := by decide +kernel
theorem dX3_readExpression_157 : decode cX3_readExpression 157 = .ok (.iconst 0, 1) := by decide +kernel
theorem dX3_readExpression_158 : decode cX3_readExpression 158 = .ok (.ireturn, 1) := by decide +kernel
set_option maxRecDepth 20000 in
theorem ggX3_readNumber_X3_digitFollows : GoodIn wsX3_readNumber wsX3_digitFollows := goodIn_r _ [7, 2, 8, 1, 9, 10, 11, 21, 22, 23] (by decide +kernel) (by decide +kernel)
set_option maxRecDepth 20000 in
theorem gX3_readNumber_X3_digitFollows : GoodIn wsX3_readNumber (wsV RX3 51 RX3 yX3_digitFollows wsX3_digitFollows) := goodIn_app (goodIn_of _ (by decide +kernel)) ggX3_readNumber_X3_digitFollows
set_option maxRecDepth 20000 in
theorem ggX3_readNumber_X6_add : GoodIn wsX3_readNumber wsX6_add := goodIn_r _ [16, 17, 18, 19, 20, 24, 25, 26, 27] (by decide +kernel) (by decide +kernel)
set_option maxRecDepth 20000 in
theorem gX3_readNumber_X6_add : GoodIn wsX3_readNumber (wsV RX3 39 RX6 yX6_add wsX6_add) := goodIn_app (goodIn_of _ (by decide +kernel)) ggX3_readNumber_X6_add
theorem dX3_readNumber_0 : decode cX3_readNumber 0 = .ok (.iconst 0, 1) := by decide +kernel
theorem dX3_readNumber_1 : decode cX3_readNumber 1 = .ok (.istore_n 2, 1) := by decide +kernel
theorem dX3_readNumber_2 : decode cX3_readNumber 2 = .ok (.iconst 0, 1) := by decide +kernel
theorem dX3_readNumber_3 : decode cX3_readNumber 3 = .ok (.istore_n 3, 1) := by decide +kernel
theorem dX3_readNumber_4 : decode cX3_readNumber 4 = .ok (.iload_n 3, 1) := by decide +kernel
theorem dX3_readNumber_5 : decode cX3_readNumber 5 = .ok (.iconst 2, 1) := by decide +kernel
theorem dX3_readNumber_6 : decode cX3_readNumber 6 = .ok (.if_icmp .ge 44, 3) := by decide +kernel
theorem dX3_readNumber_9 : decode cX3_readNumber 9 = .ok (.aload_n 0, 1) := by decide +kernel
theorem dX3_readNumber_10 : decode cX3_readNumber 10 = .ok (.invokevirtual 51, 3) := by decide +kernel
theorem dX3_readNumber_13 : decode cX3_readNumber 13 = .ok (.ifCond .eq 37, 3) := by decide +kernel
theorem dX3_readNumber_16 : decode cX3_readNumber 16 = .ok (.iload_n 2, 1) := by decide +kernel
theorem dX3_readNumber_17 : decode cX3_readNumber 17 = .ok (.bipush 10, 2) := by decide +kernel
theorem dX3_readNumber_19 : decode cX3_readNumber 19 = .ok (.imul, 1) := by decide +kernel
theorem dX3_readNumber_20 : decode cX3_readNumber 20 = .ok (.aload_n 0, 1) := by decide +kernel
theorem dX3_readNumber_21 : decode cX3_readNumber 21 = .ok (.getfield 9, 3) := by decide +kernel
theorem dX3_readNumber_24 : decode cX3_readNumber 24 = .ok (.aload_n 0, 1) := by decide +kernel
theorem dX3_readNumber_25 : decode cX3_readNumber 25 = .ok (.getfield 19, 3) := by decide +kernel
theorem dX3_readNumber_28 : decode cX3_readNumber 28 = .ok (.iaload, 1) := by decide +kernel
theorem dX3_readNumber_29 : decode cX3_readNumber 29 = .ok (.iadd, 1) := by decide +kernel
theorem dX3_readNumber_30 : decode cX3_readNumber 30 = .ok (.bipush 48, 2) := by decide +kernel
theorem dX3_readNumber_32 : decode cX3_readNumber 32 = .ok (.isub, 1) := by decide +kernel
theorem dX3_readNumber_33 : decode cX3_readNumber 33 = .ok (.istore_n 2, 1) := by decide +kernel
theorem dX3_readNumber_34 : decode cX3_readNumber 34 = .ok (.aload_n 0, 1) := by decide +kernel
theorem dX3_readNumber_35 : decode cX3_readNumber 35 = .ok (.dup, 1) := by decide +kernel
theorem dX3_readNumber_36 : decode cX3_readNumber 36 = .ok (.getfield 19, 3) := by decide +kernel
theorem dX3_readNumber_39 : decode cX3_readNumber 39 = .ok (.iconst 1, 1) := by decide +kernel
theorem dX3_readNumber_40 : decode cX3_readNumber 40 = .ok (.iadd, 1) := by decide +kernel
theorem dX3_readNumber_41 : decode cX3_readNumber 41 = .ok (.putfield 19, 3) := by decide +kernel
theorem dX3_readNumber_44 : decode cX3_readNumber 44 = .ok (.iinc 3 1, 3) := by decide +kernel
theorem dX3_readNumber_47 : decode cX3_readNumber 47 = .ok (.goto (-43), 3) := by decide +kernel
theorem dX3_readNumber_50 : decode cX3_readNumber 50 = .ok (.aload_n 1, 1) := by decide +kernel
theorem dX3_readNumber_51 : decode cX3_readNumber 51 = .ok (.iconst 0, 1) := by decide +kernel
theorem dX3_readNumber_52 : decode cX3_readNumber 52 = .ok (.iload_n 2, 1) := by decide +kernel
theorem dX3_readNumber_53 : decode cX3_readNumber 53 = .ok (.iconst 0, 1) := by decide +kernel
theorem dX3_readNumber_54 : decode cX3_readNumber 54 = .ok (.invokevirtual 39, 3) := by decide +kernel
theorem dX3_readNumber_57 : decode cX3_readNumber 57 = .ok (.ireturn, 1) := by decide +kernel
set_option maxRecDepth 20000 in
theorem ggX3_digitFollows_X9_within : GoodIn wsX3_digitFollows wsX9_within := goodIn_r _ [6] (by decide +kernel) (by decide +kernel)
set_option maxRecDepth 20000 in
theorem gX3_digitFollows_X9_within_n31 : GoodIn wsX3_digitFollows (wsX9_within) := ggX3_digitFollows_X9_within
theorem dX3_digitFollows_0 : decode cX3_digitFollows 0 = .ok (.aload_n 0, 1) := by decide +kernel
theorem dX3_digitFollows_1 : decode cX3_digitFollows 1 = .ok (.getfield 19, 3) := by decide +kernel
theorem dX3_digitFollows_4 : decode cX3_digitFollows 4 = .ok (.aload_n 0, 1) := by decide +kernel
theorem dX3_digitFollows_5 : decode cX3_digitFollows 5 = .ok (.getfield 15, 3) := by decide +kernel
theorem dX3_digitFollows_8 : decode cX3_digitFollows 8 = .ok (.if_icmp .ge 26, 3) := by decide +kernel
theorem dX3_digitFollows_11 : decode cX3_digitFollows 11 = .ok (.aload_n 0, 1) := by decide +kernel
theorem dX3_digitFollows_12 : decode cX3_digitFollows 12 = .ok (.getfield 9, 3) := by decide +kernel
theorem dX3_digitFollows_15 : decode cX3_digitFollows 15 = .ok (.aload_n 0, 1) := by decide +kernel
theorem dX3_digitFollows_16 : decode cX3_digitFollows 16 = .ok (.getfield 19, 3) := by decide +kernel
theorem dX3_digitFollows_19 : decode cX3_digitFollows 19 = .ok (.iaload, 1) := by decide +kernel
theorem dX3_digitFollows_20 : decode cX3_digitFollows 20 = .ok (.bipush 48, 2) := by decide +kernel
theorem dX3_digitFollows_22 : decode cX3_digitFollows 22 = .ok (.bipush 57, 2) := by decide +kernel
theorem dX3_digitFollows_24 : decode cX3_digitFollows 24 = .ok (.invokestatic 31, 3) := by decide +kernel
theorem dX3_digitFollows_27 : decode cX3_digitFollows 27 = .ok (.ifCond .eq 7, 3) := by decide +kernel
theorem dX3_digitFollows_30 : decode cX3_digitFollows 30 = .ok (.iconst 1, 1) := by decide +kernel
theorem dX3_digitFollows_31 : decode cX3_digitFollows 31 = .ok (.goto 4, 3) := by decide +kernel
theorem dX3_digitFollows_34 : decode cX3_digitFollows 34 = .ok (.iconst 0, 1) := by decide +kernel
theorem dX3_digitFollows_35 : decode cX3_digitFollows 35 = .ok (.ireturn, 1) := by decide +kernel
set_option maxRecDepth 20000 in
theorem ggX3_readCall_X8_tableOf : GoodIn wsX3_readCall wsX8_tableOf := goodIn_r _ [6, 7, 8, 9, 56, 57, 58, 59, 60, 61, 62, 63, 64] (by decide +kernel) (by decide +kernel)
set_option maxRecDepth 20000 in
theorem gX3_readCall_X8_tableOf : GoodIn wsX3_readCall (wsV RX3 55 RX8 yX8_tableOf wsX8_tableOf) := goodIn_app (goodIn_of _ (by decide +kernel)) ggX3_readCall_X8_tableOf
set_option maxRecDepth 20000 in
theorem ggX3_readCall_X1_arityOf : GoodIn wsX3_readCall wsX1_arityOf := goodIn_r _ [14, 15, 16, 17, 18, 19, 65, 66, 67, 68] (by decide +kernel) (by decide +kernel)
set_option maxRecDepth 20000 in
theorem gX3_readCall_X1_arityOf : GoodIn wsX3_readCall (wsV RX3 59 RX1 yX1_arityOf wsX1_arityOf) := goodIn_app (goodIn_of _ (by decide +kernel)) ggX3_readCall_X1_arityOf
set_option maxRecDepth 20000 in
theorem ggX3_readCall_X3_take : GoodIn wsX3_readCall wsX3_take := goodIn_r _ [24, 1, 25, 26, 53, 54, 55] (by decide +kernel) (by decide +kernel)
set_option maxRecDepth 20000 in
theorem gX3_readCall_X3_take : GoodIn wsX3_readCall (wsV RX3 65 RX3 yX3_take wsX3_take) := goodIn_app (goodIn_of _ (by decide +kernel)) ggX3_readCall_X3_take
set_option maxRecDepth 20000 in
theorem ggX3_readCall_X6_add : GoodIn wsX3_readCall wsX6_add := goodIn_r _ [31, 32, 33, 34, 35, 69, 70, 71, 72] (by decide +kernel) (by decide +kernel)
set_option maxRecDepth 20000 in
theorem gX3_readCall_X6_add : GoodIn wsX3_readCall (wsV RX3 39 RX6 yX6_add wsX6_add) := goodIn_app (goodIn_of _ (by decide +kernel)) ggX3_readCall_X6_add
set_option maxRecDepth 20000 in
theorem ggX3_readCall_X3_readExpression : GoodIn wsX3_readCall wsX3_readExpression := goodIn_r _ [39, 1, 25, 40, 26, 41, 17, 18, 19, 42, 43, 44, 23, 45, 46, 47, 48, 49, 27, 28, 29, 30, 31, 32, 33, 34, 35, 50, 51, 52, 0, 2, 3, 4, 5, 6, 7, 8, 9, 10, 11, 12, 13, 14, 15, 16, 20, 21, 22, 24, 36, 37, 38, 53, 54, 55, 56, 57, 58, 59, 60, 61, 62, 63, 64, 65, 66, 67, 68, 69, 70, 71, 72] (by decide +kernel) (by decide +kernel)
set_option maxRecDepth 20000 in
theorem gX3_readCall_X3_readExpression : GoodIn wsX3_readCall (wsV RX3 27 RX3 yX3_readExpression wsX3_readExpression) := goodIn_app (goodIn_of _ (by decide +kernel)) ggX3_readCall_X3_readExpression
theorem dX3_readCall_0 : decode cX3_readCall 0 = .ok (.aload_n 1, 1) := by decide +kernel
theorem dX3_readCall_1 : decode cX3_readCall 1 = .ok (.iload_n 3, 1) := by decide +kernel
theorem dX3_readCall_2 : decode cX3_readCall 2 = .ok (.invokevirtual 55, 3) := by decide +kernel
theorem dX3_readCall_5 : decode cX3_readCall 5 = .ok (.iload 4, 2) := by decide +kernel
theorem dX3_readCall_7 : decode cX3_readCall 7 = .ok (.invokevirtual 59, 3) := by decide +kernel
theorem dX3_readCall_10 : decode cX3_readCall 10 = .ok (.istore 5, 2) := by decide +kernel
theorem dX3_readCall_12 : decode cX3_readCall 12 = .ok (.aload_n 0, 1) := by decide +kernel
theorem dX3_readCall_13 : decode cX3_readCall 13 = .ok (.dup, 1) := by decide +kernel
theorem dX3_readCall_14 : decode cX3_readCall 14 = .ok (.getfield 19, 3) := by decide +kernel
theorem dX3_readCall_17 : decode cX3_readCall 17 = .ok (.iconst 1, 1) := by decide +kernel
theorem dX3_readCall_18 : decode cX3_readCall 18 = .ok (.iadd, 1) := by decide +kernel
theorem dX3_readCall_19 : decode cX3_readCall 19 = .ok (.putfield 19, 3) := by decide +kernel
theorem dX3_readCall_22 : decode cX3_readCall 22 = .ok (.aload_n 0, 1) := by decide +kernel
theorem dX3_readCall_23 : decode cX3_readCall 23 = .ok (.bipush 40, 2) := by decide +kernel
theorem dX3_readCall_25 : decode cX3_readCall 25 = .ok (.invokevirtual 65, 3) := by decide +kernel
theorem dX3_readCall_28 : decode cX3_readCall 28 = .ok (.ifCond .eq 15, 3) := by decide +kernel
theorem dX3_readCall_31 : decode cX3_readCall 31 = .ok (.aload_n 2, 1) := by decide +kernel
theorem dX3_readCall_32 : decode cX3_readCall 32 = .ok (.iload_n 3, 1) := by decide +kernel
theorem dX3_readCall_33 : decode cX3_readCall 33 = .ok (.iload 4, 2) := by decide +kernel
theorem dX3_readCall_35 : decode cX3_readCall 35 = .ok (.iload 5, 2) := by decide +kernel
theorem dX3_readCall_37 : decode cX3_readCall 37 = .ok (.invokevirtual 39, 3) := by decide +kernel
theorem dX3_readCall_40 : decode cX3_readCall 40 = .ok (.ifCond .ne 5, 3) := by decide +kernel
theorem dX3_readCall_43 : decode cX3_readCall 43 = .ok (.iconst 0, 1) := by decide +kernel
theorem dX3_readCall_44 : decode cX3_readCall 44 = .ok (.ireturn, 1) := by decide +kernel
theorem dX3_readCall_45 : decode cX3_readCall 45 = .ok (.iconst 0, 1) := by decide +kernel
theorem dX3_readCall_46 : decode cX3_readCall 46 = .ok (.istore 6, 2) := by decide +kernel
theorem dX3_readCall_48 : decode cX3_readCall 48 = .ok (.iload 6, 2) := by decide +kernel
theorem dX3_readCall_50 : decode cX3_readCall 50 = .ok (.iload 5, 2) := by decide +kernel
theorem dX3_readCall_52 : decode cX3_readCall 52 = .ok (.if_icmp .ge 36, 3) := by decide +kernel
theorem dX3_readCall_55 : decode cX3_readCall 55 = .ok (.iload 6, 2) := by decide +kernel
theorem dX3_readCall_57 : decode cX3_readCall 57 = .ok (.ifCond .le 14, 3) := by decide +kernel
theorem dX3_readCall_60 : decode cX3_readCall 60 = .ok (.aload_n 0, 1) := by decide +kernel
theorem dX3_readCall_61 : decode cX3_readCall 61 = .ok (.bipush 44, 2) := by decide +kernel
theorem dX3_readCall_63 : decode cX3_readCall 63 = .ok (.invokevirtual 65, 3) := by decide +kernel
theorem dX3_readCall_66 : decode cX3_readCall 66 = .ok (.ifCond .ne 5, 3) := by decide +kernel
theorem dX3_readCall_69 : decode cX3_readCall 69 = .ok (.iconst 0, 1) := by decide +kernel
theorem dX3_readCall_70 : decode cX3_readCall 70 = .ok (.ireturn, 1) := by decide +kernel
theorem dX3_readCall_71 : decode cX3_readCall 71 = .ok (.aload_n 0, 1) := by decide +kernel
theorem dX3_readCall_72 : decode cX3_readCall 72 = .ok (.aload_n 1, 1) := by decide +kernel
theorem dX3_readCall_73 : decode cX3_readCall 73 = .ok (.aload_n 2, 1) := by decide +kernel
theorem dX3_readCall_74 : decode cX3_readCall 74 = .ok (.invokevirtual 27, 3) := by decide +kernel
theorem dX3_readCall_77 : decode cX3_readCall 77 = .ok (.ifCond .ne 5, 3) := by decide +kernel
theorem dX3_readCall_80 : decode cX3_readCall 80 = .ok (.iconst 0, 1) := by decide +kernel
theorem dX3_readCall_81 : decode cX3_readCall 81 = .ok (.ireturn, 1) := by decide +kernel
theorem dX3_readCall_82 : decode cX3_readCall 82 = .ok (.iinc 6 1, 3) := by decide +kernel
theorem dX3_readCall_85 : decode cX3_readCall 85 = .ok (.goto (-37), 3) := by decide +kernel
theorem dX3_readCall_88 : decode cX3_readCall 88 = .ok (.aload_n 0, 1) := by decide +kernel
theorem dX3_readCall_89 : decode cX3_readCall 89 = .ok (.bipush 41, 2) := by decide +kernel
theorem dX3_readCall_91 : decode cX3_readCall 91 = .ok (.invokevirtual 65, 3) := by decide +kernel
theorem dX3_readCall_94 : decode cX3_readCall 94 = .ok (.ireturn, 1) := by decide +kernel
theorem dX3_take_0 : decode cX3_take 0 = .ok (.aload_n 0, 1) := by decide +kernel
theorem dX3_take_1 : decode cX3_take 1 = .ok (.getfield 19, 3) := by decide +kernel
theorem dX3_take_4 : decode cX3_take 4 = .ok (.aload_n 0, 1) := by decide +kernel
theorem dX3_take_5 : decode cX3_take 5 = .ok (.getfield 15, 3) := by decide +kernel
theorem dX3_take_8 : decode cX3_take 8 = .ok (.if_icmp .ge 16, 3) := by decide +kernel
theorem dX3_take_11 : decode cX3_take 11 = .ok (.aload_n 0, 1) := by decide +kernel
theorem dX3_take_12 : decode cX3_take 12 = .ok (.getfield 9, 3) := by decide +kernel
theorem dX3_take_15 : decode cX3_take 15 = .ok (.aload_n 0, 1) := by decide +kernel
theorem dX3_take_16 : decode cX3_take 16 = .ok (.getfield 19, 3) := by decide +kernel
theorem dX3_take_19 : decode cX3_take 19 = .ok (.iaload, 1) := by decide +kernel
theorem dX3_take_20 : decode cX3_take 20 = .ok (.iload_n 1, 1) := by decide +kernel
theorem dX3_take_21 : decode cX3_take 21 = .ok (.if_icmp .eq 5, 3) := by decide +kernel
theorem dX3_take_24 : decode cX3_take 24 = .ok (.iconst 0, 1) := by decide +kernel
theorem dX3_take_25 : decode cX3_take 25 = .ok (.ireturn, 1) := by decide +kernel
theorem dX3_take_26 : decode cX3_take 26 = .ok (.aload_n 0, 1) := by decide +kernel
theorem dX3_take_27 : decode cX3_take 27 = .ok (.dup, 1) := by decide +kernel
theorem dX3_take_28 : decode cX3_take 28 = .ok (.getfield 19, 3) := by decide +kernel
theorem dX3_take_31 : decode cX3_take 31 = .ok (.iconst 1, 1) := by decide +kernel
theorem dX3_take_32 : decode cX3_take 32 = .ok (.iadd, 1) := by decide +kernel
theorem dX3_take_33 : decode cX3_take 33 = .ok (.putfield 19, 3) := by decide +kernel
theorem dX3_take_36 : decode cX3_take 36 = .ok (.iconst 1, 1) := by decide +kernel
theorem dX3_take_37 : decode cX3_take 37 = .ok (.ireturn, 1) := by decide +kernel
set_option maxRecDepth 20000 in
theorem ggX4_init_J7_fill_53178 : GoodIn wsX4_init wsJ7_fill_53178 := goodIn_r _ [11] (by decide +kernel) (by decide +kernel)
set_option maxRecDepth 20000 in
theorem gX4_init_J7_fill_53178 : GoodIn wsX4_init (va_wsS RX4 21 yJ7_fill_53178 wsJ7_fill_53178) := goodIn_app (goodIn_of _ (by decide +kernel)) ggX4_init_J7_fill_53178
theorem dX4_init_0 : decode cX4_init 0 = .ok (.aload_n 0, 1) := by decide +kernel
theorem dX4_init_1 : decode cX4_init 1 = .ok (.invokespecial 3, 3) := by decide +kernel
theorem dX4_init_4 : decode cX4_init 4 = .ok (.aload_n 0, 1) := by decide +kernel
theorem dX4_init_5 : decode cX4_init 5 = .ok (.bipush 6, 2) := by decide +kernel
theorem dX4_init_7 : decode cX4_init 7 = .ok (.newarray .int, 2) := by decide +kernel
theorem dX4_init_9 : decode cX4_init 9 = .ok (.putfield 9, 3) := by decide +kernel
theorem dX4_init_12 : decode cX4_init 12 = .ok (.aload_n 0, 1) := by decide +kernel
theorem dX4_init_13 : decode cX4_init 13 = .ok (.bipush 24, 2) := by decide +kernel
theorem dX4_init_15 : decode cX4_init 15 = .ok (.newarray .int, 2) := by decide +kernel
theorem dX4_init_17 : decode cX4_init 17 = .ok (.putfield 15, 3) := by decide +kernel
theorem dX4_init_20 : decode cX4_init 20 = .ok (.aload_n 0, 1) := by decide +kernel
theorem dX4_init_21 : decode cX4_init 21 = .ok (.bipush 24, 2) := by decide +kernel
theorem dX4_init_23 : decode cX4_init 23 = .ok (.newarray .int, 2) := by decide +kernel
theorem dX4_init_25 : decode cX4_init 25 = .ok (.putfield 18, 3) := by decide +kernel
theorem dX4_init_28 : decode cX4_init 28 = .ok (.aload_n 0, 1) := by decide +kernel
theorem dX4_init_29 : decode cX4_init 29 = .ok (.getfield 9, 3) := by decide +kernel
theorem dX4_init_32 : decode cX4_init 32 = .ok (.iconst (-1), 1) := by decide +kernel
theorem dX4_init_33 : decode cX4_init 33 = .ok (.invokestatic 21, 3) := by decide +kernel
theorem dX4_init_36 : decode cX4_init 36 = .ok (.return_, 1) := by decide +kernel
set_option maxRecDepth 20000 in
theorem ggX4_targetOf_X9_within : GoodIn wsX4_targetOf wsX9_within := goodIn_r _ [4] (by decide +kernel) (by decide +kernel)
set_option maxRecDepth 20000 in
theorem gX4_targetOf_X9_within_n27 : GoodIn wsX4_targetOf (wsX9_within) := ggX4_targetOf_X9_within
theorem dX4_targetOf_0 : decode cX4_targetOf 0 = .ok (.iload_n 1, 1) := by decide +kernel
theorem dX4_targetOf_1 : decode cX4_targetOf 1 = .ok (.iconst 0, 1) := by decide +kernel
theorem dX4_targetOf_2 : decode cX4_targetOf 2 = .ok (.iconst 5, 1) := by decide +kernel
theorem dX4_targetOf_3 : decode cX4_targetOf 3 = .ok (.invokestatic 27, 3) := by decide +kernel
theorem dX4_targetOf_6 : decode cX4_targetOf 6 = .ok (.ifCond .eq 12, 3) := by decide +kernel
theorem dX4_targetOf_9 : decode cX4_targetOf 9 = .ok (.aload_n 0, 1) := by decide +kernel
theorem dX4_targetOf_10 : decode cX4_targetOf 10 = .ok (.getfield 9, 3) := by decide +kernel
theorem dX4_targetOf_13 : decode cX4_targetOf 13 = .ok (.iload_n 1, 1) := by decide +kernel
theorem dX4_targetOf_14 : decode cX4_targetOf 14 = .ok (.iaload, 1) := by decide +kernel
theorem dX4_targetOf_15 : decode cX4_targetOf 15 = .ok (.goto 4, 3) := by decide +kernel
theorem dX4_targetOf_18 : decode cX4_targetOf 18 = .ok (.iconst (-1), 1) := by decide +kernel
theorem dX4_targetOf_19 : decode cX4_targetOf 19 = .ok (.ireturn, 1) := by decide +kernel
set_option maxRecDepth 20000 in
theorem ggX4_putTarget_X9_within : GoodIn wsX4_putTarget wsX9_within := goodIn_r _ [4] (by decide +kernel) (by decide +kernel)
set_option maxRecDepth 20000 in
theorem gX4_putTarget_X9_within_n27 : GoodIn wsX4_putTarget (wsX9_within) := ggX4_putTarget_X9_within
theorem dX4_putTarget_0 : decode cX4_putTarget 0 = .ok (.iload_n 1, 1) := by decide +kernel
theorem dX4_putTarget_1 : decode cX4_putTarget 1 = .ok (.iconst 0, 1) := by decide +kernel
theorem dX4_putTarget_2 : decode cX4_putTarget 2 = .ok (.iconst 5, 1) := by decide +kernel
theorem dX4_putTarget_3 : decode cX4_putTarget 3 = .ok (.invokestatic 27, 3) := by decide +kernel
theorem dX4_putTarget_6 : decode cX4_putTarget 6 = .ok (.ifCond .eq 10, 3) := by decide +kernel
theorem dX4_putTarget_9 : decode cX4_putTarget 9 = .ok (.aload_n 0, 1) := by decide +kernel
theorem dX4_putTarget_10 : decode cX4_putTarget 10 = .ok (.getfield 9, 3) := by decide +kernel
theorem dX4_putTarget_13 : decode cX4_putTarget 13 = .ok (.iload_n 1, 1) := by decide +kernel
theorem dX4_putTarget_14 : decode cX4_putTarget 14 = .ok (.iload_n 2, 1) := by decide +kernel
theorem dX4_putTarget_15 : decode cX4_putTarget 15 = .ok (.iastore, 1) := by decide +kernel
theorem dX4_putTarget_16 : decode cX4_putTarget 16 = .ok (.return_, 1) := by decide +kernel
set_option maxRecDepth 20000 in
theorem ggX4_resetEntries_X4_putEntry : GoodIn wsX4_resetEntries wsX4_putEntry := goodIn_r _ [5, 6, 7, 8, 9, 10, 11, 12, 13] (by decide +kernel) (by decide +kernel)
set_option maxRecDepth 20000 in
theorem gX4_resetEntries_X4_putEntry : GoodIn wsX4_resetEntries (wsV RX4 31 RX4 yX4_putEntry wsX4_putEntry) := goodIn_app (goodIn_of _ (by decide +kernel)) ggX4_resetEntries_X4_putEntry
theorem dX4_resetEntries_0 : decode cX4_resetEntries 0 = .ok (.iconst 0, 1) := by decide +kernel
theorem dX4_resetEntries_1 : decode cX4_resetEntries 1 = .ok (.istore_n 2, 1) := by decide +kernel
theorem dX4_resetEntries_2 : decode cX4_resetEntries 2 = .ok (.iload_n 2, 1) := by decide +kernel
theorem dX4_resetEntries_3 : decode cX4_resetEntries 3 = .ok (.iconst 4, 1) := by decide +kernel
theorem dX4_resetEntries_4 : decode cX4_resetEntries 4 = .ok (.if_icmp .ge 26, 3) := by decide +kernel
theorem dX4_resetEntries_7 : decode cX4_resetEntries 7 = .ok (.aload_n 0, 1) := by decide +kernel
theorem dX4_resetEntries_8 : decode cX4_resetEntries 8 = .ok (.iload_n 1, 1) := by decide +kernel
theorem dX4_resetEntries_9 : decode cX4_resetEntries 9 = .ok (.iload_n 2, 1) := by decide +kernel
theorem dX4_resetEntries_10 : decode cX4_resetEntries 10 = .ok (.iload_n 2, 1) := by decide +kernel
theorem dX4_resetEntries_11 : decode cX4_resetEntries 11 = .ok (.iconst 2, 1) := by decide +kernel
theorem dX4_resetEntries_12 : decode cX4_resetEntries 12 = .ok (.if_icmp .gt 7, 3) := by decide +kernel
theorem dX4_resetEntries_15 : decode cX4_resetEntries 15 = .ok (.iload_n 2, 1) := by decide +kernel
theorem dX4_resetEntries_16 : decode cX4_resetEntries 16 = .ok (.goto 4, 3) := by decide +kernel
theorem dX4_resetEntries_19 : decode cX4_resetEntries 19 = .ok (.iconst (-1), 1) := by decide +kernel
theorem dX4_resetEntries_20 : decode cX4_resetEntries 20 = .ok (.iconst 0, 1) := by decide +kernel
theorem dX4_resetEntries_21 : decode cX4_resetEntries 21 = .ok (.invokevirtual 31, 3) := by decide +kernel
theorem dX4_resetEntries_24 : decode cX4_resetEntries 24 = .ok (.iinc 2 1, 3) := by decide +kernel
theorem dX4_resetEntries_27 : decode cX4_resetEntries 27 = .ok (.goto (-25), 3) := by decide +kernel
theorem dX4_resetEntries_30 : decode cX4_resetEntries 30 = .ok (.return_, 1) := by decide +kernel
set_option maxRecDepth 20000 in
theorem ggX4_putEntry_X9_within : GoodIn wsX4_putEntry wsX9_within := goodIn_r _ [5] (by decide +kernel) (by decide +kernel)
set_option maxRecDepth 20000 in
theorem gX4_putEntry_X9_within_n27 : GoodIn wsX4_putEntry (wsX9_within) := ggX4_putEntry_X9_within
theorem dX4_putEntry_0 : decode cX4_putEntry 0 = .ok (.iload_n 1, 1) := by decide +kernel
theorem dX4_putEntry_1 : decode cX4_putEntry 1 = .ok (.iconst 4, 1) := by decide +kernel
theorem dX4_putEntry_2 : decode cX4_putEntry 2 = .ok (.imul, 1) := by decide +kernel
theorem dX4_putEntry_3 : decode cX4_putEntry 3 = .ok (.iload_n 2, 1) := by decide +kernel
theorem dX4_putEntry_4 : decode cX4_putEntry 4 = .ok (.iadd, 1) := by decide +kernel
theorem dX4_putEntry_5 : decode cX4_putEntry 5 = .ok (.istore 5, 2) := by decide +kernel
theorem dX4_putEntry_7 : decode cX4_putEntry 7 = .ok (.iload 5, 2) := by decide +kernel
theorem dX4_putEntry_9 : decode cX4_putEntry 9 = .ok (.iconst 0, 1) := by decide +kernel
theorem dX4_putEntry_10 : decode cX4_putEntry 10 = .ok (.bipush 23, 2) := by decide +kernel
theorem dX4_putEntry_12 : decode cX4_putEntry 12 = .ok (.invokestatic 27, 3) := by decide +kernel
theorem dX4_putEntry_15 : decode cX4_putEntry 15 = .ok (.ifCond .eq 20, 3) := by decide +kernel
theorem dX4_putEntry_18 : decode cX4_putEntry 18 = .ok (.aload_n 0, 1) := by decide +kernel
theorem dX4_putEntry_19 : decode cX4_putEntry 19 = .ok (.getfield 15, 3) := by decide +kernel
theorem dX4_putEntry_22 : decode cX4_putEntry 22 = .ok (.iload 5, 2) := by decide +kernel
theorem dX4_putEntry_24 : decode cX4_putEntry 24 = .ok (.iload_n 3, 1) := by decide +kernel
theorem dX4_putEntry_25 : decode cX4_putEntry 25 = .ok (.iastore, 1) := by decide +kernel
theorem dX4_putEntry_26 : decode cX4_putEntry 26 = .ok (.aload_n 0, 1) := by decide +kernel
theorem dX4_putEntry_27 : decode cX4_putEntry 27 = .ok (.getfield 18, 3) := by decide +kernel
theorem dX4_putEntry_30 : decode cX4_putEntry 30 = .ok (.iload 5, 2) := by decide +kernel
theorem dX4_putEntry_32 : decode cX4_putEntry 32 = .ok (.iload 4, 2) := by decide +kernel
theorem dX4_putEntry_34 : decode cX4_putEntry 34 = .ok (.iastore, 1) := by decide +kernel
theorem dX4_putEntry_35 : decode cX4_putEntry 35 = .ok (.return_, 1) := by decide +kernel
set_option maxRecDepth 20000 in
theorem ggX4_sourceAt_X9_within : GoodIn wsX4_sourceAt wsX9_within := goodIn_r _ [4] (by decide +kernel) (by decide +kernel)
set_option maxRecDepth 20000 in
theorem gX4_sourceAt_X9_within_n27 : GoodIn wsX4_sourceAt (wsX9_within) := ggX4_sourceAt_X9_within
theorem dX4_sourceAt_0 : decode cX4_sourceAt 0 = .ok (.iload_n 1, 1) := by decide +kernel
theorem dX4_sourceAt_1 : decode cX4_sourceAt 1 = .ok (.iconst 4, 1) := by decide +kernel
theorem dX4_sourceAt_2 : decode cX4_sourceAt 2 = .ok (.imul, 1) := by decide +kernel
theorem dX4_sourceAt_3 : decode cX4_sourceAt 3 = .ok (.iload_n 2, 1) := by decide +kernel
theorem dX4_sourceAt_4 : decode cX4_sourceAt 4 = .ok (.iadd, 1) := by decide +kernel
theorem dX4_sourceAt_5 : decode cX4_sourceAt 5 = .ok (.istore_n 3, 1) := by decide +kernel
theorem dX4_sourceAt_6 : decode cX4_sourceAt 6 = .ok (.iload_n 3, 1) := by decide +kernel
theorem dX4_sourceAt_7 : decode cX4_sourceAt 7 = .ok (.iconst 0, 1) := by decide +kernel
theorem dX4_sourceAt_8 : decode cX4_sourceAt 8 = .ok (.bipush 23, 2) := by decide +kernel
theorem dX4_sourceAt_10 : decode cX4_sourceAt 10 = .ok (.invokestatic 27, 3) := by decide +kernel
theorem dX4_sourceAt_13 : decode cX4_sourceAt 13 = .ok (.ifCond .eq 12, 3) := by decide +kernel
theorem dX4_sourceAt_16 : decode cX4_sourceAt 16 = .ok (.aload_n 0, 1) := by decide +kernel
theorem dX4_sourceAt_17 : decode cX4_sourceAt 17 = .ok (.getfield 15, 3) := by decide +kernel
theorem dX4_sourceAt_20 : decode cX4_sourceAt 20 = .ok (.iload_n 3, 1) := by decide +kernel
theorem dX4_sourceAt_21 : decode cX4_sourceAt 21 = .ok (.iaload, 1) := by decide +kernel
theorem dX4_sourceAt_22 : decode cX4_sourceAt 22 = .ok (.goto 4, 3) := by decide +kernel
theorem dX4_sourceAt_25 : decode cX4_sourceAt 25 = .ok (.iconst (-1), 1) := by decide +kernel
theorem dX4_sourceAt_26 : decode cX4_sourceAt 26 = .ok (.ireturn, 1) := by decide +kernel
set_option maxRecDepth 20000 in
theorem ggX4_constantAt_X9_within : GoodIn wsX4_constantAt wsX9_within := goodIn_r _ [4] (by decide +kernel) (by decide +kernel)
set_option maxRecDepth 20000 in
theorem gX4_constantAt_X9_within_n27 : GoodIn wsX4_constantAt (wsX9_within) := ggX4_constantAt_X9_within
theorem dX4_constantAt_0 : decode cX4_constantAt 0 = .ok (.iload_n 1, 1) := by decide +kernel
theorem dX4_constantAt_1 : decode cX4_constantAt 1 = .ok (.iconst 4, 1) := by decide +kernel
theorem dX4_constantAt_2 : decode cX4_constantAt 2 = .ok (.imul, 1) := by decide +kernel
theorem dX4_constantAt_3 : decode cX4_constantAt 3 = .ok (.iload_n 2, 1) := by decide +kernel
theorem dX4_constantAt_4 : decode cX4_constantAt 4 = .ok (.iadd, 1) := by decide +kernel
theorem dX4_constantAt_5 : decode cX4_constantAt 5 = .ok (.istore_n 3, 1) := by decide +kernel
theorem dX4_constantAt_6 : decode cX4_constantAt 6 = .ok (.iload_n 3, 1) := by decide +kernel
theorem dX4_constantAt_7 : decode cX4_constantAt 7 = .ok (.iconst 0, 1) := by decide +kernel
theorem dX4_constantAt_8 : decode cX4_constantAt 8 = .ok (.bipush 23, 2) := by decide +kernel
theorem dX4_constantAt_10 : decode cX4_constantAt 10 = .ok (.invokestatic 27, 3) := by decide +kernel
theorem dX4_constantAt_13 : decode cX4_constantAt 13 = .ok (.ifCond .eq 12, 3) := by decide +kernel
theorem dX4_constantAt_16 : decode cX4_constantAt 16 = .ok (.aload_n 0, 1) := by decide +kernel
theorem dX4_constantAt_17 : decode cX4_constantAt 17 = .ok (.getfield 18, 3) := by decide +kernel
theorem dX4_constantAt_20 : decode cX4_constantAt 20 = .ok (.iload_n 3, 1) := by decide +kernel
theorem dX4_constantAt_21 : decode cX4_constantAt 21 = .ok (.iaload, 1) := by decide +kernel
theorem dX4_constantAt_22 : decode cX4_constantAt 22 = .ok (.goto 4, 3) := by decide +kernel
theorem dX4_constantAt_25 : decode cX4_constantAt 25 = .ok (.iconst 0, 1) := by decide +kernel
theorem dX4_constantAt_26 : decode cX4_constantAt 26 = .ok (.ireturn, 1) := by decide +kernel
theorem dX4_copyFrom_0 : decode cX4_copyFrom 0 = .ok (.aload_n 1, 1) := by decide +kernel
theorem dX4_copyFrom_1 : decode cX4_copyFrom 1 = .ok (.getfield 9, 3) := by decide +kernel
theorem dX4_copyFrom_4 : decode cX4_copyFrom 4 = .ok (.iconst 0, 1) := by decide +kernel
theorem dX4_copyFrom_5 : decode cX4_copyFrom 5 = .ok (.aload_n 0, 1) := by decide +kernel
theorem dX4_copyFrom_6 : decode cX4_copyFrom 6 = .ok (.getfield 9, 3) := by decide +kernel
theorem dX4_copyFrom_9 : decode cX4_copyFrom 9 = .ok (.iconst 0, 1) := by decide +kernel
theorem dX4_copyFrom_10 : decode cX4_copyFrom 10 = .ok (.bipush 6, 2) := by decide +kernel
theorem dX4_copyFrom_12 : decode cX4_copyFrom 12 = .ok (.invokestatic 35, 3) := by decide +kernel
theorem dX4_copyFrom_15 : decode cX4_copyFrom 15 = .ok (.aload_n 1, 1) := by decide +kernel
theorem dX4_copyFrom_16 : decode cX4_copyFrom 16 = .ok (.getfield 15, 3) := by decide +kernel
theorem dX4_copyFrom_19 : decode cX4_copyFrom 19 = .ok (.iconst 0, 1) := by decide +kernel
theorem dX4_copyFrom_20 : decode cX4_copyFrom 20 = .ok (.aload_n 0, 1) := by decide +kernel
theorem dX4_copyFrom_21 : decode cX4_copyFrom 21 = .ok (.getfield 15, 3) := by decide +kernel
theorem dX4_copyFrom_24 : decode cX4_copyFrom 24 = .ok (.iconst 0, 1) := by decide +kernel
theorem dX4_copyFrom_25 : decode cX4_copyFrom 25 = .ok (.bipush 24, 2) := by decide +kernel
theorem dX4_copyFrom_27 : decode cX4_copyFrom 27 = .ok (.invokestatic 35, 3) := by decide +kernel
theorem dX4_copyFrom_30 : decode cX4_copyFrom 30 = .ok (.aload_n 1, 1) := by decide +kernel
theorem dX4_copyFrom_31 : decode cX4_copyFrom 31 = .ok (.getfield 18, 3) := by decide +kernel
theorem dX4_copyFrom_34 : decode cX4_copyFrom 34 = .ok (.iconst 0, 1) := by decide +kernel
theorem dX4_copyFrom_35 : decode cX4_copyFrom 35 = .ok (.aload_n 0, 1) := by decide +kernel
theorem dX4_copyFrom_36 : decode cX4_copyFrom 36 = .ok (.getfield 18, 3) := by decide +kernel
theorem dX4_copyFrom_39 : decode cX4_copyFrom 39 = .ok (.iconst 0, 1) := by decide +kernel
theorem dX4_copyFrom_40 : decode cX4_copyFrom 40 = .ok (.bipush 24, 2) := by decide +kernel
theorem dX4_copyFrom_42 : decode cX4_copyFrom 42 = .ok (.invokestatic 35, 3) := by decide +kernel
theorem dX4_copyFrom_45 : decode cX4_copyFrom 45 = .ok (.return_, 1) := by decide +kernel
set_option maxRecDepth 20000 in
theorem ggX5_init_X6_init : GoodIn wsX5_init wsX6_init := goodIn_r _ [13, 14, 2, 3, 15, 8, 16, 17, 18, 19, 20, 21, 22] (by decide +kernel) (by decide +kernel)
set_option maxRecDepth 20000 in
theorem gX5_init_X6_init_n11 : GoodIn wsX5_init (wsX6_init) := ggX5_init_X6_init
theorem dX5_init_0 : decode cX5_init 0 = .ok (.aload_n 0, 1) := by decide +kernel
theorem dX5_init_1 : decode cX5_init 1 = .ok (.invokespecial 3, 3) := by decide +kernel
theorem dX5_init_4 : decode cX5_init 4 = .ok (.aload_n 0, 1) := by decide +kernel
theorem dX5_init_5 : decode cX5_init 5 = .ok (.new 9, 3) := by decide +kernel
theorem dX5_init_8 : decode cX5_init 8 = .ok (.dup, 1) := by decide +kernel
theorem dX5_init_9 : decode cX5_init 9 = .ok (.invokespecial 11, 3) := by decide +kernel
theorem dX5_init_12 : decode cX5_init 12 = .ok (.putfield 12, 3) := by decide +kernel
theorem dX5_init_15 : decode cX5_init 15 = .ok (.aload_n 0, 1) := by decide +kernel
theorem dX5_init_16 : decode cX5_init 16 = .ok (.iconst 4, 1) := by decide +kernel
theorem dX5_init_17 : decode cX5_init 17 = .ok (.newarray .int, 2) := by decide +kernel
theorem dX5_init_19 : decode cX5_init 19 = .ok (.putfield 18, 3) := by decide +kernel
theorem dX5_init_22 : decode cX5_init 22 = .ok (.aload_n 0, 1) := by decide +kernel
theorem dX5_init_23 : decode cX5_init 23 = .ok (.iconst 3, 1) := by decide +kernel
theorem dX5_init_24 : decode cX5_init 24 = .ok (.newarray .boolean, 2) := by decide +kernel
theorem dX5_init_26 : decode cX5_init 26 = .ok (.putfield 22, 3) := by decide +kernel
theorem dX5_init_29 : decode cX5_init 29 = .ok (.return_, 1) := by decide +kernel
set_option maxRecDepth 20000 in
theorem ggX5_treatFrom_X5_treatArguments : GoodIn wsX5_treatFrom wsX5_treatArguments := goodIn_r _ [190, 1, 14, 191, 192, 193, 8, 0, 2, 3, 4, 5, 6, 7, 9, 10, 11, 12, 13, 15, 16, 17, 18, 19, 20, 21, 22, 23, 24, 25, 26, 27, 28, 29, 30, 31, 32, 33, 34, 35, 36, 37, 38, 39, 40, 41, 42, 43, 44, 45, 46, 47, 48, 49, 50, 51, 52, 53, 54, 55, 56, 57, 58, 59, 60, 61, 62, 63, 64, 65, 66, 67, 68, 69, 70, 71, 72, 73, 74, 75, 76, 77, 78, 79, 80, 81, 82, 83, 84, 85, 86, 87, 88, 89, 90, 91, 92, 93, 94, 95, 96, 97, 98, 99, 100, 101, 102, 103, 104, 105, 106, 107, 108, 109, 110, 111, 112, 113, 114, 115, 116, 117, 118, 119, 120, 121, 122, 123, 124, 125, 126, 127, 128, 129, 130, 131, 132, 133, 134, 135, 136, 137, 138, 139, 140, 141, 142, 143, 144, 145, 146, 147, 148, 149, 150, 151, 152, 153, 154, 155, 156, 157, 158, 159, 160, 161, 162, 163, 164, 165, 166, 167, 168, 169, 170, 171, 172, 173, 174, 175, 176, 177, 178, 179, 180, 181, 182, 183, 184, 185, 186, 187, 188, 189, 194, 195, 196, 197, 198, 199, 200, 201, 202, 203, 204, 205, 206, 207, 208, 209, 210, 211, 212, 213, 214, 215, 216] (by decide +kernel) (by decide +kernel)
set_option maxRecDepth 20000 in
theorem gX5_treatFrom_X5_treatArguments : GoodIn wsX5_treatFrom (wsV RX5 35 RX5 yX5_treatArguments wsX5_treatArguments) := goodIn_app (goodIn_of _ (by decide +kernel)) ggX5_treatFrom_X5_treatArguments
set_option maxRecDepth 20000 in
theorem ggX5_treatFrom_X5_replaceOrReason : GoodIn wsX5_treatFrom wsX5_replaceOrReason := goodIn_r _ [12, 1, 13, 14, 15, 16, 17, 18, 19, 20, 21, 22, 23, 24, 25, 26, 27, 28, 29, 30, 31, 32, 33, 34, 35, 36, 37, 38, 39, 40, 41, 42, 43, 44, 45, 46, 47, 48, 49, 50, 51, 52, 53, 54, 55, 56, 57, 58, 59, 60, 61, 62, 63, 64, 65, 66, 67, 68, 69, 70, 71, 72, 73, 74, 75, 76, 77, 78, 8, 79, 3, 80, 81, 82, 83, 84, 85, 86, 87, 88, 89, 90, 91, 92, 93, 94, 95, 96, 97, 98, 99, 100, 101, 102, 103, 104, 105, 106, 107, 108, 109, 110, 111, 112, 113, 114, 115, 116, 117, 118, 119, 120, 121, 122, 123, 124, 125, 126, 127, 128, 129, 130, 131, 132, 133, 134, 135, 136, 137, 138, 139, 140, 141, 142, 143, 144, 145, 146, 147, 148, 149, 150, 151, 152, 153, 154, 155, 156, 157, 158, 159, 160, 161, 162, 163, 2, 164, 165, 166, 167, 168, 169, 170, 171, 172, 173, 174, 175, 176, 177, 178, 179, 180, 181, 182, 183, 184, 185, 186, 187, 188, 189, 194, 195, 196, 197, 198, 199, 200, 201, 202, 203, 204, 205, 206, 207, 208, 209, 210, 211, 212, 213, 214, 215, 216] (by decide +kernel) (by decide +kernel)
set_option maxRecDepth 20000 in
theorem gX5_treatFrom_X5_replaceOrReason : GoodIn wsX5_treatFrom (wsV RX5 45 RX5 yX5_replaceOrReason wsX5_replaceOrReason) := goodIn_app (goodIn_of _ (by decide +kernel)) ggX5_treatFrom_X5_replaceOrReason
set_option maxRecDepth 20000 in
theorem ggX5_treatFrom_X6_endOf : GoodIn wsX5_treatFrom wsX6_endOf := goodIn_r _ [120, 121, 122, 24, 25, 26, 203, 204, 205, 206] (by decide +kernel) (by decide +kernel)
set_option maxRecDepth 20000 in
theorem gX5_treatFrom_X6_endOf : GoodIn wsX5_treatFrom (wsV RX5 49 RX6 yX6_endOf wsX6_endOf) := goodIn_app (goodIn_of _ (by decide +kernel)) ggX5_treatFrom_X6_endOf
theorem dX5_treatFrom_0 : decode cX5_treatFrom 0 = .ok (.aload_n 1, 1) := by decide +kernel
theorem dX5_treatFrom_1 : decode cX5_treatFrom 1 = .ok (.getfield 26, 3) := by decide +kernel
theorem dX5_treatFrom_4 : decode cX5_treatFrom 4 = .ok (.astore 4, 2) := by decide +kernel
theorem dX5_treatFrom_6 : decode cX5_treatFrom 6 = .ok (.iload_n 2, 1) := by decide +kernel
theorem dX5_treatFrom_7 : decode cX5_treatFrom 7 = .ok (.aload 4, 2) := by decide +kernel
theorem dX5_treatFrom_9 : decode cX5_treatFrom 9 = .ok (.getfield 31, 3) := by decide +kernel
theorem dX5_treatFrom_12 : decode cX5_treatFrom 12 = .ok (.if_icmp .ge 9, 3) := by decide +kernel
theorem dX5_treatFrom_15 : decode cX5_treatFrom 15 = .ok (.iload_n 3, 1) := by decide +kernel
theorem dX5_treatFrom_16 : decode cX5_treatFrom 16 = .ok (.bipush 30, 2) := by decide +kernel
theorem dX5_treatFrom_18 : decode cX5_treatFrom 18 = .ok (.if_icmp .lt 9, 3) := by decide +kernel
theorem dX5_treatFrom_21 : decode cX5_treatFrom 21 = .ok (.aload 4, 2) := by decide +kernel
theorem dX5_treatFrom_23 : decode cX5_treatFrom 23 = .ok (.getfield 31, 3) := by decide +kernel
theorem dX5_treatFrom_26 : decode cX5_treatFrom 26 = .ok (.ireturn, 1) := by decide +kernel
theorem dX5_treatFrom_27 : decode cX5_treatFrom 27 = .ok (.aload_n 0, 1) := by decide +kernel
theorem dX5_treatFrom_28 : decode cX5_treatFrom 28 = .ok (.aload_n 1, 1) := by decide +kernel
theorem dX5_treatFrom_29 : decode cX5_treatFrom 29 = .ok (.iload_n 2, 1) := by decide +kernel
theorem dX5_treatFrom_30 : decode cX5_treatFrom 30 = .ok (.iload_n 3, 1) := by decide +kernel
theorem dX5_treatFrom_31 : decode cX5_treatFrom 31 = .ok (.invokevirtual 35, 3) := by decide +kernel
theorem dX5_treatFrom_34 : decode cX5_treatFrom 34 = .ok (.aload 4, 2) := by decide +kernel
theorem dX5_treatFrom_36 : decode cX5_treatFrom 36 = .ok (.getfield 39, 3) := by decide +kernel
theorem dX5_treatFrom_39 : decode cX5_treatFrom 39 = .ok (.iload_n 2, 1) := by decide +kernel
theorem dX5_treatFrom_40 : decode cX5_treatFrom 40 = .ok (.iaload, 1) := by decide +kernel
theorem dX5_treatFrom_41 : decode cX5_treatFrom 41 = .ok (.iconst 2, 1) := by decide +kernel
theorem dX5_treatFrom_42 : decode cX5_treatFrom 42 = .ok (.if_icmp .ne 18, 3) := by decide +kernel
theorem dX5_treatFrom_45 : decode cX5_treatFrom 45 = .ok (.aload_n 1, 1) := by decide +kernel
theorem dX5_treatFrom_46 : decode cX5_treatFrom 46 = .ok (.getfield 42, 3) := by decide +kernel
theorem dX5_treatFrom_49 : decode cX5_treatFrom 49 = .ok (.aload_n 0, 1) := by decide +kernel
theorem dX5_treatFrom_50 : decode cX5_treatFrom 50 = .ok (.aload_n 1, 1) := by decide +kernel
theorem dX5_treatFrom_51 : decode cX5_treatFrom 51 = .ok (.iload_n 2, 1) := by decide +kernel
theorem dX5_treatFrom_52 : decode cX5_treatFrom 52 = .ok (.invokevirtual 45, 3) := by decide +kernel
theorem dX5_treatFrom_55 : decode cX5_treatFrom 55 = .ok (.dup2, 1) := by decide +kernel
theorem dX5_treatFrom_56 : decode cX5_treatFrom 56 = .ok (.iaload, 1) := by decide +kernel
theorem dX5_treatFrom_57 : decode cX5_treatFrom 57 = .ok (.iconst 1, 1) := by decide +kernel
theorem dX5_treatFrom_58 : decode cX5_treatFrom 58 = .ok (.iadd, 1) := by decide +kernel
theorem dX5_treatFrom_59 : decode cX5_treatFrom 59 = .ok (.iastore, 1) := by decide +kernel
theorem dX5_treatFrom_60 : decode cX5_treatFrom 60 = .ok (.aload 4, 2) := by decide +kernel
theorem dX5_treatFrom_62 : decode cX5_treatFrom 62 = .ok (.iload_n 2, 1) := by decide +kernel
theorem dX5_treatFrom_63 : decode cX5_treatFrom 63 = .ok (.invokevirtual 49, 3) := by decide +kernel
theorem dX5_treatFrom_66 : decode cX5_treatFrom 66 = .ok (.ireturn, 1) := by decide +kernel
set_option maxRecDepth 20000 in
theorem ggX5_treatArguments_X5_treatFrom : GoodIn wsX5_treatArguments wsX5_treatFrom := goodIn_r _ [7, 1, 8, 9, 10, 11, 12, 13, 6, 14, 15, 16, 17, 18, 2, 19, 20, 21, 22, 23, 24, 25, 26, 27, 28, 29, 30, 31, 32, 33, 34, 35, 36, 37, 38, 39, 40, 41, 42, 43, 44, 45, 46, 47, 48, 49, 50, 51, 52, 53, 54, 55, 56, 57, 58, 59, 60, 61, 62, 63, 64, 65, 66, 67, 68, 69, 70, 71, 72, 73, 74, 75, 76, 77, 78, 79, 80, 81, 82, 83, 84, 85, 86, 87, 88, 89, 90, 91, 92, 93, 94, 95, 96, 97, 98, 99, 100, 101, 102, 103, 104, 105, 106, 107, 108, 109, 110, 111, 112, 113, 114, 115, 116, 117, 118, 119, 120, 121, 122, 123, 124, 125, 126, 127, 128, 129, 130, 131, 132, 133, 134, 135, 136, 137, 138, 139, 140, 141, 142, 143, 144, 145, 146, 147, 148, 149, 150, 151, 152, 153, 154, 155, 156, 157, 158, 159, 160, 161, 162, 163, 164, 165, 166, 167, 168, 169, 170, 171, 172, 173, 174, 175, 176, 177, 178, 179, 180, 181, 182, 183, 184, 185, 186, 187, 188, 189, 190, 191, 192, 193, 0, 3, 4, 5, 194, 195, 196, 197, 198, 199, 200, 201, 202, 203, 204, 205, 206, 207, 208, 209, 210, 211, 212, 213, 214, 215, 216] (by decide +kernel) (by decide +kernel)
set_option maxRecDepth 20000 in
theorem gX5_treatArguments_X5_treatFrom : GoodIn wsX5_treatArguments (wsV RX5 56 RX5 yX5_treatFrom wsX5_treatFrom) := goodIn_app (goodIn_of _ (by decide +kernel)) ggX5_treatArguments_X5_treatFrom
theorem dX5_treatArguments_0 : decode cX5_treatArguments 0 = .ok (.aload_n 1, 1) := by decide +kernel
theorem dX5_treatArguments_1 : decode cX5_treatArguments 1 = .ok (.getfield 26, 3) := by decide +kernel
theorem dX5_treatArguments_4 : decode cX5_treatArguments 4 = .ok (.getfield 53, 3) := by decide +kernel
theorem dX5_treatArguments_7 : decode cX5_treatArguments 7 = .ok (.iload_n 2, 1) := by decide +kernel
theorem dX5_treatArguments_8 : decode cX5_treatArguments 8 = .ok (.iaload, 1) := by decide +kernel
theorem dX5_treatArguments_9 : decode cX5_treatArguments 9 = .ok (.istore 4, 2) := by decide +kernel
theorem dX5_treatArguments_11 : decode cX5_treatArguments 11 = .ok (.iload_n 2, 1) := by decide +kernel
theorem dX5_treatArguments_12 : decode cX5_treatArguments 12 = .ok (.iconst 1, 1) := by decide +kernel
theorem dX5_treatArguments_13 : decode cX5_treatArguments 13 = .ok (.iadd, 1) := by decide +kernel
theorem dX5_treatArguments_14 : decode cX5_treatArguments 14 = .ok (.istore 5, 2) := by decide +kernel
theorem dX5_treatArguments_16 : decode cX5_treatArguments 16 = .ok (.iconst 0, 1) := by decide +kernel
theorem dX5_treatArguments_17 : decode cX5_treatArguments 17 = .ok (.istore 6, 2) := by decide +kernel
theorem dX5_treatArguments_19 : decode cX5_treatArguments 19 = .ok (.iload 6, 2) := by decide +kernel
theorem dX5_treatArguments_21 : decode cX5_treatArguments 21 = .ok (.iload 4, 2) := by decide +kernel
theorem dX5_treatArguments_23 : decode cX5_treatArguments 23 = .ok (.if_icmp .ge 21, 3) := by decide +kernel
theorem dX5_treatArguments_26 : decode cX5_treatArguments 26 = .ok (.aload_n 0, 1) := by decide +kernel
theorem dX5_treatArguments_27 : decode cX5_treatArguments 27 = .ok (.aload_n 1, 1) := by decide +kernel
theorem dX5_treatArguments_28 : decode cX5_treatArguments 28 = .ok (.iload 5, 2) := by decide +kernel
theorem dX5_treatArguments_30 : decode cX5_treatArguments 30 = .ok (.iload_n 3, 1) := by decide +kernel
theorem dX5_treatArguments_31 : decode cX5_treatArguments 31 = .ok (.iconst 1, 1) := by decide +kernel
theorem dX5_treatArguments_32 : decode cX5_treatArguments 32 = .ok (.iadd, 1) := by decide +kernel
theorem dX5_treatArguments_33 : decode cX5_treatArguments 33 = .ok (.invokevirtual 56, 3) := by decide +kernel
theorem dX5_treatArguments_36 : decode cX5_treatArguments 36 = .ok (.istore 5, 2) := by decide +kernel
theorem dX5_treatArguments_38 : decode cX5_treatArguments 38 = .ok (.iinc 6 1, 3) := by decide +kernel
theorem dX5_treatArguments_41 : decode cX5_treatArguments 41 = .ok (.goto (-22), 3) := by decide +kernel
theorem dX5_treatArguments_44 : decode cX5_treatArguments 44 = .ok (.return_, 1) := by decide +kernel
set_option maxRecDepth 20000 in
theorem ggX5_replaceOrReason_X1_arityOf : GoodIn wsX5_replaceOrReason wsX1_arityOf := goodIn_r _ [10, 11, 12, 13, 14, 15, 195, 196, 197, 198] (by decide +kernel) (by decide +kernel)
set_option maxRecDepth 20000 in
theorem gX5_replaceOrReason_X1_arityOf : GoodIn wsX5_replaceOrReason (wsV RX5 67 RX1 yX1_arityOf wsX1_arityOf) := goodIn_app (goodIn_of _ (by decide +kernel)) ggX5_replaceOrReason_X1_arityOf
set_option maxRecDepth 20000 in
theorem ggX5_replaceOrReason_X8_keepsMeaning : GoodIn wsX5_replaceOrReason wsX8_keepsMeaning := goodIn_r _ [20, 21, 22, 23, 24, 19, 25, 26, 27, 28, 29, 30, 31, 32, 13, 14, 15, 33, 7, 8, 9, 10, 11, 12, 34, 35, 36, 37, 38, 39, 40, 41, 42, 43, 44, 45, 46, 47, 48, 49, 50, 51, 52, 53, 54, 55, 56, 57, 58, 59, 60, 61, 62, 63, 64, 182, 183, 184, 185, 186, 187, 188, 189, 190, 199, 200, 201, 195, 196, 197, 198] (by decide +kernel) (by decide +kernel)
set_option maxRecDepth 20000 in
theorem gX5_replaceOrReason_X8_keepsMeaning : GoodIn wsX5_replaceOrReason (wsV RX5 72 RX8 yX8_keepsMeaning wsX8_keepsMeaning) := goodIn_app (goodIn_of _ (by decide +kernel)) ggX5_replaceOrReason_X8_keepsMeaning
set_option maxRecDepth 20000 in
theorem ggX5_replaceOrReason_X5_adaptOrReason : GoodIn wsX5_replaceOrReason wsX5_adaptOrReason := goodIn_r _ [69, 1, 70, 2, 5, 71, 72, 73, 19, 74, 75, 76, 77, 78, 79, 80, 81, 13, 14, 15, 82, 83, 84, 85, 86, 38, 87, 88, 89, 9, 90, 11, 12, 91, 52, 92, 93, 94, 95, 96, 28, 29, 30, 31, 32, 182, 183, 184, 185, 186, 187, 188, 189, 190, 191, 192, 193, 194, 195, 196, 197, 198, 199, 200, 201] (by decide +kernel) (by decide +kernel)
set_option maxRecDepth 20000 in
theorem gX5_replaceOrReason_X5_adaptOrReason : GoodIn wsX5_replaceOrReason (wsV RX5 76 RX5 yX5_adaptOrReason wsX5_adaptOrReason) := goodIn_app (goodIn_of _ (by decide +kernel)) ggX5_replaceOrReason_X5_adaptOrReason
set_option maxRecDepth 20000 in
theorem ggX5_replaceOrReason_X5_findArguments : GoodIn wsX5_replaceOrReason wsX5_findArguments := goodIn_r _ [100, 1, 3, 101, 102, 103, 104, 105, 106, 107, 108, 109, 110, 111, 112, 113, 13, 14, 15, 114, 115, 116, 19, 117, 118, 119, 120, 121, 122, 123, 124, 125, 126, 127, 128, 129, 130, 38, 26, 86, 131, 132, 133, 9, 134, 11, 91, 182, 183, 184, 185, 186, 187, 188, 189, 190, 191, 192, 193, 194, 202, 203, 204, 195, 196, 197, 198] (by decide +kernel) (by decide +kernel)
set_option maxRecDepth 20000 in
theorem gX5_replaceOrReason_X5_findArguments : GoodIn wsX5_replaceOrReason (wsV RX5 79 RX5 yX5_findArguments wsX5_findArguments) := goodIn_app (goodIn_of _ (by decide +kernel)) ggX5_replaceOrReason_X5_findArguments
set_option maxRecDepth 20000 in
theorem ggX5_replaceOrReason_X8_usedEntries : GoodIn wsX5_replaceOrReason wsX8_usedEntries := goodIn_r _ [25, 26, 21, 27, 28, 29, 30, 31, 32, 13, 14, 15, 33, 7, 8, 9, 10, 11, 12, 182, 183, 184, 185, 186, 187, 188, 189, 190, 199, 200, 201, 195, 196, 197, 198] (by decide +kernel) (by decide +kernel)
set_option maxRecDepth 20000 in
theorem gX5_replaceOrReason_X8_usedEntries : GoodIn wsX5_replaceOrReason (wsV RX5 83 RX8 yX8_usedEntries wsX8_usedEntries) := goodIn_app (goodIn_of _ (by decide +kernel)) ggX5_replaceOrReason_X8_usedEntries
set_option maxRecDepth 20000 in
theorem ggX5_replaceOrReason_X5_effectReason : GoodIn wsX5_replaceOrReason wsX5_effectReason := goodIn_r _ [139, 106, 140, 141, 68, 142, 143, 40, 41, 30, 42, 43, 13, 14, 15, 144, 145, 146, 147, 148, 149, 150, 202, 203, 204, 199, 200, 201] (by decide +kernel) (by decide +kernel)
set_option maxRecDepth 20000 in
theorem gX5_replaceOrReason_X5_effectReason : GoodIn wsX5_replaceOrReason (wsV RX5 90 RX5 yX5_effectReason wsX5_effectReason) := goodIn_app (goodIn_of _ (by decide +kernel)) ggX5_replaceOrReason_X5_effectReason
set_option maxRecDepth 20000 in
theorem ggX5_replaceOrReason_X5_sizeAfterReplacing : GoodIn wsX5_replaceOrReason wsX5_sizeAfterReplacing := goodIn_r _ [154, 1, 155, 5, 105, 107, 108, 109, 110, 111, 112, 113, 13, 14, 15, 143, 40, 41, 30, 42, 43, 148, 149, 150, 182, 183, 184, 185, 186, 187, 188, 189, 190, 191, 192, 193, 194, 202, 203, 204, 199, 200, 201] (by decide +kernel) (by decide +kernel)
set_option maxRecDepth 20000 in
theorem gX5_replaceOrReason_X5_sizeAfterReplacing : GoodIn wsX5_replaceOrReason (wsV RX5 94 RX5 yX5_sizeAfterReplacing wsX5_sizeAfterReplacing) := goodIn_app (goodIn_of _ (by decide +kernel)) ggX5_replaceOrReason_X5_sizeAfterReplacing
set_option maxRecDepth 20000 in
theorem ggX5_replaceOrReason_X5_replaceSite : GoodIn wsX5_replaceOrReason wsX5_replaceSite := goodIn_r _ [159, 160, 155, 5, 1, 105, 96, 28, 29, 30, 31, 32, 13, 14, 15, 161, 162, 163, 110, 164, 112, 165, 166, 113, 143, 40, 41, 42, 43, 148, 149, 150, 167, 168, 169, 170, 171, 119, 103, 120, 172, 173, 57, 58, 59, 60, 107, 108, 109, 111, 174, 175, 176, 177, 178, 179, 180, 181, 93, 94, 95, 202, 203, 204, 191, 192, 193, 194, 182, 183, 184, 185, 186, 187, 188, 189, 190, 199, 200, 201] (by decide +kernel) (by decide +kernel)
set_option maxRecDepth 20000 in
theorem gX5_replaceOrReason_X5_replaceSite : GoodIn wsX5_replaceOrReason (wsV RX5 98 RX5 yX5_replaceSite wsX5_replaceSite) := goodIn_app (goodIn_of _ (by decide +kernel)) ggX5_replaceOrReason_X5_replaceSite
theorem dX5_replaceOrReason_0 : decode cX5_replaceOrReason 0 = .ok (.aload_n 1, 1) := by decide +kernel
theorem dX5_replaceOrReason_1 : decode cX5_replaceOrReason 1 = .ok (.getfield 26, 3) := by decide +kernel
theorem dX5_replaceOrReason_4 : decode cX5_replaceOrReason 4 = .ok (.astore_n 3, 1) := by decide +kernel
theorem dX5_replaceOrReason_5 : decode cX5_replaceOrReason 5 = .ok (.aload_n 3, 1) := by decide +kernel
theorem dX5_replaceOrReason_6 : decode cX5_replaceOrReason 6 = .ok (.getfield 60, 3) := by decide +kernel
theorem dX5_replaceOrReason_9 : decode cX5_replaceOrReason 9 = .ok (.iload_n 2, 1) := by decide +kernel
theorem dX5_replaceOrReason_10 : decode cX5_replaceOrReason 10 = .ok (.iaload, 1) := by decide +kernel
theorem dX5_replaceOrReason_11 : decode cX5_replaceOrReason 11 = .ok (.istore 4, 2) := by decide +kernel
theorem dX5_replaceOrReason_13 : decode cX5_replaceOrReason 13 = .ok (.aload_n 3, 1) := by decide +kernel
theorem dX5_replaceOrReason_14 : decode cX5_replaceOrReason 14 = .ok (.getfield 53, 3) := by decide +kernel
theorem dX5_replaceOrReason_17 : decode cX5_replaceOrReason 17 = .ok (.iload_n 2, 1) := by decide +kernel
theorem dX5_replaceOrReason_18 : decode cX5_replaceOrReason 18 = .ok (.iaload, 1) := by decide +kernel
theorem dX5_replaceOrReason_19 : decode cX5_replaceOrReason 19 = .ok (.aload_n 1, 1) := by decide +kernel
theorem dX5_replaceOrReason_20 : decode cX5_replaceOrReason 20 = .ok (.getfield 63, 3) := by decide +kernel
theorem dX5_replaceOrReason_23 : decode cX5_replaceOrReason 23 = .ok (.iload 4, 2) := by decide +kernel
theorem dX5_replaceOrReason_25 : decode cX5_replaceOrReason 25 = .ok (.invokevirtual 67, 3) := by decide +kernel
theorem dX5_replaceOrReason_28 : decode cX5_replaceOrReason 28 = .ok (.if_icmp .eq 5, 3) := by decide +kernel
theorem dX5_replaceOrReason_31 : decode cX5_replaceOrReason 31 = .ok (.iconst 1, 1) := by decide +kernel
theorem dX5_replaceOrReason_32 : decode cX5_replaceOrReason 32 = .ok (.ireturn, 1) := by decide +kernel
theorem dX5_replaceOrReason_33 : decode cX5_replaceOrReason 33 = .ok (.aload_n 1, 1) := by decide +kernel
theorem dX5_replaceOrReason_34 : decode cX5_replaceOrReason 34 = .ok (.iload 4, 2) := by decide +kernel
theorem dX5_replaceOrReason_36 : decode cX5_replaceOrReason 36 = .ok (.invokevirtual 72, 3) := by decide +kernel
theorem dX5_replaceOrReason_39 : decode cX5_replaceOrReason 39 = .ok (.ifCond .ne 12, 3) := by decide +kernel
theorem dX5_replaceOrReason_42 : decode cX5_replaceOrReason 42 = .ok (.aload_n 0, 1) := by decide +kernel
theorem dX5_replaceOrReason_43 : decode cX5_replaceOrReason 43 = .ok (.aload_n 1, 1) := by decide +kernel
theorem dX5_replaceOrReason_44 : decode cX5_replaceOrReason 44 = .ok (.iload_n 2, 1) := by decide +kernel
theorem dX5_replaceOrReason_45 : decode cX5_replaceOrReason 45 = .ok (.iload 4, 2) := by decide +kernel
theorem dX5_replaceOrReason_47 : decode cX5_replaceOrReason 47 = .ok (.invokevirtual 76, 3) := by decide +kernel
theorem dX5_replaceOrReason_50 : decode cX5_replaceOrReason 50 = .ok (.ireturn, 1) := by decide +kernel
theorem dX5_replaceOrReason_51 : decode cX5_replaceOrReason 51 = .ok (.aload_n 0, 1) := by decide +kernel
theorem dX5_replaceOrReason_52 : decode cX5_replaceOrReason 52 = .ok (.aload_n 1, 1) := by decide +kernel
theorem dX5_replaceOrReason_53 : decode cX5_replaceOrReason 53 = .ok (.iload_n 2, 1) := by decide +kernel
theorem dX5_replaceOrReason_54 : decode cX5_replaceOrReason 54 = .ok (.invokevirtual 79, 3) := by decide +kernel
theorem dX5_replaceOrReason_57 : decode cX5_replaceOrReason 57 = .ok (.aload_n 1, 1) := by decide +kernel
theorem dX5_replaceOrReason_58 : decode cX5_replaceOrReason 58 = .ok (.iload 4, 2) := by decide +kernel
theorem dX5_replaceOrReason_60 : decode cX5_replaceOrReason 60 = .ok (.invokevirtual 83, 3) := by decide +kernel
theorem dX5_replaceOrReason_63 : decode cX5_replaceOrReason 63 = .ok (.istore 5, 2) := by decide +kernel
theorem dX5_replaceOrReason_65 : decode cX5_replaceOrReason 65 = .ok (.aload_n 0, 1) := by decide +kernel
theorem dX5_replaceOrReason_66 : decode cX5_replaceOrReason 66 = .ok (.aload_n 1, 1) := by decide +kernel
theorem dX5_replaceOrReason_67 : decode cX5_replaceOrReason 67 = .ok (.getfield 86, 3) := by decide +kernel
theorem dX5_replaceOrReason_70 : decode cX5_replaceOrReason 70 = .ok (.iload 4, 2) := by decide +kernel
theorem dX5_replaceOrReason_72 : decode cX5_replaceOrReason 72 = .ok (.iload 5, 2) := by decide +kernel
theorem dX5_replaceOrReason_74 : decode cX5_replaceOrReason 74 = .ok (.aload_n 3, 1) := by decide +kernel
theorem dX5_replaceOrReason_75 : decode cX5_replaceOrReason 75 = .ok (.getfield 53, 3) := by decide +kernel
theorem dX5_replaceOrReason_78 : decode cX5_replaceOrReason 78 = .ok (.iload_n 2, 1) := by decide +kernel
theorem dX5_replaceOrReason_79 : decode cX5_replaceOrReason 79 = .ok (.iaload, 1) := by decide +kernel
theorem dX5_replaceOrReason_80 : decode cX5_replaceOrReason 80 = .ok (.invokevirtual 90, 3) := by decide +kernel
theorem dX5_replaceOrReason_83 : decode cX5_replaceOrReason 83 = .ok (.istore 6, 2) := by decide +kernel
theorem dX5_replaceOrReason_85 : decode cX5_replaceOrReason 85 = .ok (.iload 6, 2) := by decide +kernel
theorem dX5_replaceOrReason_87 : decode cX5_replaceOrReason 87 = .ok (.ifCond .eq 6, 3) := by decide +kernel
theorem dX5_replaceOrReason_90 : decode cX5_replaceOrReason 90 = .ok (.iload 6, 2) := by decide +kernel
theorem dX5_replaceOrReason_92 : decode cX5_replaceOrReason 92 = .ok (.ireturn, 1) := by decide +kernel
theorem dX5_replaceOrReason_93 : decode cX5_replaceOrReason 93 = .ok (.aload_n 0, 1) := by decide +kernel
theorem dX5_replaceOrReason_94 : decode cX5_replaceOrReason 94 = .ok (.aload_n 1, 1) := by decide +kernel
theorem dX5_replaceOrReason_95 : decode cX5_replaceOrReason 95 = .ok (.iload_n 2, 1) := by decide +kernel
theorem dX5_replaceOrReason_96 : decode cX5_replaceOrReason 96 = .ok (.iload 4, 2) := by decide +kernel
theorem dX5_replaceOrReason_98 : decode cX5_replaceOrReason 98 = .ok (.iload 5, 2) := by decide +kernel
theorem dX5_replaceOrReason_100 : decode cX5_replaceOrReason 100 = .ok (.invokevirtual 94, 3) := by decide +kernel
theorem dX5_replaceOrReason_103 : decode cX5_replaceOrReason 103 = .ok (.bipush 30, 2) := by decide +kernel
theorem dX5_replaceOrReason_105 : decode cX5_replaceOrReason 105 = .ok (.if_icmp .le 6, 3) := by decide +kernel
theorem dX5_replaceOrReason_108 : decode cX5_replaceOrReason 108 = .ok (.bipush 7, 2) := by decide +kernel
theorem dX5_replaceOrReason_110 : decode cX5_replaceOrReason 110 = .ok (.ireturn, 1) := by decide +kernel
theorem dX5_replaceOrReason_111 : decode cX5_replaceOrReason 111 = .ok (.aload_n 0, 1) := by decide +kernel
theorem dX5_replaceOrReason_112 : decode cX5_replaceOrReason 112 = .ok (.aload_n 1, 1) := by decide +kernel
theorem dX5_replaceOrReason_113 : decode cX5_replaceOrReason 113 = .ok (.iload_n 2, 1) := by decide +kernel
theorem dX5_replaceOrReason_114 : decode cX5_replaceOrReason 114 = .ok (.iload 4, 2) := by decide +kernel
theorem dX5_replaceOrReason_116 : decode cX5_replaceOrReason 116 = .ok (.iload 5, 2) := by decide +kernel
theorem dX5_replaceOrReason_118 : decode cX5_replaceOrReason 118 = .ok (.invokevirtual 98, 3) := by decide +kernel
theorem dX5_replaceOrReason_121 : decode cX5_replaceOrReason 121 = .ok (.iconst 0, 1) := by decide +kernel
theorem dX5_replaceOrReason_122 : decode cX5_replaceOrReason 122 = .ok (.ireturn, 1) := by decide +kernel
set_option maxRecDepth 20000 in
theorem ggX5_adaptOrReason_X8_canUseAdapter : GoodIn wsX5_adaptOrReason wsX8_canUseAdapter := goodIn_r _ [9, 10, 11, 12, 13, 14, 8, 15, 16, 17, 18, 19, 45, 46, 47, 48, 49, 50, 51, 52, 53] (by decide +kernel) (by decide +kernel)
set_option maxRecDepth 20000 in
theorem gX5_adaptOrReason_X8_canUseAdapter : GoodIn wsX5_adaptOrReason (wsV RX5 102 RX8 yX8_canUseAdapter wsX8_canUseAdapter) := goodIn_app (goodIn_of _ (by decide +kernel)) ggX5_adaptOrReason_X8_canUseAdapter
set_option maxRecDepth 20000 in
theorem ggX5_adaptOrReason_X8_provideAdapter : GoodIn wsX5_adaptOrReason wsX8_provideAdapter := goodIn_r _ [23, 16, 24, 11, 25, 17, 18, 19, 26, 27, 28, 29, 30, 31, 32, 33, 34, 35, 36, 37, 38, 12, 13, 14, 8, 15, 45, 46, 47, 48, 49, 50, 51, 52, 53, 58, 59, 60, 61] (by decide +kernel) (by decide +kernel)
set_option maxRecDepth 20000 in
theorem gX5_adaptOrReason_X8_provideAdapter : GoodIn wsX5_adaptOrReason (wsV RX5 105 RX8 yX8_provideAdapter wsX8_provideAdapter) := goodIn_app (goodIn_of _ (by decide +kernel)) ggX5_adaptOrReason_X8_provideAdapter
set_option maxRecDepth 20000 in
theorem ggX5_adaptOrReason_X4_targetOf : GoodIn wsX5_adaptOrReason wsX4_targetOf := goodIn_r _ [43, 44, 17, 18, 19, 62, 63, 64] (by decide +kernel) (by decide +kernel)
set_option maxRecDepth 20000 in
theorem gX5_adaptOrReason_X4_targetOf : GoodIn wsX5_adaptOrReason (wsV RX5 108 RX4 yX4_targetOf wsX4_targetOf) := goodIn_app (goodIn_of _ (by decide +kernel)) ggX5_adaptOrReason_X4_targetOf
theorem dX5_adaptOrReason_0 : decode cX5_adaptOrReason 0 = .ok (.aload_n 1, 1) := by decide +kernel
theorem dX5_adaptOrReason_1 : decode cX5_adaptOrReason 1 = .ok (.iload_n 3, 1) := by decide +kernel
theorem dX5_adaptOrReason_2 : decode cX5_adaptOrReason 2 = .ok (.invokevirtual 102, 3) := by decide +kernel
theorem dX5_adaptOrReason_5 : decode cX5_adaptOrReason 5 = .ok (.ifCond .eq 29, 3) := by decide +kernel
theorem dX5_adaptOrReason_8 : decode cX5_adaptOrReason 8 = .ok (.aload_n 1, 1) := by decide +kernel
theorem dX5_adaptOrReason_9 : decode cX5_adaptOrReason 9 = .ok (.getfield 26, 3) := by decide +kernel
theorem dX5_adaptOrReason_12 : decode cX5_adaptOrReason 12 = .ok (.getfield 39, 3) := by decide +kernel
theorem dX5_adaptOrReason_15 : decode cX5_adaptOrReason 15 = .ok (.iload_n 2, 1) := by decide +kernel
theorem dX5_adaptOrReason_16 : decode cX5_adaptOrReason 16 = .ok (.iconst 4, 1) := by decide +kernel
theorem dX5_adaptOrReason_17 : decode cX5_adaptOrReason 17 = .ok (.iastore, 1) := by decide +kernel
theorem dX5_adaptOrReason_18 : decode cX5_adaptOrReason 18 = .ok (.aload_n 1, 1) := by decide +kernel
theorem dX5_adaptOrReason_19 : decode cX5_adaptOrReason 19 = .ok (.getfield 26, 3) := by decide +kernel
theorem dX5_adaptOrReason_22 : decode cX5_adaptOrReason 22 = .ok (.getfield 60, 3) := by decide +kernel
theorem dX5_adaptOrReason_25 : decode cX5_adaptOrReason 25 = .ok (.iload_n 2, 1) := by decide +kernel
theorem dX5_adaptOrReason_26 : decode cX5_adaptOrReason 26 = .ok (.aload_n 1, 1) := by decide +kernel
theorem dX5_adaptOrReason_27 : decode cX5_adaptOrReason 27 = .ok (.iload_n 3, 1) := by decide +kernel
theorem dX5_adaptOrReason_28 : decode cX5_adaptOrReason 28 = .ok (.invokevirtual 105, 3) := by decide +kernel
theorem dX5_adaptOrReason_31 : decode cX5_adaptOrReason 31 = .ok (.iastore, 1) := by decide +kernel
theorem dX5_adaptOrReason_32 : decode cX5_adaptOrReason 32 = .ok (.iconst 0, 1) := by decide +kernel
theorem dX5_adaptOrReason_33 : decode cX5_adaptOrReason 33 = .ok (.ireturn, 1) := by decide +kernel
theorem dX5_adaptOrReason_34 : decode cX5_adaptOrReason 34 = .ok (.aload_n 1, 1) := by decide +kernel
theorem dX5_adaptOrReason_35 : decode cX5_adaptOrReason 35 = .ok (.getfield 86, 3) := by decide +kernel
theorem dX5_adaptOrReason_38 : decode cX5_adaptOrReason 38 = .ok (.iload_n 3, 1) := by decide +kernel
theorem dX5_adaptOrReason_39 : decode cX5_adaptOrReason 39 = .ok (.invokevirtual 108, 3) := by decide +kernel
theorem dX5_adaptOrReason_42 : decode cX5_adaptOrReason 42 = .ok (.iconst (-1), 1) := by decide +kernel
theorem dX5_adaptOrReason_43 : decode cX5_adaptOrReason 43 = .ok (.if_icmp .ne 7, 3) := by decide +kernel
theorem dX5_adaptOrReason_46 : decode cX5_adaptOrReason 46 = .ok (.iconst 2, 1) := by decide +kernel
theorem dX5_adaptOrReason_47 : decode cX5_adaptOrReason 47 = .ok (.goto 4, 3) := by decide +kernel
theorem dX5_adaptOrReason_50 : decode cX5_adaptOrReason 50 = .ok (.iconst 3, 1) := by decide +kernel
theorem dX5_adaptOrReason_51 : decode cX5_adaptOrReason 51 = .ok (.ireturn, 1) := by decide +kernel
set_option maxRecDepth 20000 in
theorem ggX5_findArguments_X6_endOf : GoodIn wsX5_findArguments wsX6_endOf := goodIn_r _ [13, 14, 15, 16, 17, 18, 56, 57, 58, 59] (by decide +kernel) (by decide +kernel)
set_option maxRecDepth 20000 in
theorem gX5_findArguments_X6_endOf : GoodIn wsX5_findArguments (wsV RX5 49 RX6 yX6_endOf wsX6_endOf) := goodIn_app (goodIn_of _ (by decide +kernel)) ggX5_findArguments_X6_endOf
set_option maxRecDepth 20000 in
theorem ggX5_findArguments_X8_hasEffect : GoodIn wsX5_findArguments wsX8_hasEffect := goodIn_r _ [23, 24, 25, 5, 26, 27, 28, 29, 30, 31, 17, 32, 33, 34, 35, 22, 36, 37, 38, 39, 40, 41, 42, 43, 44, 45, 46, 16, 18, 47, 48, 49, 50, 51, 52, 53, 54, 55, 56, 57, 58, 59, 63, 64, 65, 66] (by decide +kernel) (by decide +kernel)
set_option maxRecDepth 20000 in
theorem gX5_findArguments_X8_hasEffect : GoodIn wsX5_findArguments (wsV RX5 119 RX8 yX8_hasEffect wsX8_hasEffect) := goodIn_app (goodIn_of _ (by decide +kernel)) ggX5_findArguments_X8_hasEffect
theorem dX5_findArguments_0 : decode cX5_findArguments 0 = .ok (.aload_n 1, 1) := by decide +kernel
theorem dX5_findArguments_1 : decode cX5_findArguments 1 = .ok (.getfield 26, 3) := by decide +kernel
theorem dX5_findArguments_4 : decode cX5_findArguments 4 = .ok (.getfield 53, 3) := by decide +kernel
theorem dX5_findArguments_7 : decode cX5_findArguments 7 = .ok (.iload_n 2, 1) := by decide +kernel
theorem dX5_findArguments_8 : decode cX5_findArguments 8 = .ok (.iaload, 1) := by decide +kernel
theorem dX5_findArguments_9 : decode cX5_findArguments 9 = .ok (.iconst 3, 1) := by decide +kernel
theorem dX5_findArguments_10 : decode cX5_findArguments 10 = .ok (.invokestatic 113, 3) := by decide +kernel
theorem dX5_findArguments_13 : decode cX5_findArguments 13 = .ok (.istore_n 3, 1) := by decide +kernel
theorem dX5_findArguments_14 : decode cX5_findArguments 14 = .ok (.aload_n 0, 1) := by decide +kernel
theorem dX5_findArguments_15 : decode cX5_findArguments 15 = .ok (.getfield 18, 3) := by decide +kernel
theorem dX5_findArguments_18 : decode cX5_findArguments 18 = .ok (.iconst 0, 1) := by decide +kernel
theorem dX5_findArguments_19 : decode cX5_findArguments 19 = .ok (.iload_n 2, 1) := by decide +kernel
theorem dX5_findArguments_20 : decode cX5_findArguments 20 = .ok (.iconst 1, 1) := by decide +kernel
theorem dX5_findArguments_21 : decode cX5_findArguments 21 = .ok (.iadd, 1) := by decide +kernel
theorem dX5_findArguments_22 : decode cX5_findArguments 22 = .ok (.iastore, 1) := by decide +kernel
theorem dX5_findArguments_23 : decode cX5_findArguments 23 = .ok (.iconst 0, 1) := by decide +kernel
theorem dX5_findArguments_24 : decode cX5_findArguments 24 = .ok (.istore 4, 2) := by decide +kernel
theorem dX5_findArguments_26 : decode cX5_findArguments 26 = .ok (.iload 4, 2) := by decide +kernel
theorem dX5_findArguments_28 : decode cX5_findArguments 28 = .ok (.iload_n 3, 1) := by decide +kernel
theorem dX5_findArguments_29 : decode cX5_findArguments 29 = .ok (.if_icmp .ge 59, 3) := by decide +kernel
theorem dX5_findArguments_32 : decode cX5_findArguments 32 = .ok (.aload_n 0, 1) := by decide +kernel
theorem dX5_findArguments_33 : decode cX5_findArguments 33 = .ok (.getfield 18, 3) := by decide +kernel
theorem dX5_findArguments_36 : decode cX5_findArguments 36 = .ok (.iload 4, 2) := by decide +kernel
theorem dX5_findArguments_38 : decode cX5_findArguments 38 = .ok (.iconst 1, 1) := by decide +kernel
theorem dX5_findArguments_39 : decode cX5_findArguments 39 = .ok (.iadd, 1) := by decide +kernel
theorem dX5_findArguments_40 : decode cX5_findArguments 40 = .ok (.aload_n 1, 1) := by decide +kernel
theorem dX5_findArguments_41 : decode cX5_findArguments 41 = .ok (.getfield 26, 3) := by decide +kernel
theorem dX5_findArguments_44 : decode cX5_findArguments 44 = .ok (.aload_n 0, 1) := by decide +kernel
theorem dX5_findArguments_45 : decode cX5_findArguments 45 = .ok (.getfield 18, 3) := by decide +kernel
theorem dX5_findArguments_48 : decode cX5_findArguments 48 = .ok (.iload 4, 2) := by decide +kernel
theorem dX5_findArguments_50 : decode cX5_findArguments 50 = .ok (.iaload, 1) := by decide +kernel
theorem dX5_findArguments_51 : decode cX5_findArguments 51 = .ok (.invokevirtual 49, 3) := by decide +kernel
theorem dX5_findArguments_54 : decode cX5_findArguments 54 = .ok (.iastore, 1) := by decide +kernel
theorem dX5_findArguments_55 : decode cX5_findArguments 55 = .ok (.aload_n 0, 1) := by decide +kernel
theorem dX5_findArguments_56 : decode cX5_findArguments 56 = .ok (.getfield 22, 3) := by decide +kernel
theorem dX5_findArguments_59 : decode cX5_findArguments 59 = .ok (.iload 4, 2) := by decide +kernel
theorem dX5_findArguments_61 : decode cX5_findArguments 61 = .ok (.aload_n 1, 1) := by decide +kernel
theorem dX5_findArguments_62 : decode cX5_findArguments 62 = .ok (.aload_n 0, 1) := by decide +kernel
theorem dX5_findArguments_63 : decode cX5_findArguments 63 = .ok (.getfield 18, 3) := by decide +kernel
theorem dX5_findArguments_66 : decode cX5_findArguments 66 = .ok (.iload 4, 2) := by decide +kernel
theorem dX5_findArguments_68 : decode cX5_findArguments 68 = .ok (.iaload, 1) := by decide +kernel
theorem dX5_findArguments_69 : decode cX5_findArguments 69 = .ok (.aload_n 0, 1) := by decide +kernel
theorem dX5_findArguments_70 : decode cX5_findArguments 70 = .ok (.getfield 18, 3) := by decide +kernel
theorem dX5_findArguments_73 : decode cX5_findArguments 73 = .ok (.iload 4, 2) := by decide +kernel
theorem dX5_findArguments_75 : decode cX5_findArguments 75 = .ok (.iconst 1, 1) := by decide +kernel
theorem dX5_findArguments_76 : decode cX5_findArguments 76 = .ok (.iadd, 1) := by decide +kernel
theorem dX5_findArguments_77 : decode cX5_findArguments 77 = .ok (.iaload, 1) := by decide +kernel
theorem dX5_findArguments_78 : decode cX5_findArguments 78 = .ok (.invokevirtual 119, 3) := by decide +kernel
theorem dX5_findArguments_81 : decode cX5_findArguments 81 = .ok (.bastore, 1) := by decide +kernel
theorem dX5_findArguments_82 : decode cX5_findArguments 82 = .ok (.iinc 4 1, 3) := by decide +kernel
theorem dX5_findArguments_85 : decode cX5_findArguments 85 = .ok (.goto (-59), 3) := by decide +kernel
theorem dX5_findArguments_88 : decode cX5_findArguments 88 = .ok (.return_, 1) := by decide +kernel
set_option maxRecDepth 20000 in
theorem ggX5_effectReason_X5_countUses : GoodIn wsX5_effectReason wsX5_countUses := goodIn_r _ [5, 6, 7, 8, 9, 10, 11, 12, 13, 14, 25, 26, 27] (by decide +kernel) (by decide +kernel)
set_option maxRecDepth 20000 in
theorem gX5_effectReason_X5_countUses : GoodIn wsX5_effectReason (va_wsS RX5 123 yX5_countUses wsX5_countUses) := goodIn_app (goodIn_of _ (by decide +kernel)) ggX5_effectReason_X5_countUses
set_option maxRecDepth 20000 in
theorem ggX5_effectReason_X5_reordersEffects : GoodIn wsX5_effectReason wsX5_reordersEffects := goodIn_r _ [18, 1, 6, 7, 8, 9, 10, 11, 12, 13, 14, 19, 20, 21, 22, 23, 24, 25, 26, 27] (by decide +kernel) (by decide +kernel)
set_option maxRecDepth 20000 in
theorem gX5_effectReason_X5_reordersEffects : GoodIn wsX5_effectReason (wsV RX5 126 RX5 yX5_reordersEffects wsX5_reordersEffects) := goodIn_app (goodIn_of _ (by decide +kernel)) ggX5_effectReason_X5_reordersEffects
theorem dX5_effectReason_0 : decode cX5_effectReason 0 = .ok (.iconst 0, 1) := by decide +kernel
theorem dX5_effectReason_1 : decode cX5_effectReason 1 = .ok (.istore 5, 2) := by decide +kernel
theorem dX5_effectReason_3 : decode cX5_effectReason 3 = .ok (.iconst 0, 1) := by decide +kernel
theorem dX5_effectReason_4 : decode cX5_effectReason 4 = .ok (.istore 6, 2) := by decide +kernel
theorem dX5_effectReason_6 : decode cX5_effectReason 6 = .ok (.iconst 0, 1) := by decide +kernel
theorem dX5_effectReason_7 : decode cX5_effectReason 7 = .ok (.istore 7, 2) := by decide +kernel
theorem dX5_effectReason_9 : decode cX5_effectReason 9 = .ok (.iload 7, 2) := by decide +kernel
theorem dX5_effectReason_11 : decode cX5_effectReason 11 = .ok (.iload 4, 2) := by decide +kernel
theorem dX5_effectReason_13 : decode cX5_effectReason 13 = .ok (.if_icmp .ge 80, 3) := by decide +kernel
theorem dX5_effectReason_16 : decode cX5_effectReason 16 = .ok (.iload 7, 2) := by decide +kernel
theorem dX5_effectReason_18 : decode cX5_effectReason 18 = .ok (.iconst 3, 1) := by decide +kernel
theorem dX5_effectReason_19 : decode cX5_effectReason 19 = .ok (.if_icmp .ge 74, 3) := by decide +kernel
theorem dX5_effectReason_22 : decode cX5_effectReason 22 = .ok (.aload_n 1, 1) := by decide +kernel
theorem dX5_effectReason_23 : decode cX5_effectReason 23 = .ok (.iload_n 2, 1) := by decide +kernel
theorem dX5_effectReason_24 : decode cX5_effectReason 24 = .ok (.iload_n 3, 1) := by decide +kernel
theorem dX5_effectReason_25 : decode cX5_effectReason 25 = .ok (.iload 7, 2) := by decide +kernel
theorem dX5_effectReason_27 : decode cX5_effectReason 27 = .ok (.invokestatic 123, 3) := by decide +kernel
theorem dX5_effectReason_30 : decode cX5_effectReason 30 = .ok (.istore 8, 2) := by decide +kernel
theorem dX5_effectReason_32 : decode cX5_effectReason 32 = .ok (.iload 5, 2) := by decide +kernel
theorem dX5_effectReason_34 : decode cX5_effectReason 34 = .ok (.ifCond .ne 19, 3) := by decide +kernel
theorem dX5_effectReason_37 : decode cX5_effectReason 37 = .ok (.aload_n 0, 1) := by decide +kernel
theorem dX5_effectReason_38 : decode cX5_effectReason 38 = .ok (.getfield 22, 3) := by decide +kernel
theorem dX5_effectReason_41 : decode cX5_effectReason 41 = .ok (.iload 7, 2) := by decide +kernel
theorem dX5_effectReason_43 : decode cX5_effectReason 43 = .ok (.baload, 1) := by decide +kernel
theorem dX5_effectReason_44 : decode cX5_effectReason 44 = .ok (.ifCond .eq 13, 3) := by decide +kernel
theorem dX5_effectReason_47 : decode cX5_effectReason 47 = .ok (.iload 8, 2) := by decide +kernel
theorem dX5_effectReason_49 : decode cX5_effectReason 49 = .ok (.iconst 1, 1) := by decide +kernel
theorem dX5_effectReason_50 : decode cX5_effectReason 50 = .ok (.if_icmp .le 7, 3) := by decide +kernel
theorem dX5_effectReason_53 : decode cX5_effectReason 53 = .ok (.iconst 1, 1) := by decide +kernel
theorem dX5_effectReason_54 : decode cX5_effectReason 54 = .ok (.goto 4, 3) := by decide +kernel
theorem dX5_effectReason_57 : decode cX5_effectReason 57 = .ok (.iconst 0, 1) := by decide +kernel
theorem dX5_effectReason_58 : decode cX5_effectReason 58 = .ok (.istore 5, 2) := by decide +kernel
theorem dX5_effectReason_60 : decode cX5_effectReason 60 = .ok (.iload 6, 2) := by decide +kernel
theorem dX5_effectReason_62 : decode cX5_effectReason 62 = .ok (.ifCond .ne 18, 3) := by decide +kernel
theorem dX5_effectReason_65 : decode cX5_effectReason 65 = .ok (.aload_n 0, 1) := by decide +kernel
theorem dX5_effectReason_66 : decode cX5_effectReason 66 = .ok (.getfield 22, 3) := by decide +kernel
theorem dX5_effectReason_69 : decode cX5_effectReason 69 = .ok (.iload 7, 2) := by decide +kernel
theorem dX5_effectReason_71 : decode cX5_effectReason 71 = .ok (.baload, 1) := by decide +kernel
theorem dX5_effectReason_72 : decode cX5_effectReason 72 = .ok (.ifCond .eq 12, 3) := by decide +kernel
theorem dX5_effectReason_75 : decode cX5_effectReason 75 = .ok (.iload 8, 2) := by decide +kernel
theorem dX5_effectReason_77 : decode cX5_effectReason 77 = .ok (.ifCond .ne 7, 3) := by decide +kernel
theorem dX5_effectReason_80 : decode cX5_effectReason 80 = .ok (.iconst 1, 1) := by decide +kernel
theorem dX5_effectReason_81 : decode cX5_effectReason 81 = .ok (.goto 4, 3) := by decide +kernel
theorem dX5_effectReason_84 : decode cX5_effectReason 84 = .ok (.iconst 0, 1) := by decide +kernel
theorem dX5_effectReason_85 : decode cX5_effectReason 85 = .ok (.istore 6, 2) := by decide +kernel
theorem dX5_effectReason_87 : decode cX5_effectReason 87 = .ok (.iinc 7 1, 3) := by decide +kernel
theorem dX5_effectReason_90 : decode cX5_effectReason 90 = .ok (.goto (-81), 3) := by decide +kernel
theorem dX5_effectReason_93 : decode cX5_effectReason 93 = .ok (.iload 5, 2) := by decide +kernel
theorem dX5_effectReason_95 : decode cX5_effectReason 95 = .ok (.ifCond .eq 5, 3) := by decide +kernel
theorem dX5_effectReason_98 : decode cX5_effectReason 98 = .ok (.iconst 4, 1) := by decide +kernel
theorem dX5_effectReason_99 : decode cX5_effectReason 99 = .ok (.ireturn, 1) := by decide +kernel
theorem dX5_effectReason_100 : decode cX5_effectReason 100 = .ok (.iload 6, 2) := by decide +kernel
theorem dX5_effectReason_102 : decode cX5_effectReason 102 = .ok (.ifCond .eq 5, 3) := by decide +kernel
theorem dX5_effectReason_105 : decode cX5_effectReason 105 = .ok (.iconst 5, 1) := by decide +kernel
theorem dX5_effectReason_106 : decode cX5_effectReason 106 = .ok (.ireturn, 1) := by decide +kernel
theorem dX5_effectReason_107 : decode cX5_effectReason 107 = .ok (.aload_n 0, 1) := by decide +kernel
theorem dX5_effectReason_108 : decode cX5_effectReason 108 = .ok (.aload_n 1, 1) := by decide +kernel
theorem dX5_effectReason_109 : decode cX5_effectReason 109 = .ok (.iload_n 2, 1) := by decide +kernel
theorem dX5_effectReason_110 : decode cX5_effectReason 110 = .ok (.iload_n 3, 1) := by decide +kernel
theorem dX5_effectReason_111 : decode cX5_effectReason 111 = .ok (.invokevirtual 126, 3) := by decide +kernel
theorem dX5_effectReason_114 : decode cX5_effectReason 114 = .ok (.ifCond .eq 8, 3) := by decide +kernel
theorem dX5_effectReason_117 : decode cX5_effectReason 117 = .ok (.bipush 6, 2) := by decide +kernel
