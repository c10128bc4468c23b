theorem dX5_finish_26 : decode cX5_finish 26 = .ok (.iconst 3, 1) := by decide +kernel
theorem dX5_finish_27 : decode cX5_finish 27 = .ok (.iaload, 1) := by decide +kernel
theorem dX5_finish_28 : decode cX5_finish 28 = .ok (.istore_n 3, 1) := by decide +kernel
theorem dX5_finish_29 : decode cX5_finish 29 = .ok (.aload_n 0, 1) := by decide +kernel
theorem dX5_finish_30 : decode cX5_finish 30 = .ok (.getfield 7, 3) := by decide +kernel
theorem dX5_finish_33 : decode cX5_finish 33 = .ok (.iconst 3, 1) := by decide +kernel
theorem dX5_finish_34 : decode cX5_finish 34 = .ok (.iaload, 1) := by decide +kernel
theorem dX5_finish_35 : decode cX5_finish 35 = .ok (.iconst 1, 1) := by decide +kernel
theorem dX5_finish_36 : decode cX5_finish 36 = .ok (.isub, 1) := by decide +kernel
theorem dX5_finish_37 : decode cX5_finish 37 = .ok (.istore 4, 2) := by decide +kernel
theorem dX5_finish_39 : decode cX5_finish 39 = .ok (.iload 4, 2) := by decide +kernel
theorem dX5_finish_41 : decode cX5_finish 41 = .ok (.ifCond .lt 41, 3) := by decide +kernel
theorem dX5_finish_44 : decode cX5_finish 44 = .ok (.aload_n 0, 1) := by decide +kernel
theorem dX5_finish_45 : decode cX5_finish 45 = .ok (.iload 4, 2) := by decide +kernel
theorem dX5_finish_47 : decode cX5_finish 47 = .ok (.iconst 0, 1) := by decide +kernel
theorem dX5_finish_48 : decode cX5_finish 48 = .ok (.invokevirtual 40, 3) := by decide +kernel
theorem dX5_finish_51 : decode cX5_finish 51 = .ok (.iload_n 1, 1) := by decide +kernel
theorem dX5_finish_52 : decode cX5_finish 52 = .ok (.if_icmp .ne 24, 3) := by decide +kernel
theorem dX5_finish_55 : decode cX5_finish 55 = .ok (.iload_n 2, 1) := by decide +kernel
theorem dX5_finish_56 : decode cX5_finish 56 = .ok (.ifCond .eq 12, 3) := by decide +kernel
theorem dX5_finish_59 : decode cX5_finish 59 = .ok (.aload_n 0, 1) := by decide +kernel
theorem dX5_finish_60 : decode cX5_finish 60 = .ok (.iload 4, 2) := by decide +kernel
theorem dX5_finish_62 : decode cX5_finish 62 = .ok (.invokevirtual 90, 3) := by decide +kernel
theorem dX5_finish_65 : decode cX5_finish 65 = .ok (.goto 11, 3) := by decide +kernel
theorem dX5_finish_68 : decode cX5_finish 68 = .ok (.aload_n 0, 1) := by decide +kernel
theorem dX5_finish_69 : decode cX5_finish 69 = .ok (.iload 4, 2) := by decide +kernel
theorem dX5_finish_71 : decode cX5_finish 71 = .ok (.bipush 23, 2) := by decide +kernel
theorem dX5_finish_73 : decode cX5_finish 73 = .ok (.invokevirtual 64, 3) := by decide +kernel
theorem dX5_finish_76 : decode cX5_finish 76 = .ok (.iinc 4 (-1), 3) := by decide +kernel
theorem dX5_finish_79 : decode cX5_finish 79 = .ok (.goto (-40), 3) := by decide +kernel
theorem dX5_finish_82 : decode cX5_finish 82 = .ok (.iload_n 3, 1) := by decide +kernel
theorem dX5_finish_83 : decode cX5_finish 83 = .ok (.aload_n 0, 1) := by decide +kernel
theorem dX5_finish_84 : decode cX5_finish 84 = .ok (.getfield 7, 3) := by decide +kernel
theorem dX5_finish_87 : decode cX5_finish 87 = .ok (.iconst 3, 1) := by decide +kernel
theorem dX5_finish_88 : decode cX5_finish 88 = .ok (.iaload, 1) := by decide +kernel
theorem dX5_finish_89 : decode cX5_finish 89 = .ok (.isub, 1) := by decide +kernel
theorem dX5_finish_90 : decode cX5_finish 90 = .ok (.ireturn, 1) := by decide +kernel
set_option maxRecDepth 20000 in
theorem ggX5_pass_X5_in : GoodIn wsX5_pass wsX5_in := goodIn_r _ [6] (by decide +kernel) (by decide +kernel)
set_option maxRecDepth 20000 in
theorem gX5_pass_X5_in : GoodIn wsX5_pass (va_wsS RX5 29 yX5_in wsX5_in) := goodIn_app (goodIn_of _ (by decide +kernel)) ggX5_pass_X5_in
set_option maxRecDepth 20000 in
theorem ggX5_pass_X5_fails : GoodIn wsX5_pass wsX5_fails := goodIn_r _ [10, 1, 25, 26, 27, 28, 29, 30, 31, 32, 33, 34, 35, 36] (by decide +kernel) (by decide +kernel)
set_option maxRecDepth 20000 in
theorem gX5_pass_X5_fails : GoodIn wsX5_pass (wsV RX5 36 RX5 yX5_fails wsX5_fails) := goodIn_app (goodIn_of _ (by decide +kernel)) ggX5_pass_X5_fails
set_option maxRecDepth 20000 in
theorem ggX5_pass_X5_saves : GoodIn wsX5_pass wsX5_saves := goodIn_r _ [14, 15, 16, 2, 25, 26, 27, 28, 29, 30, 31, 32, 33, 34, 35, 36] (by decide +kernel) (by decide +kernel)
set_option maxRecDepth 20000 in
theorem gX5_pass_X5_saves : GoodIn wsX5_pass (wsV RX5 71 RX5 yX5_saves wsX5_saves) := goodIn_app (goodIn_of _ (by decide +kernel)) ggX5_pass_X5_saves
set_option maxRecDepth 20000 in
theorem ggX5_pass_X5_of : GoodIn wsX5_pass wsX5_of := goodIn_r _ [20, 2, 25, 26, 27, 28, 29, 30, 31, 32, 33, 34, 35, 36] (by decide +kernel) (by decide +kernel)
set_option maxRecDepth 20000 in
theorem gX5_pass_X5_of : GoodIn wsX5_pass (wsV RX5 40 RX5 yX5_of wsX5_of) := goodIn_app (goodIn_of _ (by decide +kernel)) ggX5_pass_X5_of
set_option maxRecDepth 20000 in
theorem ggX5_pass_X5_ends : GoodIn wsX5_pass wsX5_ends := goodIn_r _ [24, 2, 17, 18, 19, 5, 20, 25, 26, 27, 28, 29, 30, 31, 32, 33, 34, 35, 36] (by decide +kernel) (by decide +kernel)
set_option maxRecDepth 20000 in
theorem gX5_pass_X5_ends : GoodIn wsX5_pass (wsV RX5 64 RX5 yX5_ends wsX5_ends) := goodIn_app (goodIn_of _ (by decide +kernel)) ggX5_pass_X5_ends
theorem dX5_pass_0 : decode cX5_pass 0 = .ok (.aload_n 0, 1) := by decide +kernel
theorem dX5_pass_1 : decode cX5_pass 1 = .ok (.iconst 0, 1) := by decide +kernel
theorem dX5_pass_2 : decode cX5_pass 2 = .ok (.putfield 25, 3) := by decide +kernel
theorem dX5_pass_5 : decode cX5_pass 5 = .ok (.iload_n 1, 1) := by decide +kernel
theorem dX5_pass_6 : decode cX5_pass 6 = .ok (.iconst 1, 1) := by decide +kernel
theorem dX5_pass_7 : decode cX5_pass 7 = .ok (.bipush 99, 2) := by decide +kernel
theorem dX5_pass_9 : decode cX5_pass 9 = .ok (.invokestatic 29, 3) := by decide +kernel
theorem dX5_pass_12 : decode cX5_pass 12 = .ok (.ifCond .ne 9, 3) := by decide +kernel
theorem dX5_pass_15 : decode cX5_pass 15 = .ok (.aload_n 0, 1) := by decide +kernel
theorem dX5_pass_16 : decode cX5_pass 16 = .ok (.iconst 1, 1) := by decide +kernel
theorem dX5_pass_17 : decode cX5_pass 17 = .ok (.invokevirtual 36, 3) := by decide +kernel
theorem dX5_pass_20 : decode cX5_pass 20 = .ok (.ireturn, 1) := by decide +kernel
theorem dX5_pass_21 : decode cX5_pass 21 = .ok (.aload_n 0, 1) := by decide +kernel
theorem dX5_pass_22 : decode cX5_pass 22 = .ok (.getfield 7, 3) := by decide +kernel
theorem dX5_pass_25 : decode cX5_pass 25 = .ok (.iconst 0, 1) := by decide +kernel
theorem dX5_pass_26 : decode cX5_pass 26 = .ok (.iaload, 1) := by decide +kernel
theorem dX5_pass_27 : decode cX5_pass 27 = .ok (.iload_n 1, 1) := by decide +kernel
theorem dX5_pass_28 : decode cX5_pass 28 = .ok (.iadd, 1) := by decide +kernel
theorem dX5_pass_29 : decode cX5_pass 29 = .ok (.sipush 9999, 3) := by decide +kernel
theorem dX5_pass_32 : decode cX5_pass 32 = .ok (.if_icmp .le 9, 3) := by decide +kernel
theorem dX5_pass_35 : decode cX5_pass 35 = .ok (.aload_n 0, 1) := by decide +kernel
theorem dX5_pass_36 : decode cX5_pass 36 = .ok (.iconst 2, 1) := by decide +kernel
theorem dX5_pass_37 : decode cX5_pass 37 = .ok (.invokevirtual 36, 3) := by decide +kernel
theorem dX5_pass_40 : decode cX5_pass 40 = .ok (.ireturn, 1) := by decide +kernel
theorem dX5_pass_41 : decode cX5_pass 41 = .ok (.aload_n 0, 1) := by decide +kernel
theorem dX5_pass_42 : decode cX5_pass 42 = .ok (.invokevirtual 71, 3) := by decide +kernel
theorem dX5_pass_45 : decode cX5_pass 45 = .ok (.aload_n 0, 1) := by decide +kernel
theorem dX5_pass_46 : decode cX5_pass 46 = .ok (.getfield 7, 3) := by decide +kernel
theorem dX5_pass_49 : decode cX5_pass 49 = .ok (.iconst 3, 1) := by decide +kernel
theorem dX5_pass_50 : decode cX5_pass 50 = .ok (.iaload, 1) := by decide +kernel
theorem dX5_pass_51 : decode cX5_pass 51 = .ok (.istore_n 2, 1) := by decide +kernel
theorem dX5_pass_52 : decode cX5_pass 52 = .ok (.aload_n 0, 1) := by decide +kernel
theorem dX5_pass_53 : decode cX5_pass 53 = .ok (.getfield 7, 3) := by decide +kernel
theorem dX5_pass_56 : decode cX5_pass 56 = .ok (.iconst 0, 1) := by decide +kernel
theorem dX5_pass_57 : decode cX5_pass 57 = .ok (.dup2, 1) := by decide +kernel
theorem dX5_pass_58 : decode cX5_pass 58 = .ok (.iaload, 1) := by decide +kernel
theorem dX5_pass_59 : decode cX5_pass 59 = .ok (.iload_n 1, 1) := by decide +kernel
theorem dX5_pass_60 : decode cX5_pass 60 = .ok (.iadd, 1) := by decide +kernel
theorem dX5_pass_61 : decode cX5_pass 61 = .ok (.iastore, 1) := by decide +kernel
theorem dX5_pass_62 : decode cX5_pass 62 = .ok (.aload_n 0, 1) := by decide +kernel
theorem dX5_pass_63 : decode cX5_pass 63 = .ok (.getfield 7, 3) := by decide +kernel
theorem dX5_pass_66 : decode cX5_pass 66 = .ok (.iconst 3, 1) := by decide +kernel
theorem dX5_pass_67 : decode cX5_pass 67 = .ok (.iaload, 1) := by decide +kernel
theorem dX5_pass_68 : decode cX5_pass 68 = .ok (.iconst 1, 1) := by decide +kernel
theorem dX5_pass_69 : decode cX5_pass 69 = .ok (.isub, 1) := by decide +kernel
theorem dX5_pass_70 : decode cX5_pass 70 = .ok (.istore_n 3, 1) := by decide +kernel
theorem dX5_pass_71 : decode cX5_pass 71 = .ok (.iload_n 3, 1) := by decide +kernel
theorem dX5_pass_72 : decode cX5_pass 72 = .ok (.ifCond .lt 31, 3) := by decide +kernel
theorem dX5_pass_75 : decode cX5_pass 75 = .ok (.aload_n 0, 1) := by decide +kernel
theorem dX5_pass_76 : decode cX5_pass 76 = .ok (.iload_n 3, 1) := by decide +kernel
theorem dX5_pass_77 : decode cX5_pass 77 = .ok (.iconst 4, 1) := by decide +kernel
theorem dX5_pass_78 : decode cX5_pass 78 = .ok (.invokevirtual 40, 3) := by decide +kernel
theorem dX5_pass_81 : decode cX5_pass 81 = .ok (.aload_n 0, 1) := by decide +kernel
theorem dX5_pass_82 : decode cX5_pass 82 = .ok (.getfield 7, 3) := by decide +kernel
theorem dX5_pass_85 : decode cX5_pass 85 = .ok (.iconst 0, 1) := by decide +kernel
theorem dX5_pass_86 : decode cX5_pass 86 = .ok (.iaload, 1) := by decide +kernel
theorem dX5_pass_87 : decode cX5_pass 87 = .ok (.if_icmp .gt 10, 3) := by decide +kernel
theorem dX5_pass_90 : decode cX5_pass 90 = .ok (.aload_n 0, 1) := by decide +kernel
theorem dX5_pass_91 : decode cX5_pass 91 = .ok (.iload_n 3, 1) := by decide +kernel
theorem dX5_pass_92 : decode cX5_pass 92 = .ok (.bipush 29, 2) := by decide +kernel
theorem dX5_pass_94 : decode cX5_pass 94 = .ok (.invokevirtual 64, 3) := by decide +kernel
theorem dX5_pass_97 : decode cX5_pass 97 = .ok (.iinc 3 (-1), 3) := by decide +kernel
theorem dX5_pass_100 : decode cX5_pass 100 = .ok (.goto (-29), 3) := by decide +kernel
theorem dX5_pass_103 : decode cX5_pass 103 = .ok (.iload_n 2, 1) := by decide +kernel
theorem dX5_pass_104 : decode cX5_pass 104 = .ok (.aload_n 0, 1) := by decide +kernel
theorem dX5_pass_105 : decode cX5_pass 105 = .ok (.getfield 7, 3) := by decide +kernel
theorem dX5_pass_108 : decode cX5_pass 108 = .ok (.iconst 3, 1) := by decide +kernel
theorem dX5_pass_109 : decode cX5_pass 109 = .ok (.iaload, 1) := by decide +kernel
theorem dX5_pass_110 : decode cX5_pass 110 = .ok (.isub, 1) := by decide +kernel
theorem dX5_pass_111 : decode cX5_pass 111 = .ok (.ireturn, 1) := by decide +kernel
set_option maxRecDepth 20000 in
theorem ggX5_append_X5_in : GoodIn wsX5_append wsX5_in := goodIn_r _ [7] (by decide +kernel) (by decide +kernel)
set_option maxRecDepth 20000 in
theorem gX5_append_X5_in : GoodIn wsX5_append (va_wsS RX5 29 yX5_in wsX5_in) := goodIn_app (goodIn_of _ (by decide +kernel)) ggX5_append_X5_in
set_option maxRecDepth 20000 in
theorem ggX5_append_X5_fails : GoodIn wsX5_append wsX5_fails := goodIn_r _ [11, 1, 12, 13, 14, 15, 16, 17, 18, 19, 20, 21, 22, 23] (by decide +kernel) (by decide +kernel)
set_option maxRecDepth 20000 in
theorem gX5_append_X5_fails : GoodIn wsX5_append (wsV RX5 36 RX5 yX5_fails wsX5_fails) := goodIn_app (goodIn_of _ (by decide +kernel)) ggX5_append_X5_fails
theorem dX5_append_0 : decode cX5_append 0 = .ok (.aload_n 0, 1) := by decide +kernel
theorem dX5_append_1 : decode cX5_append 1 = .ok (.iconst 0, 1) := by decide +kernel
theorem dX5_append_2 : decode cX5_append 2 = .ok (.putfield 25, 3) := by decide +kernel
theorem dX5_append_5 : decode cX5_append 5 = .ok (.iload_n 1, 1) := by decide +kernel
theorem dX5_append_6 : decode cX5_append 6 = .ok (.bipush 33, 2) := by decide +kernel
theorem dX5_append_8 : decode cX5_append 8 = .ok (.bipush 126, 2) := by decide +kernel
theorem dX5_append_10 : decode cX5_append 10 = .ok (.invokestatic 29, 3) := by decide +kernel
theorem dX5_append_13 : decode cX5_append 13 = .ok (.ifCond .ne 9, 3) := by decide +kernel
theorem dX5_append_16 : decode cX5_append 16 = .ok (.aload_n 0, 1) := by decide +kernel
theorem dX5_append_17 : decode cX5_append 17 = .ok (.iconst 1, 1) := by decide +kernel
theorem dX5_append_18 : decode cX5_append 18 = .ok (.invokevirtual 36, 3) := by decide +kernel
theorem dX5_append_21 : decode cX5_append 21 = .ok (.ireturn, 1) := by decide +kernel
theorem dX5_append_22 : decode cX5_append 22 = .ok (.aload_n 0, 1) := by decide +kernel
theorem dX5_append_23 : decode cX5_append 23 = .ok (.getfield 94, 3) := by decide +kernel
theorem dX5_append_26 : decode cX5_append 26 = .ok (.bipush 60, 2) := by decide +kernel
theorem dX5_append_28 : decode cX5_append 28 = .ok (.if_icmp .ne 9, 3) := by decide +kernel
theorem dX5_append_31 : decode cX5_append 31 = .ok (.aload_n 0, 1) := by decide +kernel
theorem dX5_append_32 : decode cX5_append 32 = .ok (.iconst 2, 1) := by decide +kernel
theorem dX5_append_33 : decode cX5_append 33 = .ok (.invokevirtual 36, 3) := by decide +kernel
theorem dX5_append_36 : decode cX5_append 36 = .ok (.ireturn, 1) := by decide +kernel
theorem dX5_append_37 : decode cX5_append 37 = .ok (.aload_n 0, 1) := by decide +kernel
theorem dX5_append_38 : decode cX5_append 38 = .ok (.getfield 16, 3) := by decide +kernel
theorem dX5_append_41 : decode cX5_append 41 = .ok (.aload_n 0, 1) := by decide +kernel
theorem dX5_append_42 : decode cX5_append 42 = .ok (.getfield 94, 3) := by decide +kernel
theorem dX5_append_45 : decode cX5_append 45 = .ok (.iload_n 1, 1) := by decide +kernel
theorem dX5_append_46 : decode cX5_append 46 = .ok (.iastore, 1) := by decide +kernel
theorem dX5_append_47 : decode cX5_append 47 = .ok (.aload_n 0, 1) := by decide +kernel
theorem dX5_append_48 : decode cX5_append 48 = .ok (.dup, 1) := by decide +kernel
theorem dX5_append_49 : decode cX5_append 49 = .ok (.getfield 94, 3) := by decide +kernel
theorem dX5_append_52 : decode cX5_append 52 = .ok (.iconst 1, 1) := by decide +kernel
theorem dX5_append_53 : decode cX5_append 53 = .ok (.iadd, 1) := by decide +kernel
theorem dX5_append_54 : decode cX5_append 54 = .ok (.putfield 94, 3) := by decide +kernel
theorem dX5_append_57 : decode cX5_append 57 = .ok (.aload_n 0, 1) := by decide +kernel
theorem dX5_append_58 : decode cX5_append 58 = .ok (.getfield 94, 3) := by decide +kernel
theorem dX5_append_61 : decode cX5_append 61 = .ok (.ireturn, 1) := by decide +kernel
theorem dX5_clearBuffer_0 : decode cX5_clearBuffer 0 = .ok (.aload_n 0, 1) := by decide +kernel
theorem dX5_clearBuffer_1 : decode cX5_clearBuffer 1 = .ok (.iconst 0, 1) := by decide +kernel
theorem dX5_clearBuffer_2 : decode cX5_clearBuffer 2 = .ok (.putfield 25, 3) := by decide +kernel
theorem dX5_clearBuffer_5 : decode cX5_clearBuffer 5 = .ok (.aload_n 0, 1) := by decide +kernel
theorem dX5_clearBuffer_6 : decode cX5_clearBuffer 6 = .ok (.getfield 94, 3) := by decide +kernel
theorem dX5_clearBuffer_9 : decode cX5_clearBuffer 9 = .ok (.istore_n 1, 1) := by decide +kernel
theorem dX5_clearBuffer_10 : decode cX5_clearBuffer 10 = .ok (.aload_n 0, 1) := by decide +kernel
theorem dX5_clearBuffer_11 : decode cX5_clearBuffer 11 = .ok (.iconst 0, 1) := by decide +kernel
theorem dX5_clearBuffer_12 : decode cX5_clearBuffer 12 = .ok (.putfield 94, 3) := by decide +kernel
theorem dX5_clearBuffer_15 : decode cX5_clearBuffer 15 = .ok (.iload_n 1, 1) := by decide +kernel
theorem dX5_clearBuffer_16 : decode cX5_clearBuffer 16 = .ok (.ireturn, 1) := by decide +kernel
set_option maxRecDepth 20000 in
theorem ggX5_isAt_X5_in : GoodIn wsX5_isAt wsX5_in := goodIn_r _ [7] (by decide +kernel) (by decide +kernel)
set_option maxRecDepth 20000 in
theorem gX5_isAt_X5_in : GoodIn wsX5_isAt (va_wsS RX5 29 yX5_in wsX5_in) := goodIn_app (goodIn_of _ (by decide +kernel)) ggX5_isAt_X5_in
theorem dX5_isAt_0 : decode cX5_isAt 0 = .ok (.aload_n 0, 1) := by decide +kernel
theorem dX5_isAt_1 : decode cX5_isAt 1 = .ok (.getfield 97, 3) := by decide +kernel
theorem dX5_isAt_4 : decode cX5_isAt 4 = .ok (.aload_n 0, 1) := by decide +kernel
theorem dX5_isAt_5 : decode cX5_isAt 5 = .ok (.getfield 94, 3) := by decide +kernel
theorem dX5_isAt_8 : decode cX5_isAt 8 = .ok (.if_icmp .ge 24, 3) := by decide +kernel
theorem dX5_isAt_11 : decode cX5_isAt 11 = .ok (.aload_n 0, 1) := by decide +kernel
theorem dX5_isAt_12 : decode cX5_isAt 12 = .ok (.getfield 16, 3) := by decide +kernel
theorem dX5_isAt_15 : decode cX5_isAt 15 = .ok (.aload_n 0, 1) := by decide +kernel
theorem dX5_isAt_16 : decode cX5_isAt 16 = .ok (.getfield 97, 3) := by decide +kernel
theorem dX5_isAt_19 : decode cX5_isAt 19 = .ok (.iaload, 1) := by decide +kernel
theorem dX5_isAt_20 : decode cX5_isAt 20 = .ok (.iload_n 1, 1) := by decide +kernel
theorem dX5_isAt_21 : decode cX5_isAt 21 = .ok (.iload_n 2, 1) := by decide +kernel
theorem dX5_isAt_22 : decode cX5_isAt 22 = .ok (.invokestatic 29, 3) := by decide +kernel
theorem dX5_isAt_25 : decode cX5_isAt 25 = .ok (.ifCond .eq 7, 3) := by decide +kernel
theorem dX5_isAt_28 : decode cX5_isAt 28 = .ok (.iconst 1, 1) := by decide +kernel
theorem dX5_isAt_29 : decode cX5_isAt 29 = .ok (.goto 4, 3) := by decide +kernel
theorem dX5_isAt_32 : decode cX5_isAt 32 = .ok (.iconst 0, 1) := by decide +kernel
theorem dX5_isAt_33 : decode cX5_isAt 33 = .ok (.ireturn, 1) := by decide +kernel
theorem dX5_stops_0 : decode cX5_stops 0 = .ok (.aload_n 0, 1) := by decide +kernel
theorem dX5_stops_1 : decode cX5_stops 1 = .ok (.aload_n 0, 1) := by decide +kernel
theorem dX5_stops_2 : decode cX5_stops 2 = .ok (.getfield 97, 3) := by decide +kernel
theorem dX5_stops_5 : decode cX5_stops 5 = .ok (.aload_n 0, 1) := by decide +kernel
theorem dX5_stops_6 : decode cX5_stops 6 = .ok (.getfield 94, 3) := by decide +kernel
theorem dX5_stops_9 : decode cX5_stops 9 = .ok (.if_icmp .ge 7, 3) := by decide +kernel
theorem dX5_stops_12 : decode cX5_stops 12 = .ok (.iconst 1, 1) := by decide +kernel
theorem dX5_stops_13 : decode cX5_stops 13 = .ok (.goto 4, 3) := by decide +kernel
theorem dX5_stops_16 : decode cX5_stops 16 = .ok (.iconst 0, 1) := by decide +kernel
theorem dX5_stops_17 : decode cX5_stops 17 = .ok (.putfield 100, 3) := by decide +kernel
theorem dX5_stops_20 : decode cX5_stops 20 = .ok (.iconst 0, 1) := by decide +kernel
theorem dX5_stops_21 : decode cX5_stops 21 = .ok (.ireturn, 1) := by decide +kernel
set_option maxRecDepth 20000 in
theorem ggX5_isFigure_X5_isAt : GoodIn wsX5_isFigure wsX5_isAt := goodIn_r _ [8, 2, 9, 1, 10, 11, 7, 12, 18, 19, 20, 21, 22, 23, 24, 25, 26, 27, 28, 29] (by decide +kernel) (by decide +kernel)
set_option maxRecDepth 20000 in
theorem gX5_isFigure_X5_isAt : GoodIn wsX5_isFigure (wsV RX5 104 RX5 yX5_isAt wsX5_isAt) := goodIn_app (goodIn_of _ (by decide +kernel)) ggX5_isFigure_X5_isAt
set_option maxRecDepth 20000 in
theorem ggX5_isFigure_X5_stops : GoodIn wsX5_isFigure wsX5_stops := goodIn_r _ [16, 2, 9, 17, 18, 19, 20, 21, 22, 23, 24, 25, 26, 27, 28, 29] (by decide +kernel) (by decide +kernel)
set_option maxRecDepth 20000 in
theorem gX5_isFigure_X5_stops : GoodIn wsX5_isFigure (wsV RX5 108 RX5 yX5_stops wsX5_stops) := goodIn_app (goodIn_of _ (by decide +kernel)) ggX5_isFigure_X5_stops
theorem dX5_isFigure_0 : decode cX5_isFigure 0 = .ok (.aload_n 0, 1) := by decide +kernel
theorem dX5_isFigure_1 : decode cX5_isFigure 1 = .ok (.bipush 48, 2) := by decide +kernel
theorem dX5_isFigure_3 : decode cX5_isFigure 3 = .ok (.iload_n 1, 1) := by decide +kernel
theorem dX5_isFigure_4 : decode cX5_isFigure 4 = .ok (.invokevirtual 104, 3) := by decide +kernel
theorem dX5_isFigure_7 : decode cX5_isFigure 7 = .ok (.ifCond .eq 19, 3) := by decide +kernel
theorem dX5_isFigure_10 : decode cX5_isFigure 10 = .ok (.aload_n 0, 1) := by decide +kernel
theorem dX5_isFigure_11 : decode cX5_isFigure 11 = .ok (.getfield 16, 3) := by decide +kernel
theorem dX5_isFigure_14 : decode cX5_isFigure 14 = .ok (.aload_n 0, 1) := by decide +kernel
theorem dX5_isFigure_15 : decode cX5_isFigure 15 = .ok (.getfield 97, 3) := by decide +kernel
theorem dX5_isFigure_18 : decode cX5_isFigure 18 = .ok (.iaload, 1) := by decide +kernel
theorem dX5_isFigure_19 : decode cX5_isFigure 19 = .ok (.bipush 48, 2) := by decide +kernel
theorem dX5_isFigure_21 : decode cX5_isFigure 21 = .ok (.isub, 1) := by decide +kernel
theorem dX5_isFigure_22 : decode cX5_isFigure 22 = .ok (.iload_n 2, 1) := by decide +kernel
theorem dX5_isFigure_23 : decode cX5_isFigure 23 = .ok (.if_icmp .ne 8, 3) := by decide +kernel
theorem dX5_isFigure_26 : decode cX5_isFigure 26 = .ok (.aload_n 0, 1) := by decide +kernel
theorem dX5_isFigure_27 : decode cX5_isFigure 27 = .ok (.invokevirtual 108, 3) := by decide +kernel
theorem dX5_isFigure_30 : decode cX5_isFigure 30 = .ok (.ireturn, 1) := by decide +kernel
theorem dX5_isFigure_31 : decode cX5_isFigure 31 = .ok (.aload_n 0, 1) := by decide +kernel
theorem dX5_isFigure_32 : decode cX5_isFigure 32 = .ok (.aload_n 0, 1) := by decide +kernel
theorem dX5_isFigure_33 : decode cX5_isFigure 33 = .ok (.getfield 16, 3) := by decide +kernel
theorem dX5_isFigure_36 : decode cX5_isFigure 36 = .ok (.aload_n 0, 1) := by decide +kernel
theorem dX5_isFigure_37 : decode cX5_isFigure 37 = .ok (.getfield 97, 3) := by decide +kernel
theorem dX5_isFigure_40 : decode cX5_isFigure 40 = .ok (.iaload, 1) := by decide +kernel
theorem dX5_isFigure_41 : decode cX5_isFigure 41 = .ok (.bipush 48, 2) := by decide +kernel
theorem dX5_isFigure_43 : decode cX5_isFigure 43 = .ok (.isub, 1) := by decide +kernel
theorem dX5_isFigure_44 : decode cX5_isFigure 44 = .ok (.putfield 112, 3) := by decide +kernel
theorem dX5_isFigure_47 : decode cX5_isFigure 47 = .ok (.aload_n 0, 1) := by decide +kernel
theorem dX5_isFigure_48 : decode cX5_isFigure 48 = .ok (.dup, 1) := by decide +kernel
theorem dX5_isFigure_49 : decode cX5_isFigure 49 = .ok (.getfield 97, 3) := by decide +kernel
theorem dX5_isFigure_52 : decode cX5_isFigure 52 = .ok (.iconst 1, 1) := by decide +kernel
theorem dX5_isFigure_53 : decode cX5_isFigure 53 = .ok (.iadd, 1) := by decide +kernel
theorem dX5_isFigure_54 : decode cX5_isFigure 54 = .ok (.putfield 97, 3) := by decide +kernel
theorem dX5_isFigure_57 : decode cX5_isFigure 57 = .ok (.iconst 1, 1) := by decide +kernel
theorem dX5_isFigure_58 : decode cX5_isFigure 58 = .ok (.ireturn, 1) := by decide +kernel
set_option maxRecDepth 20000 in
theorem ggX5_isNumber_X5_isAt : GoodIn wsX5_isNumber wsX5_isAt := goodIn_r _ [8, 2, 9, 1, 10, 11, 7, 12, 18, 19, 20, 21, 22, 23, 24, 25, 26, 27, 28, 29] (by decide +kernel) (by decide +kernel)
set_option maxRecDepth 20000 in
theorem gX5_isNumber_X5_isAt : GoodIn wsX5_isNumber (wsV RX5 104 RX5 yX5_isAt wsX5_isAt) := goodIn_app (goodIn_of _ (by decide +kernel)) ggX5_isNumber_X5_isAt
set_option maxRecDepth 20000 in
theorem ggX5_isNumber_X5_stops : GoodIn wsX5_isNumber wsX5_stops := goodIn_r _ [16, 2, 9, 17, 18, 19, 20, 21, 22, 23, 24, 25, 26, 27, 28, 29] (by decide +kernel) (by decide +kernel)
set_option maxRecDepth 20000 in
theorem gX5_isNumber_X5_stops : GoodIn wsX5_isNumber (wsV RX5 108 RX5 yX5_stops wsX5_stops) := goodIn_app (goodIn_of _ (by decide +kernel)) ggX5_isNumber_X5_stops
theorem dX5_isNumber_0 : decode cX5_isNumber 0 = .ok (.aload_n 0, 1) := by decide +kernel
theorem dX5_isNumber_1 : decode cX5_isNumber 1 = .ok (.bipush 49, 2) := by decide +kernel
theorem dX5_isNumber_3 : decode cX5_isNumber 3 = .ok (.bipush 57, 2) := by decide +kernel
theorem dX5_isNumber_5 : decode cX5_isNumber 5 = .ok (.invokevirtual 104, 3) := by decide +kernel
theorem dX5_isNumber_8 : decode cX5_isNumber 8 = .ok (.ifCond .ne 8, 3) := by decide +kernel
theorem dX5_isNumber_11 : decode cX5_isNumber 11 = .ok (.aload_n 0, 1) := by decide +kernel
theorem dX5_isNumber_12 : decode cX5_isNumber 12 = .ok (.invokevirtual 108, 3) := by decide +kernel
theorem dX5_isNumber_15 : decode cX5_isNumber 15 = .ok (.ireturn, 1) := by decide +kernel
theorem dX5_isNumber_16 : decode cX5_isNumber 16 = .ok (.aload_n 0, 1) := by decide +kernel
theorem dX5_isNumber_17 : decode cX5_isNumber 17 = .ok (.aload_n 0, 1) := by decide +kernel
theorem dX5_isNumber_18 : decode cX5_isNumber 18 = .ok (.getfield 16, 3) := by decide +kernel
theorem dX5_isNumber_21 : decode cX5_isNumber 21 = .ok (.aload_n 0, 1) := by decide +kernel
theorem dX5_isNumber_22 : decode cX5_isNumber 22 = .ok (.getfield 97, 3) := by decide +kernel
theorem dX5_isNumber_25 : decode cX5_isNumber 25 = .ok (.iaload, 1) := by decide +kernel
theorem dX5_isNumber_26 : decode cX5_isNumber 26 = .ok (.bipush 48, 2) := by decide +kernel
theorem dX5_isNumber_28 : decode cX5_isNumber 28 = .ok (.isub, 1) := by decide +kernel
theorem dX5_isNumber_29 : decode cX5_isNumber 29 = .ok (.putfield 112, 3) := by decide +kernel
theorem dX5_isNumber_32 : decode cX5_isNumber 32 = .ok (.aload_n 0, 1) := by decide +kernel
theorem dX5_isNumber_33 : decode cX5_isNumber 33 = .ok (.dup, 1) := by decide +kernel
theorem dX5_isNumber_34 : decode cX5_isNumber 34 = .ok (.getfield 97, 3) := by decide +kernel
theorem dX5_isNumber_37 : decode cX5_isNumber 37 = .ok (.iconst 1, 1) := by decide +kernel
theorem dX5_isNumber_38 : decode cX5_isNumber 38 = .ok (.iadd, 1) := by decide +kernel
theorem dX5_isNumber_39 : decode cX5_isNumber 39 = .ok (.putfield 97, 3) := by decide +kernel
theorem dX5_isNumber_42 : decode cX5_isNumber 42 = .ok (.aload_n 0, 1) := by decide +kernel
theorem dX5_isNumber_43 : decode cX5_isNumber 43 = .ok (.bipush 48, 2) := by decide +kernel
theorem dX5_isNumber_45 : decode cX5_isNumber 45 = .ok (.bipush 57, 2) := by decide +kernel
theorem dX5_isNumber_47 : decode cX5_isNumber 47 = .ok (.invokevirtual 104, 3) := by decide +kernel
theorem dX5_isNumber_50 : decode cX5_isNumber 50 = .ok (.ifCond .eq 37, 3) := by decide +kernel
theorem dX5_isNumber_53 : decode cX5_isNumber 53 = .ok (.aload_n 0, 1) := by decide +kernel
theorem dX5_isNumber_54 : decode cX5_isNumber 54 = .ok (.bipush 10, 2) := by decide +kernel
theorem dX5_isNumber_56 : decode cX5_isNumber 56 = .ok (.aload_n 0, 1) := by decide +kernel
theorem dX5_isNumber_57 : decode cX5_isNumber 57 = .ok (.getfield 112, 3) := by decide +kernel
theorem dX5_isNumber_60 : decode cX5_isNumber 60 = .ok (.imul, 1) := by decide +kernel
theorem dX5_isNumber_61 : decode cX5_isNumber 61 = .ok (.aload_n 0, 1) := by decide +kernel
theorem dX5_isNumber_62 : decode cX5_isNumber 62 = .ok (.getfield 16, 3) := by decide +kernel
theorem dX5_isNumber_65 : decode cX5_isNumber 65 = .ok (.aload_n 0, 1) := by decide +kernel
theorem dX5_isNumber_66 : decode cX5_isNumber 66 = .ok (.getfield 97, 3) := by decide +kernel
theorem dX5_isNumber_69 : decode cX5_isNumber 69 = .ok (.iaload, 1) := by decide +kernel
theorem dX5_isNumber_70 : decode cX5_isNumber 70 = .ok (.iadd, 1) := by decide +kernel
theorem dX5_isNumber_71 : decode cX5_isNumber 71 = .ok (.bipush 48, 2) := by decide +kernel
theorem dX5_isNumber_73 : decode cX5_isNumber 73 = .ok (.isub, 1) := by decide +kernel
theorem dX5_isNumber_74 : decode cX5_isNumber 74 = .ok (.putfield 112, 3) := by decide +kernel
theorem dX5_isNumber_77 : decode cX5_isNumber 77 = .ok (.aload_n 0, 1) := by decide +kernel
theorem dX5_isNumber_78 : decode cX5_isNumber 78 = .ok (.dup, 1) := by decide +kernel
theorem dX5_isNumber_79 : decode cX5_isNumber 79 = .ok (.getfield 97, 3) := by decide +kernel
theorem dX5_isNumber_82 : decode cX5_isNumber 82 = .ok (.iconst 1, 1) := by decide +kernel
theorem dX5_isNumber_83 : decode cX5_isNumber 83 = .ok (.iadd, 1) := by decide +kernel
theorem dX5_isNumber_84 : decode cX5_isNumber 84 = .ok (.putfield 97, 3) := by decide +kernel
theorem dX5_isNumber_87 : decode cX5_isNumber 87 = .ok (.iconst 1, 1) := by decide +kernel
theorem dX5_isNumber_88 : decode cX5_isNumber 88 = .ok (.ireturn, 1) := by decide +kernel
set_option maxRecDepth 20000 in
theorem ggX5_isPart_X5_isFigure : GoodIn wsX5_isPart wsX5_isFigure := goodIn_r _ [11, 6, 4, 3, 12, 13, 14, 10, 15, 5, 16, 17, 18, 19, 20, 21, 22, 23, 28, 29, 30, 31, 32, 33, 34, 35, 36, 37, 38, 39] (by decide +kernel) (by decide +kernel)
set_option maxRecDepth 20000 in
theorem gX5_isPart_X5_isFigure : GoodIn wsX5_isPart (wsV RX5 118 RX5 yX5_isFigure wsX5_isFigure) := goodIn_app (goodIn_of _ (by decide +kernel)) ggX5_isPart_X5_isFigure
set_option maxRecDepth 20000 in
theorem ggX5_isPart_X5_stops : GoodIn wsX5_isPart wsX5_stops := goodIn_r _ [22, 4, 5, 23, 28, 29, 30, 31, 32, 33, 34, 35, 36, 37, 38, 39] (by decide +kernel) (by decide +kernel)
set_option maxRecDepth 20000 in
theorem gX5_isPart_X5_stops : GoodIn wsX5_isPart (wsV RX5 108 RX5 yX5_stops wsX5_stops) := goodIn_app (goodIn_of _ (by decide +kernel)) ggX5_isPart_X5_stops
set_option maxRecDepth 20000 in
theorem ggX5_isPart_X5_isAt : GoodIn wsX5_isPart wsX5_isAt := goodIn_r _ [15, 4, 5, 6, 16, 17, 10, 18, 28, 29, 30, 31, 32, 33, 34, 35, 36, 37, 38, 39] (by decide +kernel) (by decide +kernel)
set_option maxRecDepth 20000 in
theorem gX5_isPart_X5_isAt : GoodIn wsX5_isPart (wsV RX5 104 RX5 yX5_isAt wsX5_isAt) := goodIn_app (goodIn_of _ (by decide +kernel)) ggX5_isPart_X5_isAt
set_option maxRecDepth 20000 in
theorem ggX5_isPart_X5_isNumber : GoodIn wsX5_isPart wsX5_isNumber := goodIn_r _ [27, 6, 4, 3, 12, 13, 14, 10, 15, 5, 16, 17, 18, 19, 20, 21, 22, 23, 28, 29, 30, 31, 32, 33, 34, 35, 36, 37, 38, 39] (by decide +kernel) (by decide +kernel)
set_option maxRecDepth 20000 in
theorem gX5_isPart_X5_isNumber : GoodIn wsX5_isPart (wsV RX5 121 RX5 yX5_isNumber wsX5_isNumber) := goodIn_app (goodIn_of _ (by decide +kernel)) ggX5_isPart_X5_isNumber
theorem dX5_isPart_0 : decode cX5_isPart 0 = .ok (.iconst 4, 1) := by decide +kernel
theorem dX5_isPart_1 : decode cX5_isPart 1 = .ok (.aload_n 0, 1) := by decide +kernel
theorem dX5_isPart_2 : decode cX5_isPart 2 = .ok (.getfield 115, 3) := by decide +kernel
theorem dX5_isPart_5 : decode cX5_isPart 5 = .ok (.imul, 1) := by decide +kernel
theorem dX5_isPart_6 : decode cX5_isPart 6 = .ok (.istore_n 1, 1) := by decide +kernel
theorem dX5_isPart_7 : decode cX5_isPart 7 = .ok (.aload_n 0, 1) := by decide +kernel
theorem dX5_isPart_8 : decode cX5_isPart 8 = .ok (.bipush 51, 2) := by decide +kernel
theorem dX5_isPart_10 : decode cX5_isPart 10 = .ok (.iconst (-1), 1) := by decide +kernel
theorem dX5_isPart_11 : decode cX5_isPart 11 = .ok (.invokevirtual 118, 3) := by decide +kernel
theorem dX5_isPart_14 : decode cX5_isPart 14 = .ok (.ifCond .ne 5, 3) := by decide +kernel
theorem dX5_isPart_17 : decode cX5_isPart 17 = .ok (.iconst 0, 1) := by decide +kernel
theorem dX5_isPart_18 : decode cX5_isPart 18 = .ok (.ireturn, 1) := by decide +kernel
theorem dX5_isPart_19 : decode cX5_isPart 19 = .ok (.aload_n 0, 1) := by decide +kernel
theorem dX5_isPart_20 : decode cX5_isPart 20 = .ok (.getfield 19, 3) := by decide +kernel
theorem dX5_isPart_23 : decode cX5_isPart 23 = .ok (.iload_n 1, 1) := by decide +kernel
theorem dX5_isPart_24 : decode cX5_isPart 24 = .ok (.aload_n 0, 1) := by decide +kernel
theorem dX5_isPart_25 : decode cX5_isPart 25 = .ok (.getfield 112, 3) := by decide +kernel
theorem dX5_isPart_28 : decode cX5_isPart 28 = .ok (.iastore, 1) := by decide +kernel
theorem dX5_isPart_29 : decode cX5_isPart 29 = .ok (.aload_n 0, 1) := by decide +kernel
theorem dX5_isPart_30 : decode cX5_isPart 30 = .ok (.getfield 19, 3) := by decide +kernel
theorem dX5_isPart_33 : decode cX5_isPart 33 = .ok (.iload_n 1, 1) := by decide +kernel
theorem dX5_isPart_34 : decode cX5_isPart 34 = .ok (.iconst 2, 1) := by decide +kernel
theorem dX5_isPart_35 : decode cX5_isPart 35 = .ok (.iadd, 1) := by decide +kernel
theorem dX5_isPart_36 : decode cX5_isPart 36 = .ok (.iconst (-1), 1) := by decide +kernel
theorem dX5_isPart_37 : decode cX5_isPart 37 = .ok (.iastore, 1) := by decide +kernel
theorem dX5_isPart_38 : decode cX5_isPart 38 = .ok (.aload_n 0, 1) := by decide +kernel
theorem dX5_isPart_39 : decode cX5_isPart 39 = .ok (.getfield 19, 3) := by decide +kernel
theorem dX5_isPart_42 : decode cX5_isPart 42 = .ok (.iload_n 1, 1) := by decide +kernel
theorem dX5_isPart_43 : decode cX5_isPart 43 = .ok (.iconst 3, 1) := by decide +kernel
theorem dX5_isPart_44 : decode cX5_isPart 44 = .ok (.iadd, 1) := by decide +kernel
theorem dX5_isPart_45 : decode cX5_isPart 45 = .ok (.iconst 0, 1) := by decide +kernel
theorem dX5_isPart_46 : decode cX5_isPart 46 = .ok (.iastore, 1) := by decide +kernel
theorem dX5_isPart_47 : decode cX5_isPart 47 = .ok (.aload_n 0, 1) := by decide +kernel
theorem dX5_isPart_48 : decode cX5_isPart 48 = .ok (.getfield 97, 3) := by decide +kernel
theorem dX5_isPart_51 : decode cX5_isPart 51 = .ok (.aload_n 0, 1) := by decide +kernel
theorem dX5_isPart_52 : decode cX5_isPart 52 = .ok (.getfield 94, 3) := by decide +kernel
theorem dX5_isPart_55 : decode cX5_isPart 55 = .ok (.if_icmp .ge 15, 3) := by decide +kernel
theorem dX5_isPart_58 : decode cX5_isPart 58 = .ok (.aload_n 0, 1) := by decide +kernel
theorem dX5_isPart_59 : decode cX5_isPart 59 = .ok (.getfield 16, 3) := by decide +kernel
theorem dX5_isPart_62 : decode cX5_isPart 62 = .ok (.aload_n 0, 1) := by decide +kernel
theorem dX5_isPart_63 : decode cX5_isPart 63 = .ok (.getfield 97, 3) := by decide +kernel
theorem dX5_isPart_66 : decode cX5_isPart 66 = .ok (.iaload, 1) := by decide +kernel
theorem dX5_isPart_67 : decode cX5_isPart 67 = .ok (.goto 4, 3) := by decide +kernel
theorem dX5_isPart_70 : decode cX5_isPart 70 = .ok (.iconst 0, 1) := by decide +kernel
theorem dX5_isPart_71 : decode cX5_isPart 71 = .ok (.istore_n 2, 1) := by decide +kernel
theorem dX5_isPart_72 : decode cX5_isPart 72 = .ok (.iload_n 2, 1) := by decide +kernel
theorem dX5_isPart_73 : decode cX5_isPart 73 = .ok (.bipush 43, 2) := by decide +kernel
theorem dX5_isPart_75 : decode cX5_isPart 75 = .ok (.if_icmp .eq 20, 3) := by decide +kernel
theorem dX5_isPart_78 : decode cX5_isPart 78 = .ok (.iload_n 2, 1) := by decide +kernel
theorem dX5_isPart_79 : decode cX5_isPart 79 = .ok (.bipush 45, 2) := by decide +kernel
theorem dX5_isPart_81 : decode cX5_isPart 81 = .ok (.if_icmp .eq 14, 3) := by decide +kernel
theorem dX5_isPart_84 : decode cX5_isPart 84 = .ok (.iload_n 2, 1) := by decide +kernel
theorem dX5_isPart_85 : decode cX5_isPart 85 = .ok (.bipush 62, 2) := by decide +kernel
theorem dX5_isPart_87 : decode cX5_isPart 87 = .ok (.if_icmp .eq 8, 3) := by decide +kernel
theorem dX5_isPart_90 : decode cX5_isPart 90 = .ok (.aload_n 0, 1) := by decide +kernel
theorem dX5_isPart_91 : decode cX5_isPart 91 = .ok (.invokevirtual 108, 3) := by decide +kernel
theorem dX5_isPart_94 : decode cX5_isPart 94 = .ok (.ireturn, 1) := by decide +kernel
theorem dX5_isPart_95 : decode cX5_isPart 95 = .ok (.aload_n 0, 1) := by decide +kernel
theorem dX5_isPart_96 : decode cX5_isPart 96 = .ok (.dup, 1) := by decide +kernel
theorem dX5_isPart_97 : decode cX5_isPart 97 = .ok (.getfield 97, 3) := by decide +kernel
theorem dX5_isPart_100 : decode cX5_isPart 100 = .ok (.iconst 1, 1) := by decide +kernel
theorem dX5_isPart_101 : decode cX5_isPart 101 = .ok (.iadd, 1) := by decide +kernel
theorem dX5_isPart_102 : decode cX5_isPart 102 = .ok (.putfield 97, 3) := by decide +kernel
theorem dX5_isPart_105 : decode cX5_isPart 105 = .ok (.iload_n 2, 1) := by decide +kernel
theorem dX5_isPart_106 : decode cX5_isPart 106 = .ok (.bipush 62, 2) := by decide +kernel
theorem dX5_isPart_108 : decode cX5_isPart 108 = .ok (.if_icmp .ne 58, 3) := by decide +kernel
theorem dX5_isPart_111 : decode cX5_isPart 111 = .ok (.aload_n 0, 1) := by decide +kernel
theorem dX5_isPart_112 : decode cX5_isPart 112 = .ok (.bipush 51, 2) := by decide +kernel
theorem dX5_isPart_114 : decode cX5_isPart 114 = .ok (.aload_n 0, 1) := by decide +kernel
theorem dX5_isPart_115 : decode cX5_isPart 115 = .ok (.getfield 19, 3) := by decide +kernel
theorem dX5_isPart_118 : decode cX5_isPart 118 = .ok (.iload_n 1, 1) := by decide +kernel
theorem dX5_isPart_119 : decode cX5_isPart 119 = .ok (.iaload, 1) := by decide +kernel
theorem dX5_isPart_120 : decode cX5_isPart 120 = .ok (.invokevirtual 118, 3) := by decide +kernel
theorem dX5_isPart_123 : decode cX5_isPart 123 = .ok (.ifCond .ne 5, 3) := by decide +kernel
theorem dX5_isPart_126 : decode cX5_isPart 126 = .ok (.iconst 0, 1) := by decide +kernel
theorem dX5_isPart_127 : decode cX5_isPart 127 = .ok (.ireturn, 1) := by decide +kernel
theorem dX5_isPart_128 : decode cX5_isPart 128 = .ok (.aload_n 0, 1) := by decide +kernel
theorem dX5_isPart_129 : decode cX5_isPart 129 = .ok (.getfield 19, 3) := by decide +kernel
theorem dX5_isPart_132 : decode cX5_isPart 132 = .ok (.iload_n 1, 1) := by decide +kernel
theorem dX5_isPart_133 : decode cX5_isPart 133 = .ok (.iconst 2, 1) := by decide +kernel
theorem dX5_isPart_134 : decode cX5_isPart 134 = .ok (.iadd, 1) := by decide +kernel
theorem dX5_isPart_135 : decode cX5_isPart 135 = .ok (.aload_n 0, 1) := by decide +kernel
theorem dX5_isPart_136 : decode cX5_isPart 136 = .ok (.getfield 112, 3) := by decide +kernel
theorem dX5_isPart_139 : decode cX5_isPart 139 = .ok (.iastore, 1) := by decide +kernel
theorem dX5_isPart_140 : decode cX5_isPart 140 = .ok (.aload_n 0, 1) := by decide +kernel
theorem dX5_isPart_141 : decode cX5_isPart 141 = .ok (.bipush 58, 2) := by decide +kernel
theorem dX5_isPart_143 : decode cX5_isPart 143 = .ok (.bipush 58, 2) := by decide +kernel
theorem dX5_isPart_145 : decode cX5_isPart 145 = .ok (.invokevirtual 104, 3) := by decide +kernel
theorem dX5_isPart_148 : decode cX5_isPart 148 = .ok (.ifCond .ne 8, 3) := by decide +kernel
theorem dX5_isPart_151 : decode cX5_isPart 151 = .ok (.aload_n 0, 1) := by decide +kernel
theorem dX5_isPart_152 : decode cX5_isPart 152 = .ok (.invokevirtual 108, 3) := by decide +kernel
theorem dX5_isPart_155 : decode cX5_isPart 155 = .ok (.ireturn, 1) := by decide +kernel
theorem dX5_isPart_156 : decode cX5_isPart 156 = .ok (.aload_n 0, 1) := by decide +kernel
theorem dX5_isPart_157 : decode cX5_isPart 157 = .ok (.dup, 1) := by decide +kernel
theorem dX5_isPart_158 : decode cX5_isPart 158 = .ok (.getfield 97, 3) := by decide +kernel
theorem dX5_isPart_161 : decode cX5_isPart 161 = .ok (.iconst 1, 1) := by decide +kernel
theorem dX5_isPart_162 : decode cX5_isPart 162 = .ok (.iadd, 1) := by decide +kernel
theorem dX5_isPart_163 : decode cX5_isPart 163 = .ok (.putfield 97, 3) := by decide +kernel
theorem dX5_isPart_166 : decode cX5_isPart 166 = .ok (.aload_n 0, 1) := by decide +kernel
theorem dX5_isPart_167 : decode cX5_isPart 167 = .ok (.invokevirtual 121, 3) := by decide +kernel
theorem dX5_isPart_170 : decode cX5_isPart 170 = .ok (.ifCond .ne 5, 3) := by decide +kernel
theorem dX5_isPart_173 : decode cX5_isPart 173 = .ok (.iconst 0, 1) := by decide +kernel
theorem dX5_isPart_174 : decode cX5_isPart 174 = .ok (.ireturn, 1) := by decide +kernel
theorem dX5_isPart_175 : decode cX5_isPart 175 = .ok (.aload_n 0, 1) := by decide +kernel
theorem dX5_isPart_176 : decode cX5_isPart 176 = .ok (.getfield 19, 3) := by decide +kernel
theorem dX5_isPart_179 : decode cX5_isPart 179 = .ok (.iload_n 1, 1) := by decide +kernel
theorem dX5_isPart_180 : decode cX5_isPart 180 = .ok (.iconst 1, 1) := by decide +kernel
theorem dX5_isPart_181 : decode cX5_isPart 181 = .ok (.iadd, 1) := by decide +kernel
theorem dX5_isPart_182 : decode cX5_isPart 182 = .ok (.iload_n 2, 1) := by decide +kernel
theorem dX5_isPart_183 : decode cX5_isPart 183 = .ok (.bipush 43, 2) := by decide +kernel
theorem dX5_isPart_185 : decode cX5_isPart 185 = .ok (.if_icmp .ne 10, 3) := by decide +kernel
theorem dX5_isPart_188 : decode cX5_isPart 188 = .ok (.aload_n 0, 1) := by decide +kernel
theorem dX5_isPart_189 : decode cX5_isPart 189 = .ok (.getfield 112, 3) := by decide +kernel
theorem dX5_isPart_192 : decode cX5_isPart 192 = .ok (.goto 8, 3) := by decide +kernel
theorem dX5_isPart_195 : decode cX5_isPart 195 = .ok (.aload_n 0, 1) := by decide +kernel
theorem dX5_isPart_196 : decode cX5_isPart 196 = .ok (.getfield 112, 3) := by decide +kernel
theorem dX5_isPart_199 : decode cX5_isPart 199 = .ok (.ineg, 1) := by decide +kernel
theorem dX5_isPart_200 : decode cX5_isPart 200 = .ok (.iastore, 1) := by decide +kernel
theorem dX5_isPart_201 : decode cX5_isPart 201 = .ok (.aload_n 0, 1) := by decide +kernel
theorem dX5_isPart_202 : decode cX5_isPart 202 = .ok (.bipush 111, 2) := by decide +kernel
theorem dX5_isPart_204 : decode cX5_isPart 204 = .ok (.bipush 111, 2) := by decide +kernel
theorem dX5_isPart_206 : decode cX5_isPart 206 = .ok (.invokevirtual 104, 3) := by decide +kernel
theorem dX5_isPart_209 : decode cX5_isPart 209 = .ok (.ifCond .ne 5, 3) := by decide +kernel
theorem dX5_isPart_212 : decode cX5_isPart 212 = .ok (.iconst 1, 1) := by decide +kernel
theorem dX5_isPart_213 : decode cX5_isPart 213 = .ok (.ireturn, 1) := by decide +kernel
theorem dX5_isPart_214 : decode cX5_isPart 214 = .ok (.aload_n 0, 1) := by decide +kernel
theorem dX5_isPart_215 : decode cX5_isPart 215 = .ok (.dup, 1) := by decide +kernel
theorem dX5_isPart_216 : decode cX5_isPart 216 = .ok (.getfield 97, 3) := by decide +kernel
theorem dX5_isPart_219 : decode cX5_isPart 219 = .ok (.iconst 1, 1) := by decide +kernel
theorem dX5_isPart_220 : decode cX5_isPart 220 = .ok (.iadd, 1) := by decide +kernel
theorem dX5_isPart_221 : decode cX5_isPart 221 = .ok (.putfield 97, 3) := by decide +kernel
theorem dX5_isPart_224 : decode cX5_isPart 224 = .ok (.aload_n 0, 1) := by decide +kernel
theorem dX5_isPart_225 : decode cX5_isPart 225 = .ok (.bipush 53, 2) := by decide +kernel
theorem dX5_isPart_227 : decode cX5_isPart 227 = .ok (.iconst (-1), 1) := by decide +kernel
theorem dX5_isPart_228 : decode cX5_isPart 228 = .ok (.invokevirtual 118, 3) := by decide +kernel
theorem dX5_isPart_231 : decode cX5_isPart 231 = .ok (.istore_n 3, 1) := by decide +kernel
theorem dX5_isPart_232 : decode cX5_isPart 232 = .ok (.aload_n 0, 1) := by decide +kernel
theorem dX5_isPart_233 : decode cX5_isPart 233 = .ok (.getfield 19, 3) := by decide +kernel
theorem dX5_isPart_236 : decode cX5_isPart 236 = .ok (.iload_n 1, 1) := by decide +kernel
theorem dX5_isPart_237 : decode cX5_isPart 237 = .ok (.iconst 3, 1) := by decide +kernel
theorem dX5_isPart_238 : decode cX5_isPart 238 = .ok (.iadd, 1) := by decide +kernel
theorem dX5_isPart_239 : decode cX5_isPart 239 = .ok (.aload_n 0, 1) := by decide +kernel
theorem dX5_isPart_240 : decode cX5_isPart 240 = .ok (.getfield 112, 3) := by decide +kernel
theorem dX5_isPart_243 : decode cX5_isPart 243 = .ok (.iastore, 1) := by decide +kernel
theorem dX5_isPart_244 : decode cX5_isPart 244 = .ok (.iload_n 3, 1) := by decide +kernel
theorem dX5_isPart_245 : decode cX5_isPart 245 = .ok (.ireturn, 1) := by decide +kernel
set_option maxRecDepth 20000 in
theorem ggX5_isText_X5_isPart : GoodIn wsX5_isText wsX5_isPart := goodIn_r _ [9, 2, 10, 11, 1, 4, 12, 13, 14, 15, 8, 16, 17, 18, 19, 20, 21, 22, 23, 24, 25, 26, 27, 3, 28, 29, 30, 31, 32, 33, 34, 35, 36, 37, 38, 39, 40, 41, 42, 43] (by decide +kernel) (by decide +kernel)
set_option maxRecDepth 20000 in
theorem gX5_isText_X5_isPart : GoodIn wsX5_isText (wsV RX5 124 RX5 yX5_isPart wsX5_isPart) := goodIn_app (goodIn_of _ (by decide +kernel)) ggX5_isText_X5_isPart
set_option maxRecDepth 20000 in
theorem ggX5_isText_X5_isAt : GoodIn wsX5_isText wsX5_isAt := goodIn_r _ [20, 1, 4, 12, 21, 22, 8, 23, 32, 33, 34, 35, 36, 37, 38, 39, 40, 41, 42, 43] (by decide +kernel) (by decide +kernel)
set_option maxRecDepth 20000 in
theorem gX5_isText_X5_isAt : GoodIn wsX5_isText (wsV RX5 104 RX5 yX5_isAt wsX5_isAt) := goodIn_app (goodIn_of _ (by decide +kernel)) ggX5_isText_X5_isAt
theorem dX5_isText_0 : decode cX5_isText 0 = .ok (.aload_n 0, 1) := by decide +kernel
theorem dX5_isText_1 : decode cX5_isText 1 = .ok (.iconst 0, 1) := by decide +kernel
theorem dX5_isText_2 : decode cX5_isText 2 = .ok (.putfield 97, 3) := by decide +kernel
theorem dX5_isText_5 : decode cX5_isText 5 = .ok (.aload_n 0, 1) := by decide +kernel
theorem dX5_isText_6 : decode cX5_isText 6 = .ok (.iconst 0, 1) := by decide +kernel
theorem dX5_isText_7 : decode cX5_isText 7 = .ok (.putfield 115, 3) := by decide +kernel
theorem dX5_isText_10 : decode cX5_isText 10 = .ok (.aload_n 0, 1) := by decide +kernel
theorem dX5_isText_11 : decode cX5_isText 11 = .ok (.iconst 0, 1) := by decide +kernel
theorem dX5_isText_12 : decode cX5_isText 12 = .ok (.putfield 100, 3) := by decide +kernel
theorem dX5_isText_15 : decode cX5_isText 15 = .ok (.iconst 1, 1) := by decide +kernel
theorem dX5_isText_16 : decode cX5_isText 16 = .ok (.istore_n 1, 1) := by decide +kernel
theorem dX5_isText_17 : decode cX5_isText 17 = .ok (.iload_n 1, 1) := by decide +kernel
theorem dX5_isText_18 : decode cX5_isText 18 = .ok (.ifCond .eq 52, 3) := by decide +kernel
theorem dX5_isText_21 : decode cX5_isText 21 = .ok (.aload_n 0, 1) := by decide +kernel
theorem dX5_isText_22 : decode cX5_isText 22 = .ok (.invokevirtual 124, 3) := by decide +kernel
theorem dX5_isText_25 : decode cX5_isText 25 = .ok (.ifCond .ne 5, 3) := by decide +kernel
theorem dX5_isText_28 : decode cX5_isText 28 = .ok (.iconst 0, 1) := by decide +kernel
theorem dX5_isText_29 : decode cX5_isText 29 = .ok (.ireturn, 1) := by decide +kernel
theorem dX5_isText_30 : decode cX5_isText 30 = .ok (.aload_n 0, 1) := by decide +kernel
theorem dX5_isText_31 : decode cX5_isText 31 = .ok (.dup, 1) := by decide +kernel
theorem dX5_isText_32 : decode cX5_isText 32 = .ok (.getfield 115, 3) := by decide +kernel
theorem dX5_isText_35 : decode cX5_isText 35 = .ok (.iconst 1, 1) := by decide +kernel
theorem dX5_isText_36 : decode cX5_isText 36 = .ok (.iadd, 1) := by decide +kernel
theorem dX5_isText_37 : decode cX5_isText 37 = .ok (.putfield 115, 3) := by decide +kernel
theorem dX5_isText_40 : decode cX5_isText 40 = .ok (.aload_n 0, 1) := by decide +kernel
theorem dX5_isText_41 : decode cX5_isText 41 = .ok (.bipush 59, 2) := by decide +kernel
theorem dX5_isText_43 : decode cX5_isText 43 = .ok (.bipush 59, 2) := by decide +kernel
theorem dX5_isText_45 : decode cX5_isText 45 = .ok (.invokevirtual 104, 3) := by decide +kernel
theorem dX5_isText_48 : decode cX5_isText 48 = .ok (.istore_n 1, 1) := by decide +kernel
theorem dX5_isText_49 : decode cX5_isText 49 = .ok (.aload_n 0, 1) := by decide +kernel
theorem dX5_isText_50 : decode cX5_isText 50 = .ok (.dup, 1) := by decide +kernel
theorem dX5_isText_51 : decode cX5_isText 51 = .ok (.getfield 97, 3) := by decide +kernel
theorem dX5_isText_54 : decode cX5_isText 54 = .ok (.iload_n 1, 1) := by decide +kernel
theorem dX5_isText_55 : decode cX5_isText 55 = .ok (.ifCond .eq 7, 3) := by decide +kernel
theorem dX5_isText_58 : decode cX5_isText 58 = .ok (.iconst 1, 1) := by decide +kernel
theorem dX5_isText_59 : decode cX5_isText 59 = .ok (.goto 4, 3) := by decide +kernel
theorem dX5_isText_62 : decode cX5_isText 62 = .ok (.iconst 0, 1) := by decide +kernel
theorem dX5_isText_63 : decode cX5_isText 63 = .ok (.iadd, 1) := by decide +kernel
theorem dX5_isText_64 : decode cX5_isText 64 = .ok (.putfield 97, 3) := by decide +kernel
theorem dX5_isText_67 : decode cX5_isText 67 = .ok (.goto (-50), 3) := by decide +kernel
theorem dX5_isText_70 : decode cX5_isText 70 = .ok (.aload_n 0, 1) := by decide +kernel
theorem dX5_isText_71 : decode cX5_isText 71 = .ok (.aload_n 0, 1) := by decide +kernel
theorem dX5_isText_72 : decode cX5_isText 72 = .ok (.getfield 97, 3) := by decide +kernel
theorem dX5_isText_75 : decode cX5_isText 75 = .ok (.aload_n 0, 1) := by decide +kernel
theorem dX5_isText_76 : decode cX5_isText 76 = .ok (.getfield 94, 3) := by decide +kernel
theorem dX5_isText_79 : decode cX5_isText 79 = .ok (.if_icmp .ge 7, 3) := by decide +kernel
theorem dX5_isText_82 : decode cX5_isText 82 = .ok (.iconst 1, 1) := by decide +kernel
theorem dX5_isText_83 : decode cX5_isText 83 = .ok (.goto 4, 3) := by decide +kernel
theorem dX5_isText_86 : decode cX5_isText 86 = .ok (.iconst 0, 1) := by decide +kernel
theorem dX5_isText_87 : decode cX5_isText 87 = .ok (.putfield 100, 3) := by decide +kernel
theorem dX5_isText_90 : decode cX5_isText 90 = .ok (.aload_n 0, 1) := by decide +kernel
theorem dX5_isText_91 : decode cX5_isText 91 = .ok (.getfield 97, 3) := by decide +kernel
theorem dX5_isText_94 : decode cX5_isText 94 = .ok (.aload_n 0, 1) := by decide +kernel
theorem dX5_isText_95 : decode cX5_isText 95 = .ok (.getfield 94, 3) := by decide +kernel
theorem dX5_isText_98 : decode cX5_isText 98 = .ok (.if_icmp .ne 7, 3) := by decide +kernel
theorem dX5_isText_101 : decode cX5_isText 101 = .ok (.iconst 1, 1) := by decide +kernel
theorem dX5_isText_102 : decode cX5_isText 102 = .ok (.goto 4, 3) := by decide +kernel
theorem dX5_isText_105 : decode cX5_isText 105 = .ok (.iconst 0, 1) := by decide +kernel
theorem dX5_isText_106 : decode cX5_isText 106 = .ok (.ireturn, 1) := by decide +kernel
set_option maxRecDepth 20000 in
theorem ggX5_firstError_X5_isText : GoodIn wsX5_firstError wsX5_isText := goodIn_r _ [9, 3, 10, 2, 4, 11, 12, 13, 8, 14, 15, 16, 17, 18, 19, 20, 21, 22, 23, 24, 25, 26, 27, 28, 29, 30, 31, 32, 33, 34, 35, 36, 37, 38, 39, 40, 41, 42, 43, 44, 45, 46, 47, 48] (by decide +kernel) (by decide +kernel)
set_option maxRecDepth 20000 in
theorem gX5_firstError_X5_isText : GoodIn wsX5_firstError (wsV RX5 127 RX5 yX5_isText wsX5_isText) := goodIn_app (goodIn_of _ (by decide +kernel)) ggX5_firstError_X5_isText
theorem dX5_firstError_0 : decode cX5_firstError 0 = .ok (.aload_n 0, 1) := by decide +kernel
theorem dX5_firstError_1 : decode cX5_firstError 1 = .ok (.iconst 0, 1) := by decide +kernel
theorem dX5_firstError_2 : decode cX5_firstError 2 = .ok (.putfield 25, 3) := by decide +kernel
theorem dX5_firstError_5 : decode cX5_firstError 5 = .ok (.aload_n 0, 1) := by decide +kernel
theorem dX5_firstError_6 : decode cX5_firstError 6 = .ok (.invokevirtual 127, 3) := by decide +kernel
theorem dX5_firstError_9 : decode cX5_firstError 9 = .ok (.istore_n 1, 1) := by decide +kernel
theorem dX5_firstError_10 : decode cX5_firstError 10 = .ok (.iload_n 1, 1) := by decide +kernel
theorem dX5_firstError_11 : decode cX5_firstError 11 = .ok (.ifCond .ne 17, 3) := by decide +kernel
theorem dX5_firstError_14 : decode cX5_firstError 14 = .ok (.aload_n 0, 1) := by decide +kernel
theorem dX5_firstError_15 : decode cX5_firstError 15 = .ok (.getfield 100, 3) := by decide +kernel
theorem dX5_firstError_18 : decode cX5_firstError 18 = .ok (.ifCond .eq 10, 3) := by decide +kernel
theorem dX5_firstError_21 : decode cX5_firstError 21 = .ok (.aload_n 0, 1) := by decide +kernel
theorem dX5_firstError_22 : decode cX5_firstError 22 = .ok (.getfield 97, 3) := by decide +kernel
theorem dX5_firstError_25 : decode cX5_firstError 25 = .ok (.goto 7, 3) := by decide +kernel
theorem dX5_firstError_28 : decode cX5_firstError 28 = .ok (.aload_n 0, 1) := by decide +kernel
theorem dX5_firstError_29 : decode cX5_firstError 29 = .ok (.getfield 94, 3) := by decide +kernel
theorem dX5_firstError_32 : decode cX5_firstError 32 = .ok (.ireturn, 1) := by decide +kernel
set_option maxRecDepth 20000 in
theorem ggX5_mayCome_X5_reason : GoodIn wsX5_mayCome wsX5_reason := goodIn_r _ [6, 7, 8, 9, 10, 5, 11, 12, 13, 14, 15, 16, 17, 18, 19, 20, 21, 22, 23, 24, 25, 26, 27, 28, 29, 30, 31, 32, 33, 34, 35, 36, 37, 38, 39, 40, 41, 42, 43] (by decide +kernel) (by decide +kernel)
set_option maxRecDepth 20000 in
theorem gX5_mayCome_X5_reason : GoodIn wsX5_mayCome (wsV RX5 80 RX5 yX5_reason wsX5_reason) := goodIn_app (goodIn_of _ (by decide +kernel)) ggX5_mayCome_X5_reason
theorem dX5_mayCome_0 : decode cX5_mayCome 0 = .ok (.aload_n 0, 1) := by decide +kernel
theorem dX5_mayCome_1 : decode cX5_mayCome 1 = .ok (.aload_n 0, 1) := by decide +kernel
theorem dX5_mayCome_2 : decode cX5_mayCome 2 = .ok (.getfield 19, 3) := by decide +kernel
theorem dX5_mayCome_5 : decode cX5_mayCome 5 = .ok (.iconst 4, 1) := by decide +kernel
theorem dX5_mayCome_6 : decode cX5_mayCome 6 = .ok (.iload_n 1, 1) := by decide +kernel
theorem dX5_mayCome_7 : decode cX5_mayCome 7 = .ok (.imul, 1) := by decide +kernel
theorem dX5_mayCome_8 : decode cX5_mayCome 8 = .ok (.iconst 3, 1) := by decide +kernel
theorem dX5_mayCome_9 : decode cX5_mayCome 9 = .ok (.iadd, 1) := by decide +kernel
theorem dX5_mayCome_10 : decode cX5_mayCome 10 = .ok (.iaload, 1) := by decide +kernel
theorem dX5_mayCome_11 : decode cX5_mayCome 11 = .ok (.aload_n 0, 1) := by decide +kernel
theorem dX5_mayCome_12 : decode cX5_mayCome 12 = .ok (.getfield 19, 3) := by decide +kernel
theorem dX5_mayCome_15 : decode cX5_mayCome 15 = .ok (.iconst 4, 1) := by decide +kernel
theorem dX5_mayCome_16 : decode cX5_mayCome 16 = .ok (.iload_n 1, 1) := by decide +kernel
theorem dX5_mayCome_17 : decode cX5_mayCome 17 = .ok (.imul, 1) := by decide +kernel
theorem dX5_mayCome_18 : decode cX5_mayCome 18 = .ok (.iaload, 1) := by decide +kernel
theorem dX5_mayCome_19 : decode cX5_mayCome 19 = .ok (.aload_n 0, 1) := by decide +kernel
theorem dX5_mayCome_20 : decode cX5_mayCome 20 = .ok (.getfield 19, 3) := by decide +kernel
theorem dX5_mayCome_23 : decode cX5_mayCome 23 = .ok (.iconst 4, 1) := by decide +kernel
theorem dX5_mayCome_24 : decode cX5_mayCome 24 = .ok (.iload_n 1, 1) := by decide +kernel
theorem dX5_mayCome_25 : decode cX5_mayCome 25 = .ok (.imul, 1) := by decide +kernel
theorem dX5_mayCome_26 : decode cX5_mayCome 26 = .ok (.iconst 1, 1) := by decide +kernel
theorem dX5_mayCome_27 : decode cX5_mayCome 27 = .ok (.iadd, 1) := by decide +kernel
theorem dX5_mayCome_28 : decode cX5_mayCome 28 = .ok (.iaload, 1) := by decide +kernel
theorem dX5_mayCome_29 : decode cX5_mayCome 29 = .ok (.aload_n 0, 1) := by decide +kernel
theorem dX5_mayCome_30 : decode cX5_mayCome 30 = .ok (.getfield 19, 3) := by decide +kernel
theorem dX5_mayCome_33 : decode cX5_mayCome 33 = .ok (.iconst 4, 1) := by decide +kernel
theorem dX5_mayCome_34 : decode cX5_mayCome 34 = .ok (.iload_n 1, 1) := by decide +kernel
theorem dX5_mayCome_35 : decode cX5_mayCome 35 = .ok (.imul, 1) := by decide +kernel
theorem dX5_mayCome_36 : decode cX5_mayCome 36 = .ok (.iconst 2, 1) := by decide +kernel
theorem dX5_mayCome_37 : decode cX5_mayCome 37 = .ok (.iadd, 1) := by decide +kernel
theorem dX5_mayCome_38 : decode cX5_mayCome 38 = .ok (.iaload, 1) := by decide +kernel
theorem dX5_mayCome_39 : decode cX5_mayCome 39 = .ok (.invokevirtual 80, 3) := by decide +kernel
theorem dX5_mayCome_42 : decode cX5_mayCome 42 = .ok (.ifCond .ne 7, 3) := by decide +kernel
theorem dX5_mayCome_45 : decode cX5_mayCome 45 = .ok (.iconst 1, 1) := by decide +kernel
theorem dX5_mayCome_46 : decode cX5_mayCome 46 = .ok (.goto 4, 3) := by decide +kernel
theorem dX5_mayCome_49 : decode cX5_mayCome 49 = .ok (.iconst 0, 1) := by decide +kernel
theorem dX5_mayCome_50 : decode cX5_mayCome 50 = .ok (.ireturn, 1) := by decide +kernel
set_option maxRecDepth 20000 in
theorem ggX5_promiseAll_X5_isText : GoodIn wsX5_promiseAll wsX5_isText := goodIn_r _ [9, 10, 3, 11, 2, 12, 13, 14, 8, 15, 4, 16, 17, 18, 19, 20, 21, 22, 23, 24, 25, 26, 27, 28, 29, 30, 31, 32, 33, 34, 35, 36, 84, 85, 86, 87, 88, 89, 90, 91, 92, 93, 94, 95] (by decide +kernel) (by decide +kernel)
set_option maxRecDepth 20000 in
theorem gX5_promiseAll_X5_isText : GoodIn wsX5_promiseAll (wsV RX5 127 RX5 yX5_isText wsX5_isText) := goodIn_app (goodIn_of _ (by decide +kernel)) ggX5_promiseAll_X5_isText
set_option maxRecDepth 20000 in
theorem ggX5_promiseAll_X5_fails : GoodIn wsX5_promiseAll wsX5_fails := goodIn_r _ [40, 1, 84, 85, 86, 87, 88, 89, 90, 91, 92, 93, 94, 95] (by decide +kernel) (by decide +kernel)
set_option maxRecDepth 20000 in
theorem gX5_promiseAll_X5_fails : GoodIn wsX5_promiseAll (wsV RX5 36 RX5 yX5_fails wsX5_fails) := goodIn_app (goodIn_of _ (by decide +kernel)) ggX5_promiseAll_X5_fails
set_option maxRecDepth 20000 in
theorem ggX5_promiseAll_X5_saves : GoodIn wsX5_promiseAll wsX5_saves := goodIn_r _ [44, 45, 46, 47, 84, 85, 86, 87, 88, 89, 90, 91, 92, 93, 94, 95] (by decide +kernel) (by decide +kernel)
set_option maxRecDepth 20000 in
theorem gX5_promiseAll_X5_saves : GoodIn wsX5_promiseAll (wsV RX5 71 RX5 yX5_saves wsX5_saves) := goodIn_app (goodIn_of _ (by decide +kernel)) ggX5_promiseAll_X5_saves
set_option maxRecDepth 20000 in
theorem ggX5_promiseAll_X5_mayCome : GoodIn wsX5_promiseAll wsX5_mayCome := goodIn_r _ [51, 4, 52, 53, 54, 8, 55, 47, 56, 57, 58, 59, 60, 61, 62, 63, 64, 65, 66, 67, 68, 69, 70, 71, 72, 73, 74, 75, 76, 77, 78, 79, 84, 85, 86, 87, 88, 89, 90, 91, 92, 93, 94, 95] (by decide +kernel) (by decide +kernel)
set_option maxRecDepth 20000 in
theorem gX5_promiseAll_X5_mayCome : GoodIn wsX5_promiseAll (wsV RX5 130 RX5 yX5_mayCome wsX5_mayCome) := goodIn_app (goodIn_of _ (by decide +kernel)) ggX5_promiseAll_X5_mayCome
set_option maxRecDepth 20000 in
theorem ggX5_promiseAll_X5_comes : GoodIn wsX5_promiseAll wsX5_comes := goodIn_r _ [83, 47, 84, 85, 86, 87, 88, 89, 90, 91, 92, 93, 94, 95] (by decide +kernel) (by decide +kernel)
set_option maxRecDepth 20000 in
theorem gX5_promiseAll_X5_comes : GoodIn wsX5_promiseAll (wsV RX5 84 RX5 yX5_comes wsX5_comes) := goodIn_app (goodIn_of _ (by decide +kernel)) ggX5_promiseAll_X5_comes
theorem dX5_promiseAll_0 : decode cX5_promiseAll 0 = .ok (.aload_n 0, 1) := by decide +kernel
theorem dX5_promiseAll_1 : decode cX5_promiseAll 1 = .ok (.iconst 0, 1) := by decide +kernel
theorem dX5_promiseAll_2 : decode cX5_promiseAll 2 = .ok (.putfield 25, 3) := by decide +kernel
theorem dX5_promiseAll_5 : decode cX5_promiseAll 5 = .ok (.aload_n 0, 1) := by decide +kernel
theorem dX5_promiseAll_6 : decode cX5_promiseAll 6 = .ok (.invokevirtual 127, 3) := by decide +kernel
theorem dX5_promiseAll_9 : decode cX5_promiseAll 9 = .ok (.ifCond .ne 9, 3) := by decide +kernel
theorem dX5_promiseAll_12 : decode cX5_promiseAll 12 = .ok (.aload_n 0, 1) := by decide +kernel
theorem dX5_promiseAll_13 : decode cX5_promiseAll 13 = .ok (.iconst 1, 1) := by decide +kernel
theorem dX5_promiseAll_14 : decode cX5_promiseAll 14 = .ok (.invokevirtual 36, 3) := by decide +kernel
theorem dX5_promiseAll_17 : decode cX5_promiseAll 17 = .ok (.ireturn, 1) := by decide +kernel
theorem dX5_promiseAll_18 : decode cX5_promiseAll 18 = .ok (.aload_n 0, 1) := by decide +kernel
theorem dX5_promiseAll_19 : decode cX5_promiseAll 19 = .ok (.invokevirtual 71, 3) := by decide +kernel
theorem dX5_promiseAll_22 : decode cX5_promiseAll 22 = .ok (.aload_n 0, 1) := by decide +kernel
theorem dX5_promiseAll_23 : decode cX5_promiseAll 23 = .ok (.iconst 0, 1) := by decide +kernel
theorem dX5_promiseAll_24 : decode cX5_promiseAll 24 = .ok (.putfield 94, 3) := by decide +kernel
theorem dX5_promiseAll_27 : decode cX5_promiseAll 27 = .ok (.iconst 0, 1) := by decide +kernel
theorem dX5_promiseAll_28 : decode cX5_promiseAll 28 = .ok (.istore_n 1, 1) := by decide +kernel
theorem dX5_promiseAll_29 : decode cX5_promiseAll 29 = .ok (.iload_n 1, 1) := by decide +kernel
theorem dX5_promiseAll_30 : decode cX5_promiseAll 30 = .ok (.aload_n 0, 1) := by decide +kernel
theorem dX5_promiseAll_31 : decode cX5_promiseAll 31 = .ok (.getfield 115, 3) := by decide +kernel
theorem dX5_promiseAll_34 : decode cX5_promiseAll 34 = .ok (.if_icmp .ge 60, 3) := by decide +kernel
theorem dX5_promiseAll_37 : decode cX5_promiseAll 37 = .ok (.aload_n 0, 1) := by decide +kernel
theorem dX5_promiseAll_38 : decode cX5_promiseAll 38 = .ok (.iload_n 1, 1) := by decide +kernel
theorem dX5_promiseAll_39 : decode cX5_promiseAll 39 = .ok (.invokevirtual 130, 3) := by decide +kernel
theorem dX5_promiseAll_42 : decode cX5_promiseAll 42 = .ok (.ifCond .eq 52, 3) := by decide +kernel
theorem dX5_promiseAll_45 : decode cX5_promiseAll 45 = .ok (.aload_n 0, 1) := by decide +kernel
theorem dX5_promiseAll_46 : decode cX5_promiseAll 46 = .ok (.aload_n 0, 1) := by decide +kernel
theorem dX5_promiseAll_47 : decode cX5_promiseAll 47 = .ok (.getfield 19, 3) := by decide +kernel
theorem dX5_promiseAll_50 : decode cX5_promiseAll 50 = .ok (.iconst 4, 1) := by decide +kernel
theorem dX5_promiseAll_51 : decode cX5_promiseAll 51 = .ok (.iload_n 1, 1) := by decide +kernel
theorem dX5_promiseAll_52 : decode cX5_promiseAll 52 = .ok (.imul, 1) := by decide +kernel
theorem dX5_promiseAll_53 : decode cX5_promiseAll 53 = .ok (.iconst 3, 1) := by decide +kernel
theorem dX5_promiseAll_54 : decode cX5_promiseAll 54 = .ok (.iadd, 1) := by decide +kernel
theorem dX5_promiseAll_55 : decode cX5_promiseAll 55 = .ok (.iaload, 1) := by decide +kernel
theorem dX5_promiseAll_56 : decode cX5_promiseAll 56 = .ok (.aload_n 0, 1) := by decide +kernel
theorem dX5_promiseAll_57 : decode cX5_promiseAll 57 = .ok (.getfield 19, 3) := by decide +kernel
theorem dX5_promiseAll_60 : decode cX5_promiseAll 60 = .ok (.iconst 4, 1) := by decide +kernel
theorem dX5_promiseAll_61 : decode cX5_promiseAll 61 = .ok (.iload_n 1, 1) := by decide +kernel
theorem dX5_promiseAll_62 : decode cX5_promiseAll 62 = .ok (.imul, 1) := by decide +kernel
theorem dX5_promiseAll_63 : decode cX5_promiseAll 63 = .ok (.iaload, 1) := by decide +kernel
theorem dX5_promiseAll_64 : decode cX5_promiseAll 64 = .ok (.aload_n 0, 1) := by decide +kernel
theorem dX5_promiseAll_65 : decode cX5_promiseAll 65 = .ok (.getfield 19, 3) := by decide +kernel
theorem dX5_promiseAll_68 : decode cX5_promiseAll 68 = .ok (.iconst 4, 1) := by decide +kernel
theorem dX5_promiseAll_69 : decode cX5_promiseAll 69 = .ok (.iload_n 1, 1) := by decide +kernel
theorem dX5_promiseAll_70 : decode cX5_promiseAll 70 = .ok (.imul, 1) := by decide +kernel
theorem dX5_promiseAll_71 : decode cX5_promiseAll 71 = .ok (.iconst 1, 1) := by decide +kernel
theorem dX5_promiseAll_72 : decode cX5_promiseAll 72 = .ok (.iadd, 1) := by decide +kernel
theorem dX5_promiseAll_73 : decode cX5_promiseAll 73 = .ok (.iaload, 1) := by decide +kernel
theorem dX5_promiseAll_74 : decode cX5_promiseAll 74 = .ok (.aload_n 0, 1) := by decide +kernel
theorem dX5_promiseAll_75 : decode cX5_promiseAll 75 = .ok (.getfield 19, 3) := by decide +kernel
theorem dX5_promiseAll_78 : decode cX5_promiseAll 78 = .ok (.iconst 4, 1) := by decide +kernel
theorem dX5_promiseAll_79 : decode cX5_promiseAll 79 = .ok (.iload_n 1, 1) := by decide +kernel
theorem dX5_promiseAll_80 : decode cX5_promiseAll 80 = .ok (.imul, 1) := by decide +kernel
theorem dX5_promiseAll_81 : decode cX5_promiseAll 81 = .ok (.iconst 2, 1) := by decide +kernel
theorem dX5_promiseAll_82 : decode cX5_promiseAll 82 = .ok (.iadd, 1) := by decide +kernel
theorem dX5_promiseAll_83 : decode cX5_promiseAll 83 = .ok (.iaload, 1) := by decide +kernel
theorem dX5_promiseAll_84 : decode cX5_promiseAll 84 = .ok (.invokevirtual 84, 3) := by decide +kernel
theorem dX5_promiseAll_87 : decode cX5_promiseAll 87 = .ok (.pop, 1) := by decide +kernel
theorem dX5_promiseAll_88 : decode cX5_promiseAll 88 = .ok (.iinc 1 1, 3) := by decide +kernel
theorem dX5_promiseAll_91 : decode cX5_promiseAll 91 = .ok (.goto (-62), 3) := by decide +kernel
theorem dX5_promiseAll_94 : decode cX5_promiseAll 94 = .ok (.iload_n 1, 1) := by decide +kernel
theorem dX5_promiseAll_95 : decode cX5_promiseAll 95 = .ok (.ireturn, 1) := by decide +kernel
set_option maxRecDepth 20000 in
theorem ggX5_sums_X5_change : GoodIn wsX5_sums wsX5_change := goodIn_r _ [7, 8, 9, 10, 6, 11, 2, 15, 16, 17, 18, 19, 20, 21, 22, 23, 24, 25, 26] (by decide +kernel) (by decide +kernel)
set_option maxRecDepth 20000 in
theorem gX5_sums_X5_change : GoodIn wsX5_sums (wsV RX5 44 RX5 yX5_change wsX5_change) := goodIn_app (goodIn_of _ (by decide +kernel)) ggX5_sums_X5_change
set_option maxRecDepth 20000 in
theorem ggX5_sums_X5_in : GoodIn wsX5_sums wsX5_in := goodIn_r _ [14] (by decide +kernel) (by decide +kernel)
set_option maxRecDepth 20000 in
theorem gX5_sums_X5_in : GoodIn wsX5_sums (va_wsS RX5 29 yX5_in wsX5_in) := goodIn_app (goodIn_of _ (by decide +kernel)) ggX5_sums_X5_in
theorem dX5_sums_0 : decode cX5_sums 0 = .ok (.iconst 0, 1) := by decide +kernel
theorem dX5_sums_1 : decode cX5_sums 1 = .ok (.istore_n 2, 1) := by decide +kernel
theorem dX5_sums_2 : decode cX5_sums 2 = .ok (.iload_n 2, 1) := by decide +kernel
theorem dX5_sums_3 : decode cX5_sums 3 = .ok (.sipush 3169, 3) := by decide +kernel
theorem dX5_sums_6 : decode cX5_sums 6 = .ok (.if_icmp .ge 16, 3) := by decide +kernel
theorem dX5_sums_9 : decode cX5_sums 9 = .ok (.aload_n 0, 1) := by decide +kernel
theorem dX5_sums_10 : decode cX5_sums 10 = .ok (.getfield 22, 3) := by decide +kernel
theorem dX5_sums_13 : decode cX5_sums 13 = .ok (.iload_n 2, 1) := by decide +kernel
theorem dX5_sums_14 : decode cX5_sums 14 = .ok (.iconst (-1), 1) := by decide +kernel
theorem dX5_sums_15 : decode cX5_sums 15 = .ok (.iastore, 1) := by decide +kernel
theorem dX5_sums_16 : decode cX5_sums 16 = .ok (.iinc 2 1, 3) := by decide +kernel
theorem dX5_sums_19 : decode cX5_sums 19 = .ok (.goto (-17), 3) := by decide +kernel
theorem dX5_sums_22 : decode cX5_sums 22 = .ok (.aload_n 0, 1) := by decide +kernel
theorem dX5_sums_23 : decode cX5_sums 23 = .ok (.getfield 22, 3) := by decide +kernel
theorem dX5_sums_26 : decode cX5_sums 26 = .ok (.sipush 1584, 3) := by decide +kernel
theorem dX5_sums_29 : decode cX5_sums 29 = .ok (.iconst 0, 1) := by decide +kernel
theorem dX5_sums_30 : decode cX5_sums 30 = .ok (.iastore, 1) := by decide +kernel
theorem dX5_sums_31 : decode cX5_sums 31 = .ok (.iconst 0, 1) := by decide +kernel
theorem dX5_sums_32 : decode cX5_sums 32 = .ok (.istore_n 2, 1) := by decide +kernel
theorem dX5_sums_33 : decode cX5_sums 33 = .ok (.iload_n 2, 1) := by decide +kernel
theorem dX5_sums_34 : decode cX5_sums 34 = .ok (.aload_n 0, 1) := by decide +kernel
theorem dX5_sums_35 : decode cX5_sums 35 = .ok (.getfield 7, 3) := by decide +kernel
theorem dX5_sums_38 : decode cX5_sums 38 = .ok (.iconst 3, 1) := by decide +kernel
theorem dX5_sums_39 : decode cX5_sums 39 = .ok (.iaload, 1) := by decide +kernel
theorem dX5_sums_40 : decode cX5_sums 40 = .ok (.if_icmp .ge 159, 3) := by decide +kernel
theorem dX5_sums_43 : decode cX5_sums 43 = .ok (.aload_n 0, 1) := by decide +kernel
theorem dX5_sums_44 : decode cX5_sums 44 = .ok (.iload_n 2, 1) := by decide +kernel
theorem dX5_sums_45 : decode cX5_sums 45 = .ok (.iload_n 1, 1) := by decide +kernel
theorem dX5_sums_46 : decode cX5_sums 46 = .ok (.invokevirtual 44, 3) := by decide +kernel
theorem dX5_sums_49 : decode cX5_sums 49 = .ok (.istore_n 3, 1) := by decide +kernel
theorem dX5_sums_50 : decode cX5_sums 50 = .ok (.iload_n 3, 1) := by decide +kernel
theorem dX5_sums_51 : decode cX5_sums 51 = .ok (.ifCond .le 9, 3) := by decide +kernel
theorem dX5_sums_54 : decode cX5_sums 54 = .ok (.sipush 3168, 3) := by decide +kernel
theorem dX5_sums_57 : decode cX5_sums 57 = .ok (.goto 4, 3) := by decide +kernel
theorem dX5_sums_60 : decode cX5_sums 60 = .ok (.iconst 0, 1) := by decide +kernel
theorem dX5_sums_61 : decode cX5_sums 61 = .ok (.istore 4, 2) := by decide +kernel
theorem dX5_sums_63 : decode cX5_sums 63 = .ok (.iconst 0, 1) := by decide +kernel
theorem dX5_sums_64 : decode cX5_sums 64 = .ok (.istore 5, 2) := by decide +kernel
theorem dX5_sums_66 : decode cX5_sums 66 = .ok (.iload 5, 2) := by decide +kernel
theorem dX5_sums_68 : decode cX5_sums 68 = .ok (.sipush 3169, 3) := by decide +kernel
theorem dX5_sums_71 : decode cX5_sums 71 = .ok (.if_icmp .ge 122, 3) := by decide +kernel
theorem dX5_sums_74 : decode cX5_sums 74 = .ok (.iload_n 3, 1) := by decide +kernel
theorem dX5_sums_75 : decode cX5_sums 75 = .ok (.ifCond .eq 118, 3) := by decide +kernel
theorem dX5_sums_78 : decode cX5_sums 78 = .ok (.iload_n 3, 1) := by decide +kernel
theorem dX5_sums_79 : decode cX5_sums 79 = .ok (.ifCond .le 11, 3) := by decide +kernel
theorem dX5_sums_82 : decode cX5_sums 82 = .ok (.iload 4, 2) := by decide +kernel
theorem dX5_sums_84 : decode cX5_sums 84 = .ok (.iload 5, 2) := by decide +kernel
theorem dX5_sums_86 : decode cX5_sums 86 = .ok (.isub, 1) := by decide +kernel
theorem dX5_sums_87 : decode cX5_sums 87 = .ok (.goto 5, 3) := by decide +kernel
theorem dX5_sums_90 : decode cX5_sums 90 = .ok (.iload 5, 2) := by decide +kernel
theorem dX5_sums_92 : decode cX5_sums 92 = .ok (.istore 6, 2) := by decide +kernel
theorem dX5_sums_94 : decode cX5_sums 94 = .ok (.iload 6, 2) := by decide +kernel
theorem dX5_sums_96 : decode cX5_sums 96 = .ok (.iload_n 3, 1) := by decide +kernel
theorem dX5_sums_97 : decode cX5_sums 97 = .ok (.isub, 1) := by decide +kernel
theorem dX5_sums_98 : decode cX5_sums 98 = .ok (.iconst 0, 1) := by decide +kernel
theorem dX5_sums_99 : decode cX5_sums 99 = .ok (.sipush 3168, 3) := by decide +kernel
theorem dX5_sums_102 : decode cX5_sums 102 = .ok (.invokestatic 29, 3) := by decide +kernel
theorem dX5_sums_105 : decode cX5_sums 105 = .ok (.ifCond .eq 15, 3) := by decide +kernel
theorem dX5_sums_108 : decode cX5_sums 108 = .ok (.aload_n 0, 1) := by decide +kernel
theorem dX5_sums_109 : decode cX5_sums 109 = .ok (.getfield 22, 3) := by decide +kernel
theorem dX5_sums_112 : decode cX5_sums 112 = .ok (.iload 6, 2) := by decide +kernel
theorem dX5_sums_114 : decode cX5_sums 114 = .ok (.iload_n 3, 1) := by decide +kernel
theorem dX5_sums_115 : decode cX5_sums 115 = .ok (.isub, 1) := by decide +kernel
theorem dX5_sums_116 : decode cX5_sums 116 = .ok (.iaload, 1) := by decide +kernel
theorem dX5_sums_117 : decode cX5_sums 117 = .ok (.goto 4, 3) := by decide +kernel
theorem dX5_sums_120 : decode cX5_sums 120 = .ok (.iconst (-1), 1) := by decide +kernel
theorem dX5_sums_121 : decode cX5_sums 121 = .ok (.istore 7, 2) := by decide +kernel
theorem dX5_sums_123 : decode cX5_sums 123 = .ok (.iload 7, 2) := by decide +kernel
theorem dX5_sums_125 : decode cX5_sums 125 = .ok (.iconst (-1), 1) := by decide +kernel
theorem dX5_sums_126 : decode cX5_sums 126 = .ok (.if_icmp .eq 32, 3) := by decide +kernel
theorem dX5_sums_129 : decode cX5_sums 129 = .ok (.aload_n 0, 1) := by decide +kernel
theorem dX5_sums_130 : decode cX5_sums 130 = .ok (.getfield 22, 3) := by decide +kernel
theorem dX5_sums_133 : decode cX5_sums 133 = .ok (.iload 6, 2) := by decide +kernel
theorem dX5_sums_135 : decode cX5_sums 135 = .ok (.iaload, 1) := by decide +kernel
theorem dX5_sums_136 : decode cX5_sums 136 = .ok (.iconst (-1), 1) := by decide +kernel
theorem dX5_sums_137 : decode cX5_sums 137 = .ok (.if_icmp .eq 17, 3) := by decide +kernel
theorem dX5_sums_140 : decode cX5_sums 140 = .ok (.iload 7, 2) := by decide +kernel
theorem dX5_sums_142 : decode cX5_sums 142 = .ok (.iconst 1, 1) := by decide +kernel
theorem dX5_sums_143 : decode cX5_sums 143 = .ok (.iadd, 1) := by decide +kernel
theorem dX5_sums_144 : decode cX5_sums 144 = .ok (.aload_n 0, 1) := by decide +kernel
theorem dX5_sums_145 : decode cX5_sums 145 = .ok (.getfield 22, 3) := by decide +kernel
theorem dX5_sums_148 : decode cX5_sums 148 = .ok (.iload 6, 2) := by decide +kernel
theorem dX5_sums_150 : decode cX5_sums 150 = .ok (.iaload, 1) := by decide +kernel
theorem dX5_sums_151 : decode cX5_sums 151 = .ok (.if_icmp .ge 7, 3) := by decide +kernel
theorem dX5_sums_154 : decode cX5_sums 154 = .ok (.iconst 1, 1) := by decide +kernel
theorem dX5_sums_155 : decode cX5_sums 155 = .ok (.goto 4, 3) := by decide +kernel
theorem dX5_sums_158 : decode cX5_sums 158 = .ok (.iconst 0, 1) := by decide +kernel
theorem dX5_sums_159 : decode cX5_sums 159 = .ok (.istore 8, 2) := by decide +kernel
theorem dX5_sums_161 : decode cX5_sums 161 = .ok (.aload_n 0, 1) := by decide +kernel
theorem dX5_sums_162 : decode cX5_sums 162 = .ok (.getfield 22, 3) := by decide +kernel
theorem dX5_sums_165 : decode cX5_sums 165 = .ok (.iload 6, 2) := by decide +kernel
theorem dX5_sums_167 : decode cX5_sums 167 = .ok (.iload 8, 2) := by decide +kernel
theorem dX5_sums_169 : decode cX5_sums 169 = .ok (.ifCond .eq 10, 3) := by decide +kernel
theorem dX5_sums_172 : decode cX5_sums 172 = .ok (.iload 7, 2) := by decide +kernel
theorem dX5_sums_174 : decode cX5_sums 174 = .ok (.iconst 1, 1) := by decide +kernel
theorem dX5_sums_175 : decode cX5_sums 175 = .ok (.iadd, 1) := by decide +kernel
theorem dX5_sums_176 : decode cX5_sums 176 = .ok (.goto 10, 3) := by decide +kernel
theorem dX5_sums_179 : decode cX5_sums 179 = .ok (.aload_n 0, 1) := by decide +kernel
theorem dX5_sums_180 : decode cX5_sums 180 = .ok (.getfield 22, 3) := by decide +kernel
theorem dX5_sums_183 : decode cX5_sums 183 = .ok (.iload 6, 2) := by decide +kernel
theorem dX5_sums_185 : decode cX5_sums 185 = .ok (.iaload, 1) := by decide +kernel
theorem dX5_sums_186 : decode cX5_sums 186 = .ok (.iastore, 1) := by decide +kernel
theorem dX5_sums_187 : decode cX5_sums 187 = .ok (.iinc 5 1, 3) := by decide +kernel
theorem dX5_sums_190 : decode cX5_sums 190 = .ok (.goto (-124), 3) := by decide +kernel
theorem dX5_sums_193 : decode cX5_sums 193 = .ok (.iinc 2 1, 3) := by decide +kernel
theorem dX5_sums_196 : decode cX5_sums 196 = .ok (.goto (-163), 3) := by decide +kernel
theorem dX5_sums_199 : decode cX5_sums 199 = .ok (.iconst 0, 1) := by decide +kernel
theorem dX5_sums_200 : decode cX5_sums 200 = .ok (.istore_n 2, 1) := by decide +kernel
theorem dX5_sums_201 : decode cX5_sums 201 = .ok (.iconst 0, 1) := by decide +kernel
theorem dX5_sums_202 : decode cX5_sums 202 = .ok (.istore_n 3, 1) := by decide +kernel
theorem dX5_sums_203 : decode cX5_sums 203 = .ok (.iload_n 3, 1) := by decide +kernel
theorem dX5_sums_204 : decode cX5_sums 204 = .ok (.sipush 3169, 3) := by decide +kernel
theorem dX5_sums_207 : decode cX5_sums 207 = .ok (.if_icmp .ge 27, 3) := by decide +kernel
theorem dX5_sums_210 : decode cX5_sums 210 = .ok (.iload_n 2, 1) := by decide +kernel
theorem dX5_sums_211 : decode cX5_sums 211 = .ok (.aload_n 0, 1) := by decide +kernel
theorem dX5_sums_212 : decode cX5_sums 212 = .ok (.getfield 22, 3) := by decide +kernel
theorem dX5_sums_215 : decode cX5_sums 215 = .ok (.iload_n 3, 1) := by decide +kernel
theorem dX5_sums_216 : decode cX5_sums 216 = .ok (.iaload, 1) := by decide +kernel
theorem dX5_sums_217 : decode cX5_sums 217 = .ok (.iconst (-1), 1) := by decide +kernel
theorem dX5_sums_218 : decode cX5_sums 218 = .ok (.if_icmp .ne 7, 3) := by decide +kernel
theorem dX5_sums_221 : decode cX5_sums 221 = .ok (.iconst 0, 1) := by decide +kernel
theorem dX5_sums_222 : decode cX5_sums 222 = .ok (.goto 4, 3) := by decide +kernel
theorem dX5_sums_225 : decode cX5_sums 225 = .ok (.iconst 1, 1) := by decide +kernel
theorem dX5_sums_226 : decode cX5_sums 226 = .ok (.iadd, 1) := by decide +kernel
theorem dX5_sums_227 : decode cX5_sums 227 = .ok (.istore_n 2, 1) := by decide +kernel
theorem dX5_sums_228 : decode cX5_sums 228 = .ok (.iinc 3 1, 3) := by decide +kernel
theorem dX5_sums_231 : decode cX5_sums 231 = .ok (.goto (-28), 3) := by decide +kernel
theorem dX5_sums_234 : decode cX5_sums 234 = .ok (.iload_n 2, 1) := by decide +kernel
theorem dX5_sums_235 : decode cX5_sums 235 = .ok (.ireturn, 1) := by decide +kernel
set_option maxRecDepth 20000 in
theorem ggX5_changing_X5_change : GoodIn wsX5_changing wsX5_change := goodIn_r _ [6, 7, 8, 9, 5, 10, 1, 11, 12, 13, 14, 15, 16, 17, 18, 19, 20, 21, 22] (by decide +kernel) (by decide +kernel)
set_option maxRecDepth 20000 in
theorem gX5_changing_X5_change : GoodIn wsX5_changing (wsV RX5 44 RX5 yX5_change wsX5_change) := goodIn_app (goodIn_of _ (by decide +kernel)) ggX5_changing_X5_change
theorem dX5_changing_0 : decode cX5_changing 0 = .ok (.iconst 0, 1) := by decide +kernel
theorem dX5_changing_1 : decode cX5_changing 1 = .ok (.istore_n 2, 1) := by decide +kernel
theorem dX5_changing_2 : decode cX5_changing 2 = .ok (.iconst 0, 1) := by decide +kernel
theorem dX5_changing_3 : decode cX5_changing 3 = .ok (.istore_n 3, 1) := by decide +kernel
theorem dX5_changing_4 : decode cX5_changing 4 = .ok (.iload_n 3, 1) := by decide +kernel
theorem dX5_changing_5 : decode cX5_changing 5 = .ok (.aload_n 0, 1) := by decide +kernel
theorem dX5_changing_6 : decode cX5_changing 6 = .ok (.getfield 7, 3) := by decide +kernel
theorem dX5_changing_9 : decode cX5_changing 9 = .ok (.iconst 3, 1) := by decide +kernel
theorem dX5_changing_10 : decode cX5_changing 10 = .ok (.iaload, 1) := by decide +kernel
theorem dX5_changing_11 : decode cX5_changing 11 = .ok (.if_icmp .ge 26, 3) := by decide +kernel
theorem dX5_changing_14 : decode cX5_changing 14 = .ok (.iload_n 2, 1) := by decide +kernel
theorem dX5_changing_15 : decode cX5_changing 15 = .ok (.aload_n 0, 1) := by decide +kernel
theorem dX5_changing_16 : decode cX5_changing 16 = .ok (.iload_n 3, 1) := by decide +kernel
theorem dX5_changing_17 : decode cX5_changing 17 = .ok (.iload_n 1, 1) := by decide +kernel
theorem dX5_changing_18 : decode cX5_changing 18 = .ok (.invokevirtual 44, 3) := by decide +kernel
theorem dX5_changing_21 : decode cX5_changing 21 = .ok (.ifCond .ne 7, 3) := by decide +kernel
theorem dX5_changing_24 : decode cX5_changing 24 = .ok (.iconst 0, 1) := by decide +kernel
theorem dX5_changing_25 : decode cX5_changing 25 = .ok (.goto 4, 3) := by decide +kernel
theorem dX5_changing_28 : decode cX5_changing 28 = .ok (.iconst 1, 1) := by decide +kernel
theorem dX5_changing_29 : decode cX5_changing 29 = .ok (.iadd, 1) := by decide +kernel
theorem dX5_changing_30 : decode cX5_changing 30 = .ok (.istore_n 2, 1) := by decide +kernel
theorem dX5_changing_31 : decode cX5_changing 31 = .ok (.iinc 3 1, 3) := by decide +kernel
theorem dX5_changing_34 : decode cX5_changing 34 = .ok (.goto (-30), 3) := by decide +kernel
theorem dX5_changing_37 : decode cX5_changing 37 = .ok (.iload_n 2, 1) := by decide +kernel
theorem dX5_changing_38 : decode cX5_changing 38 = .ok (.ireturn, 1) := by decide +kernel
set_option maxRecDepth 20000 in
theorem ggX5_ofCounter_X5_low : GoodIn wsX5_ofCounter wsX5_low := goodIn_r _ [6, 1, 7, 8, 9, 5, 10, 11, 12, 13, 14, 15, 16, 17, 18, 35, 36, 37, 38, 39, 40, 41, 42, 43, 44, 45, 46] (by decide +kernel) (by decide +kernel)
set_option maxRecDepth 20000 in
theorem gX5_ofCounter_X5_low : GoodIn wsX5_ofCounter (wsV RX5 54 RX5 yX5_low wsX5_low) := goodIn_app (goodIn_of _ (by decide +kernel)) ggX5_ofCounter_X5_low
set_option maxRecDepth 20000 in
theorem ggX5_ofCounter_X5_high : GoodIn wsX5_ofCounter wsX5_high := goodIn_r _ [22, 1, 7, 8, 9, 5, 10, 11, 12, 13, 14, 15, 16, 17, 18, 35, 36, 37, 38, 39, 40, 41, 42, 43, 44, 45, 46] (by decide +kernel) (by decide +kernel)
set_option maxRecDepth 20000 in
theorem gX5_ofCounter_X5_high : GoodIn wsX5_ofCounter (wsV RX5 57 RX5 yX5_high wsX5_high) := goodIn_app (goodIn_of _ (by decide +kernel)) ggX5_ofCounter_X5_high
set_option maxRecDepth 20000 in
theorem ggX5_ofCounter_X5_changing : GoodIn wsX5_ofCounter wsX5_changing := goodIn_r _ [26, 1, 11, 12, 13, 5, 14, 15, 16, 17, 18, 35, 36, 37, 38, 39, 40, 41, 42, 43, 44, 45, 46] (by decide +kernel) (by decide +kernel)
set_option maxRecDepth 20000 in
theorem gX5_ofCounter_X5_changing : GoodIn wsX5_ofCounter (wsV RX5 133 RX5 yX5_changing wsX5_changing) := goodIn_app (goodIn_of _ (by decide +kernel)) ggX5_ofCounter_X5_changing
set_option maxRecDepth 20000 in
theorem ggX5_ofCounter_X5_sum : GoodIn wsX5_ofCounter wsX5_sum := goodIn_r _ [10, 1, 11, 12, 13, 5, 14, 15, 16, 17, 18, 35, 36, 37, 38, 39, 40, 41, 42, 43, 44, 45, 46] (by decide +kernel) (by decide +kernel)
set_option maxRecDepth 20000 in
theorem gX5_ofCounter_X5_sum : GoodIn wsX5_ofCounter (wsV RX5 47 RX5 yX5_sum wsX5_sum) := goodIn_app (goodIn_of _ (by decide +kernel)) ggX5_ofCounter_X5_sum
set_option maxRecDepth 20000 in
theorem ggX5_ofCounter_X5_sums : GoodIn wsX5_ofCounter wsX5_sums := goodIn_r _ [30, 31, 1, 11, 12, 13, 5, 14, 15, 16, 17, 18, 32, 33, 34, 35, 36, 37, 38, 39, 40, 41, 42, 43, 44, 45, 46] (by decide +kernel) (by decide +kernel)
set_option maxRecDepth 20000 in
theorem gX5_ofCounter_X5_sums : GoodIn wsX5_ofCounter (wsV RX5 136 RX5 yX5_sums wsX5_sums) := goodIn_app (goodIn_of _ (by decide +kernel)) ggX5_ofCounter_X5_sums
theorem dX5_ofCounter_0 : decode cX5_ofCounter 0 = .ok (.iload_n 2, 1) := by decide +kernel
theorem dX5_ofCounter_1 : decode cX5_ofCounter 1 = .ok (.tableswitch 143 0 8 #[51, 60, 70, 80, 86, 92, 98, 111, 127], 51) := by decide +kernel
theorem dX5_ofCounter_52 : decode cX5_ofCounter 52 = .ok (.aload_n 0, 1) := by decide +kernel
theorem dX5_ofCounter_53 : decode cX5_ofCounter 53 = .ok (.getfield 7, 3) := by decide +kernel
theorem dX5_ofCounter_56 : decode cX5_ofCounter 56 = .ok (.iconst 5, 1) := by decide +kernel
theorem dX5_ofCounter_57 : decode cX5_ofCounter 57 = .ok (.iload_n 1, 1) := by decide +kernel
theorem dX5_ofCounter_58 : decode cX5_ofCounter 58 = .ok (.iadd, 1) := by decide +kernel
theorem dX5_ofCounter_59 : decode cX5_ofCounter 59 = .ok (.iaload, 1) := by decide +kernel
theorem dX5_ofCounter_60 : decode cX5_ofCounter 60 = .ok (.ireturn, 1) := by decide +kernel
theorem dX5_ofCounter_61 : decode cX5_ofCounter 61 = .ok (.aload_n 0, 1) := by decide +kernel
theorem dX5_ofCounter_62 : decode cX5_ofCounter 62 = .ok (.getfield 7, 3) := by decide +kernel
theorem dX5_ofCounter_65 : decode cX5_ofCounter 65 = .ok (.bipush 9, 2) := by decide +kernel
theorem dX5_ofCounter_67 : decode cX5_ofCounter 67 = .ok (.iload_n 1, 1) := by decide +kernel
theorem dX5_ofCounter_68 : decode cX5_ofCounter 68 = .ok (.iadd, 1) := by decide +kernel
theorem dX5_ofCounter_69 : decode cX5_ofCounter 69 = .ok (.iaload, 1) := by decide +kernel
theorem dX5_ofCounter_70 : decode cX5_ofCounter 70 = .ok (.ireturn, 1) := by decide +kernel
theorem dX5_ofCounter_71 : decode cX5_ofCounter 71 = .ok (.aload_n 0, 1) := by decide +kernel
theorem dX5_ofCounter_72 : decode cX5_ofCounter 72 = .ok (.getfield 7, 3) := by decide +kernel
theorem dX5_ofCounter_75 : decode cX5_ofCounter 75 = .ok (.bipush 13, 2) := by decide +kernel
theorem dX5_ofCounter_77 : decode cX5_ofCounter 77 = .ok (.iload_n 1, 1) := by decide +kernel
theorem dX5_ofCounter_78 : decode cX5_ofCounter 78 = .ok (.iadd, 1) := by decide +kernel
theorem dX5_ofCounter_79 : decode cX5_ofCounter 79 = .ok (.iaload, 1) := by decide +kernel
theorem dX5_ofCounter_80 : decode cX5_ofCounter 80 = .ok (.ireturn, 1) := by decide +kernel
theorem dX5_ofCounter_81 : decode cX5_ofCounter 81 = .ok (.aload_n 0, 1) := by decide +kernel
theorem dX5_ofCounter_82 : decode cX5_ofCounter 82 = .ok (.iload_n 1, 1) := by decide +kernel
theorem dX5_ofCounter_83 : decode cX5_ofCounter 83 = .ok (.invokevirtual 54, 3) := by decide +kernel
theorem dX5_ofCounter_86 : decode cX5_ofCounter 86 = .ok (.ireturn, 1) := by decide +kernel
theorem dX5_ofCounter_87 : decode cX5_ofCounter 87 = .ok (.aload_n 0, 1) := by decide +kernel
theorem dX5_ofCounter_88 : decode cX5_ofCounter 88 = .ok (.iload_n 1, 1) := by decide +kernel
theorem dX5_ofCounter_89 : decode cX5_ofCounter 89 = .ok (.invokevirtual 57, 3) := by decide +kernel
theorem dX5_ofCounter_92 : decode cX5_ofCounter 92 = .ok (.ireturn, 1) := by decide +kernel
theorem dX5_ofCounter_93 : decode cX5_ofCounter 93 = .ok (.aload_n 0, 1) := by decide +kernel
theorem dX5_ofCounter_94 : decode cX5_ofCounter 94 = .ok (.iload_n 1, 1) := by decide +kernel
theorem dX5_ofCounter_95 : decode cX5_ofCounter 95 = .ok (.invokevirtual 133, 3) := by decide +kernel
theorem dX5_ofCounter_98 : decode cX5_ofCounter 98 = .ok (.ireturn, 1) := by decide +kernel
theorem dX5_ofCounter_99 : decode cX5_ofCounter 99 = .ok (.aload_n 0, 1) := by decide +kernel
theorem dX5_ofCounter_100 : decode cX5_ofCounter 100 = .ok (.iload_n 1, 1) := by decide +kernel
theorem dX5_ofCounter_101 : decode cX5_ofCounter 101 = .ok (.iconst 0, 1) := by decide +kernel
theorem dX5_ofCounter_102 : decode cX5_ofCounter 102 = .ok (.aload_n 0, 1) := by decide +kernel
theorem dX5_ofCounter_103 : decode cX5_ofCounter 103 = .ok (.getfield 7, 3) := by decide +kernel
theorem dX5_ofCounter_106 : decode cX5_ofCounter 106 = .ok (.iconst 0, 1) := by decide +kernel
theorem dX5_ofCounter_107 : decode cX5_ofCounter 107 = .ok (.iaload, 1) := by decide +kernel
theorem dX5_ofCounter_108 : decode cX5_ofCounter 108 = .ok (.invokevirtual 47, 3) := by decide +kernel
theorem dX5_ofCounter_111 : decode cX5_ofCounter 111 = .ok (.ireturn, 1) := by decide +kernel
theorem dX5_ofCounter_112 : decode cX5_ofCounter 112 = .ok (.aload_n 0, 1) := by decide +kernel
theorem dX5_ofCounter_113 : decode cX5_ofCounter 113 = .ok (.iload_n 1, 1) := by decide +kernel
theorem dX5_ofCounter_114 : decode cX5_ofCounter 114 = .ok (.invokevirtual 54, 3) := by decide +kernel
theorem dX5_ofCounter_117 : decode cX5_ofCounter 117 = .ok (.aload_n 0, 1) := by decide +kernel
theorem dX5_ofCounter_118 : decode cX5_ofCounter 118 = .ok (.getfield 7, 3) := by decide +kernel
theorem dX5_ofCounter_121 : decode cX5_ofCounter 121 = .ok (.bipush 9, 2) := by decide +kernel
theorem dX5_ofCounter_123 : decode cX5_ofCounter 123 = .ok (.iload_n 1, 1) := by decide +kernel
theorem dX5_ofCounter_124 : decode cX5_ofCounter 124 = .ok (.iadd, 1) := by decide +kernel
theorem dX5_ofCounter_125 : decode cX5_ofCounter 125 = .ok (.iaload, 1) := by decide +kernel
theorem dX5_ofCounter_126 : decode cX5_ofCounter 126 = .ok (.isub, 1) := by decide +kernel
theorem dX5_ofCounter_127 : decode cX5_ofCounter 127 = .ok (.ireturn, 1) := by decide +kernel
theorem dX5_ofCounter_128 : decode cX5_ofCounter 128 = .ok (.aload_n 0, 1) := by decide +kernel
theorem dX5_ofCounter_129 : decode cX5_ofCounter 129 = .ok (.getfield 7, 3) := by decide +kernel
theorem dX5_ofCounter_132 : decode cX5_ofCounter 132 = .ok (.bipush 13, 2) := by decide +kernel
theorem dX5_ofCounter_134 : decode cX5_ofCounter 134 = .ok (.iload_n 1, 1) := by decide +kernel
theorem dX5_ofCounter_135 : decode cX5_ofCounter 135 = .ok (.iadd, 1) := by decide +kernel
theorem dX5_ofCounter_136 : decode cX5_ofCounter 136 = .ok (.iaload, 1) := by decide +kernel
theorem dX5_ofCounter_137 : decode cX5_ofCounter 137 = .ok (.aload_n 0, 1) := by decide +kernel
theorem dX5_ofCounter_138 : decode cX5_ofCounter 138 = .ok (.iload_n 1, 1) := by decide +kernel
theorem dX5_ofCounter_139 : decode cX5_ofCounter 139 = .ok (.invokevirtual 57, 3) := by decide +kernel
theorem dX5_ofCounter_142 : decode cX5_ofCounter 142 = .ok (.isub, 1) := by decide +kernel
theorem dX5_ofCounter_143 : decode cX5_ofCounter 143 = .ok (.ireturn, 1) := by decide +kernel
theorem dX5_ofCounter_144 : decode cX5_ofCounter 144 = .ok (.aload_n 0, 1) := by decide +kernel
theorem dX5_ofCounter_145 : decode cX5_ofCounter 145 = .ok (.iload_n 1, 1) := by decide +kernel
theorem dX5_ofCounter_146 : decode cX5_ofCounter 146 = .ok (.invokevirtual 136, 3) := by decide +kernel
theorem dX5_ofCounter_149 : decode cX5_ofCounter 149 = .ok (.ireturn, 1) := by decide +kernel
set_option maxRecDepth 20000 in
theorem ggX5_counter_X5_isCounter : GoodIn wsX5_counter wsX5_isCounter := goodIn_r _ [5, 6, 7, 4, 8] (by decide +kernel) (by decide +kernel)
set_option maxRecDepth 20000 in
theorem gX5_counter_X5_isCounter : GoodIn wsX5_counter (va_wsS RX5 67 yX5_isCounter wsX5_isCounter) := goodIn_app (goodIn_of _ (by decide +kernel)) ggX5_counter_X5_isCounter
set_option maxRecDepth 20000 in
theorem ggX5_counter_X5_fails : GoodIn wsX5_counter wsX5_fails := goodIn_r _ [12, 1, 47, 48, 49, 50, 51, 52, 53, 54, 55, 56, 57, 58] (by decide +kernel) (by decide +kernel)
set_option maxRecDepth 20000 in
theorem gX5_counter_X5_fails : GoodIn wsX5_counter (wsV RX5 36 RX5 yX5_fails wsX5_fails) := goodIn_app (goodIn_of _ (by decide +kernel)) ggX5_counter_X5_fails
set_option maxRecDepth 20000 in
theorem ggX5_counter_X5_in : GoodIn wsX5_counter wsX5_in := goodIn_r _ [8] (by decide +kernel) (by decide +kernel)
set_option maxRecDepth 20000 in
theorem gX5_counter_X5_in : GoodIn wsX5_counter (va_wsS RX5 29 yX5_in wsX5_in) := goodIn_app (goodIn_of _ (by decide +kernel)) ggX5_counter_X5_in
set_option maxRecDepth 20000 in
theorem ggX5_counter_X5_ofCounter : GoodIn wsX5_counter wsX5_ofCounter := goodIn_r _ [16, 17, 18, 19, 20, 4, 21, 22, 23, 24, 25, 26, 27, 28, 29, 30, 31, 32, 33, 34, 35, 36, 37, 38, 39, 40, 41, 42, 43, 44, 45, 46, 6, 7, 8, 47, 48, 49, 50, 51, 52, 53, 54, 55, 56, 57, 58] (by decide +kernel) (by decide +kernel)
set_option maxRecDepth 20000 in
theorem gX5_counter_X5_ofCounter : GoodIn wsX5_counter (wsV RX5 139 RX5 yX5_ofCounter wsX5_ofCounter) := goodIn_app (goodIn_of _ (by decide +kernel)) ggX5_counter_X5_ofCounter
theorem dX5_counter_0 : decode cX5_counter 0 = .ok (.aload_n 0, 1) := by decide +kernel
theorem dX5_counter_1 : decode cX5_counter 1 = .ok (.iconst 0, 1) := by decide +kernel
theorem dX5_counter_2 : decode cX5_counter 2 = .ok (.putfield 25, 3) := by decide +kernel
theorem dX5_counter_5 : decode cX5_counter 5 = .ok (.iload_n 1, 1) := by decide +kernel
theorem dX5_counter_6 : decode cX5_counter 6 = .ok (.invokestatic 67, 3) := by decide +kernel
theorem dX5_counter_9 : decode cX5_counter 9 = .ok (.ifCond .ne 9, 3) := by decide +kernel
theorem dX5_counter_12 : decode cX5_counter 12 = .ok (.aload_n 0, 1) := by decide +kernel
theorem dX5_counter_13 : decode cX5_counter 13 = .ok (.iconst 1, 1) := by decide +kernel
theorem dX5_counter_14 : decode cX5_counter 14 = .ok (.invokevirtual 36, 3) := by decide +kernel
theorem dX5_counter_17 : decode cX5_counter 17 = .ok (.ireturn, 1) := by decide +kernel
theorem dX5_counter_18 : decode cX5_counter 18 = .ok (.iload_n 2, 1) := by decide +kernel
theorem dX5_counter_19 : decode cX5_counter 19 = .ok (.iconst 0, 1) := by decide +kernel
theorem dX5_counter_20 : decode cX5_counter 20 = .ok (.bipush 9, 2) := by decide +kernel
theorem dX5_counter_22 : decode cX5_counter 22 = .ok (.invokestatic 29, 3) := by decide +kernel
theorem dX5_counter_25 : decode cX5_counter 25 = .ok (.ifCond .eq 12, 3) := by decide +kernel
theorem dX5_counter_28 : decode cX5_counter 28 = .ok (.aload_n 0, 1) := by decide +kernel
theorem dX5_counter_29 : decode cX5_counter 29 = .ok (.iload_n 1, 1) := by decide +kernel
theorem dX5_counter_30 : decode cX5_counter 30 = .ok (.iload_n 2, 1) := by decide +kernel
theorem dX5_counter_31 : decode cX5_counter 31 = .ok (.invokevirtual 139, 3) := by decide +kernel
theorem dX5_counter_34 : decode cX5_counter 34 = .ok (.goto 8, 3) := by decide +kernel
theorem dX5_counter_37 : decode cX5_counter 37 = .ok (.aload_n 0, 1) := by decide +kernel
theorem dX5_counter_38 : decode cX5_counter 38 = .ok (.iconst 2, 1) := by decide +kernel
theorem dX5_counter_39 : decode cX5_counter 39 = .ok (.invokevirtual 36, 3) := by decide +kernel
theorem dX5_counter_42 : decode cX5_counter 42 = .ok (.ireturn, 1) := by decide +kernel
set_option maxRecDepth 20000 in
theorem ggX5_ofPromise_X5_of : GoodIn wsX5_ofPromise wsX5_of := goodIn_r _ [6, 1, 7, 8, 9, 10, 11, 12, 13, 14, 15, 16, 17, 18] (by decide +kernel) (by decide +kernel)
set_option maxRecDepth 20000 in
theorem gX5_ofPromise_X5_of : GoodIn wsX5_ofPromise (wsV RX5 40 RX5 yX5_of wsX5_of) := goodIn_app (goodIn_of _ (by decide +kernel)) ggX5_ofPromise_X5_of
theorem dX5_ofPromise_0 : decode cX5_ofPromise 0 = .ok (.iload_n 2, 1) := by decide +kernel
theorem dX5_ofPromise_1 : decode cX5_ofPromise 1 = .ok (.iconst 5, 1) := by decide +kernel
theorem dX5_ofPromise_2 : decode cX5_ofPromise 2 = .ok (.if_icmp .ne 19, 3) := by decide +kernel
theorem dX5_ofPromise_5 : decode cX5_ofPromise 5 = .ok (.aload_n 0, 1) := by decide +kernel
theorem dX5_ofPromise_6 : decode cX5_ofPromise 6 = .ok (.iload_n 1, 1) := by decide +kernel
theorem dX5_ofPromise_7 : decode cX5_ofPromise 7 = .ok (.iconst 4, 1) := by decide +kernel
theorem dX5_ofPromise_8 : decode cX5_ofPromise 8 = .ok (.invokevirtual 40, 3) := by decide +kernel
theorem dX5_ofPromise_11 : decode cX5_ofPromise 11 = .ok (.aload_n 0, 1) := by decide +kernel
theorem dX5_ofPromise_12 : decode cX5_ofPromise 12 = .ok (.getfield 7, 3) := by decide +kernel
theorem dX5_ofPromise_15 : decode cX5_ofPromise 15 = .ok (.iconst 0, 1) := by decide +kernel
theorem dX5_ofPromise_16 : decode cX5_ofPromise 16 = .ok (.iaload, 1) := by decide +kernel
theorem dX5_ofPromise_17 : decode cX5_ofPromise 17 = .ok (.isub, 1) := by decide +kernel
theorem dX5_ofPromise_18 : decode cX5_ofPromise 18 = .ok (.goto 9, 3) := by decide +kernel
theorem dX5_ofPromise_21 : decode cX5_ofPromise 21 = .ok (.aload_n 0, 1) := by decide +kernel
theorem dX5_ofPromise_22 : decode cX5_ofPromise 22 = .ok (.iload_n 1, 1) := by decide +kernel
theorem dX5_ofPromise_23 : decode cX5_ofPromise 23 = .ok (.iload_n 2, 1) := by decide +kernel
theorem dX5_ofPromise_24 : decode cX5_ofPromise 24 = .ok (.invokevirtual 40, 3) := by decide +kernel
theorem dX5_ofPromise_27 : decode cX5_ofPromise 27 = .ok (.ireturn, 1) := by decide +kernel
set_option maxRecDepth 20000 in
theorem ggX5_promiseOf_X5_isPromise : GoodIn wsX5_promiseOf wsX5_isPromise := goodIn_r _ [6, 7, 8, 9, 5, 10, 23, 24, 25, 26, 27, 28, 29, 30, 31, 32, 33, 34] (by decide +kernel) (by decide +kernel)
set_option maxRecDepth 20000 in
theorem gX5_promiseOf_X5_isPromise : GoodIn wsX5_promiseOf (wsV RX5 87 RX5 yX5_isPromise wsX5_isPromise) := goodIn_app (goodIn_of _ (by decide +kernel)) ggX5_promiseOf_X5_isPromise
set_option maxRecDepth 20000 in
theorem ggX5_promiseOf_X5_fails : GoodIn wsX5_promiseOf wsX5_fails := goodIn_r _ [14, 1, 23, 24, 25, 26, 27, 28, 29, 30, 31, 32, 33, 34] (by decide +kernel) (by decide +kernel)
set_option maxRecDepth 20000 in
theorem gX5_promiseOf_X5_fails : GoodIn wsX5_promiseOf (wsV RX5 36 RX5 yX5_fails wsX5_fails) := goodIn_app (goodIn_of _ (by decide +kernel)) ggX5_promiseOf_X5_fails
set_option maxRecDepth 20000 in
theorem ggX5_promiseOf_X5_in : GoodIn wsX5_promiseOf wsX5_in := goodIn_r _ [10] (by decide +kernel) (by decide +kernel)
set_option maxRecDepth 20000 in
theorem gX5_promiseOf_X5_in : GoodIn wsX5_promiseOf (va_wsS RX5 29 yX5_in wsX5_in) := goodIn_app (goodIn_of _ (by decide +kernel)) ggX5_promiseOf_X5_in
set_option maxRecDepth 20000 in
theorem ggX5_promiseOf_X5_ofPromise : GoodIn wsX5_promiseOf wsX5_ofPromise := goodIn_r _ [18, 7, 19, 20, 21, 5, 22, 23, 24, 25, 26, 27, 28, 29, 30, 31, 32, 33, 34] (by decide +kernel) (by decide +kernel)
set_option maxRecDepth 20000 in
theorem gX5_promiseOf_X5_ofPromise : GoodIn wsX5_promiseOf (wsV RX5 142 RX5 yX5_ofPromise wsX5_ofPromise) := goodIn_app (goodIn_of _ (by decide +kernel)) ggX5_promiseOf_X5_ofPromise
theorem dX5_promiseOf_0 : decode cX5_promiseOf 0 = .ok (.aload_n 0, 1) := by decide +kernel
theorem dX5_promiseOf_1 : decode cX5_promiseOf 1 = .ok (.iconst 0, 1) := by decide +kernel
theorem dX5_promiseOf_2 : decode cX5_promiseOf 2 = .ok (.putfield 25, 3) := by decide +kernel
theorem dX5_promiseOf_5 : decode cX5_promiseOf 5 = .ok (.aload_n 0, 1) := by decide +kernel
theorem dX5_promiseOf_6 : decode cX5_promiseOf 6 = .ok (.iload_n 1, 1) := by decide +kernel
theorem dX5_promiseOf_7 : decode cX5_promiseOf 7 = .ok (.invokevirtual 87, 3) := by decide +kernel
theorem dX5_promiseOf_10 : decode cX5_promiseOf 10 = .ok (.ifCond .ne 9, 3) := by decide +kernel
theorem dX5_promiseOf_13 : decode cX5_promiseOf 13 = .ok (.aload_n 0, 1) := by decide +kernel
theorem dX5_promiseOf_14 : decode cX5_promiseOf 14 = .ok (.iconst 1, 1) := by decide +kernel
theorem dX5_promiseOf_15 : decode cX5_promiseOf 15 = .ok (.invokevirtual 36, 3) := by decide +kernel
theorem dX5_promiseOf_18 : decode cX5_promiseOf 18 = .ok (.ireturn, 1) := by decide +kernel
theorem dX5_promiseOf_19 : decode cX5_promiseOf 19 = .ok (.iload_n 2, 1) := by decide +kernel
theorem dX5_promiseOf_20 : decode cX5_promiseOf 20 = .ok (.iconst 0, 1) := by decide +kernel
theorem dX5_promiseOf_21 : decode cX5_promiseOf 21 = .ok (.iconst 5, 1) := by decide +kernel
theorem dX5_promiseOf_22 : decode cX5_promiseOf 22 = .ok (.invokestatic 29, 3) := by decide +kernel
theorem dX5_promiseOf_25 : decode cX5_promiseOf 25 = .ok (.ifCond .eq 12, 3) := by decide +kernel
theorem dX5_promiseOf_28 : decode cX5_promiseOf 28 = .ok (.aload_n 0, 1) := by decide +kernel
theorem dX5_promiseOf_29 : decode cX5_promiseOf 29 = .ok (.iload_n 1, 1) := by decide +kernel
theorem dX5_promiseOf_30 : decode cX5_promiseOf 30 = .ok (.iload_n 2, 1) := by decide +kernel
theorem dX5_promiseOf_31 : decode cX5_promiseOf 31 = .ok (.invokevirtual 142, 3) := by decide +kernel
theorem dX5_promiseOf_34 : decode cX5_promiseOf 34 = .ok (.goto 8, 3) := by decide +kernel
theorem dX5_promiseOf_37 : decode cX5_promiseOf 37 = .ok (.aload_n 0, 1) := by decide +kernel
theorem dX5_promiseOf_38 : decode cX5_promiseOf 38 = .ok (.iconst 2, 1) := by decide +kernel
theorem dX5_promiseOf_39 : decode cX5_promiseOf 39 = .ok (.invokevirtual 36, 3) := by decide +kernel
theorem dX5_promiseOf_42 : decode cX5_promiseOf 42 = .ok (.ireturn, 1) := by decide +kernel
set_option maxRecDepth 20000 in
theorem ggX5_ofOwner_X5_promisesOf : GoodIn wsX5_ofOwner wsX5_promisesOf := goodIn_r _ [6, 1, 7, 8, 9, 5, 10, 11, 12, 13, 14, 15, 16, 17, 18, 19, 20, 21, 22] (by decide +kernel) (by decide +kernel)
set_option maxRecDepth 20000 in
theorem gX5_ofOwner_X5_promisesOf : GoodIn wsX5_ofOwner (wsV RX5 51 RX5 yX5_promisesOf wsX5_promisesOf) := goodIn_app (goodIn_of _ (by decide +kernel)) ggX5_ofOwner_X5_promisesOf
set_option maxRecDepth 20000 in
theorem ggX5_ofOwner_X5_of : GoodIn wsX5_ofOwner wsX5_of := goodIn_r _ [10, 1, 11, 12, 13, 14, 15, 16, 17, 18, 19, 20, 21, 22] (by decide +kernel) (by decide +kernel)
set_option maxRecDepth 20000 in
theorem gX5_ofOwner_X5_of : GoodIn wsX5_ofOwner (wsV RX5 40 RX5 yX5_of wsX5_of) := goodIn_app (goodIn_of _ (by decide +kernel)) ggX5_ofOwner_X5_of
theorem dX5_ofOwner_0 : decode cX5_ofOwner 0 = .ok (.iload_n 2, 1) := by decide +kernel
theorem dX5_ofOwner_1 : decode cX5_ofOwner 1 = .ok (.iconst 4, 1) := by decide +kernel
theorem dX5_ofOwner_2 : decode cX5_ofOwner 2 = .ok (.if_icmp .ge 32, 3) := by decide +kernel
theorem dX5_ofOwner_5 : decode cX5_ofOwner 5 = .ok (.iload_n 2, 1) := by decide +kernel
theorem dX5_ofOwner_6 : decode cX5_ofOwner 6 = .ok (.ifCond .ne 11, 3) := by decide +kernel
theorem dX5_ofOwner_9 : decode cX5_ofOwner 9 = .ok (.aload_n 0, 1) := by decide +kernel
theorem dX5_ofOwner_10 : decode cX5_ofOwner 10 = .ok (.iload_n 1, 1) := by decide +kernel
theorem dX5_ofOwner_11 : decode cX5_ofOwner 11 = .ok (.invokevirtual 51, 3) := by decide +kernel
theorem dX5_ofOwner_14 : decode cX5_ofOwner 14 = .ok (.goto 19, 3) := by decide +kernel
theorem dX5_ofOwner_17 : decode cX5_ofOwner 17 = .ok (.aload_n 0, 1) := by decide +kernel
theorem dX5_ofOwner_18 : decode cX5_ofOwner 18 = .ok (.getfield 7, 3) := by decide +kernel
theorem dX5_ofOwner_21 : decode cX5_ofOwner 21 = .ok (.bipush 17, 2) := by decide +kernel
theorem dX5_ofOwner_23 : decode cX5_ofOwner 23 = .ok (.bipush 6, 2) := by decide +kernel
theorem dX5_ofOwner_25 : decode cX5_ofOwner 25 = .ok (.iload_n 2, 1) := by decide +kernel
theorem dX5_ofOwner_26 : decode cX5_ofOwner 26 = .ok (.iconst 1, 1) := by decide +kernel
theorem dX5_ofOwner_27 : decode cX5_ofOwner 27 = .ok (.isub, 1) := by decide +kernel
theorem dX5_ofOwner_28 : decode cX5_ofOwner 28 = .ok (.imul, 1) := by decide +kernel
theorem dX5_ofOwner_29 : decode cX5_ofOwner 29 = .ok (.iadd, 1) := by decide +kernel
theorem dX5_ofOwner_30 : decode cX5_ofOwner 30 = .ok (.iload_n 1, 1) := by decide +kernel
theorem dX5_ofOwner_31 : decode cX5_ofOwner 31 = .ok (.iadd, 1) := by decide +kernel
theorem dX5_ofOwner_32 : decode cX5_ofOwner 32 = .ok (.iaload, 1) := by decide +kernel
theorem dX5_ofOwner_33 : decode cX5_ofOwner 33 = .ok (.ireturn, 1) := by decide +kernel
theorem dX5_ofOwner_34 : decode cX5_ofOwner 34 = .ok (.iconst 0, 1) := by decide +kernel
theorem dX5_ofOwner_35 : decode cX5_ofOwner 35 = .ok (.istore_n 3, 1) := by decide +kernel
theorem dX5_ofOwner_36 : decode cX5_ofOwner 36 = .ok (.iconst 0, 1) := by decide +kernel
theorem dX5_ofOwner_37 : decode cX5_ofOwner 37 = .ok (.istore 4, 2) := by decide +kernel
theorem dX5_ofOwner_39 : decode cX5_ofOwner 39 = .ok (.iload 4, 2) := by decide +kernel
theorem dX5_ofOwner_41 : decode cX5_ofOwner 41 = .ok (.aload_n 0, 1) := by decide +kernel
theorem dX5_ofOwner_42 : decode cX5_ofOwner 42 = .ok (.getfield 7, 3) := by decide +kernel
theorem dX5_ofOwner_45 : decode cX5_ofOwner 45 = .ok (.iconst 3, 1) := by decide +kernel
theorem dX5_ofOwner_46 : decode cX5_ofOwner 46 = .ok (.iaload, 1) := by decide +kernel
theorem dX5_ofOwner_47 : decode cX5_ofOwner 47 = .ok (.if_icmp .ge 49, 3) := by decide +kernel
theorem dX5_ofOwner_50 : decode cX5_ofOwner 50 = .ok (.aload_n 0, 1) := by decide +kernel
theorem dX5_ofOwner_51 : decode cX5_ofOwner 51 = .ok (.iload 4, 2) := by decide +kernel
theorem dX5_ofOwner_53 : decode cX5_ofOwner 53 = .ok (.iconst 0, 1) := by decide +kernel
theorem dX5_ofOwner_54 : decode cX5_ofOwner 54 = .ok (.invokevirtual 40, 3) := by decide +kernel
theorem dX5_ofOwner_57 : decode cX5_ofOwner 57 = .ok (.iload_n 1, 1) := by decide +kernel
theorem dX5_ofOwner_58 : decode cX5_ofOwner 58 = .ok (.if_icmp .ne 13, 3) := by decide +kernel
theorem dX5_ofOwner_61 : decode cX5_ofOwner 61 = .ok (.aload_n 0, 1) := by decide +kernel
theorem dX5_ofOwner_62 : decode cX5_ofOwner 62 = .ok (.iload 4, 2) := by decide +kernel
theorem dX5_ofOwner_64 : decode cX5_ofOwner 64 = .ok (.iconst 2, 1) := by decide +kernel
theorem dX5_ofOwner_65 : decode cX5_ofOwner 65 = .ok (.invokevirtual 40, 3) := by decide +kernel
theorem dX5_ofOwner_68 : decode cX5_ofOwner 68 = .ok (.goto 4, 3) := by decide +kernel
theorem dX5_ofOwner_71 : decode cX5_ofOwner 71 = .ok (.iconst 0, 1) := by decide +kernel
theorem dX5_ofOwner_72 : decode cX5_ofOwner 72 = .ok (.istore 5, 2) := by decide +kernel
