theorem dX5_of_8 : decode cX5_of 8 = .ok (.imul, 1) := by decide +kernel
theorem dX5_of_9 : decode cX5_of 9 = .ok (.iadd, 1) := by decide +kernel
theorem dX5_of_10 : decode cX5_of 10 = .ok (.iload_n 2, 1) := by decide +kernel
theorem dX5_of_11 : decode cX5_of 11 = .ok (.iadd, 1) := by decide +kernel
theorem dX5_of_12 : decode cX5_of 12 = .ok (.iaload, 1) := by decide +kernel
theorem dX5_of_13 : decode cX5_of 13 = .ok (.ireturn, 1) := by decide +kernel
theorem dX5_saves_0 : decode cX5_saves 0 = .ok (.aload_n 0, 1) := by decide +kernel
theorem dX5_saves_1 : decode cX5_saves 1 = .ok (.getfield 33, 3) := by decide +kernel
theorem dX5_saves_4 : decode cX5_saves 4 = .ok (.bipush 6, 2) := by decide +kernel
theorem dX5_saves_6 : decode cX5_saves 6 = .ok (.if_icmp .ne 43, 3) := by decide +kernel
theorem dX5_saves_9 : decode cX5_saves 9 = .ok (.iconst 0, 1) := by decide +kernel
theorem dX5_saves_10 : decode cX5_saves 10 = .ok (.istore_n 1, 1) := by decide +kernel
theorem dX5_saves_11 : decode cX5_saves 11 = .ok (.iload_n 1, 1) := by decide +kernel
theorem dX5_saves_12 : decode cX5_saves 12 = .ok (.sipush 575, 3) := by decide +kernel
theorem dX5_saves_15 : decode cX5_saves 15 = .ok (.if_icmp .ge 24, 3) := by decide +kernel
theorem dX5_saves_18 : decode cX5_saves 18 = .ok (.aload_n 0, 1) := by decide +kernel
theorem dX5_saves_19 : decode cX5_saves 19 = .ok (.getfield 13, 3) := by decide +kernel
theorem dX5_saves_22 : decode cX5_saves 22 = .ok (.iload_n 1, 1) := by decide +kernel
theorem dX5_saves_23 : decode cX5_saves 23 = .ok (.aload_n 0, 1) := by decide +kernel
theorem dX5_saves_24 : decode cX5_saves 24 = .ok (.getfield 13, 3) := by decide +kernel
theorem dX5_saves_27 : decode cX5_saves 27 = .ok (.iload_n 1, 1) := by decide +kernel
theorem dX5_saves_28 : decode cX5_saves 28 = .ok (.bipush 115, 2) := by decide +kernel
theorem dX5_saves_30 : decode cX5_saves 30 = .ok (.iadd, 1) := by decide +kernel
theorem dX5_saves_31 : decode cX5_saves 31 = .ok (.iaload, 1) := by decide +kernel
theorem dX5_saves_32 : decode cX5_saves 32 = .ok (.iastore, 1) := by decide +kernel
theorem dX5_saves_33 : decode cX5_saves 33 = .ok (.iinc 1 1, 3) := by decide +kernel
theorem dX5_saves_36 : decode cX5_saves 36 = .ok (.goto (-25), 3) := by decide +kernel
theorem dX5_saves_39 : decode cX5_saves 39 = .ok (.aload_n 0, 1) := by decide +kernel
theorem dX5_saves_40 : decode cX5_saves 40 = .ok (.dup, 1) := by decide +kernel
theorem dX5_saves_41 : decode cX5_saves 41 = .ok (.getfield 33, 3) := by decide +kernel
theorem dX5_saves_44 : decode cX5_saves 44 = .ok (.iconst 1, 1) := by decide +kernel
theorem dX5_saves_45 : decode cX5_saves 45 = .ok (.isub, 1) := by decide +kernel
theorem dX5_saves_46 : decode cX5_saves 46 = .ok (.putfield 33, 3) := by decide +kernel
theorem dX5_saves_49 : decode cX5_saves 49 = .ok (.iconst 0, 1) := by decide +kernel
theorem dX5_saves_50 : decode cX5_saves 50 = .ok (.istore_n 1, 1) := by decide +kernel
theorem dX5_saves_51 : decode cX5_saves 51 = .ok (.iload_n 1, 1) := by decide +kernel
theorem dX5_saves_52 : decode cX5_saves 52 = .ok (.bipush 115, 2) := by decide +kernel
theorem dX5_saves_54 : decode cX5_saves 54 = .ok (.if_icmp .ge 29, 3) := by decide +kernel
theorem dX5_saves_57 : decode cX5_saves 57 = .ok (.aload_n 0, 1) := by decide +kernel
theorem dX5_saves_58 : decode cX5_saves 58 = .ok (.getfield 13, 3) := by decide +kernel
theorem dX5_saves_61 : decode cX5_saves 61 = .ok (.bipush 115, 2) := by decide +kernel
theorem dX5_saves_63 : decode cX5_saves 63 = .ok (.aload_n 0, 1) := by decide +kernel
theorem dX5_saves_64 : decode cX5_saves 64 = .ok (.getfield 33, 3) := by decide +kernel
theorem dX5_saves_67 : decode cX5_saves 67 = .ok (.imul, 1) := by decide +kernel
theorem dX5_saves_68 : decode cX5_saves 68 = .ok (.iload_n 1, 1) := by decide +kernel
theorem dX5_saves_69 : decode cX5_saves 69 = .ok (.iadd, 1) := by decide +kernel
theorem dX5_saves_70 : decode cX5_saves 70 = .ok (.aload_n 0, 1) := by decide +kernel
theorem dX5_saves_71 : decode cX5_saves 71 = .ok (.getfield 7, 3) := by decide +kernel
theorem dX5_saves_74 : decode cX5_saves 74 = .ok (.iload_n 1, 1) := by decide +kernel
theorem dX5_saves_75 : decode cX5_saves 75 = .ok (.iaload, 1) := by decide +kernel
theorem dX5_saves_76 : decode cX5_saves 76 = .ok (.iastore, 1) := by decide +kernel
theorem dX5_saves_77 : decode cX5_saves 77 = .ok (.iinc 1 1, 3) := by decide +kernel
theorem dX5_saves_80 : decode cX5_saves 80 = .ok (.goto (-29), 3) := by decide +kernel
theorem dX5_saves_83 : decode cX5_saves 83 = .ok (.aload_n 0, 1) := by decide +kernel
theorem dX5_saves_84 : decode cX5_saves 84 = .ok (.dup, 1) := by decide +kernel
theorem dX5_saves_85 : decode cX5_saves 85 = .ok (.getfield 33, 3) := by decide +kernel
theorem dX5_saves_88 : decode cX5_saves 88 = .ok (.iconst 1, 1) := by decide +kernel
theorem dX5_saves_89 : decode cX5_saves 89 = .ok (.iadd, 1) := by decide +kernel
theorem dX5_saves_90 : decode cX5_saves 90 = .ok (.putfield 33, 3) := by decide +kernel
theorem dX5_saves_93 : decode cX5_saves 93 = .ok (.return_, 1) := by decide +kernel
set_option maxRecDepth 20000 in
theorem ggX5_undo_X5_fails : GoodIn wsX5_undo wsX5_fails := goodIn_r _ [9, 1, 10, 11, 12, 13, 14, 15, 16, 17, 18, 19, 20, 21] (by decide +kernel) (by decide +kernel)
set_option maxRecDepth 20000 in
theorem gX5_undo_X5_fails : GoodIn wsX5_undo (wsV RX5 36 RX5 yX5_fails wsX5_fails) := goodIn_app (goodIn_of _ (by decide +kernel)) ggX5_undo_X5_fails
theorem dX5_undo_0 : decode cX5_undo 0 = .ok (.aload_n 0, 1) := by decide +kernel
theorem dX5_undo_1 : decode cX5_undo 1 = .ok (.iconst 0, 1) := by decide +kernel
theorem dX5_undo_2 : decode cX5_undo 2 = .ok (.putfield 25, 3) := by decide +kernel
theorem dX5_undo_5 : decode cX5_undo 5 = .ok (.aload_n 0, 1) := by decide +kernel
theorem dX5_undo_6 : decode cX5_undo 6 = .ok (.getfield 33, 3) := by decide +kernel
theorem dX5_undo_9 : decode cX5_undo 9 = .ok (.ifCond .ne 9, 3) := by decide +kernel
theorem dX5_undo_12 : decode cX5_undo 12 = .ok (.aload_n 0, 1) := by decide +kernel
theorem dX5_undo_13 : decode cX5_undo 13 = .ok (.iconst 1, 1) := by decide +kernel
theorem dX5_undo_14 : decode cX5_undo 14 = .ok (.invokevirtual 36, 3) := by decide +kernel
theorem dX5_undo_17 : decode cX5_undo 17 = .ok (.ireturn, 1) := by decide +kernel
theorem dX5_undo_18 : decode cX5_undo 18 = .ok (.aload_n 0, 1) := by decide +kernel
theorem dX5_undo_19 : decode cX5_undo 19 = .ok (.dup, 1) := by decide +kernel
theorem dX5_undo_20 : decode cX5_undo 20 = .ok (.getfield 33, 3) := by decide +kernel
theorem dX5_undo_23 : decode cX5_undo 23 = .ok (.iconst 1, 1) := by decide +kernel
theorem dX5_undo_24 : decode cX5_undo 24 = .ok (.isub, 1) := by decide +kernel
theorem dX5_undo_25 : decode cX5_undo 25 = .ok (.putfield 33, 3) := by decide +kernel
theorem dX5_undo_28 : decode cX5_undo 28 = .ok (.iconst 0, 1) := by decide +kernel
theorem dX5_undo_29 : decode cX5_undo 29 = .ok (.istore_n 1, 1) := by decide +kernel
theorem dX5_undo_30 : decode cX5_undo 30 = .ok (.iload_n 1, 1) := by decide +kernel
theorem dX5_undo_31 : decode cX5_undo 31 = .ok (.bipush 115, 2) := by decide +kernel
theorem dX5_undo_33 : decode cX5_undo 33 = .ok (.if_icmp .ge 29, 3) := by decide +kernel
theorem dX5_undo_36 : decode cX5_undo 36 = .ok (.aload_n 0, 1) := by decide +kernel
theorem dX5_undo_37 : decode cX5_undo 37 = .ok (.getfield 7, 3) := by decide +kernel
theorem dX5_undo_40 : decode cX5_undo 40 = .ok (.iload_n 1, 1) := by decide +kernel
theorem dX5_undo_41 : decode cX5_undo 41 = .ok (.aload_n 0, 1) := by decide +kernel
theorem dX5_undo_42 : decode cX5_undo 42 = .ok (.getfield 13, 3) := by decide +kernel
theorem dX5_undo_45 : decode cX5_undo 45 = .ok (.bipush 115, 2) := by decide +kernel
theorem dX5_undo_47 : decode cX5_undo 47 = .ok (.aload_n 0, 1) := by decide +kernel
theorem dX5_undo_48 : decode cX5_undo 48 = .ok (.getfield 33, 3) := by decide +kernel
theorem dX5_undo_51 : decode cX5_undo 51 = .ok (.imul, 1) := by decide +kernel
theorem dX5_undo_52 : decode cX5_undo 52 = .ok (.iload_n 1, 1) := by decide +kernel
theorem dX5_undo_53 : decode cX5_undo 53 = .ok (.iadd, 1) := by decide +kernel
theorem dX5_undo_54 : decode cX5_undo 54 = .ok (.iaload, 1) := by decide +kernel
theorem dX5_undo_55 : decode cX5_undo 55 = .ok (.iastore, 1) := by decide +kernel
theorem dX5_undo_56 : decode cX5_undo 56 = .ok (.iinc 1 1, 3) := by decide +kernel
theorem dX5_undo_59 : decode cX5_undo 59 = .ok (.goto (-29), 3) := by decide +kernel
theorem dX5_undo_62 : decode cX5_undo 62 = .ok (.aload_n 0, 1) := by decide +kernel
theorem dX5_undo_63 : decode cX5_undo 63 = .ok (.getfield 33, 3) := by decide +kernel
theorem dX5_undo_66 : decode cX5_undo 66 = .ok (.ireturn, 1) := by decide +kernel
set_option maxRecDepth 20000 in
theorem ggX5_change_X5_of : GoodIn wsX5_change wsX5_of := goodIn_r _ [5, 6, 7, 8, 9, 10, 11, 12, 13, 14, 15, 16, 17, 18] (by decide +kernel) (by decide +kernel)
set_option maxRecDepth 20000 in
theorem gX5_change_X5_of : GoodIn wsX5_change (wsV RX5 40 RX5 yX5_of wsX5_of) := goodIn_app (goodIn_of _ (by decide +kernel)) ggX5_change_X5_of
theorem dX5_change_0 : decode cX5_change 0 = .ok (.aload_n 0, 1) := by decide +kernel
theorem dX5_change_1 : decode cX5_change 1 = .ok (.iload_n 1, 1) := by decide +kernel
theorem dX5_change_2 : decode cX5_change 2 = .ok (.iconst 1, 1) := by decide +kernel
theorem dX5_change_3 : decode cX5_change 3 = .ok (.invokevirtual 40, 3) := by decide +kernel
theorem dX5_change_6 : decode cX5_change 6 = .ok (.iload_n 2, 1) := by decide +kernel
theorem dX5_change_7 : decode cX5_change 7 = .ok (.if_icmp .ne 12, 3) := by decide +kernel
theorem dX5_change_10 : decode cX5_change 10 = .ok (.aload_n 0, 1) := by decide +kernel
theorem dX5_change_11 : decode cX5_change 11 = .ok (.iload_n 1, 1) := by decide +kernel
theorem dX5_change_12 : decode cX5_change 12 = .ok (.iconst 2, 1) := by decide +kernel
theorem dX5_change_13 : decode cX5_change 13 = .ok (.invokevirtual 40, 3) := by decide +kernel
theorem dX5_change_16 : decode cX5_change 16 = .ok (.goto 24, 3) := by decide +kernel
theorem dX5_change_19 : decode cX5_change 19 = .ok (.aload_n 0, 1) := by decide +kernel
theorem dX5_change_20 : decode cX5_change 20 = .ok (.iload_n 1, 1) := by decide +kernel
theorem dX5_change_21 : decode cX5_change 21 = .ok (.iconst 3, 1) := by decide +kernel
theorem dX5_change_22 : decode cX5_change 22 = .ok (.invokevirtual 40, 3) := by decide +kernel
theorem dX5_change_25 : decode cX5_change 25 = .ok (.iload_n 2, 1) := by decide +kernel
theorem dX5_change_26 : decode cX5_change 26 = .ok (.if_icmp .ne 13, 3) := by decide +kernel
theorem dX5_change_29 : decode cX5_change 29 = .ok (.aload_n 0, 1) := by decide +kernel
theorem dX5_change_30 : decode cX5_change 30 = .ok (.iload_n 1, 1) := by decide +kernel
theorem dX5_change_31 : decode cX5_change 31 = .ok (.iconst 2, 1) := by decide +kernel
theorem dX5_change_32 : decode cX5_change 32 = .ok (.invokevirtual 40, 3) := by decide +kernel
theorem dX5_change_35 : decode cX5_change 35 = .ok (.ineg, 1) := by decide +kernel
theorem dX5_change_36 : decode cX5_change 36 = .ok (.goto 4, 3) := by decide +kernel
theorem dX5_change_39 : decode cX5_change 39 = .ok (.iconst 0, 1) := by decide +kernel
theorem dX5_change_40 : decode cX5_change 40 = .ok (.ireturn, 1) := by decide +kernel
set_option maxRecDepth 20000 in
theorem ggX5_sum_X5_change : GoodIn wsX5_sum wsX5_change := goodIn_r _ [6, 7, 8, 9, 5, 10, 1, 11, 12, 13, 14, 15, 16, 17, 18, 19, 20, 21, 22] (by decide +kernel) (by decide +kernel)
set_option maxRecDepth 20000 in
theorem gX5_sum_X5_change : GoodIn wsX5_sum (wsV RX5 44 RX5 yX5_change wsX5_change) := goodIn_app (goodIn_of _ (by decide +kernel)) ggX5_sum_X5_change
set_option maxRecDepth 20000 in
theorem ggX5_sum_X5_of : GoodIn wsX5_sum wsX5_of := goodIn_r _ [10, 1, 11, 12, 13, 14, 15, 16, 17, 18, 19, 20, 21, 22] (by decide +kernel) (by decide +kernel)
set_option maxRecDepth 20000 in
theorem gX5_sum_X5_of : GoodIn wsX5_sum (wsV RX5 40 RX5 yX5_of wsX5_of) := goodIn_app (goodIn_of _ (by decide +kernel)) ggX5_sum_X5_of
theorem dX5_sum_0 : decode cX5_sum 0 = .ok (.iconst 0, 1) := by decide +kernel
theorem dX5_sum_1 : decode cX5_sum 1 = .ok (.istore 4, 2) := by decide +kernel
theorem dX5_sum_3 : decode cX5_sum 3 = .ok (.iconst 0, 1) := by decide +kernel
theorem dX5_sum_4 : decode cX5_sum 4 = .ok (.istore 5, 2) := by decide +kernel
theorem dX5_sum_6 : decode cX5_sum 6 = .ok (.iload 5, 2) := by decide +kernel
theorem dX5_sum_8 : decode cX5_sum 8 = .ok (.aload_n 0, 1) := by decide +kernel
theorem dX5_sum_9 : decode cX5_sum 9 = .ok (.getfield 7, 3) := by decide +kernel
theorem dX5_sum_12 : decode cX5_sum 12 = .ok (.iconst 3, 1) := by decide +kernel
theorem dX5_sum_13 : decode cX5_sum 13 = .ok (.iaload, 1) := by decide +kernel
theorem dX5_sum_14 : decode cX5_sum 14 = .ok (.if_icmp .ge 47, 3) := by decide +kernel
theorem dX5_sum_17 : decode cX5_sum 17 = .ok (.aload_n 0, 1) := by decide +kernel
theorem dX5_sum_18 : decode cX5_sum 18 = .ok (.iload 5, 2) := by decide +kernel
theorem dX5_sum_20 : decode cX5_sum 20 = .ok (.iload_n 1, 1) := by decide +kernel
theorem dX5_sum_21 : decode cX5_sum 21 = .ok (.invokevirtual 44, 3) := by decide +kernel
theorem dX5_sum_24 : decode cX5_sum 24 = .ok (.istore 6, 2) := by decide +kernel
theorem dX5_sum_26 : decode cX5_sum 26 = .ok (.iload 4, 2) := by decide +kernel
theorem dX5_sum_28 : decode cX5_sum 28 = .ok (.aload_n 0, 1) := by decide +kernel
theorem dX5_sum_29 : decode cX5_sum 29 = .ok (.iload 5, 2) := by decide +kernel
theorem dX5_sum_31 : decode cX5_sum 31 = .ok (.iconst 4, 1) := by decide +kernel
theorem dX5_sum_32 : decode cX5_sum 32 = .ok (.invokevirtual 40, 3) := by decide +kernel
theorem dX5_sum_35 : decode cX5_sum 35 = .ok (.iload_n 3, 1) := by decide +kernel
theorem dX5_sum_36 : decode cX5_sum 36 = .ok (.if_icmp .le 15, 3) := by decide +kernel
theorem dX5_sum_39 : decode cX5_sum 39 = .ok (.iload 6, 2) := by decide +kernel
theorem dX5_sum_41 : decode cX5_sum 41 = .ok (.iload_n 2, 1) := by decide +kernel
theorem dX5_sum_42 : decode cX5_sum 42 = .ok (.imul, 1) := by decide +kernel
theorem dX5_sum_43 : decode cX5_sum 43 = .ok (.ifCond .lt 8, 3) := by decide +kernel
theorem dX5_sum_46 : decode cX5_sum 46 = .ok (.iload 6, 2) := by decide +kernel
theorem dX5_sum_48 : decode cX5_sum 48 = .ok (.goto 4, 3) := by decide +kernel
theorem dX5_sum_51 : decode cX5_sum 51 = .ok (.iconst 0, 1) := by decide +kernel
theorem dX5_sum_52 : decode cX5_sum 52 = .ok (.iadd, 1) := by decide +kernel
theorem dX5_sum_53 : decode cX5_sum 53 = .ok (.istore 4, 2) := by decide +kernel
theorem dX5_sum_55 : decode cX5_sum 55 = .ok (.iinc 5 1, 3) := by decide +kernel
theorem dX5_sum_58 : decode cX5_sum 58 = .ok (.goto (-52), 3) := by decide +kernel
theorem dX5_sum_61 : decode cX5_sum 61 = .ok (.iload 4, 2) := by decide +kernel
theorem dX5_sum_63 : decode cX5_sum 63 = .ok (.ireturn, 1) := by decide +kernel
set_option maxRecDepth 20000 in
theorem ggX5_low_X5_sum : GoodIn wsX5_low wsX5_sum := goodIn_r _ [6, 1, 7, 8, 9, 5, 10, 11, 12, 13, 14, 15, 16, 17, 18, 19, 20, 21, 22, 23, 24, 25, 26] (by decide +kernel) (by decide +kernel)
set_option maxRecDepth 20000 in
theorem gX5_low_X5_sum : GoodIn wsX5_low (wsV RX5 47 RX5 yX5_sum wsX5_sum) := goodIn_app (goodIn_of _ (by decide +kernel)) ggX5_low_X5_sum
theorem dX5_low_0 : decode cX5_low 0 = .ok (.aload_n 0, 1) := by decide +kernel
theorem dX5_low_1 : decode cX5_low 1 = .ok (.getfield 7, 3) := by decide +kernel
theorem dX5_low_4 : decode cX5_low 4 = .ok (.iconst 5, 1) := by decide +kernel
theorem dX5_low_5 : decode cX5_low 5 = .ok (.iload_n 1, 1) := by decide +kernel
theorem dX5_low_6 : decode cX5_low 6 = .ok (.iadd, 1) := by decide +kernel
theorem dX5_low_7 : decode cX5_low 7 = .ok (.iaload, 1) := by decide +kernel
theorem dX5_low_8 : decode cX5_low 8 = .ok (.aload_n 0, 1) := by decide +kernel
theorem dX5_low_9 : decode cX5_low 9 = .ok (.iload_n 1, 1) := by decide +kernel
theorem dX5_low_10 : decode cX5_low 10 = .ok (.iconst (-1), 1) := by decide +kernel
theorem dX5_low_11 : decode cX5_low 11 = .ok (.aload_n 0, 1) := by decide +kernel
theorem dX5_low_12 : decode cX5_low 12 = .ok (.getfield 7, 3) := by decide +kernel
theorem dX5_low_15 : decode cX5_low 15 = .ok (.iconst 0, 1) := by decide +kernel
theorem dX5_low_16 : decode cX5_low 16 = .ok (.iaload, 1) := by decide +kernel
theorem dX5_low_17 : decode cX5_low 17 = .ok (.invokevirtual 47, 3) := by decide +kernel
theorem dX5_low_20 : decode cX5_low 20 = .ok (.iadd, 1) := by decide +kernel
theorem dX5_low_21 : decode cX5_low 21 = .ok (.ireturn, 1) := by decide +kernel
set_option maxRecDepth 20000 in
theorem ggX5_high_X5_sum : GoodIn wsX5_high wsX5_sum := goodIn_r _ [6, 1, 7, 8, 9, 5, 10, 11, 12, 13, 14, 15, 16, 17, 18, 19, 20, 21, 22, 23, 24, 25, 26] (by decide +kernel) (by decide +kernel)
set_option maxRecDepth 20000 in
theorem gX5_high_X5_sum : GoodIn wsX5_high (wsV RX5 47 RX5 yX5_sum wsX5_sum) := goodIn_app (goodIn_of _ (by decide +kernel)) ggX5_high_X5_sum
theorem dX5_high_0 : decode cX5_high 0 = .ok (.aload_n 0, 1) := by decide +kernel
theorem dX5_high_1 : decode cX5_high 1 = .ok (.getfield 7, 3) := by decide +kernel
theorem dX5_high_4 : decode cX5_high 4 = .ok (.iconst 5, 1) := by decide +kernel
theorem dX5_high_5 : decode cX5_high 5 = .ok (.iload_n 1, 1) := by decide +kernel
theorem dX5_high_6 : decode cX5_high 6 = .ok (.iadd, 1) := by decide +kernel
theorem dX5_high_7 : decode cX5_high 7 = .ok (.iaload, 1) := by decide +kernel
theorem dX5_high_8 : decode cX5_high 8 = .ok (.aload_n 0, 1) := by decide +kernel
theorem dX5_high_9 : decode cX5_high 9 = .ok (.iload_n 1, 1) := by decide +kernel
theorem dX5_high_10 : decode cX5_high 10 = .ok (.iconst 1, 1) := by decide +kernel
theorem dX5_high_11 : decode cX5_high 11 = .ok (.aload_n 0, 1) := by decide +kernel
theorem dX5_high_12 : decode cX5_high 12 = .ok (.getfield 7, 3) := by decide +kernel
theorem dX5_high_15 : decode cX5_high 15 = .ok (.iconst 0, 1) := by decide +kernel
theorem dX5_high_16 : decode cX5_high 16 = .ok (.iaload, 1) := by decide +kernel
theorem dX5_high_17 : decode cX5_high 17 = .ok (.invokevirtual 47, 3) := by decide +kernel
theorem dX5_high_20 : decode cX5_high 20 = .ok (.iadd, 1) := by decide +kernel
theorem dX5_high_21 : decode cX5_high 21 = .ok (.ireturn, 1) := by decide +kernel
set_option maxRecDepth 20000 in
theorem ggX5_promisesOf_X5_of : GoodIn wsX5_promisesOf wsX5_of := goodIn_r _ [6, 1, 7, 8, 9, 10, 11, 12, 13, 14, 15, 16, 17, 18] (by decide +kernel) (by decide +kernel)
set_option maxRecDepth 20000 in
theorem gX5_promisesOf_X5_of : GoodIn wsX5_promisesOf (wsV RX5 40 RX5 yX5_of wsX5_of) := goodIn_app (goodIn_of _ (by decide +kernel)) ggX5_promisesOf_X5_of
theorem dX5_promisesOf_0 : decode cX5_promisesOf 0 = .ok (.iconst 0, 1) := by decide +kernel
theorem dX5_promisesOf_1 : decode cX5_promisesOf 1 = .ok (.istore_n 2, 1) := by decide +kernel
theorem dX5_promisesOf_2 : decode cX5_promisesOf 2 = .ok (.iconst 0, 1) := by decide +kernel
theorem dX5_promisesOf_3 : decode cX5_promisesOf 3 = .ok (.istore_n 3, 1) := by decide +kernel
theorem dX5_promisesOf_4 : decode cX5_promisesOf 4 = .ok (.iload_n 3, 1) := by decide +kernel
theorem dX5_promisesOf_5 : decode cX5_promisesOf 5 = .ok (.aload_n 0, 1) := by decide +kernel
theorem dX5_promisesOf_6 : decode cX5_promisesOf 6 = .ok (.getfield 7, 3) := by decide +kernel
theorem dX5_promisesOf_9 : decode cX5_promisesOf 9 = .ok (.iconst 3, 1) := by decide +kernel
theorem dX5_promisesOf_10 : decode cX5_promisesOf 10 = .ok (.iaload, 1) := by decide +kernel
theorem dX5_promisesOf_11 : decode cX5_promisesOf 11 = .ok (.if_icmp .ge 27, 3) := by decide +kernel
theorem dX5_promisesOf_14 : decode cX5_promisesOf 14 = .ok (.iload_n 2, 1) := by decide +kernel
theorem dX5_promisesOf_15 : decode cX5_promisesOf 15 = .ok (.aload_n 0, 1) := by decide +kernel
theorem dX5_promisesOf_16 : decode cX5_promisesOf 16 = .ok (.iload_n 3, 1) := by decide +kernel
theorem dX5_promisesOf_17 : decode cX5_promisesOf 17 = .ok (.iconst 0, 1) := by decide +kernel
theorem dX5_promisesOf_18 : decode cX5_promisesOf 18 = .ok (.invokevirtual 40, 3) := by decide +kernel
theorem dX5_promisesOf_21 : decode cX5_promisesOf 21 = .ok (.iload_n 1, 1) := by decide +kernel
theorem dX5_promisesOf_22 : decode cX5_promisesOf 22 = .ok (.if_icmp .ne 7, 3) := by decide +kernel
theorem dX5_promisesOf_25 : decode cX5_promisesOf 25 = .ok (.iconst 1, 1) := by decide +kernel
theorem dX5_promisesOf_26 : decode cX5_promisesOf 26 = .ok (.goto 4, 3) := by decide +kernel
theorem dX5_promisesOf_29 : decode cX5_promisesOf 29 = .ok (.iconst 0, 1) := by decide +kernel
theorem dX5_promisesOf_30 : decode cX5_promisesOf 30 = .ok (.iadd, 1) := by decide +kernel
theorem dX5_promisesOf_31 : decode cX5_promisesOf 31 = .ok (.istore_n 2, 1) := by decide +kernel
theorem dX5_promisesOf_32 : decode cX5_promisesOf 32 = .ok (.iinc 3 1, 3) := by decide +kernel
theorem dX5_promisesOf_35 : decode cX5_promisesOf 35 = .ok (.goto (-31), 3) := by decide +kernel
theorem dX5_promisesOf_38 : decode cX5_promisesOf 38 = .ok (.iload_n 2, 1) := by decide +kernel
theorem dX5_promisesOf_39 : decode cX5_promisesOf 39 = .ok (.ireturn, 1) := by decide +kernel
set_option maxRecDepth 20000 in
theorem ggX5_reason_X5_promisesOf : GoodIn wsX5_reason wsX5_promisesOf := goodIn_r _ [6, 1, 7, 8, 9, 5, 10, 27, 28, 29, 30, 31, 32, 33, 34, 35, 36, 37, 38] (by decide +kernel) (by decide +kernel)
set_option maxRecDepth 20000 in
theorem gX5_reason_X5_promisesOf : GoodIn wsX5_reason (wsV RX5 51 RX5 yX5_promisesOf wsX5_promisesOf) := goodIn_app (goodIn_of _ (by decide +kernel)) ggX5_reason_X5_promisesOf
set_option maxRecDepth 20000 in
theorem ggX5_reason_X5_low : GoodIn wsX5_reason wsX5_low := goodIn_r _ [14, 1, 15, 16, 17, 5, 18, 19, 20, 21, 22, 7, 8, 9, 10, 27, 28, 29, 30, 31, 32, 33, 34, 35, 36, 37, 38] (by decide +kernel) (by decide +kernel)
set_option maxRecDepth 20000 in
theorem gX5_reason_X5_low : GoodIn wsX5_reason (wsV RX5 54 RX5 yX5_low wsX5_low) := goodIn_app (goodIn_of _ (by decide +kernel)) ggX5_reason_X5_low
set_option maxRecDepth 20000 in
theorem ggX5_reason_X5_high : GoodIn wsX5_reason wsX5_high := goodIn_r _ [26, 1, 15, 16, 17, 5, 18, 19, 20, 21, 22, 7, 8, 9, 10, 27, 28, 29, 30, 31, 32, 33, 34, 35, 36, 37, 38] (by decide +kernel) (by decide +kernel)
set_option maxRecDepth 20000 in
theorem gX5_reason_X5_high : GoodIn wsX5_reason (wsV RX5 57 RX5 yX5_high wsX5_high) := goodIn_app (goodIn_of _ (by decide +kernel)) ggX5_reason_X5_high
theorem dX5_reason_0 : decode cX5_reason 0 = .ok (.aload_n 0, 1) := by decide +kernel
theorem dX5_reason_1 : decode cX5_reason 1 = .ok (.getfield 7, 3) := by decide +kernel
theorem dX5_reason_4 : decode cX5_reason 4 = .ok (.iconst 3, 1) := by decide +kernel
theorem dX5_reason_5 : decode cX5_reason 5 = .ok (.iaload, 1) := by decide +kernel
theorem dX5_reason_6 : decode cX5_reason 6 = .ok (.bipush 16, 2) := by decide +kernel
theorem dX5_reason_8 : decode cX5_reason 8 = .ok (.if_icmp .ne 5, 3) := by decide +kernel
theorem dX5_reason_11 : decode cX5_reason 11 = .ok (.iconst 1, 1) := by decide +kernel
theorem dX5_reason_12 : decode cX5_reason 12 = .ok (.ireturn, 1) := by decide +kernel
theorem dX5_reason_13 : decode cX5_reason 13 = .ok (.aload_n 0, 1) := by decide +kernel
theorem dX5_reason_14 : decode cX5_reason 14 = .ok (.iload_n 1, 1) := by decide +kernel
theorem dX5_reason_15 : decode cX5_reason 15 = .ok (.invokevirtual 51, 3) := by decide +kernel
theorem dX5_reason_18 : decode cX5_reason 18 = .ok (.aload_n 0, 1) := by decide +kernel
theorem dX5_reason_19 : decode cX5_reason 19 = .ok (.getfield 7, 3) := by decide +kernel
theorem dX5_reason_22 : decode cX5_reason 22 = .ok (.iconst 1, 1) := by decide +kernel
theorem dX5_reason_23 : decode cX5_reason 23 = .ok (.iaload, 1) := by decide +kernel
theorem dX5_reason_24 : decode cX5_reason 24 = .ok (.if_icmp .lt 5, 3) := by decide +kernel
theorem dX5_reason_27 : decode cX5_reason 27 = .ok (.iconst 2, 1) := by decide +kernel
theorem dX5_reason_28 : decode cX5_reason 28 = .ok (.ireturn, 1) := by decide +kernel
theorem dX5_reason_29 : decode cX5_reason 29 = .ok (.iload_n 3, 1) := by decide +kernel
theorem dX5_reason_30 : decode cX5_reason 30 = .ok (.ifCond .ge 7, 3) := by decide +kernel
theorem dX5_reason_33 : decode cX5_reason 33 = .ok (.iload_n 2, 1) := by decide +kernel
theorem dX5_reason_34 : decode cX5_reason 34 = .ok (.goto 5, 3) := by decide +kernel
theorem dX5_reason_37 : decode cX5_reason 37 = .ok (.iload 4, 2) := by decide +kernel
theorem dX5_reason_39 : decode cX5_reason 39 = .ok (.istore 5, 2) := by decide +kernel
theorem dX5_reason_41 : decode cX5_reason 41 = .ok (.iload_n 3, 1) := by decide +kernel
theorem dX5_reason_42 : decode cX5_reason 42 = .ok (.ifCond .ge 8, 3) := by decide +kernel
theorem dX5_reason_45 : decode cX5_reason 45 = .ok (.iload 4, 2) := by decide +kernel
theorem dX5_reason_47 : decode cX5_reason 47 = .ok (.goto 4, 3) := by decide +kernel
theorem dX5_reason_50 : decode cX5_reason 50 = .ok (.iload_n 2, 1) := by decide +kernel
theorem dX5_reason_51 : decode cX5_reason 51 = .ok (.istore 6, 2) := by decide +kernel
theorem dX5_reason_53 : decode cX5_reason 53 = .ok (.iload_n 3, 1) := by decide +kernel
theorem dX5_reason_54 : decode cX5_reason 54 = .ok (.ifCond .ge 8, 3) := by decide +kernel
theorem dX5_reason_57 : decode cX5_reason 57 = .ok (.iload_n 3, 1) := by decide +kernel
theorem dX5_reason_58 : decode cX5_reason 58 = .ok (.ineg, 1) := by decide +kernel
theorem dX5_reason_59 : decode cX5_reason 59 = .ok (.goto 4, 3) := by decide +kernel
theorem dX5_reason_62 : decode cX5_reason 62 = .ok (.iload_n 3, 1) := by decide +kernel
theorem dX5_reason_63 : decode cX5_reason 63 = .ok (.istore 7, 2) := by decide +kernel
theorem dX5_reason_65 : decode cX5_reason 65 = .ok (.iload 5, 2) := by decide +kernel
theorem dX5_reason_67 : decode cX5_reason 67 = .ok (.iconst (-1), 1) := by decide +kernel
theorem dX5_reason_68 : decode cX5_reason 68 = .ok (.if_icmp .eq 27, 3) := by decide +kernel
theorem dX5_reason_71 : decode cX5_reason 71 = .ok (.aload_n 0, 1) := by decide +kernel
theorem dX5_reason_72 : decode cX5_reason 72 = .ok (.iload 5, 2) := by decide +kernel
theorem dX5_reason_74 : decode cX5_reason 74 = .ok (.invokevirtual 54, 3) := by decide +kernel
theorem dX5_reason_77 : decode cX5_reason 77 = .ok (.iload 7, 2) := by decide +kernel
theorem dX5_reason_79 : decode cX5_reason 79 = .ok (.isub, 1) := by decide +kernel
theorem dX5_reason_80 : decode cX5_reason 80 = .ok (.aload_n 0, 1) := by decide +kernel
theorem dX5_reason_81 : decode cX5_reason 81 = .ok (.getfield 7, 3) := by decide +kernel
theorem dX5_reason_84 : decode cX5_reason 84 = .ok (.bipush 9, 2) := by decide +kernel
theorem dX5_reason_86 : decode cX5_reason 86 = .ok (.iload 5, 2) := by decide +kernel
theorem dX5_reason_88 : decode cX5_reason 88 = .ok (.iadd, 1) := by decide +kernel
theorem dX5_reason_89 : decode cX5_reason 89 = .ok (.iaload, 1) := by decide +kernel
theorem dX5_reason_90 : decode cX5_reason 90 = .ok (.if_icmp .ge 5, 3) := by decide +kernel
theorem dX5_reason_93 : decode cX5_reason 93 = .ok (.iconst 3, 1) := by decide +kernel
theorem dX5_reason_94 : decode cX5_reason 94 = .ok (.ireturn, 1) := by decide +kernel
theorem dX5_reason_95 : decode cX5_reason 95 = .ok (.iload 6, 2) := by decide +kernel
theorem dX5_reason_97 : decode cX5_reason 97 = .ok (.iconst (-1), 1) := by decide +kernel
theorem dX5_reason_98 : decode cX5_reason 98 = .ok (.if_icmp .eq 29, 3) := by decide +kernel
theorem dX5_reason_101 : decode cX5_reason 101 = .ok (.aload_n 0, 1) := by decide +kernel
theorem dX5_reason_102 : decode cX5_reason 102 = .ok (.iload 6, 2) := by decide +kernel
theorem dX5_reason_104 : decode cX5_reason 104 = .ok (.invokevirtual 57, 3) := by decide +kernel
theorem dX5_reason_107 : decode cX5_reason 107 = .ok (.iload 7, 2) := by decide +kernel
theorem dX5_reason_109 : decode cX5_reason 109 = .ok (.iadd, 1) := by decide +kernel
theorem dX5_reason_110 : decode cX5_reason 110 = .ok (.aload_n 0, 1) := by decide +kernel
theorem dX5_reason_111 : decode cX5_reason 111 = .ok (.getfield 7, 3) := by decide +kernel
theorem dX5_reason_114 : decode cX5_reason 114 = .ok (.bipush 13, 2) := by decide +kernel
theorem dX5_reason_116 : decode cX5_reason 116 = .ok (.iload 6, 2) := by decide +kernel
theorem dX5_reason_118 : decode cX5_reason 118 = .ok (.iadd, 1) := by decide +kernel
theorem dX5_reason_119 : decode cX5_reason 119 = .ok (.iaload, 1) := by decide +kernel
theorem dX5_reason_120 : decode cX5_reason 120 = .ok (.if_icmp .le 7, 3) := by decide +kernel
theorem dX5_reason_123 : decode cX5_reason 123 = .ok (.iconst 4, 1) := by decide +kernel
theorem dX5_reason_124 : decode cX5_reason 124 = .ok (.goto 4, 3) := by decide +kernel
theorem dX5_reason_127 : decode cX5_reason 127 = .ok (.iconst 0, 1) := by decide +kernel
theorem dX5_reason_128 : decode cX5_reason 128 = .ok (.ireturn, 1) := by decide +kernel
theorem dX5_comes_0 : decode cX5_comes 0 = .ok (.bipush 35, 2) := by decide +kernel
theorem dX5_comes_2 : decode cX5_comes 2 = .ok (.iconst 5, 1) := by decide +kernel
theorem dX5_comes_3 : decode cX5_comes 3 = .ok (.aload_n 0, 1) := by decide +kernel
theorem dX5_comes_4 : decode cX5_comes 4 = .ok (.getfield 7, 3) := by decide +kernel
theorem dX5_comes_7 : decode cX5_comes 7 = .ok (.iconst 3, 1) := by decide +kernel
theorem dX5_comes_8 : decode cX5_comes 8 = .ok (.iaload, 1) := by decide +kernel
theorem dX5_comes_9 : decode cX5_comes 9 = .ok (.imul, 1) := by decide +kernel
theorem dX5_comes_10 : decode cX5_comes 10 = .ok (.iadd, 1) := by decide +kernel
theorem dX5_comes_11 : decode cX5_comes 11 = .ok (.istore 5, 2) := by decide +kernel
theorem dX5_comes_13 : decode cX5_comes 13 = .ok (.aload_n 0, 1) := by decide +kernel
theorem dX5_comes_14 : decode cX5_comes 14 = .ok (.getfield 7, 3) := by decide +kernel
theorem dX5_comes_17 : decode cX5_comes 17 = .ok (.iload 5, 2) := by decide +kernel
theorem dX5_comes_19 : decode cX5_comes 19 = .ok (.iload_n 1, 1) := by decide +kernel
theorem dX5_comes_20 : decode cX5_comes 20 = .ok (.iastore, 1) := by decide +kernel
theorem dX5_comes_21 : decode cX5_comes 21 = .ok (.aload_n 0, 1) := by decide +kernel
theorem dX5_comes_22 : decode cX5_comes 22 = .ok (.getfield 7, 3) := by decide +kernel
theorem dX5_comes_25 : decode cX5_comes 25 = .ok (.iload 5, 2) := by decide +kernel
theorem dX5_comes_27 : decode cX5_comes 27 = .ok (.iconst 1, 1) := by decide +kernel
theorem dX5_comes_28 : decode cX5_comes 28 = .ok (.iadd, 1) := by decide +kernel
theorem dX5_comes_29 : decode cX5_comes 29 = .ok (.iload_n 2, 1) := by decide +kernel
theorem dX5_comes_30 : decode cX5_comes 30 = .ok (.iastore, 1) := by decide +kernel
theorem dX5_comes_31 : decode cX5_comes 31 = .ok (.aload_n 0, 1) := by decide +kernel
theorem dX5_comes_32 : decode cX5_comes 32 = .ok (.getfield 7, 3) := by decide +kernel
theorem dX5_comes_35 : decode cX5_comes 35 = .ok (.iload 5, 2) := by decide +kernel
theorem dX5_comes_37 : decode cX5_comes 37 = .ok (.iconst 2, 1) := by decide +kernel
theorem dX5_comes_38 : decode cX5_comes 38 = .ok (.iadd, 1) := by decide +kernel
theorem dX5_comes_39 : decode cX5_comes 39 = .ok (.iload_n 3, 1) := by decide +kernel
theorem dX5_comes_40 : decode cX5_comes 40 = .ok (.iastore, 1) := by decide +kernel
theorem dX5_comes_41 : decode cX5_comes 41 = .ok (.aload_n 0, 1) := by decide +kernel
theorem dX5_comes_42 : decode cX5_comes 42 = .ok (.getfield 7, 3) := by decide +kernel
theorem dX5_comes_45 : decode cX5_comes 45 = .ok (.iload 5, 2) := by decide +kernel
theorem dX5_comes_47 : decode cX5_comes 47 = .ok (.iconst 3, 1) := by decide +kernel
theorem dX5_comes_48 : decode cX5_comes 48 = .ok (.iadd, 1) := by decide +kernel
theorem dX5_comes_49 : decode cX5_comes 49 = .ok (.iload 4, 2) := by decide +kernel
theorem dX5_comes_51 : decode cX5_comes 51 = .ok (.iastore, 1) := by decide +kernel
theorem dX5_comes_52 : decode cX5_comes 52 = .ok (.aload_n 0, 1) := by decide +kernel
theorem dX5_comes_53 : decode cX5_comes 53 = .ok (.getfield 7, 3) := by decide +kernel
theorem dX5_comes_56 : decode cX5_comes 56 = .ok (.iload 5, 2) := by decide +kernel
theorem dX5_comes_58 : decode cX5_comes 58 = .ok (.iconst 4, 1) := by decide +kernel
theorem dX5_comes_59 : decode cX5_comes 59 = .ok (.iadd, 1) := by decide +kernel
theorem dX5_comes_60 : decode cX5_comes 60 = .ok (.aload_n 0, 1) := by decide +kernel
theorem dX5_comes_61 : decode cX5_comes 61 = .ok (.getfield 7, 3) := by decide +kernel
theorem dX5_comes_64 : decode cX5_comes 64 = .ok (.iconst 0, 1) := by decide +kernel
theorem dX5_comes_65 : decode cX5_comes 65 = .ok (.iaload, 1) := by decide +kernel
theorem dX5_comes_66 : decode cX5_comes 66 = .ok (.aload_n 0, 1) := by decide +kernel
theorem dX5_comes_67 : decode cX5_comes 67 = .ok (.getfield 7, 3) := by decide +kernel
theorem dX5_comes_70 : decode cX5_comes 70 = .ok (.iconst 2, 1) := by decide +kernel
theorem dX5_comes_71 : decode cX5_comes 71 = .ok (.iaload, 1) := by decide +kernel
theorem dX5_comes_72 : decode cX5_comes 72 = .ok (.iadd, 1) := by decide +kernel
theorem dX5_comes_73 : decode cX5_comes 73 = .ok (.iastore, 1) := by decide +kernel
theorem dX5_comes_74 : decode cX5_comes 74 = .ok (.aload_n 0, 1) := by decide +kernel
theorem dX5_comes_75 : decode cX5_comes 75 = .ok (.getfield 7, 3) := by decide +kernel
theorem dX5_comes_78 : decode cX5_comes 78 = .ok (.iconst 3, 1) := by decide +kernel
theorem dX5_comes_79 : decode cX5_comes 79 = .ok (.dup2, 1) := by decide +kernel
theorem dX5_comes_80 : decode cX5_comes 80 = .ok (.iaload, 1) := by decide +kernel
theorem dX5_comes_81 : decode cX5_comes 81 = .ok (.iconst 1, 1) := by decide +kernel
theorem dX5_comes_82 : decode cX5_comes 82 = .ok (.iadd, 1) := by decide +kernel
theorem dX5_comes_83 : decode cX5_comes 83 = .ok (.iastore, 1) := by decide +kernel
theorem dX5_comes_84 : decode cX5_comes 84 = .ok (.aload_n 0, 1) := by decide +kernel
theorem dX5_comes_85 : decode cX5_comes 85 = .ok (.getfield 7, 3) := by decide +kernel
theorem dX5_comes_88 : decode cX5_comes 88 = .ok (.iconst 4, 1) := by decide +kernel
theorem dX5_comes_89 : decode cX5_comes 89 = .ok (.dup2, 1) := by decide +kernel
theorem dX5_comes_90 : decode cX5_comes 90 = .ok (.iaload, 1) := by decide +kernel
theorem dX5_comes_91 : decode cX5_comes 91 = .ok (.iconst 1, 1) := by decide +kernel
theorem dX5_comes_92 : decode cX5_comes 92 = .ok (.iadd, 1) := by decide +kernel
theorem dX5_comes_93 : decode cX5_comes 93 = .ok (.iastore, 1) := by decide +kernel
theorem dX5_comes_94 : decode cX5_comes 94 = .ok (.aload_n 0, 1) := by decide +kernel
theorem dX5_comes_95 : decode cX5_comes 95 = .ok (.getfield 7, 3) := by decide +kernel
theorem dX5_comes_98 : decode cX5_comes 98 = .ok (.iconst 3, 1) := by decide +kernel
theorem dX5_comes_99 : decode cX5_comes 99 = .ok (.iaload, 1) := by decide +kernel
theorem dX5_comes_100 : decode cX5_comes 100 = .ok (.iconst 1, 1) := by decide +kernel
theorem dX5_comes_101 : decode cX5_comes 101 = .ok (.isub, 1) := by decide +kernel
theorem dX5_comes_102 : decode cX5_comes 102 = .ok (.ireturn, 1) := by decide +kernel
set_option maxRecDepth 20000 in
theorem ggX5_ends_X5_of : GoodIn wsX5_ends wsX5_of := goodIn_r _ [6, 1, 7, 8, 9, 10, 11, 12, 13, 14, 15, 16, 17, 18] (by decide +kernel) (by decide +kernel)
set_option maxRecDepth 20000 in
theorem gX5_ends_X5_of : GoodIn wsX5_ends (wsV RX5 40 RX5 yX5_of wsX5_of) := goodIn_app (goodIn_of _ (by decide +kernel)) ggX5_ends_X5_of
theorem dX5_ends_0 : decode cX5_ends 0 = .ok (.aload_n 0, 1) := by decide +kernel
theorem dX5_ends_1 : decode cX5_ends 1 = .ok (.getfield 7, 3) := by decide +kernel
theorem dX5_ends_4 : decode cX5_ends 4 = .ok (.iload_n 2, 1) := by decide +kernel
theorem dX5_ends_5 : decode cX5_ends 5 = .ok (.aload_n 0, 1) := by decide +kernel
theorem dX5_ends_6 : decode cX5_ends 6 = .ok (.iload_n 1, 1) := by decide +kernel
theorem dX5_ends_7 : decode cX5_ends 7 = .ok (.iconst 0, 1) := by decide +kernel
theorem dX5_ends_8 : decode cX5_ends 8 = .ok (.invokevirtual 40, 3) := by decide +kernel
theorem dX5_ends_11 : decode cX5_ends 11 = .ok (.iadd, 1) := by decide +kernel
theorem dX5_ends_12 : decode cX5_ends 12 = .ok (.dup2, 1) := by decide +kernel
theorem dX5_ends_13 : decode cX5_ends 13 = .ok (.iaload, 1) := by decide +kernel
theorem dX5_ends_14 : decode cX5_ends 14 = .ok (.iconst 1, 1) := by decide +kernel
theorem dX5_ends_15 : decode cX5_ends 15 = .ok (.iadd, 1) := by decide +kernel
theorem dX5_ends_16 : decode cX5_ends 16 = .ok (.iastore, 1) := by decide +kernel
theorem dX5_ends_17 : decode cX5_ends 17 = .ok (.aload_n 0, 1) := by decide +kernel
theorem dX5_ends_18 : decode cX5_ends 18 = .ok (.getfield 7, 3) := by decide +kernel
theorem dX5_ends_21 : decode cX5_ends 21 = .ok (.iconst 3, 1) := by decide +kernel
theorem dX5_ends_22 : decode cX5_ends 22 = .ok (.dup2, 1) := by decide +kernel
theorem dX5_ends_23 : decode cX5_ends 23 = .ok (.iaload, 1) := by decide +kernel
theorem dX5_ends_24 : decode cX5_ends 24 = .ok (.iconst 1, 1) := by decide +kernel
theorem dX5_ends_25 : decode cX5_ends 25 = .ok (.isub, 1) := by decide +kernel
theorem dX5_ends_26 : decode cX5_ends 26 = .ok (.iastore, 1) := by decide +kernel
theorem dX5_ends_27 : decode cX5_ends 27 = .ok (.bipush 35, 2) := by decide +kernel
theorem dX5_ends_29 : decode cX5_ends 29 = .ok (.iconst 5, 1) := by decide +kernel
theorem dX5_ends_30 : decode cX5_ends 30 = .ok (.iload_n 1, 1) := by decide +kernel
theorem dX5_ends_31 : decode cX5_ends 31 = .ok (.imul, 1) := by decide +kernel
theorem dX5_ends_32 : decode cX5_ends 32 = .ok (.iadd, 1) := by decide +kernel
theorem dX5_ends_33 : decode cX5_ends 33 = .ok (.istore_n 3, 1) := by decide +kernel
theorem dX5_ends_34 : decode cX5_ends 34 = .ok (.iload_n 3, 1) := by decide +kernel
theorem dX5_ends_35 : decode cX5_ends 35 = .ok (.bipush 35, 2) := by decide +kernel
theorem dX5_ends_37 : decode cX5_ends 37 = .ok (.iconst 5, 1) := by decide +kernel
theorem dX5_ends_38 : decode cX5_ends 38 = .ok (.aload_n 0, 1) := by decide +kernel
theorem dX5_ends_39 : decode cX5_ends 39 = .ok (.getfield 7, 3) := by decide +kernel
theorem dX5_ends_42 : decode cX5_ends 42 = .ok (.iconst 3, 1) := by decide +kernel
theorem dX5_ends_43 : decode cX5_ends 43 = .ok (.iaload, 1) := by decide +kernel
theorem dX5_ends_44 : decode cX5_ends 44 = .ok (.imul, 1) := by decide +kernel
theorem dX5_ends_45 : decode cX5_ends 45 = .ok (.iadd, 1) := by decide +kernel
theorem dX5_ends_46 : decode cX5_ends 46 = .ok (.if_icmp .ge 23, 3) := by decide +kernel
theorem dX5_ends_49 : decode cX5_ends 49 = .ok (.aload_n 0, 1) := by decide +kernel
theorem dX5_ends_50 : decode cX5_ends 50 = .ok (.getfield 7, 3) := by decide +kernel
theorem dX5_ends_53 : decode cX5_ends 53 = .ok (.iload_n 3, 1) := by decide +kernel
theorem dX5_ends_54 : decode cX5_ends 54 = .ok (.aload_n 0, 1) := by decide +kernel
theorem dX5_ends_55 : decode cX5_ends 55 = .ok (.getfield 7, 3) := by decide +kernel
theorem dX5_ends_58 : decode cX5_ends 58 = .ok (.iload_n 3, 1) := by decide +kernel
theorem dX5_ends_59 : decode cX5_ends 59 = .ok (.iconst 5, 1) := by decide +kernel
theorem dX5_ends_60 : decode cX5_ends 60 = .ok (.iadd, 1) := by decide +kernel
theorem dX5_ends_61 : decode cX5_ends 61 = .ok (.iaload, 1) := by decide +kernel
theorem dX5_ends_62 : decode cX5_ends 62 = .ok (.iastore, 1) := by decide +kernel
theorem dX5_ends_63 : decode cX5_ends 63 = .ok (.iinc 3 1, 3) := by decide +kernel
theorem dX5_ends_66 : decode cX5_ends 66 = .ok (.goto (-32), 3) := by decide +kernel
theorem dX5_ends_69 : decode cX5_ends 69 = .ok (.return_, 1) := by decide +kernel
set_option maxRecDepth 20000 in
theorem ggX5_adds_X5_of : GoodIn wsX5_adds wsX5_of := goodIn_r _ [6, 1, 7, 8, 9, 10, 11, 12, 13, 14, 15, 16, 17, 18] (by decide +kernel) (by decide +kernel)
set_option maxRecDepth 20000 in
theorem gX5_adds_X5_of : GoodIn wsX5_adds (wsV RX5 40 RX5 yX5_of wsX5_of) := goodIn_app (goodIn_of _ (by decide +kernel)) ggX5_adds_X5_of
theorem dX5_adds_0 : decode cX5_adds 0 = .ok (.aload_n 0, 1) := by decide +kernel
theorem dX5_adds_1 : decode cX5_adds 1 = .ok (.getfield 7, 3) := by decide +kernel
theorem dX5_adds_4 : decode cX5_adds 4 = .ok (.iconst 5, 1) := by decide +kernel
theorem dX5_adds_5 : decode cX5_adds 5 = .ok (.aload_n 0, 1) := by decide +kernel
theorem dX5_adds_6 : decode cX5_adds 6 = .ok (.iload_n 1, 1) := by decide +kernel
theorem dX5_adds_7 : decode cX5_adds 7 = .ok (.iconst 1, 1) := by decide +kernel
theorem dX5_adds_8 : decode cX5_adds 8 = .ok (.invokevirtual 40, 3) := by decide +kernel
theorem dX5_adds_11 : decode cX5_adds 11 = .ok (.iadd, 1) := by decide +kernel
theorem dX5_adds_12 : decode cX5_adds 12 = .ok (.dup2, 1) := by decide +kernel
theorem dX5_adds_13 : decode cX5_adds 13 = .ok (.iaload, 1) := by decide +kernel
theorem dX5_adds_14 : decode cX5_adds 14 = .ok (.iload_n 2, 1) := by decide +kernel
theorem dX5_adds_15 : decode cX5_adds 15 = .ok (.iadd, 1) := by decide +kernel
theorem dX5_adds_16 : decode cX5_adds 16 = .ok (.iastore, 1) := by decide +kernel
theorem dX5_adds_17 : decode cX5_adds 17 = .ok (.aload_n 0, 1) := by decide +kernel
theorem dX5_adds_18 : decode cX5_adds 18 = .ok (.iload_n 1, 1) := by decide +kernel
theorem dX5_adds_19 : decode cX5_adds 19 = .ok (.iconst 3, 1) := by decide +kernel
theorem dX5_adds_20 : decode cX5_adds 20 = .ok (.invokevirtual 40, 3) := by decide +kernel
theorem dX5_adds_23 : decode cX5_adds 23 = .ok (.iconst (-1), 1) := by decide +kernel
theorem dX5_adds_24 : decode cX5_adds 24 = .ok (.if_icmp .eq 20, 3) := by decide +kernel
theorem dX5_adds_27 : decode cX5_adds 27 = .ok (.aload_n 0, 1) := by decide +kernel
theorem dX5_adds_28 : decode cX5_adds 28 = .ok (.getfield 7, 3) := by decide +kernel
theorem dX5_adds_31 : decode cX5_adds 31 = .ok (.iconst 5, 1) := by decide +kernel
theorem dX5_adds_32 : decode cX5_adds 32 = .ok (.aload_n 0, 1) := by decide +kernel
theorem dX5_adds_33 : decode cX5_adds 33 = .ok (.iload_n 1, 1) := by decide +kernel
theorem dX5_adds_34 : decode cX5_adds 34 = .ok (.iconst 3, 1) := by decide +kernel
theorem dX5_adds_35 : decode cX5_adds 35 = .ok (.invokevirtual 40, 3) := by decide +kernel
theorem dX5_adds_38 : decode cX5_adds 38 = .ok (.iadd, 1) := by decide +kernel
theorem dX5_adds_39 : decode cX5_adds 39 = .ok (.dup2, 1) := by decide +kernel
theorem dX5_adds_40 : decode cX5_adds 40 = .ok (.iaload, 1) := by decide +kernel
theorem dX5_adds_41 : decode cX5_adds 41 = .ok (.iload_n 2, 1) := by decide +kernel
theorem dX5_adds_42 : decode cX5_adds 42 = .ok (.isub, 1) := by decide +kernel
theorem dX5_adds_43 : decode cX5_adds 43 = .ok (.iastore, 1) := by decide +kernel
theorem dX5_adds_44 : decode cX5_adds 44 = .ok (.return_, 1) := by decide +kernel
set_option maxRecDepth 20000 in
theorem ggX5_settles_X5_of : GoodIn wsX5_settles wsX5_of := goodIn_r _ [5, 6, 15, 16, 17, 18, 19, 20, 21, 22, 23, 24, 25, 26] (by decide +kernel) (by decide +kernel)
set_option maxRecDepth 20000 in
theorem gX5_settles_X5_of : GoodIn wsX5_settles (wsV RX5 40 RX5 yX5_of wsX5_of) := goodIn_app (goodIn_of _ (by decide +kernel)) ggX5_settles_X5_of
set_option maxRecDepth 20000 in
theorem ggX5_settles_X5_adds : GoodIn wsX5_settles wsX5_adds := goodIn_r _ [10, 6, 1, 2, 3, 4, 5, 15, 16, 17, 18, 19, 20, 21, 22, 23, 24, 25, 26] (by decide +kernel) (by decide +kernel)
set_option maxRecDepth 20000 in
theorem gX5_settles_X5_adds : GoodIn wsX5_settles (wsV RX5 60 RX5 yX5_adds wsX5_adds) := goodIn_app (goodIn_of _ (by decide +kernel)) ggX5_settles_X5_adds
set_option maxRecDepth 20000 in
theorem ggX5_settles_X5_ends : GoodIn wsX5_settles wsX5_ends := goodIn_r _ [14, 6, 1, 2, 3, 4, 5, 15, 16, 17, 18, 19, 20, 21, 22, 23, 24, 25, 26] (by decide +kernel) (by decide +kernel)
set_option maxRecDepth 20000 in
theorem gX5_settles_X5_ends : GoodIn wsX5_settles (wsV RX5 64 RX5 yX5_ends wsX5_ends) := goodIn_app (goodIn_of _ (by decide +kernel)) ggX5_settles_X5_ends
theorem dX5_settles_0 : decode cX5_settles 0 = .ok (.aload_n 0, 1) := by decide +kernel
theorem dX5_settles_1 : decode cX5_settles 1 = .ok (.iload_n 1, 1) := by decide +kernel
theorem dX5_settles_2 : decode cX5_settles 2 = .ok (.aload_n 0, 1) := by decide +kernel
theorem dX5_settles_3 : decode cX5_settles 3 = .ok (.iload_n 1, 1) := by decide +kernel
theorem dX5_settles_4 : decode cX5_settles 4 = .ok (.iconst 2, 1) := by decide +kernel
theorem dX5_settles_5 : decode cX5_settles 5 = .ok (.invokevirtual 40, 3) := by decide +kernel
theorem dX5_settles_8 : decode cX5_settles 8 = .ok (.invokevirtual 60, 3) := by decide +kernel
theorem dX5_settles_11 : decode cX5_settles 11 = .ok (.aload_n 0, 1) := by decide +kernel
theorem dX5_settles_12 : decode cX5_settles 12 = .ok (.iload_n 1, 1) := by decide +kernel
theorem dX5_settles_13 : decode cX5_settles 13 = .ok (.bipush 17, 2) := by decide +kernel
theorem dX5_settles_15 : decode cX5_settles 15 = .ok (.invokevirtual 64, 3) := by decide +kernel
theorem dX5_settles_18 : decode cX5_settles 18 = .ok (.return_, 1) := by decide +kernel
set_option maxRecDepth 20000 in
theorem ggX5_bounds_X5_isCounter : GoodIn wsX5_bounds wsX5_isCounter := goodIn_r _ [6, 7, 8, 5, 9] (by decide +kernel) (by decide +kernel)
set_option maxRecDepth 20000 in
theorem gX5_bounds_X5_isCounter : GoodIn wsX5_bounds (va_wsS RX5 67 yX5_isCounter wsX5_isCounter) := goodIn_app (goodIn_of _ (by decide +kernel)) ggX5_bounds_X5_isCounter
set_option maxRecDepth 20000 in
theorem ggX5_bounds_X5_fails : GoodIn wsX5_bounds wsX5_fails := goodIn_r _ [13, 1, 40, 41, 42, 43, 44, 45, 46, 47, 48, 49, 50, 51] (by decide +kernel) (by decide +kernel)
set_option maxRecDepth 20000 in
theorem gX5_bounds_X5_fails : GoodIn wsX5_bounds (wsV RX5 36 RX5 yX5_fails wsX5_fails) := goodIn_app (goodIn_of _ (by decide +kernel)) ggX5_bounds_X5_fails
set_option maxRecDepth 20000 in
theorem ggX5_bounds_X5_in : GoodIn wsX5_bounds wsX5_in := goodIn_r _ [9] (by decide +kernel) (by decide +kernel)
set_option maxRecDepth 20000 in
theorem gX5_bounds_X5_in : GoodIn wsX5_bounds (va_wsS RX5 29 yX5_in wsX5_in) := goodIn_app (goodIn_of _ (by decide +kernel)) ggX5_bounds_X5_in
set_option maxRecDepth 20000 in
theorem ggX5_bounds_X5_low : GoodIn wsX5_bounds wsX5_low := goodIn_r _ [17, 2, 18, 19, 20, 5, 21, 22, 23, 24, 25, 26, 27, 28, 29, 40, 41, 42, 43, 44, 45, 46, 47, 48, 49, 50, 51] (by decide +kernel) (by decide +kernel)
set_option maxRecDepth 20000 in
theorem gX5_bounds_X5_low : GoodIn wsX5_bounds (wsV RX5 54 RX5 yX5_low wsX5_low) := goodIn_app (goodIn_of _ (by decide +kernel)) ggX5_bounds_X5_low
set_option maxRecDepth 20000 in
theorem ggX5_bounds_X5_high : GoodIn wsX5_bounds wsX5_high := goodIn_r _ [33, 2, 18, 19, 20, 5, 21, 22, 23, 24, 25, 26, 27, 28, 29, 40, 41, 42, 43, 44, 45, 46, 47, 48, 49, 50, 51] (by decide +kernel) (by decide +kernel)
set_option maxRecDepth 20000 in
theorem gX5_bounds_X5_high : GoodIn wsX5_bounds (wsV RX5 57 RX5 yX5_high wsX5_high) := goodIn_app (goodIn_of _ (by decide +kernel)) ggX5_bounds_X5_high
set_option maxRecDepth 20000 in
theorem ggX5_bounds_X5_saves : GoodIn wsX5_bounds wsX5_saves := goodIn_r _ [37, 38, 39, 2, 40, 41, 42, 43, 44, 45, 46, 47, 48, 49, 50, 51] (by decide +kernel) (by decide +kernel)
set_option maxRecDepth 20000 in
theorem gX5_bounds_X5_saves : GoodIn wsX5_bounds (wsV RX5 71 RX5 yX5_saves wsX5_saves) := goodIn_app (goodIn_of _ (by decide +kernel)) ggX5_bounds_X5_saves
theorem dX5_bounds_0 : decode cX5_bounds 0 = .ok (.aload_n 0, 1) := by decide +kernel
theorem dX5_bounds_1 : decode cX5_bounds 1 = .ok (.iconst 0, 1) := by decide +kernel
theorem dX5_bounds_2 : decode cX5_bounds 2 = .ok (.putfield 25, 3) := by decide +kernel
theorem dX5_bounds_5 : decode cX5_bounds 5 = .ok (.iload_n 1, 1) := by decide +kernel
theorem dX5_bounds_6 : decode cX5_bounds 6 = .ok (.invokestatic 67, 3) := by decide +kernel
theorem dX5_bounds_9 : decode cX5_bounds 9 = .ok (.ifCond .ne 9, 3) := by decide +kernel
theorem dX5_bounds_12 : decode cX5_bounds 12 = .ok (.aload_n 0, 1) := by decide +kernel
theorem dX5_bounds_13 : decode cX5_bounds 13 = .ok (.iconst 1, 1) := by decide +kernel
theorem dX5_bounds_14 : decode cX5_bounds 14 = .ok (.invokevirtual 36, 3) := by decide +kernel
theorem dX5_bounds_17 : decode cX5_bounds 17 = .ok (.ireturn, 1) := by decide +kernel
theorem dX5_bounds_18 : decode cX5_bounds 18 = .ok (.iload_n 2, 1) := by decide +kernel
theorem dX5_bounds_19 : decode cX5_bounds 19 = .ok (.sipush (-999), 3) := by decide +kernel
theorem dX5_bounds_22 : decode cX5_bounds 22 = .ok (.sipush 999, 3) := by decide +kernel
theorem dX5_bounds_25 : decode cX5_bounds 25 = .ok (.invokestatic 29, 3) := by decide +kernel
theorem dX5_bounds_28 : decode cX5_bounds 28 = .ok (.ifCond .eq 14, 3) := by decide +kernel
theorem dX5_bounds_31 : decode cX5_bounds 31 = .ok (.iload_n 3, 1) := by decide +kernel
theorem dX5_bounds_32 : decode cX5_bounds 32 = .ok (.iload_n 2, 1) := by decide +kernel
theorem dX5_bounds_33 : decode cX5_bounds 33 = .ok (.sipush 999, 3) := by decide +kernel
theorem dX5_bounds_36 : decode cX5_bounds 36 = .ok (.invokestatic 29, 3) := by decide +kernel
theorem dX5_bounds_39 : decode cX5_bounds 39 = .ok (.ifCond .ne 9, 3) := by decide +kernel
theorem dX5_bounds_42 : decode cX5_bounds 42 = .ok (.aload_n 0, 1) := by decide +kernel
theorem dX5_bounds_43 : decode cX5_bounds 43 = .ok (.iconst 2, 1) := by decide +kernel
theorem dX5_bounds_44 : decode cX5_bounds 44 = .ok (.invokevirtual 36, 3) := by decide +kernel
theorem dX5_bounds_47 : decode cX5_bounds 47 = .ok (.ireturn, 1) := by decide +kernel
theorem dX5_bounds_48 : decode cX5_bounds 48 = .ok (.aload_n 0, 1) := by decide +kernel
theorem dX5_bounds_49 : decode cX5_bounds 49 = .ok (.iload_n 1, 1) := by decide +kernel
theorem dX5_bounds_50 : decode cX5_bounds 50 = .ok (.invokevirtual 54, 3) := by decide +kernel
theorem dX5_bounds_53 : decode cX5_bounds 53 = .ok (.iload_n 2, 1) := by decide +kernel
theorem dX5_bounds_54 : decode cX5_bounds 54 = .ok (.if_icmp .lt 12, 3) := by decide +kernel
theorem dX5_bounds_57 : decode cX5_bounds 57 = .ok (.aload_n 0, 1) := by decide +kernel
theorem dX5_bounds_58 : decode cX5_bounds 58 = .ok (.iload_n 1, 1) := by decide +kernel
theorem dX5_bounds_59 : decode cX5_bounds 59 = .ok (.invokevirtual 57, 3) := by decide +kernel
theorem dX5_bounds_62 : decode cX5_bounds 62 = .ok (.iload_n 3, 1) := by decide +kernel
theorem dX5_bounds_63 : decode cX5_bounds 63 = .ok (.if_icmp .le 9, 3) := by decide +kernel
theorem dX5_bounds_66 : decode cX5_bounds 66 = .ok (.aload_n 0, 1) := by decide +kernel
theorem dX5_bounds_67 : decode cX5_bounds 67 = .ok (.iconst 3, 1) := by decide +kernel
theorem dX5_bounds_68 : decode cX5_bounds 68 = .ok (.invokevirtual 36, 3) := by decide +kernel
theorem dX5_bounds_71 : decode cX5_bounds 71 = .ok (.ireturn, 1) := by decide +kernel
theorem dX5_bounds_72 : decode cX5_bounds 72 = .ok (.aload_n 0, 1) := by decide +kernel
theorem dX5_bounds_73 : decode cX5_bounds 73 = .ok (.invokevirtual 71, 3) := by decide +kernel
theorem dX5_bounds_76 : decode cX5_bounds 76 = .ok (.aload_n 0, 1) := by decide +kernel
theorem dX5_bounds_77 : decode cX5_bounds 77 = .ok (.getfield 7, 3) := by decide +kernel
theorem dX5_bounds_80 : decode cX5_bounds 80 = .ok (.bipush 13, 2) := by decide +kernel
theorem dX5_bounds_82 : decode cX5_bounds 82 = .ok (.iload_n 1, 1) := by decide +kernel
theorem dX5_bounds_83 : decode cX5_bounds 83 = .ok (.iadd, 1) := by decide +kernel
theorem dX5_bounds_84 : decode cX5_bounds 84 = .ok (.iaload, 1) := by decide +kernel
theorem dX5_bounds_85 : decode cX5_bounds 85 = .ok (.aload_n 0, 1) := by decide +kernel
theorem dX5_bounds_86 : decode cX5_bounds 86 = .ok (.getfield 7, 3) := by decide +kernel
theorem dX5_bounds_89 : decode cX5_bounds 89 = .ok (.bipush 9, 2) := by decide +kernel
theorem dX5_bounds_91 : decode cX5_bounds 91 = .ok (.iload_n 1, 1) := by decide +kernel
theorem dX5_bounds_92 : decode cX5_bounds 92 = .ok (.iadd, 1) := by decide +kernel
theorem dX5_bounds_93 : decode cX5_bounds 93 = .ok (.iaload, 1) := by decide +kernel
theorem dX5_bounds_94 : decode cX5_bounds 94 = .ok (.isub, 1) := by decide +kernel
theorem dX5_bounds_95 : decode cX5_bounds 95 = .ok (.istore 4, 2) := by decide +kernel
theorem dX5_bounds_97 : decode cX5_bounds 97 = .ok (.aload_n 0, 1) := by decide +kernel
theorem dX5_bounds_98 : decode cX5_bounds 98 = .ok (.getfield 7, 3) := by decide +kernel
theorem dX5_bounds_101 : decode cX5_bounds 101 = .ok (.bipush 9, 2) := by decide +kernel
theorem dX5_bounds_103 : decode cX5_bounds 103 = .ok (.iload_n 1, 1) := by decide +kernel
theorem dX5_bounds_104 : decode cX5_bounds 104 = .ok (.iadd, 1) := by decide +kernel
theorem dX5_bounds_105 : decode cX5_bounds 105 = .ok (.iload_n 2, 1) := by decide +kernel
theorem dX5_bounds_106 : decode cX5_bounds 106 = .ok (.iastore, 1) := by decide +kernel
theorem dX5_bounds_107 : decode cX5_bounds 107 = .ok (.aload_n 0, 1) := by decide +kernel
theorem dX5_bounds_108 : decode cX5_bounds 108 = .ok (.getfield 7, 3) := by decide +kernel
theorem dX5_bounds_111 : decode cX5_bounds 111 = .ok (.bipush 13, 2) := by decide +kernel
theorem dX5_bounds_113 : decode cX5_bounds 113 = .ok (.iload_n 1, 1) := by decide +kernel
theorem dX5_bounds_114 : decode cX5_bounds 114 = .ok (.iadd, 1) := by decide +kernel
theorem dX5_bounds_115 : decode cX5_bounds 115 = .ok (.iload_n 3, 1) := by decide +kernel
theorem dX5_bounds_116 : decode cX5_bounds 116 = .ok (.iastore, 1) := by decide +kernel
theorem dX5_bounds_117 : decode cX5_bounds 117 = .ok (.iload 4, 2) := by decide +kernel
theorem dX5_bounds_119 : decode cX5_bounds 119 = .ok (.ireturn, 1) := by decide +kernel
set_option maxRecDepth 20000 in
theorem ggX5_set_X5_in : GoodIn wsX5_set wsX5_in := goodIn_r _ [6] (by decide +kernel) (by decide +kernel)
set_option maxRecDepth 20000 in
theorem gX5_set_X5_in : GoodIn wsX5_set (va_wsS RX5 29 yX5_in wsX5_in) := goodIn_app (goodIn_of _ (by decide +kernel)) ggX5_set_X5_in
set_option maxRecDepth 20000 in
theorem ggX5_set_X5_fails : GoodIn wsX5_set wsX5_fails := goodIn_r _ [10, 1, 17, 18, 19, 20, 21, 22, 23, 24, 25, 26, 27, 28] (by decide +kernel) (by decide +kernel)
set_option maxRecDepth 20000 in
theorem gX5_set_X5_fails : GoodIn wsX5_set (wsV RX5 36 RX5 yX5_fails wsX5_fails) := goodIn_app (goodIn_of _ (by decide +kernel)) ggX5_set_X5_fails
set_option maxRecDepth 20000 in
theorem ggX5_set_X5_saves : GoodIn wsX5_set wsX5_saves := goodIn_r _ [14, 15, 16, 2, 17, 18, 19, 20, 21, 22, 23, 24, 25, 26, 27, 28] (by decide +kernel) (by decide +kernel)
set_option maxRecDepth 20000 in
theorem gX5_set_X5_saves : GoodIn wsX5_set (wsV RX5 71 RX5 yX5_saves wsX5_saves) := goodIn_app (goodIn_of _ (by decide +kernel)) ggX5_set_X5_saves
theorem dX5_set_0 : decode cX5_set 0 = .ok (.aload_n 0, 1) := by decide +kernel
theorem dX5_set_1 : decode cX5_set 1 = .ok (.iconst 0, 1) := by decide +kernel
theorem dX5_set_2 : decode cX5_set 2 = .ok (.putfield 25, 3) := by decide +kernel
theorem dX5_set_5 : decode cX5_set 5 = .ok (.iload_n 1, 1) := by decide +kernel
theorem dX5_set_6 : decode cX5_set 6 = .ok (.iconst 0, 1) := by decide +kernel
theorem dX5_set_7 : decode cX5_set 7 = .ok (.iconst 1, 1) := by decide +kernel
theorem dX5_set_8 : decode cX5_set 8 = .ok (.invokestatic 29, 3) := by decide +kernel
theorem dX5_set_11 : decode cX5_set 11 = .ok (.ifCond .ne 9, 3) := by decide +kernel
theorem dX5_set_14 : decode cX5_set 14 = .ok (.aload_n 0, 1) := by decide +kernel
theorem dX5_set_15 : decode cX5_set 15 = .ok (.iconst 1, 1) := by decide +kernel
theorem dX5_set_16 : decode cX5_set 16 = .ok (.invokevirtual 36, 3) := by decide +kernel
theorem dX5_set_19 : decode cX5_set 19 = .ok (.ireturn, 1) := by decide +kernel
theorem dX5_set_20 : decode cX5_set 20 = .ok (.iload_n 2, 1) := by decide +kernel
theorem dX5_set_21 : decode cX5_set 21 = .ok (.iconst 1, 1) := by decide +kernel
theorem dX5_set_22 : decode cX5_set 22 = .ok (.iload_n 1, 1) := by decide +kernel
theorem dX5_set_23 : decode cX5_set 23 = .ok (.ifCond .ne 8, 3) := by decide +kernel
theorem dX5_set_26 : decode cX5_set 26 = .ok (.bipush 16, 2) := by decide +kernel
theorem dX5_set_28 : decode cX5_set 28 = .ok (.goto 5, 3) := by decide +kernel
theorem dX5_set_31 : decode cX5_set 31 = .ok (.bipush 99, 2) := by decide +kernel
theorem dX5_set_33 : decode cX5_set 33 = .ok (.invokestatic 29, 3) := by decide +kernel
theorem dX5_set_36 : decode cX5_set 36 = .ok (.ifCond .ne 9, 3) := by decide +kernel
theorem dX5_set_39 : decode cX5_set 39 = .ok (.aload_n 0, 1) := by decide +kernel
theorem dX5_set_40 : decode cX5_set 40 = .ok (.iconst 2, 1) := by decide +kernel
theorem dX5_set_41 : decode cX5_set 41 = .ok (.invokevirtual 36, 3) := by decide +kernel
theorem dX5_set_44 : decode cX5_set 44 = .ok (.ireturn, 1) := by decide +kernel
theorem dX5_set_45 : decode cX5_set 45 = .ok (.aload_n 0, 1) := by decide +kernel
theorem dX5_set_46 : decode cX5_set 46 = .ok (.invokevirtual 71, 3) := by decide +kernel
theorem dX5_set_49 : decode cX5_set 49 = .ok (.aload_n 0, 1) := by decide +kernel
theorem dX5_set_50 : decode cX5_set 50 = .ok (.getfield 7, 3) := by decide +kernel
theorem dX5_set_53 : decode cX5_set 53 = .ok (.iconst 1, 1) := by decide +kernel
theorem dX5_set_54 : decode cX5_set 54 = .ok (.iload_n 1, 1) := by decide +kernel
theorem dX5_set_55 : decode cX5_set 55 = .ok (.iadd, 1) := by decide +kernel
theorem dX5_set_56 : decode cX5_set 56 = .ok (.iaload, 1) := by decide +kernel
theorem dX5_set_57 : decode cX5_set 57 = .ok (.istore_n 3, 1) := by decide +kernel
theorem dX5_set_58 : decode cX5_set 58 = .ok (.aload_n 0, 1) := by decide +kernel
theorem dX5_set_59 : decode cX5_set 59 = .ok (.getfield 7, 3) := by decide +kernel
theorem dX5_set_62 : decode cX5_set 62 = .ok (.iconst 1, 1) := by decide +kernel
theorem dX5_set_63 : decode cX5_set 63 = .ok (.iload_n 1, 1) := by decide +kernel
theorem dX5_set_64 : decode cX5_set 64 = .ok (.iadd, 1) := by decide +kernel
theorem dX5_set_65 : decode cX5_set 65 = .ok (.iload_n 2, 1) := by decide +kernel
theorem dX5_set_66 : decode cX5_set 66 = .ok (.iastore, 1) := by decide +kernel
theorem dX5_set_67 : decode cX5_set 67 = .ok (.iload_n 3, 1) := by decide +kernel
theorem dX5_set_68 : decode cX5_set 68 = .ok (.ireturn, 1) := by decide +kernel
set_option maxRecDepth 20000 in
theorem ggX5_isChange_X5_in : GoodIn wsX5_isChange wsX5_in := goodIn_r _ [4] (by decide +kernel) (by decide +kernel)
set_option maxRecDepth 20000 in
theorem gX5_isChange_X5_in : GoodIn wsX5_isChange (va_wsS RX5 29 yX5_in wsX5_in) := goodIn_app (goodIn_of _ (by decide +kernel)) ggX5_isChange_X5_in
theorem dX5_isChange_0 : decode cX5_isChange 0 = .ok (.iload_n 0, 1) := by decide +kernel
theorem dX5_isChange_1 : decode cX5_isChange 1 = .ok (.ifCond .eq 18, 3) := by decide +kernel
theorem dX5_isChange_4 : decode cX5_isChange 4 = .ok (.iload_n 0, 1) := by decide +kernel
theorem dX5_isChange_5 : decode cX5_isChange 5 = .ok (.bipush (-99), 2) := by decide +kernel
theorem dX5_isChange_7 : decode cX5_isChange 7 = .ok (.bipush 99, 2) := by decide +kernel
theorem dX5_isChange_9 : decode cX5_isChange 9 = .ok (.invokestatic 29, 3) := by decide +kernel
theorem dX5_isChange_12 : decode cX5_isChange 12 = .ok (.ifCond .eq 7, 3) := by decide +kernel
theorem dX5_isChange_15 : decode cX5_isChange 15 = .ok (.iconst 1, 1) := by decide +kernel
theorem dX5_isChange_16 : decode cX5_isChange 16 = .ok (.goto 4, 3) := by decide +kernel
theorem dX5_isChange_19 : decode cX5_isChange 19 = .ok (.iconst 0, 1) := by decide +kernel
theorem dX5_isChange_20 : decode cX5_isChange 20 = .ok (.ireturn, 1) := by decide +kernel
set_option maxRecDepth 20000 in
theorem ggX5_promise_X5_isOwner : GoodIn wsX5_promise wsX5_isOwner := goodIn_r _ [5, 6, 7, 4, 8] (by decide +kernel) (by decide +kernel)
set_option maxRecDepth 20000 in
theorem gX5_promise_X5_isOwner : GoodIn wsX5_promise (va_wsS RX5 74 yX5_isOwner wsX5_isOwner) := goodIn_app (goodIn_of _ (by decide +kernel)) ggX5_promise_X5_isOwner
set_option maxRecDepth 20000 in
theorem ggX5_promise_X5_isCounter : GoodIn wsX5_promise wsX5_isCounter := goodIn_r _ [11, 6, 7, 4, 8] (by decide +kernel) (by decide +kernel)
set_option maxRecDepth 20000 in
theorem gX5_promise_X5_isCounter : GoodIn wsX5_promise (va_wsS RX5 67 yX5_isCounter wsX5_isCounter) := goodIn_app (goodIn_of _ (by decide +kernel)) ggX5_promise_X5_isCounter
set_option maxRecDepth 20000 in
theorem ggX5_promise_X5_fails : GoodIn wsX5_promise wsX5_fails := goodIn_r _ [15, 1, 58, 59, 60, 61, 62, 63, 64, 65, 66, 67, 68, 69] (by decide +kernel) (by decide +kernel)
set_option maxRecDepth 20000 in
theorem gX5_promise_X5_fails : GoodIn wsX5_promise (wsV RX5 36 RX5 yX5_fails wsX5_fails) := goodIn_app (goodIn_of _ (by decide +kernel)) ggX5_promise_X5_fails
set_option maxRecDepth 20000 in
theorem ggX5_promise_X5_isChange : GoodIn wsX5_promise wsX5_isChange := goodIn_r _ [18, 6, 7, 4, 8] (by decide +kernel) (by decide +kernel)
set_option maxRecDepth 20000 in
theorem gX5_promise_X5_isChange : GoodIn wsX5_promise (va_wsS RX5 77 yX5_isChange wsX5_isChange) := goodIn_app (goodIn_of _ (by decide +kernel)) ggX5_promise_X5_isChange
set_option maxRecDepth 20000 in
theorem ggX5_promise_X5_reason : GoodIn wsX5_promise wsX5_reason := goodIn_r _ [22, 23, 24, 25, 26, 4, 27, 28, 29, 30, 31, 32, 33, 34, 35, 36, 37, 38, 39, 40, 41, 42, 43, 44, 45, 46, 47, 58, 59, 60, 61, 62, 63, 64, 65, 66, 67, 68, 69] (by decide +kernel) (by decide +kernel)
set_option maxRecDepth 20000 in
theorem gX5_promise_X5_reason : GoodIn wsX5_promise (wsV RX5 80 RX5 yX5_reason wsX5_reason) := goodIn_app (goodIn_of _ (by decide +kernel)) ggX5_promise_X5_reason
set_option maxRecDepth 20000 in
theorem ggX5_promise_X5_saves : GoodIn wsX5_promise wsX5_saves := goodIn_r _ [51, 52, 53, 23, 58, 59, 60, 61, 62, 63, 64, 65, 66, 67, 68, 69] (by decide +kernel) (by decide +kernel)
set_option maxRecDepth 20000 in
theorem gX5_promise_X5_saves : GoodIn wsX5_promise (wsV RX5 71 RX5 yX5_saves wsX5_saves) := goodIn_app (goodIn_of _ (by decide +kernel)) ggX5_promise_X5_saves
set_option maxRecDepth 20000 in
theorem ggX5_promise_X5_comes : GoodIn wsX5_promise wsX5_comes := goodIn_r _ [57, 23, 58, 59, 60, 61, 62, 63, 64, 65, 66, 67, 68, 69] (by decide +kernel) (by decide +kernel)
set_option maxRecDepth 20000 in
theorem gX5_promise_X5_comes : GoodIn wsX5_promise (wsV RX5 84 RX5 yX5_comes wsX5_comes) := goodIn_app (goodIn_of _ (by decide +kernel)) ggX5_promise_X5_comes
theorem dX5_promise_0 : decode cX5_promise 0 = .ok (.aload_n 0, 1) := by decide +kernel
theorem dX5_promise_1 : decode cX5_promise 1 = .ok (.iconst 0, 1) := by decide +kernel
theorem dX5_promise_2 : decode cX5_promise 2 = .ok (.putfield 25, 3) := by decide +kernel
theorem dX5_promise_5 : decode cX5_promise 5 = .ok (.iload_n 1, 1) := by decide +kernel
theorem dX5_promise_6 : decode cX5_promise 6 = .ok (.invokestatic 74, 3) := by decide +kernel
theorem dX5_promise_9 : decode cX5_promise 9 = .ok (.ifCond .eq 10, 3) := by decide +kernel
theorem dX5_promise_12 : decode cX5_promise 12 = .ok (.iload_n 2, 1) := by decide +kernel
theorem dX5_promise_13 : decode cX5_promise 13 = .ok (.invokestatic 67, 3) := by decide +kernel
theorem dX5_promise_16 : decode cX5_promise 16 = .ok (.ifCond .ne 9, 3) := by decide +kernel
theorem dX5_promise_19 : decode cX5_promise 19 = .ok (.aload_n 0, 1) := by decide +kernel
theorem dX5_promise_20 : decode cX5_promise 20 = .ok (.iconst 1, 1) := by decide +kernel
theorem dX5_promise_21 : decode cX5_promise 21 = .ok (.invokevirtual 36, 3) := by decide +kernel
theorem dX5_promise_24 : decode cX5_promise 24 = .ok (.ireturn, 1) := by decide +kernel
theorem dX5_promise_25 : decode cX5_promise 25 = .ok (.iload_n 3, 1) := by decide +kernel
theorem dX5_promise_26 : decode cX5_promise 26 = .ok (.invokestatic 77, 3) := by decide +kernel
theorem dX5_promise_29 : decode cX5_promise 29 = .ok (.ifCond .ne 9, 3) := by decide +kernel
theorem dX5_promise_32 : decode cX5_promise 32 = .ok (.aload_n 0, 1) := by decide +kernel
theorem dX5_promise_33 : decode cX5_promise 33 = .ok (.iconst 2, 1) := by decide +kernel
theorem dX5_promise_34 : decode cX5_promise 34 = .ok (.invokevirtual 36, 3) := by decide +kernel
theorem dX5_promise_37 : decode cX5_promise 37 = .ok (.ireturn, 1) := by decide +kernel
theorem dX5_promise_38 : decode cX5_promise 38 = .ok (.aload_n 0, 1) := by decide +kernel
theorem dX5_promise_39 : decode cX5_promise 39 = .ok (.iload_n 1, 1) := by decide +kernel
theorem dX5_promise_40 : decode cX5_promise 40 = .ok (.iload_n 2, 1) := by decide +kernel
theorem dX5_promise_41 : decode cX5_promise 41 = .ok (.iload_n 3, 1) := by decide +kernel
theorem dX5_promise_42 : decode cX5_promise 42 = .ok (.iconst (-1), 1) := by decide +kernel
theorem dX5_promise_43 : decode cX5_promise 43 = .ok (.invokevirtual 80, 3) := by decide +kernel
theorem dX5_promise_46 : decode cX5_promise 46 = .ok (.ifCond .le 9, 3) := by decide +kernel
theorem dX5_promise_49 : decode cX5_promise 49 = .ok (.aload_n 0, 1) := by decide +kernel
theorem dX5_promise_50 : decode cX5_promise 50 = .ok (.iconst 3, 1) := by decide +kernel
theorem dX5_promise_51 : decode cX5_promise 51 = .ok (.invokevirtual 36, 3) := by decide +kernel
theorem dX5_promise_54 : decode cX5_promise 54 = .ok (.ireturn, 1) := by decide +kernel
theorem dX5_promise_55 : decode cX5_promise 55 = .ok (.aload_n 0, 1) := by decide +kernel
theorem dX5_promise_56 : decode cX5_promise 56 = .ok (.invokevirtual 71, 3) := by decide +kernel
theorem dX5_promise_59 : decode cX5_promise 59 = .ok (.aload_n 0, 1) := by decide +kernel
theorem dX5_promise_60 : decode cX5_promise 60 = .ok (.iload_n 1, 1) := by decide +kernel
theorem dX5_promise_61 : decode cX5_promise 61 = .ok (.iload_n 2, 1) := by decide +kernel
theorem dX5_promise_62 : decode cX5_promise 62 = .ok (.iload_n 3, 1) := by decide +kernel
theorem dX5_promise_63 : decode cX5_promise 63 = .ok (.iconst (-1), 1) := by decide +kernel
theorem dX5_promise_64 : decode cX5_promise 64 = .ok (.invokevirtual 84, 3) := by decide +kernel
theorem dX5_promise_67 : decode cX5_promise 67 = .ok (.ireturn, 1) := by decide +kernel
set_option maxRecDepth 20000 in
theorem ggX5_transfer_X5_isOwner : GoodIn wsX5_transfer wsX5_isOwner := goodIn_r _ [5, 6, 7, 4, 8] (by decide +kernel) (by decide +kernel)
set_option maxRecDepth 20000 in
theorem gX5_transfer_X5_isOwner : GoodIn wsX5_transfer (va_wsS RX5 74 yX5_isOwner wsX5_isOwner) := goodIn_app (goodIn_of _ (by decide +kernel)) ggX5_transfer_X5_isOwner
set_option maxRecDepth 20000 in
theorem ggX5_transfer_X5_isCounter : GoodIn wsX5_transfer wsX5_isCounter := goodIn_r _ [11, 6, 7, 4, 8] (by decide +kernel) (by decide +kernel)
set_option maxRecDepth 20000 in
theorem gX5_transfer_X5_isCounter : GoodIn wsX5_transfer (va_wsS RX5 67 yX5_isCounter wsX5_isCounter) := goodIn_app (goodIn_of _ (by decide +kernel)) ggX5_transfer_X5_isCounter
set_option maxRecDepth 20000 in
theorem ggX5_transfer_X5_fails : GoodIn wsX5_transfer wsX5_fails := goodIn_r _ [15, 1, 55, 56, 57, 58, 59, 60, 61, 62, 63, 64, 65, 66] (by decide +kernel) (by decide +kernel)
set_option maxRecDepth 20000 in
theorem gX5_transfer_X5_fails : GoodIn wsX5_transfer (wsV RX5 36 RX5 yX5_fails wsX5_fails) := goodIn_app (goodIn_of _ (by decide +kernel)) ggX5_transfer_X5_fails
set_option maxRecDepth 20000 in
theorem ggX5_transfer_X5_in : GoodIn wsX5_transfer wsX5_in := goodIn_r _ [8] (by decide +kernel) (by decide +kernel)
set_option maxRecDepth 20000 in
theorem gX5_transfer_X5_in : GoodIn wsX5_transfer (va_wsS RX5 29 yX5_in wsX5_in) := goodIn_app (goodIn_of _ (by decide +kernel)) ggX5_transfer_X5_in
set_option maxRecDepth 20000 in
theorem ggX5_transfer_X5_reason : GoodIn wsX5_transfer wsX5_reason := goodIn_r _ [19, 20, 21, 22, 23, 4, 24, 25, 26, 27, 28, 29, 30, 31, 32, 33, 34, 35, 36, 37, 38, 39, 40, 41, 42, 43, 44, 55, 56, 57, 58, 59, 60, 61, 62, 63, 64, 65, 66] (by decide +kernel) (by decide +kernel)
set_option maxRecDepth 20000 in
theorem gX5_transfer_X5_reason : GoodIn wsX5_transfer (wsV RX5 80 RX5 yX5_reason wsX5_reason) := goodIn_app (goodIn_of _ (by decide +kernel)) ggX5_transfer_X5_reason
set_option maxRecDepth 20000 in
theorem ggX5_transfer_X5_saves : GoodIn wsX5_transfer wsX5_saves := goodIn_r _ [48, 49, 50, 20, 55, 56, 57, 58, 59, 60, 61, 62, 63, 64, 65, 66] (by decide +kernel) (by decide +kernel)
set_option maxRecDepth 20000 in
theorem gX5_transfer_X5_saves : GoodIn wsX5_transfer (wsV RX5 71 RX5 yX5_saves wsX5_saves) := goodIn_app (goodIn_of _ (by decide +kernel)) ggX5_transfer_X5_saves
set_option maxRecDepth 20000 in
theorem ggX5_transfer_X5_comes : GoodIn wsX5_transfer wsX5_comes := goodIn_r _ [54, 20, 55, 56, 57, 58, 59, 60, 61, 62, 63, 64, 65, 66] (by decide +kernel) (by decide +kernel)
set_option maxRecDepth 20000 in
theorem gX5_transfer_X5_comes : GoodIn wsX5_transfer (wsV RX5 84 RX5 yX5_comes wsX5_comes) := goodIn_app (goodIn_of _ (by decide +kernel)) ggX5_transfer_X5_comes
theorem dX5_transfer_0 : decode cX5_transfer 0 = .ok (.aload_n 0, 1) := by decide +kernel
theorem dX5_transfer_1 : decode cX5_transfer 1 = .ok (.iconst 0, 1) := by decide +kernel
theorem dX5_transfer_2 : decode cX5_transfer 2 = .ok (.putfield 25, 3) := by decide +kernel
theorem dX5_transfer_5 : decode cX5_transfer 5 = .ok (.iload_n 1, 1) := by decide +kernel
theorem dX5_transfer_6 : decode cX5_transfer 6 = .ok (.invokestatic 74, 3) := by decide +kernel
theorem dX5_transfer_9 : decode cX5_transfer 9 = .ok (.ifCond .eq 17, 3) := by decide +kernel
theorem dX5_transfer_12 : decode cX5_transfer 12 = .ok (.iload_n 2, 1) := by decide +kernel
theorem dX5_transfer_13 : decode cX5_transfer 13 = .ok (.invokestatic 67, 3) := by decide +kernel
theorem dX5_transfer_16 : decode cX5_transfer 16 = .ok (.ifCond .eq 10, 3) := by decide +kernel
theorem dX5_transfer_19 : decode cX5_transfer 19 = .ok (.iload_n 3, 1) := by decide +kernel
theorem dX5_transfer_20 : decode cX5_transfer 20 = .ok (.invokestatic 67, 3) := by decide +kernel
theorem dX5_transfer_23 : decode cX5_transfer 23 = .ok (.ifCond .ne 9, 3) := by decide +kernel
theorem dX5_transfer_26 : decode cX5_transfer 26 = .ok (.aload_n 0, 1) := by decide +kernel
theorem dX5_transfer_27 : decode cX5_transfer 27 = .ok (.iconst 1, 1) := by decide +kernel
theorem dX5_transfer_28 : decode cX5_transfer 28 = .ok (.invokevirtual 36, 3) := by decide +kernel
theorem dX5_transfer_31 : decode cX5_transfer 31 = .ok (.ireturn, 1) := by decide +kernel
theorem dX5_transfer_32 : decode cX5_transfer 32 = .ok (.iload_n 2, 1) := by decide +kernel
theorem dX5_transfer_33 : decode cX5_transfer 33 = .ok (.iload_n 3, 1) := by decide +kernel
theorem dX5_transfer_34 : decode cX5_transfer 34 = .ok (.if_icmp .eq 14, 3) := by decide +kernel
theorem dX5_transfer_37 : decode cX5_transfer 37 = .ok (.iload 4, 2) := by decide +kernel
theorem dX5_transfer_39 : decode cX5_transfer 39 = .ok (.iconst 1, 1) := by decide +kernel
theorem dX5_transfer_40 : decode cX5_transfer 40 = .ok (.bipush 99, 2) := by decide +kernel
theorem dX5_transfer_42 : decode cX5_transfer 42 = .ok (.invokestatic 29, 3) := by decide +kernel
theorem dX5_transfer_45 : decode cX5_transfer 45 = .ok (.ifCond .ne 9, 3) := by decide +kernel
theorem dX5_transfer_48 : decode cX5_transfer 48 = .ok (.aload_n 0, 1) := by decide +kernel
theorem dX5_transfer_49 : decode cX5_transfer 49 = .ok (.iconst 2, 1) := by decide +kernel
theorem dX5_transfer_50 : decode cX5_transfer 50 = .ok (.invokevirtual 36, 3) := by decide +kernel
theorem dX5_transfer_53 : decode cX5_transfer 53 = .ok (.ireturn, 1) := by decide +kernel
theorem dX5_transfer_54 : decode cX5_transfer 54 = .ok (.aload_n 0, 1) := by decide +kernel
theorem dX5_transfer_55 : decode cX5_transfer 55 = .ok (.iload_n 1, 1) := by decide +kernel
theorem dX5_transfer_56 : decode cX5_transfer 56 = .ok (.iload_n 2, 1) := by decide +kernel
theorem dX5_transfer_57 : decode cX5_transfer 57 = .ok (.iload 4, 2) := by decide +kernel
theorem dX5_transfer_59 : decode cX5_transfer 59 = .ok (.ineg, 1) := by decide +kernel
theorem dX5_transfer_60 : decode cX5_transfer 60 = .ok (.iload_n 3, 1) := by decide +kernel
theorem dX5_transfer_61 : decode cX5_transfer 61 = .ok (.invokevirtual 80, 3) := by decide +kernel
theorem dX5_transfer_64 : decode cX5_transfer 64 = .ok (.ifCond .le 9, 3) := by decide +kernel
theorem dX5_transfer_67 : decode cX5_transfer 67 = .ok (.aload_n 0, 1) := by decide +kernel
theorem dX5_transfer_68 : decode cX5_transfer 68 = .ok (.iconst 3, 1) := by decide +kernel
theorem dX5_transfer_69 : decode cX5_transfer 69 = .ok (.invokevirtual 36, 3) := by decide +kernel
theorem dX5_transfer_72 : decode cX5_transfer 72 = .ok (.ireturn, 1) := by decide +kernel
theorem dX5_transfer_73 : decode cX5_transfer 73 = .ok (.aload_n 0, 1) := by decide +kernel
theorem dX5_transfer_74 : decode cX5_transfer 74 = .ok (.invokevirtual 71, 3) := by decide +kernel
theorem dX5_transfer_77 : decode cX5_transfer 77 = .ok (.aload_n 0, 1) := by decide +kernel
theorem dX5_transfer_78 : decode cX5_transfer 78 = .ok (.iload_n 1, 1) := by decide +kernel
theorem dX5_transfer_79 : decode cX5_transfer 79 = .ok (.iload_n 2, 1) := by decide +kernel
theorem dX5_transfer_80 : decode cX5_transfer 80 = .ok (.iload 4, 2) := by decide +kernel
theorem dX5_transfer_82 : decode cX5_transfer 82 = .ok (.ineg, 1) := by decide +kernel
theorem dX5_transfer_83 : decode cX5_transfer 83 = .ok (.iload_n 3, 1) := by decide +kernel
theorem dX5_transfer_84 : decode cX5_transfer 84 = .ok (.invokevirtual 84, 3) := by decide +kernel
theorem dX5_transfer_87 : decode cX5_transfer 87 = .ok (.ireturn, 1) := by decide +kernel
set_option maxRecDepth 20000 in
theorem ggX5_settle_X5_isPromise : GoodIn wsX5_settle wsX5_isPromise := goodIn_r _ [7, 2, 8, 9, 6, 10, 37, 38, 39, 40, 41, 42, 43, 44, 45, 46, 47, 48] (by decide +kernel) (by decide +kernel)
set_option maxRecDepth 20000 in
theorem gX5_settle_X5_isPromise : GoodIn wsX5_settle (wsV RX5 87 RX5 yX5_isPromise wsX5_isPromise) := goodIn_app (goodIn_of _ (by decide +kernel)) ggX5_settle_X5_isPromise
set_option maxRecDepth 20000 in
theorem ggX5_settle_X5_fails : GoodIn wsX5_settle wsX5_fails := goodIn_r _ [14, 1, 37, 38, 39, 40, 41, 42, 43, 44, 45, 46, 47, 48] (by decide +kernel) (by decide +kernel)
set_option maxRecDepth 20000 in
theorem gX5_settle_X5_fails : GoodIn wsX5_settle (wsV RX5 36 RX5 yX5_fails wsX5_fails) := goodIn_app (goodIn_of _ (by decide +kernel)) ggX5_settle_X5_fails
set_option maxRecDepth 20000 in
theorem ggX5_settle_X5_saves : GoodIn wsX5_settle wsX5_saves := goodIn_r _ [18, 19, 20, 2, 37, 38, 39, 40, 41, 42, 43, 44, 45, 46, 47, 48] (by decide +kernel) (by decide +kernel)
set_option maxRecDepth 20000 in
theorem gX5_settle_X5_saves : GoodIn wsX5_settle (wsV RX5 71 RX5 yX5_saves wsX5_saves) := goodIn_app (goodIn_of _ (by decide +kernel)) ggX5_settle_X5_saves
set_option maxRecDepth 20000 in
theorem ggX5_settle_X5_of : GoodIn wsX5_settle wsX5_of := goodIn_r _ [24, 2, 37, 38, 39, 40, 41, 42, 43, 44, 45, 46, 47, 48] (by decide +kernel) (by decide +kernel)
set_option maxRecDepth 20000 in
theorem gX5_settle_X5_of : GoodIn wsX5_settle (wsV RX5 40 RX5 yX5_of wsX5_of) := goodIn_app (goodIn_of _ (by decide +kernel)) ggX5_settle_X5_of
set_option maxRecDepth 20000 in
theorem ggX5_settle_X5_settles : GoodIn wsX5_settle wsX5_settles := goodIn_r _ [28, 21, 22, 23, 6, 24, 2, 29, 30, 31, 32, 33, 34, 35, 36, 37, 38, 39, 40, 41, 42, 43, 44, 45, 46, 47, 48] (by decide +kernel) (by decide +kernel)
set_option maxRecDepth 20000 in
theorem gX5_settle_X5_settles : GoodIn wsX5_settle (wsV RX5 90 RX5 yX5_settles wsX5_settles) := goodIn_app (goodIn_of _ (by decide +kernel)) ggX5_settle_X5_settles
theorem dX5_settle_0 : decode cX5_settle 0 = .ok (.aload_n 0, 1) := by decide +kernel
theorem dX5_settle_1 : decode cX5_settle 1 = .ok (.iconst 0, 1) := by decide +kernel
theorem dX5_settle_2 : decode cX5_settle 2 = .ok (.putfield 25, 3) := by decide +kernel
theorem dX5_settle_5 : decode cX5_settle 5 = .ok (.aload_n 0, 1) := by decide +kernel
theorem dX5_settle_6 : decode cX5_settle 6 = .ok (.iload_n 1, 1) := by decide +kernel
theorem dX5_settle_7 : decode cX5_settle 7 = .ok (.invokevirtual 87, 3) := by decide +kernel
theorem dX5_settle_10 : decode cX5_settle 10 = .ok (.ifCond .ne 9, 3) := by decide +kernel
theorem dX5_settle_13 : decode cX5_settle 13 = .ok (.aload_n 0, 1) := by decide +kernel
theorem dX5_settle_14 : decode cX5_settle 14 = .ok (.iconst 1, 1) := by decide +kernel
theorem dX5_settle_15 : decode cX5_settle 15 = .ok (.invokevirtual 36, 3) := by decide +kernel
theorem dX5_settle_18 : decode cX5_settle 18 = .ok (.ireturn, 1) := by decide +kernel
theorem dX5_settle_19 : decode cX5_settle 19 = .ok (.aload_n 0, 1) := by decide +kernel
theorem dX5_settle_20 : decode cX5_settle 20 = .ok (.invokevirtual 71, 3) := by decide +kernel
theorem dX5_settle_23 : decode cX5_settle 23 = .ok (.aload_n 0, 1) := by decide +kernel
theorem dX5_settle_24 : decode cX5_settle 24 = .ok (.iload_n 1, 1) := by decide +kernel
theorem dX5_settle_25 : decode cX5_settle 25 = .ok (.iconst 1, 1) := by decide +kernel
theorem dX5_settle_26 : decode cX5_settle 26 = .ok (.invokevirtual 40, 3) := by decide +kernel
theorem dX5_settle_29 : decode cX5_settle 29 = .ok (.istore_n 2, 1) := by decide +kernel
theorem dX5_settle_30 : decode cX5_settle 30 = .ok (.aload_n 0, 1) := by decide +kernel
theorem dX5_settle_31 : decode cX5_settle 31 = .ok (.iload_n 1, 1) := by decide +kernel
theorem dX5_settle_32 : decode cX5_settle 32 = .ok (.invokevirtual 90, 3) := by decide +kernel
theorem dX5_settle_35 : decode cX5_settle 35 = .ok (.aload_n 0, 1) := by decide +kernel
theorem dX5_settle_36 : decode cX5_settle 36 = .ok (.getfield 7, 3) := by decide +kernel
theorem dX5_settle_39 : decode cX5_settle 39 = .ok (.iconst 5, 1) := by decide +kernel
theorem dX5_settle_40 : decode cX5_settle 40 = .ok (.iload_n 2, 1) := by decide +kernel
theorem dX5_settle_41 : decode cX5_settle 41 = .ok (.iadd, 1) := by decide +kernel
theorem dX5_settle_42 : decode cX5_settle 42 = .ok (.iaload, 1) := by decide +kernel
theorem dX5_settle_43 : decode cX5_settle 43 = .ok (.ireturn, 1) := by decide +kernel
set_option maxRecDepth 20000 in
theorem ggX5_settlePart_X5_isPromise : GoodIn wsX5_settlePart wsX5_isPromise := goodIn_r _ [7, 2, 8, 9, 6, 10, 29, 30, 31, 32, 33, 34, 35, 36, 37, 38, 39, 40] (by decide +kernel) (by decide +kernel)
set_option maxRecDepth 20000 in
theorem gX5_settlePart_X5_isPromise : GoodIn wsX5_settlePart (wsV RX5 87 RX5 yX5_isPromise wsX5_isPromise) := goodIn_app (goodIn_of _ (by decide +kernel)) ggX5_settlePart_X5_isPromise
set_option maxRecDepth 20000 in
theorem ggX5_settlePart_X5_fails : GoodIn wsX5_settlePart wsX5_fails := goodIn_r _ [14, 1, 29, 30, 31, 32, 33, 34, 35, 36, 37, 38, 39, 40] (by decide +kernel) (by decide +kernel)
set_option maxRecDepth 20000 in
theorem gX5_settlePart_X5_fails : GoodIn wsX5_settlePart (wsV RX5 36 RX5 yX5_fails wsX5_fails) := goodIn_app (goodIn_of _ (by decide +kernel)) ggX5_settlePart_X5_fails
set_option maxRecDepth 20000 in
theorem ggX5_settlePart_X5_of : GoodIn wsX5_settlePart wsX5_of := goodIn_r _ [18, 2, 29, 30, 31, 32, 33, 34, 35, 36, 37, 38, 39, 40] (by decide +kernel) (by decide +kernel)
set_option maxRecDepth 20000 in
theorem gX5_settlePart_X5_of : GoodIn wsX5_settlePart (wsV RX5 40 RX5 yX5_of wsX5_of) := goodIn_app (goodIn_of _ (by decide +kernel)) ggX5_settlePart_X5_of
set_option maxRecDepth 20000 in
theorem ggX5_settlePart_X5_in : GoodIn wsX5_settlePart wsX5_in := goodIn_r _ [10] (by decide +kernel) (by decide +kernel)
set_option maxRecDepth 20000 in
theorem gX5_settlePart_X5_in : GoodIn wsX5_settlePart (va_wsS RX5 29 yX5_in wsX5_in) := goodIn_app (goodIn_of _ (by decide +kernel)) ggX5_settlePart_X5_in
set_option maxRecDepth 20000 in
theorem ggX5_settlePart_X5_saves : GoodIn wsX5_settlePart wsX5_saves := goodIn_r _ [22, 23, 24, 2, 29, 30, 31, 32, 33, 34, 35, 36, 37, 38, 39, 40] (by decide +kernel) (by decide +kernel)
set_option maxRecDepth 20000 in
theorem gX5_settlePart_X5_saves : GoodIn wsX5_settlePart (wsV RX5 71 RX5 yX5_saves wsX5_saves) := goodIn_app (goodIn_of _ (by decide +kernel)) ggX5_settlePart_X5_saves
set_option maxRecDepth 20000 in
theorem ggX5_settlePart_X5_adds : GoodIn wsX5_settlePart wsX5_adds := goodIn_r _ [28, 2, 15, 16, 17, 6, 18, 29, 30, 31, 32, 33, 34, 35, 36, 37, 38, 39, 40] (by decide +kernel) (by decide +kernel)
set_option maxRecDepth 20000 in
theorem gX5_settlePart_X5_adds : GoodIn wsX5_settlePart (wsV RX5 60 RX5 yX5_adds wsX5_adds) := goodIn_app (goodIn_of _ (by decide +kernel)) ggX5_settlePart_X5_adds
theorem dX5_settlePart_0 : decode cX5_settlePart 0 = .ok (.aload_n 0, 1) := by decide +kernel
theorem dX5_settlePart_1 : decode cX5_settlePart 1 = .ok (.iconst 0, 1) := by decide +kernel
theorem dX5_settlePart_2 : decode cX5_settlePart 2 = .ok (.putfield 25, 3) := by decide +kernel
theorem dX5_settlePart_5 : decode cX5_settlePart 5 = .ok (.aload_n 0, 1) := by decide +kernel
theorem dX5_settlePart_6 : decode cX5_settlePart 6 = .ok (.iload_n 1, 1) := by decide +kernel
theorem dX5_settlePart_7 : decode cX5_settlePart 7 = .ok (.invokevirtual 87, 3) := by decide +kernel
theorem dX5_settlePart_10 : decode cX5_settlePart 10 = .ok (.ifCond .ne 9, 3) := by decide +kernel
theorem dX5_settlePart_13 : decode cX5_settlePart 13 = .ok (.aload_n 0, 1) := by decide +kernel
theorem dX5_settlePart_14 : decode cX5_settlePart 14 = .ok (.iconst 1, 1) := by decide +kernel
theorem dX5_settlePart_15 : decode cX5_settlePart 15 = .ok (.invokevirtual 36, 3) := by decide +kernel
theorem dX5_settlePart_18 : decode cX5_settlePart 18 = .ok (.ireturn, 1) := by decide +kernel
theorem dX5_settlePart_19 : decode cX5_settlePart 19 = .ok (.aload_n 0, 1) := by decide +kernel
theorem dX5_settlePart_20 : decode cX5_settlePart 20 = .ok (.iload_n 1, 1) := by decide +kernel
theorem dX5_settlePart_21 : decode cX5_settlePart 21 = .ok (.iconst 2, 1) := by decide +kernel
theorem dX5_settlePart_22 : decode cX5_settlePart 22 = .ok (.invokevirtual 40, 3) := by decide +kernel
theorem dX5_settlePart_25 : decode cX5_settlePart 25 = .ok (.istore_n 3, 1) := by decide +kernel
theorem dX5_settlePart_26 : decode cX5_settlePart 26 = .ok (.iload_n 2, 1) := by decide +kernel
theorem dX5_settlePart_27 : decode cX5_settlePart 27 = .ok (.iconst 1, 1) := by decide +kernel
theorem dX5_settlePart_28 : decode cX5_settlePart 28 = .ok (.iload_n 3, 1) := by decide +kernel
theorem dX5_settlePart_29 : decode cX5_settlePart 29 = .ok (.ifCond .ge 8, 3) := by decide +kernel
theorem dX5_settlePart_32 : decode cX5_settlePart 32 = .ok (.iload_n 3, 1) := by decide +kernel
theorem dX5_settlePart_33 : decode cX5_settlePart 33 = .ok (.ineg, 1) := by decide +kernel
theorem dX5_settlePart_34 : decode cX5_settlePart 34 = .ok (.goto 4, 3) := by decide +kernel
theorem dX5_settlePart_37 : decode cX5_settlePart 37 = .ok (.iload_n 3, 1) := by decide +kernel
theorem dX5_settlePart_38 : decode cX5_settlePart 38 = .ok (.iconst 1, 1) := by decide +kernel
theorem dX5_settlePart_39 : decode cX5_settlePart 39 = .ok (.isub, 1) := by decide +kernel
theorem dX5_settlePart_40 : decode cX5_settlePart 40 = .ok (.invokestatic 29, 3) := by decide +kernel
theorem dX5_settlePart_43 : decode cX5_settlePart 43 = .ok (.ifCond .ne 9, 3) := by decide +kernel
theorem dX5_settlePart_46 : decode cX5_settlePart 46 = .ok (.aload_n 0, 1) := by decide +kernel
theorem dX5_settlePart_47 : decode cX5_settlePart 47 = .ok (.iconst 2, 1) := by decide +kernel
theorem dX5_settlePart_48 : decode cX5_settlePart 48 = .ok (.invokevirtual 36, 3) := by decide +kernel
theorem dX5_settlePart_51 : decode cX5_settlePart 51 = .ok (.ireturn, 1) := by decide +kernel
theorem dX5_settlePart_52 : decode cX5_settlePart 52 = .ok (.aload_n 0, 1) := by decide +kernel
theorem dX5_settlePart_53 : decode cX5_settlePart 53 = .ok (.invokevirtual 71, 3) := by decide +kernel
theorem dX5_settlePart_56 : decode cX5_settlePart 56 = .ok (.iload_n 3, 1) := by decide +kernel
theorem dX5_settlePart_57 : decode cX5_settlePart 57 = .ok (.ifCond .ge 8, 3) := by decide +kernel
theorem dX5_settlePart_60 : decode cX5_settlePart 60 = .ok (.iload_n 2, 1) := by decide +kernel
theorem dX5_settlePart_61 : decode cX5_settlePart 61 = .ok (.ineg, 1) := by decide +kernel
theorem dX5_settlePart_62 : decode cX5_settlePart 62 = .ok (.goto 4, 3) := by decide +kernel
theorem dX5_settlePart_65 : decode cX5_settlePart 65 = .ok (.iload_n 2, 1) := by decide +kernel
theorem dX5_settlePart_66 : decode cX5_settlePart 66 = .ok (.istore 4, 2) := by decide +kernel
theorem dX5_settlePart_68 : decode cX5_settlePart 68 = .ok (.aload_n 0, 1) := by decide +kernel
theorem dX5_settlePart_69 : decode cX5_settlePart 69 = .ok (.iload_n 1, 1) := by decide +kernel
theorem dX5_settlePart_70 : decode cX5_settlePart 70 = .ok (.iload 4, 2) := by decide +kernel
theorem dX5_settlePart_72 : decode cX5_settlePart 72 = .ok (.invokevirtual 60, 3) := by decide +kernel
theorem dX5_settlePart_75 : decode cX5_settlePart 75 = .ok (.aload_n 0, 1) := by decide +kernel
theorem dX5_settlePart_76 : decode cX5_settlePart 76 = .ok (.getfield 7, 3) := by decide +kernel
theorem dX5_settlePart_79 : decode cX5_settlePart 79 = .ok (.bipush 35, 2) := by decide +kernel
theorem dX5_settlePart_81 : decode cX5_settlePart 81 = .ok (.iconst 5, 1) := by decide +kernel
theorem dX5_settlePart_82 : decode cX5_settlePart 82 = .ok (.iload_n 1, 1) := by decide +kernel
theorem dX5_settlePart_83 : decode cX5_settlePart 83 = .ok (.imul, 1) := by decide +kernel
theorem dX5_settlePart_84 : decode cX5_settlePart 84 = .ok (.iadd, 1) := by decide +kernel
theorem dX5_settlePart_85 : decode cX5_settlePart 85 = .ok (.iconst 2, 1) := by decide +kernel
theorem dX5_settlePart_86 : decode cX5_settlePart 86 = .ok (.iadd, 1) := by decide +kernel
theorem dX5_settlePart_87 : decode cX5_settlePart 87 = .ok (.dup2, 1) := by decide +kernel
theorem dX5_settlePart_88 : decode cX5_settlePart 88 = .ok (.iaload, 1) := by decide +kernel
theorem dX5_settlePart_89 : decode cX5_settlePart 89 = .ok (.iload 4, 2) := by decide +kernel
theorem dX5_settlePart_91 : decode cX5_settlePart 91 = .ok (.isub, 1) := by decide +kernel
theorem dX5_settlePart_92 : decode cX5_settlePart 92 = .ok (.iastore, 1) := by decide +kernel
theorem dX5_settlePart_93 : decode cX5_settlePart 93 = .ok (.aload_n 0, 1) := by decide +kernel
theorem dX5_settlePart_94 : decode cX5_settlePart 94 = .ok (.iload_n 1, 1) := by decide +kernel
theorem dX5_settlePart_95 : decode cX5_settlePart 95 = .ok (.iconst 2, 1) := by decide +kernel
theorem dX5_settlePart_96 : decode cX5_settlePart 96 = .ok (.invokevirtual 40, 3) := by decide +kernel
theorem dX5_settlePart_99 : decode cX5_settlePart 99 = .ok (.ireturn, 1) := by decide +kernel
set_option maxRecDepth 20000 in
theorem ggX5_cancel_X5_isPromise : GoodIn wsX5_cancel wsX5_isPromise := goodIn_r _ [7, 2, 8, 9, 6, 10, 29, 30, 31, 32, 33, 34, 35, 36, 37, 38, 39, 40] (by decide +kernel) (by decide +kernel)
set_option maxRecDepth 20000 in
theorem gX5_cancel_X5_isPromise : GoodIn wsX5_cancel (wsV RX5 87 RX5 yX5_isPromise wsX5_isPromise) := goodIn_app (goodIn_of _ (by decide +kernel)) ggX5_cancel_X5_isPromise
set_option maxRecDepth 20000 in
theorem ggX5_cancel_X5_fails : GoodIn wsX5_cancel wsX5_fails := goodIn_r _ [14, 1, 29, 30, 31, 32, 33, 34, 35, 36, 37, 38, 39, 40] (by decide +kernel) (by decide +kernel)
set_option maxRecDepth 20000 in
theorem gX5_cancel_X5_fails : GoodIn wsX5_cancel (wsV RX5 36 RX5 yX5_fails wsX5_fails) := goodIn_app (goodIn_of _ (by decide +kernel)) ggX5_cancel_X5_fails
set_option maxRecDepth 20000 in
theorem ggX5_cancel_X5_saves : GoodIn wsX5_cancel wsX5_saves := goodIn_r _ [18, 19, 20, 2, 29, 30, 31, 32, 33, 34, 35, 36, 37, 38, 39, 40] (by decide +kernel) (by decide +kernel)
set_option maxRecDepth 20000 in
theorem gX5_cancel_X5_saves : GoodIn wsX5_cancel (wsV RX5 71 RX5 yX5_saves wsX5_saves) := goodIn_app (goodIn_of _ (by decide +kernel)) ggX5_cancel_X5_saves
set_option maxRecDepth 20000 in
theorem ggX5_cancel_X5_ends : GoodIn wsX5_cancel wsX5_ends := goodIn_r _ [24, 2, 25, 26, 27, 6, 28, 29, 30, 31, 32, 33, 34, 35, 36, 37, 38, 39, 40] (by decide +kernel) (by decide +kernel)
set_option maxRecDepth 20000 in
theorem gX5_cancel_X5_ends : GoodIn wsX5_cancel (wsV RX5 64 RX5 yX5_ends wsX5_ends) := goodIn_app (goodIn_of _ (by decide +kernel)) ggX5_cancel_X5_ends
theorem dX5_cancel_0 : decode cX5_cancel 0 = .ok (.aload_n 0, 1) := by decide +kernel
theorem dX5_cancel_1 : decode cX5_cancel 1 = .ok (.iconst 0, 1) := by decide +kernel
theorem dX5_cancel_2 : decode cX5_cancel 2 = .ok (.putfield 25, 3) := by decide +kernel
theorem dX5_cancel_5 : decode cX5_cancel 5 = .ok (.aload_n 0, 1) := by decide +kernel
theorem dX5_cancel_6 : decode cX5_cancel 6 = .ok (.iload_n 1, 1) := by decide +kernel
theorem dX5_cancel_7 : decode cX5_cancel 7 = .ok (.invokevirtual 87, 3) := by decide +kernel
theorem dX5_cancel_10 : decode cX5_cancel 10 = .ok (.ifCond .ne 9, 3) := by decide +kernel
theorem dX5_cancel_13 : decode cX5_cancel 13 = .ok (.aload_n 0, 1) := by decide +kernel
theorem dX5_cancel_14 : decode cX5_cancel 14 = .ok (.iconst 1, 1) := by decide +kernel
theorem dX5_cancel_15 : decode cX5_cancel 15 = .ok (.invokevirtual 36, 3) := by decide +kernel
theorem dX5_cancel_18 : decode cX5_cancel 18 = .ok (.ireturn, 1) := by decide +kernel
theorem dX5_cancel_19 : decode cX5_cancel 19 = .ok (.aload_n 0, 1) := by decide +kernel
theorem dX5_cancel_20 : decode cX5_cancel 20 = .ok (.invokevirtual 71, 3) := by decide +kernel
theorem dX5_cancel_23 : decode cX5_cancel 23 = .ok (.aload_n 0, 1) := by decide +kernel
theorem dX5_cancel_24 : decode cX5_cancel 24 = .ok (.iload_n 1, 1) := by decide +kernel
theorem dX5_cancel_25 : decode cX5_cancel 25 = .ok (.bipush 23, 2) := by decide +kernel
theorem dX5_cancel_27 : decode cX5_cancel 27 = .ok (.invokevirtual 64, 3) := by decide +kernel
theorem dX5_cancel_30 : decode cX5_cancel 30 = .ok (.aload_n 0, 1) := by decide +kernel
theorem dX5_cancel_31 : decode cX5_cancel 31 = .ok (.getfield 7, 3) := by decide +kernel
theorem dX5_cancel_34 : decode cX5_cancel 34 = .ok (.iconst 3, 1) := by decide +kernel
theorem dX5_cancel_35 : decode cX5_cancel 35 = .ok (.iaload, 1) := by decide +kernel
theorem dX5_cancel_36 : decode cX5_cancel 36 = .ok (.ireturn, 1) := by decide +kernel
set_option maxRecDepth 20000 in
theorem ggX5_renew_X5_isPromise : GoodIn wsX5_renew wsX5_isPromise := goodIn_r _ [7, 2, 8, 9, 6, 10, 25, 26, 27, 28, 29, 30, 31, 32, 33, 34, 35, 36] (by decide +kernel) (by decide +kernel)
set_option maxRecDepth 20000 in
theorem gX5_renew_X5_isPromise : GoodIn wsX5_renew (wsV RX5 87 RX5 yX5_isPromise wsX5_isPromise) := goodIn_app (goodIn_of _ (by decide +kernel)) ggX5_renew_X5_isPromise
set_option maxRecDepth 20000 in
theorem ggX5_renew_X5_fails : GoodIn wsX5_renew wsX5_fails := goodIn_r _ [14, 1, 25, 26, 27, 28, 29, 30, 31, 32, 33, 34, 35, 36] (by decide +kernel) (by decide +kernel)
set_option maxRecDepth 20000 in
theorem gX5_renew_X5_fails : GoodIn wsX5_renew (wsV RX5 36 RX5 yX5_fails wsX5_fails) := goodIn_app (goodIn_of _ (by decide +kernel)) ggX5_renew_X5_fails
set_option maxRecDepth 20000 in
theorem ggX5_renew_X5_saves : GoodIn wsX5_renew wsX5_saves := goodIn_r _ [18, 19, 20, 2, 25, 26, 27, 28, 29, 30, 31, 32, 33, 34, 35, 36] (by decide +kernel) (by decide +kernel)
set_option maxRecDepth 20000 in
theorem gX5_renew_X5_saves : GoodIn wsX5_renew (wsV RX5 71 RX5 yX5_saves wsX5_saves) := goodIn_app (goodIn_of _ (by decide +kernel)) ggX5_renew_X5_saves
set_option maxRecDepth 20000 in
theorem ggX5_renew_X5_of : GoodIn wsX5_renew wsX5_of := goodIn_r _ [24, 2, 25, 26, 27, 28, 29, 30, 31, 32, 33, 34, 35, 36] (by decide +kernel) (by decide +kernel)
set_option maxRecDepth 20000 in
theorem gX5_renew_X5_of : GoodIn wsX5_renew (wsV RX5 40 RX5 yX5_of wsX5_of) := goodIn_app (goodIn_of _ (by decide +kernel)) ggX5_renew_X5_of
theorem dX5_renew_0 : decode cX5_renew 0 = .ok (.aload_n 0, 1) := by decide +kernel
theorem dX5_renew_1 : decode cX5_renew 1 = .ok (.iconst 0, 1) := by decide +kernel
theorem dX5_renew_2 : decode cX5_renew 2 = .ok (.putfield 25, 3) := by decide +kernel
theorem dX5_renew_5 : decode cX5_renew 5 = .ok (.aload_n 0, 1) := by decide +kernel
theorem dX5_renew_6 : decode cX5_renew 6 = .ok (.iload_n 1, 1) := by decide +kernel
theorem dX5_renew_7 : decode cX5_renew 7 = .ok (.invokevirtual 87, 3) := by decide +kernel
theorem dX5_renew_10 : decode cX5_renew 10 = .ok (.ifCond .ne 9, 3) := by decide +kernel
theorem dX5_renew_13 : decode cX5_renew 13 = .ok (.aload_n 0, 1) := by decide +kernel
theorem dX5_renew_14 : decode cX5_renew 14 = .ok (.iconst 1, 1) := by decide +kernel
theorem dX5_renew_15 : decode cX5_renew 15 = .ok (.invokevirtual 36, 3) := by decide +kernel
theorem dX5_renew_18 : decode cX5_renew 18 = .ok (.ireturn, 1) := by decide +kernel
theorem dX5_renew_19 : decode cX5_renew 19 = .ok (.aload_n 0, 1) := by decide +kernel
theorem dX5_renew_20 : decode cX5_renew 20 = .ok (.invokevirtual 71, 3) := by decide +kernel
theorem dX5_renew_23 : decode cX5_renew 23 = .ok (.aload_n 0, 1) := by decide +kernel
theorem dX5_renew_24 : decode cX5_renew 24 = .ok (.iload_n 1, 1) := by decide +kernel
theorem dX5_renew_25 : decode cX5_renew 25 = .ok (.iconst 4, 1) := by decide +kernel
theorem dX5_renew_26 : decode cX5_renew 26 = .ok (.invokevirtual 40, 3) := by decide +kernel
theorem dX5_renew_29 : decode cX5_renew 29 = .ok (.istore_n 2, 1) := by decide +kernel
theorem dX5_renew_30 : decode cX5_renew 30 = .ok (.aload_n 0, 1) := by decide +kernel
theorem dX5_renew_31 : decode cX5_renew 31 = .ok (.getfield 7, 3) := by decide +kernel
theorem dX5_renew_34 : decode cX5_renew 34 = .ok (.bipush 35, 2) := by decide +kernel
theorem dX5_renew_36 : decode cX5_renew 36 = .ok (.iconst 5, 1) := by decide +kernel
theorem dX5_renew_37 : decode cX5_renew 37 = .ok (.iload_n 1, 1) := by decide +kernel
theorem dX5_renew_38 : decode cX5_renew 38 = .ok (.imul, 1) := by decide +kernel
theorem dX5_renew_39 : decode cX5_renew 39 = .ok (.iadd, 1) := by decide +kernel
theorem dX5_renew_40 : decode cX5_renew 40 = .ok (.iconst 4, 1) := by decide +kernel
theorem dX5_renew_41 : decode cX5_renew 41 = .ok (.iadd, 1) := by decide +kernel
theorem dX5_renew_42 : decode cX5_renew 42 = .ok (.aload_n 0, 1) := by decide +kernel
theorem dX5_renew_43 : decode cX5_renew 43 = .ok (.getfield 7, 3) := by decide +kernel
theorem dX5_renew_46 : decode cX5_renew 46 = .ok (.iconst 0, 1) := by decide +kernel
theorem dX5_renew_47 : decode cX5_renew 47 = .ok (.iaload, 1) := by decide +kernel
theorem dX5_renew_48 : decode cX5_renew 48 = .ok (.aload_n 0, 1) := by decide +kernel
theorem dX5_renew_49 : decode cX5_renew 49 = .ok (.getfield 7, 3) := by decide +kernel
theorem dX5_renew_52 : decode cX5_renew 52 = .ok (.iconst 2, 1) := by decide +kernel
theorem dX5_renew_53 : decode cX5_renew 53 = .ok (.iaload, 1) := by decide +kernel
theorem dX5_renew_54 : decode cX5_renew 54 = .ok (.iadd, 1) := by decide +kernel
theorem dX5_renew_55 : decode cX5_renew 55 = .ok (.iastore, 1) := by decide +kernel
theorem dX5_renew_56 : decode cX5_renew 56 = .ok (.aload_n 0, 1) := by decide +kernel
theorem dX5_renew_57 : decode cX5_renew 57 = .ok (.iload_n 1, 1) := by decide +kernel
theorem dX5_renew_58 : decode cX5_renew 58 = .ok (.iconst 4, 1) := by decide +kernel
theorem dX5_renew_59 : decode cX5_renew 59 = .ok (.invokevirtual 40, 3) := by decide +kernel
theorem dX5_renew_62 : decode cX5_renew 62 = .ok (.iload_n 2, 1) := by decide +kernel
theorem dX5_renew_63 : decode cX5_renew 63 = .ok (.isub, 1) := by decide +kernel
theorem dX5_renew_64 : decode cX5_renew 64 = .ok (.ireturn, 1) := by decide +kernel
set_option maxRecDepth 20000 in
theorem ggX5_finish_X5_isOwner : GoodIn wsX5_finish wsX5_isOwner := goodIn_r _ [6, 7, 8, 5, 9] (by decide +kernel) (by decide +kernel)
set_option maxRecDepth 20000 in
theorem gX5_finish_X5_isOwner : GoodIn wsX5_finish (va_wsS RX5 74 yX5_isOwner wsX5_isOwner) := goodIn_app (goodIn_of _ (by decide +kernel)) ggX5_finish_X5_isOwner
set_option maxRecDepth 20000 in
theorem ggX5_finish_X5_fails : GoodIn wsX5_finish wsX5_fails := goodIn_r _ [13, 1, 36, 37, 38, 39, 40, 41, 42, 43, 44, 45, 46, 47] (by decide +kernel) (by decide +kernel)
set_option maxRecDepth 20000 in
theorem gX5_finish_X5_fails : GoodIn wsX5_finish (wsV RX5 36 RX5 yX5_fails wsX5_fails) := goodIn_app (goodIn_of _ (by decide +kernel)) ggX5_finish_X5_fails
set_option maxRecDepth 20000 in
theorem ggX5_finish_X5_saves : GoodIn wsX5_finish wsX5_saves := goodIn_r _ [17, 18, 19, 2, 36, 37, 38, 39, 40, 41, 42, 43, 44, 45, 46, 47] (by decide +kernel) (by decide +kernel)
set_option maxRecDepth 20000 in
theorem gX5_finish_X5_saves : GoodIn wsX5_finish (wsV RX5 71 RX5 yX5_saves wsX5_saves) := goodIn_app (goodIn_of _ (by decide +kernel)) ggX5_finish_X5_saves
set_option maxRecDepth 20000 in
theorem ggX5_finish_X5_of : GoodIn wsX5_finish wsX5_of := goodIn_r _ [23, 2, 36, 37, 38, 39, 40, 41, 42, 43, 44, 45, 46, 47] (by decide +kernel) (by decide +kernel)
set_option maxRecDepth 20000 in
theorem gX5_finish_X5_of : GoodIn wsX5_finish (wsV RX5 40 RX5 yX5_of wsX5_of) := goodIn_app (goodIn_of _ (by decide +kernel)) ggX5_finish_X5_of
set_option maxRecDepth 20000 in
theorem ggX5_finish_X5_settles : GoodIn wsX5_finish wsX5_settles := goodIn_r _ [27, 20, 21, 22, 5, 23, 2, 28, 29, 30, 31, 32, 33, 34, 35, 36, 37, 38, 39, 40, 41, 42, 43, 44, 45, 46, 47] (by decide +kernel) (by decide +kernel)
set_option maxRecDepth 20000 in
theorem gX5_finish_X5_settles : GoodIn wsX5_finish (wsV RX5 90 RX5 yX5_settles wsX5_settles) := goodIn_app (goodIn_of _ (by decide +kernel)) ggX5_finish_X5_settles
set_option maxRecDepth 20000 in
theorem ggX5_finish_X5_ends : GoodIn wsX5_finish wsX5_ends := goodIn_r _ [35, 2, 20, 21, 22, 5, 23, 36, 37, 38, 39, 40, 41, 42, 43, 44, 45, 46, 47] (by decide +kernel) (by decide +kernel)
set_option maxRecDepth 20000 in
theorem gX5_finish_X5_ends : GoodIn wsX5_finish (wsV RX5 64 RX5 yX5_ends wsX5_ends) := goodIn_app (goodIn_of _ (by decide +kernel)) ggX5_finish_X5_ends
theorem dX5_finish_0 : decode cX5_finish 0 = .ok (.aload_n 0, 1) := by decide +kernel
theorem dX5_finish_1 : decode cX5_finish 1 = .ok (.iconst 0, 1) := by decide +kernel
theorem dX5_finish_2 : decode cX5_finish 2 = .ok (.putfield 25, 3) := by decide +kernel
theorem dX5_finish_5 : decode cX5_finish 5 = .ok (.iload_n 1, 1) := by decide +kernel
theorem dX5_finish_6 : decode cX5_finish 6 = .ok (.invokestatic 74, 3) := by decide +kernel
theorem dX5_finish_9 : decode cX5_finish 9 = .ok (.ifCond .ne 9, 3) := by decide +kernel
theorem dX5_finish_12 : decode cX5_finish 12 = .ok (.aload_n 0, 1) := by decide +kernel
theorem dX5_finish_13 : decode cX5_finish 13 = .ok (.iconst 1, 1) := by decide +kernel
theorem dX5_finish_14 : decode cX5_finish 14 = .ok (.invokevirtual 36, 3) := by decide +kernel
theorem dX5_finish_17 : decode cX5_finish 17 = .ok (.ireturn, 1) := by decide +kernel
theorem dX5_finish_18 : decode cX5_finish 18 = .ok (.aload_n 0, 1) := by decide +kernel
theorem dX5_finish_19 : decode cX5_finish 19 = .ok (.invokevirtual 71, 3) := by decide +kernel
theorem dX5_finish_22 : decode cX5_finish 22 = .ok (.aload_n 0, 1) := by decide +kernel
theorem dX5_finish_23 : decode cX5_finish 23 = .ok (.getfield 7, 3) := by decide +kernel
