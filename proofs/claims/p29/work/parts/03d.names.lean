theorem dX4_transfer_0 : decode cX4_transfer 0 = .ok (.iload_n 1, 1) := by decide +kernel
theorem dX4_transfer_1 : decode cX4_transfer 1 = .ok (.bipush 6, 2) := by decide +kernel
theorem dX4_transfer_3 : decode cX4_transfer 3 = .ok (.invokestatic 45, 3) := by decide +kernel
theorem dX4_transfer_6 : decode cX4_transfer 6 = .ok (.iload_n 2, 1) := by decide +kernel
theorem dX4_transfer_7 : decode cX4_transfer 7 = .ok (.iconst 4, 1) := by decide +kernel
theorem dX4_transfer_8 : decode cX4_transfer 8 = .ok (.invokestatic 45, 3) := by decide +kernel
theorem dX4_transfer_11 : decode cX4_transfer 11 = .ok (.iload_n 3, 1) := by decide +kernel
theorem dX4_transfer_12 : decode cX4_transfer 12 = .ok (.iconst 4, 1) := by decide +kernel
theorem dX4_transfer_13 : decode cX4_transfer 13 = .ok (.invokestatic 45, 3) := by decide +kernel
theorem dX4_transfer_16 : decode cX4_transfer 16 = .ok (.iload_n 2, 1) := by decide +kernel
theorem dX4_transfer_17 : decode cX4_transfer 17 = .ok (.iload_n 3, 1) := by decide +kernel
theorem dX4_transfer_18 : decode cX4_transfer 18 = .ok (.if_icmp .ne 13, 3) := by decide +kernel
theorem dX4_transfer_21 : decode cX4_transfer 21 = .ok (.new 93, 3) := by decide +kernel
theorem dX4_transfer_24 : decode cX4_transfer 24 = .ok (.dup, 1) := by decide +kernel
theorem dX4_transfer_25 : decode cX4_transfer 25 = .ok (.ldc 95, 2) := by decide +kernel
theorem dX4_transfer_27 : decode cX4_transfer 27 = .ok (.invokespecial 97, 3) := by decide +kernel
theorem dX4_transfer_30 : decode cX4_transfer 30 = .ok (.athrow, 1) := by decide +kernel
theorem dX4_transfer_31 : decode cX4_transfer 31 = .ok (.iload 4, 2) := by decide +kernel
theorem dX4_transfer_33 : decode cX4_transfer 33 = .ok (.iconst 1, 1) := by decide +kernel
theorem dX4_transfer_34 : decode cX4_transfer 34 = .ok (.bipush 99, 2) := by decide +kernel
theorem dX4_transfer_36 : decode cX4_transfer 36 = .ok (.invokestatic 49, 3) := by decide +kernel
theorem dX4_transfer_39 : decode cX4_transfer 39 = .ok (.aload_n 0, 1) := by decide +kernel
theorem dX4_transfer_40 : decode cX4_transfer 40 = .ok (.iload_n 1, 1) := by decide +kernel
theorem dX4_transfer_41 : decode cX4_transfer 41 = .ok (.iload_n 2, 1) := by decide +kernel
theorem dX4_transfer_42 : decode cX4_transfer 42 = .ok (.iload 4, 2) := by decide +kernel
theorem dX4_transfer_44 : decode cX4_transfer 44 = .ok (.ineg, 1) := by decide +kernel
theorem dX4_transfer_45 : decode cX4_transfer 45 = .ok (.iload_n 3, 1) := by decide +kernel
theorem dX4_transfer_46 : decode cX4_transfer 46 = .ok (.invokevirtual 85, 3) := by decide +kernel
theorem dX4_transfer_49 : decode cX4_transfer 49 = .ok (.aload_n 0, 1) := by decide +kernel
theorem dX4_transfer_50 : decode cX4_transfer 50 = .ok (.getfield 19, 3) := by decide +kernel
theorem dX4_transfer_53 : decode cX4_transfer 53 = .ok (.aload_n 0, 1) := by decide +kernel
theorem dX4_transfer_54 : decode cX4_transfer 54 = .ok (.getfield 10, 3) := by decide +kernel
theorem dX4_transfer_57 : decode cX4_transfer 57 = .ok (.invokevirtual 67, 3) := by decide +kernel
theorem dX4_transfer_60 : decode cX4_transfer 60 = .ok (.aload_n 0, 1) := by decide +kernel
theorem dX4_transfer_61 : decode cX4_transfer 61 = .ok (.getfield 10, 3) := by decide +kernel
theorem dX4_transfer_64 : decode cX4_transfer 64 = .ok (.iload_n 1, 1) := by decide +kernel
theorem dX4_transfer_65 : decode cX4_transfer 65 = .ok (.iload_n 2, 1) := by decide +kernel
theorem dX4_transfer_66 : decode cX4_transfer 66 = .ok (.iload 4, 2) := by decide +kernel
theorem dX4_transfer_68 : decode cX4_transfer 68 = .ok (.ineg, 1) := by decide +kernel
theorem dX4_transfer_69 : decode cX4_transfer 69 = .ok (.iload_n 3, 1) := by decide +kernel
theorem dX4_transfer_70 : decode cX4_transfer 70 = .ok (.invokevirtual 89, 3) := by decide +kernel
theorem dX4_transfer_73 : decode cX4_transfer 73 = .ok (.ireturn, 1) := by decide +kernel
set_option maxRecDepth 20000 in
theorem ggX4_settle_X4_checkIndex : GoodIn wsX4_settle wsX4_checkIndex := goodIn_ca (goodIn_r _ [9, 10, 11] (by decide +kernel) (by decide +kernel)) (goodIn_sub (fun _ h => List.mem_cons_of_mem _ (List.mem_append_right _ h)) (by decide +kernel))
set_option maxRecDepth 20000 in
theorem gX4_settle_X4_checkIndex : GoodIn wsX4_settle (va_wsS RX4 45 yX4_checkIndex wsX4_checkIndex) := goodIn_app (goodIn_of _ (by decide +kernel)) ggX4_settle_X4_checkIndex
set_option maxRecDepth 20000 in
theorem ggX4_settle_X2_save : GoodIn wsX4_settle wsX2_save := goodIn_r _ [16, 17, 18, 19, 20, 21, 15, 22, 23, 24, 25, 26, 27, 28, 29, 30, 31, 32, 33, 34, 35, 36, 37, 38, 39, 40, 41, 42, 43, 44, 45, 46, 80, 81, 65, 66, 67, 68, 69, 70, 71, 72, 73, 74, 75, 76, 77, 78, 79] (by decide +kernel) (by decide +kernel)
set_option maxRecDepth 20000 in
theorem gX4_settle_X2_save : GoodIn wsX4_settle (wsV RX4 67 RX2 yX2_save wsX2_save) := goodIn_app (goodIn_of _ (by decide +kernel)) ggX4_settle_X2_save
set_option maxRecDepth 20000 in
theorem ggX4_settle_X3_settleWhole : GoodIn wsX4_settle wsX3_settleWhole := goodIn_r _ [50, 41, 44, 39, 51, 52, 53, 26, 54, 36, 40, 42, 55, 56, 57, 58, 29, 43, 65, 66, 67, 68, 69, 70, 71, 72, 73, 74, 75, 76, 77, 78, 79] (by decide +kernel) (by decide +kernel)
set_option maxRecDepth 20000 in
theorem gX4_settle_X3_settleWhole : GoodIn wsX4_settle (wsV RX4 104 RX3 yX3_settleWhole wsX3_settleWhole) := goodIn_app (goodIn_of _ (by decide +kernel)) ggX4_settle_X3_settleWhole
theorem dX4_settle_0 : decode cX4_settle 0 = .ok (.iload_n 1, 1) := by decide +kernel
theorem dX4_settle_1 : decode cX4_settle 1 = .ok (.aload_n 0, 1) := by decide +kernel
theorem dX4_settle_2 : decode cX4_settle 2 = .ok (.getfield 10, 3) := by decide +kernel
theorem dX4_settle_5 : decode cX4_settle 5 = .ok (.getfield 98, 3) := by decide +kernel
theorem dX4_settle_8 : decode cX4_settle 8 = .ok (.invokestatic 45, 3) := by decide +kernel
theorem dX4_settle_11 : decode cX4_settle 11 = .ok (.aload_n 0, 1) := by decide +kernel
theorem dX4_settle_12 : decode cX4_settle 12 = .ok (.getfield 19, 3) := by decide +kernel
theorem dX4_settle_15 : decode cX4_settle 15 = .ok (.aload_n 0, 1) := by decide +kernel
theorem dX4_settle_16 : decode cX4_settle 16 = .ok (.getfield 10, 3) := by decide +kernel
theorem dX4_settle_19 : decode cX4_settle 19 = .ok (.invokevirtual 67, 3) := by decide +kernel
theorem dX4_settle_22 : decode cX4_settle 22 = .ok (.aload_n 0, 1) := by decide +kernel
theorem dX4_settle_23 : decode cX4_settle 23 = .ok (.getfield 10, 3) := by decide +kernel
theorem dX4_settle_26 : decode cX4_settle 26 = .ok (.getfield 101, 3) := by decide +kernel
theorem dX4_settle_29 : decode cX4_settle 29 = .ok (.iload_n 1, 1) := by decide +kernel
theorem dX4_settle_30 : decode cX4_settle 30 = .ok (.iaload, 1) := by decide +kernel
theorem dX4_settle_31 : decode cX4_settle 31 = .ok (.istore_n 2, 1) := by decide +kernel
theorem dX4_settle_32 : decode cX4_settle 32 = .ok (.aload_n 0, 1) := by decide +kernel
theorem dX4_settle_33 : decode cX4_settle 33 = .ok (.getfield 10, 3) := by decide +kernel
theorem dX4_settle_36 : decode cX4_settle 36 = .ok (.iload_n 1, 1) := by decide +kernel
theorem dX4_settle_37 : decode cX4_settle 37 = .ok (.invokevirtual 104, 3) := by decide +kernel
theorem dX4_settle_40 : decode cX4_settle 40 = .ok (.aload_n 0, 1) := by decide +kernel
theorem dX4_settle_41 : decode cX4_settle 41 = .ok (.getfield 10, 3) := by decide +kernel
theorem dX4_settle_44 : decode cX4_settle 44 = .ok (.getfield 107, 3) := by decide +kernel
theorem dX4_settle_47 : decode cX4_settle 47 = .ok (.iload_n 2, 1) := by decide +kernel
theorem dX4_settle_48 : decode cX4_settle 48 = .ok (.iaload, 1) := by decide +kernel
theorem dX4_settle_49 : decode cX4_settle 49 = .ok (.ireturn, 1) := by decide +kernel
set_option maxRecDepth 20000 in
theorem ggX4_settlePart_X4_checkIndex : GoodIn wsX4_settlePart wsX4_checkIndex := goodIn_ca (goodIn_r _ [12, 13, 14] (by decide +kernel) (by decide +kernel)) (goodIn_sub (fun _ h => List.mem_cons_of_mem _ (List.mem_append_left _ (List.mem_append_right _ h))) (by decide +kernel))
set_option maxRecDepth 20000 in
theorem gX4_settlePart_X4_checkIndex : GoodIn wsX4_settlePart (va_wsS RX4 45 yX4_checkIndex wsX4_checkIndex) := goodIn_app (goodIn_of _ (by decide +kernel)) ggX4_settlePart_X4_checkIndex
set_option maxRecDepth 20000 in
theorem ggX4_settlePart_X4_checkArgument : GoodIn wsX4_settlePart wsX4_checkArgument := goodIn_ca (goodIn_r _ [17, 18, 19] (by decide +kernel) (by decide +kernel)) (goodIn_sub (fun _ h => List.mem_cons_of_mem _ (List.mem_append_right _ h)) (by decide +kernel))
set_option maxRecDepth 20000 in
theorem gX4_settlePart_X4_checkArgument : GoodIn wsX4_settlePart (va_wsS RX4 49 yX4_checkArgument wsX4_checkArgument) := goodIn_app (goodIn_of _ (by decide +kernel)) ggX4_settlePart_X4_checkArgument
set_option maxRecDepth 20000 in
theorem ggX4_settlePart_X2_save : GoodIn wsX4_settlePart wsX2_save := goodIn_r _ [24, 25, 26, 27, 28, 29, 23, 30, 31, 32, 33, 34, 35, 36, 37, 38, 39, 40, 41, 42, 43, 44, 45, 46, 47, 48, 49, 50, 51, 52, 53, 54, 80, 81, 65, 66, 67, 68, 69, 70, 71, 72, 73, 74, 75, 76, 77, 78, 79] (by decide +kernel) (by decide +kernel)
set_option maxRecDepth 20000 in
theorem gX4_settlePart_X2_save : GoodIn wsX4_settlePart (wsV RX4 67 RX2 yX2_save wsX2_save) := goodIn_app (goodIn_of _ (by decide +kernel)) ggX4_settlePart_X2_save
set_option maxRecDepth 20000 in
theorem ggX4_settlePart_X3_addToCounters : GoodIn wsX4_settlePart wsX3_addToCounters := goodIn_r _ [58, 44, 48, 50, 65, 66, 67, 68, 69, 70, 71, 72, 73, 74, 75, 76, 77, 78, 79] (by decide +kernel) (by decide +kernel)
set_option maxRecDepth 20000 in
theorem gX4_settlePart_X3_addToCounters : GoodIn wsX4_settlePart (wsV RX4 118 RX3 yX3_addToCounters wsX3_addToCounters) := goodIn_app (goodIn_of _ (by decide +kernel)) ggX4_settlePart_X3_addToCounters
theorem dX4_settlePart_0 : decode cX4_settlePart 0 = .ok (.iload_n 1, 1) := by decide +kernel
theorem dX4_settlePart_1 : decode cX4_settlePart 1 = .ok (.aload_n 0, 1) := by decide +kernel
theorem dX4_settlePart_2 : decode cX4_settlePart 2 = .ok (.getfield 10, 3) := by decide +kernel
theorem dX4_settlePart_5 : decode cX4_settlePart 5 = .ok (.getfield 98, 3) := by decide +kernel
theorem dX4_settlePart_8 : decode cX4_settlePart 8 = .ok (.invokestatic 45, 3) := by decide +kernel
theorem dX4_settlePart_11 : decode cX4_settlePart 11 = .ok (.iload_n 2, 1) := by decide +kernel
theorem dX4_settlePart_12 : decode cX4_settlePart 12 = .ok (.iconst 1, 1) := by decide +kernel
theorem dX4_settlePart_13 : decode cX4_settlePart 13 = .ok (.aload_n 0, 1) := by decide +kernel
theorem dX4_settlePart_14 : decode cX4_settlePart 14 = .ok (.getfield 10, 3) := by decide +kernel
theorem dX4_settlePart_17 : decode cX4_settlePart 17 = .ok (.getfield 110, 3) := by decide +kernel
theorem dX4_settlePart_20 : decode cX4_settlePart 20 = .ok (.iload_n 1, 1) := by decide +kernel
theorem dX4_settlePart_21 : decode cX4_settlePart 21 = .ok (.iaload, 1) := by decide +kernel
theorem dX4_settlePart_22 : decode cX4_settlePart 22 = .ok (.invokestatic 113, 3) := by decide +kernel
theorem dX4_settlePart_25 : decode cX4_settlePart 25 = .ok (.iconst 1, 1) := by decide +kernel
theorem dX4_settlePart_26 : decode cX4_settlePart 26 = .ok (.isub, 1) := by decide +kernel
theorem dX4_settlePart_27 : decode cX4_settlePart 27 = .ok (.invokestatic 49, 3) := by decide +kernel
theorem dX4_settlePart_30 : decode cX4_settlePart 30 = .ok (.aload_n 0, 1) := by decide +kernel
theorem dX4_settlePart_31 : decode cX4_settlePart 31 = .ok (.getfield 19, 3) := by decide +kernel
theorem dX4_settlePart_34 : decode cX4_settlePart 34 = .ok (.aload_n 0, 1) := by decide +kernel
theorem dX4_settlePart_35 : decode cX4_settlePart 35 = .ok (.getfield 10, 3) := by decide +kernel
theorem dX4_settlePart_38 : decode cX4_settlePart 38 = .ok (.invokevirtual 67, 3) := by decide +kernel
theorem dX4_settlePart_41 : decode cX4_settlePart 41 = .ok (.aload_n 0, 1) := by decide +kernel
theorem dX4_settlePart_42 : decode cX4_settlePart 42 = .ok (.getfield 10, 3) := by decide +kernel
theorem dX4_settlePart_45 : decode cX4_settlePart 45 = .ok (.getfield 110, 3) := by decide +kernel
theorem dX4_settlePart_48 : decode cX4_settlePart 48 = .ok (.iload_n 1, 1) := by decide +kernel
theorem dX4_settlePart_49 : decode cX4_settlePart 49 = .ok (.iaload, 1) := by decide +kernel
theorem dX4_settlePart_50 : decode cX4_settlePart 50 = .ok (.ifCond .ge 8, 3) := by decide +kernel
theorem dX4_settlePart_53 : decode cX4_settlePart 53 = .ok (.iload_n 2, 1) := by decide +kernel
theorem dX4_settlePart_54 : decode cX4_settlePart 54 = .ok (.ineg, 1) := by decide +kernel
theorem dX4_settlePart_55 : decode cX4_settlePart 55 = .ok (.goto 4, 3) := by decide +kernel
theorem dX4_settlePart_58 : decode cX4_settlePart 58 = .ok (.iload_n 2, 1) := by decide +kernel
theorem dX4_settlePart_59 : decode cX4_settlePart 59 = .ok (.istore_n 3, 1) := by decide +kernel
theorem dX4_settlePart_60 : decode cX4_settlePart 60 = .ok (.aload_n 0, 1) := by decide +kernel
theorem dX4_settlePart_61 : decode cX4_settlePart 61 = .ok (.getfield 10, 3) := by decide +kernel
theorem dX4_settlePart_64 : decode cX4_settlePart 64 = .ok (.iload_n 1, 1) := by decide +kernel
theorem dX4_settlePart_65 : decode cX4_settlePart 65 = .ok (.iload_n 3, 1) := by decide +kernel
theorem dX4_settlePart_66 : decode cX4_settlePart 66 = .ok (.invokevirtual 118, 3) := by decide +kernel
theorem dX4_settlePart_69 : decode cX4_settlePart 69 = .ok (.aload_n 0, 1) := by decide +kernel
theorem dX4_settlePart_70 : decode cX4_settlePart 70 = .ok (.getfield 10, 3) := by decide +kernel
theorem dX4_settlePart_73 : decode cX4_settlePart 73 = .ok (.getfield 110, 3) := by decide +kernel
theorem dX4_settlePart_76 : decode cX4_settlePart 76 = .ok (.iload_n 1, 1) := by decide +kernel
theorem dX4_settlePart_77 : decode cX4_settlePart 77 = .ok (.dup2, 1) := by decide +kernel
theorem dX4_settlePart_78 : decode cX4_settlePart 78 = .ok (.iaload, 1) := by decide +kernel
theorem dX4_settlePart_79 : decode cX4_settlePart 79 = .ok (.iload_n 3, 1) := by decide +kernel
theorem dX4_settlePart_80 : decode cX4_settlePart 80 = .ok (.isub, 1) := by decide +kernel
theorem dX4_settlePart_81 : decode cX4_settlePart 81 = .ok (.iastore, 1) := by decide +kernel
theorem dX4_settlePart_82 : decode cX4_settlePart 82 = .ok (.aload_n 0, 1) := by decide +kernel
theorem dX4_settlePart_83 : decode cX4_settlePart 83 = .ok (.getfield 10, 3) := by decide +kernel
theorem dX4_settlePart_86 : decode cX4_settlePart 86 = .ok (.getfield 110, 3) := by decide +kernel
theorem dX4_settlePart_89 : decode cX4_settlePart 89 = .ok (.iload_n 1, 1) := by decide +kernel
theorem dX4_settlePart_90 : decode cX4_settlePart 90 = .ok (.iaload, 1) := by decide +kernel
theorem dX4_settlePart_91 : decode cX4_settlePart 91 = .ok (.ireturn, 1) := by decide +kernel
set_option maxRecDepth 20000 in
theorem ggX4_cancel_X4_checkIndex : GoodIn wsX4_cancel wsX4_checkIndex := goodIn_ca (goodIn_r _ [7, 8, 9] (by decide +kernel) (by decide +kernel)) (goodIn_sub (fun _ h => List.mem_cons_of_mem _ (List.mem_append_right _ h)) (by decide +kernel))
set_option maxRecDepth 20000 in
theorem gX4_cancel_X4_checkIndex : GoodIn wsX4_cancel (va_wsS RX4 45 yX4_checkIndex wsX4_checkIndex) := goodIn_app (goodIn_of _ (by decide +kernel)) ggX4_cancel_X4_checkIndex
set_option maxRecDepth 20000 in
theorem ggX4_cancel_X2_save : GoodIn wsX4_cancel wsX2_save := goodIn_r _ [14, 15, 16, 17, 18, 19, 13, 20, 21, 22, 23, 24, 25, 26, 27, 28, 29, 30, 31, 32, 33, 34, 35, 36, 37, 38, 39, 40, 41, 42, 43, 44, 74, 75, 59, 60, 61, 62, 63, 64, 65, 66, 67, 68, 69, 70, 71, 72, 73] (by decide +kernel) (by decide +kernel)
set_option maxRecDepth 20000 in
theorem gX4_cancel_X2_save : GoodIn wsX4_cancel (wsV RX4 67 RX2 yX2_save wsX2_save) := goodIn_app (goodIn_of _ (by decide +kernel)) ggX4_cancel_X2_save
set_option maxRecDepth 20000 in
theorem ggX4_cancel_X3_cancelWhole : GoodIn wsX4_cancel wsX3_cancelWhole := goodIn_r _ [48, 43, 37, 49, 50, 51, 24, 52, 27, 38, 39, 40, 41, 59, 60, 61, 62, 63, 64, 65, 66, 67, 68, 69, 70, 71, 72, 73] (by decide +kernel) (by decide +kernel)
set_option maxRecDepth 20000 in
theorem gX4_cancel_X3_cancelWhole : GoodIn wsX4_cancel (wsV RX4 121 RX3 yX3_cancelWhole wsX3_cancelWhole) := goodIn_app (goodIn_of _ (by decide +kernel)) ggX4_cancel_X3_cancelWhole
theorem dX4_cancel_0 : decode cX4_cancel 0 = .ok (.iload_n 1, 1) := by decide +kernel
theorem dX4_cancel_1 : decode cX4_cancel 1 = .ok (.aload_n 0, 1) := by decide +kernel
theorem dX4_cancel_2 : decode cX4_cancel 2 = .ok (.getfield 10, 3) := by decide +kernel
theorem dX4_cancel_5 : decode cX4_cancel 5 = .ok (.getfield 98, 3) := by decide +kernel
theorem dX4_cancel_8 : decode cX4_cancel 8 = .ok (.invokestatic 45, 3) := by decide +kernel
theorem dX4_cancel_11 : decode cX4_cancel 11 = .ok (.aload_n 0, 1) := by decide +kernel
theorem dX4_cancel_12 : decode cX4_cancel 12 = .ok (.getfield 19, 3) := by decide +kernel
theorem dX4_cancel_15 : decode cX4_cancel 15 = .ok (.aload_n 0, 1) := by decide +kernel
theorem dX4_cancel_16 : decode cX4_cancel 16 = .ok (.getfield 10, 3) := by decide +kernel
theorem dX4_cancel_19 : decode cX4_cancel 19 = .ok (.invokevirtual 67, 3) := by decide +kernel
theorem dX4_cancel_22 : decode cX4_cancel 22 = .ok (.aload_n 0, 1) := by decide +kernel
theorem dX4_cancel_23 : decode cX4_cancel 23 = .ok (.getfield 10, 3) := by decide +kernel
theorem dX4_cancel_26 : decode cX4_cancel 26 = .ok (.iload_n 1, 1) := by decide +kernel
theorem dX4_cancel_27 : decode cX4_cancel 27 = .ok (.invokevirtual 121, 3) := by decide +kernel
theorem dX4_cancel_30 : decode cX4_cancel 30 = .ok (.aload_n 0, 1) := by decide +kernel
theorem dX4_cancel_31 : decode cX4_cancel 31 = .ok (.getfield 10, 3) := by decide +kernel
theorem dX4_cancel_34 : decode cX4_cancel 34 = .ok (.getfield 98, 3) := by decide +kernel
theorem dX4_cancel_37 : decode cX4_cancel 37 = .ok (.ireturn, 1) := by decide +kernel
set_option maxRecDepth 20000 in
theorem ggX4_renew_X4_checkIndex : GoodIn wsX4_renew wsX4_checkIndex := goodIn_ca (goodIn_r _ [10, 11, 12] (by decide +kernel) (by decide +kernel)) (goodIn_sub (fun _ h => List.mem_cons_of_mem _ (List.mem_append_right _ h)) (by decide +kernel))
set_option maxRecDepth 20000 in
theorem gX4_renew_X4_checkIndex : GoodIn wsX4_renew (va_wsS RX4 45 yX4_checkIndex wsX4_checkIndex) := goodIn_app (goodIn_of _ (by decide +kernel)) ggX4_renew_X4_checkIndex
set_option maxRecDepth 20000 in
theorem ggX4_renew_X2_save : GoodIn wsX4_renew wsX2_save := goodIn_r _ [17, 18, 19, 20, 21, 22, 16, 23, 24, 25, 26, 27, 28, 29, 30, 31, 32, 33, 34, 35, 36, 37, 38, 39, 40, 41, 42, 43, 44, 45, 46, 47, 69, 70, 54, 55, 56, 57, 58, 59, 60, 61, 62, 63, 64, 65, 66, 67, 68] (by decide +kernel) (by decide +kernel)
set_option maxRecDepth 20000 in
theorem gX4_renew_X2_save : GoodIn wsX4_renew (wsV RX4 67 RX2 yX2_save wsX2_save) := goodIn_app (goodIn_of _ (by decide +kernel)) ggX4_renew_X2_save
theorem dX4_renew_0 : decode cX4_renew 0 = .ok (.iload_n 1, 1) := by decide +kernel
theorem dX4_renew_1 : decode cX4_renew 1 = .ok (.aload_n 0, 1) := by decide +kernel
theorem dX4_renew_2 : decode cX4_renew 2 = .ok (.getfield 10, 3) := by decide +kernel
theorem dX4_renew_5 : decode cX4_renew 5 = .ok (.getfield 98, 3) := by decide +kernel
theorem dX4_renew_8 : decode cX4_renew 8 = .ok (.invokestatic 45, 3) := by decide +kernel
theorem dX4_renew_11 : decode cX4_renew 11 = .ok (.aload_n 0, 1) := by decide +kernel
theorem dX4_renew_12 : decode cX4_renew 12 = .ok (.getfield 19, 3) := by decide +kernel
theorem dX4_renew_15 : decode cX4_renew 15 = .ok (.aload_n 0, 1) := by decide +kernel
theorem dX4_renew_16 : decode cX4_renew 16 = .ok (.getfield 10, 3) := by decide +kernel
theorem dX4_renew_19 : decode cX4_renew 19 = .ok (.invokevirtual 67, 3) := by decide +kernel
theorem dX4_renew_22 : decode cX4_renew 22 = .ok (.aload_n 0, 1) := by decide +kernel
theorem dX4_renew_23 : decode cX4_renew 23 = .ok (.getfield 10, 3) := by decide +kernel
theorem dX4_renew_26 : decode cX4_renew 26 = .ok (.getfield 124, 3) := by decide +kernel
theorem dX4_renew_29 : decode cX4_renew 29 = .ok (.iload_n 1, 1) := by decide +kernel
theorem dX4_renew_30 : decode cX4_renew 30 = .ok (.iaload, 1) := by decide +kernel
theorem dX4_renew_31 : decode cX4_renew 31 = .ok (.istore_n 2, 1) := by decide +kernel
theorem dX4_renew_32 : decode cX4_renew 32 = .ok (.aload_n 0, 1) := by decide +kernel
theorem dX4_renew_33 : decode cX4_renew 33 = .ok (.getfield 10, 3) := by decide +kernel
theorem dX4_renew_36 : decode cX4_renew 36 = .ok (.getfield 124, 3) := by decide +kernel
theorem dX4_renew_39 : decode cX4_renew 39 = .ok (.iload_n 1, 1) := by decide +kernel
theorem dX4_renew_40 : decode cX4_renew 40 = .ok (.aload_n 0, 1) := by decide +kernel
theorem dX4_renew_41 : decode cX4_renew 41 = .ok (.getfield 10, 3) := by decide +kernel
theorem dX4_renew_44 : decode cX4_renew 44 = .ok (.getfield 127, 3) := by decide +kernel
theorem dX4_renew_47 : decode cX4_renew 47 = .ok (.aload_n 0, 1) := by decide +kernel
theorem dX4_renew_48 : decode cX4_renew 48 = .ok (.getfield 10, 3) := by decide +kernel
theorem dX4_renew_51 : decode cX4_renew 51 = .ok (.getfield 78, 3) := by decide +kernel
theorem dX4_renew_54 : decode cX4_renew 54 = .ok (.iconst 1, 1) := by decide +kernel
theorem dX4_renew_55 : decode cX4_renew 55 = .ok (.iaload, 1) := by decide +kernel
theorem dX4_renew_56 : decode cX4_renew 56 = .ok (.iadd, 1) := by decide +kernel
theorem dX4_renew_57 : decode cX4_renew 57 = .ok (.iastore, 1) := by decide +kernel
theorem dX4_renew_58 : decode cX4_renew 58 = .ok (.aload_n 0, 1) := by decide +kernel
theorem dX4_renew_59 : decode cX4_renew 59 = .ok (.getfield 10, 3) := by decide +kernel
theorem dX4_renew_62 : decode cX4_renew 62 = .ok (.getfield 124, 3) := by decide +kernel
theorem dX4_renew_65 : decode cX4_renew 65 = .ok (.iload_n 1, 1) := by decide +kernel
theorem dX4_renew_66 : decode cX4_renew 66 = .ok (.iaload, 1) := by decide +kernel
theorem dX4_renew_67 : decode cX4_renew 67 = .ok (.iload_n 2, 1) := by decide +kernel
theorem dX4_renew_68 : decode cX4_renew 68 = .ok (.isub, 1) := by decide +kernel
theorem dX4_renew_69 : decode cX4_renew 69 = .ok (.ireturn, 1) := by decide +kernel
set_option maxRecDepth 20000 in
theorem ggX4_finish_X4_checkIndex : GoodIn wsX4_finish wsX4_checkIndex := goodIn_ca (goodIn_r _ [8, 9, 10] (by decide +kernel) (by decide +kernel)) (goodIn_sub (fun _ h => List.mem_cons_of_mem _ (List.mem_append_right _ h)) (by decide +kernel))
set_option maxRecDepth 20000 in
theorem gX4_finish_X4_checkIndex : GoodIn wsX4_finish (va_wsS RX4 45 yX4_checkIndex wsX4_checkIndex) := goodIn_app (goodIn_of _ (by decide +kernel)) ggX4_finish_X4_checkIndex
set_option maxRecDepth 20000 in
theorem ggX4_finish_X2_save : GoodIn wsX4_finish wsX2_save := goodIn_r _ [15, 16, 17, 18, 19, 20, 14, 21, 22, 23, 24, 25, 26, 27, 28, 29, 30, 31, 32, 33, 34, 35, 36, 37, 38, 39, 40, 41, 42, 43, 44, 45, 83, 84, 68, 69, 70, 71, 72, 73, 74, 75, 76, 77, 78, 79, 80, 81, 82] (by decide +kernel) (by decide +kernel)
set_option maxRecDepth 20000 in
theorem gX4_finish_X2_save : GoodIn wsX4_finish (wsV RX4 67 RX2 yX2_save wsX2_save) := goodIn_app (goodIn_of _ (by decide +kernel)) ggX4_finish_X2_save
set_option maxRecDepth 20000 in
theorem ggX4_finish_X3_settleWhole : GoodIn wsX4_finish wsX3_settleWhole := goodIn_r _ [49, 40, 43, 38, 50, 51, 52, 25, 53, 35, 39, 41, 54, 55, 56, 57, 28, 42, 68, 69, 70, 71, 72, 73, 74, 75, 76, 77, 78, 79, 80, 81, 82] (by decide +kernel) (by decide +kernel)
set_option maxRecDepth 20000 in
theorem gX4_finish_X3_settleWhole : GoodIn wsX4_finish (wsV RX4 104 RX3 yX3_settleWhole wsX3_settleWhole) := goodIn_app (goodIn_of _ (by decide +kernel)) ggX4_finish_X3_settleWhole
set_option maxRecDepth 20000 in
theorem ggX4_finish_X3_cancelWhole : GoodIn wsX4_finish wsX3_cancelWhole := goodIn_r _ [61, 44, 38, 54, 55, 56, 25, 57, 28, 39, 40, 41, 42, 68, 69, 70, 71, 72, 73, 74, 75, 76, 77, 78, 79, 80, 81, 82] (by decide +kernel) (by decide +kernel)
set_option maxRecDepth 20000 in
theorem gX4_finish_X3_cancelWhole : GoodIn wsX4_finish (wsV RX4 121 RX3 yX3_cancelWhole wsX3_cancelWhole) := goodIn_app (goodIn_of _ (by decide +kernel)) ggX4_finish_X3_cancelWhole
theorem dX4_finish_0 : decode cX4_finish 0 = .ok (.iload_n 1, 1) := by decide +kernel
theorem dX4_finish_1 : decode cX4_finish 1 = .ok (.bipush 6, 2) := by decide +kernel
theorem dX4_finish_3 : decode cX4_finish 3 = .ok (.invokestatic 45, 3) := by decide +kernel
theorem dX4_finish_6 : decode cX4_finish 6 = .ok (.aload_n 0, 1) := by decide +kernel
theorem dX4_finish_7 : decode cX4_finish 7 = .ok (.getfield 19, 3) := by decide +kernel
theorem dX4_finish_10 : decode cX4_finish 10 = .ok (.aload_n 0, 1) := by decide +kernel
theorem dX4_finish_11 : decode cX4_finish 11 = .ok (.getfield 10, 3) := by decide +kernel
theorem dX4_finish_14 : decode cX4_finish 14 = .ok (.invokevirtual 67, 3) := by decide +kernel
theorem dX4_finish_17 : decode cX4_finish 17 = .ok (.aload_n 0, 1) := by decide +kernel
theorem dX4_finish_18 : decode cX4_finish 18 = .ok (.getfield 10, 3) := by decide +kernel
theorem dX4_finish_21 : decode cX4_finish 21 = .ok (.getfield 98, 3) := by decide +kernel
theorem dX4_finish_24 : decode cX4_finish 24 = .ok (.istore_n 3, 1) := by decide +kernel
theorem dX4_finish_25 : decode cX4_finish 25 = .ok (.iload_n 3, 1) := by decide +kernel
theorem dX4_finish_26 : decode cX4_finish 26 = .ok (.iconst 1, 1) := by decide +kernel
theorem dX4_finish_27 : decode cX4_finish 27 = .ok (.isub, 1) := by decide +kernel
theorem dX4_finish_28 : decode cX4_finish 28 = .ok (.istore 4, 2) := by decide +kernel
theorem dX4_finish_30 : decode cX4_finish 30 = .ok (.iload 4, 2) := by decide +kernel
theorem dX4_finish_32 : decode cX4_finish 32 = .ok (.ifCond .lt 51, 3) := by decide +kernel
theorem dX4_finish_35 : decode cX4_finish 35 = .ok (.aload_n 0, 1) := by decide +kernel
theorem dX4_finish_36 : decode cX4_finish 36 = .ok (.getfield 10, 3) := by decide +kernel
theorem dX4_finish_39 : decode cX4_finish 39 = .ok (.getfield 130, 3) := by decide +kernel
theorem dX4_finish_42 : decode cX4_finish 42 = .ok (.iload 4, 2) := by decide +kernel
theorem dX4_finish_44 : decode cX4_finish 44 = .ok (.iaload, 1) := by decide +kernel
theorem dX4_finish_45 : decode cX4_finish 45 = .ok (.iload_n 1, 1) := by decide +kernel
theorem dX4_finish_46 : decode cX4_finish 46 = .ok (.if_icmp .eq 6, 3) := by decide +kernel
theorem dX4_finish_49 : decode cX4_finish 49 = .ok (.goto 28, 3) := by decide +kernel
theorem dX4_finish_52 : decode cX4_finish 52 = .ok (.iload_n 2, 1) := by decide +kernel
theorem dX4_finish_53 : decode cX4_finish 53 = .ok (.ifCond .eq 15, 3) := by decide +kernel
theorem dX4_finish_56 : decode cX4_finish 56 = .ok (.aload_n 0, 1) := by decide +kernel
theorem dX4_finish_57 : decode cX4_finish 57 = .ok (.getfield 10, 3) := by decide +kernel
theorem dX4_finish_60 : decode cX4_finish 60 = .ok (.iload 4, 2) := by decide +kernel
theorem dX4_finish_62 : decode cX4_finish 62 = .ok (.invokevirtual 104, 3) := by decide +kernel
theorem dX4_finish_65 : decode cX4_finish 65 = .ok (.goto 12, 3) := by decide +kernel
theorem dX4_finish_68 : decode cX4_finish 68 = .ok (.aload_n 0, 1) := by decide +kernel
theorem dX4_finish_69 : decode cX4_finish 69 = .ok (.getfield 10, 3) := by decide +kernel
theorem dX4_finish_72 : decode cX4_finish 72 = .ok (.iload 4, 2) := by decide +kernel
theorem dX4_finish_74 : decode cX4_finish 74 = .ok (.invokevirtual 121, 3) := by decide +kernel
theorem dX4_finish_77 : decode cX4_finish 77 = .ok (.iinc 4 (-1), 3) := by decide +kernel
theorem dX4_finish_80 : decode cX4_finish 80 = .ok (.goto (-50), 3) := by decide +kernel
theorem dX4_finish_83 : decode cX4_finish 83 = .ok (.iload_n 3, 1) := by decide +kernel
theorem dX4_finish_84 : decode cX4_finish 84 = .ok (.aload_n 0, 1) := by decide +kernel
theorem dX4_finish_85 : decode cX4_finish 85 = .ok (.getfield 10, 3) := by decide +kernel
theorem dX4_finish_88 : decode cX4_finish 88 = .ok (.getfield 98, 3) := by decide +kernel
theorem dX4_finish_91 : decode cX4_finish 91 = .ok (.isub, 1) := by decide +kernel
theorem dX4_finish_92 : decode cX4_finish 92 = .ok (.ireturn, 1) := by decide +kernel
set_option maxRecDepth 20000 in
theorem ggX4_pass_X4_checkArgument : GoodIn wsX4_pass wsX4_checkArgument := goodIn_ca (goodIn_r _ [11, 12, 13] (by decide +kernel) (by decide +kernel)) (goodIn_sub (fun _ h => List.mem_cons_of_mem _ (List.mem_append_right _ h)) (by decide +kernel))
set_option maxRecDepth 20000 in
theorem gX4_pass_X4_checkArgument : GoodIn wsX4_pass (va_wsS RX4 49 yX4_checkArgument wsX4_checkArgument) := goodIn_app (goodIn_of _ (by decide +kernel)) ggX4_pass_X4_checkArgument
set_option maxRecDepth 20000 in
theorem ggX4_pass_X2_save : GoodIn wsX4_pass wsX2_save := goodIn_r _ [18, 19, 20, 21, 22, 23, 17, 24, 25, 26, 27, 28, 29, 30, 31, 32, 33, 34, 35, 36, 37, 38, 39, 40, 41, 42, 43, 44, 45, 46, 47, 48, 78, 79, 63, 64, 65, 66, 67, 68, 69, 70, 71, 72, 73, 74, 75, 76, 77] (by decide +kernel) (by decide +kernel)
set_option maxRecDepth 20000 in
theorem gX4_pass_X2_save : GoodIn wsX4_pass (wsV RX4 67 RX2 yX2_save wsX2_save) := goodIn_app (goodIn_of _ (by decide +kernel)) ggX4_pass_X2_save
set_option maxRecDepth 20000 in
theorem ggX4_pass_X3_lapse : GoodIn wsX4_pass wsX3_lapse := goodIn_r _ [52, 48, 41, 53, 54, 55, 28, 56, 31, 42, 43, 44, 45, 63, 64, 65, 66, 67, 68, 69, 70, 71, 72, 73, 74, 75, 76, 77] (by decide +kernel) (by decide +kernel)
set_option maxRecDepth 20000 in
theorem gX4_pass_X3_lapse : GoodIn wsX4_pass (wsV RX4 135 RX3 yX3_lapse wsX3_lapse) := goodIn_app (goodIn_of _ (by decide +kernel)) ggX4_pass_X3_lapse
theorem dX4_pass_0 : decode cX4_pass 0 = .ok (.iload_n 1, 1) := by decide +kernel
theorem dX4_pass_1 : decode cX4_pass 1 = .ok (.iconst 1, 1) := by decide +kernel
theorem dX4_pass_2 : decode cX4_pass 2 = .ok (.bipush 99, 2) := by decide +kernel
theorem dX4_pass_4 : decode cX4_pass 4 = .ok (.invokestatic 49, 3) := by decide +kernel
theorem dX4_pass_7 : decode cX4_pass 7 = .ok (.aload_n 0, 1) := by decide +kernel
theorem dX4_pass_8 : decode cX4_pass 8 = .ok (.getfield 10, 3) := by decide +kernel
theorem dX4_pass_11 : decode cX4_pass 11 = .ok (.getfield 127, 3) := by decide +kernel
theorem dX4_pass_14 : decode cX4_pass 14 = .ok (.iload_n 1, 1) := by decide +kernel
theorem dX4_pass_15 : decode cX4_pass 15 = .ok (.iadd, 1) := by decide +kernel
theorem dX4_pass_16 : decode cX4_pass 16 = .ok (.sipush 9999, 3) := by decide +kernel
theorem dX4_pass_19 : decode cX4_pass 19 = .ok (.if_icmp .le 13, 3) := by decide +kernel
theorem dX4_pass_22 : decode cX4_pass 22 = .ok (.new 60, 3) := by decide +kernel
theorem dX4_pass_25 : decode cX4_pass 25 = .ok (.dup, 1) := by decide +kernel
theorem dX4_pass_26 : decode cX4_pass 26 = .ok (.ldc 133, 2) := by decide +kernel
theorem dX4_pass_28 : decode cX4_pass 28 = .ok (.invokespecial 64, 3) := by decide +kernel
theorem dX4_pass_31 : decode cX4_pass 31 = .ok (.athrow, 1) := by decide +kernel
theorem dX4_pass_32 : decode cX4_pass 32 = .ok (.aload_n 0, 1) := by decide +kernel
theorem dX4_pass_33 : decode cX4_pass 33 = .ok (.getfield 19, 3) := by decide +kernel
theorem dX4_pass_36 : decode cX4_pass 36 = .ok (.aload_n 0, 1) := by decide +kernel
theorem dX4_pass_37 : decode cX4_pass 37 = .ok (.getfield 10, 3) := by decide +kernel
theorem dX4_pass_40 : decode cX4_pass 40 = .ok (.invokevirtual 67, 3) := by decide +kernel
theorem dX4_pass_43 : decode cX4_pass 43 = .ok (.aload_n 0, 1) := by decide +kernel
theorem dX4_pass_44 : decode cX4_pass 44 = .ok (.getfield 10, 3) := by decide +kernel
theorem dX4_pass_47 : decode cX4_pass 47 = .ok (.getfield 98, 3) := by decide +kernel
theorem dX4_pass_50 : decode cX4_pass 50 = .ok (.istore_n 2, 1) := by decide +kernel
theorem dX4_pass_51 : decode cX4_pass 51 = .ok (.aload_n 0, 1) := by decide +kernel
theorem dX4_pass_52 : decode cX4_pass 52 = .ok (.getfield 10, 3) := by decide +kernel
theorem dX4_pass_55 : decode cX4_pass 55 = .ok (.dup, 1) := by decide +kernel
theorem dX4_pass_56 : decode cX4_pass 56 = .ok (.getfield 127, 3) := by decide +kernel
theorem dX4_pass_59 : decode cX4_pass 59 = .ok (.iload_n 1, 1) := by decide +kernel
theorem dX4_pass_60 : decode cX4_pass 60 = .ok (.iadd, 1) := by decide +kernel
theorem dX4_pass_61 : decode cX4_pass 61 = .ok (.putfield 127, 3) := by decide +kernel
theorem dX4_pass_64 : decode cX4_pass 64 = .ok (.iload_n 2, 1) := by decide +kernel
theorem dX4_pass_65 : decode cX4_pass 65 = .ok (.iconst 1, 1) := by decide +kernel
theorem dX4_pass_66 : decode cX4_pass 66 = .ok (.isub, 1) := by decide +kernel
theorem dX4_pass_67 : decode cX4_pass 67 = .ok (.istore_n 3, 1) := by decide +kernel
theorem dX4_pass_68 : decode cX4_pass 68 = .ok (.iload_n 3, 1) := by decide +kernel
theorem dX4_pass_69 : decode cX4_pass 69 = .ok (.ifCond .lt 36, 3) := by decide +kernel
theorem dX4_pass_72 : decode cX4_pass 72 = .ok (.aload_n 0, 1) := by decide +kernel
theorem dX4_pass_73 : decode cX4_pass 73 = .ok (.getfield 10, 3) := by decide +kernel
theorem dX4_pass_76 : decode cX4_pass 76 = .ok (.getfield 124, 3) := by decide +kernel
theorem dX4_pass_79 : decode cX4_pass 79 = .ok (.iload_n 3, 1) := by decide +kernel
theorem dX4_pass_80 : decode cX4_pass 80 = .ok (.iaload, 1) := by decide +kernel
theorem dX4_pass_81 : decode cX4_pass 81 = .ok (.aload_n 0, 1) := by decide +kernel
theorem dX4_pass_82 : decode cX4_pass 82 = .ok (.getfield 10, 3) := by decide +kernel
theorem dX4_pass_85 : decode cX4_pass 85 = .ok (.getfield 127, 3) := by decide +kernel
theorem dX4_pass_88 : decode cX4_pass 88 = .ok (.if_icmp .gt 11, 3) := by decide +kernel
theorem dX4_pass_91 : decode cX4_pass 91 = .ok (.aload_n 0, 1) := by decide +kernel
theorem dX4_pass_92 : decode cX4_pass 92 = .ok (.getfield 10, 3) := by decide +kernel
theorem dX4_pass_95 : decode cX4_pass 95 = .ok (.iload_n 3, 1) := by decide +kernel
theorem dX4_pass_96 : decode cX4_pass 96 = .ok (.invokevirtual 135, 3) := by decide +kernel
theorem dX4_pass_99 : decode cX4_pass 99 = .ok (.iinc 3 (-1), 3) := by decide +kernel
theorem dX4_pass_102 : decode cX4_pass 102 = .ok (.goto (-34), 3) := by decide +kernel
theorem dX4_pass_105 : decode cX4_pass 105 = .ok (.iload_n 2, 1) := by decide +kernel
theorem dX4_pass_106 : decode cX4_pass 106 = .ok (.aload_n 0, 1) := by decide +kernel
theorem dX4_pass_107 : decode cX4_pass 107 = .ok (.getfield 10, 3) := by decide +kernel
theorem dX4_pass_110 : decode cX4_pass 110 = .ok (.getfield 98, 3) := by decide +kernel
theorem dX4_pass_113 : decode cX4_pass 113 = .ok (.isub, 1) := by decide +kernel
theorem dX4_pass_114 : decode cX4_pass 114 = .ok (.ireturn, 1) := by decide +kernel
set_option maxRecDepth 20000 in
theorem ggX4_undo_X2_restoreInto : GoodIn wsX4_undo wsX2_restoreInto := goodIn_r _ [10, 11, 12, 13, 14, 15, 16, 17, 18, 19, 20, 21, 22, 23, 24, 25, 26, 27, 28, 29, 30, 31, 32, 33, 34, 35, 36, 43, 44, 45, 46, 47, 48, 49, 50, 51, 52, 53, 54, 55, 56, 57, 58, 59] (by decide +kernel) (by decide +kernel)
set_option maxRecDepth 20000 in
theorem gX4_undo_X2_restoreInto : GoodIn wsX4_undo (wsV RX4 165 RX2 yX2_restoreInto wsX2_restoreInto) := goodIn_app (goodIn_of _ (by decide +kernel)) ggX4_undo_X2_restoreInto
theorem dX4_undo_0 : decode cX4_undo 0 = .ok (.aload_n 0, 1) := by decide +kernel
theorem dX4_undo_1 : decode cX4_undo 1 = .ok (.getfield 19, 3) := by decide +kernel
theorem dX4_undo_4 : decode cX4_undo 4 = .ok (.getfield 160, 3) := by decide +kernel
theorem dX4_undo_7 : decode cX4_undo 7 = .ok (.ifCond .ne 13, 3) := by decide +kernel
theorem dX4_undo_10 : decode cX4_undo 10 = .ok (.new 60, 3) := by decide +kernel
theorem dX4_undo_13 : decode cX4_undo 13 = .ok (.dup, 1) := by decide +kernel
theorem dX4_undo_14 : decode cX4_undo 14 = .ok (.ldc 163, 2) := by decide +kernel
theorem dX4_undo_16 : decode cX4_undo 16 = .ok (.invokespecial 64, 3) := by decide +kernel
theorem dX4_undo_19 : decode cX4_undo 19 = .ok (.athrow, 1) := by decide +kernel
theorem dX4_undo_20 : decode cX4_undo 20 = .ok (.aload_n 0, 1) := by decide +kernel
theorem dX4_undo_21 : decode cX4_undo 21 = .ok (.getfield 19, 3) := by decide +kernel
theorem dX4_undo_24 : decode cX4_undo 24 = .ok (.aload_n 0, 1) := by decide +kernel
theorem dX4_undo_25 : decode cX4_undo 25 = .ok (.getfield 10, 3) := by decide +kernel
theorem dX4_undo_28 : decode cX4_undo 28 = .ok (.invokevirtual 165, 3) := by decide +kernel
theorem dX4_undo_31 : decode cX4_undo 31 = .ok (.aload_n 0, 1) := by decide +kernel
theorem dX4_undo_32 : decode cX4_undo 32 = .ok (.getfield 19, 3) := by decide +kernel
theorem dX4_undo_35 : decode cX4_undo 35 = .ok (.getfield 160, 3) := by decide +kernel
theorem dX4_undo_38 : decode cX4_undo 38 = .ok (.ireturn, 1) := by decide +kernel
set_option maxRecDepth 20000 in
theorem ggX4_counter_X4_checkIndex : GoodIn wsX4_counter wsX4_checkIndex := goodIn_ca (goodIn_r _ [10, 11, 12] (by decide +kernel) (by decide +kernel)) (goodIn_sub (fun _ h => List.mem_cons_of_mem _ (List.mem_append_left _ (List.mem_append_right _ h))) (by decide +kernel))
set_option maxRecDepth 20000 in
theorem gX4_counter_X4_checkIndex : GoodIn wsX4_counter (va_wsS RX4 45 yX4_checkIndex wsX4_checkIndex) := goodIn_app (goodIn_of _ (by decide +kernel)) ggX4_counter_X4_checkIndex
set_option maxRecDepth 20000 in
theorem ggX4_counter_X4_checkArgument : GoodIn wsX4_counter wsX4_checkArgument := goodIn_ca (goodIn_r _ [15, 16, 17] (by decide +kernel) (by decide +kernel)) (goodIn_sub (fun _ h => List.mem_cons_of_mem _ (List.mem_append_right _ h)) (by decide +kernel))
set_option maxRecDepth 20000 in
theorem gX4_counter_X4_checkArgument : GoodIn wsX4_counter (va_wsS RX4 49 yX4_checkArgument wsX4_checkArgument) := goodIn_app (goodIn_of _ (by decide +kernel)) ggX4_counter_X4_checkArgument
set_option maxRecDepth 20000 in
theorem ggX4_counter_X3_lowOf : GoodIn wsX4_counter wsX3_lowOf := goodIn_r _ [22, 23, 24, 25, 26, 21, 27, 28, 29, 30, 31, 32, 33, 34, 35, 36, 37, 38, 39, 40, 41, 101, 102, 103, 104, 105, 106, 107, 108, 109, 110, 111, 112, 113, 114, 115] (by decide +kernel) (by decide +kernel)
set_option maxRecDepth 20000 in
theorem gX4_counter_X3_lowOf : GoodIn wsX4_counter (wsV RX4 53 RX3 yX3_lowOf wsX3_lowOf) := goodIn_app (goodIn_of _ (by decide +kernel)) ggX4_counter_X3_lowOf
set_option maxRecDepth 20000 in
theorem ggX4_counter_X3_highOf : GoodIn wsX4_counter wsX3_highOf := goodIn_r _ [45, 28, 29, 46, 47, 33, 48, 35, 36, 37, 21, 38, 39, 40, 41, 101, 102, 103, 104, 105, 106, 107, 108, 109, 110, 111, 112, 113, 114, 115] (by decide +kernel) (by decide +kernel)
set_option maxRecDepth 20000 in
theorem gX4_counter_X3_highOf : GoodIn wsX4_counter (wsV RX4 57 RX3 yX3_highOf wsX3_highOf) := goodIn_app (goodIn_of _ (by decide +kernel)) ggX4_counter_X3_highOf
set_option maxRecDepth 20000 in
theorem ggX4_counter_X3_promisesChanging : GoodIn wsX4_counter wsX3_promisesChanging := goodIn_r _ [52, 29, 35, 36, 37, 21, 38, 39, 40, 41, 101, 102, 103, 104, 105, 106, 107, 108, 109, 110, 111, 112, 113, 114, 115] (by decide +kernel) (by decide +kernel)
set_option maxRecDepth 20000 in
theorem gX4_counter_X3_promisesChanging : GoodIn wsX4_counter (wsV RX4 168 RX3 yX3_promisesChanging wsX3_promisesChanging) := goodIn_app (goodIn_of _ (by decide +kernel)) ggX4_counter_X3_promisesChanging
set_option maxRecDepth 20000 in
theorem ggX4_counter_X3_sumOfChanges : GoodIn wsX4_counter wsX3_sumOfChanges := goodIn_r _ [56, 29, 35, 36, 37, 21, 38, 39, 40, 41, 101, 102, 103, 104, 105, 106, 107, 108, 109, 110, 111, 112, 113, 114, 115] (by decide +kernel) (by decide +kernel)
set_option maxRecDepth 20000 in
theorem gX4_counter_X3_sumOfChanges : GoodIn wsX4_counter (wsV RX4 171 RX3 yX3_sumOfChanges wsX3_sumOfChanges) := goodIn_app (goodIn_of _ (by decide +kernel)) ggX4_counter_X3_sumOfChanges
set_option maxRecDepth 20000 in
theorem ggX4_counter_X3_roomBelow : GoodIn wsX4_counter wsX3_roomBelow := goodIn_r _ [60, 61, 24, 25, 26, 21, 27, 28, 29, 30, 31, 32, 33, 34, 35, 36, 37, 38, 39, 40, 41, 101, 102, 103, 104, 105, 106, 107, 108, 109, 110, 111, 112, 113, 114, 115] (by decide +kernel) (by decide +kernel)
set_option maxRecDepth 20000 in
theorem gX4_counter_X3_roomBelow : GoodIn wsX4_counter (wsV RX4 174 RX3 yX3_roomBelow wsX3_roomBelow) := goodIn_app (goodIn_of _ (by decide +kernel)) ggX4_counter_X3_roomBelow
set_option maxRecDepth 20000 in
theorem ggX4_counter_X3_roomAbove : GoodIn wsX4_counter wsX3_roomAbove := goodIn_r _ [65, 66, 67, 43, 44, 21, 45, 28, 29, 46, 47, 33, 48, 35, 36, 37, 38, 39, 40, 41, 101, 102, 103, 104, 105, 106, 107, 108, 109, 110, 111, 112, 113, 114, 115] (by decide +kernel) (by decide +kernel)
set_option maxRecDepth 20000 in
theorem gX4_counter_X3_roomAbove : GoodIn wsX4_counter (wsV RX4 178 RX3 yX3_roomAbove wsX3_roomAbove) := goodIn_app (goodIn_of _ (by decide +kernel)) ggX4_counter_X3_roomAbove
set_option maxRecDepth 20000 in
theorem ggX4_counter_X1_manyOf : GoodIn wsX4_counter wsX1_manyOf := goodIn_r _ [72, 73, 74, 75, 76, 71, 77, 78, 79, 80, 19, 20, 21, 22, 23, 24, 25, 26, 27, 28, 29, 30, 31, 32, 33, 34, 35, 36, 37, 38, 39, 40, 41, 81, 43, 44, 45, 46, 47, 48, 82, 83, 84, 85, 86, 87, 88, 89, 90, 91, 92, 93, 94, 116, 101, 102, 103, 104, 105, 106, 107, 108, 109, 110, 111, 112, 113, 114, 115] (by decide +kernel) (by decide +kernel)
set_option maxRecDepth 20000 in
theorem gX4_counter_X1_manyOf : GoodIn wsX4_counter (wsV RX4 181 RX1 yX1_manyOf wsX1_manyOf) := goodIn_app (goodIn_of _ (by decide +kernel)) ggX4_counter_X1_manyOf
theorem dX4_counter_0 : decode cX4_counter 0 = .ok (.iload_n 1, 1) := by decide +kernel
theorem dX4_counter_1 : decode cX4_counter 1 = .ok (.iconst 4, 1) := by decide +kernel
theorem dX4_counter_2 : decode cX4_counter 2 = .ok (.invokestatic 45, 3) := by decide +kernel
theorem dX4_counter_5 : decode cX4_counter 5 = .ok (.iload_n 2, 1) := by decide +kernel
theorem dX4_counter_6 : decode cX4_counter 6 = .ok (.iconst 0, 1) := by decide +kernel
theorem dX4_counter_7 : decode cX4_counter 7 = .ok (.bipush 9, 2) := by decide +kernel
theorem dX4_counter_9 : decode cX4_counter 9 = .ok (.invokestatic 49, 3) := by decide +kernel
theorem dX4_counter_12 : decode cX4_counter 12 = .ok (.iload_n 2, 1) := by decide +kernel
theorem dX4_counter_13 : decode cX4_counter 13 = .ok (.tableswitch 142 0 8 #[51, 61, 71, 81, 90, 99, 108, 117, 133], 51) := by decide +kernel
theorem dX4_counter_64 : decode cX4_counter 64 = .ok (.aload_n 0, 1) := by decide +kernel
theorem dX4_counter_65 : decode cX4_counter 65 = .ok (.getfield 10, 3) := by decide +kernel
theorem dX4_counter_68 : decode cX4_counter 68 = .ok (.getfield 107, 3) := by decide +kernel
theorem dX4_counter_71 : decode cX4_counter 71 = .ok (.iload_n 1, 1) := by decide +kernel
theorem dX4_counter_72 : decode cX4_counter 72 = .ok (.iaload, 1) := by decide +kernel
theorem dX4_counter_73 : decode cX4_counter 73 = .ok (.ireturn, 1) := by decide +kernel
theorem dX4_counter_74 : decode cX4_counter 74 = .ok (.aload_n 0, 1) := by decide +kernel
theorem dX4_counter_75 : decode cX4_counter 75 = .ok (.getfield 10, 3) := by decide +kernel
theorem dX4_counter_78 : decode cX4_counter 78 = .ok (.getfield 75, 3) := by decide +kernel
theorem dX4_counter_81 : decode cX4_counter 81 = .ok (.iload_n 1, 1) := by decide +kernel
theorem dX4_counter_82 : decode cX4_counter 82 = .ok (.iaload, 1) := by decide +kernel
theorem dX4_counter_83 : decode cX4_counter 83 = .ok (.ireturn, 1) := by decide +kernel
theorem dX4_counter_84 : decode cX4_counter 84 = .ok (.aload_n 0, 1) := by decide +kernel
theorem dX4_counter_85 : decode cX4_counter 85 = .ok (.getfield 10, 3) := by decide +kernel
theorem dX4_counter_88 : decode cX4_counter 88 = .ok (.getfield 71, 3) := by decide +kernel
theorem dX4_counter_91 : decode cX4_counter 91 = .ok (.iload_n 1, 1) := by decide +kernel
theorem dX4_counter_92 : decode cX4_counter 92 = .ok (.iaload, 1) := by decide +kernel
theorem dX4_counter_93 : decode cX4_counter 93 = .ok (.ireturn, 1) := by decide +kernel
theorem dX4_counter_94 : decode cX4_counter 94 = .ok (.aload_n 0, 1) := by decide +kernel
theorem dX4_counter_95 : decode cX4_counter 95 = .ok (.getfield 10, 3) := by decide +kernel
theorem dX4_counter_98 : decode cX4_counter 98 = .ok (.iload_n 1, 1) := by decide +kernel
theorem dX4_counter_99 : decode cX4_counter 99 = .ok (.invokevirtual 53, 3) := by decide +kernel
theorem dX4_counter_102 : decode cX4_counter 102 = .ok (.ireturn, 1) := by decide +kernel
theorem dX4_counter_103 : decode cX4_counter 103 = .ok (.aload_n 0, 1) := by decide +kernel
theorem dX4_counter_104 : decode cX4_counter 104 = .ok (.getfield 10, 3) := by decide +kernel
theorem dX4_counter_107 : decode cX4_counter 107 = .ok (.iload_n 1, 1) := by decide +kernel
theorem dX4_counter_108 : decode cX4_counter 108 = .ok (.invokevirtual 57, 3) := by decide +kernel
theorem dX4_counter_111 : decode cX4_counter 111 = .ok (.ireturn, 1) := by decide +kernel
theorem dX4_counter_112 : decode cX4_counter 112 = .ok (.aload_n 0, 1) := by decide +kernel
theorem dX4_counter_113 : decode cX4_counter 113 = .ok (.getfield 10, 3) := by decide +kernel
theorem dX4_counter_116 : decode cX4_counter 116 = .ok (.iload_n 1, 1) := by decide +kernel
theorem dX4_counter_117 : decode cX4_counter 117 = .ok (.invokevirtual 168, 3) := by decide +kernel
theorem dX4_counter_120 : decode cX4_counter 120 = .ok (.ireturn, 1) := by decide +kernel
theorem dX4_counter_121 : decode cX4_counter 121 = .ok (.aload_n 0, 1) := by decide +kernel
theorem dX4_counter_122 : decode cX4_counter 122 = .ok (.getfield 10, 3) := by decide +kernel
theorem dX4_counter_125 : decode cX4_counter 125 = .ok (.iload_n 1, 1) := by decide +kernel
theorem dX4_counter_126 : decode cX4_counter 126 = .ok (.invokevirtual 171, 3) := by decide +kernel
theorem dX4_counter_129 : decode cX4_counter 129 = .ok (.ireturn, 1) := by decide +kernel
theorem dX4_counter_130 : decode cX4_counter 130 = .ok (.aload_n 0, 1) := by decide +kernel
theorem dX4_counter_131 : decode cX4_counter 131 = .ok (.getfield 10, 3) := by decide +kernel
theorem dX4_counter_134 : decode cX4_counter 134 = .ok (.iload_n 1, 1) := by decide +kernel
theorem dX4_counter_135 : decode cX4_counter 135 = .ok (.aload_n 0, 1) := by decide +kernel
theorem dX4_counter_136 : decode cX4_counter 136 = .ok (.getfield 10, 3) := by decide +kernel
theorem dX4_counter_139 : decode cX4_counter 139 = .ok (.getfield 127, 3) := by decide +kernel
theorem dX4_counter_142 : decode cX4_counter 142 = .ok (.invokevirtual 174, 3) := by decide +kernel
theorem dX4_counter_145 : decode cX4_counter 145 = .ok (.ireturn, 1) := by decide +kernel
theorem dX4_counter_146 : decode cX4_counter 146 = .ok (.aload_n 0, 1) := by decide +kernel
theorem dX4_counter_147 : decode cX4_counter 147 = .ok (.getfield 10, 3) := by decide +kernel
theorem dX4_counter_150 : decode cX4_counter 150 = .ok (.iload_n 1, 1) := by decide +kernel
theorem dX4_counter_151 : decode cX4_counter 151 = .ok (.invokevirtual 178, 3) := by decide +kernel
theorem dX4_counter_154 : decode cX4_counter 154 = .ok (.ireturn, 1) := by decide +kernel
theorem dX4_counter_155 : decode cX4_counter 155 = .ok (.aload_n 0, 1) := by decide +kernel
theorem dX4_counter_156 : decode cX4_counter 156 = .ok (.getfield 26, 3) := by decide +kernel
theorem dX4_counter_159 : decode cX4_counter 159 = .ok (.aload_n 0, 1) := by decide +kernel
theorem dX4_counter_160 : decode cX4_counter 160 = .ok (.getfield 10, 3) := by decide +kernel
theorem dX4_counter_163 : decode cX4_counter 163 = .ok (.iload_n 1, 1) := by decide +kernel
theorem dX4_counter_164 : decode cX4_counter 164 = .ok (.invokevirtual 181, 3) := by decide +kernel
theorem dX4_counter_167 : decode cX4_counter 167 = .ok (.ireturn, 1) := by decide +kernel
set_option maxRecDepth 20000 in
theorem ggX4_promiseOf_X4_checkIndex : GoodIn wsX4_promiseOf wsX4_checkIndex := goodIn_ca (goodIn_r _ [12, 13, 14] (by decide +kernel) (by decide +kernel)) (goodIn_sub (fun _ h => List.mem_cons_of_mem _ (List.mem_append_left _ (List.mem_append_right _ h))) (by decide +kernel))
set_option maxRecDepth 20000 in
theorem gX4_promiseOf_X4_checkIndex : GoodIn wsX4_promiseOf (va_wsS RX4 45 yX4_checkIndex wsX4_checkIndex) := goodIn_app (goodIn_of _ (by decide +kernel)) ggX4_promiseOf_X4_checkIndex
set_option maxRecDepth 20000 in
theorem ggX4_promiseOf_X4_checkArgument : GoodIn wsX4_promiseOf wsX4_checkArgument := goodIn_ca (goodIn_r _ [17, 18, 19] (by decide +kernel) (by decide +kernel)) (goodIn_sub (fun _ h => List.mem_cons_of_mem _ (List.mem_append_right _ h)) (by decide +kernel))
set_option maxRecDepth 20000 in
theorem gX4_promiseOf_X4_checkArgument : GoodIn wsX4_promiseOf (va_wsS RX4 49 yX4_checkArgument wsX4_checkArgument) := goodIn_app (goodIn_of _ (by decide +kernel)) ggX4_promiseOf_X4_checkArgument
theorem dX4_promiseOf_0 : decode cX4_promiseOf 0 = .ok (.iload_n 1, 1) := by decide +kernel
theorem dX4_promiseOf_1 : decode cX4_promiseOf 1 = .ok (.aload_n 0, 1) := by decide +kernel
theorem dX4_promiseOf_2 : decode cX4_promiseOf 2 = .ok (.getfield 10, 3) := by decide +kernel
theorem dX4_promiseOf_5 : decode cX4_promiseOf 5 = .ok (.getfield 98, 3) := by decide +kernel
theorem dX4_promiseOf_8 : decode cX4_promiseOf 8 = .ok (.invokestatic 45, 3) := by decide +kernel
theorem dX4_promiseOf_11 : decode cX4_promiseOf 11 = .ok (.iload_n 2, 1) := by decide +kernel
theorem dX4_promiseOf_12 : decode cX4_promiseOf 12 = .ok (.iconst 0, 1) := by decide +kernel
theorem dX4_promiseOf_13 : decode cX4_promiseOf 13 = .ok (.iconst 5, 1) := by decide +kernel
theorem dX4_promiseOf_14 : decode cX4_promiseOf 14 = .ok (.invokestatic 49, 3) := by decide +kernel
theorem dX4_promiseOf_17 : decode cX4_promiseOf 17 = .ok (.iload_n 2, 1) := by decide +kernel
theorem dX4_promiseOf_18 : decode cX4_promiseOf 18 = .ok (.tableswitch 84 0 4 #[34, 44, 54, 64, 74], 34) := by decide +kernel
theorem dX4_promiseOf_52 : decode cX4_promiseOf 52 = .ok (.aload_n 0, 1) := by decide +kernel
theorem dX4_promiseOf_53 : decode cX4_promiseOf 53 = .ok (.getfield 10, 3) := by decide +kernel
theorem dX4_promiseOf_56 : decode cX4_promiseOf 56 = .ok (.getfield 130, 3) := by decide +kernel
theorem dX4_promiseOf_59 : decode cX4_promiseOf 59 = .ok (.iload_n 1, 1) := by decide +kernel
theorem dX4_promiseOf_60 : decode cX4_promiseOf 60 = .ok (.iaload, 1) := by decide +kernel
theorem dX4_promiseOf_61 : decode cX4_promiseOf 61 = .ok (.ireturn, 1) := by decide +kernel
theorem dX4_promiseOf_62 : decode cX4_promiseOf 62 = .ok (.aload_n 0, 1) := by decide +kernel
theorem dX4_promiseOf_63 : decode cX4_promiseOf 63 = .ok (.getfield 10, 3) := by decide +kernel
theorem dX4_promiseOf_66 : decode cX4_promiseOf 66 = .ok (.getfield 101, 3) := by decide +kernel
theorem dX4_promiseOf_69 : decode cX4_promiseOf 69 = .ok (.iload_n 1, 1) := by decide +kernel
theorem dX4_promiseOf_70 : decode cX4_promiseOf 70 = .ok (.iaload, 1) := by decide +kernel
theorem dX4_promiseOf_71 : decode cX4_promiseOf 71 = .ok (.ireturn, 1) := by decide +kernel
theorem dX4_promiseOf_72 : decode cX4_promiseOf 72 = .ok (.aload_n 0, 1) := by decide +kernel
theorem dX4_promiseOf_73 : decode cX4_promiseOf 73 = .ok (.getfield 10, 3) := by decide +kernel
theorem dX4_promiseOf_76 : decode cX4_promiseOf 76 = .ok (.getfield 110, 3) := by decide +kernel
theorem dX4_promiseOf_79 : decode cX4_promiseOf 79 = .ok (.iload_n 1, 1) := by decide +kernel
theorem dX4_promiseOf_80 : decode cX4_promiseOf 80 = .ok (.iaload, 1) := by decide +kernel
theorem dX4_promiseOf_81 : decode cX4_promiseOf 81 = .ok (.ireturn, 1) := by decide +kernel
theorem dX4_promiseOf_82 : decode cX4_promiseOf 82 = .ok (.aload_n 0, 1) := by decide +kernel
theorem dX4_promiseOf_83 : decode cX4_promiseOf 83 = .ok (.getfield 10, 3) := by decide +kernel
theorem dX4_promiseOf_86 : decode cX4_promiseOf 86 = .ok (.getfield 185, 3) := by decide +kernel
theorem dX4_promiseOf_89 : decode cX4_promiseOf 89 = .ok (.iload_n 1, 1) := by decide +kernel
theorem dX4_promiseOf_90 : decode cX4_promiseOf 90 = .ok (.iaload, 1) := by decide +kernel
theorem dX4_promiseOf_91 : decode cX4_promiseOf 91 = .ok (.ireturn, 1) := by decide +kernel
theorem dX4_promiseOf_92 : decode cX4_promiseOf 92 = .ok (.aload_n 0, 1) := by decide +kernel
theorem dX4_promiseOf_93 : decode cX4_promiseOf 93 = .ok (.getfield 10, 3) := by decide +kernel
theorem dX4_promiseOf_96 : decode cX4_promiseOf 96 = .ok (.getfield 124, 3) := by decide +kernel
theorem dX4_promiseOf_99 : decode cX4_promiseOf 99 = .ok (.iload_n 1, 1) := by decide +kernel
theorem dX4_promiseOf_100 : decode cX4_promiseOf 100 = .ok (.iaload, 1) := by decide +kernel
theorem dX4_promiseOf_101 : decode cX4_promiseOf 101 = .ok (.ireturn, 1) := by decide +kernel
theorem dX4_promiseOf_102 : decode cX4_promiseOf 102 = .ok (.aload_n 0, 1) := by decide +kernel
theorem dX4_promiseOf_103 : decode cX4_promiseOf 103 = .ok (.getfield 10, 3) := by decide +kernel
theorem dX4_promiseOf_106 : decode cX4_promiseOf 106 = .ok (.getfield 124, 3) := by decide +kernel
theorem dX4_promiseOf_109 : decode cX4_promiseOf 109 = .ok (.iload_n 1, 1) := by decide +kernel
theorem dX4_promiseOf_110 : decode cX4_promiseOf 110 = .ok (.iaload, 1) := by decide +kernel
theorem dX4_promiseOf_111 : decode cX4_promiseOf 111 = .ok (.aload_n 0, 1) := by decide +kernel
theorem dX4_promiseOf_112 : decode cX4_promiseOf 112 = .ok (.getfield 10, 3) := by decide +kernel
theorem dX4_promiseOf_115 : decode cX4_promiseOf 115 = .ok (.getfield 127, 3) := by decide +kernel
theorem dX4_promiseOf_118 : decode cX4_promiseOf 118 = .ok (.isub, 1) := by decide +kernel
theorem dX4_promiseOf_119 : decode cX4_promiseOf 119 = .ok (.ireturn, 1) := by decide +kernel
set_option maxRecDepth 20000 in
theorem ggX4_owner_X4_checkIndex : GoodIn wsX4_owner wsX4_checkIndex := goodIn_ca (goodIn_r _ [8, 9, 10] (by decide +kernel) (by decide +kernel)) (goodIn_sub (fun _ h => List.mem_cons_of_mem _ (List.mem_append_left _ (List.mem_append_right _ h))) (by decide +kernel))
set_option maxRecDepth 20000 in
theorem gX4_owner_X4_checkIndex : GoodIn wsX4_owner (va_wsS RX4 45 yX4_checkIndex wsX4_checkIndex) := goodIn_app (goodIn_of _ (by decide +kernel)) ggX4_owner_X4_checkIndex
set_option maxRecDepth 20000 in
theorem ggX4_owner_X4_checkArgument : GoodIn wsX4_owner wsX4_checkArgument := goodIn_ca (goodIn_r _ [13, 14, 15] (by decide +kernel) (by decide +kernel)) (goodIn_sub (fun _ h => List.mem_cons_of_mem _ (List.mem_append_right _ h)) (by decide +kernel))
set_option maxRecDepth 20000 in
theorem gX4_owner_X4_checkArgument : GoodIn wsX4_owner (va_wsS RX4 49 yX4_checkArgument wsX4_checkArgument) := goodIn_app (goodIn_of _ (by decide +kernel)) ggX4_owner_X4_checkArgument
set_option maxRecDepth 20000 in
theorem ggX4_owner_X3_promisesOf : GoodIn wsX4_owner wsX3_promisesOf := goodIn_r _ [20, 21, 22, 38, 39, 40, 41, 42, 43, 44, 45, 46, 47, 48, 49, 50, 51, 52] (by decide +kernel) (by decide +kernel)
set_option maxRecDepth 20000 in
theorem gX4_owner_X3_promisesOf : GoodIn wsX4_owner (wsV RX4 188 RX3 yX3_promisesOf wsX3_promisesOf) := goodIn_app (goodIn_of _ (by decide +kernel)) ggX4_owner_X3_promisesOf
set_option maxRecDepth 20000 in
theorem ggX4_owner_X3_sizesOf : GoodIn wsX4_owner wsX3_sizesOf := goodIn_r _ [26, 21, 22, 27, 28, 29, 30, 31, 38, 39, 40, 41, 42, 43, 44, 45, 46, 47, 48, 49, 50, 51, 52] (by decide +kernel) (by decide +kernel)
set_option maxRecDepth 20000 in
theorem gX4_owner_X3_sizesOf : GoodIn wsX4_owner (wsV RX4 200 RX3 yX3_sizesOf wsX3_sizesOf) := goodIn_app (goodIn_of _ (by decide +kernel)) ggX4_owner_X3_sizesOf
theorem dX4_owner_0 : decode cX4_owner 0 = .ok (.iload_n 1, 1) := by decide +kernel
theorem dX4_owner_1 : decode cX4_owner 1 = .ok (.bipush 6, 2) := by decide +kernel
theorem dX4_owner_3 : decode cX4_owner 3 = .ok (.invokestatic 45, 3) := by decide +kernel
theorem dX4_owner_6 : decode cX4_owner 6 = .ok (.iload_n 2, 1) := by decide +kernel
theorem dX4_owner_7 : decode cX4_owner 7 = .ok (.iconst 0, 1) := by decide +kernel
theorem dX4_owner_8 : decode cX4_owner 8 = .ok (.iconst 4, 1) := by decide +kernel
theorem dX4_owner_9 : decode cX4_owner 9 = .ok (.invokestatic 49, 3) := by decide +kernel
theorem dX4_owner_12 : decode cX4_owner 12 = .ok (.iload_n 2, 1) := by decide +kernel
theorem dX4_owner_13 : decode cX4_owner 13 = .ok (.tableswitch 70 0 3 #[31, 40, 50, 60], 31) := by decide +kernel
theorem dX4_owner_44 : decode cX4_owner 44 = .ok (.aload_n 0, 1) := by decide +kernel
theorem dX4_owner_45 : decode cX4_owner 45 = .ok (.getfield 10, 3) := by decide +kernel
theorem dX4_owner_48 : decode cX4_owner 48 = .ok (.iload_n 1, 1) := by decide +kernel
theorem dX4_owner_49 : decode cX4_owner 49 = .ok (.invokevirtual 188, 3) := by decide +kernel
theorem dX4_owner_52 : decode cX4_owner 52 = .ok (.ireturn, 1) := by decide +kernel
theorem dX4_owner_53 : decode cX4_owner 53 = .ok (.aload_n 0, 1) := by decide +kernel
theorem dX4_owner_54 : decode cX4_owner 54 = .ok (.getfield 10, 3) := by decide +kernel
theorem dX4_owner_57 : decode cX4_owner 57 = .ok (.getfield 191, 3) := by decide +kernel
theorem dX4_owner_60 : decode cX4_owner 60 = .ok (.iload_n 1, 1) := by decide +kernel
theorem dX4_owner_61 : decode cX4_owner 61 = .ok (.iaload, 1) := by decide +kernel
theorem dX4_owner_62 : decode cX4_owner 62 = .ok (.ireturn, 1) := by decide +kernel
theorem dX4_owner_63 : decode cX4_owner 63 = .ok (.aload_n 0, 1) := by decide +kernel
theorem dX4_owner_64 : decode cX4_owner 64 = .ok (.getfield 10, 3) := by decide +kernel
theorem dX4_owner_67 : decode cX4_owner 67 = .ok (.getfield 194, 3) := by decide +kernel
theorem dX4_owner_70 : decode cX4_owner 70 = .ok (.iload_n 1, 1) := by decide +kernel
theorem dX4_owner_71 : decode cX4_owner 71 = .ok (.iaload, 1) := by decide +kernel
theorem dX4_owner_72 : decode cX4_owner 72 = .ok (.ireturn, 1) := by decide +kernel
theorem dX4_owner_73 : decode cX4_owner 73 = .ok (.aload_n 0, 1) := by decide +kernel
theorem dX4_owner_74 : decode cX4_owner 74 = .ok (.getfield 10, 3) := by decide +kernel
theorem dX4_owner_77 : decode cX4_owner 77 = .ok (.getfield 197, 3) := by decide +kernel
theorem dX4_owner_80 : decode cX4_owner 80 = .ok (.iload_n 1, 1) := by decide +kernel
theorem dX4_owner_81 : decode cX4_owner 81 = .ok (.iaload, 1) := by decide +kernel
theorem dX4_owner_82 : decode cX4_owner 82 = .ok (.ireturn, 1) := by decide +kernel
theorem dX4_owner_83 : decode cX4_owner 83 = .ok (.aload_n 0, 1) := by decide +kernel
theorem dX4_owner_84 : decode cX4_owner 84 = .ok (.getfield 10, 3) := by decide +kernel
theorem dX4_owner_87 : decode cX4_owner 87 = .ok (.iload_n 1, 1) := by decide +kernel
theorem dX4_owner_88 : decode cX4_owner 88 = .ok (.invokevirtual 200, 3) := by decide +kernel
theorem dX4_owner_91 : decode cX4_owner 91 = .ok (.ireturn, 1) := by decide +kernel
set_option maxRecDepth 20000 in
theorem ggX4_count_X4_checkArgument : GoodIn wsX4_count wsX4_checkArgument := goodIn_ca (goodIn_r _ [14, 15, 16] (by decide +kernel) (by decide +kernel)) (goodIn_sub (fun _ h => List.mem_cons_of_mem _ (List.mem_append_right _ h)) (by decide +kernel))
set_option maxRecDepth 20000 in
theorem gX4_count_X4_checkArgument : GoodIn wsX4_count (va_wsS RX4 49 yX4_checkArgument wsX4_checkArgument) := goodIn_app (goodIn_of _ (by decide +kernel)) ggX4_count_X4_checkArgument
set_option maxRecDepth 20000 in
theorem ggX4_count_X3_transfers : GoodIn wsX4_count wsX3_transfers := goodIn_r _ [21, 22, 23, 38, 39, 40, 41, 42, 43, 44, 45, 46, 47, 48, 49, 50, 51, 52] (by decide +kernel) (by decide +kernel)
set_option maxRecDepth 20000 in
theorem gX4_count_X3_transfers : GoodIn wsX4_count (wsV RX4 203 RX3 yX3_transfers wsX3_transfers) := goodIn_app (goodIn_of _ (by decide +kernel)) ggX4_count_X3_transfers
set_option maxRecDepth 20000 in
theorem ggX4_count_X4_sumOf : GoodIn wsX4_count wsX4_sumOf := goodIn_r _ [26] (by decide +kernel) (by decide +kernel)
set_option maxRecDepth 20000 in
theorem gX4_count_X4_sumOf : GoodIn wsX4_count (va_wsS RX4 209 yX4_sumOf wsX4_sumOf) := goodIn_app (goodIn_of _ (by decide +kernel)) ggX4_count_X4_sumOf
set_option maxRecDepth 20000 in
theorem ggX4_count_X3_firstLapse : GoodIn wsX4_count wsX3_firstLapse := goodIn_r _ [30, 22, 31, 38, 39, 40, 41, 42, 43, 44, 45, 46, 47, 48, 49, 50, 51, 52] (by decide +kernel) (by decide +kernel)
set_option maxRecDepth 20000 in
theorem gX4_count_X3_firstLapse : GoodIn wsX4_count (wsV RX4 213 RX3 yX3_firstLapse wsX3_firstLapse) := goodIn_app (goodIn_of _ (by decide +kernel)) ggX4_count_X3_firstLapse
theorem dX4_count_0 : decode cX4_count 0 = .ok (.iload_n 1, 1) := by decide +kernel
theorem dX4_count_1 : decode cX4_count 1 = .ok (.iconst 0, 1) := by decide +kernel
theorem dX4_count_2 : decode cX4_count 2 = .ok (.bipush 9, 2) := by decide +kernel
theorem dX4_count_4 : decode cX4_count 4 = .ok (.invokestatic 49, 3) := by decide +kernel
theorem dX4_count_7 : decode cX4_count 7 = .ok (.iload_n 1, 1) := by decide +kernel
theorem dX4_count_8 : decode cX4_count 8 = .ok (.tableswitch 136 0 8 #[52, 60, 68, 76, 84, 95, 106, 117, 128], 52) := by decide +kernel
theorem dX4_count_60 : decode cX4_count 60 = .ok (.aload_n 0, 1) := by decide +kernel
theorem dX4_count_61 : decode cX4_count 61 = .ok (.getfield 10, 3) := by decide +kernel
theorem dX4_count_64 : decode cX4_count 64 = .ok (.getfield 127, 3) := by decide +kernel
theorem dX4_count_67 : decode cX4_count 67 = .ok (.ireturn, 1) := by decide +kernel
theorem dX4_count_68 : decode cX4_count 68 = .ok (.aload_n 0, 1) := by decide +kernel
theorem dX4_count_69 : decode cX4_count 69 = .ok (.getfield 10, 3) := by decide +kernel
theorem dX4_count_72 : decode cX4_count 72 = .ok (.getfield 98, 3) := by decide +kernel
theorem dX4_count_75 : decode cX4_count 75 = .ok (.ireturn, 1) := by decide +kernel
theorem dX4_count_76 : decode cX4_count 76 = .ok (.aload_n 0, 1) := by decide +kernel
theorem dX4_count_77 : decode cX4_count 77 = .ok (.getfield 10, 3) := by decide +kernel
theorem dX4_count_80 : decode cX4_count 80 = .ok (.invokevirtual 203, 3) := by decide +kernel
theorem dX4_count_83 : decode cX4_count 83 = .ok (.ireturn, 1) := by decide +kernel
theorem dX4_count_84 : decode cX4_count 84 = .ok (.aload_n 0, 1) := by decide +kernel
theorem dX4_count_85 : decode cX4_count 85 = .ok (.getfield 10, 3) := by decide +kernel
theorem dX4_count_88 : decode cX4_count 88 = .ok (.getfield 206, 3) := by decide +kernel
theorem dX4_count_91 : decode cX4_count 91 = .ok (.ireturn, 1) := by decide +kernel
theorem dX4_count_92 : decode cX4_count 92 = .ok (.aload_n 0, 1) := by decide +kernel
theorem dX4_count_93 : decode cX4_count 93 = .ok (.getfield 10, 3) := by decide +kernel
theorem dX4_count_96 : decode cX4_count 96 = .ok (.getfield 191, 3) := by decide +kernel
theorem dX4_count_99 : decode cX4_count 99 = .ok (.invokestatic 209, 3) := by decide +kernel
theorem dX4_count_102 : decode cX4_count 102 = .ok (.ireturn, 1) := by decide +kernel
theorem dX4_count_103 : decode cX4_count 103 = .ok (.aload_n 0, 1) := by decide +kernel
theorem dX4_count_104 : decode cX4_count 104 = .ok (.getfield 10, 3) := by decide +kernel
theorem dX4_count_107 : decode cX4_count 107 = .ok (.getfield 194, 3) := by decide +kernel
theorem dX4_count_110 : decode cX4_count 110 = .ok (.invokestatic 209, 3) := by decide +kernel
theorem dX4_count_113 : decode cX4_count 113 = .ok (.ireturn, 1) := by decide +kernel
theorem dX4_count_114 : decode cX4_count 114 = .ok (.aload_n 0, 1) := by decide +kernel
theorem dX4_count_115 : decode cX4_count 115 = .ok (.getfield 10, 3) := by decide +kernel
theorem dX4_count_118 : decode cX4_count 118 = .ok (.getfield 197, 3) := by decide +kernel
theorem dX4_count_121 : decode cX4_count 121 = .ok (.invokestatic 209, 3) := by decide +kernel
theorem dX4_count_124 : decode cX4_count 124 = .ok (.ireturn, 1) := by decide +kernel
theorem dX4_count_125 : decode cX4_count 125 = .ok (.aload_n 0, 1) := by decide +kernel
theorem dX4_count_126 : decode cX4_count 126 = .ok (.getfield 10, 3) := by decide +kernel
theorem dX4_count_129 : decode cX4_count 129 = .ok (.getfield 107, 3) := by decide +kernel
theorem dX4_count_132 : decode cX4_count 132 = .ok (.invokestatic 209, 3) := by decide +kernel
theorem dX4_count_135 : decode cX4_count 135 = .ok (.ireturn, 1) := by decide +kernel
theorem dX4_count_136 : decode cX4_count 136 = .ok (.aload_n 0, 1) := by decide +kernel
theorem dX4_count_137 : decode cX4_count 137 = .ok (.getfield 10, 3) := by decide +kernel
theorem dX4_count_140 : decode cX4_count 140 = .ok (.invokevirtual 213, 3) := by decide +kernel
theorem dX4_count_143 : decode cX4_count 143 = .ok (.ireturn, 1) := by decide +kernel
theorem dX4_count_144 : decode cX4_count 144 = .ok (.aload_n 0, 1) := by decide +kernel
theorem dX4_count_145 : decode cX4_count 145 = .ok (.getfield 19, 3) := by decide +kernel
theorem dX4_count_148 : decode cX4_count 148 = .ok (.getfield 160, 3) := by decide +kernel
theorem dX4_count_151 : decode cX4_count 151 = .ok (.ireturn, 1) := by decide +kernel
set_option maxRecDepth 20000 in
theorem ggX4_canBe_X4_checkIndex : GoodIn wsX4_canBe wsX4_checkIndex := goodIn_ca (goodIn_r _ [6, 7, 8] (by decide +kernel) (by decide +kernel)) (goodIn_sub (fun _ h => List.mem_cons_of_mem _ (List.mem_append_right _ h)) (by decide +kernel))
set_option maxRecDepth 20000 in
theorem gX4_canBe_X4_checkIndex : GoodIn wsX4_canBe (va_wsS RX4 45 yX4_checkIndex wsX4_checkIndex) := goodIn_app (goodIn_of _ (by decide +kernel)) ggX4_canBe_X4_checkIndex
set_option maxRecDepth 20000 in
theorem ggX4_canBe_X1_fewestFor : GoodIn wsX4_canBe wsX1_fewestFor := goodIn_r _ [13, 14, 15, 16, 17, 18, 19, 20, 21, 22, 23, 24, 25, 26, 27, 28, 29, 30, 31, 32, 33, 34, 35, 36, 37, 38, 39, 40, 41, 42, 43, 44, 45, 46, 47, 48, 12, 49, 50, 51, 52, 53, 54, 55, 56, 57, 58, 59, 60, 61, 62, 63, 64, 71, 72, 73, 74, 75, 76, 77, 78, 79, 80, 81, 82, 83, 84, 85, 86] (by decide +kernel) (by decide +kernel)
set_option maxRecDepth 20000 in
theorem gX4_canBe_X1_fewestFor : GoodIn wsX4_canBe (wsV RX4 219 RX1 yX1_fewestFor wsX1_fewestFor) := goodIn_app (goodIn_of _ (by decide +kernel)) ggX4_canBe_X1_fewestFor
theorem dX4_canBe_0 : decode cX4_canBe 0 = .ok (.iload_n 1, 1) := by decide +kernel
theorem dX4_canBe_1 : decode cX4_canBe 1 = .ok (.iconst 4, 1) := by decide +kernel
theorem dX4_canBe_2 : decode cX4_canBe 2 = .ok (.invokestatic 45, 3) := by decide +kernel
theorem dX4_canBe_5 : decode cX4_canBe 5 = .ok (.aload_n 0, 1) := by decide +kernel
theorem dX4_canBe_6 : decode cX4_canBe 6 = .ok (.getfield 26, 3) := by decide +kernel
theorem dX4_canBe_9 : decode cX4_canBe 9 = .ok (.aload_n 0, 1) := by decide +kernel
theorem dX4_canBe_10 : decode cX4_canBe 10 = .ok (.getfield 10, 3) := by decide +kernel
theorem dX4_canBe_13 : decode cX4_canBe 13 = .ok (.iload_n 1, 1) := by decide +kernel
theorem dX4_canBe_14 : decode cX4_canBe 14 = .ok (.iload_n 2, 1) := by decide +kernel
theorem dX4_canBe_15 : decode cX4_canBe 15 = .ok (.invokevirtual 219, 3) := by decide +kernel
theorem dX4_canBe_18 : decode cX4_canBe 18 = .ok (.ireturn, 1) := by decide +kernel
set_option maxRecDepth 20000 in
theorem ggX4_heldShare_X3_highOf : GoodIn wsX4_heldShare wsX3_highOf := goodIn_r _ [8, 9, 10, 11, 12, 13, 14, 15, 16, 17, 7, 18, 19, 20, 21, 41, 42, 43, 44, 45, 46, 47, 48, 49, 50, 51, 52, 53, 54, 55] (by decide +kernel) (by decide +kernel)
set_option maxRecDepth 20000 in
theorem gX4_heldShare_X3_highOf : GoodIn wsX4_heldShare (wsV RX4 57 RX3 yX3_highOf wsX3_highOf) := goodIn_app (goodIn_of _ (by decide +kernel)) ggX4_heldShare_X3_highOf
set_option maxRecDepth 20000 in
theorem ggX4_heldShare_X3_lowOf : GoodIn wsX4_heldShare wsX3_lowOf := goodIn_r _ [25, 26, 27, 28, 29, 7, 30, 9, 10, 31, 32, 33, 13, 34, 15, 16, 17, 18, 19, 20, 21, 41, 42, 43, 44, 45, 46, 47, 48, 49, 50, 51, 52, 53, 54, 55] (by decide +kernel) (by decide +kernel)
set_option maxRecDepth 20000 in
theorem gX4_heldShare_X3_lowOf : GoodIn wsX4_heldShare (wsV RX4 53 RX3 yX3_lowOf wsX3_lowOf) := goodIn_app (goodIn_of _ (by decide +kernel)) ggX4_heldShare_X3_lowOf
theorem dX4_heldShare_0 : decode cX4_heldShare 0 = .ok (.iconst 0, 1) := by decide +kernel
theorem dX4_heldShare_1 : decode cX4_heldShare 1 = .ok (.istore_n 1, 1) := by decide +kernel
theorem dX4_heldShare_2 : decode cX4_heldShare 2 = .ok (.iconst 0, 1) := by decide +kernel
theorem dX4_heldShare_3 : decode cX4_heldShare 3 = .ok (.istore_n 2, 1) := by decide +kernel
theorem dX4_heldShare_4 : decode cX4_heldShare 4 = .ok (.iconst 0, 1) := by decide +kernel
theorem dX4_heldShare_5 : decode cX4_heldShare 5 = .ok (.istore_n 3, 1) := by decide +kernel
theorem dX4_heldShare_6 : decode cX4_heldShare 6 = .ok (.iload_n 3, 1) := by decide +kernel
theorem dX4_heldShare_7 : decode cX4_heldShare 7 = .ok (.iconst 4, 1) := by decide +kernel
theorem dX4_heldShare_8 : decode cX4_heldShare 8 = .ok (.if_icmp .ge 51, 3) := by decide +kernel
theorem dX4_heldShare_11 : decode cX4_heldShare 11 = .ok (.iload_n 1, 1) := by decide +kernel
theorem dX4_heldShare_12 : decode cX4_heldShare 12 = .ok (.aload_n 0, 1) := by decide +kernel
theorem dX4_heldShare_13 : decode cX4_heldShare 13 = .ok (.getfield 10, 3) := by decide +kernel
theorem dX4_heldShare_16 : decode cX4_heldShare 16 = .ok (.iload_n 3, 1) := by decide +kernel
theorem dX4_heldShare_17 : decode cX4_heldShare 17 = .ok (.invokevirtual 57, 3) := by decide +kernel
theorem dX4_heldShare_20 : decode cX4_heldShare 20 = .ok (.aload_n 0, 1) := by decide +kernel
theorem dX4_heldShare_21 : decode cX4_heldShare 21 = .ok (.getfield 10, 3) := by decide +kernel
theorem dX4_heldShare_24 : decode cX4_heldShare 24 = .ok (.iload_n 3, 1) := by decide +kernel
theorem dX4_heldShare_25 : decode cX4_heldShare 25 = .ok (.invokevirtual 53, 3) := by decide +kernel
theorem dX4_heldShare_28 : decode cX4_heldShare 28 = .ok (.isub, 1) := by decide +kernel
theorem dX4_heldShare_29 : decode cX4_heldShare 29 = .ok (.iadd, 1) := by decide +kernel
theorem dX4_heldShare_30 : decode cX4_heldShare 30 = .ok (.istore_n 1, 1) := by decide +kernel
theorem dX4_heldShare_31 : decode cX4_heldShare 31 = .ok (.iload_n 2, 1) := by decide +kernel
theorem dX4_heldShare_32 : decode cX4_heldShare 32 = .ok (.aload_n 0, 1) := by decide +kernel
theorem dX4_heldShare_33 : decode cX4_heldShare 33 = .ok (.getfield 10, 3) := by decide +kernel
theorem dX4_heldShare_36 : decode cX4_heldShare 36 = .ok (.getfield 71, 3) := by decide +kernel
theorem dX4_heldShare_39 : decode cX4_heldShare 39 = .ok (.iload_n 3, 1) := by decide +kernel
theorem dX4_heldShare_40 : decode cX4_heldShare 40 = .ok (.iaload, 1) := by decide +kernel
theorem dX4_heldShare_41 : decode cX4_heldShare 41 = .ok (.aload_n 0, 1) := by decide +kernel
theorem dX4_heldShare_42 : decode cX4_heldShare 42 = .ok (.getfield 10, 3) := by decide +kernel
theorem dX4_heldShare_45 : decode cX4_heldShare 45 = .ok (.getfield 75, 3) := by decide +kernel
theorem dX4_heldShare_48 : decode cX4_heldShare 48 = .ok (.iload_n 3, 1) := by decide +kernel
theorem dX4_heldShare_49 : decode cX4_heldShare 49 = .ok (.iaload, 1) := by decide +kernel
theorem dX4_heldShare_50 : decode cX4_heldShare 50 = .ok (.isub, 1) := by decide +kernel
theorem dX4_heldShare_51 : decode cX4_heldShare 51 = .ok (.iadd, 1) := by decide +kernel
theorem dX4_heldShare_52 : decode cX4_heldShare 52 = .ok (.istore_n 2, 1) := by decide +kernel
theorem dX4_heldShare_53 : decode cX4_heldShare 53 = .ok (.iinc 3 1, 3) := by decide +kernel
theorem dX4_heldShare_56 : decode cX4_heldShare 56 = .ok (.goto (-50), 3) := by decide +kernel
theorem dX4_heldShare_59 : decode cX4_heldShare 59 = .ok (.iload_n 2, 1) := by decide +kernel
theorem dX4_heldShare_60 : decode cX4_heldShare 60 = .ok (.ifCond .ne 7, 3) := by decide +kernel
theorem dX4_heldShare_63 : decode cX4_heldShare 63 = .ok (.dconst 0, 1) := by decide +kernel
theorem dX4_heldShare_64 : decode cX4_heldShare 64 = .ok (.goto 8, 3) := by decide +kernel
theorem dX4_heldShare_67 : decode cX4_heldShare 67 = .ok (.iload_n 1, 1) := by decide +kernel
theorem dX4_heldShare_68 : decode cX4_heldShare 68 = .ok (.i2d, 1) := by decide +kernel
theorem dX4_heldShare_69 : decode cX4_heldShare 69 = .ok (.iload_n 2, 1) := by decide +kernel
theorem dX4_heldShare_70 : decode cX4_heldShare 70 = .ok (.i2d, 1) := by decide +kernel
theorem dX4_heldShare_71 : decode cX4_heldShare 71 = .ok (.ddiv, 1) := by decide +kernel
theorem dX4_heldShare_72 : decode cX4_heldShare 72 = .ok (.dreturn, 1) := by decide +kernel
set_option maxRecDepth 20000 in
theorem ggX4_checkNoReason_X3_reasonAgainst : GoodIn wsX4_checkNoReason wsX3_reasonAgainst := goodIn_r _ [8, 9, 10, 11, 12, 7, 13, 14, 15, 16, 17, 18, 19, 20, 21, 22, 23, 24, 25, 26, 27, 28, 29, 30, 31, 32, 33, 34, 35, 36, 37, 38, 39, 40, 41, 42, 43, 44, 45, 46, 47, 48, 49, 50, 51, 52, 53, 54, 61, 62, 63, 64, 65, 66, 67, 68, 69, 70, 71, 72, 73, 74, 75] (by decide +kernel) (by decide +kernel)
set_option maxRecDepth 20000 in
theorem gX4_checkNoReason_X3_reasonAgainst : GoodIn wsX4_checkNoReason (wsV RX4 216 RX3 yX3_reasonAgainst wsX3_reasonAgainst) := goodIn_app (goodIn_of _ (by decide +kernel)) ggX4_checkNoReason_X3_reasonAgainst
theorem dX4_checkNoReason_0 : decode cX4_checkNoReason 0 = .ok (.aload_n 0, 1) := by decide +kernel
theorem dX4_checkNoReason_1 : decode cX4_checkNoReason 1 = .ok (.getfield 10, 3) := by decide +kernel
theorem dX4_checkNoReason_4 : decode cX4_checkNoReason 4 = .ok (.iload_n 1, 1) := by decide +kernel
theorem dX4_checkNoReason_5 : decode cX4_checkNoReason 5 = .ok (.iload_n 2, 1) := by decide +kernel
theorem dX4_checkNoReason_6 : decode cX4_checkNoReason 6 = .ok (.iload_n 3, 1) := by decide +kernel
theorem dX4_checkNoReason_7 : decode cX4_checkNoReason 7 = .ok (.iload 4, 2) := by decide +kernel
theorem dX4_checkNoReason_9 : decode cX4_checkNoReason 9 = .ok (.invokevirtual 216, 3) := by decide +kernel
theorem dX4_checkNoReason_12 : decode cX4_checkNoReason 12 = .ok (.ifCond .eq 14, 3) := by decide +kernel
theorem dX4_checkNoReason_15 : decode cX4_checkNoReason 15 = .ok (.new 60, 3) := by decide +kernel
theorem dX4_checkNoReason_18 : decode cX4_checkNoReason 18 = .ok (.dup, 1) := by decide +kernel
theorem dX4_checkNoReason_19 : decode cX4_checkNoReason 19 = .ok (.ldc_w 303, 3) := by decide +kernel
theorem dX4_checkNoReason_22 : decode cX4_checkNoReason 22 = .ok (.invokespecial 64, 3) := by decide +kernel
theorem dX4_checkNoReason_25 : decode cX4_checkNoReason 25 = .ok (.athrow, 1) := by decide +kernel
theorem dX4_checkNoReason_26 : decode cX4_checkNoReason 26 = .ok (.return_, 1) := by decide +kernel
theorem dX4_checkIndex_0 : decode cX4_checkIndex 0 = .ok (.iload_n 0, 1) := by decide +kernel
theorem dX4_checkIndex_1 : decode cX4_checkIndex 1 = .ok (.ifCond .lt 8, 3) := by decide +kernel
theorem dX4_checkIndex_4 : decode cX4_checkIndex 4 = .ok (.iload_n 0, 1) := by decide +kernel
theorem dX4_checkIndex_5 : decode cX4_checkIndex 5 = .ok (.iload_n 1, 1) := by decide +kernel
theorem dX4_checkIndex_6 : decode cX4_checkIndex 6 = .ok (.if_icmp .lt 14, 3) := by decide +kernel
theorem dX4_checkIndex_9 : decode cX4_checkIndex 9 = .ok (.new 305, 3) := by decide +kernel
theorem dX4_checkIndex_12 : decode cX4_checkIndex 12 = .ok (.dup, 1) := by decide +kernel
theorem dX4_checkIndex_13 : decode cX4_checkIndex 13 = .ok (.ldc_w 307, 3) := by decide +kernel
theorem dX4_checkIndex_16 : decode cX4_checkIndex 16 = .ok (.invokespecial 309, 3) := by decide +kernel
theorem dX4_checkIndex_19 : decode cX4_checkIndex 19 = .ok (.athrow, 1) := by decide +kernel
theorem dX4_checkIndex_20 : decode cX4_checkIndex 20 = .ok (.return_, 1) := by decide +kernel
theorem dX4_checkArgument_0 : decode cX4_checkArgument 0 = .ok (.iload_n 0, 1) := by decide +kernel
theorem dX4_checkArgument_1 : decode cX4_checkArgument 1 = .ok (.iload_n 1, 1) := by decide +kernel
theorem dX4_checkArgument_2 : decode cX4_checkArgument 2 = .ok (.if_icmp .lt 8, 3) := by decide +kernel
theorem dX4_checkArgument_5 : decode cX4_checkArgument 5 = .ok (.iload_n 0, 1) := by decide +kernel
theorem dX4_checkArgument_6 : decode cX4_checkArgument 6 = .ok (.iload_n 2, 1) := by decide +kernel
theorem dX4_checkArgument_7 : decode cX4_checkArgument 7 = .ok (.if_icmp .le 14, 3) := by decide +kernel
theorem dX4_checkArgument_10 : decode cX4_checkArgument 10 = .ok (.new 93, 3) := by decide +kernel
theorem dX4_checkArgument_13 : decode cX4_checkArgument 13 = .ok (.dup, 1) := by decide +kernel
theorem dX4_checkArgument_14 : decode cX4_checkArgument 14 = .ok (.ldc_w 310, 3) := by decide +kernel
theorem dX4_checkArgument_17 : decode cX4_checkArgument 17 = .ok (.invokespecial 97, 3) := by decide +kernel
theorem dX4_checkArgument_20 : decode cX4_checkArgument 20 = .ok (.athrow, 1) := by decide +kernel
theorem dX4_checkArgument_21 : decode cX4_checkArgument 21 = .ok (.return_, 1) := by decide +kernel
set_option maxRecDepth 20000 in
theorem ggX4_checkChange_X4_checkArgument : GoodIn wsX4_checkChange wsX4_checkArgument := goodIn_ca (goodIn_r _ [6, 1, 2] (by decide +kernel) (by decide +kernel)) (goodIn_sub (fun _ h => List.mem_cons_of_mem _ (List.mem_append_right _ h)) (by decide +kernel))
set_option maxRecDepth 20000 in
theorem gX4_checkChange_X4_checkArgument : GoodIn wsX4_checkChange (va_wsS RX4 49 yX4_checkArgument wsX4_checkArgument) := goodIn_app (goodIn_of _ (by decide +kernel)) ggX4_checkChange_X4_checkArgument
theorem dX4_checkChange_0 : decode cX4_checkChange 0 = .ok (.iload_n 0, 1) := by decide +kernel
theorem dX4_checkChange_1 : decode cX4_checkChange 1 = .ok (.bipush (-99), 2) := by decide +kernel
theorem dX4_checkChange_3 : decode cX4_checkChange 3 = .ok (.bipush 99, 2) := by decide +kernel
theorem dX4_checkChange_5 : decode cX4_checkChange 5 = .ok (.invokestatic 49, 3) := by decide +kernel
theorem dX4_checkChange_8 : decode cX4_checkChange 8 = .ok (.iload_n 0, 1) := by decide +kernel
theorem dX4_checkChange_9 : decode cX4_checkChange 9 = .ok (.ifCond .ne 14, 3) := by decide +kernel
theorem dX4_checkChange_12 : decode cX4_checkChange 12 = .ok (.new 93, 3) := by decide +kernel
theorem dX4_checkChange_15 : decode cX4_checkChange 15 = .ok (.dup, 1) := by decide +kernel
theorem dX4_checkChange_16 : decode cX4_checkChange 16 = .ok (.ldc_w 312, 3) := by decide +kernel
theorem dX4_checkChange_19 : decode cX4_checkChange 19 = .ok (.invokespecial 97, 3) := by decide +kernel
theorem dX4_checkChange_22 : decode cX4_checkChange 22 = .ok (.athrow, 1) := by decide +kernel
theorem dX4_checkChange_23 : decode cX4_checkChange 23 = .ok (.return_, 1) := by decide +kernel
theorem dX4_sumOf_0 : decode cX4_sumOf 0 = .ok (.iconst 0, 1) := by decide +kernel
theorem dX4_sumOf_1 : decode cX4_sumOf 1 = .ok (.istore_n 1, 1) := by decide +kernel
theorem dX4_sumOf_2 : decode cX4_sumOf 2 = .ok (.aload_n 0, 1) := by decide +kernel
theorem dX4_sumOf_3 : decode cX4_sumOf 3 = .ok (.astore_n 2, 1) := by decide +kernel
theorem dX4_sumOf_4 : decode cX4_sumOf 4 = .ok (.aload_n 2, 1) := by decide +kernel
theorem dX4_sumOf_5 : decode cX4_sumOf 5 = .ok (.arraylength, 1) := by decide +kernel
theorem dX4_sumOf_6 : decode cX4_sumOf 6 = .ok (.istore_n 3, 1) := by decide +kernel
theorem dX4_sumOf_7 : decode cX4_sumOf 7 = .ok (.iconst 0, 1) := by decide +kernel
theorem dX4_sumOf_8 : decode cX4_sumOf 8 = .ok (.istore 4, 2) := by decide +kernel
theorem dX4_sumOf_10 : decode cX4_sumOf 10 = .ok (.iload 4, 2) := by decide +kernel
theorem dX4_sumOf_12 : decode cX4_sumOf 12 = .ok (.iload_n 3, 1) := by decide +kernel
theorem dX4_sumOf_13 : decode cX4_sumOf 13 = .ok (.if_icmp .ge 20, 3) := by decide +kernel
theorem dX4_sumOf_16 : decode cX4_sumOf 16 = .ok (.aload_n 2, 1) := by decide +kernel
theorem dX4_sumOf_17 : decode cX4_sumOf 17 = .ok (.iload 4, 2) := by decide +kernel
theorem dX4_sumOf_19 : decode cX4_sumOf 19 = .ok (.iaload, 1) := by decide +kernel
theorem dX4_sumOf_20 : decode cX4_sumOf 20 = .ok (.istore 5, 2) := by decide +kernel
theorem dX4_sumOf_22 : decode cX4_sumOf 22 = .ok (.iload_n 1, 1) := by decide +kernel
theorem dX4_sumOf_23 : decode cX4_sumOf 23 = .ok (.iload 5, 2) := by decide +kernel
theorem dX4_sumOf_25 : decode cX4_sumOf 25 = .ok (.iadd, 1) := by decide +kernel
theorem dX4_sumOf_26 : decode cX4_sumOf 26 = .ok (.istore_n 1, 1) := by decide +kernel
theorem dX4_sumOf_27 : decode cX4_sumOf 27 = .ok (.iinc 4 1, 3) := by decide +kernel
theorem dX4_sumOf_30 : decode cX4_sumOf 30 = .ok (.goto (-20), 3) := by decide +kernel
theorem dX4_sumOf_33 : decode cX4_sumOf 33 = .ok (.iload_n 1, 1) := by decide +kernel
theorem dX4_sumOf_34 : decode cX4_sumOf 34 = .ok (.ireturn, 1) := by decide +kernel
theorem dJ9_abs_0f7a4_0 : decode cJ9_abs_0f7a4 0 = .ok (.iload_n 0, 1) := by decide +kernel
theorem dJ9_abs_0f7a4_1 : decode cJ9_abs_0f7a4 1 = .ok (.ifCond .ge 8, 3) := by decide +kernel
theorem dJ9_abs_0f7a4_4 : decode cJ9_abs_0f7a4 4 = .ok (.iload_n 0, 1) := by decide +kernel
theorem dJ9_abs_0f7a4_5 : decode cJ9_abs_0f7a4 5 = .ok (.ineg, 1) := by decide +kernel
theorem dJ9_abs_0f7a4_6 : decode cJ9_abs_0f7a4 6 = .ok (.goto 4, 3) := by decide +kernel
theorem dJ9_abs_0f7a4_9 : decode cJ9_abs_0f7a4 9 = .ok (.iload_n 0, 1) := by decide +kernel
theorem dJ9_abs_0f7a4_10 : decode cJ9_abs_0f7a4 10 = .ok (.ireturn, 1) := by decide +kernel
theorem dJ9_max_7cf53_0 : decode cJ9_max_7cf53 0 = .ok (.iload_n 0, 1) := by decide +kernel
theorem dJ9_max_7cf53_1 : decode cJ9_max_7cf53 1 = .ok (.iload_n 1, 1) := by decide +kernel
theorem dJ9_max_7cf53_2 : decode cJ9_max_7cf53 2 = .ok (.if_icmp .lt 7, 3) := by decide +kernel
theorem dJ9_max_7cf53_5 : decode cJ9_max_7cf53 5 = .ok (.iload_n 0, 1) := by decide +kernel
theorem dJ9_max_7cf53_6 : decode cJ9_max_7cf53 6 = .ok (.goto 4, 3) := by decide +kernel
theorem dJ9_max_7cf53_9 : decode cJ9_max_7cf53 9 = .ok (.iload_n 1, 1) := by decide +kernel
theorem dJ9_max_7cf53_10 : decode cJ9_max_7cf53 10 = .ok (.ireturn, 1) := by decide +kernel
theorem dJ9_min_7cf53_0 : decode cJ9_min_7cf53 0 = .ok (.iload_n 0, 1) := by decide +kernel
theorem dJ9_min_7cf53_1 : decode cJ9_min_7cf53 1 = .ok (.iload_n 1, 1) := by decide +kernel
theorem dJ9_min_7cf53_2 : decode cJ9_min_7cf53 2 = .ok (.if_icmp .gt 7, 3) := by decide +kernel
theorem dJ9_min_7cf53_5 : decode cJ9_min_7cf53 5 = .ok (.iload_n 0, 1) := by decide +kernel
theorem dJ9_min_7cf53_6 : decode cJ9_min_7cf53 6 = .ok (.goto 4, 3) := by decide +kernel
theorem dJ9_min_7cf53_9 : decode cJ9_min_7cf53 9 = .ok (.iload_n 1, 1) := by decide +kernel
theorem dJ9_min_7cf53_10 : decode cJ9_min_7cf53 10 = .ok (.ireturn, 1) := by decide +kernel
theorem dL_low_0 : decode cL_low 0 = .ok (.iload_n 0, 1) := by decide +kernel
theorem dL_low_1 : decode cL_low 1 = .ok (.ldc 7, 2) := by decide +kernel
theorem dL_low_3 : decode cL_low 3 = .ok (.iand, 1) := by decide +kernel
theorem dL_low_4 : decode cL_low 4 = .ok (.iload_n 1, 1) := by decide +kernel
theorem dL_low_5 : decode cL_low 5 = .ok (.irem, 1) := by decide +kernel
theorem dL_low_6 : decode cL_low 6 = .ok (.ireturn, 1) := by decide +kernel
theorem dL_cell_0 : decode cL_cell 0 = .ok (.iload_n 1, 1) := by decide +kernel
theorem dL_cell_1 : decode cL_cell 1 = .ok (.aload_n 0, 1) := by decide +kernel
theorem dL_cell_2 : decode cL_cell 2 = .ok (.arraylength, 1) := by decide +kernel
theorem dL_cell_3 : decode cL_cell 3 = .ok (.if_icmp .ge 9, 3) := by decide +kernel
theorem dL_cell_6 : decode cL_cell 6 = .ok (.aload_n 0, 1) := by decide +kernel
theorem dL_cell_7 : decode cL_cell 7 = .ok (.iload_n 1, 1) := by decide +kernel
theorem dL_cell_8 : decode cL_cell 8 = .ok (.iaload, 1) := by decide +kernel
theorem dL_cell_9 : decode cL_cell 9 = .ok (.goto 11, 3) := by decide +kernel
theorem dL_cell_12 : decode cL_cell 12 = .ok (.ldc 8, 2) := by decide +kernel
theorem dL_cell_14 : decode cL_cell 14 = .ok (.iload_n 1, 1) := by decide +kernel
theorem dL_cell_15 : decode cL_cell 15 = .ok (.imul, 1) := by decide +kernel
theorem dL_cell_16 : decode cL_cell 16 = .ok (.sipush 977, 3) := by decide +kernel
theorem dL_cell_19 : decode cL_cell 19 = .ok (.iadd, 1) := by decide +kernel
theorem dL_cell_20 : decode cL_cell 20 = .ok (.ireturn, 1) := by decide +kernel
set_option maxRecDepth 20000 in
theorem ggL_promise_X4_promise : GoodIn wsL_promise wsX4_promise := goodIn_ca (goodIn_ca (goodIn_ca (goodIn_r _ [6, 7, 8, 9, 10, 5, 11, 12, 13, 14, 15, 16, 17, 18, 19, 20, 21, 22, 23, 24, 25, 26, 27, 28, 29, 30, 31, 32, 33, 34, 35, 36, 37, 38, 39, 40, 41, 42, 43, 44, 45, 46, 47, 48, 49, 50, 51, 52, 53, 54, 55, 56, 57, 58, 59, 60, 61, 62, 63, 64, 65, 66, 67, 68, 69, 70, 71, 72, 73, 74, 75, 76, 77, 78, 79, 80, 81, 82, 83, 84, 85, 86, 87, 88, 89, 90, 91, 92, 93, 94, 95, 96, 97, 98, 99, 100, 101, 102, 103, 104, 105, 106, 107, 108, 109, 110, 111, 112, 113, 114, 115, 116, 117, 118, 119, 120, 121, 122, 123, 124, 125, 126, 127, 128] (by decide +kernel) (by decide +kernel)) (goodIn_sub (fun _ h => List.mem_cons_of_mem _ (List.mem_append_left _ (List.mem_append_left _ (List.mem_append_right _ h)))) (by decide +kernel))) (goodIn_sub (fun _ h => List.mem_cons_of_mem _ (List.mem_append_left _ (List.mem_append_right _ h))) (by decide +kernel))) (goodIn_sub (fun _ h => List.mem_cons_of_mem _ (List.mem_append_right _ h)) (by decide +kernel))
set_option maxRecDepth 20000 in
theorem gL_promise_X4_promise : GoodIn wsL_promise (wsV RL 9 RX4 yX4_promise wsX4_promise) := goodIn_app (goodIn_of _ (by decide +kernel)) ggL_promise_X4_promise
theorem dL_promise_0 : decode cL_promise 0 = .ok (.aload_n 0, 1) := by decide +kernel
theorem dL_promise_1 : decode cL_promise 1 = .ok (.iload_n 1, 1) := by decide +kernel
theorem dL_promise_2 : decode cL_promise 2 = .ok (.iload_n 2, 1) := by decide +kernel
theorem dL_promise_3 : decode cL_promise 3 = .ok (.iload_n 3, 1) := by decide +kernel
theorem dL_promise_4 : decode cL_promise 4 = .ok (.invokevirtual 9, 3) := by decide +kernel
theorem dL_promise_7 : decode cL_promise 7 = .ok (.ireturn, 1) := by decide +kernel
theorem dL_promise_8 : decode cL_promise 8 = .ok (.astore 4, 2) := by decide +kernel
theorem dL_promise_10 : decode cL_promise 10 = .ok (.bipush (-3), 2) := by decide +kernel
theorem dL_promise_12 : decode cL_promise 12 = .ok (.ireturn, 1) := by decide +kernel
set_option maxRecDepth 20000 in
theorem ggL_transfer_X4_transfer : GoodIn wsL_transfer wsX4_transfer := goodIn_ca (goodIn_ca (goodIn_ca (goodIn_r _ [6, 7, 8, 9, 10, 11, 12, 5, 13, 14, 15, 16, 17, 18, 19, 20, 21, 22, 23, 24, 25, 26, 27, 28, 29, 30, 31, 32, 33, 34, 35, 36, 37, 38, 39, 40, 41, 42, 43, 44, 45, 46, 47, 48, 49, 50, 51, 52, 53, 54, 55, 56, 57, 58, 59, 60, 61, 62, 63, 64, 65, 66, 67, 68, 69, 70, 71, 72, 73, 74, 75, 76, 77, 78, 79, 80, 81, 82, 83, 84, 85, 86, 87, 88, 89, 90, 91, 92, 93, 94, 95, 96, 97, 98, 99, 100, 101, 102, 103, 104, 105, 106, 107, 108, 109, 110, 111, 112, 113, 114, 115, 116, 117, 118, 119, 120, 121, 122, 123, 124, 125] (by decide +kernel) (by decide +kernel)) (goodIn_sub (fun _ h => List.mem_cons_of_mem _ (List.mem_append_left _ (List.mem_append_left _ (List.mem_append_right _ h)))) (by decide +kernel))) (goodIn_sub (fun _ h => List.mem_cons_of_mem _ (List.mem_append_left _ (List.mem_append_right _ h))) (by decide +kernel))) (goodIn_sub (fun _ h => List.mem_cons_of_mem _ (List.mem_append_right _ h)) (by decide +kernel))
set_option maxRecDepth 20000 in
theorem gL_transfer_X4_transfer : GoodIn wsL_transfer (wsV RL 17 RX4 yX4_transfer wsX4_transfer) := goodIn_app (goodIn_of _ (by decide +kernel)) ggL_transfer_X4_transfer
theorem dL_transfer_0 : decode cL_transfer 0 = .ok (.aload_n 0, 1) := by decide +kernel
theorem dL_transfer_1 : decode cL_transfer 1 = .ok (.iload_n 1, 1) := by decide +kernel
theorem dL_transfer_2 : decode cL_transfer 2 = .ok (.iload_n 2, 1) := by decide +kernel
theorem dL_transfer_3 : decode cL_transfer 3 = .ok (.iload_n 3, 1) := by decide +kernel
theorem dL_transfer_4 : decode cL_transfer 4 = .ok (.iload 4, 2) := by decide +kernel
theorem dL_transfer_6 : decode cL_transfer 6 = .ok (.invokevirtual 17, 3) := by decide +kernel
theorem dL_transfer_9 : decode cL_transfer 9 = .ok (.ireturn, 1) := by decide +kernel
theorem dL_transfer_10 : decode cL_transfer 10 = .ok (.astore 5, 2) := by decide +kernel
theorem dL_transfer_12 : decode cL_transfer 12 = .ok (.bipush (-3), 2) := by decide +kernel
theorem dL_transfer_14 : decode cL_transfer 14 = .ok (.ireturn, 1) := by decide +kernel
set_option maxRecDepth 20000 in
theorem ggL_bounds_X4_bounds : GoodIn wsL_bounds wsX4_bounds := goodIn_ca (goodIn_ca (goodIn_ca (goodIn_r _ [6, 7, 8, 9, 10, 11, 12, 13, 14, 5, 15, 16, 17, 18, 19, 20, 21, 22, 23, 24, 25, 26, 27, 28, 29, 30, 31, 32, 33, 34, 35, 36, 37, 38, 39, 40, 41, 42, 43, 44, 45, 46, 47, 48, 49, 50, 51, 52, 53, 54, 55, 56, 57, 58, 59, 60, 61, 62, 63, 64, 65, 66, 67, 68, 69, 70, 71, 72, 73, 74, 75, 76, 77, 78, 79, 80, 81, 82, 83, 84, 85, 86, 87, 88, 89, 90, 91, 92, 93, 94, 95, 96, 97, 98, 99, 100, 101, 102, 103] (by decide +kernel) (by decide +kernel)) (goodIn_sub (fun _ h => List.mem_cons_of_mem _ (List.mem_append_left _ (List.mem_append_left _ (List.mem_append_right _ h)))) (by decide +kernel))) (goodIn_sub (fun _ h => List.mem_cons_of_mem _ (List.mem_append_left _ (List.mem_append_right _ h))) (by decide +kernel))) (goodIn_sub (fun _ h => List.mem_cons_of_mem _ (List.mem_append_right _ h)) (by decide +kernel))
set_option maxRecDepth 20000 in
theorem gL_bounds_X4_bounds : GoodIn wsL_bounds (wsV RL 21 RX4 yX4_bounds wsX4_bounds) := goodIn_app (goodIn_of _ (by decide +kernel)) ggL_bounds_X4_bounds
theorem dL_bounds_0 : decode cL_bounds 0 = .ok (.aload_n 0, 1) := by decide +kernel
theorem dL_bounds_1 : decode cL_bounds 1 = .ok (.iload_n 1, 1) := by decide +kernel
theorem dL_bounds_2 : decode cL_bounds 2 = .ok (.iload_n 2, 1) := by decide +kernel
theorem dL_bounds_3 : decode cL_bounds 3 = .ok (.iload_n 3, 1) := by decide +kernel
theorem dL_bounds_4 : decode cL_bounds 4 = .ok (.invokevirtual 21, 3) := by decide +kernel
theorem dL_bounds_7 : decode cL_bounds 7 = .ok (.ireturn, 1) := by decide +kernel
theorem dL_bounds_8 : decode cL_bounds 8 = .ok (.astore 4, 2) := by decide +kernel
theorem dL_bounds_10 : decode cL_bounds 10 = .ok (.bipush (-3), 2) := by decide +kernel
theorem dL_bounds_12 : decode cL_bounds 12 = .ok (.ireturn, 1) := by decide +kernel
set_option maxRecDepth 20000 in
theorem ggL_undo_X4_undo : GoodIn wsL_undo wsX4_undo := goodIn_ca (goodIn_r _ [6, 7, 8, 9, 10, 11, 12, 13, 14, 15, 16, 17, 18, 19, 20, 21, 22, 23, 24, 25, 26, 27, 28, 29, 30, 31, 32, 33, 34, 35, 36, 37, 38, 39, 40, 41, 42, 43, 44, 45, 46, 47, 48, 49, 50, 51, 52, 53, 54, 55, 56, 57, 58, 59, 60, 61, 62, 63, 64, 65] (by decide +kernel) (by decide +kernel)) (goodIn_sub (fun _ h => List.mem_cons_of_mem _ (List.mem_append_right _ h)) (by decide +kernel))
set_option maxRecDepth 20000 in
theorem gL_undo_X4_undo : GoodIn wsL_undo (wsV RL 24 RX4 yX4_undo wsX4_undo) := goodIn_app (goodIn_of _ (by decide +kernel)) ggL_undo_X4_undo
theorem dL_undo_0 : decode cL_undo 0 = .ok (.aload_n 0, 1) := by decide +kernel
theorem dL_undo_1 : decode cL_undo 1 = .ok (.invokevirtual 24, 3) := by decide +kernel
theorem dL_undo_4 : decode cL_undo 4 = .ok (.ireturn, 1) := by decide +kernel
theorem dL_undo_5 : decode cL_undo 5 = .ok (.astore_n 1, 1) := by decide +kernel
theorem dL_undo_6 : decode cL_undo 6 = .ok (.bipush (-3), 2) := by decide +kernel
theorem dL_undo_8 : decode cL_undo 8 = .ok (.ireturn, 1) := by decide +kernel
set_option maxRecDepth 20000 in
theorem ggL_part_X4_settlePart : GoodIn wsL_part wsX4_settlePart := goodIn_ca (goodIn_ca (goodIn_r _ [6, 7, 8, 9, 10, 11, 12, 13, 14, 15, 16, 5, 17, 18, 19, 20, 21, 22, 23, 24, 25, 26, 27, 28, 29, 30, 31, 32, 33, 34, 35, 36, 37, 38, 39, 40, 41, 42, 43, 44, 45, 46, 47, 48, 49, 50, 51, 52, 53, 54, 55, 56, 57, 58, 59, 60, 61, 62, 63, 64, 65, 66, 67, 68, 69, 70, 71, 72, 73, 74, 75, 76, 77, 78, 79, 80, 81, 82, 83, 84, 85, 86] (by decide +kernel) (by decide +kernel)) (goodIn_sub (fun _ h => List.mem_cons_of_mem _ (List.mem_append_left _ (List.mem_append_right _ h))) (by decide +kernel))) (goodIn_sub (fun _ h => List.mem_cons_of_mem _ (List.mem_append_right _ h)) (by decide +kernel))
set_option maxRecDepth 20000 in
theorem gL_part_X4_settlePart : GoodIn wsL_part (wsV RL 28 RX4 yX4_settlePart wsX4_settlePart) := goodIn_app (goodIn_of _ (by decide +kernel)) ggL_part_X4_settlePart
theorem dL_part_0 : decode cL_part 0 = .ok (.aload_n 0, 1) := by decide +kernel
theorem dL_part_1 : decode cL_part 1 = .ok (.iload_n 1, 1) := by decide +kernel
theorem dL_part_2 : decode cL_part 2 = .ok (.iload_n 2, 1) := by decide +kernel
theorem dL_part_3 : decode cL_part 3 = .ok (.invokevirtual 28, 3) := by decide +kernel
theorem dL_part_6 : decode cL_part 6 = .ok (.ifCond .ge 7, 3) := by decide +kernel
theorem dL_part_9 : decode cL_part 9 = .ok (.iconst 1, 1) := by decide +kernel
theorem dL_part_10 : decode cL_part 10 = .ok (.goto 4, 3) := by decide +kernel
theorem dL_part_13 : decode cL_part 13 = .ok (.iconst 2, 1) := by decide +kernel
theorem dL_part_14 : decode cL_part 14 = .ok (.ireturn, 1) := by decide +kernel
theorem dL_part_15 : decode cL_part 15 = .ok (.astore_n 3, 1) := by decide +kernel
theorem dL_part_16 : decode cL_part 16 = .ok (.bipush (-2), 2) := by decide +kernel
theorem dL_part_18 : decode cL_part 18 = .ok (.ireturn, 1) := by decide +kernel
set_option maxRecDepth 20000 in
theorem ggL_counters_X4_counter : GoodIn wsL_counters wsX4_counter := goodIn_ca (goodIn_ca (goodIn_r _ [5, 6, 7, 8, 9, 10, 11, 12, 13, 4, 14, 15, 16, 17, 18, 19, 20, 21, 22, 23, 24, 25, 26, 27, 28, 29, 30, 31, 32, 33, 34, 35, 36, 37, 38, 39, 40, 41, 42, 43, 44, 45, 46, 47, 48, 49, 50, 51, 52, 53, 54, 55, 56, 57, 58, 59, 60, 61, 62, 63, 64, 65, 66, 67, 68, 69, 70, 71, 72, 73, 74, 75, 76, 77, 78, 79, 80, 81, 82, 83, 84, 85, 86, 87, 88, 89, 90, 91, 92, 93, 94, 95, 96, 97, 98, 142, 143, 144, 145, 146, 147, 148, 149, 150, 151, 152, 153, 154, 155, 156, 157, 158, 159, 160, 161, 162, 163] (by decide +kernel) (by decide +kernel)) (goodIn_sub (fun _ h => List.mem_cons_of_mem _ (List.mem_append_left _ (List.mem_append_right _ h))) (by decide +kernel))) (goodIn_sub (fun _ h => List.mem_cons_of_mem _ (List.mem_append_right _ h)) (by decide +kernel))
set_option maxRecDepth 20000 in
theorem gL_counters_X4_counter : GoodIn wsL_counters (wsV RL 34 RX4 yX4_counter wsX4_counter) := goodIn_app (goodIn_of _ (by decide +kernel)) ggL_counters_X4_counter
set_option maxRecDepth 20000 in
theorem ggL_counters_X4_count : GoodIn wsL_counters wsX4_count := goodIn_ca (goodIn_r _ [102, 6, 10, 103, 104, 105, 106, 107, 7, 108, 109, 17, 18, 4, 19, 20, 21, 110, 111, 112, 25, 113, 33, 45, 114, 115, 116, 117, 118, 119, 120, 34, 142, 143, 144, 145, 146, 147, 148, 149, 150, 151, 152, 153, 154, 155, 156, 157, 158, 159, 160, 161, 162, 164, 165] (by decide +kernel) (by decide +kernel)) (goodIn_sub (fun _ h => List.mem_cons_of_mem _ (List.mem_append_right _ h)) (by decide +kernel))
set_option maxRecDepth 20000 in
theorem gL_counters_X4_count : GoodIn wsL_counters (wsV RL 37 RX4 yX4_count wsX4_count) := goodIn_app (goodIn_of _ (by decide +kernel)) ggL_counters_X4_count
set_option maxRecDepth 20000 in
theorem ggL_counters_X4_promiseOf : GoodIn wsL_counters wsX4_promiseOf := goodIn_ca (goodIn_ca (goodIn_r _ [124, 6, 103, 125, 126, 127, 128, 129, 10, 12, 13, 4, 14, 15, 16, 17, 18, 19, 20, 21, 142, 143, 144, 145, 146, 147, 148, 149, 150, 151, 152, 153, 154, 155, 156, 157, 158, 159, 160, 161, 162] (by decide +kernel) (by decide +kernel)) (goodIn_sub (fun _ h => List.mem_cons_of_mem _ (List.mem_append_left _ (List.mem_append_right _ h))) (by decide +kernel))) (goodIn_sub (fun _ h => List.mem_cons_of_mem _ (List.mem_append_right _ h)) (by decide +kernel))
set_option maxRecDepth 20000 in
theorem gL_counters_X4_promiseOf : GoodIn wsL_counters (wsV RL 41 RX4 yX4_promiseOf wsX4_promiseOf) := goodIn_app (goodIn_of _ (by decide +kernel)) ggL_counters_X4_promiseOf
set_option maxRecDepth 20000 in
theorem ggL_counters_X4_canBe : GoodIn wsL_counters wsX4_canBe := goodIn_ca (goodIn_r _ [133, 11, 6, 12, 13, 4, 14, 15, 16, 134, 135, 136, 75, 137, 77, 84, 23, 24, 25, 26, 27, 28, 29, 30, 31, 32, 33, 34, 35, 36, 37, 38, 39, 40, 41, 42, 43, 44, 45, 85, 47, 48, 49, 50, 51, 52, 78, 79, 80, 81, 82, 83, 86, 87, 88, 89, 90, 91, 92, 93, 94, 95, 96, 97, 98, 142, 143, 144, 145, 146, 147, 163, 148, 149, 150, 151, 152, 153, 154, 155, 156, 157, 158, 159, 160, 161, 162] (by decide +kernel) (by decide +kernel)) (goodIn_sub (fun _ h => List.mem_cons_of_mem _ (List.mem_append_left _ (List.mem_append_right _ h))) (by decide +kernel))
set_option maxRecDepth 20000 in
theorem gL_counters_X4_canBe : GoodIn wsL_counters (wsV RL 44 RX4 yX4_canBe wsX4_canBe) := goodIn_app (goodIn_of _ (by decide +kernel)) ggL_counters_X4_canBe
set_option maxRecDepth 20000 in
theorem ggL_counters_X4_heldShare : GoodIn wsL_counters wsX4_heldShare := goodIn_r _ [141, 6, 9, 8, 46, 47, 48, 25, 49, 32, 33, 50, 51, 37, 52, 39, 40, 41, 42, 43, 44, 45, 22, 23, 24, 26, 27, 28, 29, 30, 31, 34, 35, 36, 38, 142, 143, 144, 145, 146, 147, 148, 149, 150, 151, 152, 153, 154, 155, 156, 157, 158, 159, 160, 161, 162] (by decide +kernel) (by decide +kernel)
set_option maxRecDepth 20000 in
theorem gL_counters_X4_heldShare : GoodIn wsL_counters (wsV RL 47 RX4 yX4_heldShare wsX4_heldShare) := goodIn_app (goodIn_of _ (by decide +kernel)) ggL_counters_X4_heldShare
theorem dL_counters_0 : decode cL_counters 0 = .ok (.iconst 1, 1) := by decide +kernel
theorem dL_counters_1 : decode cL_counters 1 = .ok (.istore_n 1, 1) := by decide +kernel
theorem dL_counters_2 : decode cL_counters 2 = .ok (.iconst 0, 1) := by decide +kernel
theorem dL_counters_3 : decode cL_counters 3 = .ok (.istore_n 2, 1) := by decide +kernel
theorem dL_counters_4 : decode cL_counters 4 = .ok (.iload_n 2, 1) := by decide +kernel
theorem dL_counters_5 : decode cL_counters 5 = .ok (.iconst 4, 1) := by decide +kernel
theorem dL_counters_6 : decode cL_counters 6 = .ok (.if_icmp .ge 369, 3) := by decide +kernel
theorem dL_counters_9 : decode cL_counters 9 = .ok (.iload_n 1, 1) := by decide +kernel
theorem dL_counters_10 : decode cL_counters 10 = .ok (.ifCond .eq 365, 3) := by decide +kernel
theorem dL_counters_13 : decode cL_counters 13 = .ok (.aload_n 0, 1) := by decide +kernel
theorem dL_counters_14 : decode cL_counters 14 = .ok (.iload_n 2, 1) := by decide +kernel
theorem dL_counters_15 : decode cL_counters 15 = .ok (.iconst 0, 1) := by decide +kernel
theorem dL_counters_16 : decode cL_counters 16 = .ok (.invokevirtual 34, 3) := by decide +kernel
theorem dL_counters_19 : decode cL_counters 19 = .ok (.istore_n 3, 1) := by decide +kernel
theorem dL_counters_20 : decode cL_counters 20 = .ok (.iload_n 3, 1) := by decide +kernel
theorem dL_counters_21 : decode cL_counters 21 = .ok (.istore 4, 2) := by decide +kernel
theorem dL_counters_23 : decode cL_counters 23 = .ok (.iconst 0, 1) := by decide +kernel
theorem dL_counters_24 : decode cL_counters 24 = .ok (.istore 5, 2) := by decide +kernel
theorem dL_counters_26 : decode cL_counters 26 = .ok (.iconst 0, 1) := by decide +kernel
theorem dL_counters_27 : decode cL_counters 27 = .ok (.istore 6, 2) := by decide +kernel
theorem dL_counters_29 : decode cL_counters 29 = .ok (.iload 6, 2) := by decide +kernel
theorem dL_counters_31 : decode cL_counters 31 = .ok (.aload_n 0, 1) := by decide +kernel
theorem dL_counters_32 : decode cL_counters 32 = .ok (.iconst 1, 1) := by decide +kernel
theorem dL_counters_33 : decode cL_counters 33 = .ok (.invokevirtual 37, 3) := by decide +kernel
theorem dL_counters_36 : decode cL_counters 36 = .ok (.if_icmp .ge 100, 3) := by decide +kernel
theorem dL_counters_39 : decode cL_counters 39 = .ok (.aload_n 0, 1) := by decide +kernel
theorem dL_counters_40 : decode cL_counters 40 = .ok (.iload 6, 2) := by decide +kernel
theorem dL_counters_42 : decode cL_counters 42 = .ok (.iconst 1, 1) := by decide +kernel
theorem dL_counters_43 : decode cL_counters 43 = .ok (.invokevirtual 41, 3) := by decide +kernel
theorem dL_counters_46 : decode cL_counters 46 = .ok (.iload_n 2, 1) := by decide +kernel
theorem dL_counters_47 : decode cL_counters 47 = .ok (.if_icmp .ne 13, 3) := by decide +kernel
theorem dL_counters_50 : decode cL_counters 50 = .ok (.aload_n 0, 1) := by decide +kernel
theorem dL_counters_51 : decode cL_counters 51 = .ok (.iload 6, 2) := by decide +kernel
theorem dL_counters_53 : decode cL_counters 53 = .ok (.iconst 2, 1) := by decide +kernel
