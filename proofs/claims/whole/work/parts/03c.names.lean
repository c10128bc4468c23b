theorem dX3_promisesOf_17 : decode cX3_promisesOf 17 = .ok (.iaload, 1) := by decide +kernel
theorem dX3_promisesOf_18 : decode cX3_promisesOf 18 = .ok (.iload_n 1, 1) := by decide +kernel
theorem dX3_promisesOf_19 : decode cX3_promisesOf 19 = .ok (.if_icmp .ne 6, 3) := by decide +kernel
theorem dX3_promisesOf_22 : decode cX3_promisesOf 22 = .ok (.iinc 2 1, 3) := by decide +kernel
theorem dX3_promisesOf_25 : decode cX3_promisesOf 25 = .ok (.iinc 3 1, 3) := by decide +kernel
theorem dX3_promisesOf_28 : decode cX3_promisesOf 28 = .ok (.goto (-24), 3) := by decide +kernel
theorem dX3_promisesOf_31 : decode cX3_promisesOf 31 = .ok (.iload_n 2, 1) := by decide +kernel
theorem dX3_promisesOf_32 : decode cX3_promisesOf 32 = .ok (.ireturn, 1) := by decide +kernel
theorem dX3_sizesOf_0 : decode cX3_sizesOf 0 = .ok (.iconst 0, 1) := by decide +kernel
theorem dX3_sizesOf_1 : decode cX3_sizesOf 1 = .ok (.istore_n 2, 1) := by decide +kernel
theorem dX3_sizesOf_2 : decode cX3_sizesOf 2 = .ok (.iconst 0, 1) := by decide +kernel
theorem dX3_sizesOf_3 : decode cX3_sizesOf 3 = .ok (.istore_n 3, 1) := by decide +kernel
theorem dX3_sizesOf_4 : decode cX3_sizesOf 4 = .ok (.iload_n 3, 1) := by decide +kernel
theorem dX3_sizesOf_5 : decode cX3_sizesOf 5 = .ok (.aload_n 0, 1) := by decide +kernel
theorem dX3_sizesOf_6 : decode cX3_sizesOf 6 = .ok (.getfield 15, 3) := by decide +kernel
theorem dX3_sizesOf_9 : decode cX3_sizesOf 9 = .ok (.if_icmp .ge 31, 3) := by decide +kernel
theorem dX3_sizesOf_12 : decode cX3_sizesOf 12 = .ok (.aload_n 0, 1) := by decide +kernel
theorem dX3_sizesOf_13 : decode cX3_sizesOf 13 = .ok (.getfield 34, 3) := by decide +kernel
theorem dX3_sizesOf_16 : decode cX3_sizesOf 16 = .ok (.iload_n 3, 1) := by decide +kernel
theorem dX3_sizesOf_17 : decode cX3_sizesOf 17 = .ok (.iaload, 1) := by decide +kernel
theorem dX3_sizesOf_18 : decode cX3_sizesOf 18 = .ok (.iload_n 1, 1) := by decide +kernel
theorem dX3_sizesOf_19 : decode cX3_sizesOf 19 = .ok (.if_icmp .ne 15, 3) := by decide +kernel
theorem dX3_sizesOf_22 : decode cX3_sizesOf 22 = .ok (.iload_n 2, 1) := by decide +kernel
theorem dX3_sizesOf_23 : decode cX3_sizesOf 23 = .ok (.aload_n 0, 1) := by decide +kernel
theorem dX3_sizesOf_24 : decode cX3_sizesOf 24 = .ok (.getfield 40, 3) := by decide +kernel
theorem dX3_sizesOf_27 : decode cX3_sizesOf 27 = .ok (.iload_n 3, 1) := by decide +kernel
theorem dX3_sizesOf_28 : decode cX3_sizesOf 28 = .ok (.iaload, 1) := by decide +kernel
theorem dX3_sizesOf_29 : decode cX3_sizesOf 29 = .ok (.invokestatic 83, 3) := by decide +kernel
theorem dX3_sizesOf_32 : decode cX3_sizesOf 32 = .ok (.iadd, 1) := by decide +kernel
theorem dX3_sizesOf_33 : decode cX3_sizesOf 33 = .ok (.istore_n 2, 1) := by decide +kernel
theorem dX3_sizesOf_34 : decode cX3_sizesOf 34 = .ok (.iinc 3 1, 3) := by decide +kernel
theorem dX3_sizesOf_37 : decode cX3_sizesOf 37 = .ok (.goto (-33), 3) := by decide +kernel
theorem dX3_sizesOf_40 : decode cX3_sizesOf 40 = .ok (.iload_n 2, 1) := by decide +kernel
theorem dX3_sizesOf_41 : decode cX3_sizesOf 41 = .ok (.ireturn, 1) := by decide +kernel
theorem dX3_transfers_0 : decode cX3_transfers 0 = .ok (.iconst 0, 1) := by decide +kernel
theorem dX3_transfers_1 : decode cX3_transfers 1 = .ok (.istore_n 1, 1) := by decide +kernel
theorem dX3_transfers_2 : decode cX3_transfers 2 = .ok (.iconst 0, 1) := by decide +kernel
theorem dX3_transfers_3 : decode cX3_transfers 3 = .ok (.istore_n 2, 1) := by decide +kernel
theorem dX3_transfers_4 : decode cX3_transfers 4 = .ok (.iload_n 2, 1) := by decide +kernel
theorem dX3_transfers_5 : decode cX3_transfers 5 = .ok (.aload_n 0, 1) := by decide +kernel
theorem dX3_transfers_6 : decode cX3_transfers 6 = .ok (.getfield 15, 3) := by decide +kernel
theorem dX3_transfers_9 : decode cX3_transfers 9 = .ok (.if_icmp .ge 22, 3) := by decide +kernel
theorem dX3_transfers_12 : decode cX3_transfers 12 = .ok (.aload_n 0, 1) := by decide +kernel
theorem dX3_transfers_13 : decode cX3_transfers 13 = .ok (.getfield 43, 3) := by decide +kernel
theorem dX3_transfers_16 : decode cX3_transfers 16 = .ok (.iload_n 2, 1) := by decide +kernel
theorem dX3_transfers_17 : decode cX3_transfers 17 = .ok (.iaload, 1) := by decide +kernel
theorem dX3_transfers_18 : decode cX3_transfers 18 = .ok (.iconst (-1), 1) := by decide +kernel
theorem dX3_transfers_19 : decode cX3_transfers 19 = .ok (.if_icmp .eq 6, 3) := by decide +kernel
theorem dX3_transfers_22 : decode cX3_transfers 22 = .ok (.iinc 1 1, 3) := by decide +kernel
theorem dX3_transfers_25 : decode cX3_transfers 25 = .ok (.iinc 2 1, 3) := by decide +kernel
theorem dX3_transfers_28 : decode cX3_transfers 28 = .ok (.goto (-24), 3) := by decide +kernel
theorem dX3_transfers_31 : decode cX3_transfers 31 = .ok (.iload_n 1, 1) := by decide +kernel
theorem dX3_transfers_32 : decode cX3_transfers 32 = .ok (.ireturn, 1) := by decide +kernel
theorem dX3_lapsingBy_0 : decode cX3_lapsingBy 0 = .ok (.iconst 0, 1) := by decide +kernel
theorem dX3_lapsingBy_1 : decode cX3_lapsingBy 1 = .ok (.istore_n 2, 1) := by decide +kernel
theorem dX3_lapsingBy_2 : decode cX3_lapsingBy 2 = .ok (.iconst 0, 1) := by decide +kernel
theorem dX3_lapsingBy_3 : decode cX3_lapsingBy 3 = .ok (.istore_n 3, 1) := by decide +kernel
theorem dX3_lapsingBy_4 : decode cX3_lapsingBy 4 = .ok (.iload_n 3, 1) := by decide +kernel
theorem dX3_lapsingBy_5 : decode cX3_lapsingBy 5 = .ok (.aload_n 0, 1) := by decide +kernel
theorem dX3_lapsingBy_6 : decode cX3_lapsingBy 6 = .ok (.getfield 15, 3) := by decide +kernel
theorem dX3_lapsingBy_9 : decode cX3_lapsingBy 9 = .ok (.if_icmp .ge 22, 3) := by decide +kernel
theorem dX3_lapsingBy_12 : decode cX3_lapsingBy 12 = .ok (.aload_n 0, 1) := by decide +kernel
theorem dX3_lapsingBy_13 : decode cX3_lapsingBy 13 = .ok (.getfield 46, 3) := by decide +kernel
theorem dX3_lapsingBy_16 : decode cX3_lapsingBy 16 = .ok (.iload_n 3, 1) := by decide +kernel
theorem dX3_lapsingBy_17 : decode cX3_lapsingBy 17 = .ok (.iaload, 1) := by decide +kernel
theorem dX3_lapsingBy_18 : decode cX3_lapsingBy 18 = .ok (.iload_n 1, 1) := by decide +kernel
theorem dX3_lapsingBy_19 : decode cX3_lapsingBy 19 = .ok (.if_icmp .gt 6, 3) := by decide +kernel
theorem dX3_lapsingBy_22 : decode cX3_lapsingBy 22 = .ok (.iinc 2 1, 3) := by decide +kernel
theorem dX3_lapsingBy_25 : decode cX3_lapsingBy 25 = .ok (.iinc 3 1, 3) := by decide +kernel
theorem dX3_lapsingBy_28 : decode cX3_lapsingBy 28 = .ok (.goto (-24), 3) := by decide +kernel
theorem dX3_lapsingBy_31 : decode cX3_lapsingBy 31 = .ok (.iload_n 2, 1) := by decide +kernel
theorem dX3_lapsingBy_32 : decode cX3_lapsingBy 32 = .ok (.ireturn, 1) := by decide +kernel
theorem dX3_firstLapse_0 : decode cX3_firstLapse 0 = .ok (.iconst (-1), 1) := by decide +kernel
theorem dX3_firstLapse_1 : decode cX3_firstLapse 1 = .ok (.istore_n 1, 1) := by decide +kernel
theorem dX3_firstLapse_2 : decode cX3_firstLapse 2 = .ok (.iconst 0, 1) := by decide +kernel
theorem dX3_firstLapse_3 : decode cX3_firstLapse 3 = .ok (.istore_n 2, 1) := by decide +kernel
theorem dX3_firstLapse_4 : decode cX3_firstLapse 4 = .ok (.iload_n 2, 1) := by decide +kernel
theorem dX3_firstLapse_5 : decode cX3_firstLapse 5 = .ok (.aload_n 0, 1) := by decide +kernel
theorem dX3_firstLapse_6 : decode cX3_firstLapse 6 = .ok (.getfield 15, 3) := by decide +kernel
theorem dX3_firstLapse_9 : decode cX3_firstLapse 9 = .ok (.if_icmp .ge 31, 3) := by decide +kernel
theorem dX3_firstLapse_12 : decode cX3_firstLapse 12 = .ok (.iload_n 1, 1) := by decide +kernel
theorem dX3_firstLapse_13 : decode cX3_firstLapse 13 = .ok (.iconst (-1), 1) := by decide +kernel
theorem dX3_firstLapse_14 : decode cX3_firstLapse 14 = .ok (.if_icmp .eq 13, 3) := by decide +kernel
theorem dX3_firstLapse_17 : decode cX3_firstLapse 17 = .ok (.aload_n 0, 1) := by decide +kernel
theorem dX3_firstLapse_18 : decode cX3_firstLapse 18 = .ok (.getfield 46, 3) := by decide +kernel
theorem dX3_firstLapse_21 : decode cX3_firstLapse 21 = .ok (.iload_n 2, 1) := by decide +kernel
theorem dX3_firstLapse_22 : decode cX3_firstLapse 22 = .ok (.iaload, 1) := by decide +kernel
theorem dX3_firstLapse_23 : decode cX3_firstLapse 23 = .ok (.iload_n 1, 1) := by decide +kernel
theorem dX3_firstLapse_24 : decode cX3_firstLapse 24 = .ok (.if_icmp .ge 10, 3) := by decide +kernel
theorem dX3_firstLapse_27 : decode cX3_firstLapse 27 = .ok (.aload_n 0, 1) := by decide +kernel
theorem dX3_firstLapse_28 : decode cX3_firstLapse 28 = .ok (.getfield 46, 3) := by decide +kernel
theorem dX3_firstLapse_31 : decode cX3_firstLapse 31 = .ok (.iload_n 2, 1) := by decide +kernel
theorem dX3_firstLapse_32 : decode cX3_firstLapse 32 = .ok (.iaload, 1) := by decide +kernel
theorem dX3_firstLapse_33 : decode cX3_firstLapse 33 = .ok (.istore_n 1, 1) := by decide +kernel
theorem dX3_firstLapse_34 : decode cX3_firstLapse 34 = .ok (.iinc 2 1, 3) := by decide +kernel
theorem dX3_firstLapse_37 : decode cX3_firstLapse 37 = .ok (.goto (-33), 3) := by decide +kernel
theorem dX3_firstLapse_40 : decode cX3_firstLapse 40 = .ok (.iload_n 1, 1) := by decide +kernel
theorem dX3_firstLapse_41 : decode cX3_firstLapse 41 = .ok (.ireturn, 1) := by decide +kernel
set_option maxRecDepth 20000 in
theorem ggX3_reasonAgainst_X3_reasonOfNumber : GoodIn wsX3_reasonAgainst wsX3_reasonOfNumber := goodIn_r _ [6, 7, 8, 9, 10, 11, 5, 12, 13, 48, 49, 50, 51, 52, 53, 54, 55, 56, 57, 58, 59, 60, 61, 62] (by decide +kernel) (by decide +kernel)
set_option maxRecDepth 20000 in
theorem gX3_reasonAgainst_X3_reasonOfNumber : GoodIn wsX3_reasonAgainst (wsV RX3 86 RX3 yX3_reasonOfNumber wsX3_reasonOfNumber) := goodIn_app (goodIn_of _ (by decide +kernel)) ggX3_reasonAgainst_X3_reasonOfNumber
set_option maxRecDepth 20000 in
theorem ggX3_reasonAgainst_X3_roomBelow : GoodIn wsX3_reasonAgainst wsX3_roomBelow := goodIn_r _ [17, 18, 19, 20, 21, 5, 22, 23, 7, 24, 25, 26, 27, 28, 29, 30, 31, 32, 33, 34, 35, 48, 49, 50, 51, 52, 53, 54, 55, 56, 57, 58, 59, 60, 61, 62] (by decide +kernel) (by decide +kernel)
set_option maxRecDepth 20000 in
theorem gX3_reasonAgainst_X3_roomBelow : GoodIn wsX3_reasonAgainst (wsV RX3 89 RX3 yX3_roomBelow wsX3_roomBelow) := goodIn_app (goodIn_of _ (by decide +kernel)) ggX3_reasonAgainst_X3_roomBelow
set_option maxRecDepth 20000 in
theorem ggX3_reasonAgainst_X3_roomAbove : GoodIn wsX3_reasonAgainst wsX3_roomAbove := goodIn_r _ [39, 40, 41, 42, 43, 5, 44, 23, 7, 45, 46, 27, 47, 29, 30, 31, 32, 33, 34, 35, 48, 49, 50, 51, 52, 53, 54, 55, 56, 57, 58, 59, 60, 61, 62] (by decide +kernel) (by decide +kernel)
set_option maxRecDepth 20000 in
theorem gX3_reasonAgainst_X3_roomAbove : GoodIn wsX3_reasonAgainst (wsV RX3 92 RX3 yX3_roomAbove wsX3_roomAbove) := goodIn_app (goodIn_of _ (by decide +kernel)) ggX3_reasonAgainst_X3_roomAbove
theorem dX3_reasonAgainst_0 : decode cX3_reasonAgainst 0 = .ok (.aload_n 0, 1) := by decide +kernel
theorem dX3_reasonAgainst_1 : decode cX3_reasonAgainst 1 = .ok (.iload_n 1, 1) := by decide +kernel
theorem dX3_reasonAgainst_2 : decode cX3_reasonAgainst 2 = .ok (.invokevirtual 86, 3) := by decide +kernel
theorem dX3_reasonAgainst_5 : decode cX3_reasonAgainst 5 = .ok (.istore 5, 2) := by decide +kernel
theorem dX3_reasonAgainst_7 : decode cX3_reasonAgainst 7 = .ok (.iload 5, 2) := by decide +kernel
theorem dX3_reasonAgainst_9 : decode cX3_reasonAgainst 9 = .ok (.ifCond .eq 6, 3) := by decide +kernel
theorem dX3_reasonAgainst_12 : decode cX3_reasonAgainst 12 = .ok (.iload 5, 2) := by decide +kernel
theorem dX3_reasonAgainst_14 : decode cX3_reasonAgainst 14 = .ok (.ireturn, 1) := by decide +kernel
theorem dX3_reasonAgainst_15 : decode cX3_reasonAgainst 15 = .ok (.iload_n 3, 1) := by decide +kernel
theorem dX3_reasonAgainst_16 : decode cX3_reasonAgainst 16 = .ok (.ifCond .ge 19, 3) := by decide +kernel
theorem dX3_reasonAgainst_19 : decode cX3_reasonAgainst 19 = .ok (.iload_n 3, 1) := by decide +kernel
theorem dX3_reasonAgainst_20 : decode cX3_reasonAgainst 20 = .ok (.ineg, 1) := by decide +kernel
theorem dX3_reasonAgainst_21 : decode cX3_reasonAgainst 21 = .ok (.aload_n 0, 1) := by decide +kernel
theorem dX3_reasonAgainst_22 : decode cX3_reasonAgainst 22 = .ok (.iload_n 2, 1) := by decide +kernel
theorem dX3_reasonAgainst_23 : decode cX3_reasonAgainst 23 = .ok (.aload_n 0, 1) := by decide +kernel
theorem dX3_reasonAgainst_24 : decode cX3_reasonAgainst 24 = .ok (.getfield 9, 3) := by decide +kernel
theorem dX3_reasonAgainst_27 : decode cX3_reasonAgainst 27 = .ok (.invokevirtual 89, 3) := by decide +kernel
theorem dX3_reasonAgainst_30 : decode cX3_reasonAgainst 30 = .ok (.if_icmp .le 5, 3) := by decide +kernel
theorem dX3_reasonAgainst_33 : decode cX3_reasonAgainst 33 = .ok (.iconst 3, 1) := by decide +kernel
theorem dX3_reasonAgainst_34 : decode cX3_reasonAgainst 34 = .ok (.ireturn, 1) := by decide +kernel
theorem dX3_reasonAgainst_35 : decode cX3_reasonAgainst 35 = .ok (.iload_n 3, 1) := by decide +kernel
theorem dX3_reasonAgainst_36 : decode cX3_reasonAgainst 36 = .ok (.ifCond .le 14, 3) := by decide +kernel
theorem dX3_reasonAgainst_39 : decode cX3_reasonAgainst 39 = .ok (.iload_n 3, 1) := by decide +kernel
theorem dX3_reasonAgainst_40 : decode cX3_reasonAgainst 40 = .ok (.aload_n 0, 1) := by decide +kernel
theorem dX3_reasonAgainst_41 : decode cX3_reasonAgainst 41 = .ok (.iload_n 2, 1) := by decide +kernel
theorem dX3_reasonAgainst_42 : decode cX3_reasonAgainst 42 = .ok (.invokevirtual 92, 3) := by decide +kernel
theorem dX3_reasonAgainst_45 : decode cX3_reasonAgainst 45 = .ok (.if_icmp .le 5, 3) := by decide +kernel
theorem dX3_reasonAgainst_48 : decode cX3_reasonAgainst 48 = .ok (.iconst 4, 1) := by decide +kernel
theorem dX3_reasonAgainst_49 : decode cX3_reasonAgainst 49 = .ok (.ireturn, 1) := by decide +kernel
theorem dX3_reasonAgainst_50 : decode cX3_reasonAgainst 50 = .ok (.iload 4, 2) := by decide +kernel
theorem dX3_reasonAgainst_52 : decode cX3_reasonAgainst 52 = .ok (.iconst (-1), 1) := by decide +kernel
theorem dX3_reasonAgainst_53 : decode cX3_reasonAgainst 53 = .ok (.if_icmp .eq 18, 3) := by decide +kernel
theorem dX3_reasonAgainst_56 : decode cX3_reasonAgainst 56 = .ok (.iload_n 3, 1) := by decide +kernel
theorem dX3_reasonAgainst_57 : decode cX3_reasonAgainst 57 = .ok (.ineg, 1) := by decide +kernel
theorem dX3_reasonAgainst_58 : decode cX3_reasonAgainst 58 = .ok (.aload_n 0, 1) := by decide +kernel
theorem dX3_reasonAgainst_59 : decode cX3_reasonAgainst 59 = .ok (.iload 4, 2) := by decide +kernel
theorem dX3_reasonAgainst_61 : decode cX3_reasonAgainst 61 = .ok (.invokevirtual 92, 3) := by decide +kernel
theorem dX3_reasonAgainst_64 : decode cX3_reasonAgainst 64 = .ok (.if_icmp .le 7, 3) := by decide +kernel
theorem dX3_reasonAgainst_67 : decode cX3_reasonAgainst 67 = .ok (.iconst 4, 1) := by decide +kernel
theorem dX3_reasonAgainst_68 : decode cX3_reasonAgainst 68 = .ok (.goto 4, 3) := by decide +kernel
theorem dX3_reasonAgainst_71 : decode cX3_reasonAgainst 71 = .ok (.iconst 0, 1) := by decide +kernel
theorem dX3_reasonAgainst_72 : decode cX3_reasonAgainst 72 = .ok (.ireturn, 1) := by decide +kernel
set_option maxRecDepth 20000 in
theorem ggX3_reasonOfNumber_X3_promisesOf : GoodIn wsX3_reasonOfNumber wsX3_promisesOf := goodIn_r _ [7, 1, 8, 9, 10, 11, 12, 13, 14, 15, 16, 17, 18, 19, 20, 21, 22, 23] (by decide +kernel) (by decide +kernel)
set_option maxRecDepth 20000 in
theorem gX3_reasonOfNumber_X3_promisesOf : GoodIn wsX3_reasonOfNumber (wsV RX3 95 RX3 yX3_promisesOf wsX3_promisesOf) := goodIn_app (goodIn_of _ (by decide +kernel)) ggX3_reasonOfNumber_X3_promisesOf
theorem dX3_reasonOfNumber_0 : decode cX3_reasonOfNumber 0 = .ok (.aload_n 0, 1) := by decide +kernel
theorem dX3_reasonOfNumber_1 : decode cX3_reasonOfNumber 1 = .ok (.getfield 15, 3) := by decide +kernel
theorem dX3_reasonOfNumber_4 : decode cX3_reasonOfNumber 4 = .ok (.bipush 16, 2) := by decide +kernel
theorem dX3_reasonOfNumber_6 : decode cX3_reasonOfNumber 6 = .ok (.if_icmp .lt 5, 3) := by decide +kernel
theorem dX3_reasonOfNumber_9 : decode cX3_reasonOfNumber 9 = .ok (.iconst 1, 1) := by decide +kernel
theorem dX3_reasonOfNumber_10 : decode cX3_reasonOfNumber 10 = .ok (.ireturn, 1) := by decide +kernel
theorem dX3_reasonOfNumber_11 : decode cX3_reasonOfNumber 11 = .ok (.aload_n 0, 1) := by decide +kernel
theorem dX3_reasonOfNumber_12 : decode cX3_reasonOfNumber 12 = .ok (.iload_n 1, 1) := by decide +kernel
theorem dX3_reasonOfNumber_13 : decode cX3_reasonOfNumber 13 = .ok (.invokevirtual 95, 3) := by decide +kernel
theorem dX3_reasonOfNumber_16 : decode cX3_reasonOfNumber 16 = .ok (.aload_n 0, 1) := by decide +kernel
theorem dX3_reasonOfNumber_17 : decode cX3_reasonOfNumber 17 = .ok (.getfield 21, 3) := by decide +kernel
theorem dX3_reasonOfNumber_20 : decode cX3_reasonOfNumber 20 = .ok (.iconst 0, 1) := by decide +kernel
theorem dX3_reasonOfNumber_21 : decode cX3_reasonOfNumber 21 = .ok (.iaload, 1) := by decide +kernel
theorem dX3_reasonOfNumber_22 : decode cX3_reasonOfNumber 22 = .ok (.if_icmp .lt 7, 3) := by decide +kernel
theorem dX3_reasonOfNumber_25 : decode cX3_reasonOfNumber 25 = .ok (.iconst 2, 1) := by decide +kernel
theorem dX3_reasonOfNumber_26 : decode cX3_reasonOfNumber 26 = .ok (.goto 4, 3) := by decide +kernel
theorem dX3_reasonOfNumber_29 : decode cX3_reasonOfNumber 29 = .ok (.iconst 0, 1) := by decide +kernel
theorem dX3_reasonOfNumber_30 : decode cX3_reasonOfNumber 30 = .ok (.ireturn, 1) := by decide +kernel
theorem dX3_addPromise_0 : decode cX3_addPromise 0 = .ok (.aload_n 0, 1) := by decide +kernel
theorem dX3_addPromise_1 : decode cX3_addPromise 1 = .ok (.getfield 15, 3) := by decide +kernel
theorem dX3_addPromise_4 : decode cX3_addPromise 4 = .ok (.istore 5, 2) := by decide +kernel
theorem dX3_addPromise_6 : decode cX3_addPromise 6 = .ok (.aload_n 0, 1) := by decide +kernel
theorem dX3_addPromise_7 : decode cX3_addPromise 7 = .ok (.getfield 34, 3) := by decide +kernel
theorem dX3_addPromise_10 : decode cX3_addPromise 10 = .ok (.iload 5, 2) := by decide +kernel
theorem dX3_addPromise_12 : decode cX3_addPromise 12 = .ok (.iload_n 1, 1) := by decide +kernel
theorem dX3_addPromise_13 : decode cX3_addPromise 13 = .ok (.iastore, 1) := by decide +kernel
theorem dX3_addPromise_14 : decode cX3_addPromise 14 = .ok (.aload_n 0, 1) := by decide +kernel
theorem dX3_addPromise_15 : decode cX3_addPromise 15 = .ok (.getfield 37, 3) := by decide +kernel
theorem dX3_addPromise_18 : decode cX3_addPromise 18 = .ok (.iload 5, 2) := by decide +kernel
theorem dX3_addPromise_20 : decode cX3_addPromise 20 = .ok (.iload_n 2, 1) := by decide +kernel
theorem dX3_addPromise_21 : decode cX3_addPromise 21 = .ok (.iastore, 1) := by decide +kernel
theorem dX3_addPromise_22 : decode cX3_addPromise 22 = .ok (.aload_n 0, 1) := by decide +kernel
theorem dX3_addPromise_23 : decode cX3_addPromise 23 = .ok (.getfield 40, 3) := by decide +kernel
theorem dX3_addPromise_26 : decode cX3_addPromise 26 = .ok (.iload 5, 2) := by decide +kernel
theorem dX3_addPromise_28 : decode cX3_addPromise 28 = .ok (.iload_n 3, 1) := by decide +kernel
theorem dX3_addPromise_29 : decode cX3_addPromise 29 = .ok (.iastore, 1) := by decide +kernel
theorem dX3_addPromise_30 : decode cX3_addPromise 30 = .ok (.aload_n 0, 1) := by decide +kernel
theorem dX3_addPromise_31 : decode cX3_addPromise 31 = .ok (.getfield 43, 3) := by decide +kernel
theorem dX3_addPromise_34 : decode cX3_addPromise 34 = .ok (.iload 5, 2) := by decide +kernel
theorem dX3_addPromise_36 : decode cX3_addPromise 36 = .ok (.iload 4, 2) := by decide +kernel
theorem dX3_addPromise_38 : decode cX3_addPromise 38 = .ok (.iastore, 1) := by decide +kernel
theorem dX3_addPromise_39 : decode cX3_addPromise 39 = .ok (.aload_n 0, 1) := by decide +kernel
theorem dX3_addPromise_40 : decode cX3_addPromise 40 = .ok (.getfield 46, 3) := by decide +kernel
theorem dX3_addPromise_43 : decode cX3_addPromise 43 = .ok (.iload 5, 2) := by decide +kernel
theorem dX3_addPromise_45 : decode cX3_addPromise 45 = .ok (.aload_n 0, 1) := by decide +kernel
theorem dX3_addPromise_46 : decode cX3_addPromise 46 = .ok (.getfield 9, 3) := by decide +kernel
theorem dX3_addPromise_49 : decode cX3_addPromise 49 = .ok (.aload_n 0, 1) := by decide +kernel
theorem dX3_addPromise_50 : decode cX3_addPromise 50 = .ok (.getfield 21, 3) := by decide +kernel
theorem dX3_addPromise_53 : decode cX3_addPromise 53 = .ok (.iconst 1, 1) := by decide +kernel
theorem dX3_addPromise_54 : decode cX3_addPromise 54 = .ok (.iaload, 1) := by decide +kernel
theorem dX3_addPromise_55 : decode cX3_addPromise 55 = .ok (.iadd, 1) := by decide +kernel
theorem dX3_addPromise_56 : decode cX3_addPromise 56 = .ok (.iastore, 1) := by decide +kernel
theorem dX3_addPromise_57 : decode cX3_addPromise 57 = .ok (.aload_n 0, 1) := by decide +kernel
theorem dX3_addPromise_58 : decode cX3_addPromise 58 = .ok (.dup, 1) := by decide +kernel
theorem dX3_addPromise_59 : decode cX3_addPromise 59 = .ok (.getfield 15, 3) := by decide +kernel
theorem dX3_addPromise_62 : decode cX3_addPromise 62 = .ok (.iconst 1, 1) := by decide +kernel
theorem dX3_addPromise_63 : decode cX3_addPromise 63 = .ok (.iadd, 1) := by decide +kernel
theorem dX3_addPromise_64 : decode cX3_addPromise 64 = .ok (.putfield 15, 3) := by decide +kernel
theorem dX3_addPromise_67 : decode cX3_addPromise 67 = .ok (.aload_n 0, 1) := by decide +kernel
theorem dX3_addPromise_68 : decode cX3_addPromise 68 = .ok (.dup, 1) := by decide +kernel
theorem dX3_addPromise_69 : decode cX3_addPromise 69 = .ok (.getfield 18, 3) := by decide +kernel
theorem dX3_addPromise_72 : decode cX3_addPromise 72 = .ok (.iconst 1, 1) := by decide +kernel
theorem dX3_addPromise_73 : decode cX3_addPromise 73 = .ok (.iadd, 1) := by decide +kernel
theorem dX3_addPromise_74 : decode cX3_addPromise 74 = .ok (.putfield 18, 3) := by decide +kernel
theorem dX3_addPromise_77 : decode cX3_addPromise 77 = .ok (.iload 5, 2) := by decide +kernel
theorem dX3_addPromise_79 : decode cX3_addPromise 79 = .ok (.ireturn, 1) := by decide +kernel
theorem dX3_addToCounters_0 : decode cX3_addToCounters 0 = .ok (.aload_n 0, 1) := by decide +kernel
theorem dX3_addToCounters_1 : decode cX3_addToCounters 1 = .ok (.getfield 25, 3) := by decide +kernel
theorem dX3_addToCounters_4 : decode cX3_addToCounters 4 = .ok (.aload_n 0, 1) := by decide +kernel
theorem dX3_addToCounters_5 : decode cX3_addToCounters 5 = .ok (.getfield 37, 3) := by decide +kernel
theorem dX3_addToCounters_8 : decode cX3_addToCounters 8 = .ok (.iload_n 1, 1) := by decide +kernel
theorem dX3_addToCounters_9 : decode cX3_addToCounters 9 = .ok (.iaload, 1) := by decide +kernel
theorem dX3_addToCounters_10 : decode cX3_addToCounters 10 = .ok (.dup2, 1) := by decide +kernel
theorem dX3_addToCounters_11 : decode cX3_addToCounters 11 = .ok (.iaload, 1) := by decide +kernel
theorem dX3_addToCounters_12 : decode cX3_addToCounters 12 = .ok (.iload_n 2, 1) := by decide +kernel
theorem dX3_addToCounters_13 : decode cX3_addToCounters 13 = .ok (.iadd, 1) := by decide +kernel
theorem dX3_addToCounters_14 : decode cX3_addToCounters 14 = .ok (.iastore, 1) := by decide +kernel
theorem dX3_addToCounters_15 : decode cX3_addToCounters 15 = .ok (.aload_n 0, 1) := by decide +kernel
theorem dX3_addToCounters_16 : decode cX3_addToCounters 16 = .ok (.getfield 43, 3) := by decide +kernel
theorem dX3_addToCounters_19 : decode cX3_addToCounters 19 = .ok (.iload_n 1, 1) := by decide +kernel
theorem dX3_addToCounters_20 : decode cX3_addToCounters 20 = .ok (.iaload, 1) := by decide +kernel
theorem dX3_addToCounters_21 : decode cX3_addToCounters 21 = .ok (.iconst (-1), 1) := by decide +kernel
theorem dX3_addToCounters_22 : decode cX3_addToCounters 22 = .ok (.if_icmp .eq 18, 3) := by decide +kernel
theorem dX3_addToCounters_25 : decode cX3_addToCounters 25 = .ok (.aload_n 0, 1) := by decide +kernel
theorem dX3_addToCounters_26 : decode cX3_addToCounters 26 = .ok (.getfield 25, 3) := by decide +kernel
theorem dX3_addToCounters_29 : decode cX3_addToCounters 29 = .ok (.aload_n 0, 1) := by decide +kernel
theorem dX3_addToCounters_30 : decode cX3_addToCounters 30 = .ok (.getfield 43, 3) := by decide +kernel
theorem dX3_addToCounters_33 : decode cX3_addToCounters 33 = .ok (.iload_n 1, 1) := by decide +kernel
theorem dX3_addToCounters_34 : decode cX3_addToCounters 34 = .ok (.iaload, 1) := by decide +kernel
theorem dX3_addToCounters_35 : decode cX3_addToCounters 35 = .ok (.dup2, 1) := by decide +kernel
theorem dX3_addToCounters_36 : decode cX3_addToCounters 36 = .ok (.iaload, 1) := by decide +kernel
theorem dX3_addToCounters_37 : decode cX3_addToCounters 37 = .ok (.iload_n 2, 1) := by decide +kernel
theorem dX3_addToCounters_38 : decode cX3_addToCounters 38 = .ok (.isub, 1) := by decide +kernel
theorem dX3_addToCounters_39 : decode cX3_addToCounters 39 = .ok (.iastore, 1) := by decide +kernel
theorem dX3_addToCounters_40 : decode cX3_addToCounters 40 = .ok (.return_, 1) := by decide +kernel
set_option maxRecDepth 20000 in
theorem ggX3_settleWhole_X3_addToCounters : GoodIn wsX3_settleWhole wsX3_addToCounters := goodIn_r _ [8, 9, 10, 11, 18, 19, 20, 21, 22, 23, 24, 25, 26, 27, 28, 29, 30, 31, 32] (by decide +kernel) (by decide +kernel)
set_option maxRecDepth 20000 in
theorem gX3_settleWhole_X3_addToCounters : GoodIn wsX3_settleWhole (wsV RX3 98 RX3 yX3_addToCounters wsX3_addToCounters) := goodIn_app (goodIn_of _ (by decide +kernel)) ggX3_settleWhole_X3_addToCounters
set_option maxRecDepth 20000 in
theorem ggX3_settleWhole_X3_removeRow : GoodIn wsX3_settleWhole wsX3_removeRow := goodIn_r _ [15, 16, 3, 10, 1, 11, 17, 18, 19, 20, 21, 22, 23, 24, 25, 26, 27, 28, 29, 30, 31, 32] (by decide +kernel) (by decide +kernel)
set_option maxRecDepth 20000 in
theorem gX3_settleWhole_X3_removeRow : GoodIn wsX3_settleWhole (wsV RX3 102 RX3 yX3_removeRow wsX3_removeRow) := goodIn_app (goodIn_of _ (by decide +kernel)) ggX3_settleWhole_X3_removeRow
theorem dX3_settleWhole_0 : decode cX3_settleWhole 0 = .ok (.aload_n 0, 1) := by decide +kernel
theorem dX3_settleWhole_1 : decode cX3_settleWhole 1 = .ok (.iload_n 1, 1) := by decide +kernel
theorem dX3_settleWhole_2 : decode cX3_settleWhole 2 = .ok (.aload_n 0, 1) := by decide +kernel
theorem dX3_settleWhole_3 : decode cX3_settleWhole 3 = .ok (.getfield 40, 3) := by decide +kernel
theorem dX3_settleWhole_6 : decode cX3_settleWhole 6 = .ok (.iload_n 1, 1) := by decide +kernel
theorem dX3_settleWhole_7 : decode cX3_settleWhole 7 = .ok (.iaload, 1) := by decide +kernel
theorem dX3_settleWhole_8 : decode cX3_settleWhole 8 = .ok (.invokevirtual 98, 3) := by decide +kernel
theorem dX3_settleWhole_11 : decode cX3_settleWhole 11 = .ok (.aload_n 0, 1) := by decide +kernel
theorem dX3_settleWhole_12 : decode cX3_settleWhole 12 = .ok (.getfield 49, 3) := by decide +kernel
theorem dX3_settleWhole_15 : decode cX3_settleWhole 15 = .ok (.aload_n 0, 1) := by decide +kernel
theorem dX3_settleWhole_16 : decode cX3_settleWhole 16 = .ok (.getfield 34, 3) := by decide +kernel
theorem dX3_settleWhole_19 : decode cX3_settleWhole 19 = .ok (.iload_n 1, 1) := by decide +kernel
theorem dX3_settleWhole_20 : decode cX3_settleWhole 20 = .ok (.iaload, 1) := by decide +kernel
theorem dX3_settleWhole_21 : decode cX3_settleWhole 21 = .ok (.dup2, 1) := by decide +kernel
theorem dX3_settleWhole_22 : decode cX3_settleWhole 22 = .ok (.iaload, 1) := by decide +kernel
theorem dX3_settleWhole_23 : decode cX3_settleWhole 23 = .ok (.iconst 1, 1) := by decide +kernel
theorem dX3_settleWhole_24 : decode cX3_settleWhole 24 = .ok (.iadd, 1) := by decide +kernel
theorem dX3_settleWhole_25 : decode cX3_settleWhole 25 = .ok (.iastore, 1) := by decide +kernel
theorem dX3_settleWhole_26 : decode cX3_settleWhole 26 = .ok (.aload_n 0, 1) := by decide +kernel
theorem dX3_settleWhole_27 : decode cX3_settleWhole 27 = .ok (.iload_n 1, 1) := by decide +kernel
theorem dX3_settleWhole_28 : decode cX3_settleWhole 28 = .ok (.invokevirtual 102, 3) := by decide +kernel
theorem dX3_settleWhole_31 : decode cX3_settleWhole 31 = .ok (.return_, 1) := by decide +kernel
set_option maxRecDepth 20000 in
theorem ggX3_cancelWhole_X3_removeRow : GoodIn wsX3_cancelWhole wsX3_removeRow := goodIn_r _ [7, 8, 2, 9, 10, 11, 12, 13, 14, 15, 16, 17, 18, 19, 20, 21, 22, 23, 24, 25, 26, 27] (by decide +kernel) (by decide +kernel)
set_option maxRecDepth 20000 in
theorem gX3_cancelWhole_X3_removeRow : GoodIn wsX3_cancelWhole (wsV RX3 102 RX3 yX3_removeRow wsX3_removeRow) := goodIn_app (goodIn_of _ (by decide +kernel)) ggX3_cancelWhole_X3_removeRow
theorem dX3_cancelWhole_0 : decode cX3_cancelWhole 0 = .ok (.aload_n 0, 1) := by decide +kernel
theorem dX3_cancelWhole_1 : decode cX3_cancelWhole 1 = .ok (.getfield 52, 3) := by decide +kernel
theorem dX3_cancelWhole_4 : decode cX3_cancelWhole 4 = .ok (.aload_n 0, 1) := by decide +kernel
theorem dX3_cancelWhole_5 : decode cX3_cancelWhole 5 = .ok (.getfield 34, 3) := by decide +kernel
theorem dX3_cancelWhole_8 : decode cX3_cancelWhole 8 = .ok (.iload_n 1, 1) := by decide +kernel
theorem dX3_cancelWhole_9 : decode cX3_cancelWhole 9 = .ok (.iaload, 1) := by decide +kernel
theorem dX3_cancelWhole_10 : decode cX3_cancelWhole 10 = .ok (.dup2, 1) := by decide +kernel
theorem dX3_cancelWhole_11 : decode cX3_cancelWhole 11 = .ok (.iaload, 1) := by decide +kernel
theorem dX3_cancelWhole_12 : decode cX3_cancelWhole 12 = .ok (.iconst 1, 1) := by decide +kernel
theorem dX3_cancelWhole_13 : decode cX3_cancelWhole 13 = .ok (.iadd, 1) := by decide +kernel
theorem dX3_cancelWhole_14 : decode cX3_cancelWhole 14 = .ok (.iastore, 1) := by decide +kernel
theorem dX3_cancelWhole_15 : decode cX3_cancelWhole 15 = .ok (.aload_n 0, 1) := by decide +kernel
theorem dX3_cancelWhole_16 : decode cX3_cancelWhole 16 = .ok (.iload_n 1, 1) := by decide +kernel
theorem dX3_cancelWhole_17 : decode cX3_cancelWhole 17 = .ok (.invokevirtual 102, 3) := by decide +kernel
theorem dX3_cancelWhole_20 : decode cX3_cancelWhole 20 = .ok (.return_, 1) := by decide +kernel
set_option maxRecDepth 20000 in
theorem ggX3_lapse_X3_removeRow : GoodIn wsX3_lapse wsX3_removeRow := goodIn_r _ [7, 8, 2, 9, 10, 11, 12, 13, 14, 15, 16, 17, 18, 19, 20, 21, 22, 23, 24, 25, 26, 27] (by decide +kernel) (by decide +kernel)
set_option maxRecDepth 20000 in
theorem gX3_lapse_X3_removeRow : GoodIn wsX3_lapse (wsV RX3 102 RX3 yX3_removeRow wsX3_removeRow) := goodIn_app (goodIn_of _ (by decide +kernel)) ggX3_lapse_X3_removeRow
theorem dX3_lapse_0 : decode cX3_lapse 0 = .ok (.aload_n 0, 1) := by decide +kernel
theorem dX3_lapse_1 : decode cX3_lapse 1 = .ok (.getfield 55, 3) := by decide +kernel
theorem dX3_lapse_4 : decode cX3_lapse 4 = .ok (.aload_n 0, 1) := by decide +kernel
theorem dX3_lapse_5 : decode cX3_lapse 5 = .ok (.getfield 34, 3) := by decide +kernel
theorem dX3_lapse_8 : decode cX3_lapse 8 = .ok (.iload_n 1, 1) := by decide +kernel
theorem dX3_lapse_9 : decode cX3_lapse 9 = .ok (.iaload, 1) := by decide +kernel
theorem dX3_lapse_10 : decode cX3_lapse 10 = .ok (.dup2, 1) := by decide +kernel
theorem dX3_lapse_11 : decode cX3_lapse 11 = .ok (.iaload, 1) := by decide +kernel
theorem dX3_lapse_12 : decode cX3_lapse 12 = .ok (.iconst 1, 1) := by decide +kernel
theorem dX3_lapse_13 : decode cX3_lapse 13 = .ok (.iadd, 1) := by decide +kernel
theorem dX3_lapse_14 : decode cX3_lapse 14 = .ok (.iastore, 1) := by decide +kernel
theorem dX3_lapse_15 : decode cX3_lapse 15 = .ok (.aload_n 0, 1) := by decide +kernel
theorem dX3_lapse_16 : decode cX3_lapse 16 = .ok (.iload_n 1, 1) := by decide +kernel
theorem dX3_lapse_17 : decode cX3_lapse 17 = .ok (.invokevirtual 102, 3) := by decide +kernel
theorem dX3_lapse_20 : decode cX3_lapse 20 = .ok (.return_, 1) := by decide +kernel
theorem dX3_removeRow_0 : decode cX3_removeRow 0 = .ok (.aload_n 0, 1) := by decide +kernel
theorem dX3_removeRow_1 : decode cX3_removeRow 1 = .ok (.dup, 1) := by decide +kernel
theorem dX3_removeRow_2 : decode cX3_removeRow 2 = .ok (.getfield 15, 3) := by decide +kernel
theorem dX3_removeRow_5 : decode cX3_removeRow 5 = .ok (.iconst 1, 1) := by decide +kernel
theorem dX3_removeRow_6 : decode cX3_removeRow 6 = .ok (.isub, 1) := by decide +kernel
theorem dX3_removeRow_7 : decode cX3_removeRow 7 = .ok (.putfield 15, 3) := by decide +kernel
theorem dX3_removeRow_10 : decode cX3_removeRow 10 = .ok (.iload_n 1, 1) := by decide +kernel
theorem dX3_removeRow_11 : decode cX3_removeRow 11 = .ok (.istore_n 2, 1) := by decide +kernel
theorem dX3_removeRow_12 : decode cX3_removeRow 12 = .ok (.iload_n 2, 1) := by decide +kernel
theorem dX3_removeRow_13 : decode cX3_removeRow 13 = .ok (.aload_n 0, 1) := by decide +kernel
theorem dX3_removeRow_14 : decode cX3_removeRow 14 = .ok (.getfield 15, 3) := by decide +kernel
theorem dX3_removeRow_17 : decode cX3_removeRow 17 = .ok (.if_icmp .ge 79, 3) := by decide +kernel
theorem dX3_removeRow_20 : decode cX3_removeRow 20 = .ok (.aload_n 0, 1) := by decide +kernel
theorem dX3_removeRow_21 : decode cX3_removeRow 21 = .ok (.getfield 34, 3) := by decide +kernel
theorem dX3_removeRow_24 : decode cX3_removeRow 24 = .ok (.iload_n 2, 1) := by decide +kernel
theorem dX3_removeRow_25 : decode cX3_removeRow 25 = .ok (.aload_n 0, 1) := by decide +kernel
theorem dX3_removeRow_26 : decode cX3_removeRow 26 = .ok (.getfield 34, 3) := by decide +kernel
theorem dX3_removeRow_29 : decode cX3_removeRow 29 = .ok (.iload_n 2, 1) := by decide +kernel
theorem dX3_removeRow_30 : decode cX3_removeRow 30 = .ok (.iconst 1, 1) := by decide +kernel
theorem dX3_removeRow_31 : decode cX3_removeRow 31 = .ok (.iadd, 1) := by decide +kernel
theorem dX3_removeRow_32 : decode cX3_removeRow 32 = .ok (.iaload, 1) := by decide +kernel
theorem dX3_removeRow_33 : decode cX3_removeRow 33 = .ok (.iastore, 1) := by decide +kernel
theorem dX3_removeRow_34 : decode cX3_removeRow 34 = .ok (.aload_n 0, 1) := by decide +kernel
theorem dX3_removeRow_35 : decode cX3_removeRow 35 = .ok (.getfield 37, 3) := by decide +kernel
theorem dX3_removeRow_38 : decode cX3_removeRow 38 = .ok (.iload_n 2, 1) := by decide +kernel
theorem dX3_removeRow_39 : decode cX3_removeRow 39 = .ok (.aload_n 0, 1) := by decide +kernel
theorem dX3_removeRow_40 : decode cX3_removeRow 40 = .ok (.getfield 37, 3) := by decide +kernel
theorem dX3_removeRow_43 : decode cX3_removeRow 43 = .ok (.iload_n 2, 1) := by decide +kernel
theorem dX3_removeRow_44 : decode cX3_removeRow 44 = .ok (.iconst 1, 1) := by decide +kernel
theorem dX3_removeRow_45 : decode cX3_removeRow 45 = .ok (.iadd, 1) := by decide +kernel
theorem dX3_removeRow_46 : decode cX3_removeRow 46 = .ok (.iaload, 1) := by decide +kernel
theorem dX3_removeRow_47 : decode cX3_removeRow 47 = .ok (.iastore, 1) := by decide +kernel
theorem dX3_removeRow_48 : decode cX3_removeRow 48 = .ok (.aload_n 0, 1) := by decide +kernel
theorem dX3_removeRow_49 : decode cX3_removeRow 49 = .ok (.getfield 40, 3) := by decide +kernel
theorem dX3_removeRow_52 : decode cX3_removeRow 52 = .ok (.iload_n 2, 1) := by decide +kernel
theorem dX3_removeRow_53 : decode cX3_removeRow 53 = .ok (.aload_n 0, 1) := by decide +kernel
theorem dX3_removeRow_54 : decode cX3_removeRow 54 = .ok (.getfield 40, 3) := by decide +kernel
theorem dX3_removeRow_57 : decode cX3_removeRow 57 = .ok (.iload_n 2, 1) := by decide +kernel
theorem dX3_removeRow_58 : decode cX3_removeRow 58 = .ok (.iconst 1, 1) := by decide +kernel
theorem dX3_removeRow_59 : decode cX3_removeRow 59 = .ok (.iadd, 1) := by decide +kernel
theorem dX3_removeRow_60 : decode cX3_removeRow 60 = .ok (.iaload, 1) := by decide +kernel
theorem dX3_removeRow_61 : decode cX3_removeRow 61 = .ok (.iastore, 1) := by decide +kernel
theorem dX3_removeRow_62 : decode cX3_removeRow 62 = .ok (.aload_n 0, 1) := by decide +kernel
theorem dX3_removeRow_63 : decode cX3_removeRow 63 = .ok (.getfield 43, 3) := by decide +kernel
theorem dX3_removeRow_66 : decode cX3_removeRow 66 = .ok (.iload_n 2, 1) := by decide +kernel
theorem dX3_removeRow_67 : decode cX3_removeRow 67 = .ok (.aload_n 0, 1) := by decide +kernel
theorem dX3_removeRow_68 : decode cX3_removeRow 68 = .ok (.getfield 43, 3) := by decide +kernel
theorem dX3_removeRow_71 : decode cX3_removeRow 71 = .ok (.iload_n 2, 1) := by decide +kernel
theorem dX3_removeRow_72 : decode cX3_removeRow 72 = .ok (.iconst 1, 1) := by decide +kernel
theorem dX3_removeRow_73 : decode cX3_removeRow 73 = .ok (.iadd, 1) := by decide +kernel
theorem dX3_removeRow_74 : decode cX3_removeRow 74 = .ok (.iaload, 1) := by decide +kernel
theorem dX3_removeRow_75 : decode cX3_removeRow 75 = .ok (.iastore, 1) := by decide +kernel
theorem dX3_removeRow_76 : decode cX3_removeRow 76 = .ok (.aload_n 0, 1) := by decide +kernel
theorem dX3_removeRow_77 : decode cX3_removeRow 77 = .ok (.getfield 46, 3) := by decide +kernel
theorem dX3_removeRow_80 : decode cX3_removeRow 80 = .ok (.iload_n 2, 1) := by decide +kernel
theorem dX3_removeRow_81 : decode cX3_removeRow 81 = .ok (.aload_n 0, 1) := by decide +kernel
theorem dX3_removeRow_82 : decode cX3_removeRow 82 = .ok (.getfield 46, 3) := by decide +kernel
theorem dX3_removeRow_85 : decode cX3_removeRow 85 = .ok (.iload_n 2, 1) := by decide +kernel
theorem dX3_removeRow_86 : decode cX3_removeRow 86 = .ok (.iconst 1, 1) := by decide +kernel
theorem dX3_removeRow_87 : decode cX3_removeRow 87 = .ok (.iadd, 1) := by decide +kernel
theorem dX3_removeRow_88 : decode cX3_removeRow 88 = .ok (.iaload, 1) := by decide +kernel
theorem dX3_removeRow_89 : decode cX3_removeRow 89 = .ok (.iastore, 1) := by decide +kernel
theorem dX3_removeRow_90 : decode cX3_removeRow 90 = .ok (.iinc 2 1, 3) := by decide +kernel
theorem dX3_removeRow_93 : decode cX3_removeRow 93 = .ok (.goto (-81), 3) := by decide +kernel
theorem dX3_removeRow_96 : decode cX3_removeRow 96 = .ok (.return_, 1) := by decide +kernel
set_option maxRecDepth 20000 in
theorem ggX4_init_X3_init : GoodIn wsX4_init wsX3_init := goodIn_r _ [24, 25, 2, 3, 26, 27, 28, 29, 30, 31, 32, 33, 34, 35, 36, 37, 38, 39, 40, 41, 61, 62, 63, 64, 65, 66, 67, 68, 69, 70, 71, 72, 73, 74, 75] (by decide +kernel) (by decide +kernel)
set_option maxRecDepth 20000 in
theorem gX4_init_X3_init_n9 : GoodIn wsX4_init (wsX3_init) := ggX4_init_X3_init
set_option maxRecDepth 20000 in
theorem ggX4_init_X2_init : GoodIn wsX4_init wsX2_init := goodIn_r _ [43, 44, 2, 3, 45, 5, 6, 46, 47, 23, 24, 25, 26, 27, 28, 29, 30, 31, 32, 33, 34, 35, 36, 37, 38, 39, 40, 41, 61, 62, 63, 64, 65, 66, 67, 68, 69, 70, 71, 72, 73, 74, 75, 82, 83] (by decide +kernel) (by decide +kernel)
set_option maxRecDepth 20000 in
theorem gX4_init_X2_init_n18 : GoodIn wsX4_init (wsX2_init) := ggX4_init_X2_init
set_option maxRecDepth 20000 in
theorem ggX4_init_X1_init : GoodIn wsX4_init wsX1_init := goodIn_r _ [49, 50, 2, 3, 29, 51, 84] (by decide +kernel) (by decide +kernel)
set_option maxRecDepth 20000 in
theorem gX4_init_X1_init_n25 : GoodIn wsX4_init (wsX1_init) := ggX4_init_X1_init
set_option maxRecDepth 20000 in
theorem ggX4_init_X0_init : GoodIn wsX4_init wsX0_init := goodIn_r _ [53, 54, 2, 3, 55, 56, 57, 58, 59, 60, 85, 86, 87, 88, 89, 90] (by decide +kernel) (by decide +kernel)
set_option maxRecDepth 20000 in
theorem gX4_init_X0_init_n32 : GoodIn wsX4_init (wsX0_init) := ggX4_init_X0_init
theorem dX4_init_0 : decode cX4_init 0 = .ok (.aload_n 0, 1) := by decide +kernel
theorem dX4_init_1 : decode cX4_init 1 = .ok (.invokespecial 1, 3) := by decide +kernel
theorem dX4_init_4 : decode cX4_init 4 = .ok (.aload_n 0, 1) := by decide +kernel
theorem dX4_init_5 : decode cX4_init 5 = .ok (.new 7, 3) := by decide +kernel
theorem dX4_init_8 : decode cX4_init 8 = .ok (.dup, 1) := by decide +kernel
theorem dX4_init_9 : decode cX4_init 9 = .ok (.invokespecial 9, 3) := by decide +kernel
theorem dX4_init_12 : decode cX4_init 12 = .ok (.putfield 10, 3) := by decide +kernel
theorem dX4_init_15 : decode cX4_init 15 = .ok (.aload_n 0, 1) := by decide +kernel
theorem dX4_init_16 : decode cX4_init 16 = .ok (.new 16, 3) := by decide +kernel
theorem dX4_init_19 : decode cX4_init 19 = .ok (.dup, 1) := by decide +kernel
theorem dX4_init_20 : decode cX4_init 20 = .ok (.invokespecial 18, 3) := by decide +kernel
theorem dX4_init_23 : decode cX4_init 23 = .ok (.putfield 19, 3) := by decide +kernel
theorem dX4_init_26 : decode cX4_init 26 = .ok (.aload_n 0, 1) := by decide +kernel
theorem dX4_init_27 : decode cX4_init 27 = .ok (.new 23, 3) := by decide +kernel
theorem dX4_init_30 : decode cX4_init 30 = .ok (.dup, 1) := by decide +kernel
theorem dX4_init_31 : decode cX4_init 31 = .ok (.invokespecial 25, 3) := by decide +kernel
theorem dX4_init_34 : decode cX4_init 34 = .ok (.putfield 26, 3) := by decide +kernel
theorem dX4_init_37 : decode cX4_init 37 = .ok (.aload_n 0, 1) := by decide +kernel
theorem dX4_init_38 : decode cX4_init 38 = .ok (.new 30, 3) := by decide +kernel
theorem dX4_init_41 : decode cX4_init 41 = .ok (.dup, 1) := by decide +kernel
theorem dX4_init_42 : decode cX4_init 42 = .ok (.invokespecial 32, 3) := by decide +kernel
theorem dX4_init_45 : decode cX4_init 45 = .ok (.putfield 33, 3) := by decide +kernel
theorem dX4_init_48 : decode cX4_init 48 = .ok (.aload_n 0, 1) := by decide +kernel
theorem dX4_init_49 : decode cX4_init 49 = .ok (.bipush 60, 2) := by decide +kernel
theorem dX4_init_51 : decode cX4_init 51 = .ok (.newarray .char, 2) := by decide +kernel
theorem dX4_init_53 : decode cX4_init 53 = .ok (.putfield 37, 3) := by decide +kernel
theorem dX4_init_56 : decode cX4_init 56 = .ok (.aload_n 0, 1) := by decide +kernel
theorem dX4_init_57 : decode cX4_init 57 = .ok (.iconst 0, 1) := by decide +kernel
theorem dX4_init_58 : decode cX4_init 58 = .ok (.putfield 41, 3) := by decide +kernel
theorem dX4_init_61 : decode cX4_init 61 = .ok (.return_, 1) := by decide +kernel
set_option maxRecDepth 20000 in
theorem ggX4_bounds_X4_checkIndex : GoodIn wsX4_bounds wsX4_checkIndex := goodIn_ca (goodIn_r _ [10, 11, 12] (by decide +kernel) (by decide +kernel)) (goodIn_sub (fun _ h => List.mem_cons_of_mem _ (List.mem_append_left _ (List.mem_append_right _ h))) (by decide +kernel))
set_option maxRecDepth 20000 in
theorem gX4_bounds_X4_checkIndex : GoodIn wsX4_bounds (va_wsS RX4 45 yX4_checkIndex wsX4_checkIndex) := goodIn_app (goodIn_of _ (by decide +kernel)) ggX4_bounds_X4_checkIndex
set_option maxRecDepth 20000 in
theorem ggX4_bounds_X4_checkArgument : GoodIn wsX4_bounds wsX4_checkArgument := goodIn_ca (goodIn_r _ [15, 16, 17] (by decide +kernel) (by decide +kernel)) (goodIn_sub (fun _ h => List.mem_cons_of_mem _ (List.mem_append_right _ h)) (by decide +kernel))
set_option maxRecDepth 20000 in
theorem gX4_bounds_X4_checkArgument : GoodIn wsX4_bounds (va_wsS RX4 49 yX4_checkArgument wsX4_checkArgument) := goodIn_app (goodIn_of _ (by decide +kernel)) ggX4_bounds_X4_checkArgument
set_option maxRecDepth 20000 in
theorem ggX4_bounds_X3_lowOf : GoodIn wsX4_bounds wsX3_lowOf := goodIn_r _ [22, 23, 24, 25, 26, 21, 27, 28, 29, 30, 31, 32, 33, 34, 35, 36, 37, 38, 39, 40, 41, 82, 83, 84, 85, 86, 87, 88, 89, 90, 91, 92, 93, 94, 95, 96] (by decide +kernel) (by decide +kernel)
set_option maxRecDepth 20000 in
theorem gX4_bounds_X3_lowOf : GoodIn wsX4_bounds (wsV RX4 53 RX3 yX3_lowOf wsX3_lowOf) := goodIn_app (goodIn_of _ (by decide +kernel)) ggX4_bounds_X3_lowOf
set_option maxRecDepth 20000 in
theorem ggX4_bounds_X3_highOf : GoodIn wsX4_bounds wsX3_highOf := goodIn_r _ [45, 28, 29, 46, 47, 33, 48, 35, 36, 37, 21, 38, 39, 40, 41, 82, 83, 84, 85, 86, 87, 88, 89, 90, 91, 92, 93, 94, 95, 96] (by decide +kernel) (by decide +kernel)
set_option maxRecDepth 20000 in
theorem gX4_bounds_X3_highOf : GoodIn wsX4_bounds (wsV RX4 57 RX3 yX3_highOf wsX3_highOf) := goodIn_app (goodIn_of _ (by decide +kernel)) ggX4_bounds_X3_highOf
set_option maxRecDepth 20000 in
theorem ggX4_bounds_X2_save : GoodIn wsX4_bounds wsX2_save := goodIn_r _ [53, 54, 55, 56, 57, 58, 52, 59, 60, 61, 62, 21, 63, 23, 29, 64, 65, 66, 67, 68, 69, 28, 70, 71, 72, 39, 40, 41, 30, 73, 74, 75, 97, 98, 82, 83, 84, 85, 86, 87, 88, 89, 90, 91, 92, 93, 94, 95, 96] (by decide +kernel) (by decide +kernel)
set_option maxRecDepth 20000 in
theorem gX4_bounds_X2_save : GoodIn wsX4_bounds (wsV RX4 67 RX2 yX2_save wsX2_save) := goodIn_app (goodIn_of _ (by decide +kernel)) ggX4_bounds_X2_save
theorem dX4_bounds_0 : decode cX4_bounds 0 = .ok (.iload_n 1, 1) := by decide +kernel
theorem dX4_bounds_1 : decode cX4_bounds 1 = .ok (.iconst 4, 1) := by decide +kernel
theorem dX4_bounds_2 : decode cX4_bounds 2 = .ok (.invokestatic 45, 3) := by decide +kernel
theorem dX4_bounds_5 : decode cX4_bounds 5 = .ok (.iload_n 2, 1) := by decide +kernel
theorem dX4_bounds_6 : decode cX4_bounds 6 = .ok (.sipush (-999), 3) := by decide +kernel
theorem dX4_bounds_9 : decode cX4_bounds 9 = .ok (.sipush 999, 3) := by decide +kernel
theorem dX4_bounds_12 : decode cX4_bounds 12 = .ok (.invokestatic 49, 3) := by decide +kernel
theorem dX4_bounds_15 : decode cX4_bounds 15 = .ok (.iload_n 3, 1) := by decide +kernel
theorem dX4_bounds_16 : decode cX4_bounds 16 = .ok (.iload_n 2, 1) := by decide +kernel
theorem dX4_bounds_17 : decode cX4_bounds 17 = .ok (.sipush 999, 3) := by decide +kernel
theorem dX4_bounds_20 : decode cX4_bounds 20 = .ok (.invokestatic 49, 3) := by decide +kernel
theorem dX4_bounds_23 : decode cX4_bounds 23 = .ok (.aload_n 0, 1) := by decide +kernel
theorem dX4_bounds_24 : decode cX4_bounds 24 = .ok (.getfield 10, 3) := by decide +kernel
theorem dX4_bounds_27 : decode cX4_bounds 27 = .ok (.iload_n 1, 1) := by decide +kernel
theorem dX4_bounds_28 : decode cX4_bounds 28 = .ok (.invokevirtual 53, 3) := by decide +kernel
theorem dX4_bounds_31 : decode cX4_bounds 31 = .ok (.iload_n 2, 1) := by decide +kernel
theorem dX4_bounds_32 : decode cX4_bounds 32 = .ok (.if_icmp .lt 15, 3) := by decide +kernel
theorem dX4_bounds_35 : decode cX4_bounds 35 = .ok (.aload_n 0, 1) := by decide +kernel
theorem dX4_bounds_36 : decode cX4_bounds 36 = .ok (.getfield 10, 3) := by decide +kernel
theorem dX4_bounds_39 : decode cX4_bounds 39 = .ok (.iload_n 1, 1) := by decide +kernel
theorem dX4_bounds_40 : decode cX4_bounds 40 = .ok (.invokevirtual 57, 3) := by decide +kernel
theorem dX4_bounds_43 : decode cX4_bounds 43 = .ok (.iload_n 3, 1) := by decide +kernel
theorem dX4_bounds_44 : decode cX4_bounds 44 = .ok (.if_icmp .le 13, 3) := by decide +kernel
theorem dX4_bounds_47 : decode cX4_bounds 47 = .ok (.new 60, 3) := by decide +kernel
theorem dX4_bounds_50 : decode cX4_bounds 50 = .ok (.dup, 1) := by decide +kernel
theorem dX4_bounds_51 : decode cX4_bounds 51 = .ok (.ldc 62, 2) := by decide +kernel
theorem dX4_bounds_53 : decode cX4_bounds 53 = .ok (.invokespecial 64, 3) := by decide +kernel
theorem dX4_bounds_56 : decode cX4_bounds 56 = .ok (.athrow, 1) := by decide +kernel
theorem dX4_bounds_57 : decode cX4_bounds 57 = .ok (.aload_n 0, 1) := by decide +kernel
theorem dX4_bounds_58 : decode cX4_bounds 58 = .ok (.getfield 19, 3) := by decide +kernel
theorem dX4_bounds_61 : decode cX4_bounds 61 = .ok (.aload_n 0, 1) := by decide +kernel
theorem dX4_bounds_62 : decode cX4_bounds 62 = .ok (.getfield 10, 3) := by decide +kernel
theorem dX4_bounds_65 : decode cX4_bounds 65 = .ok (.invokevirtual 67, 3) := by decide +kernel
theorem dX4_bounds_68 : decode cX4_bounds 68 = .ok (.aload_n 0, 1) := by decide +kernel
theorem dX4_bounds_69 : decode cX4_bounds 69 = .ok (.getfield 10, 3) := by decide +kernel
theorem dX4_bounds_72 : decode cX4_bounds 72 = .ok (.getfield 71, 3) := by decide +kernel
theorem dX4_bounds_75 : decode cX4_bounds 75 = .ok (.iload_n 1, 1) := by decide +kernel
theorem dX4_bounds_76 : decode cX4_bounds 76 = .ok (.iaload, 1) := by decide +kernel
theorem dX4_bounds_77 : decode cX4_bounds 77 = .ok (.aload_n 0, 1) := by decide +kernel
theorem dX4_bounds_78 : decode cX4_bounds 78 = .ok (.getfield 10, 3) := by decide +kernel
theorem dX4_bounds_81 : decode cX4_bounds 81 = .ok (.getfield 75, 3) := by decide +kernel
theorem dX4_bounds_84 : decode cX4_bounds 84 = .ok (.iload_n 1, 1) := by decide +kernel
theorem dX4_bounds_85 : decode cX4_bounds 85 = .ok (.iaload, 1) := by decide +kernel
theorem dX4_bounds_86 : decode cX4_bounds 86 = .ok (.isub, 1) := by decide +kernel
theorem dX4_bounds_87 : decode cX4_bounds 87 = .ok (.istore 4, 2) := by decide +kernel
theorem dX4_bounds_89 : decode cX4_bounds 89 = .ok (.aload_n 0, 1) := by decide +kernel
theorem dX4_bounds_90 : decode cX4_bounds 90 = .ok (.getfield 10, 3) := by decide +kernel
theorem dX4_bounds_93 : decode cX4_bounds 93 = .ok (.getfield 75, 3) := by decide +kernel
theorem dX4_bounds_96 : decode cX4_bounds 96 = .ok (.iload_n 1, 1) := by decide +kernel
theorem dX4_bounds_97 : decode cX4_bounds 97 = .ok (.iload_n 2, 1) := by decide +kernel
theorem dX4_bounds_98 : decode cX4_bounds 98 = .ok (.iastore, 1) := by decide +kernel
theorem dX4_bounds_99 : decode cX4_bounds 99 = .ok (.aload_n 0, 1) := by decide +kernel
theorem dX4_bounds_100 : decode cX4_bounds 100 = .ok (.getfield 10, 3) := by decide +kernel
theorem dX4_bounds_103 : decode cX4_bounds 103 = .ok (.getfield 71, 3) := by decide +kernel
theorem dX4_bounds_106 : decode cX4_bounds 106 = .ok (.iload_n 1, 1) := by decide +kernel
theorem dX4_bounds_107 : decode cX4_bounds 107 = .ok (.iload_n 3, 1) := by decide +kernel
theorem dX4_bounds_108 : decode cX4_bounds 108 = .ok (.iastore, 1) := by decide +kernel
theorem dX4_bounds_109 : decode cX4_bounds 109 = .ok (.iload 4, 2) := by decide +kernel
theorem dX4_bounds_111 : decode cX4_bounds 111 = .ok (.ireturn, 1) := by decide +kernel
set_option maxRecDepth 20000 in
theorem ggX4_set_X4_checkIndex : GoodIn wsX4_set wsX4_checkIndex := goodIn_ca (goodIn_r _ [7, 8, 9] (by decide +kernel) (by decide +kernel)) (goodIn_sub (fun _ h => List.mem_cons_of_mem _ (List.mem_append_left _ (List.mem_append_right _ h))) (by decide +kernel))
set_option maxRecDepth 20000 in
theorem gX4_set_X4_checkIndex : GoodIn wsX4_set (va_wsS RX4 45 yX4_checkIndex wsX4_checkIndex) := goodIn_app (goodIn_of _ (by decide +kernel)) ggX4_set_X4_checkIndex
set_option maxRecDepth 20000 in
theorem ggX4_set_X4_checkArgument : GoodIn wsX4_set wsX4_checkArgument := goodIn_ca (goodIn_r _ [12, 13, 14] (by decide +kernel) (by decide +kernel)) (goodIn_sub (fun _ h => List.mem_cons_of_mem _ (List.mem_append_right _ h)) (by decide +kernel))
set_option maxRecDepth 20000 in
theorem gX4_set_X4_checkArgument : GoodIn wsX4_set (va_wsS RX4 49 yX4_checkArgument wsX4_checkArgument) := goodIn_app (goodIn_of _ (by decide +kernel)) ggX4_set_X4_checkArgument
set_option maxRecDepth 20000 in
theorem ggX4_set_X2_save : GoodIn wsX4_set wsX2_save := goodIn_r _ [19, 20, 21, 22, 23, 24, 18, 25, 26, 27, 28, 29, 30, 31, 32, 33, 34, 35, 36, 37, 38, 39, 40, 41, 42, 43, 44, 45, 46, 47, 48, 49, 71, 72, 56, 57, 58, 59, 60, 61, 62, 63, 64, 65, 66, 67, 68, 69, 70] (by decide +kernel) (by decide +kernel)
set_option maxRecDepth 20000 in
theorem gX4_set_X2_save : GoodIn wsX4_set (wsV RX4 67 RX2 yX2_save wsX2_save) := goodIn_app (goodIn_of _ (by decide +kernel)) ggX4_set_X2_save
theorem dX4_set_0 : decode cX4_set 0 = .ok (.iload_n 1, 1) := by decide +kernel
theorem dX4_set_1 : decode cX4_set 1 = .ok (.iconst 2, 1) := by decide +kernel
theorem dX4_set_2 : decode cX4_set 2 = .ok (.invokestatic 45, 3) := by decide +kernel
theorem dX4_set_5 : decode cX4_set 5 = .ok (.iload_n 2, 1) := by decide +kernel
theorem dX4_set_6 : decode cX4_set 6 = .ok (.iconst 1, 1) := by decide +kernel
theorem dX4_set_7 : decode cX4_set 7 = .ok (.iload_n 1, 1) := by decide +kernel
theorem dX4_set_8 : decode cX4_set 8 = .ok (.ifCond .ne 8, 3) := by decide +kernel
theorem dX4_set_11 : decode cX4_set 11 = .ok (.bipush 16, 2) := by decide +kernel
theorem dX4_set_13 : decode cX4_set 13 = .ok (.goto 5, 3) := by decide +kernel
theorem dX4_set_16 : decode cX4_set 16 = .ok (.bipush 99, 2) := by decide +kernel
theorem dX4_set_18 : decode cX4_set 18 = .ok (.invokestatic 49, 3) := by decide +kernel
theorem dX4_set_21 : decode cX4_set 21 = .ok (.aload_n 0, 1) := by decide +kernel
theorem dX4_set_22 : decode cX4_set 22 = .ok (.getfield 19, 3) := by decide +kernel
theorem dX4_set_25 : decode cX4_set 25 = .ok (.aload_n 0, 1) := by decide +kernel
theorem dX4_set_26 : decode cX4_set 26 = .ok (.getfield 10, 3) := by decide +kernel
theorem dX4_set_29 : decode cX4_set 29 = .ok (.invokevirtual 67, 3) := by decide +kernel
theorem dX4_set_32 : decode cX4_set 32 = .ok (.aload_n 0, 1) := by decide +kernel
theorem dX4_set_33 : decode cX4_set 33 = .ok (.getfield 10, 3) := by decide +kernel
theorem dX4_set_36 : decode cX4_set 36 = .ok (.getfield 78, 3) := by decide +kernel
theorem dX4_set_39 : decode cX4_set 39 = .ok (.iload_n 1, 1) := by decide +kernel
theorem dX4_set_40 : decode cX4_set 40 = .ok (.iaload, 1) := by decide +kernel
theorem dX4_set_41 : decode cX4_set 41 = .ok (.istore_n 3, 1) := by decide +kernel
theorem dX4_set_42 : decode cX4_set 42 = .ok (.aload_n 0, 1) := by decide +kernel
theorem dX4_set_43 : decode cX4_set 43 = .ok (.getfield 10, 3) := by decide +kernel
theorem dX4_set_46 : decode cX4_set 46 = .ok (.getfield 78, 3) := by decide +kernel
theorem dX4_set_49 : decode cX4_set 49 = .ok (.iload_n 1, 1) := by decide +kernel
theorem dX4_set_50 : decode cX4_set 50 = .ok (.iload_n 2, 1) := by decide +kernel
theorem dX4_set_51 : decode cX4_set 51 = .ok (.iastore, 1) := by decide +kernel
theorem dX4_set_52 : decode cX4_set 52 = .ok (.iload_n 3, 1) := by decide +kernel
theorem dX4_set_53 : decode cX4_set 53 = .ok (.ireturn, 1) := by decide +kernel
set_option maxRecDepth 20000 in
theorem ggX4_promise_X4_checkIndex : GoodIn wsX4_promise wsX4_checkIndex := goodIn_ca (goodIn_r _ [6, 7, 8] (by decide +kernel) (by decide +kernel)) (goodIn_sub (fun _ h => List.mem_cons_of_mem _ (List.mem_append_left _ (List.mem_append_left _ (List.mem_append_right _ h)))) (by decide +kernel))
set_option maxRecDepth 20000 in
theorem gX4_promise_X4_checkIndex : GoodIn wsX4_promise (va_wsS RX4 45 yX4_checkIndex wsX4_checkIndex) := goodIn_app (goodIn_of _ (by decide +kernel)) ggX4_promise_X4_checkIndex
set_option maxRecDepth 20000 in
theorem ggX4_promise_X4_checkChange : GoodIn wsX4_promise wsX4_checkChange := goodIn_ca (goodIn_r _ [11, 12, 13, 14, 15, 5, 16] (by decide +kernel) (by decide +kernel)) (goodIn_sub (fun _ h => List.mem_cons_of_mem _ (List.mem_append_left _ (List.mem_append_right _ h))) (by decide +kernel))
set_option maxRecDepth 20000 in
theorem gX4_promise_X4_checkChange : GoodIn wsX4_promise (va_wsS RX4 81 yX4_checkChange wsX4_checkChange) := goodIn_app (goodIn_of _ (by decide +kernel)) ggX4_promise_X4_checkChange
set_option maxRecDepth 20000 in
theorem ggX4_promise_X4_checkNoReason : GoodIn wsX4_promise wsX4_checkNoReason := goodIn_ca (goodIn_r _ [20, 21, 22, 2, 23, 24, 25, 26, 27, 28, 29, 30, 31, 32, 33, 34, 35, 36, 37, 38, 39, 40, 41, 42, 43, 44, 45, 46, 47, 48, 49, 50, 51, 52, 53, 54, 55, 56, 57, 58, 59, 60, 61, 62, 63, 64, 65, 66, 67, 68, 69, 70, 71, 72, 73, 101, 102, 103, 104, 105, 106, 107, 108, 109, 110, 111, 112, 113, 114, 115, 116, 117, 118, 119, 120, 121] (by decide +kernel) (by decide +kernel)) (goodIn_sub (fun _ h => List.mem_cons_of_mem _ (List.mem_append_right _ h)) (by decide +kernel))
set_option maxRecDepth 20000 in
theorem gX4_promise_X4_checkNoReason : GoodIn wsX4_promise (wsV RX4 85 RX4 yX4_checkNoReason wsX4_checkNoReason) := goodIn_app (goodIn_of _ (by decide +kernel)) ggX4_promise_X4_checkNoReason
set_option maxRecDepth 20000 in
theorem ggX4_promise_X2_save : GoodIn wsX4_promise wsX2_save := goodIn_r _ [78, 79, 80, 81, 82, 83, 77, 84, 85, 86, 87, 26, 88, 28, 33, 89, 34, 90, 91, 92, 93, 49, 44, 66, 39, 59, 60, 61, 50, 94, 95, 96, 122, 123, 107, 108, 109, 110, 111, 112, 113, 114, 115, 116, 117, 118, 119, 120, 121] (by decide +kernel) (by decide +kernel)
set_option maxRecDepth 20000 in
theorem gX4_promise_X2_save : GoodIn wsX4_promise (wsV RX4 67 RX2 yX2_save wsX2_save) := goodIn_app (goodIn_of _ (by decide +kernel)) ggX4_promise_X2_save
set_option maxRecDepth 20000 in
theorem ggX4_promise_X3_addPromise : GoodIn wsX4_promise wsX3_addPromise := goodIn_r _ [100, 33, 39, 59, 60, 61, 50, 28, 34, 89, 107, 108, 109, 110, 111, 112, 113, 114, 115, 116, 117, 118, 119, 120, 121] (by decide +kernel) (by decide +kernel)
set_option maxRecDepth 20000 in
theorem gX4_promise_X3_addPromise : GoodIn wsX4_promise (wsV RX4 89 RX3 yX3_addPromise wsX3_addPromise) := goodIn_app (goodIn_of _ (by decide +kernel)) ggX4_promise_X3_addPromise
theorem dX4_promise_0 : decode cX4_promise 0 = .ok (.iload_n 1, 1) := by decide +kernel
theorem dX4_promise_1 : decode cX4_promise 1 = .ok (.bipush 6, 2) := by decide +kernel
theorem dX4_promise_3 : decode cX4_promise 3 = .ok (.invokestatic 45, 3) := by decide +kernel
theorem dX4_promise_6 : decode cX4_promise 6 = .ok (.iload_n 2, 1) := by decide +kernel
theorem dX4_promise_7 : decode cX4_promise 7 = .ok (.iconst 4, 1) := by decide +kernel
theorem dX4_promise_8 : decode cX4_promise 8 = .ok (.invokestatic 45, 3) := by decide +kernel
theorem dX4_promise_11 : decode cX4_promise 11 = .ok (.iload_n 3, 1) := by decide +kernel
theorem dX4_promise_12 : decode cX4_promise 12 = .ok (.invokestatic 81, 3) := by decide +kernel
theorem dX4_promise_15 : decode cX4_promise 15 = .ok (.aload_n 0, 1) := by decide +kernel
theorem dX4_promise_16 : decode cX4_promise 16 = .ok (.iload_n 1, 1) := by decide +kernel
theorem dX4_promise_17 : decode cX4_promise 17 = .ok (.iload_n 2, 1) := by decide +kernel
theorem dX4_promise_18 : decode cX4_promise 18 = .ok (.iload_n 3, 1) := by decide +kernel
theorem dX4_promise_19 : decode cX4_promise 19 = .ok (.iconst (-1), 1) := by decide +kernel
theorem dX4_promise_20 : decode cX4_promise 20 = .ok (.invokevirtual 85, 3) := by decide +kernel
theorem dX4_promise_23 : decode cX4_promise 23 = .ok (.aload_n 0, 1) := by decide +kernel
theorem dX4_promise_24 : decode cX4_promise 24 = .ok (.getfield 19, 3) := by decide +kernel
theorem dX4_promise_27 : decode cX4_promise 27 = .ok (.aload_n 0, 1) := by decide +kernel
theorem dX4_promise_28 : decode cX4_promise 28 = .ok (.getfield 10, 3) := by decide +kernel
theorem dX4_promise_31 : decode cX4_promise 31 = .ok (.invokevirtual 67, 3) := by decide +kernel
theorem dX4_promise_34 : decode cX4_promise 34 = .ok (.aload_n 0, 1) := by decide +kernel
theorem dX4_promise_35 : decode cX4_promise 35 = .ok (.getfield 10, 3) := by decide +kernel
theorem dX4_promise_38 : decode cX4_promise 38 = .ok (.iload_n 1, 1) := by decide +kernel
theorem dX4_promise_39 : decode cX4_promise 39 = .ok (.iload_n 2, 1) := by decide +kernel
theorem dX4_promise_40 : decode cX4_promise 40 = .ok (.iload_n 3, 1) := by decide +kernel
theorem dX4_promise_41 : decode cX4_promise 41 = .ok (.iconst (-1), 1) := by decide +kernel
theorem dX4_promise_42 : decode cX4_promise 42 = .ok (.invokevirtual 89, 3) := by decide +kernel
theorem dX4_promise_45 : decode cX4_promise 45 = .ok (.ireturn, 1) := by decide +kernel
set_option maxRecDepth 20000 in
theorem ggX4_transfer_X4_checkIndex : GoodIn wsX4_transfer wsX4_checkIndex := goodIn_ca (goodIn_r _ [8, 9, 10] (by decide +kernel) (by decide +kernel)) (goodIn_sub (fun _ h => List.mem_cons_of_mem _ (List.mem_append_left _ (List.mem_append_right _ h))) (by decide +kernel))
set_option maxRecDepth 20000 in
theorem gX4_transfer_X4_checkIndex : GoodIn wsX4_transfer (va_wsS RX4 45 yX4_checkIndex wsX4_checkIndex) := goodIn_app (goodIn_of _ (by decide +kernel)) ggX4_transfer_X4_checkIndex
set_option maxRecDepth 20000 in
theorem ggX4_transfer_X4_checkArgument : GoodIn wsX4_transfer wsX4_checkArgument := goodIn_ca (goodIn_r _ [13, 1, 2] (by decide +kernel) (by decide +kernel)) (goodIn_sub (fun _ h => List.mem_cons_of_mem _ (List.mem_append_left _ (List.mem_append_left _ (List.mem_append_right _ h)))) (by decide +kernel))
set_option maxRecDepth 20000 in
theorem gX4_transfer_X4_checkArgument : GoodIn wsX4_transfer (va_wsS RX4 49 yX4_checkArgument wsX4_checkArgument) := goodIn_app (goodIn_of _ (by decide +kernel)) ggX4_transfer_X4_checkArgument
set_option maxRecDepth 20000 in
theorem ggX4_transfer_X4_checkNoReason : GoodIn wsX4_transfer wsX4_checkNoReason := goodIn_ca (goodIn_r _ [17, 18, 19, 4, 20, 21, 22, 23, 24, 25, 26, 27, 28, 29, 30, 31, 32, 33, 34, 35, 36, 37, 38, 39, 40, 41, 42, 43, 44, 45, 46, 47, 48, 49, 50, 51, 52, 53, 54, 55, 56, 57, 58, 59, 60, 61, 62, 63, 64, 65, 66, 67, 68, 69, 70, 98, 99, 100, 101, 102, 103, 104, 105, 106, 107, 108, 109, 110, 111, 112, 113, 114, 115, 116, 117, 118] (by decide +kernel) (by decide +kernel)) (goodIn_sub (fun _ h => List.mem_cons_of_mem _ (List.mem_append_right _ h)) (by decide +kernel))
set_option maxRecDepth 20000 in
theorem gX4_transfer_X4_checkNoReason : GoodIn wsX4_transfer (wsV RX4 85 RX4 yX4_checkNoReason wsX4_checkNoReason) := goodIn_app (goodIn_of _ (by decide +kernel)) ggX4_transfer_X4_checkNoReason
set_option maxRecDepth 20000 in
theorem ggX4_transfer_X2_save : GoodIn wsX4_transfer wsX2_save := goodIn_r _ [75, 76, 77, 78, 79, 80, 74, 81, 82, 83, 84, 23, 85, 25, 30, 86, 31, 87, 88, 89, 90, 46, 41, 63, 36, 56, 57, 58, 47, 91, 92, 93, 119, 120, 104, 105, 106, 107, 108, 109, 110, 111, 112, 113, 114, 115, 116, 117, 118] (by decide +kernel) (by decide +kernel)
set_option maxRecDepth 20000 in
theorem gX4_transfer_X2_save : GoodIn wsX4_transfer (wsV RX4 67 RX2 yX2_save wsX2_save) := goodIn_app (goodIn_of _ (by decide +kernel)) ggX4_transfer_X2_save
set_option maxRecDepth 20000 in
theorem ggX4_transfer_X3_addPromise : GoodIn wsX4_transfer wsX3_addPromise := goodIn_r _ [97, 30, 36, 56, 57, 58, 47, 25, 31, 86, 104, 105, 106, 107, 108, 109, 110, 111, 112, 113, 114, 115, 116, 117, 118] (by decide +kernel) (by decide +kernel)
set_option maxRecDepth 20000 in
theorem gX4_transfer_X3_addPromise : GoodIn wsX4_transfer (wsV RX4 89 RX3 yX3_addPromise wsX3_addPromise) := goodIn_app (goodIn_of _ (by decide +kernel)) ggX4_transfer_X3_addPromise
theorem dX4_transfer_0 : decode cX4_transfer 0 = .ok (.iload_n 1, 1) := by decide +kernel
theorem dX4_transfer_1 : decode cX4_transfer 1 = .ok (.bipush 6, 2) := by decide +kernel
theorem dX4_transfer_3 : decode cX4_transfer 3 = .ok (.invokestatic 45, 3) := by decide +kernel
theorem dX4_transfer_6 : decode cX4_transfer 6 = .ok (.iload_n 2, 1) := by decide +kernel
theorem dX4_transfer_7 : decode cX4_transfer 7 = .ok (.iconst 4, 1) := by decide +kernel
theorem dX4_transfer_8 : decode cX4_transfer 8 = .ok (.invokestatic 45, 3) := by decide +kernel
theorem dX4_transfer_11 : decode cX4_transfer 11 = .ok (.iload_n 3, 1) := by decide +kernel
theorem dX4_transfer_12 : decode cX4_transfer 12 = .ok (.iconst 4, 1) := by decide +kernel
theorem dX4_transfer_13 : decode cX4_transfer 13 = .ok (.invokestatic 45, 3) := by decide +kernel
theorem dX4_transfer_16 : decode cX4_transfer 16 = .ok (.iload_n 2, 1) := by decide +kernel
theorem dX4_transfer_17 : decode cX4_transfer 17 = .ok (.iload_n 3, 1) := by decide +kernel
theorem dX4_transfer_18 : decode cX4_transfer 18 = .ok (.if_icmp .ne 13, 3) := by decide +kernel
theorem dX4_transfer_21 : decode cX4_transfer 21 = .ok (.new 93, 3) := by decide +kernel
theorem dX4_transfer_24 : decode cX4_transfer 24 = .ok (.dup, 1) := by decide +kernel
theorem dX4_transfer_25 : decode cX4_transfer 25 = .ok (.ldc 95, 2) := by decide +kernel
theorem dX4_transfer_27 : decode cX4_transfer 27 = .ok (.invokespecial 97, 3) := by decide +kernel
theorem dX4_transfer_30 : decode cX4_transfer 30 = .ok (.athrow, 1) := by decide +kernel
theorem dX4_transfer_31 : decode cX4_transfer 31 = .ok (.iload 4, 2) := by decide +kernel
theorem dX4_transfer_33 : decode cX4_transfer 33 = .ok (.iconst 1, 1) := by decide +kernel
theorem dX4_transfer_34 : decode cX4_transfer 34 = .ok (.bipush 99, 2) := by decide +kernel
theorem dX4_transfer_36 : decode cX4_transfer 36 = .ok (.invokestatic 49, 3) := by decide +kernel
theorem dX4_transfer_39 : decode cX4_transfer 39 = .ok (.aload_n 0, 1) := by decide +kernel
theorem dX4_transfer_40 : decode cX4_transfer 40 = .ok (.iload_n 1, 1) := by decide +kernel
theorem dX4_transfer_41 : decode cX4_transfer 41 = .ok (.iload_n 2, 1) := by decide +kernel
theorem dX4_transfer_42 : decode cX4_transfer 42 = .ok (.iload 4, 2) := by decide +kernel
theorem dX4_transfer_44 : decode cX4_transfer 44 = .ok (.ineg, 1) := by decide +kernel
theorem dX4_transfer_45 : decode cX4_transfer 45 = .ok (.iload_n 3, 1) := by decide +kernel
theorem dX4_transfer_46 : decode cX4_transfer 46 = .ok (.invokevirtual 85, 3) := by decide +kernel
theorem dX4_transfer_49 : decode cX4_transfer 49 = .ok (.aload_n 0, 1) := by decide +kernel
theorem dX4_transfer_50 : decode cX4_transfer 50 = .ok (.getfield 19, 3) := by decide +kernel
theorem dX4_transfer_53 : decode cX4_transfer 53 = .ok (.aload_n 0, 1) := by decide +kernel
theorem dX4_transfer_54 : decode cX4_transfer 54 = .ok (.getfield 10, 3) := by decide +kernel
theorem dX4_transfer_57 : decode cX4_transfer 57 = .ok (.invokevirtual 67, 3) := by decide +kernel
theorem dX4_transfer_60 : decode cX4_transfer 60 = .ok (.aload_n 0, 1) := by decide +kernel
theorem dX4_transfer_61 : decode cX4_transfer 61 = .ok (.getfield 10, 3) := by decide +kernel
theorem dX4_transfer_64 : decode cX4_transfer 64 = .ok (.iload_n 1, 1) := by decide +kernel
theorem dX4_transfer_65 : decode cX4_transfer 65 = .ok (.iload_n 2, 1) := by decide +kernel
theorem dX4_transfer_66 : decode cX4_transfer 66 = .ok (.iload 4, 2) := by decide +kernel
theorem dX4_transfer_68 : decode cX4_transfer 68 = .ok (.ineg, 1) := by decide +kernel
theorem dX4_transfer_69 : decode cX4_transfer 69 = .ok (.iload_n 3, 1) := by decide +kernel
theorem dX4_transfer_70 : decode cX4_transfer 70 = .ok (.invokevirtual 89, 3) := by decide +kernel
theorem dX4_transfer_73 : decode cX4_transfer 73 = .ok (.ireturn, 1) := by decide +kernel
set_option maxRecDepth 20000 in
theorem ggX4_settle_X4_checkIndex : GoodIn wsX4_settle wsX4_checkIndex := goodIn_ca (goodIn_r _ [9, 10, 11] (by decide +kernel) (by decide +kernel)) (goodIn_sub (fun _ h => List.mem_cons_of_mem _ (List.mem_append_right _ h)) (by decide +kernel))
set_option maxRecDepth 20000 in
theorem gX4_settle_X4_checkIndex : GoodIn wsX4_settle (va_wsS RX4 45 yX4_checkIndex wsX4_checkIndex) := goodIn_app (goodIn_of _ (by decide +kernel)) ggX4_settle_X4_checkIndex
set_option maxRecDepth 20000 in
theorem ggX4_settle_X2_save : GoodIn wsX4_settle wsX2_save := goodIn_r _ [16, 17, 18, 19, 20, 21, 15, 22, 23, 24, 25, 26, 27, 28, 29, 30, 31, 32, 33, 34, 35, 36, 37, 38, 39, 40, 41, 42, 43, 44, 45, 46, 80, 81, 65, 66, 67, 68, 69, 70, 71, 72, 73, 74, 75, 76, 77, 78, 79] (by decide +kernel) (by decide +kernel)
set_option maxRecDepth 20000 in
theorem gX4_settle_X2_save : GoodIn wsX4_settle (wsV RX4 67 RX2 yX2_save wsX2_save) := goodIn_app (goodIn_of _ (by decide +kernel)) ggX4_settle_X2_save
set_option maxRecDepth 20000 in
theorem ggX4_settle_X3_settleWhole : GoodIn wsX4_settle wsX3_settleWhole := goodIn_r _ [50, 41, 44, 39, 51, 52, 53, 26, 54, 36, 40, 42, 55, 56, 57, 58, 29, 43, 65, 66, 67, 68, 69, 70, 71, 72, 73, 74, 75, 76, 77, 78, 79] (by decide +kernel) (by decide +kernel)
set_option maxRecDepth 20000 in
theorem gX4_settle_X3_settleWhole : GoodIn wsX4_settle (wsV RX4 104 RX3 yX3_settleWhole wsX3_settleWhole) := goodIn_app (goodIn_of _ (by decide +kernel)) ggX4_settle_X3_settleWhole
theorem dX4_settle_0 : decode cX4_settle 0 = .ok (.iload_n 1, 1) := by decide +kernel
theorem dX4_settle_1 : decode cX4_settle 1 = .ok (.aload_n 0, 1) := by decide +kernel
theorem dX4_settle_2 : decode cX4_settle 2 = .ok (.getfield 10, 3) := by decide +kernel
theorem dX4_settle_5 : decode cX4_settle 5 = .ok (.getfield 98, 3) := by decide +kernel
theorem dX4_settle_8 : decode cX4_settle 8 = .ok (.invokestatic 45, 3) := by decide +kernel
theorem dX4_settle_11 : decode cX4_settle 11 = .ok (.aload_n 0, 1) := by decide +kernel
theorem dX4_settle_12 : decode cX4_settle 12 = .ok (.getfield 19, 3) := by decide +kernel
theorem dX4_settle_15 : decode cX4_settle 15 = .ok (.aload_n 0, 1) := by decide +kernel
theorem dX4_settle_16 : decode cX4_settle 16 = .ok (.getfield 10, 3) := by decide +kernel
theorem dX4_settle_19 : decode cX4_settle 19 = .ok (.invokevirtual 67, 3) := by decide +kernel
theorem dX4_settle_22 : decode cX4_settle 22 = .ok (.aload_n 0, 1) := by decide +kernel
theorem dX4_settle_23 : decode cX4_settle 23 = .ok (.getfield 10, 3) := by decide +kernel
theorem dX4_settle_26 : decode cX4_settle 26 = .ok (.getfield 101, 3) := by decide +kernel
theorem dX4_settle_29 : decode cX4_settle 29 = .ok (.iload_n 1, 1) := by decide +kernel
theorem dX4_settle_30 : decode cX4_settle 30 = .ok (.iaload, 1) := by decide +kernel
theorem dX4_settle_31 : decode cX4_settle 31 = .ok (.istore_n 2, 1) := by decide +kernel
theorem dX4_settle_32 : decode cX4_settle 32 = .ok (.aload_n 0, 1) := by decide +kernel
theorem dX4_settle_33 : decode cX4_settle 33 = .ok (.getfield 10, 3) := by decide +kernel
theorem dX4_settle_36 : decode cX4_settle 36 = .ok (.iload_n 1, 1) := by decide +kernel
theorem dX4_settle_37 : decode cX4_settle 37 = .ok (.invokevirtual 104, 3) := by decide +kernel
theorem dX4_settle_40 : decode cX4_settle 40 = .ok (.aload_n 0, 1) := by decide +kernel
theorem dX4_settle_41 : decode cX4_settle 41 = .ok (.getfield 10, 3) := by decide +kernel
theorem dX4_settle_44 : decode cX4_settle 44 = .ok (.getfield 107, 3) := by decide +kernel
theorem dX4_settle_47 : decode cX4_settle 47 = .ok (.iload_n 2, 1) := by decide +kernel
theorem dX4_settle_48 : decode cX4_settle 48 = .ok (.iaload, 1) := by decide +kernel
theorem dX4_settle_49 : decode cX4_settle 49 = .ok (.ireturn, 1) := by decide +kernel
set_option maxRecDepth 20000 in
theorem ggX4_settlePart_X4_checkIndex : GoodIn wsX4_settlePart wsX4_checkIndex := goodIn_ca (goodIn_r _ [12, 13, 14] (by decide +kernel) (by decide +kernel)) (goodIn_sub (fun _ h => List.mem_cons_of_mem _ (List.mem_append_left _ (List.mem_append_right _ h))) (by decide +kernel))
set_option maxRecDepth 20000 in
theorem gX4_settlePart_X4_checkIndex : GoodIn wsX4_settlePart (va_wsS RX4 45 yX4_checkIndex wsX4_checkIndex) := goodIn_app (goodIn_of _ (by decide +kernel)) ggX4_settlePart_X4_checkIndex
set_option maxRecDepth 20000 in
theorem ggX4_settlePart_X4_checkArgument : GoodIn wsX4_settlePart wsX4_checkArgument := goodIn_ca (goodIn_r _ [17, 18, 19] (by decide +kernel) (by decide +kernel)) (goodIn_sub (fun _ h => List.mem_cons_of_mem _ (List.mem_append_right _ h)) (by decide +kernel))
set_option maxRecDepth 20000 in
theorem gX4_settlePart_X4_checkArgument : GoodIn wsX4_settlePart (va_wsS RX4 49 yX4_checkArgument wsX4_checkArgument) := goodIn_app (goodIn_of _ (by decide +kernel)) ggX4_settlePart_X4_checkArgument
set_option maxRecDepth 20000 in
theorem ggX4_settlePart_X2_save : GoodIn wsX4_settlePart wsX2_save := goodIn_r _ [24, 25, 26, 27, 28, 29, 23, 30, 31, 32, 33, 34, 35, 36, 37, 38, 39, 40, 41, 42, 43, 44, 45, 46, 47, 48, 49, 50, 51, 52, 53, 54, 80, 81, 65, 66, 67, 68, 69, 70, 71, 72, 73, 74, 75, 76, 77, 78, 79] (by decide +kernel) (by decide +kernel)
set_option maxRecDepth 20000 in
theorem gX4_settlePart_X2_save : GoodIn wsX4_settlePart (wsV RX4 67 RX2 yX2_save wsX2_save) := goodIn_app (goodIn_of _ (by decide +kernel)) ggX4_settlePart_X2_save
set_option maxRecDepth 20000 in
theorem ggX4_settlePart_X3_addToCounters : GoodIn wsX4_settlePart wsX3_addToCounters := goodIn_r _ [58, 44, 48, 50, 65, 66, 67, 68, 69, 70, 71, 72, 73, 74, 75, 76, 77, 78, 79] (by decide +kernel) (by decide +kernel)
set_option maxRecDepth 20000 in
theorem gX4_settlePart_X3_addToCounters : GoodIn wsX4_settlePart (wsV RX4 118 RX3 yX3_addToCounters wsX3_addToCounters) := goodIn_app (goodIn_of _ (by decide +kernel)) ggX4_settlePart_X3_addToCounters
theorem dX4_settlePart_0 : decode cX4_settlePart 0 = .ok (.iload_n 1, 1) := by decide +kernel
theorem dX4_settlePart_1 : decode cX4_settlePart 1 = .ok (.aload_n 0, 1) := by decide +kernel
theorem dX4_settlePart_2 : decode cX4_settlePart 2 = .ok (.getfield 10, 3) := by decide +kernel
theorem dX4_settlePart_5 : decode cX4_settlePart 5 = .ok (.getfield 98, 3) := by decide +kernel
theorem dX4_settlePart_8 : decode cX4_settlePart 8 = .ok (.invokestatic 45, 3) := by decide +kernel
theorem dX4_settlePart_11 : decode cX4_settlePart 11 = .ok (.iload_n 2, 1) := by decide +kernel
theorem dX4_settlePart_12 : decode cX4_settlePart 12 = .ok (.iconst 1, 1) := by decide +kernel
theorem dX4_settlePart_13 : decode cX4_settlePart 13 = .ok (.aload_n 0, 1) := by decide +kernel
theorem dX4_settlePart_14 : decode cX4_settlePart 14 = .ok (.getfield 10, 3) := by decide +kernel
theorem dX4_settlePart_17 : decode cX4_settlePart 17 = .ok (.getfield 110, 3) := by decide +kernel
theorem dX4_settlePart_20 : decode cX4_settlePart 20 = .ok (.iload_n 1, 1) := by decide +kernel
theorem dX4_settlePart_21 : decode cX4_settlePart 21 = .ok (.iaload, 1) := by decide +kernel
theorem dX4_settlePart_22 : decode cX4_settlePart 22 = .ok (.invokestatic 113, 3) := by decide +kernel
theorem dX4_settlePart_25 : decode cX4_settlePart 25 = .ok (.iconst 1, 1) := by decide +kernel
theorem dX4_settlePart_26 : decode cX4_settlePart 26 = .ok (.isub, 1) := by decide +kernel
theorem dX4_settlePart_27 : decode cX4_settlePart 27 = .ok (.invokestatic 49, 3) := by decide +kernel
theorem dX4_settlePart_30 : decode cX4_settlePart 30 = .ok (.aload_n 0, 1) := by decide +kernel
theorem dX4_settlePart_31 : decode cX4_settlePart 31 = .ok (.getfield 19, 3) := by decide +kernel
theorem dX4_settlePart_34 : decode cX4_settlePart 34 = .ok (.aload_n 0, 1) := by decide +kernel
theorem dX4_settlePart_35 : decode cX4_settlePart 35 = .ok (.getfield 10, 3) := by decide +kernel
theorem dX4_settlePart_38 : decode cX4_settlePart 38 = .ok (.invokevirtual 67, 3) := by decide +kernel
theorem dX4_settlePart_41 : decode cX4_settlePart 41 = .ok (.aload_n 0, 1) := by decide +kernel
theorem dX4_settlePart_42 : decode cX4_settlePart 42 = .ok (.getfield 10, 3) := by decide +kernel
theorem dX4_settlePart_45 : decode cX4_settlePart 45 = .ok (.getfield 110, 3) := by decide +kernel
theorem dX4_settlePart_48 : decode cX4_settlePart 48 = .ok (.iload_n 1, 1) := by decide +kernel
theorem dX4_settlePart_49 : decode cX4_settlePart 49 = .ok (.iaload, 1) := by decide +kernel
theorem dX4_settlePart_50 : decode cX4_settlePart 50 = .ok (.ifCond .ge 8, 3) := by decide +kernel
theorem dX4_settlePart_53 : decode cX4_settlePart 53 = .ok (.iload_n 2, 1) := by decide +kernel
theorem dX4_settlePart_54 : decode cX4_settlePart 54 = .ok (.ineg, 1) := by decide +kernel
theorem dX4_settlePart_55 : decode cX4_settlePart 55 = .ok (.goto 4, 3) := by decide +kernel
theorem dX4_settlePart_58 : decode cX4_settlePart 58 = .ok (.iload_n 2, 1) := by decide +kernel
theorem dX4_settlePart_59 : decode cX4_settlePart 59 = .ok (.istore_n 3, 1) := by decide +kernel
theorem dX4_settlePart_60 : decode cX4_settlePart 60 = .ok (.aload_n 0, 1) := by decide +kernel
theorem dX4_settlePart_61 : decode cX4_settlePart 61 = .ok (.getfield 10, 3) := by decide +kernel
theorem dX4_settlePart_64 : decode cX4_settlePart 64 = .ok (.iload_n 1, 1) := by decide +kernel
theorem dX4_settlePart_65 : decode cX4_settlePart 65 = .ok (.iload_n 3, 1) := by decide +kernel
theorem dX4_settlePart_66 : decode cX4_settlePart 66 = .ok (.invokevirtual 118, 3) := by decide +kernel
theorem dX4_settlePart_69 : decode cX4_settlePart 69 = .ok (.aload_n 0, 1) := by decide +kernel
theorem dX4_settlePart_70 : decode cX4_settlePart 70 = .ok (.getfield 10, 3) := by decide +kernel
theorem dX4_settlePart_73 : decode cX4_settlePart 73 = .ok (.getfield 110, 3) := by decide +kernel
theorem dX4_settlePart_76 : decode cX4_settlePart 76 = .ok (.iload_n 1, 1) := by decide +kernel
theorem dX4_settlePart_77 : decode cX4_settlePart 77 = .ok (.dup2, 1) := by decide +kernel
theorem dX4_settlePart_78 : decode cX4_settlePart 78 = .ok (.iaload, 1) := by decide +kernel
theorem dX4_settlePart_79 : decode cX4_settlePart 79 = .ok (.iload_n 3, 1) := by decide +kernel
theorem dX4_settlePart_80 : decode cX4_settlePart 80 = .ok (.isub, 1) := by decide +kernel
theorem dX4_settlePart_81 : decode cX4_settlePart 81 = .ok (.iastore, 1) := by decide +kernel
theorem dX4_settlePart_82 : decode cX4_settlePart 82 = .ok (.aload_n 0, 1) := by decide +kernel
theorem dX4_settlePart_83 : decode cX4_settlePart 83 = .ok (.getfield 10, 3) := by decide +kernel
theorem dX4_settlePart_86 : decode cX4_settlePart 86 = .ok (.getfield 110, 3) := by decide +kernel
theorem dX4_settlePart_89 : decode cX4_settlePart 89 = .ok (.iload_n 1, 1) := by decide +kernel
theorem dX4_settlePart_90 : decode cX4_settlePart 90 = .ok (.iaload, 1) := by decide +kernel
theorem dX4_settlePart_91 : decode cX4_settlePart 91 = .ok (.ireturn, 1) := by decide +kernel
set_option maxRecDepth 20000 in
theorem ggX4_cancel_X4_checkIndex : GoodIn wsX4_cancel wsX4_checkIndex := goodIn_ca (goodIn_r _ [7, 8, 9] (by decide +kernel) (by decide +kernel)) (goodIn_sub (fun _ h => List.mem_cons_of_mem _ (List.mem_append_right _ h)) (by decide +kernel))
set_option maxRecDepth 20000 in
theorem gX4_cancel_X4_checkIndex : GoodIn wsX4_cancel (va_wsS RX4 45 yX4_checkIndex wsX4_checkIndex) := goodIn_app (goodIn_of _ (by decide +kernel)) ggX4_cancel_X4_checkIndex
set_option maxRecDepth 20000 in
theorem ggX4_cancel_X2_save : GoodIn wsX4_cancel wsX2_save := goodIn_r _ [14, 15, 16, 17, 18, 19, 13, 20, 21, 22, 23, 24, 25, 26, 27, 28, 29, 30, 31, 32, 33, 34, 35, 36, 37, 38, 39, 40, 41, 42, 43, 44, 74, 75, 59, 60, 61, 62, 63, 64, 65, 66, 67, 68, 69, 70, 71, 72, 73] (by decide +kernel) (by decide +kernel)
set_option maxRecDepth 20000 in
theorem gX4_cancel_X2_save : GoodIn wsX4_cancel (wsV RX4 67 RX2 yX2_save wsX2_save) := goodIn_app (goodIn_of _ (by decide +kernel)) ggX4_cancel_X2_save
set_option maxRecDepth 20000 in
theorem ggX4_cancel_X3_cancelWhole : GoodIn wsX4_cancel wsX3_cancelWhole := goodIn_r _ [48, 43, 37, 49, 50, 51, 24, 52, 27, 38, 39, 40, 41, 59, 60, 61, 62, 63, 64, 65, 66, 67, 68, 69, 70, 71, 72, 73] (by decide +kernel) (by decide +kernel)
set_option maxRecDepth 20000 in
theorem gX4_cancel_X3_cancelWhole : GoodIn wsX4_cancel (wsV RX4 121 RX3 yX3_cancelWhole wsX3_cancelWhole) := goodIn_app (goodIn_of _ (by decide +kernel)) ggX4_cancel_X3_cancelWhole
theorem dX4_cancel_0 : decode cX4_cancel 0 = .ok (.iload_n 1, 1) := by decide +kernel
theorem dX4_cancel_1 : decode cX4_cancel 1 = .ok (.aload_n 0, 1) := by decide +kernel
theorem dX4_cancel_2 : decode cX4_cancel 2 = .ok (.getfield 10, 3) := by decide +kernel
theorem dX4_cancel_5 : decode cX4_cancel 5 = .ok (.getfield 98, 3) := by decide +kernel
theorem dX4_cancel_8 : decode cX4_cancel 8 = .ok (.invokestatic 45, 3) := by decide +kernel
theorem dX4_cancel_11 : decode cX4_cancel 11 = .ok (.aload_n 0, 1) := by decide +kernel
theorem dX4_cancel_12 : decode cX4_cancel 12 = .ok (.getfield 19, 3) := by decide +kernel
theorem dX4_cancel_15 : decode cX4_cancel 15 = .ok (.aload_n 0, 1) := by decide +kernel
theorem dX4_cancel_16 : decode cX4_cancel 16 = .ok (.getfield 10, 3) := by decide +kernel
theorem dX4_cancel_19 : decode cX4_cancel 19 = .ok (.invokevirtual 67, 3) := by decide +kernel
theorem dX4_cancel_22 : decode cX4_cancel 22 = .ok (.aload_n 0, 1) := by decide +kernel
theorem dX4_cancel_23 : decode cX4_cancel 23 = .ok (.getfield 10, 3) := by decide +kernel
theorem dX4_cancel_26 : decode cX4_cancel 26 = .ok (.iload_n 1, 1) := by decide +kernel
theorem dX4_cancel_27 : decode cX4_cancel 27 = .ok (.invokevirtual 121, 3) := by decide +kernel
theorem dX4_cancel_30 : decode cX4_cancel 30 = .ok (.aload_n 0, 1) := by decide +kernel
theorem dX4_cancel_31 : decode cX4_cancel 31 = .ok (.getfield 10, 3) := by decide +kernel
theorem dX4_cancel_34 : decode cX4_cancel 34 = .ok (.getfield 98, 3) := by decide +kernel
theorem dX4_cancel_37 : decode cX4_cancel 37 = .ok (.ireturn, 1) := by decide +kernel
set_option maxRecDepth 20000 in
theorem ggX4_renew_X4_checkIndex : GoodIn wsX4_renew wsX4_checkIndex := goodIn_ca (goodIn_r _ [10, 11, 12] (by decide +kernel) (by decide +kernel)) (goodIn_sub (fun _ h => List.mem_cons_of_mem _ (List.mem_append_right _ h)) (by decide +kernel))
set_option maxRecDepth 20000 in
theorem gX4_renew_X4_checkIndex : GoodIn wsX4_renew (va_wsS RX4 45 yX4_checkIndex wsX4_checkIndex) := goodIn_app (goodIn_of _ (by decide +kernel)) ggX4_renew_X4_checkIndex
set_option maxRecDepth 20000 in
theorem ggX4_renew_X2_save : GoodIn wsX4_renew wsX2_save := goodIn_r _ [17, 18, 19, 20, 21, 22, 16, 23, 24, 25, 26, 27, 28, 29, 30, 31, 32, 33, 34, 35, 36, 37, 38, 39, 40, 41, 42, 43, 44, 45, 46, 47, 69, 70, 54, 55, 56, 57, 58, 59, 60, 61, 62, 63, 64, 65, 66, 67, 68] (by decide +kernel) (by decide +kernel)
set_option maxRecDepth 20000 in
theorem gX4_renew_X2_save : GoodIn wsX4_renew (wsV RX4 67 RX2 yX2_save wsX2_save) := goodIn_app (goodIn_of _ (by decide +kernel)) ggX4_renew_X2_save
theorem dX4_renew_0 : decode cX4_renew 0 = .ok (.iload_n 1, 1) := by decide +kernel
theorem dX4_renew_1 : decode cX4_renew 1 = .ok (.aload_n 0, 1) := by decide +kernel
theorem dX4_renew_2 : decode cX4_renew 2 = .ok (.getfield 10, 3) := by decide +kernel
theorem dX4_renew_5 : decode cX4_renew 5 = .ok (.getfield 98, 3) := by decide +kernel
theorem dX4_renew_8 : decode cX4_renew 8 = .ok (.invokestatic 45, 3) := by decide +kernel
theorem dX4_renew_11 : decode cX4_renew 11 = .ok (.aload_n 0, 1) := by decide +kernel
theorem dX4_renew_12 : decode cX4_renew 12 = .ok (.getfield 19, 3) := by decide +kernel
theorem dX4_renew_15 : decode cX4_renew 15 = .ok (.aload_n 0, 1) := by decide +kernel
theorem dX4_renew_16 : decode cX4_renew 16 = .ok (.getfield 10, 3) := by decide +kernel
theorem dX4_renew_19 : decode cX4_renew 19 = .ok (.invokevirtual 67, 3) := by decide +kernel
theorem dX4_renew_22 : decode cX4_renew 22 = .ok (.aload_n 0, 1) := by decide +kernel
theorem dX4_renew_23 : decode cX4_renew 23 = .ok (.getfield 10, 3) := by decide +kernel
theorem dX4_renew_26 : decode cX4_renew 26 = .ok (.getfield 124, 3) := by decide +kernel
theorem dX4_renew_29 : decode cX4_renew 29 = .ok (.iload_n 1, 1) := by decide +kernel
theorem dX4_renew_30 : decode cX4_renew 30 = .ok (.iaload, 1) := by decide +kernel
theorem dX4_renew_31 : decode cX4_renew 31 = .ok (.istore_n 2, 1) := by decide +kernel
theorem dX4_renew_32 : decode cX4_renew 32 = .ok (.aload_n 0, 1) := by decide +kernel
theorem dX4_renew_33 : decode cX4_renew 33 = .ok (.getfield 10, 3) := by decide +kernel
theorem dX4_renew_36 : decode cX4_renew 36 = .ok (.getfield 124, 3) := by decide +kernel
theorem dX4_renew_39 : decode cX4_renew 39 = .ok (.iload_n 1, 1) := by decide +kernel
theorem dX4_renew_40 : decode cX4_renew 40 = .ok (.aload_n 0, 1) := by decide +kernel
theorem dX4_renew_41 : decode cX4_renew 41 = .ok (.getfield 10, 3) := by decide +kernel
theorem dX4_renew_44 : decode cX4_renew 44 = .ok (.getfield 127, 3) := by decide +kernel
theorem dX4_renew_47 : decode cX4_renew 47 = .ok (.aload_n 0, 1) := by decide +kernel
theorem dX4_renew_48 : decode cX4_renew 48 = .ok (.getfield 10, 3) := by decide +kernel
theorem dX4_renew_51 : decode cX4_renew 51 = .ok (.getfield 78, 3) := by decide +kernel
theorem dX4_renew_54 : decode cX4_renew 54 = .ok (.iconst 1, 1) := by decide +kernel
theorem dX4_renew_55 : decode cX4_renew 55 = .ok (.iaload, 1) := by decide +kernel
theorem dX4_renew_56 : decode cX4_renew 56 = .ok (.iadd, 1) := by decide +kernel
theorem dX4_renew_57 : decode cX4_renew 57 = .ok (.iastore, 1) := by decide +kernel
theorem dX4_renew_58 : decode cX4_renew 58 = .ok (.aload_n 0, 1) := by decide +kernel
theorem dX4_renew_59 : decode cX4_renew 59 = .ok (.getfield 10, 3) := by decide +kernel
theorem dX4_renew_62 : decode cX4_renew 62 = .ok (.getfield 124, 3) := by decide +kernel
theorem dX4_renew_65 : decode cX4_renew 65 = .ok (.iload_n 1, 1) := by decide +kernel
theorem dX4_renew_66 : decode cX4_renew 66 = .ok (.iaload, 1) := by decide +kernel
theorem dX4_renew_67 : decode cX4_renew 67 = .ok (.iload_n 2, 1) := by decide +kernel
theorem dX4_renew_68 : decode cX4_renew 68 = .ok (.isub, 1) := by decide +kernel
theorem dX4_renew_69 : decode cX4_renew 69 = .ok (.ireturn, 1) := by decide +kernel
set_option maxRecDepth 20000 in
theorem ggX4_finish_X4_checkIndex : GoodIn wsX4_finish wsX4_checkIndex := goodIn_ca (goodIn_r _ [8, 9, 10] (by decide +kernel) (by decide +kernel)) (goodIn_sub (fun _ h => List.mem_cons_of_mem _ (List.mem_append_right _ h)) (by decide +kernel))
set_option maxRecDepth 20000 in
theorem gX4_finish_X4_checkIndex : GoodIn wsX4_finish (va_wsS RX4 45 yX4_checkIndex wsX4_checkIndex) := goodIn_app (goodIn_of _ (by decide +kernel)) ggX4_finish_X4_checkIndex
set_option maxRecDepth 20000 in
theorem ggX4_finish_X2_save : GoodIn wsX4_finish wsX2_save := goodIn_r _ [15, 16, 17, 18, 19, 20, 14, 21, 22, 23, 24, 25, 26, 27, 28, 29, 30, 31, 32, 33, 34, 35, 36, 37, 38, 39, 40, 41, 42, 43, 44, 45, 83, 84, 68, 69, 70, 71, 72, 73, 74, 75, 76, 77, 78, 79, 80, 81, 82] (by decide +kernel) (by decide +kernel)
set_option maxRecDepth 20000 in
theorem gX4_finish_X2_save : GoodIn wsX4_finish (wsV RX4 67 RX2 yX2_save wsX2_save) := goodIn_app (goodIn_of _ (by decide +kernel)) ggX4_finish_X2_save
set_option maxRecDepth 20000 in
theorem ggX4_finish_X3_settleWhole : GoodIn wsX4_finish wsX3_settleWhole := goodIn_r _ [49, 40, 43, 38, 50, 51, 52, 25, 53, 35, 39, 41, 54, 55, 56, 57, 28, 42, 68, 69, 70, 71, 72, 73, 74, 75, 76, 77, 78, 79, 80, 81, 82] (by decide +kernel) (by decide +kernel)
set_option maxRecDepth 20000 in
theorem gX4_finish_X3_settleWhole : GoodIn wsX4_finish (wsV RX4 104 RX3 yX3_settleWhole wsX3_settleWhole) := goodIn_app (goodIn_of _ (by decide +kernel)) ggX4_finish_X3_settleWhole
set_option maxRecDepth 20000 in
theorem ggX4_finish_X3_cancelWhole : GoodIn wsX4_finish wsX3_cancelWhole := goodIn_r _ [61, 44, 38, 54, 55, 56, 25, 57, 28, 39, 40, 41, 42, 68, 69, 70, 71, 72, 73, 74, 75, 76, 77, 78, 79, 80, 81, 82] (by decide +kernel) (by decide +kernel)
set_option maxRecDepth 20000 in
theorem gX4_finish_X3_cancelWhole : GoodIn wsX4_finish (wsV RX4 121 RX3 yX3_cancelWhole wsX3_cancelWhole) := goodIn_app (goodIn_of _ (by decide +kernel)) ggX4_finish_X3_cancelWhole
theorem dX4_finish_0 : decode cX4_finish 0 = .ok (.iload_n 1, 1) := by decide +kernel
theorem dX4_finish_1 : decode cX4_finish 1 = .ok (.bipush 6, 2) := by decide +kernel
theorem dX4_finish_3 : decode cX4_finish 3 = .ok (.invokestatic 45, 3) := by decide +kernel
theorem dX4_finish_6 : decode cX4_finish 6 = .ok (.aload_n 0, 1) := by decide +kernel
theorem dX4_finish_7 : decode cX4_finish 7 = .ok (.getfield 19, 3) := by decide +kernel
theorem dX4_finish_10 : decode cX4_finish 10 = .ok (.aload_n 0, 1) := by decide +kernel
theorem dX4_finish_11 : decode cX4_finish 11 = .ok (.getfield 10, 3) := by decide +kernel
theorem dX4_finish_14 : decode cX4_finish 14 = .ok (.invokevirtual 67, 3) := by decide +kernel
theorem dX4_finish_17 : decode cX4_finish 17 = .ok (.aload_n 0, 1) := by decide +kernel
theorem dX4_finish_18 : decode cX4_finish 18 = .ok (.getfield 10, 3) := by decide +kernel
theorem dX4_finish_21 : decode cX4_finish 21 = .ok (.getfield 98, 3) := by decide +kernel
theorem dX4_finish_24 : decode cX4_finish 24 = .ok (.istore_n 3, 1) := by decide +kernel
theorem dX4_finish_25 : decode cX4_finish 25 = .ok (.iload_n 3, 1) := by decide +kernel
theorem dX4_finish_26 : decode cX4_finish 26 = .ok (.iconst 1, 1) := by decide +kernel
theorem dX4_finish_27 : decode cX4_finish 27 = .ok (.isub, 1) := by decide +kernel
theorem dX4_finish_28 : decode cX4_finish 28 = .ok (.istore 4, 2) := by decide +kernel
theorem dX4_finish_30 : decode cX4_finish 30 = .ok (.iload 4, 2) := by decide +kernel
theorem dX4_finish_32 : decode cX4_finish 32 = .ok (.ifCond .lt 51, 3) := by decide +kernel
theorem dX4_finish_35 : decode cX4_finish 35 = .ok (.aload_n 0, 1) := by decide +kernel
theorem dX4_finish_36 : decode cX4_finish 36 = .ok (.getfield 10, 3) := by decide +kernel
theorem dX4_finish_39 : decode cX4_finish 39 = .ok (.getfield 130, 3) := by decide +kernel
theorem dX4_finish_42 : decode cX4_finish 42 = .ok (.iload 4, 2) := by decide +kernel
theorem dX4_finish_44 : decode cX4_finish 44 = .ok (.iaload, 1) := by decide +kernel
theorem dX4_finish_45 : decode cX4_finish 45 = .ok (.iload_n 1, 1) := by decide +kernel
theorem dX4_finish_46 : decode cX4_finish 46 = .ok (.if_icmp .eq 6, 3) := by decide +kernel
theorem dX4_finish_49 : decode cX4_finish 49 = .ok (.goto 28, 3) := by decide +kernel
theorem dX4_finish_52 : decode cX4_finish 52 = .ok (.iload_n 2, 1) := by decide +kernel
theorem dX4_finish_53 : decode cX4_finish 53 = .ok (.ifCond .eq 15, 3) := by decide +kernel
theorem dX4_finish_56 : decode cX4_finish 56 = .ok (.aload_n 0, 1) := by decide +kernel
theorem dX4_finish_57 : decode cX4_finish 57 = .ok (.getfield 10, 3) := by decide +kernel
theorem dX4_finish_60 : decode cX4_finish 60 = .ok (.iload 4, 2) := by decide +kernel
theorem dX4_finish_62 : decode cX4_finish 62 = .ok (.invokevirtual 104, 3) := by decide +kernel
theorem dX4_finish_65 : decode cX4_finish 65 = .ok (.goto 12, 3) := by decide +kernel
theorem dX4_finish_68 : decode cX4_finish 68 = .ok (.aload_n 0, 1) := by decide +kernel
theorem dX4_finish_69 : decode cX4_finish 69 = .ok (.getfield 10, 3) := by decide +kernel
theorem dX4_finish_72 : decode cX4_finish 72 = .ok (.iload 4, 2) := by decide +kernel
theorem dX4_finish_74 : decode cX4_finish 74 = .ok (.invokevirtual 121, 3) := by decide +kernel
theorem dX4_finish_77 : decode cX4_finish 77 = .ok (.iinc 4 (-1), 3) := by decide +kernel
theorem dX4_finish_80 : decode cX4_finish 80 = .ok (.goto (-50), 3) := by decide +kernel
theorem dX4_finish_83 : decode cX4_finish 83 = .ok (.iload_n 3, 1) := by decide +kernel
theorem dX4_finish_84 : decode cX4_finish 84 = .ok (.aload_n 0, 1) := by decide +kernel
theorem dX4_finish_85 : decode cX4_finish 85 = .ok (.getfield 10, 3) := by decide +kernel
theorem dX4_finish_88 : decode cX4_finish 88 = .ok (.getfield 98, 3) := by decide +kernel
theorem dX4_finish_91 : decode cX4_finish 91 = .ok (.isub, 1) := by decide +kernel
theorem dX4_finish_92 : decode cX4_finish 92 = .ok (.ireturn, 1) := by decide +kernel
set_option maxRecDepth 20000 in
theorem ggX4_pass_X4_checkArgument : GoodIn wsX4_pass wsX4_checkArgument := goodIn_ca (goodIn_r _ [11, 12, 13] (by decide +kernel) (by decide +kernel)) (goodIn_sub (fun _ h => List.mem_cons_of_mem _ (List.mem_append_right _ h)) (by decide +kernel))
set_option maxRecDepth 20000 in
theorem gX4_pass_X4_checkArgument : GoodIn wsX4_pass (va_wsS RX4 49 yX4_checkArgument wsX4_checkArgument) := goodIn_app (goodIn_of _ (by decide +kernel)) ggX4_pass_X4_checkArgument
set_option maxRecDepth 20000 in
theorem ggX4_pass_X2_save : GoodIn wsX4_pass wsX2_save := goodIn_r _ [18, 19, 20, 21, 22, 23, 17, 24, 25, 26, 27, 28, 29, 30, 31, 32, 33, 34, 35, 36, 37, 38, 39, 40, 41, 42, 43, 44, 45, 46, 47, 48, 78, 79, 63, 64, 65, 66, 67, 68, 69, 70, 71, 72, 73, 74, 75, 76, 77] (by decide +kernel) (by decide +kernel)
set_option maxRecDepth 20000 in
theorem gX4_pass_X2_save : GoodIn wsX4_pass (wsV RX4 67 RX2 yX2_save wsX2_save) := goodIn_app (goodIn_of _ (by decide +kernel)) ggX4_pass_X2_save
set_option maxRecDepth 20000 in
theorem ggX4_pass_X3_lapse : GoodIn wsX4_pass wsX3_lapse := goodIn_r _ [52, 48, 41, 53, 54, 55, 28, 56, 31, 42, 43, 44, 45, 63, 64, 65, 66, 67, 68, 69, 70, 71, 72, 73, 74, 75, 76, 77] (by decide +kernel) (by decide +kernel)
set_option maxRecDepth 20000 in
theorem gX4_pass_X3_lapse : GoodIn wsX4_pass (wsV RX4 135 RX3 yX3_lapse wsX3_lapse) := goodIn_app (goodIn_of _ (by decide +kernel)) ggX4_pass_X3_lapse
theorem dX4_pass_0 : decode cX4_pass 0 = .ok (.iload_n 1, 1) := by decide +kernel
theorem dX4_pass_1 : decode cX4_pass 1 = .ok (.iconst 1, 1) := by decide +kernel
theorem dX4_pass_2 : decode cX4_pass 2 = .ok (.bipush 99, 2) := by decide +kernel
theorem dX4_pass_4 : decode cX4_pass 4 = .ok (.invokestatic 49, 3) := by decide +kernel
theorem dX4_pass_7 : decode cX4_pass 7 = .ok (.aload_n 0, 1) := by decide +kernel
theorem dX4_pass_8 : decode cX4_pass 8 = .ok (.getfield 10, 3) := by decide +kernel
theorem dX4_pass_11 : decode cX4_pass 11 = .ok (.getfield 127, 3) := by decide +kernel
theorem dX4_pass_14 : decode cX4_pass 14 = .ok (.iload_n 1, 1) := by decide +kernel
theorem dX4_pass_15 : decode cX4_pass 15 = .ok (.iadd, 1) := by decide +kernel
theorem dX4_pass_16 : decode cX4_pass 16 = .ok (.sipush 9999, 3) := by decide +kernel
theorem dX4_pass_19 : decode cX4_pass 19 = .ok (.if_icmp .le 13, 3) := by decide +kernel
theorem dX4_pass_22 : decode cX4_pass 22 = .ok (.new 60, 3) := by decide +kernel
theorem dX4_pass_25 : decode cX4_pass 25 = .ok (.dup, 1) := by decide +kernel
theorem dX4_pass_26 : decode cX4_pass 26 = .ok (.ldc 133, 2) := by decide +kernel
theorem dX4_pass_28 : decode cX4_pass 28 = .ok (.invokespecial 64, 3) := by decide +kernel
theorem dX4_pass_31 : decode cX4_pass 31 = .ok (.athrow, 1) := by decide +kernel
theorem dX4_pass_32 : decode cX4_pass 32 = .ok (.aload_n 0, 1) := by decide +kernel
theorem dX4_pass_33 : decode cX4_pass 33 = .ok (.getfield 19, 3) := by decide +kernel
theorem dX4_pass_36 : decode cX4_pass 36 = .ok (.aload_n 0, 1) := by decide +kernel
theorem dX4_pass_37 : decode cX4_pass 37 = .ok (.getfield 10, 3) := by decide +kernel
theorem dX4_pass_40 : decode cX4_pass 40 = .ok (.invokevirtual 67, 3) := by decide +kernel
theorem dX4_pass_43 : decode cX4_pass 43 = .ok (.aload_n 0, 1) := by decide +kernel
theorem dX4_pass_44 : decode cX4_pass 44 = .ok (.getfield 10, 3) := by decide +kernel
theorem dX4_pass_47 : decode cX4_pass 47 = .ok (.getfield 98, 3) := by decide +kernel
theorem dX4_pass_50 : decode cX4_pass 50 = .ok (.istore_n 2, 1) := by decide +kernel
theorem dX4_pass_51 : decode cX4_pass 51 = .ok (.aload_n 0, 1) := by decide +kernel
theorem dX4_pass_52 : decode cX4_pass 52 = .ok (.getfield 10, 3) := by decide +kernel
theorem dX4_pass_55 : decode cX4_pass 55 = .ok (.dup, 1) := by decide +kernel
theorem dX4_pass_56 : decode cX4_pass 56 = .ok (.getfield 127, 3) := by decide +kernel
theorem dX4_pass_59 : decode cX4_pass 59 = .ok (.iload_n 1, 1) := by decide +kernel
theorem dX4_pass_60 : decode cX4_pass 60 = .ok (.iadd, 1) := by decide +kernel
theorem dX4_pass_61 : decode cX4_pass 61 = .ok (.putfield 127, 3) := by decide +kernel
theorem dX4_pass_64 : decode cX4_pass 64 = .ok (.iload_n 2, 1) := by decide +kernel
theorem dX4_pass_65 : decode cX4_pass 65 = .ok (.iconst 1, 1) := by decide +kernel
theorem dX4_pass_66 : decode cX4_pass 66 = .ok (.isub, 1) := by decide +kernel
theorem dX4_pass_67 : decode cX4_pass 67 = .ok (.istore_n 3, 1) := by decide +kernel
theorem dX4_pass_68 : decode cX4_pass 68 = .ok (.iload_n 3, 1) := by decide +kernel
theorem dX4_pass_69 : decode cX4_pass 69 = .ok (.ifCond .lt 36, 3) := by decide +kernel
theorem dX4_pass_72 : decode cX4_pass 72 = .ok (.aload_n 0, 1) := by decide +kernel
theorem dX4_pass_73 : decode cX4_pass 73 = .ok (.getfield 10, 3) := by decide +kernel
theorem dX4_pass_76 : decode cX4_pass 76 = .ok (.getfield 124, 3) := by decide +kernel
theorem dX4_pass_79 : decode cX4_pass 79 = .ok (.iload_n 3, 1) := by decide +kernel
theorem dX4_pass_80 : decode cX4_pass 80 = .ok (.iaload, 1) := by decide +kernel
theorem dX4_pass_81 : decode cX4_pass 81 = .ok (.aload_n 0, 1) := by decide +kernel
theorem dX4_pass_82 : decode cX4_pass 82 = .ok (.getfield 10, 3) := by decide +kernel
theorem dX4_pass_85 : decode cX4_pass 85 = .ok (.getfield 127, 3) := by decide +kernel
theorem dX4_pass_88 : decode cX4_pass 88 = .ok (.if_icmp .gt 11, 3) := by decide +kernel
theorem dX4_pass_91 : decode cX4_pass 91 = .ok (.aload_n 0, 1) := by decide +kernel
theorem dX4_pass_92 : decode cX4_pass 92 = .ok (.getfield 10, 3) := by decide +kernel
theorem dX4_pass_95 : decode cX4_pass 95 = .ok (.iload_n 3, 1) := by decide +kernel
theorem dX4_pass_96 : decode cX4_pass 96 = .ok (.invokevirtual 135, 3) := by decide +kernel
theorem dX4_pass_99 : decode cX4_pass 99 = .ok (.iinc 3 (-1), 3) := by decide +kernel
theorem dX4_pass_102 : decode cX4_pass 102 = .ok (.goto (-34), 3) := by decide +kernel
theorem dX4_pass_105 : decode cX4_pass 105 = .ok (.iload_n 2, 1) := by decide +kernel
theorem dX4_pass_106 : decode cX4_pass 106 = .ok (.aload_n 0, 1) := by decide +kernel
theorem dX4_pass_107 : decode cX4_pass 107 = .ok (.getfield 10, 3) := by decide +kernel
theorem dX4_pass_110 : decode cX4_pass 110 = .ok (.getfield 98, 3) := by decide +kernel
theorem dX4_pass_113 : decode cX4_pass 113 = .ok (.isub, 1) := by decide +kernel
theorem dX4_pass_114 : decode cX4_pass 114 = .ok (.ireturn, 1) := by decide +kernel
set_option maxRecDepth 20000 in
theorem ggX4_append_X4_checkArgument : GoodIn wsX4_append wsX4_checkArgument := goodIn_ca (goodIn_r _ [8, 9, 10] (by decide +kernel) (by decide +kernel)) (goodIn_sub (fun _ h => List.mem_cons_of_mem _ (List.mem_append_right _ h)) (by decide +kernel))
set_option maxRecDepth 20000 in
theorem gX4_append_X4_checkArgument : GoodIn wsX4_append (va_wsS RX4 49 yX4_checkArgument wsX4_checkArgument) := goodIn_app (goodIn_of _ (by decide +kernel)) ggX4_append_X4_checkArgument
theorem dX4_append_0 : decode cX4_append 0 = .ok (.iload_n 1, 1) := by decide +kernel
theorem dX4_append_1 : decode cX4_append 1 = .ok (.bipush 33, 2) := by decide +kernel
theorem dX4_append_3 : decode cX4_append 3 = .ok (.bipush 126, 2) := by decide +kernel
theorem dX4_append_5 : decode cX4_append 5 = .ok (.invokestatic 49, 3) := by decide +kernel
theorem dX4_append_8 : decode cX4_append 8 = .ok (.aload_n 0, 1) := by decide +kernel
theorem dX4_append_9 : decode cX4_append 9 = .ok (.getfield 41, 3) := by decide +kernel
theorem dX4_append_12 : decode cX4_append 12 = .ok (.bipush 60, 2) := by decide +kernel
theorem dX4_append_14 : decode cX4_append 14 = .ok (.if_icmp .lt 13, 3) := by decide +kernel
theorem dX4_append_17 : decode cX4_append 17 = .ok (.new 60, 3) := by decide +kernel
theorem dX4_append_20 : decode cX4_append 20 = .ok (.dup, 1) := by decide +kernel
theorem dX4_append_21 : decode cX4_append 21 = .ok (.ldc 138, 2) := by decide +kernel
theorem dX4_append_23 : decode cX4_append 23 = .ok (.invokespecial 64, 3) := by decide +kernel
theorem dX4_append_26 : decode cX4_append 26 = .ok (.athrow, 1) := by decide +kernel
theorem dX4_append_27 : decode cX4_append 27 = .ok (.aload_n 0, 1) := by decide +kernel
theorem dX4_append_28 : decode cX4_append 28 = .ok (.getfield 37, 3) := by decide +kernel
theorem dX4_append_31 : decode cX4_append 31 = .ok (.aload_n 0, 1) := by decide +kernel
theorem dX4_append_32 : decode cX4_append 32 = .ok (.getfield 41, 3) := by decide +kernel
theorem dX4_append_35 : decode cX4_append 35 = .ok (.iload_n 1, 1) := by decide +kernel
theorem dX4_append_36 : decode cX4_append 36 = .ok (.i2c, 1) := by decide +kernel
theorem dX4_append_37 : decode cX4_append 37 = .ok (.castore, 1) := by decide +kernel
theorem dX4_append_38 : decode cX4_append 38 = .ok (.aload_n 0, 1) := by decide +kernel
theorem dX4_append_39 : decode cX4_append 39 = .ok (.dup, 1) := by decide +kernel
theorem dX4_append_40 : decode cX4_append 40 = .ok (.getfield 41, 3) := by decide +kernel
theorem dX4_append_43 : decode cX4_append 43 = .ok (.iconst 1, 1) := by decide +kernel
theorem dX4_append_44 : decode cX4_append 44 = .ok (.iadd, 1) := by decide +kernel
theorem dX4_append_45 : decode cX4_append 45 = .ok (.putfield 41, 3) := by decide +kernel
theorem dX4_append_48 : decode cX4_append 48 = .ok (.aload_n 0, 1) := by decide +kernel
theorem dX4_append_49 : decode cX4_append 49 = .ok (.getfield 41, 3) := by decide +kernel
theorem dX4_append_52 : decode cX4_append 52 = .ok (.ireturn, 1) := by decide +kernel
theorem dX4_clearBuffer_0 : decode cX4_clearBuffer 0 = .ok (.aload_n 0, 1) := by decide +kernel
theorem dX4_clearBuffer_1 : decode cX4_clearBuffer 1 = .ok (.getfield 41, 3) := by decide +kernel
theorem dX4_clearBuffer_4 : decode cX4_clearBuffer 4 = .ok (.istore_n 1, 1) := by decide +kernel
theorem dX4_clearBuffer_5 : decode cX4_clearBuffer 5 = .ok (.aload_n 0, 1) := by decide +kernel
theorem dX4_clearBuffer_6 : decode cX4_clearBuffer 6 = .ok (.iconst 0, 1) := by decide +kernel
theorem dX4_clearBuffer_7 : decode cX4_clearBuffer 7 = .ok (.putfield 41, 3) := by decide +kernel
theorem dX4_clearBuffer_10 : decode cX4_clearBuffer 10 = .ok (.iload_n 1, 1) := by decide +kernel
theorem dX4_clearBuffer_11 : decode cX4_clearBuffer 11 = .ok (.ireturn, 1) := by decide +kernel
set_option maxRecDepth 20000 in
theorem ggX4_firstError_X0_begin : GoodIn wsX4_firstError wsX0_begin := goodIn_r _ [8, 9, 60, 61, 62, 63, 64, 65] (by decide +kernel) (by decide +kernel)
set_option maxRecDepth 20000 in
theorem gX4_firstError_X0_begin : GoodIn wsX4_firstError (wsV RX4 140 RX0 yX0_begin wsX0_begin) := goodIn_app (goodIn_of _ (by decide +kernel)) ggX4_firstError_X0_begin
set_option maxRecDepth 20000 in
theorem ggX4_firstError_X0_reads : GoodIn wsX4_firstError wsX0_reads := goodIn_r _ [13, 9, 14, 15, 16, 7, 17, 18, 19, 20, 21, 22, 23, 24, 25, 26, 27, 28, 29, 30, 31, 32, 33, 34, 35, 36, 37, 38, 39, 40, 41, 42, 43, 44, 45, 46, 47, 48, 49, 50, 51, 52, 53, 60, 61, 62, 63, 64, 65] (by decide +kernel) (by decide +kernel)
set_option maxRecDepth 20000 in
theorem gX4_firstError_X0_reads : GoodIn wsX4_firstError (wsV RX4 143 RX0 yX0_reads wsX0_reads) := goodIn_app (goodIn_of _ (by decide +kernel)) ggX4_firstError_X0_reads
theorem dX4_firstError_0 : decode cX4_firstError 0 = .ok (.aload_n 0, 1) := by decide +kernel
theorem dX4_firstError_1 : decode cX4_firstError 1 = .ok (.getfield 33, 3) := by decide +kernel
theorem dX4_firstError_4 : decode cX4_firstError 4 = .ok (.invokevirtual 140, 3) := by decide +kernel
theorem dX4_firstError_7 : decode cX4_firstError 7 = .ok (.iconst 0, 1) := by decide +kernel
theorem dX4_firstError_8 : decode cX4_firstError 8 = .ok (.istore_n 1, 1) := by decide +kernel
theorem dX4_firstError_9 : decode cX4_firstError 9 = .ok (.iload_n 1, 1) := by decide +kernel
theorem dX4_firstError_10 : decode cX4_firstError 10 = .ok (.aload_n 0, 1) := by decide +kernel
theorem dX4_firstError_11 : decode cX4_firstError 11 = .ok (.getfield 41, 3) := by decide +kernel
theorem dX4_firstError_14 : decode cX4_firstError 14 = .ok (.if_icmp .ge 27, 3) := by decide +kernel
theorem dX4_firstError_17 : decode cX4_firstError 17 = .ok (.aload_n 0, 1) := by decide +kernel
theorem dX4_firstError_18 : decode cX4_firstError 18 = .ok (.getfield 33, 3) := by decide +kernel
theorem dX4_firstError_21 : decode cX4_firstError 21 = .ok (.aload_n 0, 1) := by decide +kernel
theorem dX4_firstError_22 : decode cX4_firstError 22 = .ok (.getfield 37, 3) := by decide +kernel
theorem dX4_firstError_25 : decode cX4_firstError 25 = .ok (.iload_n 1, 1) := by decide +kernel
theorem dX4_firstError_26 : decode cX4_firstError 26 = .ok (.caload, 1) := by decide +kernel
theorem dX4_firstError_27 : decode cX4_firstError 27 = .ok (.invokevirtual 143, 3) := by decide +kernel
theorem dX4_firstError_30 : decode cX4_firstError 30 = .ok (.ifCond .ne 5, 3) := by decide +kernel
theorem dX4_firstError_33 : decode cX4_firstError 33 = .ok (.iload_n 1, 1) := by decide +kernel
theorem dX4_firstError_34 : decode cX4_firstError 34 = .ok (.ireturn, 1) := by decide +kernel
theorem dX4_firstError_35 : decode cX4_firstError 35 = .ok (.iinc 1 1, 3) := by decide +kernel
theorem dX4_firstError_38 : decode cX4_firstError 38 = .ok (.goto (-29), 3) := by decide +kernel
theorem dX4_firstError_41 : decode cX4_firstError 41 = .ok (.aload_n 0, 1) := by decide +kernel
theorem dX4_firstError_42 : decode cX4_firstError 42 = .ok (.getfield 41, 3) := by decide +kernel
theorem dX4_firstError_45 : decode cX4_firstError 45 = .ok (.ireturn, 1) := by decide +kernel
set_option maxRecDepth 20000 in
theorem ggX4_promiseAll_X4_firstError : GoodIn wsX4_promiseAll wsX4_firstError := goodIn_r _ [11, 4, 3, 12, 13, 14, 15, 16, 17, 18, 19, 20, 21, 22, 23, 24, 25, 26, 27, 28, 29, 30, 31, 32, 33, 34, 35, 36, 37, 38, 39, 40, 41, 42, 43, 44, 45, 46, 47, 48, 49, 50, 51, 52, 53, 54, 55, 56, 57, 58, 59, 60, 61, 62, 156, 157, 158, 159, 160, 161, 162, 163, 164, 165, 166, 167] (by decide +kernel) (by decide +kernel)
set_option maxRecDepth 20000 in
theorem gX4_promiseAll_X4_firstError : GoodIn wsX4_promiseAll (wsV RX4 147 RX4 yX4_firstError wsX4_firstError) := goodIn_app (goodIn_of _ (by decide +kernel)) ggX4_promiseAll_X4_firstError
set_option maxRecDepth 20000 in
theorem ggX4_promiseAll_X0_isComplete : GoodIn wsX4_promiseAll wsX0_isComplete := goodIn_r _ [66, 18, 162, 163, 164, 165, 166, 167] (by decide +kernel) (by decide +kernel)
set_option maxRecDepth 20000 in
theorem gX4_promiseAll_X0_isComplete : GoodIn wsX4_promiseAll (wsV RX4 151 RX0 yX0_isComplete wsX0_isComplete) := goodIn_app (goodIn_of _ (by decide +kernel)) ggX4_promiseAll_X0_isComplete
set_option maxRecDepth 20000 in
theorem ggX4_promiseAll_X2_save : GoodIn wsX4_promiseAll wsX2_save := goodIn_r _ [71, 72, 73, 74, 75, 76, 70, 77, 78, 79, 80, 81, 82, 83, 84, 85, 86, 87, 88, 89, 90, 91, 92, 93, 94, 95, 96, 97, 98, 99, 100, 101, 168, 169, 170, 171, 172, 173, 174, 175, 176, 177, 178, 179, 180, 181, 182, 183, 184] (by decide +kernel) (by decide +kernel)
set_option maxRecDepth 20000 in
theorem gX4_promiseAll_X2_save : GoodIn wsX4_promiseAll (wsV RX4 67 RX2 yX2_save wsX2_save) := goodIn_app (goodIn_of _ (by decide +kernel)) ggX4_promiseAll_X2_save
set_option maxRecDepth 20000 in
theorem ggX4_promiseAll_X4_promiseParts : GoodIn wsX4_promiseAll wsX4_promiseParts := goodIn_r _ [105, 4, 3, 12, 6, 106, 107, 108, 13, 14, 15, 16, 17, 18, 19, 20, 21, 22, 23, 24, 25, 26, 27, 28, 29, 30, 31, 32, 33, 34, 35, 36, 37, 38, 39, 40, 41, 42, 43, 44, 45, 46, 47, 48, 49, 50, 51, 52, 53, 54, 55, 56, 57, 58, 59, 60, 61, 62, 109, 110, 111, 112, 113, 114, 115, 81, 116, 83, 117, 118, 119, 120, 84, 86, 121, 122, 123, 124, 94, 125, 126, 127, 128, 92, 129, 130, 131, 132, 91, 98, 133, 134, 135, 136, 137, 138, 139, 140, 95, 96, 97, 141, 142, 143, 144, 93, 145, 146, 147, 148, 149, 150, 151, 152, 153, 154, 155, 85, 156, 157, 158, 159, 160, 161, 162, 163, 164, 165, 166, 167, 170, 171, 172, 173, 174, 175, 176, 177, 178, 179, 180, 181, 182, 183, 184] (by decide +kernel) (by decide +kernel)
set_option maxRecDepth 20000 in
theorem gX4_promiseAll_X4_promiseParts : GoodIn wsX4_promiseAll (wsV RX4 157 RX4 yX4_promiseParts wsX4_promiseParts) := goodIn_app (goodIn_of _ (by decide +kernel)) ggX4_promiseAll_X4_promiseParts
theorem dX4_promiseAll_0 : decode cX4_promiseAll 0 = .ok (.aload_n 0, 1) := by decide +kernel
theorem dX4_promiseAll_1 : decode cX4_promiseAll 1 = .ok (.invokevirtual 147, 3) := by decide +kernel
theorem dX4_promiseAll_4 : decode cX4_promiseAll 4 = .ok (.aload_n 0, 1) := by decide +kernel
theorem dX4_promiseAll_5 : decode cX4_promiseAll 5 = .ok (.getfield 41, 3) := by decide +kernel
theorem dX4_promiseAll_8 : decode cX4_promiseAll 8 = .ok (.if_icmp .lt 13, 3) := by decide +kernel
theorem dX4_promiseAll_11 : decode cX4_promiseAll 11 = .ok (.aload_n 0, 1) := by decide +kernel
theorem dX4_promiseAll_12 : decode cX4_promiseAll 12 = .ok (.getfield 33, 3) := by decide +kernel
theorem dX4_promiseAll_15 : decode cX4_promiseAll 15 = .ok (.invokevirtual 151, 3) := by decide +kernel
theorem dX4_promiseAll_18 : decode cX4_promiseAll 18 = .ok (.ifCond .ne 13, 3) := by decide +kernel
theorem dX4_promiseAll_21 : decode cX4_promiseAll 21 = .ok (.new 93, 3) := by decide +kernel
theorem dX4_promiseAll_24 : decode cX4_promiseAll 24 = .ok (.dup, 1) := by decide +kernel
theorem dX4_promiseAll_25 : decode cX4_promiseAll 25 = .ok (.ldc 155, 2) := by decide +kernel
theorem dX4_promiseAll_27 : decode cX4_promiseAll 27 = .ok (.invokespecial 97, 3) := by decide +kernel
theorem dX4_promiseAll_30 : decode cX4_promiseAll 30 = .ok (.athrow, 1) := by decide +kernel
theorem dX4_promiseAll_31 : decode cX4_promiseAll 31 = .ok (.aload_n 0, 1) := by decide +kernel
theorem dX4_promiseAll_32 : decode cX4_promiseAll 32 = .ok (.getfield 19, 3) := by decide +kernel
theorem dX4_promiseAll_35 : decode cX4_promiseAll 35 = .ok (.aload_n 0, 1) := by decide +kernel
theorem dX4_promiseAll_36 : decode cX4_promiseAll 36 = .ok (.getfield 10, 3) := by decide +kernel
theorem dX4_promiseAll_39 : decode cX4_promiseAll 39 = .ok (.invokevirtual 67, 3) := by decide +kernel
theorem dX4_promiseAll_42 : decode cX4_promiseAll 42 = .ok (.aload_n 0, 1) := by decide +kernel
theorem dX4_promiseAll_43 : decode cX4_promiseAll 43 = .ok (.invokevirtual 157, 3) := by decide +kernel
theorem dX4_promiseAll_46 : decode cX4_promiseAll 46 = .ok (.istore_n 1, 1) := by decide +kernel
theorem dX4_promiseAll_47 : decode cX4_promiseAll 47 = .ok (.aload_n 0, 1) := by decide +kernel
theorem dX4_promiseAll_48 : decode cX4_promiseAll 48 = .ok (.iconst 0, 1) := by decide +kernel
theorem dX4_promiseAll_49 : decode cX4_promiseAll 49 = .ok (.putfield 41, 3) := by decide +kernel
theorem dX4_promiseAll_52 : decode cX4_promiseAll 52 = .ok (.iload_n 1, 1) := by decide +kernel
theorem dX4_promiseAll_53 : decode cX4_promiseAll 53 = .ok (.ireturn, 1) := by decide +kernel
set_option maxRecDepth 20000 in
theorem ggX4_undo_X2_restoreInto : GoodIn wsX4_undo wsX2_restoreInto := goodIn_r _ [10, 11, 12, 13, 14, 15, 16, 17, 18, 19, 20, 21, 22, 23, 24, 25, 26, 27, 28, 29, 30, 31, 32, 33, 34, 35, 36, 43, 44, 45, 46, 47, 48, 49, 50, 51, 52, 53, 54, 55, 56, 57, 58, 59] (by decide +kernel) (by decide +kernel)
set_option maxRecDepth 20000 in
theorem gX4_undo_X2_restoreInto : GoodIn wsX4_undo (wsV RX4 165 RX2 yX2_restoreInto wsX2_restoreInto) := goodIn_app (goodIn_of _ (by decide +kernel)) ggX4_undo_X2_restoreInto
theorem dX4_undo_0 : decode cX4_undo 0 = .ok (.aload_n 0, 1) := by decide +kernel
theorem dX4_undo_1 : decode cX4_undo 1 = .ok (.getfield 19, 3) := by decide +kernel
theorem dX4_undo_4 : decode cX4_undo 4 = .ok (.getfield 160, 3) := by decide +kernel
theorem dX4_undo_7 : decode cX4_undo 7 = .ok (.ifCond .ne 13, 3) := by decide +kernel
theorem dX4_undo_10 : decode cX4_undo 10 = .ok (.new 60, 3) := by decide +kernel
theorem dX4_undo_13 : decode cX4_undo 13 = .ok (.dup, 1) := by decide +kernel
