theorem dX5_ofOwner_74 : decode cX5_ofOwner 74 = .ok (.iload_n 3, 1) := by decide +kernel
theorem dX5_ofOwner_75 : decode cX5_ofOwner 75 = .ok (.iload 5, 2) := by decide +kernel
theorem dX5_ofOwner_77 : decode cX5_ofOwner 77 = .ok (.ifCond .ge 9, 3) := by decide +kernel
theorem dX5_ofOwner_80 : decode cX5_ofOwner 80 = .ok (.iload 5, 2) := by decide +kernel
theorem dX5_ofOwner_82 : decode cX5_ofOwner 82 = .ok (.ineg, 1) := by decide +kernel
theorem dX5_ofOwner_83 : decode cX5_ofOwner 83 = .ok (.goto 5, 3) := by decide +kernel
theorem dX5_ofOwner_86 : decode cX5_ofOwner 86 = .ok (.iload 5, 2) := by decide +kernel
theorem dX5_ofOwner_88 : decode cX5_ofOwner 88 = .ok (.iadd, 1) := by decide +kernel
theorem dX5_ofOwner_89 : decode cX5_ofOwner 89 = .ok (.istore_n 3, 1) := by decide +kernel
theorem dX5_ofOwner_90 : decode cX5_ofOwner 90 = .ok (.iinc 4 1, 3) := by decide +kernel
theorem dX5_ofOwner_93 : decode cX5_ofOwner 93 = .ok (.goto (-54), 3) := by decide +kernel
theorem dX5_ofOwner_96 : decode cX5_ofOwner 96 = .ok (.iload_n 3, 1) := by decide +kernel
theorem dX5_ofOwner_97 : decode cX5_ofOwner 97 = .ok (.ireturn, 1) := by decide +kernel
set_option maxRecDepth 20000 in
theorem ggX5_owner_X5_isOwner : GoodIn wsX5_owner wsX5_isOwner := goodIn_r _ [5, 6, 7, 4, 8] (by decide +kernel) (by decide +kernel)
set_option maxRecDepth 20000 in
theorem gX5_owner_X5_isOwner : GoodIn wsX5_owner (va_wsS RX5 74 yX5_isOwner wsX5_isOwner) := goodIn_app (goodIn_of _ (by decide +kernel)) ggX5_owner_X5_isOwner
set_option maxRecDepth 20000 in
theorem ggX5_owner_X5_fails : GoodIn wsX5_owner wsX5_fails := goodIn_r _ [12, 1, 26, 27, 28, 29, 30, 31, 32, 33, 34, 35, 36, 37] (by decide +kernel) (by decide +kernel)
set_option maxRecDepth 20000 in
theorem gX5_owner_X5_fails : GoodIn wsX5_owner (wsV RX5 36 RX5 yX5_fails wsX5_fails) := goodIn_app (goodIn_of _ (by decide +kernel)) ggX5_owner_X5_fails
set_option maxRecDepth 20000 in
theorem ggX5_owner_X5_in : GoodIn wsX5_owner wsX5_in := goodIn_r _ [8] (by decide +kernel) (by decide +kernel)
set_option maxRecDepth 20000 in
theorem gX5_owner_X5_in : GoodIn wsX5_owner (va_wsS RX5 29 yX5_in wsX5_in) := goodIn_app (goodIn_of _ (by decide +kernel)) ggX5_owner_X5_in
set_option maxRecDepth 20000 in
theorem ggX5_owner_X5_ofOwner : GoodIn wsX5_owner wsX5_ofOwner := goodIn_r _ [16, 17, 18, 19, 20, 4, 21, 22, 23, 24, 25, 26, 27, 28, 29, 30, 31, 32, 33, 34, 35, 36, 37] (by decide +kernel) (by decide +kernel)
set_option maxRecDepth 20000 in
theorem gX5_owner_X5_ofOwner : GoodIn wsX5_owner (wsV RX5 145 RX5 yX5_ofOwner wsX5_ofOwner) := goodIn_app (goodIn_of _ (by decide +kernel)) ggX5_owner_X5_ofOwner
theorem dX5_owner_0 : decode cX5_owner 0 = .ok (.aload_n 0, 1) := by decide +kernel
theorem dX5_owner_1 : decode cX5_owner 1 = .ok (.iconst 0, 1) := by decide +kernel
theorem dX5_owner_2 : decode cX5_owner 2 = .ok (.putfield 25, 3) := by decide +kernel
theorem dX5_owner_5 : decode cX5_owner 5 = .ok (.iload_n 1, 1) := by decide +kernel
theorem dX5_owner_6 : decode cX5_owner 6 = .ok (.invokestatic 74, 3) := by decide +kernel
theorem dX5_owner_9 : decode cX5_owner 9 = .ok (.ifCond .ne 9, 3) := by decide +kernel
theorem dX5_owner_12 : decode cX5_owner 12 = .ok (.aload_n 0, 1) := by decide +kernel
theorem dX5_owner_13 : decode cX5_owner 13 = .ok (.iconst 1, 1) := by decide +kernel
theorem dX5_owner_14 : decode cX5_owner 14 = .ok (.invokevirtual 36, 3) := by decide +kernel
theorem dX5_owner_17 : decode cX5_owner 17 = .ok (.ireturn, 1) := by decide +kernel
theorem dX5_owner_18 : decode cX5_owner 18 = .ok (.iload_n 2, 1) := by decide +kernel
theorem dX5_owner_19 : decode cX5_owner 19 = .ok (.iconst 0, 1) := by decide +kernel
theorem dX5_owner_20 : decode cX5_owner 20 = .ok (.iconst 4, 1) := by decide +kernel
theorem dX5_owner_21 : decode cX5_owner 21 = .ok (.invokestatic 29, 3) := by decide +kernel
theorem dX5_owner_24 : decode cX5_owner 24 = .ok (.ifCond .eq 12, 3) := by decide +kernel
theorem dX5_owner_27 : decode cX5_owner 27 = .ok (.aload_n 0, 1) := by decide +kernel
theorem dX5_owner_28 : decode cX5_owner 28 = .ok (.iload_n 1, 1) := by decide +kernel
theorem dX5_owner_29 : decode cX5_owner 29 = .ok (.iload_n 2, 1) := by decide +kernel
theorem dX5_owner_30 : decode cX5_owner 30 = .ok (.invokevirtual 145, 3) := by decide +kernel
theorem dX5_owner_33 : decode cX5_owner 33 = .ok (.goto 8, 3) := by decide +kernel
theorem dX5_owner_36 : decode cX5_owner 36 = .ok (.aload_n 0, 1) := by decide +kernel
theorem dX5_owner_37 : decode cX5_owner 37 = .ok (.iconst 2, 1) := by decide +kernel
theorem dX5_owner_38 : decode cX5_owner 38 = .ok (.invokevirtual 36, 3) := by decide +kernel
theorem dX5_owner_41 : decode cX5_owner 41 = .ok (.ireturn, 1) := by decide +kernel
theorem dX5_ended_0 : decode cX5_ended 0 = .ok (.iconst 0, 1) := by decide +kernel
theorem dX5_ended_1 : decode cX5_ended 1 = .ok (.istore_n 2, 1) := by decide +kernel
theorem dX5_ended_2 : decode cX5_ended 2 = .ok (.iconst 0, 1) := by decide +kernel
theorem dX5_ended_3 : decode cX5_ended 3 = .ok (.istore_n 3, 1) := by decide +kernel
theorem dX5_ended_4 : decode cX5_ended 4 = .ok (.iload_n 3, 1) := by decide +kernel
theorem dX5_ended_5 : decode cX5_ended 5 = .ok (.bipush 6, 2) := by decide +kernel
theorem dX5_ended_7 : decode cX5_ended 7 = .ok (.if_icmp .ge 20, 3) := by decide +kernel
theorem dX5_ended_10 : decode cX5_ended 10 = .ok (.iload_n 2, 1) := by decide +kernel
theorem dX5_ended_11 : decode cX5_ended 11 = .ok (.aload_n 0, 1) := by decide +kernel
theorem dX5_ended_12 : decode cX5_ended 12 = .ok (.getfield 7, 3) := by decide +kernel
theorem dX5_ended_15 : decode cX5_ended 15 = .ok (.iload_n 1, 1) := by decide +kernel
theorem dX5_ended_16 : decode cX5_ended 16 = .ok (.iload_n 3, 1) := by decide +kernel
theorem dX5_ended_17 : decode cX5_ended 17 = .ok (.iadd, 1) := by decide +kernel
theorem dX5_ended_18 : decode cX5_ended 18 = .ok (.iaload, 1) := by decide +kernel
theorem dX5_ended_19 : decode cX5_ended 19 = .ok (.iadd, 1) := by decide +kernel
theorem dX5_ended_20 : decode cX5_ended 20 = .ok (.istore_n 2, 1) := by decide +kernel
theorem dX5_ended_21 : decode cX5_ended 21 = .ok (.iinc 3 1, 3) := by decide +kernel
theorem dX5_ended_24 : decode cX5_ended 24 = .ok (.goto (-20), 3) := by decide +kernel
theorem dX5_ended_27 : decode cX5_ended 27 = .ok (.iload_n 2, 1) := by decide +kernel
theorem dX5_ended_28 : decode cX5_ended 28 = .ok (.ireturn, 1) := by decide +kernel
set_option maxRecDepth 20000 in
theorem ggX5_transfers_X5_of : GoodIn wsX5_transfers wsX5_of := goodIn_r _ [6, 1, 7, 8, 9, 10, 11, 12, 13, 14, 15, 16, 17, 18] (by decide +kernel) (by decide +kernel)
set_option maxRecDepth 20000 in
theorem gX5_transfers_X5_of : GoodIn wsX5_transfers (wsV RX5 40 RX5 yX5_of wsX5_of) := goodIn_app (goodIn_of _ (by decide +kernel)) ggX5_transfers_X5_of
theorem dX5_transfers_0 : decode cX5_transfers 0 = .ok (.iconst 0, 1) := by decide +kernel
theorem dX5_transfers_1 : decode cX5_transfers 1 = .ok (.istore_n 1, 1) := by decide +kernel
theorem dX5_transfers_2 : decode cX5_transfers 2 = .ok (.iconst 0, 1) := by decide +kernel
theorem dX5_transfers_3 : decode cX5_transfers 3 = .ok (.istore_n 2, 1) := by decide +kernel
theorem dX5_transfers_4 : decode cX5_transfers 4 = .ok (.iload_n 2, 1) := by decide +kernel
theorem dX5_transfers_5 : decode cX5_transfers 5 = .ok (.aload_n 0, 1) := by decide +kernel
theorem dX5_transfers_6 : decode cX5_transfers 6 = .ok (.getfield 7, 3) := by decide +kernel
theorem dX5_transfers_9 : decode cX5_transfers 9 = .ok (.iconst 3, 1) := by decide +kernel
theorem dX5_transfers_10 : decode cX5_transfers 10 = .ok (.iaload, 1) := by decide +kernel
theorem dX5_transfers_11 : decode cX5_transfers 11 = .ok (.if_icmp .ge 27, 3) := by decide +kernel
theorem dX5_transfers_14 : decode cX5_transfers 14 = .ok (.iload_n 1, 1) := by decide +kernel
theorem dX5_transfers_15 : decode cX5_transfers 15 = .ok (.aload_n 0, 1) := by decide +kernel
theorem dX5_transfers_16 : decode cX5_transfers 16 = .ok (.iload_n 2, 1) := by decide +kernel
theorem dX5_transfers_17 : decode cX5_transfers 17 = .ok (.iconst 3, 1) := by decide +kernel
theorem dX5_transfers_18 : decode cX5_transfers 18 = .ok (.invokevirtual 40, 3) := by decide +kernel
theorem dX5_transfers_21 : decode cX5_transfers 21 = .ok (.iconst (-1), 1) := by decide +kernel
theorem dX5_transfers_22 : decode cX5_transfers 22 = .ok (.if_icmp .ne 7, 3) := by decide +kernel
theorem dX5_transfers_25 : decode cX5_transfers 25 = .ok (.iconst 0, 1) := by decide +kernel
theorem dX5_transfers_26 : decode cX5_transfers 26 = .ok (.goto 4, 3) := by decide +kernel
theorem dX5_transfers_29 : decode cX5_transfers 29 = .ok (.iconst 1, 1) := by decide +kernel
theorem dX5_transfers_30 : decode cX5_transfers 30 = .ok (.iadd, 1) := by decide +kernel
theorem dX5_transfers_31 : decode cX5_transfers 31 = .ok (.istore_n 1, 1) := by decide +kernel
theorem dX5_transfers_32 : decode cX5_transfers 32 = .ok (.iinc 2 1, 3) := by decide +kernel
theorem dX5_transfers_35 : decode cX5_transfers 35 = .ok (.goto (-31), 3) := by decide +kernel
theorem dX5_transfers_38 : decode cX5_transfers 38 = .ok (.iload_n 1, 1) := by decide +kernel
theorem dX5_transfers_39 : decode cX5_transfers 39 = .ok (.ireturn, 1) := by decide +kernel
set_option maxRecDepth 20000 in
theorem ggX5_firstLapse_X5_of : GoodIn wsX5_firstLapse wsX5_of := goodIn_r _ [6, 1, 7, 8, 9, 10, 11, 12, 13, 14, 15, 16, 17, 18] (by decide +kernel) (by decide +kernel)
set_option maxRecDepth 20000 in
theorem gX5_firstLapse_X5_of : GoodIn wsX5_firstLapse (wsV RX5 40 RX5 yX5_of wsX5_of) := goodIn_app (goodIn_of _ (by decide +kernel)) ggX5_firstLapse_X5_of
theorem dX5_firstLapse_0 : decode cX5_firstLapse 0 = .ok (.iconst (-1), 1) := by decide +kernel
theorem dX5_firstLapse_1 : decode cX5_firstLapse 1 = .ok (.istore_n 1, 1) := by decide +kernel
theorem dX5_firstLapse_2 : decode cX5_firstLapse 2 = .ok (.iconst 0, 1) := by decide +kernel
theorem dX5_firstLapse_3 : decode cX5_firstLapse 3 = .ok (.istore_n 2, 1) := by decide +kernel
theorem dX5_firstLapse_4 : decode cX5_firstLapse 4 = .ok (.iload_n 2, 1) := by decide +kernel
theorem dX5_firstLapse_5 : decode cX5_firstLapse 5 = .ok (.aload_n 0, 1) := by decide +kernel
theorem dX5_firstLapse_6 : decode cX5_firstLapse 6 = .ok (.getfield 7, 3) := by decide +kernel
theorem dX5_firstLapse_9 : decode cX5_firstLapse 9 = .ok (.iconst 3, 1) := by decide +kernel
theorem dX5_firstLapse_10 : decode cX5_firstLapse 10 = .ok (.iaload, 1) := by decide +kernel
theorem dX5_firstLapse_11 : decode cX5_firstLapse 11 = .ok (.if_icmp .ge 35, 3) := by decide +kernel
theorem dX5_firstLapse_14 : decode cX5_firstLapse 14 = .ok (.iload_n 1, 1) := by decide +kernel
theorem dX5_firstLapse_15 : decode cX5_firstLapse 15 = .ok (.iconst (-1), 1) := by decide +kernel
theorem dX5_firstLapse_16 : decode cX5_firstLapse 16 = .ok (.if_icmp .eq 13, 3) := by decide +kernel
theorem dX5_firstLapse_19 : decode cX5_firstLapse 19 = .ok (.aload_n 0, 1) := by decide +kernel
theorem dX5_firstLapse_20 : decode cX5_firstLapse 20 = .ok (.iload_n 2, 1) := by decide +kernel
theorem dX5_firstLapse_21 : decode cX5_firstLapse 21 = .ok (.iconst 4, 1) := by decide +kernel
theorem dX5_firstLapse_22 : decode cX5_firstLapse 22 = .ok (.invokevirtual 40, 3) := by decide +kernel
theorem dX5_firstLapse_25 : decode cX5_firstLapse 25 = .ok (.iload_n 1, 1) := by decide +kernel
theorem dX5_firstLapse_26 : decode cX5_firstLapse 26 = .ok (.if_icmp .ge 12, 3) := by decide +kernel
theorem dX5_firstLapse_29 : decode cX5_firstLapse 29 = .ok (.aload_n 0, 1) := by decide +kernel
theorem dX5_firstLapse_30 : decode cX5_firstLapse 30 = .ok (.iload_n 2, 1) := by decide +kernel
theorem dX5_firstLapse_31 : decode cX5_firstLapse 31 = .ok (.iconst 4, 1) := by decide +kernel
theorem dX5_firstLapse_32 : decode cX5_firstLapse 32 = .ok (.invokevirtual 40, 3) := by decide +kernel
theorem dX5_firstLapse_35 : decode cX5_firstLapse 35 = .ok (.goto 4, 3) := by decide +kernel
theorem dX5_firstLapse_38 : decode cX5_firstLapse 38 = .ok (.iload_n 1, 1) := by decide +kernel
theorem dX5_firstLapse_39 : decode cX5_firstLapse 39 = .ok (.istore_n 1, 1) := by decide +kernel
theorem dX5_firstLapse_40 : decode cX5_firstLapse 40 = .ok (.iinc 2 1, 3) := by decide +kernel
theorem dX5_firstLapse_43 : decode cX5_firstLapse 43 = .ok (.goto (-39), 3) := by decide +kernel
theorem dX5_firstLapse_46 : decode cX5_firstLapse 46 = .ok (.iload_n 1, 1) := by decide +kernel
theorem dX5_firstLapse_47 : decode cX5_firstLapse 47 = .ok (.ireturn, 1) := by decide +kernel
set_option maxRecDepth 20000 in
theorem ggX5_counted_X5_transfers : GoodIn wsX5_counted wsX5_transfers := goodIn_r _ [7, 1, 8, 9, 10, 6, 11, 20, 21, 22, 23, 24, 25, 26, 27, 28, 29, 30, 31] (by decide +kernel) (by decide +kernel)
set_option maxRecDepth 20000 in
theorem gX5_counted_X5_transfers : GoodIn wsX5_counted (wsV RX5 148 RX5 yX5_transfers wsX5_transfers) := goodIn_app (goodIn_of _ (by decide +kernel)) ggX5_counted_X5_transfers
set_option maxRecDepth 20000 in
theorem ggX5_counted_X5_ended : GoodIn wsX5_counted wsX5_ended := goodIn_r _ [15, 1, 20, 21, 22, 23, 24, 25, 26, 27, 28, 29, 30, 31] (by decide +kernel) (by decide +kernel)
set_option maxRecDepth 20000 in
theorem gX5_counted_X5_ended : GoodIn wsX5_counted (wsV RX5 152 RX5 yX5_ended wsX5_ended) := goodIn_app (goodIn_of _ (by decide +kernel)) ggX5_counted_X5_ended
set_option maxRecDepth 20000 in
theorem ggX5_counted_X5_firstLapse : GoodIn wsX5_counted wsX5_firstLapse := goodIn_r _ [19, 1, 8, 9, 10, 6, 11, 20, 21, 22, 23, 24, 25, 26, 27, 28, 29, 30, 31] (by decide +kernel) (by decide +kernel)
set_option maxRecDepth 20000 in
theorem gX5_counted_X5_firstLapse : GoodIn wsX5_counted (wsV RX5 155 RX5 yX5_firstLapse wsX5_firstLapse) := goodIn_app (goodIn_of _ (by decide +kernel)) ggX5_counted_X5_firstLapse
theorem dX5_counted_0 : decode cX5_counted 0 = .ok (.iload_n 1, 1) := by decide +kernel
theorem dX5_counted_1 : decode cX5_counted 1 = .ok (.iconst 4, 1) := by decide +kernel
theorem dX5_counted_2 : decode cX5_counted 2 = .ok (.if_icmp .ge 49, 3) := by decide +kernel
theorem dX5_counted_5 : decode cX5_counted 5 = .ok (.iload_n 1, 1) := by decide +kernel
theorem dX5_counted_6 : decode cX5_counted 6 = .ok (.ifCond .ne 12, 3) := by decide +kernel
theorem dX5_counted_9 : decode cX5_counted 9 = .ok (.aload_n 0, 1) := by decide +kernel
theorem dX5_counted_10 : decode cX5_counted 10 = .ok (.getfield 7, 3) := by decide +kernel
theorem dX5_counted_13 : decode cX5_counted 13 = .ok (.iconst 0, 1) := by decide +kernel
theorem dX5_counted_14 : decode cX5_counted 14 = .ok (.iaload, 1) := by decide +kernel
theorem dX5_counted_15 : decode cX5_counted 15 = .ok (.goto 35, 3) := by decide +kernel
theorem dX5_counted_18 : decode cX5_counted 18 = .ok (.iload_n 1, 1) := by decide +kernel
theorem dX5_counted_19 : decode cX5_counted 19 = .ok (.iconst 1, 1) := by decide +kernel
theorem dX5_counted_20 : decode cX5_counted 20 = .ok (.if_icmp .ne 12, 3) := by decide +kernel
theorem dX5_counted_23 : decode cX5_counted 23 = .ok (.aload_n 0, 1) := by decide +kernel
theorem dX5_counted_24 : decode cX5_counted 24 = .ok (.getfield 7, 3) := by decide +kernel
theorem dX5_counted_27 : decode cX5_counted 27 = .ok (.iconst 3, 1) := by decide +kernel
theorem dX5_counted_28 : decode cX5_counted 28 = .ok (.iaload, 1) := by decide +kernel
theorem dX5_counted_29 : decode cX5_counted 29 = .ok (.goto 21, 3) := by decide +kernel
theorem dX5_counted_32 : decode cX5_counted 32 = .ok (.iload_n 1, 1) := by decide +kernel
theorem dX5_counted_33 : decode cX5_counted 33 = .ok (.iconst 2, 1) := by decide +kernel
theorem dX5_counted_34 : decode cX5_counted 34 = .ok (.if_icmp .ne 10, 3) := by decide +kernel
theorem dX5_counted_37 : decode cX5_counted 37 = .ok (.aload_n 0, 1) := by decide +kernel
theorem dX5_counted_38 : decode cX5_counted 38 = .ok (.invokevirtual 148, 3) := by decide +kernel
theorem dX5_counted_41 : decode cX5_counted 41 = .ok (.goto 9, 3) := by decide +kernel
theorem dX5_counted_44 : decode cX5_counted 44 = .ok (.aload_n 0, 1) := by decide +kernel
theorem dX5_counted_45 : decode cX5_counted 45 = .ok (.getfield 7, 3) := by decide +kernel
theorem dX5_counted_48 : decode cX5_counted 48 = .ok (.iconst 4, 1) := by decide +kernel
theorem dX5_counted_49 : decode cX5_counted 49 = .ok (.iaload, 1) := by decide +kernel
theorem dX5_counted_50 : decode cX5_counted 50 = .ok (.ireturn, 1) := by decide +kernel
theorem dX5_counted_51 : decode cX5_counted 51 = .ok (.iload_n 1, 1) := by decide +kernel
theorem dX5_counted_52 : decode cX5_counted 52 = .ok (.bipush 7, 2) := by decide +kernel
theorem dX5_counted_54 : decode cX5_counted 54 = .ok (.if_icmp .ge 17, 3) := by decide +kernel
theorem dX5_counted_57 : decode cX5_counted 57 = .ok (.aload_n 0, 1) := by decide +kernel
theorem dX5_counted_58 : decode cX5_counted 58 = .ok (.bipush 17, 2) := by decide +kernel
theorem dX5_counted_60 : decode cX5_counted 60 = .ok (.bipush 6, 2) := by decide +kernel
theorem dX5_counted_62 : decode cX5_counted 62 = .ok (.iload_n 1, 1) := by decide +kernel
theorem dX5_counted_63 : decode cX5_counted 63 = .ok (.iconst 4, 1) := by decide +kernel
theorem dX5_counted_64 : decode cX5_counted 64 = .ok (.isub, 1) := by decide +kernel
theorem dX5_counted_65 : decode cX5_counted 65 = .ok (.imul, 1) := by decide +kernel
theorem dX5_counted_66 : decode cX5_counted 66 = .ok (.iadd, 1) := by decide +kernel
theorem dX5_counted_67 : decode cX5_counted 67 = .ok (.invokevirtual 152, 3) := by decide +kernel
theorem dX5_counted_70 : decode cX5_counted 70 = .ok (.ireturn, 1) := by decide +kernel
theorem dX5_counted_71 : decode cX5_counted 71 = .ok (.iload_n 1, 1) := by decide +kernel
theorem dX5_counted_72 : decode cX5_counted 72 = .ok (.bipush 7, 2) := by decide +kernel
theorem dX5_counted_74 : decode cX5_counted 74 = .ok (.if_icmp .ne 36, 3) := by decide +kernel
theorem dX5_counted_77 : decode cX5_counted 77 = .ok (.aload_n 0, 1) := by decide +kernel
theorem dX5_counted_78 : decode cX5_counted 78 = .ok (.getfield 7, 3) := by decide +kernel
theorem dX5_counted_81 : decode cX5_counted 81 = .ok (.iconst 5, 1) := by decide +kernel
theorem dX5_counted_82 : decode cX5_counted 82 = .ok (.iaload, 1) := by decide +kernel
theorem dX5_counted_83 : decode cX5_counted 83 = .ok (.aload_n 0, 1) := by decide +kernel
theorem dX5_counted_84 : decode cX5_counted 84 = .ok (.getfield 7, 3) := by decide +kernel
theorem dX5_counted_87 : decode cX5_counted 87 = .ok (.bipush 6, 2) := by decide +kernel
theorem dX5_counted_89 : decode cX5_counted 89 = .ok (.iaload, 1) := by decide +kernel
theorem dX5_counted_90 : decode cX5_counted 90 = .ok (.iadd, 1) := by decide +kernel
theorem dX5_counted_91 : decode cX5_counted 91 = .ok (.aload_n 0, 1) := by decide +kernel
theorem dX5_counted_92 : decode cX5_counted 92 = .ok (.getfield 7, 3) := by decide +kernel
theorem dX5_counted_95 : decode cX5_counted 95 = .ok (.bipush 7, 2) := by decide +kernel
theorem dX5_counted_97 : decode cX5_counted 97 = .ok (.iaload, 1) := by decide +kernel
theorem dX5_counted_98 : decode cX5_counted 98 = .ok (.iadd, 1) := by decide +kernel
theorem dX5_counted_99 : decode cX5_counted 99 = .ok (.aload_n 0, 1) := by decide +kernel
theorem dX5_counted_100 : decode cX5_counted 100 = .ok (.getfield 7, 3) := by decide +kernel
theorem dX5_counted_103 : decode cX5_counted 103 = .ok (.bipush 8, 2) := by decide +kernel
theorem dX5_counted_105 : decode cX5_counted 105 = .ok (.iaload, 1) := by decide +kernel
theorem dX5_counted_106 : decode cX5_counted 106 = .ok (.iadd, 1) := by decide +kernel
theorem dX5_counted_107 : decode cX5_counted 107 = .ok (.goto 20, 3) := by decide +kernel
theorem dX5_counted_110 : decode cX5_counted 110 = .ok (.iload_n 1, 1) := by decide +kernel
theorem dX5_counted_111 : decode cX5_counted 111 = .ok (.bipush 8, 2) := by decide +kernel
theorem dX5_counted_113 : decode cX5_counted 113 = .ok (.if_icmp .ne 10, 3) := by decide +kernel
theorem dX5_counted_116 : decode cX5_counted 116 = .ok (.aload_n 0, 1) := by decide +kernel
theorem dX5_counted_117 : decode cX5_counted 117 = .ok (.invokevirtual 155, 3) := by decide +kernel
theorem dX5_counted_120 : decode cX5_counted 120 = .ok (.goto 7, 3) := by decide +kernel
theorem dX5_counted_123 : decode cX5_counted 123 = .ok (.aload_n 0, 1) := by decide +kernel
theorem dX5_counted_124 : decode cX5_counted 124 = .ok (.getfield 33, 3) := by decide +kernel
theorem dX5_counted_127 : decode cX5_counted 127 = .ok (.ireturn, 1) := by decide +kernel
set_option maxRecDepth 20000 in
theorem ggX5_count_X5_in : GoodIn wsX5_count wsX5_in := goodIn_r _ [5] (by decide +kernel) (by decide +kernel)
set_option maxRecDepth 20000 in
theorem gX5_count_X5_in : GoodIn wsX5_count (va_wsS RX5 29 yX5_in wsX5_in) := goodIn_app (goodIn_of _ (by decide +kernel)) ggX5_count_X5_in
set_option maxRecDepth 20000 in
theorem ggX5_count_X5_counted : GoodIn wsX5_count wsX5_counted := goodIn_r _ [9, 10, 11, 12, 13, 14, 4, 15, 16, 17, 18, 19, 20, 21, 22, 23, 24, 25, 26, 27, 32, 33, 34, 35, 36, 37, 38, 39, 40, 41, 42, 43] (by decide +kernel) (by decide +kernel)
set_option maxRecDepth 20000 in
theorem gX5_count_X5_counted : GoodIn wsX5_count (wsV RX5 158 RX5 yX5_counted wsX5_counted) := goodIn_app (goodIn_of _ (by decide +kernel)) ggX5_count_X5_counted
set_option maxRecDepth 20000 in
theorem ggX5_count_X5_fails : GoodIn wsX5_count wsX5_fails := goodIn_r _ [31, 1, 32, 33, 34, 35, 36, 37, 38, 39, 40, 41, 42, 43] (by decide +kernel) (by decide +kernel)
set_option maxRecDepth 20000 in
theorem gX5_count_X5_fails : GoodIn wsX5_count (wsV RX5 36 RX5 yX5_fails wsX5_fails) := goodIn_app (goodIn_of _ (by decide +kernel)) ggX5_count_X5_fails
theorem dX5_count_0 : decode cX5_count 0 = .ok (.aload_n 0, 1) := by decide +kernel
theorem dX5_count_1 : decode cX5_count 1 = .ok (.iconst 0, 1) := by decide +kernel
theorem dX5_count_2 : decode cX5_count 2 = .ok (.putfield 25, 3) := by decide +kernel
theorem dX5_count_5 : decode cX5_count 5 = .ok (.iload_n 1, 1) := by decide +kernel
theorem dX5_count_6 : decode cX5_count 6 = .ok (.iconst 0, 1) := by decide +kernel
theorem dX5_count_7 : decode cX5_count 7 = .ok (.bipush 9, 2) := by decide +kernel
theorem dX5_count_9 : decode cX5_count 9 = .ok (.invokestatic 29, 3) := by decide +kernel
theorem dX5_count_12 : decode cX5_count 12 = .ok (.ifCond .eq 11, 3) := by decide +kernel
theorem dX5_count_15 : decode cX5_count 15 = .ok (.aload_n 0, 1) := by decide +kernel
theorem dX5_count_16 : decode cX5_count 16 = .ok (.iload_n 1, 1) := by decide +kernel
theorem dX5_count_17 : decode cX5_count 17 = .ok (.invokevirtual 158, 3) := by decide +kernel
theorem dX5_count_20 : decode cX5_count 20 = .ok (.goto 8, 3) := by decide +kernel
theorem dX5_count_23 : decode cX5_count 23 = .ok (.aload_n 0, 1) := by decide +kernel
theorem dX5_count_24 : decode cX5_count 24 = .ok (.iconst 1, 1) := by decide +kernel
theorem dX5_count_25 : decode cX5_count 25 = .ok (.invokevirtual 36, 3) := by decide +kernel
theorem dX5_count_28 : decode cX5_count 28 = .ok (.ireturn, 1) := by decide +kernel
set_option maxRecDepth 20000 in
theorem ggX5_setting_X5_in : GoodIn wsX5_setting wsX5_in := goodIn_r _ [6] (by decide +kernel) (by decide +kernel)
set_option maxRecDepth 20000 in
theorem gX5_setting_X5_in : GoodIn wsX5_setting (va_wsS RX5 29 yX5_in wsX5_in) := goodIn_app (goodIn_of _ (by decide +kernel)) ggX5_setting_X5_in
set_option maxRecDepth 20000 in
theorem ggX5_setting_X5_fails : GoodIn wsX5_setting wsX5_fails := goodIn_r _ [10, 1, 11, 12, 13, 14, 15, 16, 17, 18, 19, 20, 21, 22] (by decide +kernel) (by decide +kernel)
set_option maxRecDepth 20000 in
theorem gX5_setting_X5_fails : GoodIn wsX5_setting (wsV RX5 36 RX5 yX5_fails wsX5_fails) := goodIn_app (goodIn_of _ (by decide +kernel)) ggX5_setting_X5_fails
theorem dX5_setting_0 : decode cX5_setting 0 = .ok (.aload_n 0, 1) := by decide +kernel
theorem dX5_setting_1 : decode cX5_setting 1 = .ok (.iconst 0, 1) := by decide +kernel
theorem dX5_setting_2 : decode cX5_setting 2 = .ok (.putfield 25, 3) := by decide +kernel
theorem dX5_setting_5 : decode cX5_setting 5 = .ok (.iload_n 1, 1) := by decide +kernel
theorem dX5_setting_6 : decode cX5_setting 6 = .ok (.iconst 0, 1) := by decide +kernel
theorem dX5_setting_7 : decode cX5_setting 7 = .ok (.iconst 1, 1) := by decide +kernel
theorem dX5_setting_8 : decode cX5_setting 8 = .ok (.invokestatic 29, 3) := by decide +kernel
theorem dX5_setting_11 : decode cX5_setting 11 = .ok (.ifCond .eq 14, 3) := by decide +kernel
theorem dX5_setting_14 : decode cX5_setting 14 = .ok (.aload_n 0, 1) := by decide +kernel
theorem dX5_setting_15 : decode cX5_setting 15 = .ok (.getfield 7, 3) := by decide +kernel
theorem dX5_setting_18 : decode cX5_setting 18 = .ok (.iconst 1, 1) := by decide +kernel
theorem dX5_setting_19 : decode cX5_setting 19 = .ok (.iload_n 1, 1) := by decide +kernel
theorem dX5_setting_20 : decode cX5_setting 20 = .ok (.iadd, 1) := by decide +kernel
theorem dX5_setting_21 : decode cX5_setting 21 = .ok (.iaload, 1) := by decide +kernel
theorem dX5_setting_22 : decode cX5_setting 22 = .ok (.goto 8, 3) := by decide +kernel
theorem dX5_setting_25 : decode cX5_setting 25 = .ok (.aload_n 0, 1) := by decide +kernel
theorem dX5_setting_26 : decode cX5_setting 26 = .ok (.iconst 1, 1) := by decide +kernel
theorem dX5_setting_27 : decode cX5_setting 27 = .ok (.invokevirtual 36, 3) := by decide +kernel
theorem dX5_setting_30 : decode cX5_setting 30 = .ok (.ireturn, 1) := by decide +kernel
set_option maxRecDepth 20000 in
theorem ggX5_whyNot_X5_isOwner : GoodIn wsX5_whyNot wsX5_isOwner := goodIn_r _ [5, 6, 7, 4, 8] (by decide +kernel) (by decide +kernel)
set_option maxRecDepth 20000 in
theorem gX5_whyNot_X5_isOwner : GoodIn wsX5_whyNot (va_wsS RX5 74 yX5_isOwner wsX5_isOwner) := goodIn_app (goodIn_of _ (by decide +kernel)) ggX5_whyNot_X5_isOwner
set_option maxRecDepth 20000 in
theorem ggX5_whyNot_X5_isCounter : GoodIn wsX5_whyNot wsX5_isCounter := goodIn_r _ [11, 6, 7, 4, 8] (by decide +kernel) (by decide +kernel)
set_option maxRecDepth 20000 in
theorem gX5_whyNot_X5_isCounter : GoodIn wsX5_whyNot (va_wsS RX5 67 yX5_isCounter wsX5_isCounter) := goodIn_app (goodIn_of _ (by decide +kernel)) ggX5_whyNot_X5_isCounter
set_option maxRecDepth 20000 in
theorem ggX5_whyNot_X5_fails : GoodIn wsX5_whyNot wsX5_fails := goodIn_r _ [15, 1, 48, 49, 50, 51, 52, 53, 54, 55, 56, 57, 58, 59] (by decide +kernel) (by decide +kernel)
set_option maxRecDepth 20000 in
theorem gX5_whyNot_X5_fails : GoodIn wsX5_whyNot (wsV RX5 36 RX5 yX5_fails wsX5_fails) := goodIn_app (goodIn_of _ (by decide +kernel)) ggX5_whyNot_X5_fails
set_option maxRecDepth 20000 in
theorem ggX5_whyNot_X5_isChange : GoodIn wsX5_whyNot wsX5_isChange := goodIn_r _ [18, 6, 7, 4, 8] (by decide +kernel) (by decide +kernel)
set_option maxRecDepth 20000 in
theorem gX5_whyNot_X5_isChange : GoodIn wsX5_whyNot (va_wsS RX5 77 yX5_isChange wsX5_isChange) := goodIn_app (goodIn_of _ (by decide +kernel)) ggX5_whyNot_X5_isChange
set_option maxRecDepth 20000 in
theorem ggX5_whyNot_X5_reason : GoodIn wsX5_whyNot wsX5_reason := goodIn_r _ [22, 23, 24, 25, 26, 4, 27, 28, 29, 30, 31, 32, 33, 34, 35, 36, 37, 38, 39, 40, 41, 42, 43, 44, 45, 46, 47, 48, 49, 50, 51, 52, 53, 54, 55, 56, 57, 58, 59] (by decide +kernel) (by decide +kernel)
set_option maxRecDepth 20000 in
theorem gX5_whyNot_X5_reason : GoodIn wsX5_whyNot (wsV RX5 80 RX5 yX5_reason wsX5_reason) := goodIn_app (goodIn_of _ (by decide +kernel)) ggX5_whyNot_X5_reason
theorem dX5_whyNot_0 : decode cX5_whyNot 0 = .ok (.aload_n 0, 1) := by decide +kernel
theorem dX5_whyNot_1 : decode cX5_whyNot 1 = .ok (.iconst 0, 1) := by decide +kernel
theorem dX5_whyNot_2 : decode cX5_whyNot 2 = .ok (.putfield 25, 3) := by decide +kernel
theorem dX5_whyNot_5 : decode cX5_whyNot 5 = .ok (.iload_n 1, 1) := by decide +kernel
theorem dX5_whyNot_6 : decode cX5_whyNot 6 = .ok (.invokestatic 74, 3) := by decide +kernel
theorem dX5_whyNot_9 : decode cX5_whyNot 9 = .ok (.ifCond .eq 10, 3) := by decide +kernel
theorem dX5_whyNot_12 : decode cX5_whyNot 12 = .ok (.iload_n 2, 1) := by decide +kernel
theorem dX5_whyNot_13 : decode cX5_whyNot 13 = .ok (.invokestatic 67, 3) := by decide +kernel
theorem dX5_whyNot_16 : decode cX5_whyNot 16 = .ok (.ifCond .ne 9, 3) := by decide +kernel
theorem dX5_whyNot_19 : decode cX5_whyNot 19 = .ok (.aload_n 0, 1) := by decide +kernel
theorem dX5_whyNot_20 : decode cX5_whyNot 20 = .ok (.iconst 1, 1) := by decide +kernel
theorem dX5_whyNot_21 : decode cX5_whyNot 21 = .ok (.invokevirtual 36, 3) := by decide +kernel
theorem dX5_whyNot_24 : decode cX5_whyNot 24 = .ok (.ireturn, 1) := by decide +kernel
theorem dX5_whyNot_25 : decode cX5_whyNot 25 = .ok (.iload_n 3, 1) := by decide +kernel
theorem dX5_whyNot_26 : decode cX5_whyNot 26 = .ok (.invokestatic 77, 3) := by decide +kernel
theorem dX5_whyNot_29 : decode cX5_whyNot 29 = .ok (.ifCond .eq 14, 3) := by decide +kernel
theorem dX5_whyNot_32 : decode cX5_whyNot 32 = .ok (.aload_n 0, 1) := by decide +kernel
theorem dX5_whyNot_33 : decode cX5_whyNot 33 = .ok (.iload_n 1, 1) := by decide +kernel
theorem dX5_whyNot_34 : decode cX5_whyNot 34 = .ok (.iload_n 2, 1) := by decide +kernel
theorem dX5_whyNot_35 : decode cX5_whyNot 35 = .ok (.iload_n 3, 1) := by decide +kernel
theorem dX5_whyNot_36 : decode cX5_whyNot 36 = .ok (.iconst (-1), 1) := by decide +kernel
theorem dX5_whyNot_37 : decode cX5_whyNot 37 = .ok (.invokevirtual 80, 3) := by decide +kernel
theorem dX5_whyNot_40 : decode cX5_whyNot 40 = .ok (.goto 8, 3) := by decide +kernel
theorem dX5_whyNot_43 : decode cX5_whyNot 43 = .ok (.aload_n 0, 1) := by decide +kernel
theorem dX5_whyNot_44 : decode cX5_whyNot 44 = .ok (.iconst 2, 1) := by decide +kernel
theorem dX5_whyNot_45 : decode cX5_whyNot 45 = .ok (.invokevirtual 36, 3) := by decide +kernel
theorem dX5_whyNot_48 : decode cX5_whyNot 48 = .ok (.ireturn, 1) := by decide +kernel
set_option maxRecDepth 20000 in
theorem ggX5_fewestFor_X5_low : GoodIn wsX5_fewestFor wsX5_low := goodIn_r _ [7, 2, 8, 9, 10, 6, 11, 12, 13, 14, 15, 16, 17, 18, 19, 31, 32, 33, 34, 35, 36, 37, 38, 39, 40, 41, 42] (by decide +kernel) (by decide +kernel)
set_option maxRecDepth 20000 in
theorem gX5_fewestFor_X5_low : GoodIn wsX5_fewestFor (wsV RX5 54 RX5 yX5_low wsX5_low) := goodIn_app (goodIn_of _ (by decide +kernel)) ggX5_fewestFor_X5_low
set_option maxRecDepth 20000 in
theorem ggX5_fewestFor_X5_high : GoodIn wsX5_fewestFor wsX5_high := goodIn_r _ [23, 2, 8, 9, 10, 6, 11, 12, 13, 14, 15, 16, 17, 18, 19, 31, 32, 33, 34, 35, 36, 37, 38, 39, 40, 41, 42] (by decide +kernel) (by decide +kernel)
set_option maxRecDepth 20000 in
theorem gX5_fewestFor_X5_high : GoodIn wsX5_fewestFor (wsV RX5 57 RX5 yX5_high wsX5_high) := goodIn_app (goodIn_of _ (by decide +kernel)) ggX5_fewestFor_X5_high
set_option maxRecDepth 20000 in
theorem ggX5_fewestFor_X5_in : GoodIn wsX5_fewestFor wsX5_in := goodIn_r _ [26] (by decide +kernel) (by decide +kernel)
set_option maxRecDepth 20000 in
theorem gX5_fewestFor_X5_in : GoodIn wsX5_fewestFor (va_wsS RX5 29 yX5_in wsX5_in) := goodIn_app (goodIn_of _ (by decide +kernel)) ggX5_fewestFor_X5_in
set_option maxRecDepth 20000 in
theorem ggX5_fewestFor_X5_sums : GoodIn wsX5_fewestFor wsX5_sums := goodIn_r _ [30, 1, 2, 12, 13, 14, 6, 15, 16, 17, 18, 19, 24, 25, 26, 31, 32, 33, 34, 35, 36, 37, 38, 39, 40, 41, 42] (by decide +kernel) (by decide +kernel)
set_option maxRecDepth 20000 in
theorem gX5_fewestFor_X5_sums : GoodIn wsX5_fewestFor (wsV RX5 136 RX5 yX5_sums wsX5_sums) := goodIn_app (goodIn_of _ (by decide +kernel)) ggX5_fewestFor_X5_sums
theorem dX5_fewestFor_0 : decode cX5_fewestFor 0 = .ok (.iload_n 2, 1) := by decide +kernel
theorem dX5_fewestFor_1 : decode cX5_fewestFor 1 = .ok (.aload_n 0, 1) := by decide +kernel
theorem dX5_fewestFor_2 : decode cX5_fewestFor 2 = .ok (.iload_n 1, 1) := by decide +kernel
theorem dX5_fewestFor_3 : decode cX5_fewestFor 3 = .ok (.invokevirtual 54, 3) := by decide +kernel
theorem dX5_fewestFor_6 : decode cX5_fewestFor 6 = .ok (.aload_n 0, 1) := by decide +kernel
theorem dX5_fewestFor_7 : decode cX5_fewestFor 7 = .ok (.iload_n 1, 1) := by decide +kernel
theorem dX5_fewestFor_8 : decode cX5_fewestFor 8 = .ok (.invokevirtual 57, 3) := by decide +kernel
theorem dX5_fewestFor_11 : decode cX5_fewestFor 11 = .ok (.invokestatic 29, 3) := by decide +kernel
theorem dX5_fewestFor_14 : decode cX5_fewestFor 14 = .ok (.ifCond .ne 5, 3) := by decide +kernel
theorem dX5_fewestFor_17 : decode cX5_fewestFor 17 = .ok (.iconst (-1), 1) := by decide +kernel
theorem dX5_fewestFor_18 : decode cX5_fewestFor 18 = .ok (.ireturn, 1) := by decide +kernel
theorem dX5_fewestFor_19 : decode cX5_fewestFor 19 = .ok (.aload_n 0, 1) := by decide +kernel
theorem dX5_fewestFor_20 : decode cX5_fewestFor 20 = .ok (.iload_n 1, 1) := by decide +kernel
theorem dX5_fewestFor_21 : decode cX5_fewestFor 21 = .ok (.invokevirtual 136, 3) := by decide +kernel
theorem dX5_fewestFor_24 : decode cX5_fewestFor 24 = .ok (.pop, 1) := by decide +kernel
theorem dX5_fewestFor_25 : decode cX5_fewestFor 25 = .ok (.aload_n 0, 1) := by decide +kernel
theorem dX5_fewestFor_26 : decode cX5_fewestFor 26 = .ok (.getfield 22, 3) := by decide +kernel
theorem dX5_fewestFor_29 : decode cX5_fewestFor 29 = .ok (.sipush 1584, 3) := by decide +kernel
theorem dX5_fewestFor_32 : decode cX5_fewestFor 32 = .ok (.iload_n 2, 1) := by decide +kernel
theorem dX5_fewestFor_33 : decode cX5_fewestFor 33 = .ok (.iadd, 1) := by decide +kernel
theorem dX5_fewestFor_34 : decode cX5_fewestFor 34 = .ok (.aload_n 0, 1) := by decide +kernel
theorem dX5_fewestFor_35 : decode cX5_fewestFor 35 = .ok (.getfield 7, 3) := by decide +kernel
theorem dX5_fewestFor_38 : decode cX5_fewestFor 38 = .ok (.iconst 5, 1) := by decide +kernel
theorem dX5_fewestFor_39 : decode cX5_fewestFor 39 = .ok (.iload_n 1, 1) := by decide +kernel
theorem dX5_fewestFor_40 : decode cX5_fewestFor 40 = .ok (.iadd, 1) := by decide +kernel
theorem dX5_fewestFor_41 : decode cX5_fewestFor 41 = .ok (.iaload, 1) := by decide +kernel
theorem dX5_fewestFor_42 : decode cX5_fewestFor 42 = .ok (.isub, 1) := by decide +kernel
theorem dX5_fewestFor_43 : decode cX5_fewestFor 43 = .ok (.iaload, 1) := by decide +kernel
theorem dX5_fewestFor_44 : decode cX5_fewestFor 44 = .ok (.ireturn, 1) := by decide +kernel
set_option maxRecDepth 20000 in
theorem ggX5_canBe_X5_isCounter : GoodIn wsX5_canBe wsX5_isCounter := goodIn_r _ [5, 6, 7, 4, 8] (by decide +kernel) (by decide +kernel)
set_option maxRecDepth 20000 in
theorem gX5_canBe_X5_isCounter : GoodIn wsX5_canBe (va_wsS RX5 67 yX5_isCounter wsX5_isCounter) := goodIn_app (goodIn_of _ (by decide +kernel)) ggX5_canBe_X5_isCounter
set_option maxRecDepth 20000 in
theorem ggX5_canBe_X5_fewestFor : GoodIn wsX5_canBe wsX5_fewestFor := goodIn_r _ [12, 13, 14, 15, 16, 17, 4, 18, 19, 20, 21, 22, 23, 24, 25, 26, 27, 28, 29, 30, 31, 32, 33, 34, 6, 7, 8, 35, 36, 37, 38, 43, 44, 45, 46, 47, 48, 49, 50, 51, 52, 53, 54] (by decide +kernel) (by decide +kernel)
set_option maxRecDepth 20000 in
theorem gX5_canBe_X5_fewestFor : GoodIn wsX5_canBe (wsV RX5 161 RX5 yX5_fewestFor wsX5_fewestFor) := goodIn_app (goodIn_of _ (by decide +kernel)) ggX5_canBe_X5_fewestFor
set_option maxRecDepth 20000 in
theorem ggX5_canBe_X5_fails : GoodIn wsX5_canBe wsX5_fails := goodIn_r _ [42, 1, 43, 44, 45, 46, 47, 48, 49, 50, 51, 52, 53, 54] (by decide +kernel) (by decide +kernel)
set_option maxRecDepth 20000 in
theorem gX5_canBe_X5_fails : GoodIn wsX5_canBe (wsV RX5 36 RX5 yX5_fails wsX5_fails) := goodIn_app (goodIn_of _ (by decide +kernel)) ggX5_canBe_X5_fails
theorem dX5_canBe_0 : decode cX5_canBe 0 = .ok (.aload_n 0, 1) := by decide +kernel
theorem dX5_canBe_1 : decode cX5_canBe 1 = .ok (.iconst 0, 1) := by decide +kernel
theorem dX5_canBe_2 : decode cX5_canBe 2 = .ok (.putfield 25, 3) := by decide +kernel
theorem dX5_canBe_5 : decode cX5_canBe 5 = .ok (.iload_n 1, 1) := by decide +kernel
theorem dX5_canBe_6 : decode cX5_canBe 6 = .ok (.invokestatic 67, 3) := by decide +kernel
theorem dX5_canBe_9 : decode cX5_canBe 9 = .ok (.ifCond .eq 12, 3) := by decide +kernel
theorem dX5_canBe_12 : decode cX5_canBe 12 = .ok (.aload_n 0, 1) := by decide +kernel
theorem dX5_canBe_13 : decode cX5_canBe 13 = .ok (.iload_n 1, 1) := by decide +kernel
theorem dX5_canBe_14 : decode cX5_canBe 14 = .ok (.iload_n 2, 1) := by decide +kernel
theorem dX5_canBe_15 : decode cX5_canBe 15 = .ok (.invokevirtual 161, 3) := by decide +kernel
theorem dX5_canBe_18 : decode cX5_canBe 18 = .ok (.goto 8, 3) := by decide +kernel
theorem dX5_canBe_21 : decode cX5_canBe 21 = .ok (.aload_n 0, 1) := by decide +kernel
theorem dX5_canBe_22 : decode cX5_canBe 22 = .ok (.iconst 1, 1) := by decide +kernel
theorem dX5_canBe_23 : decode cX5_canBe 23 = .ok (.invokevirtual 36, 3) := by decide +kernel
theorem dX5_canBe_26 : decode cX5_canBe 26 = .ok (.ireturn, 1) := by decide +kernel
set_option maxRecDepth 20000 in
theorem ggX5_mostOf_X5_reason : GoodIn wsX5_mostOf wsX5_reason := goodIn_r _ [5, 6, 7, 8, 9, 4, 10, 11, 12, 13, 14, 15, 16, 17, 18, 19, 20, 21, 22, 23, 24, 25, 26, 27, 28, 29, 30, 31, 32, 33, 34, 35, 36, 37, 38, 39, 40, 41, 42] (by decide +kernel) (by decide +kernel)
set_option maxRecDepth 20000 in
theorem gX5_mostOf_X5_reason : GoodIn wsX5_mostOf (wsV RX5 80 RX5 yX5_reason wsX5_reason) := goodIn_app (goodIn_of _ (by decide +kernel)) ggX5_mostOf_X5_reason
theorem dX5_mostOf_0 : decode cX5_mostOf 0 = .ok (.bipush 99, 2) := by decide +kernel
theorem dX5_mostOf_2 : decode cX5_mostOf 2 = .ok (.istore 4, 2) := by decide +kernel
theorem dX5_mostOf_4 : decode cX5_mostOf 4 = .ok (.iload 4, 2) := by decide +kernel
theorem dX5_mostOf_6 : decode cX5_mostOf 6 = .ok (.ifCond .le 31, 3) := by decide +kernel
theorem dX5_mostOf_9 : decode cX5_mostOf 9 = .ok (.aload_n 0, 1) := by decide +kernel
theorem dX5_mostOf_10 : decode cX5_mostOf 10 = .ok (.iload_n 1, 1) := by decide +kernel
theorem dX5_mostOf_11 : decode cX5_mostOf 11 = .ok (.iload_n 2, 1) := by decide +kernel
theorem dX5_mostOf_12 : decode cX5_mostOf 12 = .ok (.iload_n 3, 1) := by decide +kernel
theorem dX5_mostOf_13 : decode cX5_mostOf 13 = .ok (.ifCond .eq 8, 3) := by decide +kernel
theorem dX5_mostOf_16 : decode cX5_mostOf 16 = .ok (.iload 4, 2) := by decide +kernel
theorem dX5_mostOf_18 : decode cX5_mostOf 18 = .ok (.goto 6, 3) := by decide +kernel
theorem dX5_mostOf_21 : decode cX5_mostOf 21 = .ok (.iload 4, 2) := by decide +kernel
theorem dX5_mostOf_23 : decode cX5_mostOf 23 = .ok (.ineg, 1) := by decide +kernel
theorem dX5_mostOf_24 : decode cX5_mostOf 24 = .ok (.iconst (-1), 1) := by decide +kernel
theorem dX5_mostOf_25 : decode cX5_mostOf 25 = .ok (.invokevirtual 80, 3) := by decide +kernel
theorem dX5_mostOf_28 : decode cX5_mostOf 28 = .ok (.ifCond .le 9, 3) := by decide +kernel
theorem dX5_mostOf_31 : decode cX5_mostOf 31 = .ok (.iinc 4 (-1), 3) := by decide +kernel
theorem dX5_mostOf_34 : decode cX5_mostOf 34 = .ok (.goto (-30), 3) := by decide +kernel
theorem dX5_mostOf_37 : decode cX5_mostOf 37 = .ok (.iload 4, 2) := by decide +kernel
theorem dX5_mostOf_39 : decode cX5_mostOf 39 = .ok (.ireturn, 1) := by decide +kernel
set_option maxRecDepth 20000 in
theorem ggX5_mostFor_X5_isOwner : GoodIn wsX5_mostFor wsX5_isOwner := goodIn_r _ [5, 6, 7, 4, 8] (by decide +kernel) (by decide +kernel)
set_option maxRecDepth 20000 in
theorem gX5_mostFor_X5_isOwner : GoodIn wsX5_mostFor (va_wsS RX5 74 yX5_isOwner wsX5_isOwner) := goodIn_app (goodIn_of _ (by decide +kernel)) ggX5_mostFor_X5_isOwner
set_option maxRecDepth 20000 in
theorem ggX5_mostFor_X5_isCounter : GoodIn wsX5_mostFor wsX5_isCounter := goodIn_r _ [11, 6, 7, 4, 8] (by decide +kernel) (by decide +kernel)
set_option maxRecDepth 20000 in
theorem gX5_mostFor_X5_isCounter : GoodIn wsX5_mostFor (va_wsS RX5 67 yX5_isCounter wsX5_isCounter) := goodIn_app (goodIn_of _ (by decide +kernel)) ggX5_mostFor_X5_isCounter
set_option maxRecDepth 20000 in
theorem ggX5_mostFor_X5_mostOf : GoodIn wsX5_mostFor wsX5_mostOf := goodIn_r _ [15, 16, 17, 18, 4, 19, 20, 21, 22, 23, 24, 25, 26, 27, 28, 29, 30, 31, 32, 33, 34, 35, 36, 37, 38, 39, 40, 41, 42, 43, 44, 49, 50, 51, 52, 53, 54, 55, 56, 57, 58, 59, 60] (by decide +kernel) (by decide +kernel)
set_option maxRecDepth 20000 in
theorem gX5_mostFor_X5_mostOf : GoodIn wsX5_mostFor (wsV RX5 164 RX5 yX5_mostOf wsX5_mostOf) := goodIn_app (goodIn_of _ (by decide +kernel)) ggX5_mostFor_X5_mostOf
set_option maxRecDepth 20000 in
theorem ggX5_mostFor_X5_fails : GoodIn wsX5_mostFor wsX5_fails := goodIn_r _ [48, 1, 49, 50, 51, 52, 53, 54, 55, 56, 57, 58, 59, 60] (by decide +kernel) (by decide +kernel)
set_option maxRecDepth 20000 in
theorem gX5_mostFor_X5_fails : GoodIn wsX5_mostFor (wsV RX5 36 RX5 yX5_fails wsX5_fails) := goodIn_app (goodIn_of _ (by decide +kernel)) ggX5_mostFor_X5_fails
theorem dX5_mostFor_0 : decode cX5_mostFor 0 = .ok (.aload_n 0, 1) := by decide +kernel
theorem dX5_mostFor_1 : decode cX5_mostFor 1 = .ok (.iconst 0, 1) := by decide +kernel
theorem dX5_mostFor_2 : decode cX5_mostFor 2 = .ok (.putfield 25, 3) := by decide +kernel
theorem dX5_mostFor_5 : decode cX5_mostFor 5 = .ok (.iload_n 1, 1) := by decide +kernel
theorem dX5_mostFor_6 : decode cX5_mostFor 6 = .ok (.invokestatic 74, 3) := by decide +kernel
theorem dX5_mostFor_9 : decode cX5_mostFor 9 = .ok (.ifCond .eq 20, 3) := by decide +kernel
theorem dX5_mostFor_12 : decode cX5_mostFor 12 = .ok (.iload_n 2, 1) := by decide +kernel
theorem dX5_mostFor_13 : decode cX5_mostFor 13 = .ok (.invokestatic 67, 3) := by decide +kernel
theorem dX5_mostFor_16 : decode cX5_mostFor 16 = .ok (.ifCond .eq 13, 3) := by decide +kernel
theorem dX5_mostFor_19 : decode cX5_mostFor 19 = .ok (.aload_n 0, 1) := by decide +kernel
theorem dX5_mostFor_20 : decode cX5_mostFor 20 = .ok (.iload_n 1, 1) := by decide +kernel
theorem dX5_mostFor_21 : decode cX5_mostFor 21 = .ok (.iload_n 2, 1) := by decide +kernel
theorem dX5_mostFor_22 : decode cX5_mostFor 22 = .ok (.iload_n 3, 1) := by decide +kernel
theorem dX5_mostFor_23 : decode cX5_mostFor 23 = .ok (.invokevirtual 164, 3) := by decide +kernel
theorem dX5_mostFor_26 : decode cX5_mostFor 26 = .ok (.goto 8, 3) := by decide +kernel
theorem dX5_mostFor_29 : decode cX5_mostFor 29 = .ok (.aload_n 0, 1) := by decide +kernel
theorem dX5_mostFor_30 : decode cX5_mostFor 30 = .ok (.iconst 1, 1) := by decide +kernel
theorem dX5_mostFor_31 : decode cX5_mostFor 31 = .ok (.invokevirtual 36, 3) := by decide +kernel
theorem dX5_mostFor_34 : decode cX5_mostFor 34 = .ok (.ireturn, 1) := by decide +kernel
set_option maxRecDepth 20000 in
theorem ggX5_passedBy_X5_sum : GoodIn wsX5_passedBy wsX5_sum := goodIn_r _ [6, 1, 7, 8, 9, 5, 10, 11, 12, 13, 14, 15, 16, 17, 18, 19, 20, 21, 22, 23, 24, 25, 26] (by decide +kernel) (by decide +kernel)
set_option maxRecDepth 20000 in
theorem gX5_passedBy_X5_sum : GoodIn wsX5_passedBy (wsV RX5 47 RX5 yX5_sum wsX5_sum) := goodIn_app (goodIn_of _ (by decide +kernel)) ggX5_passedBy_X5_sum
set_option maxRecDepth 20000 in
theorem ggX5_passedBy_X5_of : GoodIn wsX5_passedBy wsX5_of := goodIn_r _ [14, 1, 15, 16, 17, 18, 19, 20, 21, 22, 23, 24, 25, 26] (by decide +kernel) (by decide +kernel)
set_option maxRecDepth 20000 in
theorem gX5_passedBy_X5_of : GoodIn wsX5_passedBy (wsV RX5 40 RX5 yX5_of wsX5_of) := goodIn_app (goodIn_of _ (by decide +kernel)) ggX5_passedBy_X5_of
theorem dX5_passedBy_0 : decode cX5_passedBy 0 = .ok (.iload_n 2, 1) := by decide +kernel
theorem dX5_passedBy_1 : decode cX5_passedBy 1 = .ok (.ifCond .le 41, 3) := by decide +kernel
theorem dX5_passedBy_4 : decode cX5_passedBy 4 = .ok (.iload_n 2, 1) := by decide +kernel
theorem dX5_passedBy_5 : decode cX5_passedBy 5 = .ok (.iconst 1, 1) := by decide +kernel
theorem dX5_passedBy_6 : decode cX5_passedBy 6 = .ok (.isub, 1) := by decide +kernel
theorem dX5_passedBy_7 : decode cX5_passedBy 7 = .ok (.istore_n 3, 1) := by decide +kernel
theorem dX5_passedBy_8 : decode cX5_passedBy 8 = .ok (.aload_n 0, 1) := by decide +kernel
theorem dX5_passedBy_9 : decode cX5_passedBy 9 = .ok (.getfield 7, 3) := by decide +kernel
theorem dX5_passedBy_12 : decode cX5_passedBy 12 = .ok (.iconst 5, 1) := by decide +kernel
theorem dX5_passedBy_13 : decode cX5_passedBy 13 = .ok (.iload_n 3, 1) := by decide +kernel
theorem dX5_passedBy_14 : decode cX5_passedBy 14 = .ok (.iadd, 1) := by decide +kernel
theorem dX5_passedBy_15 : decode cX5_passedBy 15 = .ok (.iaload, 1) := by decide +kernel
theorem dX5_passedBy_16 : decode cX5_passedBy 16 = .ok (.aload_n 0, 1) := by decide +kernel
theorem dX5_passedBy_17 : decode cX5_passedBy 17 = .ok (.iload_n 3, 1) := by decide +kernel
theorem dX5_passedBy_18 : decode cX5_passedBy 18 = .ok (.iconst (-1), 1) := by decide +kernel
theorem dX5_passedBy_19 : decode cX5_passedBy 19 = .ok (.aload_n 0, 1) := by decide +kernel
theorem dX5_passedBy_20 : decode cX5_passedBy 20 = .ok (.getfield 7, 3) := by decide +kernel
theorem dX5_passedBy_23 : decode cX5_passedBy 23 = .ok (.iconst 0, 1) := by decide +kernel
theorem dX5_passedBy_24 : decode cX5_passedBy 24 = .ok (.iaload, 1) := by decide +kernel
theorem dX5_passedBy_25 : decode cX5_passedBy 25 = .ok (.iload_n 1, 1) := by decide +kernel
theorem dX5_passedBy_26 : decode cX5_passedBy 26 = .ok (.iadd, 1) := by decide +kernel
theorem dX5_passedBy_27 : decode cX5_passedBy 27 = .ok (.invokevirtual 47, 3) := by decide +kernel
theorem dX5_passedBy_30 : decode cX5_passedBy 30 = .ok (.iadd, 1) := by decide +kernel
theorem dX5_passedBy_31 : decode cX5_passedBy 31 = .ok (.aload_n 0, 1) := by decide +kernel
theorem dX5_passedBy_32 : decode cX5_passedBy 32 = .ok (.getfield 7, 3) := by decide +kernel
theorem dX5_passedBy_35 : decode cX5_passedBy 35 = .ok (.bipush 9, 2) := by decide +kernel
theorem dX5_passedBy_37 : decode cX5_passedBy 37 = .ok (.iload_n 3, 1) := by decide +kernel
theorem dX5_passedBy_38 : decode cX5_passedBy 38 = .ok (.iadd, 1) := by decide +kernel
theorem dX5_passedBy_39 : decode cX5_passedBy 39 = .ok (.iaload, 1) := by decide +kernel
theorem dX5_passedBy_40 : decode cX5_passedBy 40 = .ok (.isub, 1) := by decide +kernel
theorem dX5_passedBy_41 : decode cX5_passedBy 41 = .ok (.ireturn, 1) := by decide +kernel
theorem dX5_passedBy_42 : decode cX5_passedBy 42 = .ok (.iconst 0, 1) := by decide +kernel
theorem dX5_passedBy_43 : decode cX5_passedBy 43 = .ok (.istore_n 3, 1) := by decide +kernel
theorem dX5_passedBy_44 : decode cX5_passedBy 44 = .ok (.iconst 0, 1) := by decide +kernel
theorem dX5_passedBy_45 : decode cX5_passedBy 45 = .ok (.istore 4, 2) := by decide +kernel
theorem dX5_passedBy_47 : decode cX5_passedBy 47 = .ok (.iload 4, 2) := by decide +kernel
theorem dX5_passedBy_49 : decode cX5_passedBy 49 = .ok (.aload_n 0, 1) := by decide +kernel
theorem dX5_passedBy_50 : decode cX5_passedBy 50 = .ok (.getfield 7, 3) := by decide +kernel
theorem dX5_passedBy_53 : decode cX5_passedBy 53 = .ok (.iconst 3, 1) := by decide +kernel
theorem dX5_passedBy_54 : decode cX5_passedBy 54 = .ok (.iaload, 1) := by decide +kernel
theorem dX5_passedBy_55 : decode cX5_passedBy 55 = .ok (.if_icmp .ge 35, 3) := by decide +kernel
theorem dX5_passedBy_58 : decode cX5_passedBy 58 = .ok (.iload_n 3, 1) := by decide +kernel
theorem dX5_passedBy_59 : decode cX5_passedBy 59 = .ok (.aload_n 0, 1) := by decide +kernel
theorem dX5_passedBy_60 : decode cX5_passedBy 60 = .ok (.iload 4, 2) := by decide +kernel
theorem dX5_passedBy_62 : decode cX5_passedBy 62 = .ok (.iconst 4, 1) := by decide +kernel
theorem dX5_passedBy_63 : decode cX5_passedBy 63 = .ok (.invokevirtual 40, 3) := by decide +kernel
theorem dX5_passedBy_66 : decode cX5_passedBy 66 = .ok (.aload_n 0, 1) := by decide +kernel
theorem dX5_passedBy_67 : decode cX5_passedBy 67 = .ok (.getfield 7, 3) := by decide +kernel
theorem dX5_passedBy_70 : decode cX5_passedBy 70 = .ok (.iconst 0, 1) := by decide +kernel
theorem dX5_passedBy_71 : decode cX5_passedBy 71 = .ok (.iaload, 1) := by decide +kernel
theorem dX5_passedBy_72 : decode cX5_passedBy 72 = .ok (.iload_n 1, 1) := by decide +kernel
theorem dX5_passedBy_73 : decode cX5_passedBy 73 = .ok (.iadd, 1) := by decide +kernel
theorem dX5_passedBy_74 : decode cX5_passedBy 74 = .ok (.if_icmp .gt 7, 3) := by decide +kernel
theorem dX5_passedBy_77 : decode cX5_passedBy 77 = .ok (.iconst 1, 1) := by decide +kernel
theorem dX5_passedBy_78 : decode cX5_passedBy 78 = .ok (.goto 4, 3) := by decide +kernel
theorem dX5_passedBy_81 : decode cX5_passedBy 81 = .ok (.iconst 0, 1) := by decide +kernel
theorem dX5_passedBy_82 : decode cX5_passedBy 82 = .ok (.iadd, 1) := by decide +kernel
theorem dX5_passedBy_83 : decode cX5_passedBy 83 = .ok (.istore_n 3, 1) := by decide +kernel
theorem dX5_passedBy_84 : decode cX5_passedBy 84 = .ok (.iinc 4 1, 3) := by decide +kernel
theorem dX5_passedBy_87 : decode cX5_passedBy 87 = .ok (.goto (-40), 3) := by decide +kernel
theorem dX5_passedBy_90 : decode cX5_passedBy 90 = .ok (.iload_n 3, 1) := by decide +kernel
theorem dX5_passedBy_91 : decode cX5_passedBy 91 = .ok (.ireturn, 1) := by decide +kernel
set_option maxRecDepth 20000 in
theorem ggX5_ifPassed_X5_in : GoodIn wsX5_ifPassed wsX5_in := goodIn_r _ [5] (by decide +kernel) (by decide +kernel)
set_option maxRecDepth 20000 in
theorem gX5_ifPassed_X5_in : GoodIn wsX5_ifPassed (va_wsS RX5 29 yX5_in wsX5_in) := goodIn_app (goodIn_of _ (by decide +kernel)) ggX5_ifPassed_X5_in
set_option maxRecDepth 20000 in
theorem ggX5_ifPassed_X5_passedBy : GoodIn wsX5_ifPassed wsX5_passedBy := goodIn_r _ [9, 10, 11, 12, 13, 4, 14, 15, 16, 17, 18, 19, 20, 21, 22, 27, 28, 29, 30, 31, 32, 33, 34, 35, 36, 37, 38] (by decide +kernel) (by decide +kernel)
set_option maxRecDepth 20000 in
theorem gX5_ifPassed_X5_passedBy : GoodIn wsX5_ifPassed (wsV RX5 168 RX5 yX5_passedBy wsX5_passedBy) := goodIn_app (goodIn_of _ (by decide +kernel)) ggX5_ifPassed_X5_passedBy
set_option maxRecDepth 20000 in
theorem ggX5_ifPassed_X5_fails : GoodIn wsX5_ifPassed wsX5_fails := goodIn_r _ [26, 1, 27, 28, 29, 30, 31, 32, 33, 34, 35, 36, 37, 38] (by decide +kernel) (by decide +kernel)
set_option maxRecDepth 20000 in
theorem gX5_ifPassed_X5_fails : GoodIn wsX5_ifPassed (wsV RX5 36 RX5 yX5_fails wsX5_fails) := goodIn_app (goodIn_of _ (by decide +kernel)) ggX5_ifPassed_X5_fails
theorem dX5_ifPassed_0 : decode cX5_ifPassed 0 = .ok (.aload_n 0, 1) := by decide +kernel
theorem dX5_ifPassed_1 : decode cX5_ifPassed 1 = .ok (.iconst 0, 1) := by decide +kernel
theorem dX5_ifPassed_2 : decode cX5_ifPassed 2 = .ok (.putfield 25, 3) := by decide +kernel
theorem dX5_ifPassed_5 : decode cX5_ifPassed 5 = .ok (.iload_n 1, 1) := by decide +kernel
theorem dX5_ifPassed_6 : decode cX5_ifPassed 6 = .ok (.iconst 0, 1) := by decide +kernel
theorem dX5_ifPassed_7 : decode cX5_ifPassed 7 = .ok (.sipush 200, 3) := by decide +kernel
theorem dX5_ifPassed_10 : decode cX5_ifPassed 10 = .ok (.invokestatic 29, 3) := by decide +kernel
theorem dX5_ifPassed_13 : decode cX5_ifPassed 13 = .ok (.ifCond .eq 21, 3) := by decide +kernel
theorem dX5_ifPassed_16 : decode cX5_ifPassed 16 = .ok (.iload_n 2, 1) := by decide +kernel
theorem dX5_ifPassed_17 : decode cX5_ifPassed 17 = .ok (.iconst 0, 1) := by decide +kernel
theorem dX5_ifPassed_18 : decode cX5_ifPassed 18 = .ok (.iconst 4, 1) := by decide +kernel
theorem dX5_ifPassed_19 : decode cX5_ifPassed 19 = .ok (.invokestatic 29, 3) := by decide +kernel
theorem dX5_ifPassed_22 : decode cX5_ifPassed 22 = .ok (.ifCond .eq 12, 3) := by decide +kernel
theorem dX5_ifPassed_25 : decode cX5_ifPassed 25 = .ok (.aload_n 0, 1) := by decide +kernel
theorem dX5_ifPassed_26 : decode cX5_ifPassed 26 = .ok (.iload_n 1, 1) := by decide +kernel
theorem dX5_ifPassed_27 : decode cX5_ifPassed 27 = .ok (.iload_n 2, 1) := by decide +kernel
theorem dX5_ifPassed_28 : decode cX5_ifPassed 28 = .ok (.invokevirtual 168, 3) := by decide +kernel
theorem dX5_ifPassed_31 : decode cX5_ifPassed 31 = .ok (.goto 8, 3) := by decide +kernel
theorem dX5_ifPassed_34 : decode cX5_ifPassed 34 = .ok (.aload_n 0, 1) := by decide +kernel
theorem dX5_ifPassed_35 : decode cX5_ifPassed 35 = .ok (.iconst 1, 1) := by decide +kernel
theorem dX5_ifPassed_36 : decode cX5_ifPassed 36 = .ok (.invokevirtual 36, 3) := by decide +kernel
theorem dX5_ifPassed_39 : decode cX5_ifPassed 39 = .ok (.ireturn, 1) := by decide +kernel
set_option maxRecDepth 20000 in
theorem ggX5_share_X5_high : GoodIn wsX5_share wsX5_high := goodIn_r _ [6, 1, 7, 8, 9, 5, 10, 11, 12, 13, 14, 15, 16, 17, 18, 23, 24, 25, 26, 27, 28, 29, 30, 31, 32, 33, 34] (by decide +kernel) (by decide +kernel)
set_option maxRecDepth 20000 in
theorem gX5_share_X5_high : GoodIn wsX5_share (wsV RX5 57 RX5 yX5_high wsX5_high) := goodIn_app (goodIn_of _ (by decide +kernel)) ggX5_share_X5_high
set_option maxRecDepth 20000 in
theorem ggX5_share_X5_low : GoodIn wsX5_share wsX5_low := goodIn_r _ [22, 1, 7, 8, 9, 5, 10, 11, 12, 13, 14, 15, 16, 17, 18, 23, 24, 25, 26, 27, 28, 29, 30, 31, 32, 33, 34] (by decide +kernel) (by decide +kernel)
set_option maxRecDepth 20000 in
theorem gX5_share_X5_low : GoodIn wsX5_share (wsV RX5 54 RX5 yX5_low wsX5_low) := goodIn_app (goodIn_of _ (by decide +kernel)) ggX5_share_X5_low
theorem dX5_share_0 : decode cX5_share 0 = .ok (.iconst 0, 1) := by decide +kernel
theorem dX5_share_1 : decode cX5_share 1 = .ok (.istore_n 1, 1) := by decide +kernel
theorem dX5_share_2 : decode cX5_share 2 = .ok (.iconst 0, 1) := by decide +kernel
theorem dX5_share_3 : decode cX5_share 3 = .ok (.istore_n 2, 1) := by decide +kernel
theorem dX5_share_4 : decode cX5_share 4 = .ok (.iconst 0, 1) := by decide +kernel
theorem dX5_share_5 : decode cX5_share 5 = .ok (.istore_n 3, 1) := by decide +kernel
theorem dX5_share_6 : decode cX5_share 6 = .ok (.iload_n 3, 1) := by decide +kernel
theorem dX5_share_7 : decode cX5_share 7 = .ok (.iconst 4, 1) := by decide +kernel
theorem dX5_share_8 : decode cX5_share 8 = .ok (.if_icmp .ge 45, 3) := by decide +kernel
theorem dX5_share_11 : decode cX5_share 11 = .ok (.iload_n 1, 1) := by decide +kernel
theorem dX5_share_12 : decode cX5_share 12 = .ok (.aload_n 0, 1) := by decide +kernel
theorem dX5_share_13 : decode cX5_share 13 = .ok (.iload_n 3, 1) := by decide +kernel
theorem dX5_share_14 : decode cX5_share 14 = .ok (.invokevirtual 57, 3) := by decide +kernel
theorem dX5_share_17 : decode cX5_share 17 = .ok (.aload_n 0, 1) := by decide +kernel
theorem dX5_share_18 : decode cX5_share 18 = .ok (.iload_n 3, 1) := by decide +kernel
theorem dX5_share_19 : decode cX5_share 19 = .ok (.invokevirtual 54, 3) := by decide +kernel
theorem dX5_share_22 : decode cX5_share 22 = .ok (.isub, 1) := by decide +kernel
theorem dX5_share_23 : decode cX5_share 23 = .ok (.iadd, 1) := by decide +kernel
theorem dX5_share_24 : decode cX5_share 24 = .ok (.istore_n 1, 1) := by decide +kernel
theorem dX5_share_25 : decode cX5_share 25 = .ok (.iload_n 2, 1) := by decide +kernel
theorem dX5_share_26 : decode cX5_share 26 = .ok (.aload_n 0, 1) := by decide +kernel
theorem dX5_share_27 : decode cX5_share 27 = .ok (.getfield 7, 3) := by decide +kernel
theorem dX5_share_30 : decode cX5_share 30 = .ok (.bipush 13, 2) := by decide +kernel
theorem dX5_share_32 : decode cX5_share 32 = .ok (.iload_n 3, 1) := by decide +kernel
theorem dX5_share_33 : decode cX5_share 33 = .ok (.iadd, 1) := by decide +kernel
theorem dX5_share_34 : decode cX5_share 34 = .ok (.iaload, 1) := by decide +kernel
theorem dX5_share_35 : decode cX5_share 35 = .ok (.aload_n 0, 1) := by decide +kernel
theorem dX5_share_36 : decode cX5_share 36 = .ok (.getfield 7, 3) := by decide +kernel
theorem dX5_share_39 : decode cX5_share 39 = .ok (.bipush 9, 2) := by decide +kernel
theorem dX5_share_41 : decode cX5_share 41 = .ok (.iload_n 3, 1) := by decide +kernel
theorem dX5_share_42 : decode cX5_share 42 = .ok (.iadd, 1) := by decide +kernel
theorem dX5_share_43 : decode cX5_share 43 = .ok (.iaload, 1) := by decide +kernel
theorem dX5_share_44 : decode cX5_share 44 = .ok (.isub, 1) := by decide +kernel
theorem dX5_share_45 : decode cX5_share 45 = .ok (.iadd, 1) := by decide +kernel
theorem dX5_share_46 : decode cX5_share 46 = .ok (.istore_n 2, 1) := by decide +kernel
theorem dX5_share_47 : decode cX5_share 47 = .ok (.iinc 3 1, 3) := by decide +kernel
theorem dX5_share_50 : decode cX5_share 50 = .ok (.goto (-44), 3) := by decide +kernel
theorem dX5_share_53 : decode cX5_share 53 = .ok (.iload_n 2, 1) := by decide +kernel
theorem dX5_share_54 : decode cX5_share 54 = .ok (.ifCond .ne 7, 3) := by decide +kernel
theorem dX5_share_57 : decode cX5_share 57 = .ok (.dconst 0, 1) := by decide +kernel
theorem dX5_share_58 : decode cX5_share 58 = .ok (.goto 8, 3) := by decide +kernel
theorem dX5_share_61 : decode cX5_share 61 = .ok (.iload_n 1, 1) := by decide +kernel
theorem dX5_share_62 : decode cX5_share 62 = .ok (.i2d, 1) := by decide +kernel
theorem dX5_share_63 : decode cX5_share 63 = .ok (.iload_n 2, 1) := by decide +kernel
theorem dX5_share_64 : decode cX5_share 64 = .ok (.i2d, 1) := by decide +kernel
theorem dX5_share_65 : decode cX5_share 65 = .ok (.ddiv, 1) := by decide +kernel
theorem dX5_share_66 : decode cX5_share 66 = .ok (.dreturn, 1) := by decide +kernel
set_option maxRecDepth 20000 in
theorem ggX5_heldShare_X5_share : GoodIn wsX5_heldShare wsX5_share := goodIn_r _ [6, 7, 8, 9, 10, 5, 11, 12, 13, 14, 15, 16, 17, 18, 19, 20, 21, 22, 23, 24, 25, 26, 27, 28, 29, 30, 31, 32, 33, 34, 35, 36, 37, 38, 39] (by decide +kernel) (by decide +kernel)
set_option maxRecDepth 20000 in
theorem gX5_heldShare_X5_share : GoodIn wsX5_heldShare (wsV RX5 171 RX5 yX5_share wsX5_share) := goodIn_app (goodIn_of _ (by decide +kernel)) ggX5_heldShare_X5_share
theorem dX5_heldShare_0 : decode cX5_heldShare 0 = .ok (.aload_n 0, 1) := by decide +kernel
theorem dX5_heldShare_1 : decode cX5_heldShare 1 = .ok (.iconst 0, 1) := by decide +kernel
theorem dX5_heldShare_2 : decode cX5_heldShare 2 = .ok (.putfield 25, 3) := by decide +kernel
theorem dX5_heldShare_5 : decode cX5_heldShare 5 = .ok (.aload_n 0, 1) := by decide +kernel
theorem dX5_heldShare_6 : decode cX5_heldShare 6 = .ok (.invokevirtual 171, 3) := by decide +kernel
theorem dX5_heldShare_9 : decode cX5_heldShare 9 = .ok (.dreturn, 1) := by decide +kernel
set_option maxRecDepth 20000 in
theorem ggX5_digest_X5_counted : GoodIn wsX5_digest wsX5_counted := goodIn_r _ [11, 4, 12, 13, 14, 15, 10, 16, 17, 18, 19, 20, 21, 22, 23, 24, 25, 26, 27, 28, 105, 106, 107, 108, 109, 110, 111, 112, 113, 114, 115, 116] (by decide +kernel) (by decide +kernel)
set_option maxRecDepth 20000 in
theorem gX5_digest_X5_counted : GoodIn wsX5_digest (wsV RX5 158 RX5 yX5_counted wsX5_counted) := goodIn_app (goodIn_of _ (by decide +kernel)) ggX5_digest_X5_counted
set_option maxRecDepth 20000 in
theorem ggX5_digest_X5_ofCounter : GoodIn wsX5_digest wsX5_ofCounter := goodIn_r _ [32, 4, 33, 34, 35, 10, 36, 37, 38, 39, 40, 41, 42, 43, 44, 17, 18, 19, 20, 45, 46, 47, 48, 49, 50, 51, 52, 53, 54, 55, 56, 57, 58, 59, 60, 105, 106, 107, 108, 109, 110, 111, 112, 113, 114, 115, 116] (by decide +kernel) (by decide +kernel)
set_option maxRecDepth 20000 in
theorem gX5_digest_X5_ofCounter : GoodIn wsX5_digest (wsV RX5 139 RX5 yX5_ofCounter wsX5_ofCounter) := goodIn_app (goodIn_of _ (by decide +kernel)) ggX5_digest_X5_ofCounter
set_option maxRecDepth 20000 in
theorem ggX5_digest_X5_fewestFor : GoodIn wsX5_digest wsX5_fewestFor := goodIn_r _ [64, 57, 4, 33, 34, 35, 10, 36, 37, 38, 39, 40, 41, 42, 43, 44, 17, 18, 19, 20, 45, 46, 47, 48, 58, 59, 60, 53, 54, 55, 56, 105, 106, 107, 108, 109, 110, 111, 112, 113, 114, 115, 116] (by decide +kernel) (by decide +kernel)
set_option maxRecDepth 20000 in
theorem gX5_digest_X5_fewestFor : GoodIn wsX5_digest (wsV RX5 161 RX5 yX5_fewestFor wsX5_fewestFor) := goodIn_app (goodIn_of _ (by decide +kernel)) ggX5_digest_X5_fewestFor
set_option maxRecDepth 20000 in
theorem ggX5_digest_X5_mostOf : GoodIn wsX5_digest wsX5_mostOf := goodIn_r _ [68, 69, 70, 71, 10, 72, 4, 73, 74, 75, 76, 17, 18, 19, 20, 33, 34, 35, 36, 37, 38, 39, 40, 41, 42, 43, 44, 45, 46, 47, 48, 105, 106, 107, 108, 109, 110, 111, 112, 113, 114, 115, 116] (by decide +kernel) (by decide +kernel)
set_option maxRecDepth 20000 in
theorem gX5_digest_X5_mostOf : GoodIn wsX5_digest (wsV RX5 164 RX5 yX5_mostOf wsX5_mostOf) := goodIn_app (goodIn_of _ (by decide +kernel)) ggX5_digest_X5_mostOf
set_option maxRecDepth 20000 in
theorem ggX5_digest_X5_ofPromise : GoodIn wsX5_digest wsX5_ofPromise := goodIn_r _ [80, 4, 17, 18, 19, 10, 20, 105, 106, 107, 108, 109, 110, 111, 112, 113, 114, 115, 116] (by decide +kernel) (by decide +kernel)
set_option maxRecDepth 20000 in
theorem gX5_digest_X5_ofPromise : GoodIn wsX5_digest (wsV RX5 142 RX5 yX5_ofPromise wsX5_ofPromise) := goodIn_app (goodIn_of _ (by decide +kernel)) ggX5_digest_X5_ofPromise
set_option maxRecDepth 20000 in
theorem ggX5_digest_X5_ofOwner : GoodIn wsX5_digest wsX5_ofOwner := goodIn_r _ [84, 4, 73, 74, 75, 10, 76, 17, 18, 19, 20, 105, 106, 107, 108, 109, 110, 111, 112, 113, 114, 115, 116] (by decide +kernel) (by decide +kernel)
set_option maxRecDepth 20000 in
theorem gX5_digest_X5_ofOwner : GoodIn wsX5_digest (wsV RX5 145 RX5 yX5_ofOwner wsX5_ofOwner) := goodIn_app (goodIn_of _ (by decide +kernel)) ggX5_digest_X5_ofOwner
set_option maxRecDepth 20000 in
theorem ggX5_digest_X5_reason : GoodIn wsX5_digest wsX5_reason := goodIn_r _ [72, 4, 73, 74, 75, 10, 76, 17, 18, 19, 20, 33, 34, 35, 36, 37, 38, 39, 40, 41, 42, 43, 44, 45, 46, 47, 48, 105, 106, 107, 108, 109, 110, 111, 112, 113, 114, 115, 116] (by decide +kernel) (by decide +kernel)
set_option maxRecDepth 20000 in
theorem gX5_digest_X5_reason : GoodIn wsX5_digest (wsV RX5 80 RX5 yX5_reason wsX5_reason) := goodIn_app (goodIn_of _ (by decide +kernel)) ggX5_digest_X5_reason
set_option maxRecDepth 20000 in
theorem ggX5_digest_X5_passedBy : GoodIn wsX5_digest wsX5_passedBy := goodIn_r _ [88, 4, 37, 38, 39, 10, 40, 41, 42, 43, 44, 17, 18, 19, 20, 105, 106, 107, 108, 109, 110, 111, 112, 113, 114, 115, 116] (by decide +kernel) (by decide +kernel)
set_option maxRecDepth 20000 in
theorem gX5_digest_X5_passedBy : GoodIn wsX5_digest (wsV RX5 168 RX5 yX5_passedBy wsX5_passedBy) := goodIn_app (goodIn_of _ (by decide +kernel)) ggX5_digest_X5_passedBy
set_option maxRecDepth 20000 in
theorem ggX5_digest_X5_share : GoodIn wsX5_digest wsX5_share := goodIn_r _ [92, 4, 45, 46, 47, 10, 48, 37, 38, 39, 40, 41, 42, 43, 44, 17, 18, 19, 20, 33, 34, 35, 36, 105, 106, 107, 108, 109, 110, 111, 112, 113, 114, 115, 116] (by decide +kernel) (by decide +kernel)
set_option maxRecDepth 20000 in
theorem gX5_digest_X5_share : GoodIn wsX5_digest (wsV RX5 171 RX5 yX5_share wsX5_share) := goodIn_app (goodIn_of _ (by decide +kernel)) ggX5_digest_X5_share
set_option maxRecDepth 20000 in
theorem ggX5_digest_Jxe99ae_doubleToLongBits_ccdee : GoodIn wsX5_digest wsJxe99ae_doubleToLongBits_ccdee := goodIn_r _ [96, 97, 98, 99, 100, 101, 102, 103, 95, 104] (by decide +kernel) (by decide +kernel)
set_option maxRecDepth 20000 in
theorem gX5_digest_Jxe99ae_doubleToLongBits_ccdee : GoodIn wsX5_digest (va_wsS RX5 179 yJxe99ae_doubleToLongBits_ccdee wsJxe99ae_doubleToLongBits_ccdee) := goodIn_app (goodIn_of _ (by decide +kernel)) ggX5_digest_Jxe99ae_doubleToLongBits_ccdee
theorem dX5_digest_0 : decode cX5_digest 0 = .ok (.aload_n 0, 1) := by decide +kernel
theorem dX5_digest_1 : decode cX5_digest 1 = .ok (.iconst 0, 1) := by decide +kernel
theorem dX5_digest_2 : decode cX5_digest 2 = .ok (.putfield 25, 3) := by decide +kernel
theorem dX5_digest_5 : decode cX5_digest 5 = .ok (.ldc2_w 175, 3) := by decide +kernel
theorem dX5_digest_8 : decode cX5_digest 8 = .ok (.lstore_n 1, 1) := by decide +kernel
theorem dX5_digest_9 : decode cX5_digest 9 = .ok (.iconst 0, 1) := by decide +kernel
theorem dX5_digest_10 : decode cX5_digest 10 = .ok (.istore_n 3, 1) := by decide +kernel
theorem dX5_digest_11 : decode cX5_digest 11 = .ok (.iload_n 3, 1) := by decide +kernel
theorem dX5_digest_12 : decode cX5_digest 12 = .ok (.bipush 10, 2) := by decide +kernel
theorem dX5_digest_14 : decode cX5_digest 14 = .ok (.if_icmp .ge 22, 3) := by decide +kernel
theorem dX5_digest_17 : decode cX5_digest 17 = .ok (.ldc2_w 177, 3) := by decide +kernel
theorem dX5_digest_20 : decode cX5_digest 20 = .ok (.lload_n 1, 1) := by decide +kernel
theorem dX5_digest_21 : decode cX5_digest 21 = .ok (.lmul, 1) := by decide +kernel
theorem dX5_digest_22 : decode cX5_digest 22 = .ok (.aload_n 0, 1) := by decide +kernel
theorem dX5_digest_23 : decode cX5_digest 23 = .ok (.iload_n 3, 1) := by decide +kernel
theorem dX5_digest_24 : decode cX5_digest 24 = .ok (.invokevirtual 158, 3) := by decide +kernel
theorem dX5_digest_27 : decode cX5_digest 27 = .ok (.i2l, 1) := by decide +kernel
theorem dX5_digest_28 : decode cX5_digest 28 = .ok (.ladd, 1) := by decide +kernel
theorem dX5_digest_29 : decode cX5_digest 29 = .ok (.lstore_n 1, 1) := by decide +kernel
theorem dX5_digest_30 : decode cX5_digest 30 = .ok (.iinc 3 1, 3) := by decide +kernel
theorem dX5_digest_33 : decode cX5_digest 33 = .ok (.goto (-22), 3) := by decide +kernel
theorem dX5_digest_36 : decode cX5_digest 36 = .ok (.ldc2_w 177, 3) := by decide +kernel
theorem dX5_digest_39 : decode cX5_digest 39 = .ok (.ldc2_w 177, 3) := by decide +kernel
theorem dX5_digest_42 : decode cX5_digest 42 = .ok (.lload_n 1, 1) := by decide +kernel
theorem dX5_digest_43 : decode cX5_digest 43 = .ok (.lmul, 1) := by decide +kernel
theorem dX5_digest_44 : decode cX5_digest 44 = .ok (.aload_n 0, 1) := by decide +kernel
theorem dX5_digest_45 : decode cX5_digest 45 = .ok (.getfield 7, 3) := by decide +kernel
theorem dX5_digest_48 : decode cX5_digest 48 = .ok (.iconst 1, 1) := by decide +kernel
theorem dX5_digest_49 : decode cX5_digest 49 = .ok (.iaload, 1) := by decide +kernel
theorem dX5_digest_50 : decode cX5_digest 50 = .ok (.i2l, 1) := by decide +kernel
theorem dX5_digest_51 : decode cX5_digest 51 = .ok (.ladd, 1) := by decide +kernel
theorem dX5_digest_52 : decode cX5_digest 52 = .ok (.lmul, 1) := by decide +kernel
theorem dX5_digest_53 : decode cX5_digest 53 = .ok (.aload_n 0, 1) := by decide +kernel
theorem dX5_digest_54 : decode cX5_digest 54 = .ok (.getfield 7, 3) := by decide +kernel
theorem dX5_digest_57 : decode cX5_digest 57 = .ok (.iconst 2, 1) := by decide +kernel
theorem dX5_digest_58 : decode cX5_digest 58 = .ok (.iaload, 1) := by decide +kernel
theorem dX5_digest_59 : decode cX5_digest 59 = .ok (.i2l, 1) := by decide +kernel
theorem dX5_digest_60 : decode cX5_digest 60 = .ok (.ladd, 1) := by decide +kernel
theorem dX5_digest_61 : decode cX5_digest 61 = .ok (.lstore_n 1, 1) := by decide +kernel
theorem dX5_digest_62 : decode cX5_digest 62 = .ok (.iconst 0, 1) := by decide +kernel
theorem dX5_digest_63 : decode cX5_digest 63 = .ok (.istore_n 3, 1) := by decide +kernel
theorem dX5_digest_64 : decode cX5_digest 64 = .ok (.iload_n 3, 1) := by decide +kernel
theorem dX5_digest_65 : decode cX5_digest 65 = .ok (.iconst 4, 1) := by decide +kernel
theorem dX5_digest_66 : decode cX5_digest 66 = .ok (.if_icmp .ge 82, 3) := by decide +kernel
theorem dX5_digest_69 : decode cX5_digest 69 = .ok (.iconst 0, 1) := by decide +kernel
theorem dX5_digest_70 : decode cX5_digest 70 = .ok (.istore 4, 2) := by decide +kernel
theorem dX5_digest_72 : decode cX5_digest 72 = .ok (.iload 4, 2) := by decide +kernel
theorem dX5_digest_74 : decode cX5_digest 74 = .ok (.bipush 10, 2) := by decide +kernel
theorem dX5_digest_76 : decode cX5_digest 76 = .ok (.if_icmp .ge 24, 3) := by decide +kernel
theorem dX5_digest_79 : decode cX5_digest 79 = .ok (.ldc2_w 177, 3) := by decide +kernel
theorem dX5_digest_82 : decode cX5_digest 82 = .ok (.lload_n 1, 1) := by decide +kernel
theorem dX5_digest_83 : decode cX5_digest 83 = .ok (.lmul, 1) := by decide +kernel
theorem dX5_digest_84 : decode cX5_digest 84 = .ok (.aload_n 0, 1) := by decide +kernel
theorem dX5_digest_85 : decode cX5_digest 85 = .ok (.iload_n 3, 1) := by decide +kernel
theorem dX5_digest_86 : decode cX5_digest 86 = .ok (.iload 4, 2) := by decide +kernel
theorem dX5_digest_88 : decode cX5_digest 88 = .ok (.invokevirtual 139, 3) := by decide +kernel
theorem dX5_digest_91 : decode cX5_digest 91 = .ok (.i2l, 1) := by decide +kernel
theorem dX5_digest_92 : decode cX5_digest 92 = .ok (.ladd, 1) := by decide +kernel
theorem dX5_digest_93 : decode cX5_digest 93 = .ok (.lstore_n 1, 1) := by decide +kernel
theorem dX5_digest_94 : decode cX5_digest 94 = .ok (.iinc 4 1, 3) := by decide +kernel
theorem dX5_digest_97 : decode cX5_digest 97 = .ok (.goto (-25), 3) := by decide +kernel
theorem dX5_digest_100 : decode cX5_digest 100 = .ok (.ldc2_w 177, 3) := by decide +kernel
theorem dX5_digest_103 : decode cX5_digest 103 = .ok (.lload_n 1, 1) := by decide +kernel
theorem dX5_digest_104 : decode cX5_digest 104 = .ok (.lmul, 1) := by decide +kernel
theorem dX5_digest_105 : decode cX5_digest 105 = .ok (.aload_n 0, 1) := by decide +kernel
theorem dX5_digest_106 : decode cX5_digest 106 = .ok (.iload_n 3, 1) := by decide +kernel
theorem dX5_digest_107 : decode cX5_digest 107 = .ok (.iconst 5, 1) := by decide +kernel
theorem dX5_digest_108 : decode cX5_digest 108 = .ok (.invokevirtual 161, 3) := by decide +kernel
theorem dX5_digest_111 : decode cX5_digest 111 = .ok (.i2l, 1) := by decide +kernel
theorem dX5_digest_112 : decode cX5_digest 112 = .ok (.ladd, 1) := by decide +kernel
theorem dX5_digest_113 : decode cX5_digest 113 = .ok (.lstore_n 1, 1) := by decide +kernel
theorem dX5_digest_114 : decode cX5_digest 114 = .ok (.ldc2_w 177, 3) := by decide +kernel
theorem dX5_digest_117 : decode cX5_digest 117 = .ok (.ldc2_w 177, 3) := by decide +kernel
theorem dX5_digest_120 : decode cX5_digest 120 = .ok (.lload_n 1, 1) := by decide +kernel
theorem dX5_digest_121 : decode cX5_digest 121 = .ok (.lmul, 1) := by decide +kernel
theorem dX5_digest_122 : decode cX5_digest 122 = .ok (.aload_n 0, 1) := by decide +kernel
theorem dX5_digest_123 : decode cX5_digest 123 = .ok (.iconst 0, 1) := by decide +kernel
theorem dX5_digest_124 : decode cX5_digest 124 = .ok (.iload_n 3, 1) := by decide +kernel
theorem dX5_digest_125 : decode cX5_digest 125 = .ok (.iconst 1, 1) := by decide +kernel
theorem dX5_digest_126 : decode cX5_digest 126 = .ok (.invokevirtual 164, 3) := by decide +kernel
theorem dX5_digest_129 : decode cX5_digest 129 = .ok (.i2l, 1) := by decide +kernel
theorem dX5_digest_130 : decode cX5_digest 130 = .ok (.ladd, 1) := by decide +kernel
theorem dX5_digest_131 : decode cX5_digest 131 = .ok (.lmul, 1) := by decide +kernel
theorem dX5_digest_132 : decode cX5_digest 132 = .ok (.aload_n 0, 1) := by decide +kernel
theorem dX5_digest_133 : decode cX5_digest 133 = .ok (.iconst 0, 1) := by decide +kernel
theorem dX5_digest_134 : decode cX5_digest 134 = .ok (.iload_n 3, 1) := by decide +kernel
theorem dX5_digest_135 : decode cX5_digest 135 = .ok (.iconst 0, 1) := by decide +kernel
theorem dX5_digest_136 : decode cX5_digest 136 = .ok (.invokevirtual 164, 3) := by decide +kernel
theorem dX5_digest_139 : decode cX5_digest 139 = .ok (.i2l, 1) := by decide +kernel
theorem dX5_digest_140 : decode cX5_digest 140 = .ok (.ladd, 1) := by decide +kernel
theorem dX5_digest_141 : decode cX5_digest 141 = .ok (.lstore_n 1, 1) := by decide +kernel
theorem dX5_digest_142 : decode cX5_digest 142 = .ok (.iinc 3 1, 3) := by decide +kernel
theorem dX5_digest_145 : decode cX5_digest 145 = .ok (.goto (-81), 3) := by decide +kernel
theorem dX5_digest_148 : decode cX5_digest 148 = .ok (.iconst 0, 1) := by decide +kernel
theorem dX5_digest_149 : decode cX5_digest 149 = .ok (.istore_n 3, 1) := by decide +kernel
theorem dX5_digest_150 : decode cX5_digest 150 = .ok (.iload_n 3, 1) := by decide +kernel
theorem dX5_digest_151 : decode cX5_digest 151 = .ok (.aload_n 0, 1) := by decide +kernel
theorem dX5_digest_152 : decode cX5_digest 152 = .ok (.getfield 7, 3) := by decide +kernel
theorem dX5_digest_155 : decode cX5_digest 155 = .ok (.iconst 3, 1) := by decide +kernel
theorem dX5_digest_156 : decode cX5_digest 156 = .ok (.iaload, 1) := by decide +kernel
theorem dX5_digest_157 : decode cX5_digest 157 = .ok (.if_icmp .ge 40, 3) := by decide +kernel
theorem dX5_digest_160 : decode cX5_digest 160 = .ok (.iconst 0, 1) := by decide +kernel
theorem dX5_digest_161 : decode cX5_digest 161 = .ok (.istore 4, 2) := by decide +kernel
theorem dX5_digest_163 : decode cX5_digest 163 = .ok (.iload 4, 2) := by decide +kernel
theorem dX5_digest_165 : decode cX5_digest 165 = .ok (.bipush 6, 2) := by decide +kernel
theorem dX5_digest_167 : decode cX5_digest 167 = .ok (.if_icmp .ge 24, 3) := by decide +kernel
theorem dX5_digest_170 : decode cX5_digest 170 = .ok (.ldc2_w 177, 3) := by decide +kernel
theorem dX5_digest_173 : decode cX5_digest 173 = .ok (.lload_n 1, 1) := by decide +kernel
theorem dX5_digest_174 : decode cX5_digest 174 = .ok (.lmul, 1) := by decide +kernel
theorem dX5_digest_175 : decode cX5_digest 175 = .ok (.aload_n 0, 1) := by decide +kernel
theorem dX5_digest_176 : decode cX5_digest 176 = .ok (.iload_n 3, 1) := by decide +kernel
theorem dX5_digest_177 : decode cX5_digest 177 = .ok (.iload 4, 2) := by decide +kernel
theorem dX5_digest_179 : decode cX5_digest 179 = .ok (.invokevirtual 142, 3) := by decide +kernel
theorem dX5_digest_182 : decode cX5_digest 182 = .ok (.i2l, 1) := by decide +kernel
theorem dX5_digest_183 : decode cX5_digest 183 = .ok (.ladd, 1) := by decide +kernel
theorem dX5_digest_184 : decode cX5_digest 184 = .ok (.lstore_n 1, 1) := by decide +kernel
theorem dX5_digest_185 : decode cX5_digest 185 = .ok (.iinc 4 1, 3) := by decide +kernel
theorem dX5_digest_188 : decode cX5_digest 188 = .ok (.goto (-25), 3) := by decide +kernel
theorem dX5_digest_191 : decode cX5_digest 191 = .ok (.iinc 3 1, 3) := by decide +kernel
theorem dX5_digest_194 : decode cX5_digest 194 = .ok (.goto (-44), 3) := by decide +kernel
theorem dX5_digest_197 : decode cX5_digest 197 = .ok (.iconst 0, 1) := by decide +kernel
theorem dX5_digest_198 : decode cX5_digest 198 = .ok (.istore_n 3, 1) := by decide +kernel
theorem dX5_digest_199 : decode cX5_digest 199 = .ok (.iload_n 3, 1) := by decide +kernel
theorem dX5_digest_200 : decode cX5_digest 200 = .ok (.bipush 6, 2) := by decide +kernel
theorem dX5_digest_202 : decode cX5_digest 202 = .ok (.if_icmp .ge 56, 3) := by decide +kernel
theorem dX5_digest_205 : decode cX5_digest 205 = .ok (.iconst 0, 1) := by decide +kernel
theorem dX5_digest_206 : decode cX5_digest 206 = .ok (.istore 4, 2) := by decide +kernel
theorem dX5_digest_208 : decode cX5_digest 208 = .ok (.iload 4, 2) := by decide +kernel
theorem dX5_digest_210 : decode cX5_digest 210 = .ok (.iconst 5, 1) := by decide +kernel
theorem dX5_digest_211 : decode cX5_digest 211 = .ok (.if_icmp .ge 24, 3) := by decide +kernel
theorem dX5_digest_214 : decode cX5_digest 214 = .ok (.ldc2_w 177, 3) := by decide +kernel
theorem dX5_digest_217 : decode cX5_digest 217 = .ok (.lload_n 1, 1) := by decide +kernel
theorem dX5_digest_218 : decode cX5_digest 218 = .ok (.lmul, 1) := by decide +kernel
theorem dX5_digest_219 : decode cX5_digest 219 = .ok (.aload_n 0, 1) := by decide +kernel
theorem dX5_digest_220 : decode cX5_digest 220 = .ok (.iload_n 3, 1) := by decide +kernel
theorem dX5_digest_221 : decode cX5_digest 221 = .ok (.iload 4, 2) := by decide +kernel
theorem dX5_digest_223 : decode cX5_digest 223 = .ok (.invokevirtual 145, 3) := by decide +kernel
theorem dX5_digest_226 : decode cX5_digest 226 = .ok (.i2l, 1) := by decide +kernel
theorem dX5_digest_227 : decode cX5_digest 227 = .ok (.ladd, 1) := by decide +kernel
theorem dX5_digest_228 : decode cX5_digest 228 = .ok (.lstore_n 1, 1) := by decide +kernel
theorem dX5_digest_229 : decode cX5_digest 229 = .ok (.iinc 4 1, 3) := by decide +kernel
theorem dX5_digest_232 : decode cX5_digest 232 = .ok (.goto (-24), 3) := by decide +kernel
theorem dX5_digest_235 : decode cX5_digest 235 = .ok (.ldc2_w 177, 3) := by decide +kernel
theorem dX5_digest_238 : decode cX5_digest 238 = .ok (.lload_n 1, 1) := by decide +kernel
theorem dX5_digest_239 : decode cX5_digest 239 = .ok (.lmul, 1) := by decide +kernel
theorem dX5_digest_240 : decode cX5_digest 240 = .ok (.aload_n 0, 1) := by decide +kernel
theorem dX5_digest_241 : decode cX5_digest 241 = .ok (.iload_n 3, 1) := by decide +kernel
theorem dX5_digest_242 : decode cX5_digest 242 = .ok (.iconst 1, 1) := by decide +kernel
theorem dX5_digest_243 : decode cX5_digest 243 = .ok (.bipush 7, 2) := by decide +kernel
theorem dX5_digest_245 : decode cX5_digest 245 = .ok (.iconst (-1), 1) := by decide +kernel
theorem dX5_digest_246 : decode cX5_digest 246 = .ok (.invokevirtual 80, 3) := by decide +kernel
theorem dX5_digest_249 : decode cX5_digest 249 = .ok (.i2l, 1) := by decide +kernel
theorem dX5_digest_250 : decode cX5_digest 250 = .ok (.ladd, 1) := by decide +kernel
theorem dX5_digest_251 : decode cX5_digest 251 = .ok (.lstore_n 1, 1) := by decide +kernel
theorem dX5_digest_252 : decode cX5_digest 252 = .ok (.iinc 3 1, 3) := by decide +kernel
theorem dX5_digest_255 : decode cX5_digest 255 = .ok (.goto (-56), 3) := by decide +kernel
theorem dX5_digest_258 : decode cX5_digest 258 = .ok (.iconst 0, 1) := by decide +kernel
theorem dX5_digest_259 : decode cX5_digest 259 = .ok (.istore_n 3, 1) := by decide +kernel
theorem dX5_digest_260 : decode cX5_digest 260 = .ok (.iload_n 3, 1) := by decide +kernel
theorem dX5_digest_261 : decode cX5_digest 261 = .ok (.iconst 5, 1) := by decide +kernel
theorem dX5_digest_262 : decode cX5_digest 262 = .ok (.if_icmp .ge 23, 3) := by decide +kernel
theorem dX5_digest_265 : decode cX5_digest 265 = .ok (.ldc2_w 177, 3) := by decide +kernel
theorem dX5_digest_268 : decode cX5_digest 268 = .ok (.lload_n 1, 1) := by decide +kernel
theorem dX5_digest_269 : decode cX5_digest 269 = .ok (.lmul, 1) := by decide +kernel
theorem dX5_digest_270 : decode cX5_digest 270 = .ok (.aload_n 0, 1) := by decide +kernel
theorem dX5_digest_271 : decode cX5_digest 271 = .ok (.iconst 5, 1) := by decide +kernel
theorem dX5_digest_272 : decode cX5_digest 272 = .ok (.iload_n 3, 1) := by decide +kernel
theorem dX5_digest_273 : decode cX5_digest 273 = .ok (.invokevirtual 168, 3) := by decide +kernel
theorem dX5_digest_276 : decode cX5_digest 276 = .ok (.i2l, 1) := by decide +kernel
theorem dX5_digest_277 : decode cX5_digest 277 = .ok (.ladd, 1) := by decide +kernel
theorem dX5_digest_278 : decode cX5_digest 278 = .ok (.lstore_n 1, 1) := by decide +kernel
theorem dX5_digest_279 : decode cX5_digest 279 = .ok (.iinc 3 1, 3) := by decide +kernel
theorem dX5_digest_282 : decode cX5_digest 282 = .ok (.goto (-22), 3) := by decide +kernel
theorem dX5_digest_285 : decode cX5_digest 285 = .ok (.ldc2_w 177, 3) := by decide +kernel
theorem dX5_digest_288 : decode cX5_digest 288 = .ok (.ldc2_w 177, 3) := by decide +kernel
theorem dX5_digest_291 : decode cX5_digest 291 = .ok (.lload_n 1, 1) := by decide +kernel
theorem dX5_digest_292 : decode cX5_digest 292 = .ok (.lmul, 1) := by decide +kernel
theorem dX5_digest_293 : decode cX5_digest 293 = .ok (.aload_n 0, 1) := by decide +kernel
theorem dX5_digest_294 : decode cX5_digest 294 = .ok (.invokevirtual 171, 3) := by decide +kernel
theorem dX5_digest_297 : decode cX5_digest 297 = .ok (.invokestatic 179, 3) := by decide +kernel
theorem dX5_digest_300 : decode cX5_digest 300 = .ok (.ladd, 1) := by decide +kernel
theorem dX5_digest_301 : decode cX5_digest 301 = .ok (.lmul, 1) := by decide +kernel
theorem dX5_digest_302 : decode cX5_digest 302 = .ok (.aload_n 0, 1) := by decide +kernel
theorem dX5_digest_303 : decode cX5_digest 303 = .ok (.getfield 94, 3) := by decide +kernel
theorem dX5_digest_306 : decode cX5_digest 306 = .ok (.i2l, 1) := by decide +kernel
theorem dX5_digest_307 : decode cX5_digest 307 = .ok (.ladd, 1) := by decide +kernel
theorem dX5_digest_308 : decode cX5_digest 308 = .ok (.lstore_n 1, 1) := by decide +kernel
theorem dX5_digest_309 : decode cX5_digest 309 = .ok (.iconst 0, 1) := by decide +kernel
theorem dX5_digest_310 : decode cX5_digest 310 = .ok (.istore_n 3, 1) := by decide +kernel
theorem dX5_digest_311 : decode cX5_digest 311 = .ok (.iload_n 3, 1) := by decide +kernel
theorem dX5_digest_312 : decode cX5_digest 312 = .ok (.aload_n 0, 1) := by decide +kernel
theorem dX5_digest_313 : decode cX5_digest 313 = .ok (.getfield 94, 3) := by decide +kernel
theorem dX5_digest_316 : decode cX5_digest 316 = .ok (.if_icmp .ge 23, 3) := by decide +kernel
theorem dX5_digest_319 : decode cX5_digest 319 = .ok (.ldc2_w 177, 3) := by decide +kernel
theorem dX5_digest_322 : decode cX5_digest 322 = .ok (.lload_n 1, 1) := by decide +kernel
theorem dX5_digest_323 : decode cX5_digest 323 = .ok (.lmul, 1) := by decide +kernel
theorem dX5_digest_324 : decode cX5_digest 324 = .ok (.aload_n 0, 1) := by decide +kernel
theorem dX5_digest_325 : decode cX5_digest 325 = .ok (.getfield 16, 3) := by decide +kernel
theorem dX5_digest_328 : decode cX5_digest 328 = .ok (.iload_n 3, 1) := by decide +kernel
theorem dX5_digest_329 : decode cX5_digest 329 = .ok (.iaload, 1) := by decide +kernel
theorem dX5_digest_330 : decode cX5_digest 330 = .ok (.i2l, 1) := by decide +kernel
theorem dX5_digest_331 : decode cX5_digest 331 = .ok (.ladd, 1) := by decide +kernel
theorem dX5_digest_332 : decode cX5_digest 332 = .ok (.lstore_n 1, 1) := by decide +kernel
theorem dX5_digest_333 : decode cX5_digest 333 = .ok (.iinc 3 1, 3) := by decide +kernel
theorem dX5_digest_336 : decode cX5_digest 336 = .ok (.goto (-25), 3) := by decide +kernel
theorem dX5_digest_339 : decode cX5_digest 339 = .ok (.lload_n 1, 1) := by decide +kernel
theorem dX5_digest_340 : decode cX5_digest 340 = .ok (.lreturn, 1) := by decide +kernel
theorem dJxe99ae_isNaN_b9ae7_0 : decode cJxe99ae_isNaN_b9ae7 0 = .ok (.dload_n 0, 1) := by decide +kernel
theorem dJxe99ae_isNaN_b9ae7_1 : decode cJxe99ae_isNaN_b9ae7 1 = .ok (.dload_n 0, 1) := by decide +kernel
theorem dJxe99ae_isNaN_b9ae7_2 : decode cJxe99ae_isNaN_b9ae7 2 = .ok (.dcmp .l, 1) := by decide +kernel
theorem dJxe99ae_isNaN_b9ae7_3 : decode cJxe99ae_isNaN_b9ae7 3 = .ok (.ifCond .eq 7, 3) := by decide +kernel
theorem dJxe99ae_isNaN_b9ae7_6 : decode cJxe99ae_isNaN_b9ae7 6 = .ok (.iconst 1, 1) := by decide +kernel
theorem dJxe99ae_isNaN_b9ae7_7 : decode cJxe99ae_isNaN_b9ae7 7 = .ok (.goto 4, 3) := by decide +kernel
theorem dJxe99ae_isNaN_b9ae7_10 : decode cJxe99ae_isNaN_b9ae7 10 = .ok (.iconst 0, 1) := by decide +kernel
theorem dJxe99ae_isNaN_b9ae7_11 : decode cJxe99ae_isNaN_b9ae7 11 = .ok (.ireturn, 1) := by decide +kernel
set_option maxRecDepth 20000 in
theorem ggJxe99ae_doubleToLongBits_ccdee_Jxe99ae_isNaN_b9ae7 : GoodIn wsJxe99ae_doubleToLongBits_ccdee wsJxe99ae_isNaN_b9ae7 := goodIn_r _ [9] (by decide +kernel) (by decide +kernel)
set_option maxRecDepth 20000 in
theorem gJxe99ae_doubleToLongBits_ccdee_Jxe99ae_isNaN_b9ae7 : GoodIn wsJxe99ae_doubleToLongBits_ccdee (va_wsS RJxe99ae 122 yJxe99ae_isNaN_b9ae7 wsJxe99ae_isNaN_b9ae7) := goodIn_app (goodIn_of _ (by decide +kernel)) ggJxe99ae_doubleToLongBits_ccdee_Jxe99ae_isNaN_b9ae7
theorem dJxe99ae_doubleToLongBits_ccdee_0 : decode cJxe99ae_doubleToLongBits_ccdee 0 = .ok (.dload_n 0, 1) := by decide +kernel
theorem dJxe99ae_doubleToLongBits_ccdee_1 : decode cJxe99ae_doubleToLongBits_ccdee 1 = .ok (.invokestatic 122, 3) := by decide +kernel
theorem dJxe99ae_doubleToLongBits_ccdee_4 : decode cJxe99ae_doubleToLongBits_ccdee 4 = .ok (.ifCond .ne 8, 3) := by decide +kernel
theorem dJxe99ae_doubleToLongBits_ccdee_7 : decode cJxe99ae_doubleToLongBits_ccdee 7 = .ok (.dload_n 0, 1) := by decide +kernel
theorem dJxe99ae_doubleToLongBits_ccdee_8 : decode cJxe99ae_doubleToLongBits_ccdee 8 = .ok (.invokestatic 134, 3) := by decide +kernel
theorem dJxe99ae_doubleToLongBits_ccdee_11 : decode cJxe99ae_doubleToLongBits_ccdee 11 = .ok (.lreturn, 1) := by decide +kernel
theorem dJxe99ae_doubleToLongBits_ccdee_12 : decode cJxe99ae_doubleToLongBits_ccdee 12 = .ok (.ldc2_w 137, 3) := by decide +kernel
theorem dJxe99ae_doubleToLongBits_ccdee_15 : decode cJxe99ae_doubleToLongBits_ccdee 15 = .ok (.lreturn, 1) := by decide +kernel
theorem dJ9_abs_0f7a4_0 : decode cJ9_abs_0f7a4 0 = .ok (.iload_n 0, 1) := by decide +kernel
theorem dJ9_abs_0f7a4_1 : decode cJ9_abs_0f7a4 1 = .ok (.ifCond .ge 8, 3) := by decide +kernel
theorem dJ9_abs_0f7a4_4 : decode cJ9_abs_0f7a4 4 = .ok (.iload_n 0, 1) := by decide +kernel
theorem dJ9_abs_0f7a4_5 : decode cJ9_abs_0f7a4 5 = .ok (.ineg, 1) := by decide +kernel
theorem dJ9_abs_0f7a4_6 : decode cJ9_abs_0f7a4 6 = .ok (.goto 4, 3) := by decide +kernel
theorem dJ9_abs_0f7a4_9 : decode cJ9_abs_0f7a4 9 = .ok (.iload_n 0, 1) := by decide +kernel
theorem dJ9_abs_0f7a4_10 : decode cJ9_abs_0f7a4 10 = .ok (.ireturn, 1) := by decide +kernel
theorem dJ9_max_7cf53_0 : decode cJ9_max_7cf53 0 = .ok (.iload_n 0, 1) := by decide +kernel
theorem dJ9_max_7cf53_1 : decode cJ9_max_7cf53 1 = .ok (.iload_n 1, 1) := by decide +kernel
theorem dJ9_max_7cf53_2 : decode cJ9_max_7cf53 2 = .ok (.if_icmp .lt 7, 3) := by decide +kernel
theorem dJ9_max_7cf53_5 : decode cJ9_max_7cf53 5 = .ok (.iload_n 0, 1) := by decide +kernel
theorem dJ9_max_7cf53_6 : decode cJ9_max_7cf53 6 = .ok (.goto 4, 3) := by decide +kernel
theorem dJ9_max_7cf53_9 : decode cJ9_max_7cf53 9 = .ok (.iload_n 1, 1) := by decide +kernel
theorem dJ9_max_7cf53_10 : decode cJ9_max_7cf53 10 = .ok (.ireturn, 1) := by decide +kernel
theorem dJ9_min_7cf53_0 : decode cJ9_min_7cf53 0 = .ok (.iload_n 0, 1) := by decide +kernel
theorem dJ9_min_7cf53_1 : decode cJ9_min_7cf53 1 = .ok (.iload_n 1, 1) := by decide +kernel
theorem dJ9_min_7cf53_2 : decode cJ9_min_7cf53 2 = .ok (.if_icmp .gt 7, 3) := by decide +kernel
theorem dJ9_min_7cf53_5 : decode cJ9_min_7cf53 5 = .ok (.iload_n 0, 1) := by decide +kernel
theorem dJ9_min_7cf53_6 : decode cJ9_min_7cf53 6 = .ok (.goto 4, 3) := by decide +kernel
theorem dJ9_min_7cf53_9 : decode cJ9_min_7cf53 9 = .ok (.iload_n 1, 1) := by decide +kernel
theorem dJ9_min_7cf53_10 : decode cJ9_min_7cf53 10 = .ok (.ireturn, 1) := by decide +kernel
set_option maxRecDepth 20000 in
theorem ggL_bounds_X4_bounds : GoodIn wsL_bounds wsX4_bounds := goodIn_ca (goodIn_ca (goodIn_ca (goodIn_r _ [8, 9, 10, 11, 12, 13, 14, 15, 16, 7, 17, 18, 19, 20, 21, 22, 23, 24, 25, 26, 27, 28, 29, 30, 31, 32, 33, 34, 35, 36, 37, 38, 39, 40, 41, 42, 43, 44, 45, 46, 47, 48, 49, 50, 51, 52, 53, 54, 55, 56, 57, 58, 59, 60, 61, 62, 63, 64, 65, 66, 67, 68, 69, 70, 71, 72, 73, 74, 75, 76, 77, 78, 79, 80, 81, 82, 83, 84, 85, 86, 87, 88, 89, 90, 91, 92, 93, 94, 95, 96, 97, 98, 99, 100, 101, 102, 103, 104, 105] (by decide +kernel) (by decide +kernel)) (goodIn_sub (fun _ h => List.mem_cons_of_mem _ (List.mem_append_left _ (List.mem_append_left _ (List.mem_append_right _ h)))) (by decide +kernel))) (goodIn_sub (fun _ h => List.mem_cons_of_mem _ (List.mem_append_left _ (List.mem_append_right _ h))) (by decide +kernel))) (goodIn_sub (fun _ h => List.mem_cons_of_mem _ (List.mem_append_right _ h)) (by decide +kernel))
set_option maxRecDepth 20000 in
theorem gL_bounds_X4_bounds : GoodIn wsL_bounds (wsV RL 7 RX4 yX4_bounds wsX4_bounds) := goodIn_app (goodIn_of _ (by decide +kernel)) ggL_bounds_X4_bounds
theorem dL_bounds_0 : decode cL_bounds 0 = .ok (.aload 4, 2) := by decide +kernel
theorem dL_bounds_2 : decode cL_bounds 2 = .ok (.iconst 0, 1) := by decide +kernel
theorem dL_bounds_3 : decode cL_bounds 3 = .ok (.aload_n 0, 1) := by decide +kernel
theorem dL_bounds_4 : decode cL_bounds 4 = .ok (.iload_n 1, 1) := by decide +kernel
theorem dL_bounds_5 : decode cL_bounds 5 = .ok (.iload_n 2, 1) := by decide +kernel
theorem dL_bounds_6 : decode cL_bounds 6 = .ok (.iload_n 3, 1) := by decide +kernel
theorem dL_bounds_7 : decode cL_bounds 7 = .ok (.invokevirtual 7, 3) := by decide +kernel
theorem dL_bounds_10 : decode cL_bounds 10 = .ok (.i2l, 1) := by decide +kernel
theorem dL_bounds_11 : decode cL_bounds 11 = .ok (.lastore, 1) := by decide +kernel
theorem dL_bounds_12 : decode cL_bounds 12 = .ok (.goto 15, 3) := by decide +kernel
theorem dL_bounds_15 : decode cL_bounds 15 = .ok (.astore 5, 2) := by decide +kernel
theorem dL_bounds_17 : decode cL_bounds 17 = .ok (.iconst 1, 1) := by decide +kernel
theorem dL_bounds_18 : decode cL_bounds 18 = .ok (.ireturn, 1) := by decide +kernel
theorem dL_bounds_19 : decode cL_bounds 19 = .ok (.astore 5, 2) := by decide +kernel
theorem dL_bounds_21 : decode cL_bounds 21 = .ok (.iconst 2, 1) := by decide +kernel
theorem dL_bounds_22 : decode cL_bounds 22 = .ok (.ireturn, 1) := by decide +kernel
theorem dL_bounds_23 : decode cL_bounds 23 = .ok (.astore 5, 2) := by decide +kernel
theorem dL_bounds_25 : decode cL_bounds 25 = .ok (.iconst 3, 1) := by decide +kernel
theorem dL_bounds_26 : decode cL_bounds 26 = .ok (.ireturn, 1) := by decide +kernel
theorem dL_bounds_27 : decode cL_bounds 27 = .ok (.iconst 0, 1) := by decide +kernel
theorem dL_bounds_28 : decode cL_bounds 28 = .ok (.ireturn, 1) := by decide +kernel
set_option maxRecDepth 20000 in
theorem ggL_set_X4_set : GoodIn wsL_set wsX4_set := goodIn_ca (goodIn_ca (goodIn_r _ [7, 8, 9, 10, 11, 12, 6, 13, 14, 15, 16, 17, 18, 19, 20, 21, 22, 23, 24, 25, 26, 27, 28, 29, 30, 31, 32, 33, 34, 35, 36, 37, 38, 39, 40, 41, 42, 43, 44, 45, 46, 47, 48, 49, 50, 51, 52, 53, 54, 55, 56, 57, 58, 59, 60, 61, 62, 63, 64, 65, 66, 67, 68, 69, 70, 71, 72, 73, 74, 75, 76, 77, 78] (by decide +kernel) (by decide +kernel)) (goodIn_sub (fun _ h => List.mem_cons_of_mem _ (List.mem_append_left _ (List.mem_append_right _ h))) (by decide +kernel))) (goodIn_sub (fun _ h => List.mem_cons_of_mem _ (List.mem_append_right _ h)) (by decide +kernel))
set_option maxRecDepth 20000 in
theorem gL_set_X4_set : GoodIn wsL_set (wsV RL 19 RX4 yX4_set wsX4_set) := goodIn_app (goodIn_of _ (by decide +kernel)) ggL_set_X4_set
theorem dL_set_0 : decode cL_set 0 = .ok (.aload_n 3, 1) := by decide +kernel
theorem dL_set_1 : decode cL_set 1 = .ok (.iconst 0, 1) := by decide +kernel
theorem dL_set_2 : decode cL_set 2 = .ok (.aload_n 0, 1) := by decide +kernel
theorem dL_set_3 : decode cL_set 3 = .ok (.iload_n 1, 1) := by decide +kernel
theorem dL_set_4 : decode cL_set 4 = .ok (.iload_n 2, 1) := by decide +kernel
theorem dL_set_5 : decode cL_set 5 = .ok (.invokevirtual 19, 3) := by decide +kernel
theorem dL_set_8 : decode cL_set 8 = .ok (.i2l, 1) := by decide +kernel
theorem dL_set_9 : decode cL_set 9 = .ok (.lastore, 1) := by decide +kernel
theorem dL_set_10 : decode cL_set 10 = .ok (.goto 11, 3) := by decide +kernel
theorem dL_set_13 : decode cL_set 13 = .ok (.astore 4, 2) := by decide +kernel
theorem dL_set_15 : decode cL_set 15 = .ok (.iconst 1, 1) := by decide +kernel
theorem dL_set_16 : decode cL_set 16 = .ok (.ireturn, 1) := by decide +kernel
theorem dL_set_17 : decode cL_set 17 = .ok (.astore 4, 2) := by decide +kernel
theorem dL_set_19 : decode cL_set 19 = .ok (.iconst 2, 1) := by decide +kernel
theorem dL_set_20 : decode cL_set 20 = .ok (.ireturn, 1) := by decide +kernel
theorem dL_set_21 : decode cL_set 21 = .ok (.iconst 0, 1) := by decide +kernel
theorem dL_set_22 : decode cL_set 22 = .ok (.ireturn, 1) := by decide +kernel
set_option maxRecDepth 20000 in
theorem ggL_promise_X4_promise : GoodIn wsL_promise wsX4_promise := goodIn_ca (goodIn_ca (goodIn_ca (goodIn_r _ [8, 9, 10, 11, 12, 7, 13, 14, 15, 16, 17, 18, 19, 20, 21, 22, 23, 24, 25, 26, 27, 28, 29, 30, 31, 32, 33, 34, 35, 36, 37, 38, 39, 40, 41, 42, 43, 44, 45, 46, 47, 48, 49, 50, 51, 52, 53, 54, 55, 56, 57, 58, 59, 60, 61, 62, 63, 64, 65, 66, 67, 68, 69, 70, 71, 72, 73, 74, 75, 76, 77, 78, 79, 80, 81, 82, 83, 84, 85, 86, 87, 88, 89, 90, 91, 92, 93, 94, 95, 96, 97, 98, 99, 100, 101, 102, 103, 104, 105, 106, 107, 108, 109, 110, 111, 112, 113, 114, 115, 116, 117, 118, 119, 120, 121, 122, 123, 124, 125, 126, 127, 128, 129, 130] (by decide +kernel) (by decide +kernel)) (goodIn_sub (fun _ h => List.mem_cons_of_mem _ (List.mem_append_left _ (List.mem_append_left _ (List.mem_append_right _ h)))) (by decide +kernel))) (goodIn_sub (fun _ h => List.mem_cons_of_mem _ (List.mem_append_left _ (List.mem_append_right _ h))) (by decide +kernel))) (goodIn_sub (fun _ h => List.mem_cons_of_mem _ (List.mem_append_right _ h)) (by decide +kernel))
set_option maxRecDepth 20000 in
theorem gL_promise_X4_promise : GoodIn wsL_promise (wsV RL 23 RX4 yX4_promise wsX4_promise) := goodIn_app (goodIn_of _ (by decide +kernel)) ggL_promise_X4_promise
theorem dL_promise_0 : decode cL_promise 0 = .ok (.aload 4, 2) := by decide +kernel
theorem dL_promise_2 : decode cL_promise 2 = .ok (.iconst 0, 1) := by decide +kernel
theorem dL_promise_3 : decode cL_promise 3 = .ok (.aload_n 0, 1) := by decide +kernel
theorem dL_promise_4 : decode cL_promise 4 = .ok (.iload_n 1, 1) := by decide +kernel
theorem dL_promise_5 : decode cL_promise 5 = .ok (.iload_n 2, 1) := by decide +kernel
theorem dL_promise_6 : decode cL_promise 6 = .ok (.iload_n 3, 1) := by decide +kernel
theorem dL_promise_7 : decode cL_promise 7 = .ok (.invokevirtual 23, 3) := by decide +kernel
theorem dL_promise_10 : decode cL_promise 10 = .ok (.i2l, 1) := by decide +kernel
theorem dL_promise_11 : decode cL_promise 11 = .ok (.lastore, 1) := by decide +kernel
theorem dL_promise_12 : decode cL_promise 12 = .ok (.goto 15, 3) := by decide +kernel
theorem dL_promise_15 : decode cL_promise 15 = .ok (.astore 5, 2) := by decide +kernel
theorem dL_promise_17 : decode cL_promise 17 = .ok (.iconst 1, 1) := by decide +kernel
theorem dL_promise_18 : decode cL_promise 18 = .ok (.ireturn, 1) := by decide +kernel
theorem dL_promise_19 : decode cL_promise 19 = .ok (.astore 5, 2) := by decide +kernel
theorem dL_promise_21 : decode cL_promise 21 = .ok (.iconst 2, 1) := by decide +kernel
theorem dL_promise_22 : decode cL_promise 22 = .ok (.ireturn, 1) := by decide +kernel
theorem dL_promise_23 : decode cL_promise 23 = .ok (.astore 5, 2) := by decide +kernel
theorem dL_promise_25 : decode cL_promise 25 = .ok (.iconst 3, 1) := by decide +kernel
theorem dL_promise_26 : decode cL_promise 26 = .ok (.ireturn, 1) := by decide +kernel
theorem dL_promise_27 : decode cL_promise 27 = .ok (.iconst 0, 1) := by decide +kernel
theorem dL_promise_28 : decode cL_promise 28 = .ok (.ireturn, 1) := by decide +kernel
set_option maxRecDepth 20000 in
theorem ggL_transfer_X4_transfer : GoodIn wsL_transfer wsX4_transfer := goodIn_ca (goodIn_ca (goodIn_ca (goodIn_r _ [8, 9, 10, 11, 12, 13, 14, 7, 15, 16, 17, 18, 19, 20, 21, 22, 23, 24, 25, 26, 27, 28, 29, 30, 31, 32, 33, 34, 35, 36, 37, 38, 39, 40, 41, 42, 43, 44, 45, 46, 47, 48, 49, 50, 51, 52, 53, 54, 55, 56, 57, 58, 59, 60, 61, 62, 63, 64, 65, 66, 67, 68, 69, 70, 71, 72, 73, 74, 75, 76, 77, 78, 79, 80, 81, 82, 83, 84, 85, 86, 87, 88, 89, 90, 91, 92, 93, 94, 95, 96, 97, 98, 99, 100, 101, 102, 103, 104, 105, 106, 107, 108, 109, 110, 111, 112, 113, 114, 115, 116, 117, 118, 119, 120, 121, 122, 123, 124, 125, 126, 127] (by decide +kernel) (by decide +kernel)) (goodIn_sub (fun _ h => List.mem_cons_of_mem _ (List.mem_append_left _ (List.mem_append_left _ (List.mem_append_right _ h)))) (by decide +kernel))) (goodIn_sub (fun _ h => List.mem_cons_of_mem _ (List.mem_append_left _ (List.mem_append_right _ h))) (by decide +kernel))) (goodIn_sub (fun _ h => List.mem_cons_of_mem _ (List.mem_append_right _ h)) (by decide +kernel))
set_option maxRecDepth 20000 in
theorem gL_transfer_X4_transfer : GoodIn wsL_transfer (wsV RL 26 RX4 yX4_transfer wsX4_transfer) := goodIn_app (goodIn_of _ (by decide +kernel)) ggL_transfer_X4_transfer
theorem dL_transfer_0 : decode cL_transfer 0 = .ok (.aload 5, 2) := by decide +kernel
theorem dL_transfer_2 : decode cL_transfer 2 = .ok (.iconst 0, 1) := by decide +kernel
theorem dL_transfer_3 : decode cL_transfer 3 = .ok (.aload_n 0, 1) := by decide +kernel
theorem dL_transfer_4 : decode cL_transfer 4 = .ok (.iload_n 1, 1) := by decide +kernel
theorem dL_transfer_5 : decode cL_transfer 5 = .ok (.iload_n 2, 1) := by decide +kernel
theorem dL_transfer_6 : decode cL_transfer 6 = .ok (.iload_n 3, 1) := by decide +kernel
theorem dL_transfer_7 : decode cL_transfer 7 = .ok (.iload 4, 2) := by decide +kernel
theorem dL_transfer_9 : decode cL_transfer 9 = .ok (.invokevirtual 26, 3) := by decide +kernel
theorem dL_transfer_12 : decode cL_transfer 12 = .ok (.i2l, 1) := by decide +kernel
theorem dL_transfer_13 : decode cL_transfer 13 = .ok (.lastore, 1) := by decide +kernel
theorem dL_transfer_14 : decode cL_transfer 14 = .ok (.goto 15, 3) := by decide +kernel
theorem dL_transfer_17 : decode cL_transfer 17 = .ok (.astore 6, 2) := by decide +kernel
theorem dL_transfer_19 : decode cL_transfer 19 = .ok (.iconst 1, 1) := by decide +kernel
theorem dL_transfer_20 : decode cL_transfer 20 = .ok (.ireturn, 1) := by decide +kernel
theorem dL_transfer_21 : decode cL_transfer 21 = .ok (.astore 6, 2) := by decide +kernel
theorem dL_transfer_23 : decode cL_transfer 23 = .ok (.iconst 2, 1) := by decide +kernel
theorem dL_transfer_24 : decode cL_transfer 24 = .ok (.ireturn, 1) := by decide +kernel
theorem dL_transfer_25 : decode cL_transfer 25 = .ok (.astore 6, 2) := by decide +kernel
theorem dL_transfer_27 : decode cL_transfer 27 = .ok (.iconst 3, 1) := by decide +kernel
theorem dL_transfer_28 : decode cL_transfer 28 = .ok (.ireturn, 1) := by decide +kernel
theorem dL_transfer_29 : decode cL_transfer 29 = .ok (.iconst 0, 1) := by decide +kernel
theorem dL_transfer_30 : decode cL_transfer 30 = .ok (.ireturn, 1) := by decide +kernel
set_option maxRecDepth 20000 in
theorem ggL_settle_X4_settle : GoodIn wsL_settle wsX4_settle := goodIn_ca (goodIn_r _ [6, 7, 8, 9, 10, 11, 12, 13, 5, 14, 15, 16, 17, 18, 19, 20, 21, 22, 23, 24, 25, 26, 27, 28, 29, 30, 31, 32, 33, 34, 35, 36, 37, 38, 39, 40, 41, 42, 43, 44, 45, 46, 47, 48, 49, 50, 51, 52, 53, 54, 55, 56, 57, 58, 59, 60, 61, 62, 63, 64, 65, 66, 67, 68, 69, 70, 71, 72, 73, 74, 75, 76, 77, 78, 79, 80, 81, 82, 83, 84, 85, 86] (by decide +kernel) (by decide +kernel)) (goodIn_sub (fun _ h => List.mem_cons_of_mem _ (List.mem_append_right _ h)) (by decide +kernel))
set_option maxRecDepth 20000 in
theorem gL_settle_X4_settle : GoodIn wsL_settle (wsV RL 30 RX4 yX4_settle wsX4_settle) := goodIn_app (goodIn_of _ (by decide +kernel)) ggL_settle_X4_settle
theorem dL_settle_0 : decode cL_settle 0 = .ok (.aload_n 2, 1) := by decide +kernel
theorem dL_settle_1 : decode cL_settle 1 = .ok (.iconst 0, 1) := by decide +kernel
theorem dL_settle_2 : decode cL_settle 2 = .ok (.aload_n 0, 1) := by decide +kernel
theorem dL_settle_3 : decode cL_settle 3 = .ok (.iload_n 1, 1) := by decide +kernel
theorem dL_settle_4 : decode cL_settle 4 = .ok (.invokevirtual 30, 3) := by decide +kernel
theorem dL_settle_7 : decode cL_settle 7 = .ok (.i2l, 1) := by decide +kernel
theorem dL_settle_8 : decode cL_settle 8 = .ok (.lastore, 1) := by decide +kernel
theorem dL_settle_9 : decode cL_settle 9 = .ok (.goto 6, 3) := by decide +kernel
theorem dL_settle_12 : decode cL_settle 12 = .ok (.astore_n 3, 1) := by decide +kernel
theorem dL_settle_13 : decode cL_settle 13 = .ok (.iconst 1, 1) := by decide +kernel
theorem dL_settle_14 : decode cL_settle 14 = .ok (.ireturn, 1) := by decide +kernel
theorem dL_settle_15 : decode cL_settle 15 = .ok (.iconst 0, 1) := by decide +kernel
theorem dL_settle_16 : decode cL_settle 16 = .ok (.ireturn, 1) := by decide +kernel
set_option maxRecDepth 20000 in
theorem ggL_settlePart_X4_settlePart : GoodIn wsL_settlePart wsX4_settlePart := goodIn_ca (goodIn_ca (goodIn_r _ [7, 8, 9, 10, 11, 12, 13, 14, 15, 16, 17, 6, 18, 19, 20, 21, 22, 23, 24, 25, 26, 27, 28, 29, 30, 31, 32, 33, 34, 35, 36, 37, 38, 39, 40, 41, 42, 43, 44, 45, 46, 47, 48, 49, 50, 51, 52, 53, 54, 55, 56, 57, 58, 59, 60, 61, 62, 63, 64, 65, 66, 67, 68, 69, 70, 71, 72, 73, 74, 75, 76, 77, 78, 79, 80, 81, 82, 83, 84, 85, 86, 87] (by decide +kernel) (by decide +kernel)) (goodIn_sub (fun _ h => List.mem_cons_of_mem _ (List.mem_append_left _ (List.mem_append_right _ h))) (by decide +kernel))) (goodIn_sub (fun _ h => List.mem_cons_of_mem _ (List.mem_append_right _ h)) (by decide +kernel))
set_option maxRecDepth 20000 in
theorem gL_settlePart_X4_settlePart : GoodIn wsL_settlePart (wsV RL 34 RX4 yX4_settlePart wsX4_settlePart) := goodIn_app (goodIn_of _ (by decide +kernel)) ggL_settlePart_X4_settlePart
theorem dL_settlePart_0 : decode cL_settlePart 0 = .ok (.aload_n 3, 1) := by decide +kernel
theorem dL_settlePart_1 : decode cL_settlePart 1 = .ok (.iconst 0, 1) := by decide +kernel
theorem dL_settlePart_2 : decode cL_settlePart 2 = .ok (.aload_n 0, 1) := by decide +kernel
theorem dL_settlePart_3 : decode cL_settlePart 3 = .ok (.iload_n 1, 1) := by decide +kernel
theorem dL_settlePart_4 : decode cL_settlePart 4 = .ok (.iload_n 2, 1) := by decide +kernel
theorem dL_settlePart_5 : decode cL_settlePart 5 = .ok (.invokevirtual 34, 3) := by decide +kernel
theorem dL_settlePart_8 : decode cL_settlePart 8 = .ok (.i2l, 1) := by decide +kernel
theorem dL_settlePart_9 : decode cL_settlePart 9 = .ok (.lastore, 1) := by decide +kernel
theorem dL_settlePart_10 : decode cL_settlePart 10 = .ok (.goto 11, 3) := by decide +kernel
theorem dL_settlePart_13 : decode cL_settlePart 13 = .ok (.astore 4, 2) := by decide +kernel
theorem dL_settlePart_15 : decode cL_settlePart 15 = .ok (.iconst 1, 1) := by decide +kernel
theorem dL_settlePart_16 : decode cL_settlePart 16 = .ok (.ireturn, 1) := by decide +kernel
theorem dL_settlePart_17 : decode cL_settlePart 17 = .ok (.astore 4, 2) := by decide +kernel
theorem dL_settlePart_19 : decode cL_settlePart 19 = .ok (.iconst 2, 1) := by decide +kernel
theorem dL_settlePart_20 : decode cL_settlePart 20 = .ok (.ireturn, 1) := by decide +kernel
theorem dL_settlePart_21 : decode cL_settlePart 21 = .ok (.iconst 0, 1) := by decide +kernel
theorem dL_settlePart_22 : decode cL_settlePart 22 = .ok (.ireturn, 1) := by decide +kernel
set_option maxRecDepth 20000 in
theorem ggL_cancel_X4_cancel : GoodIn wsL_cancel wsX4_cancel := goodIn_ca (goodIn_r _ [6, 7, 8, 9, 10, 11, 5, 12, 13, 14, 15, 16, 17, 18, 19, 20, 21, 22, 23, 24, 25, 26, 27, 28, 29, 30, 31, 32, 33, 34, 35, 36, 37, 38, 39, 40, 41, 42, 43, 44, 45, 46, 47, 48, 49, 50, 51, 52, 53, 54, 55, 56, 57, 58, 59, 60, 61, 62, 63, 64, 65, 66, 67, 68, 69, 70, 71, 72, 73, 74, 75, 76, 77, 78, 79, 80] (by decide +kernel) (by decide +kernel)) (goodIn_sub (fun _ h => List.mem_cons_of_mem _ (List.mem_append_right _ h)) (by decide +kernel))
set_option maxRecDepth 20000 in
theorem gL_cancel_X4_cancel : GoodIn wsL_cancel (wsV RL 37 RX4 yX4_cancel wsX4_cancel) := goodIn_app (goodIn_of _ (by decide +kernel)) ggL_cancel_X4_cancel
theorem dL_cancel_0 : decode cL_cancel 0 = .ok (.aload_n 2, 1) := by decide +kernel
theorem dL_cancel_1 : decode cL_cancel 1 = .ok (.iconst 0, 1) := by decide +kernel
theorem dL_cancel_2 : decode cL_cancel 2 = .ok (.aload_n 0, 1) := by decide +kernel
theorem dL_cancel_3 : decode cL_cancel 3 = .ok (.iload_n 1, 1) := by decide +kernel
theorem dL_cancel_4 : decode cL_cancel 4 = .ok (.invokevirtual 37, 3) := by decide +kernel
theorem dL_cancel_7 : decode cL_cancel 7 = .ok (.i2l, 1) := by decide +kernel
theorem dL_cancel_8 : decode cL_cancel 8 = .ok (.lastore, 1) := by decide +kernel
theorem dL_cancel_9 : decode cL_cancel 9 = .ok (.goto 6, 3) := by decide +kernel
theorem dL_cancel_12 : decode cL_cancel 12 = .ok (.astore_n 3, 1) := by decide +kernel
theorem dL_cancel_13 : decode cL_cancel 13 = .ok (.iconst 1, 1) := by decide +kernel
theorem dL_cancel_14 : decode cL_cancel 14 = .ok (.ireturn, 1) := by decide +kernel
theorem dL_cancel_15 : decode cL_cancel 15 = .ok (.iconst 0, 1) := by decide +kernel
theorem dL_cancel_16 : decode cL_cancel 16 = .ok (.ireturn, 1) := by decide +kernel
set_option maxRecDepth 20000 in
theorem ggL_renew_X4_renew : GoodIn wsL_renew wsX4_renew := goodIn_ca (goodIn_r _ [6, 7, 8, 9, 10, 11, 12, 13, 14, 5, 15, 16, 17, 18, 19, 20, 21, 22, 23, 24, 25, 26, 27, 28, 29, 30, 31, 32, 33, 34, 35, 36, 37, 38, 39, 40, 41, 42, 43, 44, 45, 46, 47, 48, 49, 50, 51, 52, 53, 54, 55, 56, 57, 58, 59, 60, 61, 62, 63, 64, 65, 66, 67, 68, 69, 70, 71, 72, 73, 74, 75] (by decide +kernel) (by decide +kernel)) (goodIn_sub (fun _ h => List.mem_cons_of_mem _ (List.mem_append_right _ h)) (by decide +kernel))
set_option maxRecDepth 20000 in
theorem gL_renew_X4_renew : GoodIn wsL_renew (wsV RL 40 RX4 yX4_renew wsX4_renew) := goodIn_app (goodIn_of _ (by decide +kernel)) ggL_renew_X4_renew
theorem dL_renew_0 : decode cL_renew 0 = .ok (.aload_n 2, 1) := by decide +kernel
theorem dL_renew_1 : decode cL_renew 1 = .ok (.iconst 0, 1) := by decide +kernel
theorem dL_renew_2 : decode cL_renew 2 = .ok (.aload_n 0, 1) := by decide +kernel
theorem dL_renew_3 : decode cL_renew 3 = .ok (.iload_n 1, 1) := by decide +kernel
theorem dL_renew_4 : decode cL_renew 4 = .ok (.invokevirtual 40, 3) := by decide +kernel
theorem dL_renew_7 : decode cL_renew 7 = .ok (.i2l, 1) := by decide +kernel
theorem dL_renew_8 : decode cL_renew 8 = .ok (.lastore, 1) := by decide +kernel
theorem dL_renew_9 : decode cL_renew 9 = .ok (.goto 6, 3) := by decide +kernel
theorem dL_renew_12 : decode cL_renew 12 = .ok (.astore_n 3, 1) := by decide +kernel
theorem dL_renew_13 : decode cL_renew 13 = .ok (.iconst 1, 1) := by decide +kernel
theorem dL_renew_14 : decode cL_renew 14 = .ok (.ireturn, 1) := by decide +kernel
theorem dL_renew_15 : decode cL_renew 15 = .ok (.iconst 0, 1) := by decide +kernel
theorem dL_renew_16 : decode cL_renew 16 = .ok (.ireturn, 1) := by decide +kernel
set_option maxRecDepth 20000 in
theorem ggL_finish_X4_finish : GoodIn wsL_finish wsX4_finish := goodIn_ca (goodIn_r _ [6, 7, 8, 9, 10, 11, 12, 5, 13, 14, 15, 16, 17, 18, 19, 20, 21, 22, 23, 24, 25, 26, 27, 28, 29, 30, 31, 32, 33, 34, 35, 36, 37, 38, 39, 40, 41, 42, 43, 44, 45, 46, 47, 48, 49, 50, 51, 52, 53, 54, 55, 56, 57, 58, 59, 60, 61, 62, 63, 64, 65, 66, 67, 68, 69, 70, 71, 72, 73, 74, 75, 76, 77, 78, 79, 80, 81, 82, 83, 84, 85, 86, 87, 88, 89] (by decide +kernel) (by decide +kernel)) (goodIn_sub (fun _ h => List.mem_cons_of_mem _ (List.mem_append_right _ h)) (by decide +kernel))
set_option maxRecDepth 20000 in
theorem gL_finish_X4_finish : GoodIn wsL_finish (wsV RL 43 RX4 yX4_finish wsX4_finish) := goodIn_app (goodIn_of _ (by decide +kernel)) ggL_finish_X4_finish
theorem dL_finish_0 : decode cL_finish 0 = .ok (.aload_n 3, 1) := by decide +kernel
theorem dL_finish_1 : decode cL_finish 1 = .ok (.iconst 0, 1) := by decide +kernel
theorem dL_finish_2 : decode cL_finish 2 = .ok (.aload_n 0, 1) := by decide +kernel
theorem dL_finish_3 : decode cL_finish 3 = .ok (.iload_n 1, 1) := by decide +kernel
theorem dL_finish_4 : decode cL_finish 4 = .ok (.iload_n 2, 1) := by decide +kernel
theorem dL_finish_5 : decode cL_finish 5 = .ok (.invokevirtual 43, 3) := by decide +kernel
theorem dL_finish_8 : decode cL_finish 8 = .ok (.i2l, 1) := by decide +kernel
theorem dL_finish_9 : decode cL_finish 9 = .ok (.lastore, 1) := by decide +kernel
theorem dL_finish_10 : decode cL_finish 10 = .ok (.goto 7, 3) := by decide +kernel
theorem dL_finish_13 : decode cL_finish 13 = .ok (.astore 4, 2) := by decide +kernel
theorem dL_finish_15 : decode cL_finish 15 = .ok (.iconst 1, 1) := by decide +kernel
theorem dL_finish_16 : decode cL_finish 16 = .ok (.ireturn, 1) := by decide +kernel
theorem dL_finish_17 : decode cL_finish 17 = .ok (.iconst 0, 1) := by decide +kernel
theorem dL_finish_18 : decode cL_finish 18 = .ok (.ireturn, 1) := by decide +kernel
