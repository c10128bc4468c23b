theorem dX0_init_0 : decode cX0_init 0 = .ok (.aload_n 0, 1) := by decide +kernel
theorem dX0_init_1 : decode cX0_init 1 = .ok (.invokespecial 3, 3) := by decide +kernel
theorem dX0_init_4 : decode cX0_init 4 = .ok (.aload_n 0, 1) := by decide +kernel
theorem dX0_init_5 : decode cX0_init 5 = .ok (.iconst 0, 1) := by decide +kernel
theorem dX0_init_6 : decode cX0_init 6 = .ok (.putfield 11, 3) := by decide +kernel
theorem dX0_init_9 : decode cX0_init 9 = .ok (.aload_n 0, 1) := by decide +kernel
theorem dX0_init_10 : decode cX0_init 10 = .ok (.iconst 0, 1) := by decide +kernel
theorem dX0_init_11 : decode cX0_init 11 = .ok (.putfield 15, 3) := by decide +kernel
theorem dX0_init_14 : decode cX0_init 14 = .ok (.aload_n 0, 1) := by decide +kernel
theorem dX0_init_15 : decode cX0_init 15 = .ok (.iconst 0, 1) := by decide +kernel
theorem dX0_init_16 : decode cX0_init 16 = .ok (.putfield 19, 3) := by decide +kernel
theorem dX0_init_19 : decode cX0_init 19 = .ok (.aload_n 0, 1) := by decide +kernel
theorem dX0_init_20 : decode cX0_init 20 = .ok (.iconst 0, 1) := by decide +kernel
theorem dX0_init_21 : decode cX0_init 21 = .ok (.putfield 22, 3) := by decide +kernel
theorem dX0_init_24 : decode cX0_init 24 = .ok (.aload_n 0, 1) := by decide +kernel
theorem dX0_init_25 : decode cX0_init 25 = .ok (.iconst (-1), 1) := by decide +kernel
theorem dX0_init_26 : decode cX0_init 26 = .ok (.putfield 25, 3) := by decide +kernel
theorem dX0_init_29 : decode cX0_init 29 = .ok (.aload_n 0, 1) := by decide +kernel
theorem dX0_init_30 : decode cX0_init 30 = .ok (.iconst 0, 1) := by decide +kernel
theorem dX0_init_31 : decode cX0_init 31 = .ok (.putfield 28, 3) := by decide +kernel
theorem dX0_init_34 : decode cX0_init 34 = .ok (.return_, 1) := by decide +kernel
theorem dX0_begin_0 : decode cX0_begin 0 = .ok (.aload_n 0, 1) := by decide +kernel
theorem dX0_begin_1 : decode cX0_begin 1 = .ok (.iconst 0, 1) := by decide +kernel
theorem dX0_begin_2 : decode cX0_begin 2 = .ok (.putfield 11, 3) := by decide +kernel
theorem dX0_begin_5 : decode cX0_begin 5 = .ok (.return_, 1) := by decide +kernel
theorem dX0_isComplete_0 : decode cX0_isComplete 0 = .ok (.aload_n 0, 1) := by decide +kernel
theorem dX0_isComplete_1 : decode cX0_isComplete 1 = .ok (.getfield 11, 3) := by decide +kernel
theorem dX0_isComplete_4 : decode cX0_isComplete 4 = .ok (.iconst 5, 1) := by decide +kernel
theorem dX0_isComplete_5 : decode cX0_isComplete 5 = .ok (.if_icmp .eq 21, 3) := by decide +kernel
theorem dX0_isComplete_8 : decode cX0_isComplete 8 = .ok (.aload_n 0, 1) := by decide +kernel
theorem dX0_isComplete_9 : decode cX0_isComplete 9 = .ok (.getfield 11, 3) := by decide +kernel
theorem dX0_isComplete_12 : decode cX0_isComplete 12 = .ok (.bipush 6, 2) := by decide +kernel
theorem dX0_isComplete_14 : decode cX0_isComplete 14 = .ok (.if_icmp .eq 12, 3) := by decide +kernel
theorem dX0_isComplete_17 : decode cX0_isComplete 17 = .ok (.aload_n 0, 1) := by decide +kernel
theorem dX0_isComplete_18 : decode cX0_isComplete 18 = .ok (.getfield 11, 3) := by decide +kernel
theorem dX0_isComplete_21 : decode cX0_isComplete 21 = .ok (.bipush 8, 2) := by decide +kernel
theorem dX0_isComplete_23 : decode cX0_isComplete 23 = .ok (.if_icmp .ne 7, 3) := by decide +kernel
theorem dX0_isComplete_26 : decode cX0_isComplete 26 = .ok (.iconst 1, 1) := by decide +kernel
theorem dX0_isComplete_27 : decode cX0_isComplete 27 = .ok (.goto 4, 3) := by decide +kernel
theorem dX0_isComplete_30 : decode cX0_isComplete 30 = .ok (.iconst 0, 1) := by decide +kernel
theorem dX0_isComplete_31 : decode cX0_isComplete 31 = .ok (.ireturn, 1) := by decide +kernel
theorem dX0_by_0 : decode cX0_by 0 = .ok (.aload_n 0, 1) := by decide +kernel
theorem dX0_by_1 : decode cX0_by 1 = .ok (.getfield 15, 3) := by decide +kernel
theorem dX0_by_4 : decode cX0_by 4 = .ok (.ifCond .eq 11, 3) := by decide +kernel
theorem dX0_by_7 : decode cX0_by 7 = .ok (.aload_n 0, 1) := by decide +kernel
theorem dX0_by_8 : decode cX0_by 8 = .ok (.getfield 19, 3) := by decide +kernel
theorem dX0_by_11 : decode cX0_by 11 = .ok (.ineg, 1) := by decide +kernel
theorem dX0_by_12 : decode cX0_by 12 = .ok (.goto 7, 3) := by decide +kernel
theorem dX0_by_15 : decode cX0_by 15 = .ok (.aload_n 0, 1) := by decide +kernel
theorem dX0_by_16 : decode cX0_by 16 = .ok (.getfield 19, 3) := by decide +kernel
theorem dX0_by_19 : decode cX0_by 19 = .ok (.ireturn, 1) := by decide +kernel
set_option maxRecDepth 20000 in
theorem ggX0_reads_X0_readsCounter : GoodIn wsX0_reads wsX0_readsCounter := goodIn_r _ [6, 7, 8, 9, 10, 11, 5, 12, 13, 14, 15, 16, 1, 43, 44, 45, 46, 47, 48] (by decide +kernel) (by decide +kernel)
set_option maxRecDepth 20000 in
theorem gX0_reads_X0_readsCounter : GoodIn wsX0_reads (wsV RX0 31 RX0 yX0_readsCounter wsX0_readsCounter) := goodIn_app (goodIn_of _ (by decide +kernel)) ggX0_reads_X0_readsCounter
set_option maxRecDepth 20000 in
theorem ggX0_reads_X0_readsKind : GoodIn wsX0_reads wsX0_readsKind := goodIn_r _ [20, 21, 13, 14, 15, 5, 16, 1, 43, 44, 45, 46, 47, 48] (by decide +kernel) (by decide +kernel)
set_option maxRecDepth 20000 in
theorem gX0_reads_X0_readsKind : GoodIn wsX0_reads (wsV RX0 35 RX0 yX0_readsKind wsX0_readsKind) := goodIn_app (goodIn_of _ (by decide +kernel)) ggX0_reads_X0_readsKind
set_option maxRecDepth 20000 in
theorem ggX0_reads_X0_readsOther : GoodIn wsX0_reads wsX0_readsOther := goodIn_r _ [25, 7, 8, 10, 11, 5, 12, 13, 14, 15, 16, 1, 43, 44, 45, 46, 47, 48] (by decide +kernel) (by decide +kernel)
set_option maxRecDepth 20000 in
theorem gX0_reads_X0_readsOther : GoodIn wsX0_reads (wsV RX0 38 RX0 yX0_readsOther wsX0_readsOther) := goodIn_app (goodIn_of _ (by decide +kernel)) ggX0_reads_X0_readsOther
set_option maxRecDepth 20000 in
theorem ggX0_reads_X0_goesTo : GoodIn wsX0_reads wsX0_goesTo := goodIn_r _ [16, 1, 43, 44, 45, 46, 47, 48] (by decide +kernel) (by decide +kernel)
set_option maxRecDepth 20000 in
theorem gX0_reads_X0_goesTo : GoodIn wsX0_reads (wsV RX0 41 RX0 yX0_goesTo wsX0_goesTo) := goodIn_app (goodIn_of _ (by decide +kernel)) ggX0_reads_X0_goesTo
set_option maxRecDepth 20000 in
theorem ggX0_reads_X0_readsFirstDigit : GoodIn wsX0_reads wsX0_readsFirstDigit := goodIn_r _ [29, 30, 10, 11, 5, 12, 13, 14, 15, 16, 1, 43, 44, 45, 46, 47, 48] (by decide +kernel) (by decide +kernel)
set_option maxRecDepth 20000 in
theorem gX0_reads_X0_readsFirstDigit : GoodIn wsX0_reads (wsV RX0 45 RX0 yX0_readsFirstDigit wsX0_readsFirstDigit) := goodIn_app (goodIn_of _ (by decide +kernel)) ggX0_reads_X0_readsFirstDigit
set_option maxRecDepth 20000 in
theorem ggX0_reads_X0_readsSecondDigit : GoodIn wsX0_reads wsX0_readsSecondDigit := goodIn_r _ [34, 30, 10, 11, 5, 12, 13, 14, 15, 16, 1, 43, 44, 45, 46, 47, 48] (by decide +kernel) (by decide +kernel)
set_option maxRecDepth 20000 in
theorem gX0_reads_X0_readsSecondDigit : GoodIn wsX0_reads (wsV RX0 48 RX0 yX0_readsSecondDigit wsX0_readsSecondDigit) := goodIn_app (goodIn_of _ (by decide +kernel)) ggX0_reads_X0_readsSecondDigit
set_option maxRecDepth 20000 in
theorem ggX0_reads_X0_readsBehindNumber : GoodIn wsX0_reads wsX0_readsBehindNumber := goodIn_r _ [38, 13, 14, 15, 5, 16, 1, 43, 44, 45, 46, 47, 48] (by decide +kernel) (by decide +kernel)
set_option maxRecDepth 20000 in
theorem gX0_reads_X0_readsBehindNumber : GoodIn wsX0_reads (wsV RX0 51 RX0 yX0_readsBehindNumber wsX0_readsBehindNumber) := goodIn_app (goodIn_of _ (by decide +kernel)) ggX0_reads_X0_readsBehindNumber
set_option maxRecDepth 20000 in
theorem ggX0_reads_X0_readsOwner : GoodIn wsX0_reads wsX0_readsOwner := goodIn_r _ [42, 9, 10, 11, 5, 12, 13, 14, 15, 16, 1, 43, 44, 45, 46, 47, 48] (by decide +kernel) (by decide +kernel)
set_option maxRecDepth 20000 in
theorem gX0_reads_X0_readsOwner : GoodIn wsX0_reads (wsV RX0 54 RX0 yX0_readsOwner wsX0_readsOwner) := goodIn_app (goodIn_of _ (by decide +kernel)) ggX0_reads_X0_readsOwner
theorem dX0_reads_0 : decode cX0_reads 0 = .ok (.aload_n 0, 1) := by decide +kernel
theorem dX0_reads_1 : decode cX0_reads 1 = .ok (.getfield 11, 3) := by decide +kernel
theorem dX0_reads_4 : decode cX0_reads 4 = .ok (.tableswitch 126 0 7 #[48, 54, 60, 66, 86, 92, 114, 120], 48) := by decide +kernel
theorem dX0_reads_52 : decode cX0_reads 52 = .ok (.aload_n 0, 1) := by decide +kernel
theorem dX0_reads_53 : decode cX0_reads 53 = .ok (.iload_n 1, 1) := by decide +kernel
theorem dX0_reads_54 : decode cX0_reads 54 = .ok (.invokevirtual 31, 3) := by decide +kernel
theorem dX0_reads_57 : decode cX0_reads 57 = .ok (.ireturn, 1) := by decide +kernel
theorem dX0_reads_58 : decode cX0_reads 58 = .ok (.aload_n 0, 1) := by decide +kernel
theorem dX0_reads_59 : decode cX0_reads 59 = .ok (.iload_n 1, 1) := by decide +kernel
theorem dX0_reads_60 : decode cX0_reads 60 = .ok (.invokevirtual 35, 3) := by decide +kernel
theorem dX0_reads_63 : decode cX0_reads 63 = .ok (.ireturn, 1) := by decide +kernel
theorem dX0_reads_64 : decode cX0_reads 64 = .ok (.aload_n 0, 1) := by decide +kernel
theorem dX0_reads_65 : decode cX0_reads 65 = .ok (.iload_n 1, 1) := by decide +kernel
theorem dX0_reads_66 : decode cX0_reads 66 = .ok (.invokevirtual 38, 3) := by decide +kernel
theorem dX0_reads_69 : decode cX0_reads 69 = .ok (.ireturn, 1) := by decide +kernel
theorem dX0_reads_70 : decode cX0_reads 70 = .ok (.iload_n 1, 1) := by decide +kernel
theorem dX0_reads_71 : decode cX0_reads 71 = .ok (.bipush 58, 2) := by decide +kernel
theorem dX0_reads_73 : decode cX0_reads 73 = .ok (.if_icmp .ne 15, 3) := by decide +kernel
theorem dX0_reads_76 : decode cX0_reads 76 = .ok (.aload_n 0, 1) := by decide +kernel
theorem dX0_reads_77 : decode cX0_reads 77 = .ok (.iconst 4, 1) := by decide +kernel
theorem dX0_reads_78 : decode cX0_reads 78 = .ok (.invokevirtual 41, 3) := by decide +kernel
theorem dX0_reads_81 : decode cX0_reads 81 = .ok (.ifCond .eq 7, 3) := by decide +kernel
theorem dX0_reads_84 : decode cX0_reads 84 = .ok (.iconst 1, 1) := by decide +kernel
theorem dX0_reads_85 : decode cX0_reads 85 = .ok (.goto 4, 3) := by decide +kernel
theorem dX0_reads_88 : decode cX0_reads 88 = .ok (.iconst 0, 1) := by decide +kernel
theorem dX0_reads_89 : decode cX0_reads 89 = .ok (.ireturn, 1) := by decide +kernel
theorem dX0_reads_90 : decode cX0_reads 90 = .ok (.aload_n 0, 1) := by decide +kernel
theorem dX0_reads_91 : decode cX0_reads 91 = .ok (.iload_n 1, 1) := by decide +kernel
theorem dX0_reads_92 : decode cX0_reads 92 = .ok (.invokevirtual 45, 3) := by decide +kernel
theorem dX0_reads_95 : decode cX0_reads 95 = .ok (.ireturn, 1) := by decide +kernel
theorem dX0_reads_96 : decode cX0_reads 96 = .ok (.aload_n 0, 1) := by decide +kernel
theorem dX0_reads_97 : decode cX0_reads 97 = .ok (.iload_n 1, 1) := by decide +kernel
theorem dX0_reads_98 : decode cX0_reads 98 = .ok (.invokevirtual 48, 3) := by decide +kernel
theorem dX0_reads_101 : decode cX0_reads 101 = .ok (.ifCond .ne 11, 3) := by decide +kernel
theorem dX0_reads_104 : decode cX0_reads 104 = .ok (.aload_n 0, 1) := by decide +kernel
theorem dX0_reads_105 : decode cX0_reads 105 = .ok (.iload_n 1, 1) := by decide +kernel
theorem dX0_reads_106 : decode cX0_reads 106 = .ok (.invokevirtual 51, 3) := by decide +kernel
theorem dX0_reads_109 : decode cX0_reads 109 = .ok (.ifCond .eq 7, 3) := by decide +kernel
theorem dX0_reads_112 : decode cX0_reads 112 = .ok (.iconst 1, 1) := by decide +kernel
theorem dX0_reads_113 : decode cX0_reads 113 = .ok (.goto 4, 3) := by decide +kernel
theorem dX0_reads_116 : decode cX0_reads 116 = .ok (.iconst 0, 1) := by decide +kernel
theorem dX0_reads_117 : decode cX0_reads 117 = .ok (.ireturn, 1) := by decide +kernel
theorem dX0_reads_118 : decode cX0_reads 118 = .ok (.aload_n 0, 1) := by decide +kernel
theorem dX0_reads_119 : decode cX0_reads 119 = .ok (.iload_n 1, 1) := by decide +kernel
theorem dX0_reads_120 : decode cX0_reads 120 = .ok (.invokevirtual 51, 3) := by decide +kernel
theorem dX0_reads_123 : decode cX0_reads 123 = .ok (.ireturn, 1) := by decide +kernel
theorem dX0_reads_124 : decode cX0_reads 124 = .ok (.aload_n 0, 1) := by decide +kernel
theorem dX0_reads_125 : decode cX0_reads 125 = .ok (.iload_n 1, 1) := by decide +kernel
theorem dX0_reads_126 : decode cX0_reads 126 = .ok (.invokevirtual 54, 3) := by decide +kernel
theorem dX0_reads_129 : decode cX0_reads 129 = .ok (.ireturn, 1) := by decide +kernel
theorem dX0_reads_130 : decode cX0_reads 130 = .ok (.iload_n 1, 1) := by decide +kernel
theorem dX0_reads_131 : decode cX0_reads 131 = .ok (.bipush 59, 2) := by decide +kernel
theorem dX0_reads_133 : decode cX0_reads 133 = .ok (.if_icmp .ne 15, 3) := by decide +kernel
theorem dX0_reads_136 : decode cX0_reads 136 = .ok (.aload_n 0, 1) := by decide +kernel
theorem dX0_reads_137 : decode cX0_reads 137 = .ok (.iconst 0, 1) := by decide +kernel
theorem dX0_reads_138 : decode cX0_reads 138 = .ok (.invokevirtual 41, 3) := by decide +kernel
theorem dX0_reads_141 : decode cX0_reads 141 = .ok (.ifCond .eq 7, 3) := by decide +kernel
theorem dX0_reads_144 : decode cX0_reads 144 = .ok (.iconst 1, 1) := by decide +kernel
theorem dX0_reads_145 : decode cX0_reads 145 = .ok (.goto 4, 3) := by decide +kernel
theorem dX0_reads_148 : decode cX0_reads 148 = .ok (.iconst 0, 1) := by decide +kernel
theorem dX0_reads_149 : decode cX0_reads 149 = .ok (.ireturn, 1) := by decide +kernel
theorem dX0_goesTo_0 : decode cX0_goesTo 0 = .ok (.aload_n 0, 1) := by decide +kernel
theorem dX0_goesTo_1 : decode cX0_goesTo 1 = .ok (.iload_n 1, 1) := by decide +kernel
theorem dX0_goesTo_2 : decode cX0_goesTo 2 = .ok (.putfield 11, 3) := by decide +kernel
theorem dX0_goesTo_5 : decode cX0_goesTo 5 = .ok (.iconst 1, 1) := by decide +kernel
theorem dX0_goesTo_6 : decode cX0_goesTo 6 = .ok (.ireturn, 1) := by decide +kernel
set_option maxRecDepth 20000 in
theorem ggX0_readsCounter_X0_isDigit : GoodIn wsX0_readsCounter wsX0_isDigit := goodIn_r _ [7] (by decide +kernel) (by decide +kernel)
set_option maxRecDepth 20000 in
theorem gX0_readsCounter_X0_isDigit : GoodIn wsX0_readsCounter (va_wsS RX0 57 yX0_isDigit wsX0_isDigit) := goodIn_app (goodIn_of _ (by decide +kernel)) ggX0_readsCounter_X0_isDigit
set_option maxRecDepth 20000 in
theorem ggX0_readsCounter_X0_goesTo : GoodIn wsX0_readsCounter wsX0_goesTo := goodIn_r _ [11, 12, 13, 14, 15, 16, 17, 18] (by decide +kernel) (by decide +kernel)
set_option maxRecDepth 20000 in
theorem gX0_readsCounter_X0_goesTo : GoodIn wsX0_readsCounter (wsV RX0 41 RX0 yX0_goesTo wsX0_goesTo) := goodIn_app (goodIn_of _ (by decide +kernel)) ggX0_readsCounter_X0_goesTo
theorem dX0_readsCounter_0 : decode cX0_readsCounter 0 = .ok (.iload_n 1, 1) := by decide +kernel
theorem dX0_readsCounter_1 : decode cX0_readsCounter 1 = .ok (.iconst 0, 1) := by decide +kernel
theorem dX0_readsCounter_2 : decode cX0_readsCounter 2 = .ok (.iconst 3, 1) := by decide +kernel
theorem dX0_readsCounter_3 : decode cX0_readsCounter 3 = .ok (.invokestatic 57, 3) := by decide +kernel
theorem dX0_readsCounter_6 : decode cX0_readsCounter 6 = .ok (.ifCond .ne 5, 3) := by decide +kernel
theorem dX0_readsCounter_9 : decode cX0_readsCounter 9 = .ok (.iconst 0, 1) := by decide +kernel
theorem dX0_readsCounter_10 : decode cX0_readsCounter 10 = .ok (.ireturn, 1) := by decide +kernel
theorem dX0_readsCounter_11 : decode cX0_readsCounter 11 = .ok (.aload_n 0, 1) := by decide +kernel
theorem dX0_readsCounter_12 : decode cX0_readsCounter 12 = .ok (.iload_n 1, 1) := by decide +kernel
theorem dX0_readsCounter_13 : decode cX0_readsCounter 13 = .ok (.bipush 48, 2) := by decide +kernel
theorem dX0_readsCounter_15 : decode cX0_readsCounter 15 = .ok (.isub, 1) := by decide +kernel
theorem dX0_readsCounter_16 : decode cX0_readsCounter 16 = .ok (.putfield 22, 3) := by decide +kernel
theorem dX0_readsCounter_19 : decode cX0_readsCounter 19 = .ok (.aload_n 0, 1) := by decide +kernel
theorem dX0_readsCounter_20 : decode cX0_readsCounter 20 = .ok (.iconst (-1), 1) := by decide +kernel
theorem dX0_readsCounter_21 : decode cX0_readsCounter 21 = .ok (.putfield 25, 3) := by decide +kernel
theorem dX0_readsCounter_24 : decode cX0_readsCounter 24 = .ok (.aload_n 0, 1) := by decide +kernel
theorem dX0_readsCounter_25 : decode cX0_readsCounter 25 = .ok (.iconst 0, 1) := by decide +kernel
theorem dX0_readsCounter_26 : decode cX0_readsCounter 26 = .ok (.putfield 28, 3) := by decide +kernel
theorem dX0_readsCounter_29 : decode cX0_readsCounter 29 = .ok (.aload_n 0, 1) := by decide +kernel
theorem dX0_readsCounter_30 : decode cX0_readsCounter 30 = .ok (.iconst 1, 1) := by decide +kernel
theorem dX0_readsCounter_31 : decode cX0_readsCounter 31 = .ok (.invokevirtual 41, 3) := by decide +kernel
theorem dX0_readsCounter_34 : decode cX0_readsCounter 34 = .ok (.ireturn, 1) := by decide +kernel
set_option maxRecDepth 20000 in
theorem ggX0_readsKind_X0_goesTo : GoodIn wsX0_readsKind wsX0_goesTo := goodIn_r _ [6, 7, 8, 9, 10, 11, 12, 13] (by decide +kernel) (by decide +kernel)
set_option maxRecDepth 20000 in
theorem gX0_readsKind_X0_goesTo : GoodIn wsX0_readsKind (wsV RX0 41 RX0 yX0_goesTo wsX0_goesTo) := goodIn_app (goodIn_of _ (by decide +kernel)) ggX0_readsKind_X0_goesTo
theorem dX0_readsKind_0 : decode cX0_readsKind 0 = .ok (.aload_n 0, 1) := by decide +kernel
theorem dX0_readsKind_1 : decode cX0_readsKind 1 = .ok (.iload_n 1, 1) := by decide +kernel
theorem dX0_readsKind_2 : decode cX0_readsKind 2 = .ok (.bipush 43, 2) := by decide +kernel
theorem dX0_readsKind_4 : decode cX0_readsKind 4 = .ok (.if_icmp .eq 7, 3) := by decide +kernel
theorem dX0_readsKind_7 : decode cX0_readsKind 7 = .ok (.iconst 1, 1) := by decide +kernel
theorem dX0_readsKind_8 : decode cX0_readsKind 8 = .ok (.goto 4, 3) := by decide +kernel
theorem dX0_readsKind_11 : decode cX0_readsKind 11 = .ok (.iconst 0, 1) := by decide +kernel
theorem dX0_readsKind_12 : decode cX0_readsKind 12 = .ok (.putfield 15, 3) := by decide +kernel
theorem dX0_readsKind_15 : decode cX0_readsKind 15 = .ok (.iload_n 1, 1) := by decide +kernel
theorem dX0_readsKind_16 : decode cX0_readsKind 16 = .ok (.bipush 43, 2) := by decide +kernel
theorem dX0_readsKind_18 : decode cX0_readsKind 18 = .ok (.if_icmp .eq 9, 3) := by decide +kernel
theorem dX0_readsKind_21 : decode cX0_readsKind 21 = .ok (.iload_n 1, 1) := by decide +kernel
theorem dX0_readsKind_22 : decode cX0_readsKind 22 = .ok (.bipush 45, 2) := by decide +kernel
theorem dX0_readsKind_24 : decode cX0_readsKind 24 = .ok (.if_icmp .ne 9, 3) := by decide +kernel
theorem dX0_readsKind_27 : decode cX0_readsKind 27 = .ok (.aload_n 0, 1) := by decide +kernel
theorem dX0_readsKind_28 : decode cX0_readsKind 28 = .ok (.iconst 4, 1) := by decide +kernel
theorem dX0_readsKind_29 : decode cX0_readsKind 29 = .ok (.invokevirtual 41, 3) := by decide +kernel
theorem dX0_readsKind_32 : decode cX0_readsKind 32 = .ok (.ireturn, 1) := by decide +kernel
theorem dX0_readsKind_33 : decode cX0_readsKind 33 = .ok (.iload_n 1, 1) := by decide +kernel
theorem dX0_readsKind_34 : decode cX0_readsKind 34 = .ok (.bipush 62, 2) := by decide +kernel
theorem dX0_readsKind_36 : decode cX0_readsKind 36 = .ok (.if_icmp .ne 15, 3) := by decide +kernel
theorem dX0_readsKind_39 : decode cX0_readsKind 39 = .ok (.aload_n 0, 1) := by decide +kernel
theorem dX0_readsKind_40 : decode cX0_readsKind 40 = .ok (.iconst 2, 1) := by decide +kernel
theorem dX0_readsKind_41 : decode cX0_readsKind 41 = .ok (.invokevirtual 41, 3) := by decide +kernel
theorem dX0_readsKind_44 : decode cX0_readsKind 44 = .ok (.ifCond .eq 7, 3) := by decide +kernel
theorem dX0_readsKind_47 : decode cX0_readsKind 47 = .ok (.iconst 1, 1) := by decide +kernel
theorem dX0_readsKind_48 : decode cX0_readsKind 48 = .ok (.goto 4, 3) := by decide +kernel
theorem dX0_readsKind_51 : decode cX0_readsKind 51 = .ok (.iconst 0, 1) := by decide +kernel
theorem dX0_readsKind_52 : decode cX0_readsKind 52 = .ok (.ireturn, 1) := by decide +kernel
set_option maxRecDepth 20000 in
theorem ggX0_readsOther_X0_isDigit : GoodIn wsX0_readsOther wsX0_isDigit := goodIn_r _ [6] (by decide +kernel) (by decide +kernel)
set_option maxRecDepth 20000 in
theorem gX0_readsOther_X0_isDigit : GoodIn wsX0_readsOther (va_wsS RX0 57 yX0_isDigit wsX0_isDigit) := goodIn_app (goodIn_of _ (by decide +kernel)) ggX0_readsOther_X0_isDigit
set_option maxRecDepth 20000 in
theorem ggX0_readsOther_X0_goesTo : GoodIn wsX0_readsOther wsX0_goesTo := goodIn_r _ [10, 11, 12, 13, 14, 15, 16, 17] (by decide +kernel) (by decide +kernel)
set_option maxRecDepth 20000 in
theorem gX0_readsOther_X0_goesTo : GoodIn wsX0_readsOther (wsV RX0 41 RX0 yX0_goesTo wsX0_goesTo) := goodIn_app (goodIn_of _ (by decide +kernel)) ggX0_readsOther_X0_goesTo
theorem dX0_readsOther_0 : decode cX0_readsOther 0 = .ok (.iload_n 1, 1) := by decide +kernel
theorem dX0_readsOther_1 : decode cX0_readsOther 1 = .ok (.iconst 0, 1) := by decide +kernel
theorem dX0_readsOther_2 : decode cX0_readsOther 2 = .ok (.iconst 3, 1) := by decide +kernel
theorem dX0_readsOther_3 : decode cX0_readsOther 3 = .ok (.invokestatic 57, 3) := by decide +kernel
theorem dX0_readsOther_6 : decode cX0_readsOther 6 = .ok (.ifCond .eq 14, 3) := by decide +kernel
theorem dX0_readsOther_9 : decode cX0_readsOther 9 = .ok (.iload_n 1, 1) := by decide +kernel
theorem dX0_readsOther_10 : decode cX0_readsOther 10 = .ok (.bipush 48, 2) := by decide +kernel
theorem dX0_readsOther_12 : decode cX0_readsOther 12 = .ok (.isub, 1) := by decide +kernel
theorem dX0_readsOther_13 : decode cX0_readsOther 13 = .ok (.aload_n 0, 1) := by decide +kernel
theorem dX0_readsOther_14 : decode cX0_readsOther 14 = .ok (.getfield 22, 3) := by decide +kernel
theorem dX0_readsOther_17 : decode cX0_readsOther 17 = .ok (.if_icmp .ne 5, 3) := by decide +kernel
theorem dX0_readsOther_20 : decode cX0_readsOther 20 = .ok (.iconst 0, 1) := by decide +kernel
theorem dX0_readsOther_21 : decode cX0_readsOther 21 = .ok (.ireturn, 1) := by decide +kernel
theorem dX0_readsOther_22 : decode cX0_readsOther 22 = .ok (.aload_n 0, 1) := by decide +kernel
theorem dX0_readsOther_23 : decode cX0_readsOther 23 = .ok (.iload_n 1, 1) := by decide +kernel
theorem dX0_readsOther_24 : decode cX0_readsOther 24 = .ok (.bipush 48, 2) := by decide +kernel
theorem dX0_readsOther_26 : decode cX0_readsOther 26 = .ok (.isub, 1) := by decide +kernel
theorem dX0_readsOther_27 : decode cX0_readsOther 27 = .ok (.putfield 25, 3) := by decide +kernel
theorem dX0_readsOther_30 : decode cX0_readsOther 30 = .ok (.aload_n 0, 1) := by decide +kernel
theorem dX0_readsOther_31 : decode cX0_readsOther 31 = .ok (.iconst 3, 1) := by decide +kernel
theorem dX0_readsOther_32 : decode cX0_readsOther 32 = .ok (.invokevirtual 41, 3) := by decide +kernel
theorem dX0_readsOther_35 : decode cX0_readsOther 35 = .ok (.ireturn, 1) := by decide +kernel
set_option maxRecDepth 20000 in
theorem ggX0_readsFirstDigit_X0_isDigit : GoodIn wsX0_readsFirstDigit wsX0_isDigit := goodIn_r _ [5] (by decide +kernel) (by decide +kernel)
set_option maxRecDepth 20000 in
theorem gX0_readsFirstDigit_X0_isDigit : GoodIn wsX0_readsFirstDigit (va_wsS RX0 57 yX0_isDigit wsX0_isDigit) := goodIn_app (goodIn_of _ (by decide +kernel)) ggX0_readsFirstDigit_X0_isDigit
set_option maxRecDepth 20000 in
theorem ggX0_readsFirstDigit_X0_goesTo : GoodIn wsX0_readsFirstDigit wsX0_goesTo := goodIn_r _ [9, 10, 11, 12, 13, 14, 15, 16] (by decide +kernel) (by decide +kernel)
set_option maxRecDepth 20000 in
theorem gX0_readsFirstDigit_X0_goesTo : GoodIn wsX0_readsFirstDigit (wsV RX0 41 RX0 yX0_goesTo wsX0_goesTo) := goodIn_app (goodIn_of _ (by decide +kernel)) ggX0_readsFirstDigit_X0_goesTo
theorem dX0_readsFirstDigit_0 : decode cX0_readsFirstDigit 0 = .ok (.iload_n 1, 1) := by decide +kernel
theorem dX0_readsFirstDigit_1 : decode cX0_readsFirstDigit 1 = .ok (.iconst 1, 1) := by decide +kernel
theorem dX0_readsFirstDigit_2 : decode cX0_readsFirstDigit 2 = .ok (.bipush 9, 2) := by decide +kernel
theorem dX0_readsFirstDigit_4 : decode cX0_readsFirstDigit 4 = .ok (.invokestatic 57, 3) := by decide +kernel
theorem dX0_readsFirstDigit_7 : decode cX0_readsFirstDigit 7 = .ok (.ifCond .ne 5, 3) := by decide +kernel
theorem dX0_readsFirstDigit_10 : decode cX0_readsFirstDigit 10 = .ok (.iconst 0, 1) := by decide +kernel
theorem dX0_readsFirstDigit_11 : decode cX0_readsFirstDigit 11 = .ok (.ireturn, 1) := by decide +kernel
theorem dX0_readsFirstDigit_12 : decode cX0_readsFirstDigit 12 = .ok (.aload_n 0, 1) := by decide +kernel
theorem dX0_readsFirstDigit_13 : decode cX0_readsFirstDigit 13 = .ok (.iload_n 1, 1) := by decide +kernel
theorem dX0_readsFirstDigit_14 : decode cX0_readsFirstDigit 14 = .ok (.bipush 48, 2) := by decide +kernel
theorem dX0_readsFirstDigit_16 : decode cX0_readsFirstDigit 16 = .ok (.isub, 1) := by decide +kernel
theorem dX0_readsFirstDigit_17 : decode cX0_readsFirstDigit 17 = .ok (.putfield 19, 3) := by decide +kernel
theorem dX0_readsFirstDigit_20 : decode cX0_readsFirstDigit 20 = .ok (.aload_n 0, 1) := by decide +kernel
theorem dX0_readsFirstDigit_21 : decode cX0_readsFirstDigit 21 = .ok (.iconst 5, 1) := by decide +kernel
theorem dX0_readsFirstDigit_22 : decode cX0_readsFirstDigit 22 = .ok (.invokevirtual 41, 3) := by decide +kernel
theorem dX0_readsFirstDigit_25 : decode cX0_readsFirstDigit 25 = .ok (.ireturn, 1) := by decide +kernel
set_option maxRecDepth 20000 in
theorem ggX0_readsSecondDigit_X0_isDigit : GoodIn wsX0_readsSecondDigit wsX0_isDigit := goodIn_r _ [5] (by decide +kernel) (by decide +kernel)
set_option maxRecDepth 20000 in
theorem gX0_readsSecondDigit_X0_isDigit : GoodIn wsX0_readsSecondDigit (va_wsS RX0 57 yX0_isDigit wsX0_isDigit) := goodIn_app (goodIn_of _ (by decide +kernel)) ggX0_readsSecondDigit_X0_isDigit
set_option maxRecDepth 20000 in
theorem ggX0_readsSecondDigit_X0_goesTo : GoodIn wsX0_readsSecondDigit wsX0_goesTo := goodIn_r _ [9, 10, 11, 12, 13, 14, 15, 16] (by decide +kernel) (by decide +kernel)
set_option maxRecDepth 20000 in
theorem gX0_readsSecondDigit_X0_goesTo : GoodIn wsX0_readsSecondDigit (wsV RX0 41 RX0 yX0_goesTo wsX0_goesTo) := goodIn_app (goodIn_of _ (by decide +kernel)) ggX0_readsSecondDigit_X0_goesTo
theorem dX0_readsSecondDigit_0 : decode cX0_readsSecondDigit 0 = .ok (.iload_n 1, 1) := by decide +kernel
theorem dX0_readsSecondDigit_1 : decode cX0_readsSecondDigit 1 = .ok (.iconst 0, 1) := by decide +kernel
theorem dX0_readsSecondDigit_2 : decode cX0_readsSecondDigit 2 = .ok (.bipush 9, 2) := by decide +kernel
theorem dX0_readsSecondDigit_4 : decode cX0_readsSecondDigit 4 = .ok (.invokestatic 57, 3) := by decide +kernel
theorem dX0_readsSecondDigit_7 : decode cX0_readsSecondDigit 7 = .ok (.ifCond .ne 5, 3) := by decide +kernel
theorem dX0_readsSecondDigit_10 : decode cX0_readsSecondDigit 10 = .ok (.iconst 0, 1) := by decide +kernel
theorem dX0_readsSecondDigit_11 : decode cX0_readsSecondDigit 11 = .ok (.ireturn, 1) := by decide +kernel
theorem dX0_readsSecondDigit_12 : decode cX0_readsSecondDigit 12 = .ok (.aload_n 0, 1) := by decide +kernel
theorem dX0_readsSecondDigit_13 : decode cX0_readsSecondDigit 13 = .ok (.bipush 10, 2) := by decide +kernel
theorem dX0_readsSecondDigit_15 : decode cX0_readsSecondDigit 15 = .ok (.aload_n 0, 1) := by decide +kernel
theorem dX0_readsSecondDigit_16 : decode cX0_readsSecondDigit 16 = .ok (.getfield 19, 3) := by decide +kernel
theorem dX0_readsSecondDigit_19 : decode cX0_readsSecondDigit 19 = .ok (.imul, 1) := by decide +kernel
theorem dX0_readsSecondDigit_20 : decode cX0_readsSecondDigit 20 = .ok (.iload_n 1, 1) := by decide +kernel
theorem dX0_readsSecondDigit_21 : decode cX0_readsSecondDigit 21 = .ok (.bipush 48, 2) := by decide +kernel
theorem dX0_readsSecondDigit_23 : decode cX0_readsSecondDigit 23 = .ok (.isub, 1) := by decide +kernel
theorem dX0_readsSecondDigit_24 : decode cX0_readsSecondDigit 24 = .ok (.iadd, 1) := by decide +kernel
theorem dX0_readsSecondDigit_25 : decode cX0_readsSecondDigit 25 = .ok (.putfield 19, 3) := by decide +kernel
theorem dX0_readsSecondDigit_28 : decode cX0_readsSecondDigit 28 = .ok (.aload_n 0, 1) := by decide +kernel
theorem dX0_readsSecondDigit_29 : decode cX0_readsSecondDigit 29 = .ok (.bipush 6, 2) := by decide +kernel
theorem dX0_readsSecondDigit_31 : decode cX0_readsSecondDigit 31 = .ok (.invokevirtual 41, 3) := by decide +kernel
theorem dX0_readsSecondDigit_34 : decode cX0_readsSecondDigit 34 = .ok (.ireturn, 1) := by decide +kernel
set_option maxRecDepth 20000 in
theorem ggX0_readsBehindNumber_X0_goesTo : GoodIn wsX0_readsBehindNumber wsX0_goesTo := goodIn_r _ [5, 6, 7, 8, 9, 10, 11, 12] (by decide +kernel) (by decide +kernel)
set_option maxRecDepth 20000 in
theorem gX0_readsBehindNumber_X0_goesTo : GoodIn wsX0_readsBehindNumber (wsV RX0 41 RX0 yX0_goesTo wsX0_goesTo) := goodIn_app (goodIn_of _ (by decide +kernel)) ggX0_readsBehindNumber_X0_goesTo
theorem dX0_readsBehindNumber_0 : decode cX0_readsBehindNumber 0 = .ok (.iload_n 1, 1) := by decide +kernel
theorem dX0_readsBehindNumber_1 : decode cX0_readsBehindNumber 1 = .ok (.bipush 111, 2) := by decide +kernel
theorem dX0_readsBehindNumber_3 : decode cX0_readsBehindNumber 3 = .ok (.if_icmp .ne 10, 3) := by decide +kernel
theorem dX0_readsBehindNumber_6 : decode cX0_readsBehindNumber 6 = .ok (.aload_n 0, 1) := by decide +kernel
theorem dX0_readsBehindNumber_7 : decode cX0_readsBehindNumber 7 = .ok (.bipush 7, 2) := by decide +kernel
theorem dX0_readsBehindNumber_9 : decode cX0_readsBehindNumber 9 = .ok (.invokevirtual 41, 3) := by decide +kernel
theorem dX0_readsBehindNumber_12 : decode cX0_readsBehindNumber 12 = .ok (.ireturn, 1) := by decide +kernel
theorem dX0_readsBehindNumber_13 : decode cX0_readsBehindNumber 13 = .ok (.iload_n 1, 1) := by decide +kernel
theorem dX0_readsBehindNumber_14 : decode cX0_readsBehindNumber 14 = .ok (.bipush 59, 2) := by decide +kernel
theorem dX0_readsBehindNumber_16 : decode cX0_readsBehindNumber 16 = .ok (.if_icmp .ne 15, 3) := by decide +kernel
theorem dX0_readsBehindNumber_19 : decode cX0_readsBehindNumber 19 = .ok (.aload_n 0, 1) := by decide +kernel
theorem dX0_readsBehindNumber_20 : decode cX0_readsBehindNumber 20 = .ok (.iconst 0, 1) := by decide +kernel
theorem dX0_readsBehindNumber_21 : decode cX0_readsBehindNumber 21 = .ok (.invokevirtual 41, 3) := by decide +kernel
theorem dX0_readsBehindNumber_24 : decode cX0_readsBehindNumber 24 = .ok (.ifCond .eq 7, 3) := by decide +kernel
theorem dX0_readsBehindNumber_27 : decode cX0_readsBehindNumber 27 = .ok (.iconst 1, 1) := by decide +kernel
theorem dX0_readsBehindNumber_28 : decode cX0_readsBehindNumber 28 = .ok (.goto 4, 3) := by decide +kernel
theorem dX0_readsBehindNumber_31 : decode cX0_readsBehindNumber 31 = .ok (.iconst 0, 1) := by decide +kernel
theorem dX0_readsBehindNumber_32 : decode cX0_readsBehindNumber 32 = .ok (.ireturn, 1) := by decide +kernel
set_option maxRecDepth 20000 in
theorem ggX0_readsOwner_X0_isDigit : GoodIn wsX0_readsOwner wsX0_isDigit := goodIn_r _ [5] (by decide +kernel) (by decide +kernel)
set_option maxRecDepth 20000 in
theorem gX0_readsOwner_X0_isDigit : GoodIn wsX0_readsOwner (va_wsS RX0 57 yX0_isDigit wsX0_isDigit) := goodIn_app (goodIn_of _ (by decide +kernel)) ggX0_readsOwner_X0_isDigit
set_option maxRecDepth 20000 in
theorem ggX0_readsOwner_X0_goesTo : GoodIn wsX0_readsOwner wsX0_goesTo := goodIn_r _ [9, 10, 11, 12, 13, 14, 15, 16] (by decide +kernel) (by decide +kernel)
set_option maxRecDepth 20000 in
theorem gX0_readsOwner_X0_goesTo : GoodIn wsX0_readsOwner (wsV RX0 41 RX0 yX0_goesTo wsX0_goesTo) := goodIn_app (goodIn_of _ (by decide +kernel)) ggX0_readsOwner_X0_goesTo
theorem dX0_readsOwner_0 : decode cX0_readsOwner 0 = .ok (.iload_n 1, 1) := by decide +kernel
theorem dX0_readsOwner_1 : decode cX0_readsOwner 1 = .ok (.iconst 0, 1) := by decide +kernel
theorem dX0_readsOwner_2 : decode cX0_readsOwner 2 = .ok (.iconst 5, 1) := by decide +kernel
theorem dX0_readsOwner_3 : decode cX0_readsOwner 3 = .ok (.invokestatic 57, 3) := by decide +kernel
theorem dX0_readsOwner_6 : decode cX0_readsOwner 6 = .ok (.ifCond .ne 5, 3) := by decide +kernel
theorem dX0_readsOwner_9 : decode cX0_readsOwner 9 = .ok (.iconst 0, 1) := by decide +kernel
theorem dX0_readsOwner_10 : decode cX0_readsOwner 10 = .ok (.ireturn, 1) := by decide +kernel
theorem dX0_readsOwner_11 : decode cX0_readsOwner 11 = .ok (.aload_n 0, 1) := by decide +kernel
theorem dX0_readsOwner_12 : decode cX0_readsOwner 12 = .ok (.iload_n 1, 1) := by decide +kernel
theorem dX0_readsOwner_13 : decode cX0_readsOwner 13 = .ok (.bipush 48, 2) := by decide +kernel
theorem dX0_readsOwner_15 : decode cX0_readsOwner 15 = .ok (.isub, 1) := by decide +kernel
theorem dX0_readsOwner_16 : decode cX0_readsOwner 16 = .ok (.putfield 28, 3) := by decide +kernel
theorem dX0_readsOwner_19 : decode cX0_readsOwner 19 = .ok (.aload_n 0, 1) := by decide +kernel
theorem dX0_readsOwner_20 : decode cX0_readsOwner 20 = .ok (.bipush 8, 2) := by decide +kernel
theorem dX0_readsOwner_22 : decode cX0_readsOwner 22 = .ok (.invokevirtual 41, 3) := by decide +kernel
theorem dX0_readsOwner_25 : decode cX0_readsOwner 25 = .ok (.ireturn, 1) := by decide +kernel
theorem dX0_isDigit_0 : decode cX0_isDigit 0 = .ok (.iload_n 0, 1) := by decide +kernel
theorem dX0_isDigit_1 : decode cX0_isDigit 1 = .ok (.bipush 48, 2) := by decide +kernel
theorem dX0_isDigit_3 : decode cX0_isDigit 3 = .ok (.iload_n 1, 1) := by decide +kernel
theorem dX0_isDigit_4 : decode cX0_isDigit 4 = .ok (.iadd, 1) := by decide +kernel
theorem dX0_isDigit_5 : decode cX0_isDigit 5 = .ok (.if_icmp .lt 15, 3) := by decide +kernel
theorem dX0_isDigit_8 : decode cX0_isDigit 8 = .ok (.iload_n 0, 1) := by decide +kernel
theorem dX0_isDigit_9 : decode cX0_isDigit 9 = .ok (.bipush 48, 2) := by decide +kernel
theorem dX0_isDigit_11 : decode cX0_isDigit 11 = .ok (.iload_n 2, 1) := by decide +kernel
theorem dX0_isDigit_12 : decode cX0_isDigit 12 = .ok (.iadd, 1) := by decide +kernel
theorem dX0_isDigit_13 : decode cX0_isDigit 13 = .ok (.if_icmp .gt 7, 3) := by decide +kernel
theorem dX0_isDigit_16 : decode cX0_isDigit 16 = .ok (.iconst 1, 1) := by decide +kernel
theorem dX0_isDigit_17 : decode cX0_isDigit 17 = .ok (.goto 4, 3) := by decide +kernel
theorem dX0_isDigit_20 : decode cX0_isDigit 20 = .ok (.iconst 0, 1) := by decide +kernel
theorem dX0_isDigit_21 : decode cX0_isDigit 21 = .ok (.ireturn, 1) := by decide +kernel
theorem dX1_init_0 : decode cX1_init 0 = .ok (.aload_n 0, 1) := by decide +kernel
theorem dX1_init_1 : decode cX1_init 1 = .ok (.invokespecial 3, 3) := by decide +kernel
theorem dX1_init_4 : decode cX1_init 4 = .ok (.aload_n 0, 1) := by decide +kernel
theorem dX1_init_5 : decode cX1_init 5 = .ok (.sipush 1585, 3) := by decide +kernel
theorem dX1_init_8 : decode cX1_init 8 = .ok (.newarray .int, 2) := by decide +kernel
theorem dX1_init_10 : decode cX1_init 10 = .ok (.putfield 9, 3) := by decide +kernel
theorem dX1_init_13 : decode cX1_init 13 = .ok (.return_, 1) := by decide +kernel
set_option maxRecDepth 20000 in
theorem ggX1_manyOf_X1_fill : GoodIn wsX1_manyOf wsX1_fill := goodIn_r _ [6, 1, 7, 8, 9, 10, 11, 12, 13, 14, 15, 16, 17, 18, 19, 20, 21, 22, 23, 24, 25, 26, 27, 28, 29, 30, 31, 32, 33, 34, 35, 36, 37, 38, 39, 40, 41, 42, 43, 5, 44, 45, 46, 47, 48, 49, 50, 51, 52, 53, 54, 55, 56, 57, 58, 59, 60, 61, 62, 63, 64, 65, 66, 67, 68] (by decide +kernel) (by decide +kernel)
set_option maxRecDepth 20000 in
theorem gX1_manyOf_X1_fill : GoodIn wsX1_manyOf (wsV RX1 15 RX1 yX1_fill wsX1_fill) := goodIn_app (goodIn_of _ (by decide +kernel)) ggX1_manyOf_X1_fill
theorem dX1_manyOf_0 : decode cX1_manyOf 0 = .ok (.aload_n 0, 1) := by decide +kernel
theorem dX1_manyOf_1 : decode cX1_manyOf 1 = .ok (.aload_n 1, 1) := by decide +kernel
theorem dX1_manyOf_2 : decode cX1_manyOf 2 = .ok (.iload_n 2, 1) := by decide +kernel
theorem dX1_manyOf_3 : decode cX1_manyOf 3 = .ok (.invokevirtual 15, 3) := by decide +kernel
theorem dX1_manyOf_6 : decode cX1_manyOf 6 = .ok (.istore_n 3, 1) := by decide +kernel
theorem dX1_manyOf_7 : decode cX1_manyOf 7 = .ok (.iconst 0, 1) := by decide +kernel
theorem dX1_manyOf_8 : decode cX1_manyOf 8 = .ok (.istore 4, 2) := by decide +kernel
theorem dX1_manyOf_10 : decode cX1_manyOf 10 = .ok (.iconst 0, 1) := by decide +kernel
theorem dX1_manyOf_11 : decode cX1_manyOf 11 = .ok (.istore 5, 2) := by decide +kernel
theorem dX1_manyOf_13 : decode cX1_manyOf 13 = .ok (.iload 5, 2) := by decide +kernel
theorem dX1_manyOf_15 : decode cX1_manyOf 15 = .ok (.iload_n 3, 1) := by decide +kernel
theorem dX1_manyOf_16 : decode cX1_manyOf 16 = .ok (.if_icmp .gt 23, 3) := by decide +kernel
theorem dX1_manyOf_19 : decode cX1_manyOf 19 = .ok (.aload_n 0, 1) := by decide +kernel
theorem dX1_manyOf_20 : decode cX1_manyOf 20 = .ok (.getfield 9, 3) := by decide +kernel
theorem dX1_manyOf_23 : decode cX1_manyOf 23 = .ok (.iload 5, 2) := by decide +kernel
theorem dX1_manyOf_25 : decode cX1_manyOf 25 = .ok (.iaload, 1) := by decide +kernel
theorem dX1_manyOf_26 : decode cX1_manyOf 26 = .ok (.iconst (-1), 1) := by decide +kernel
theorem dX1_manyOf_27 : decode cX1_manyOf 27 = .ok (.if_icmp .eq 6, 3) := by decide +kernel
theorem dX1_manyOf_30 : decode cX1_manyOf 30 = .ok (.iinc 4 1, 3) := by decide +kernel
theorem dX1_manyOf_33 : decode cX1_manyOf 33 = .ok (.iinc 5 1, 3) := by decide +kernel
theorem dX1_manyOf_36 : decode cX1_manyOf 36 = .ok (.goto (-23), 3) := by decide +kernel
theorem dX1_manyOf_39 : decode cX1_manyOf 39 = .ok (.iload 4, 2) := by decide +kernel
theorem dX1_manyOf_41 : decode cX1_manyOf 41 = .ok (.ireturn, 1) := by decide +kernel
set_option maxRecDepth 20000 in
theorem ggX1_fewestFor_X3_lowOf : GoodIn wsX1_fewestFor wsX3_lowOf := goodIn_r _ [6, 7, 8, 9, 10, 5, 11, 12, 13, 14, 15, 16, 17, 18, 19, 20, 21, 22, 23, 24, 25, 54, 55, 56, 57, 58, 59, 60, 61, 62, 63, 64, 65, 66, 67, 68] (by decide +kernel) (by decide +kernel)
set_option maxRecDepth 20000 in
theorem gX1_fewestFor_X3_lowOf : GoodIn wsX1_fewestFor (wsV RX1 19 RX3 yX3_lowOf wsX3_lowOf) := goodIn_app (goodIn_of _ (by decide +kernel)) ggX1_fewestFor_X3_lowOf
set_option maxRecDepth 20000 in
theorem ggX1_fewestFor_X3_highOf : GoodIn wsX1_fewestFor wsX3_highOf := goodIn_r _ [29, 12, 13, 30, 31, 17, 32, 19, 20, 21, 5, 22, 23, 24, 25, 54, 55, 56, 57, 58, 59, 60, 61, 62, 63, 64, 65, 66, 67, 68] (by decide +kernel) (by decide +kernel)
set_option maxRecDepth 20000 in
theorem gX1_fewestFor_X3_highOf : GoodIn wsX1_fewestFor (wsV RX1 25 RX3 yX3_highOf wsX3_highOf) := goodIn_app (goodIn_of _ (by decide +kernel)) ggX1_fewestFor_X3_highOf
set_option maxRecDepth 20000 in
theorem ggX1_fewestFor_X1_fill : GoodIn wsX1_fewestFor wsX1_fill := goodIn_r _ [37, 1, 38, 39, 2, 3, 4, 5, 6, 7, 8, 9, 10, 11, 12, 13, 14, 15, 16, 17, 18, 19, 20, 21, 22, 23, 24, 25, 26, 27, 28, 29, 30, 31, 32, 40, 41, 42, 43, 36, 44, 45, 46, 47, 48, 49, 50, 51, 52, 53, 54, 55, 56, 57, 58, 59, 60, 61, 62, 63, 64, 65, 66, 67, 68] (by decide +kernel) (by decide +kernel)
set_option maxRecDepth 20000 in
theorem gX1_fewestFor_X1_fill : GoodIn wsX1_fewestFor (wsV RX1 15 RX1 yX1_fill wsX1_fill) := goodIn_app (goodIn_of _ (by decide +kernel)) ggX1_fewestFor_X1_fill
theorem dX1_fewestFor_0 : decode cX1_fewestFor 0 = .ok (.aload_n 1, 1) := by decide +kernel
theorem dX1_fewestFor_1 : decode cX1_fewestFor 1 = .ok (.iload_n 2, 1) := by decide +kernel
theorem dX1_fewestFor_2 : decode cX1_fewestFor 2 = .ok (.invokevirtual 19, 3) := by decide +kernel
theorem dX1_fewestFor_5 : decode cX1_fewestFor 5 = .ok (.istore 4, 2) := by decide +kernel
theorem dX1_fewestFor_7 : decode cX1_fewestFor 7 = .ok (.iload_n 3, 1) := by decide +kernel
theorem dX1_fewestFor_8 : decode cX1_fewestFor 8 = .ok (.iload 4, 2) := by decide +kernel
theorem dX1_fewestFor_10 : decode cX1_fewestFor 10 = .ok (.if_icmp .lt 12, 3) := by decide +kernel
theorem dX1_fewestFor_13 : decode cX1_fewestFor 13 = .ok (.iload_n 3, 1) := by decide +kernel
theorem dX1_fewestFor_14 : decode cX1_fewestFor 14 = .ok (.aload_n 1, 1) := by decide +kernel
theorem dX1_fewestFor_15 : decode cX1_fewestFor 15 = .ok (.iload_n 2, 1) := by decide +kernel
theorem dX1_fewestFor_16 : decode cX1_fewestFor 16 = .ok (.invokevirtual 25, 3) := by decide +kernel
theorem dX1_fewestFor_19 : decode cX1_fewestFor 19 = .ok (.if_icmp .le 5, 3) := by decide +kernel
theorem dX1_fewestFor_22 : decode cX1_fewestFor 22 = .ok (.iconst (-1), 1) := by decide +kernel
theorem dX1_fewestFor_23 : decode cX1_fewestFor 23 = .ok (.ireturn, 1) := by decide +kernel
theorem dX1_fewestFor_24 : decode cX1_fewestFor 24 = .ok (.aload_n 0, 1) := by decide +kernel
theorem dX1_fewestFor_25 : decode cX1_fewestFor 25 = .ok (.aload_n 1, 1) := by decide +kernel
theorem dX1_fewestFor_26 : decode cX1_fewestFor 26 = .ok (.iload_n 2, 1) := by decide +kernel
theorem dX1_fewestFor_27 : decode cX1_fewestFor 27 = .ok (.invokevirtual 15, 3) := by decide +kernel
theorem dX1_fewestFor_30 : decode cX1_fewestFor 30 = .ok (.pop, 1) := by decide +kernel
theorem dX1_fewestFor_31 : decode cX1_fewestFor 31 = .ok (.aload_n 0, 1) := by decide +kernel
theorem dX1_fewestFor_32 : decode cX1_fewestFor 32 = .ok (.getfield 9, 3) := by decide +kernel
theorem dX1_fewestFor_35 : decode cX1_fewestFor 35 = .ok (.iload_n 3, 1) := by decide +kernel
theorem dX1_fewestFor_36 : decode cX1_fewestFor 36 = .ok (.iload 4, 2) := by decide +kernel
theorem dX1_fewestFor_38 : decode cX1_fewestFor 38 = .ok (.isub, 1) := by decide +kernel
theorem dX1_fewestFor_39 : decode cX1_fewestFor 39 = .ok (.iaload, 1) := by decide +kernel
theorem dX1_fewestFor_40 : decode cX1_fewestFor 40 = .ok (.ireturn, 1) := by decide +kernel
set_option maxRecDepth 20000 in
theorem ggX1_fill_X3_lowOf : GoodIn wsX1_fill wsX3_lowOf := goodIn_r _ [8, 9, 10, 11, 12, 7, 13, 14, 15, 16, 17, 18, 19, 20, 21, 22, 23, 24, 25, 26, 27, 50, 51, 52, 53, 54, 55, 56, 57, 58, 59, 60, 61, 62, 63, 64] (by decide +kernel) (by decide +kernel)
set_option maxRecDepth 20000 in
theorem gX1_fill_X3_lowOf : GoodIn wsX1_fill (wsV RX1 19 RX3 yX3_lowOf wsX3_lowOf) := goodIn_app (goodIn_of _ (by decide +kernel)) ggX1_fill_X3_lowOf
set_option maxRecDepth 20000 in
theorem ggX1_fill_X3_highOf : GoodIn wsX1_fill wsX3_highOf := goodIn_r _ [31, 14, 15, 32, 33, 19, 34, 21, 22, 23, 7, 24, 25, 26, 27, 50, 51, 52, 53, 54, 55, 56, 57, 58, 59, 60, 61, 62, 63, 64] (by decide +kernel) (by decide +kernel)
set_option maxRecDepth 20000 in
theorem gX1_fill_X3_highOf : GoodIn wsX1_fill (wsV RX1 25 RX3 yX3_highOf wsX3_highOf) := goodIn_app (goodIn_of _ (by decide +kernel)) ggX1_fill_X3_highOf
set_option maxRecDepth 20000 in
theorem ggX1_fill_X3_changeOf : GoodIn wsX1_fill wsX3_changeOf := goodIn_r _ [24, 25, 26, 27, 50, 51, 52, 53, 54, 55, 56, 57, 58, 59, 60, 61, 62, 63, 64] (by decide +kernel) (by decide +kernel)
set_option maxRecDepth 20000 in
theorem gX1_fill_X3_changeOf : GoodIn wsX1_fill (wsV RX1 35 RX3 yX3_changeOf wsX3_changeOf) := goodIn_app (goodIn_of _ (by decide +kernel)) ggX1_fill_X3_changeOf
set_option maxRecDepth 20000 in
theorem ggX1_fill_X1_addUpward : GoodIn wsX1_fill wsX1_addUpward := goodIn_r _ [40, 41, 42, 43, 39, 44, 1, 49] (by decide +kernel) (by decide +kernel)
set_option maxRecDepth 20000 in
theorem gX1_fill_X1_addUpward : GoodIn wsX1_fill (wsV RX1 39 RX1 yX1_addUpward wsX1_addUpward) := goodIn_app (goodIn_of _ (by decide +kernel)) ggX1_fill_X1_addUpward
set_option maxRecDepth 20000 in
theorem ggX1_fill_X1_addDownward : GoodIn wsX1_fill wsX1_addDownward := goodIn_r _ [48, 41, 42, 43, 39, 44, 1, 49] (by decide +kernel) (by decide +kernel)
set_option maxRecDepth 20000 in
theorem gX1_fill_X1_addDownward : GoodIn wsX1_fill (wsV RX1 43 RX1 yX1_addDownward wsX1_addDownward) := goodIn_app (goodIn_of _ (by decide +kernel)) ggX1_fill_X1_addDownward
theorem dX1_fill_0 : decode cX1_fill 0 = .ok (.aload_n 1, 1) := by decide +kernel
theorem dX1_fill_1 : decode cX1_fill 1 = .ok (.iload_n 2, 1) := by decide +kernel
theorem dX1_fill_2 : decode cX1_fill 2 = .ok (.invokevirtual 19, 3) := by decide +kernel
theorem dX1_fill_5 : decode cX1_fill 5 = .ok (.istore_n 3, 1) := by decide +kernel
theorem dX1_fill_6 : decode cX1_fill 6 = .ok (.aload_n 1, 1) := by decide +kernel
theorem dX1_fill_7 : decode cX1_fill 7 = .ok (.iload_n 2, 1) := by decide +kernel
theorem dX1_fill_8 : decode cX1_fill 8 = .ok (.invokevirtual 25, 3) := by decide +kernel
theorem dX1_fill_11 : decode cX1_fill 11 = .ok (.iload_n 3, 1) := by decide +kernel
theorem dX1_fill_12 : decode cX1_fill 12 = .ok (.isub, 1) := by decide +kernel
theorem dX1_fill_13 : decode cX1_fill 13 = .ok (.istore 4, 2) := by decide +kernel
theorem dX1_fill_15 : decode cX1_fill 15 = .ok (.iconst 0, 1) := by decide +kernel
theorem dX1_fill_16 : decode cX1_fill 16 = .ok (.istore 5, 2) := by decide +kernel
theorem dX1_fill_18 : decode cX1_fill 18 = .ok (.iload 5, 2) := by decide +kernel
theorem dX1_fill_20 : decode cX1_fill 20 = .ok (.iload 4, 2) := by decide +kernel
theorem dX1_fill_22 : decode cX1_fill 22 = .ok (.if_icmp .gt 17, 3) := by decide +kernel
theorem dX1_fill_25 : decode cX1_fill 25 = .ok (.aload_n 0, 1) := by decide +kernel
theorem dX1_fill_26 : decode cX1_fill 26 = .ok (.getfield 9, 3) := by decide +kernel
theorem dX1_fill_29 : decode cX1_fill 29 = .ok (.iload 5, 2) := by decide +kernel
theorem dX1_fill_31 : decode cX1_fill 31 = .ok (.iconst (-1), 1) := by decide +kernel
theorem dX1_fill_32 : decode cX1_fill 32 = .ok (.iastore, 1) := by decide +kernel
theorem dX1_fill_33 : decode cX1_fill 33 = .ok (.iinc 5 1, 3) := by decide +kernel
theorem dX1_fill_36 : decode cX1_fill 36 = .ok (.goto (-18), 3) := by decide +kernel
theorem dX1_fill_39 : decode cX1_fill 39 = .ok (.aload_n 1, 1) := by decide +kernel
theorem dX1_fill_40 : decode cX1_fill 40 = .ok (.getfield 28, 3) := by decide +kernel
theorem dX1_fill_43 : decode cX1_fill 43 = .ok (.iload_n 2, 1) := by decide +kernel
theorem dX1_fill_44 : decode cX1_fill 44 = .ok (.iaload, 1) := by decide +kernel
theorem dX1_fill_45 : decode cX1_fill 45 = .ok (.iload_n 3, 1) := by decide +kernel
theorem dX1_fill_46 : decode cX1_fill 46 = .ok (.isub, 1) := by decide +kernel
theorem dX1_fill_47 : decode cX1_fill 47 = .ok (.istore 5, 2) := by decide +kernel
theorem dX1_fill_49 : decode cX1_fill 49 = .ok (.iload 5, 2) := by decide +kernel
theorem dX1_fill_51 : decode cX1_fill 51 = .ok (.istore 6, 2) := by decide +kernel
theorem dX1_fill_53 : decode cX1_fill 53 = .ok (.aload_n 0, 1) := by decide +kernel
theorem dX1_fill_54 : decode cX1_fill 54 = .ok (.getfield 9, 3) := by decide +kernel
theorem dX1_fill_57 : decode cX1_fill 57 = .ok (.iload 5, 2) := by decide +kernel
theorem dX1_fill_59 : decode cX1_fill 59 = .ok (.iconst 0, 1) := by decide +kernel
theorem dX1_fill_60 : decode cX1_fill 60 = .ok (.iastore, 1) := by decide +kernel
theorem dX1_fill_61 : decode cX1_fill 61 = .ok (.iconst 0, 1) := by decide +kernel
theorem dX1_fill_62 : decode cX1_fill 62 = .ok (.istore 7, 2) := by decide +kernel
theorem dX1_fill_64 : decode cX1_fill 64 = .ok (.iload 7, 2) := by decide +kernel
theorem dX1_fill_66 : decode cX1_fill 66 = .ok (.aload_n 1, 1) := by decide +kernel
theorem dX1_fill_67 : decode cX1_fill 67 = .ok (.getfield 31, 3) := by decide +kernel
theorem dX1_fill_70 : decode cX1_fill 70 = .ok (.if_icmp .ge 66, 3) := by decide +kernel
theorem dX1_fill_73 : decode cX1_fill 73 = .ok (.aload_n 1, 1) := by decide +kernel
theorem dX1_fill_74 : decode cX1_fill 74 = .ok (.iload 7, 2) := by decide +kernel
theorem dX1_fill_76 : decode cX1_fill 76 = .ok (.iload_n 2, 1) := by decide +kernel
theorem dX1_fill_77 : decode cX1_fill 77 = .ok (.invokevirtual 35, 3) := by decide +kernel
theorem dX1_fill_80 : decode cX1_fill 80 = .ok (.istore 8, 2) := by decide +kernel
theorem dX1_fill_82 : decode cX1_fill 82 = .ok (.iload 8, 2) := by decide +kernel
theorem dX1_fill_84 : decode cX1_fill 84 = .ok (.ifCond .le 23, 3) := by decide +kernel
theorem dX1_fill_87 : decode cX1_fill 87 = .ok (.iload 6, 2) := by decide +kernel
theorem dX1_fill_89 : decode cX1_fill 89 = .ok (.iload 8, 2) := by decide +kernel
theorem dX1_fill_91 : decode cX1_fill 91 = .ok (.iadd, 1) := by decide +kernel
theorem dX1_fill_92 : decode cX1_fill 92 = .ok (.istore 6, 2) := by decide +kernel
theorem dX1_fill_94 : decode cX1_fill 94 = .ok (.aload_n 0, 1) := by decide +kernel
theorem dX1_fill_95 : decode cX1_fill 95 = .ok (.iload 8, 2) := by decide +kernel
theorem dX1_fill_97 : decode cX1_fill 97 = .ok (.iload 5, 2) := by decide +kernel
theorem dX1_fill_99 : decode cX1_fill 99 = .ok (.iload 6, 2) := by decide +kernel
theorem dX1_fill_101 : decode cX1_fill 101 = .ok (.invokevirtual 39, 3) := by decide +kernel
theorem dX1_fill_104 : decode cX1_fill 104 = .ok (.goto 26, 3) := by decide +kernel
theorem dX1_fill_107 : decode cX1_fill 107 = .ok (.iload 8, 2) := by decide +kernel
theorem dX1_fill_109 : decode cX1_fill 109 = .ok (.ifCond .ge 21, 3) := by decide +kernel
theorem dX1_fill_112 : decode cX1_fill 112 = .ok (.iload 5, 2) := by decide +kernel
theorem dX1_fill_114 : decode cX1_fill 114 = .ok (.iload 8, 2) := by decide +kernel
theorem dX1_fill_116 : decode cX1_fill 116 = .ok (.iadd, 1) := by decide +kernel
theorem dX1_fill_117 : decode cX1_fill 117 = .ok (.istore 5, 2) := by decide +kernel
theorem dX1_fill_119 : decode cX1_fill 119 = .ok (.aload_n 0, 1) := by decide +kernel
theorem dX1_fill_120 : decode cX1_fill 120 = .ok (.iload 8, 2) := by decide +kernel
theorem dX1_fill_122 : decode cX1_fill 122 = .ok (.ineg, 1) := by decide +kernel
theorem dX1_fill_123 : decode cX1_fill 123 = .ok (.iload 5, 2) := by decide +kernel
theorem dX1_fill_125 : decode cX1_fill 125 = .ok (.iload 6, 2) := by decide +kernel
theorem dX1_fill_127 : decode cX1_fill 127 = .ok (.invokevirtual 43, 3) := by decide +kernel
theorem dX1_fill_130 : decode cX1_fill 130 = .ok (.iinc 7 1, 3) := by decide +kernel
theorem dX1_fill_133 : decode cX1_fill 133 = .ok (.goto (-69), 3) := by decide +kernel
theorem dX1_fill_136 : decode cX1_fill 136 = .ok (.iload 4, 2) := by decide +kernel
theorem dX1_fill_138 : decode cX1_fill 138 = .ok (.ireturn, 1) := by decide +kernel
set_option maxRecDepth 20000 in
theorem ggX1_addUpward_X1_improve : GoodIn wsX1_addUpward wsX1_improve := goodIn_r _ [5, 6, 7] (by decide +kernel) (by decide +kernel)
set_option maxRecDepth 20000 in
theorem gX1_addUpward_X1_improve : GoodIn wsX1_addUpward (wsV RX1 46 RX1 yX1_improve wsX1_improve) := goodIn_app (goodIn_of _ (by decide +kernel)) ggX1_addUpward_X1_improve
theorem dX1_addUpward_0 : decode cX1_addUpward 0 = .ok (.iload_n 3, 1) := by decide +kernel
theorem dX1_addUpward_1 : decode cX1_addUpward 1 = .ok (.istore 4, 2) := by decide +kernel
theorem dX1_addUpward_3 : decode cX1_addUpward 3 = .ok (.iload 4, 2) := by decide +kernel
theorem dX1_addUpward_5 : decode cX1_addUpward 5 = .ok (.iload_n 2, 1) := by decide +kernel
theorem dX1_addUpward_6 : decode cX1_addUpward 6 = .ok (.iload_n 1, 1) := by decide +kernel
theorem dX1_addUpward_7 : decode cX1_addUpward 7 = .ok (.iadd, 1) := by decide +kernel
theorem dX1_addUpward_8 : decode cX1_addUpward 8 = .ok (.if_icmp .lt 19, 3) := by decide +kernel
theorem dX1_addUpward_11 : decode cX1_addUpward 11 = .ok (.aload_n 0, 1) := by decide +kernel
theorem dX1_addUpward_12 : decode cX1_addUpward 12 = .ok (.iload 4, 2) := by decide +kernel
theorem dX1_addUpward_14 : decode cX1_addUpward 14 = .ok (.iload 4, 2) := by decide +kernel
theorem dX1_addUpward_16 : decode cX1_addUpward 16 = .ok (.iload_n 1, 1) := by decide +kernel
theorem dX1_addUpward_17 : decode cX1_addUpward 17 = .ok (.isub, 1) := by decide +kernel
theorem dX1_addUpward_18 : decode cX1_addUpward 18 = .ok (.invokevirtual 46, 3) := by decide +kernel
theorem dX1_addUpward_21 : decode cX1_addUpward 21 = .ok (.iinc 4 (-1), 3) := by decide +kernel
theorem dX1_addUpward_24 : decode cX1_addUpward 24 = .ok (.goto (-21), 3) := by decide +kernel
theorem dX1_addUpward_27 : decode cX1_addUpward 27 = .ok (.return_, 1) := by decide +kernel
set_option maxRecDepth 20000 in
theorem ggX1_addDownward_X1_improve : GoodIn wsX1_addDownward wsX1_improve := goodIn_r _ [5, 6, 7] (by decide +kernel) (by decide +kernel)
set_option maxRecDepth 20000 in
theorem gX1_addDownward_X1_improve : GoodIn wsX1_addDownward (wsV RX1 46 RX1 yX1_improve wsX1_improve) := goodIn_app (goodIn_of _ (by decide +kernel)) ggX1_addDownward_X1_improve
theorem dX1_addDownward_0 : decode cX1_addDownward 0 = .ok (.iload_n 2, 1) := by decide +kernel
theorem dX1_addDownward_1 : decode cX1_addDownward 1 = .ok (.istore 4, 2) := by decide +kernel
theorem dX1_addDownward_3 : decode cX1_addDownward 3 = .ok (.iload 4, 2) := by decide +kernel
theorem dX1_addDownward_5 : decode cX1_addDownward 5 = .ok (.iload_n 3, 1) := by decide +kernel
theorem dX1_addDownward_6 : decode cX1_addDownward 6 = .ok (.iload_n 1, 1) := by decide +kernel
theorem dX1_addDownward_7 : decode cX1_addDownward 7 = .ok (.isub, 1) := by decide +kernel
theorem dX1_addDownward_8 : decode cX1_addDownward 8 = .ok (.if_icmp .gt 19, 3) := by decide +kernel
theorem dX1_addDownward_11 : decode cX1_addDownward 11 = .ok (.aload_n 0, 1) := by decide +kernel
theorem dX1_addDownward_12 : decode cX1_addDownward 12 = .ok (.iload 4, 2) := by decide +kernel
theorem dX1_addDownward_14 : decode cX1_addDownward 14 = .ok (.iload 4, 2) := by decide +kernel
theorem dX1_addDownward_16 : decode cX1_addDownward 16 = .ok (.iload_n 1, 1) := by decide +kernel
theorem dX1_addDownward_17 : decode cX1_addDownward 17 = .ok (.iadd, 1) := by decide +kernel
theorem dX1_addDownward_18 : decode cX1_addDownward 18 = .ok (.invokevirtual 46, 3) := by decide +kernel
theorem dX1_addDownward_21 : decode cX1_addDownward 21 = .ok (.iinc 4 1, 3) := by decide +kernel
theorem dX1_addDownward_24 : decode cX1_addDownward 24 = .ok (.goto (-21), 3) := by decide +kernel
theorem dX1_addDownward_27 : decode cX1_addDownward 27 = .ok (.return_, 1) := by decide +kernel
theorem dX1_improve_0 : decode cX1_improve 0 = .ok (.aload_n 0, 1) := by decide +kernel
theorem dX1_improve_1 : decode cX1_improve 1 = .ok (.getfield 9, 3) := by decide +kernel
theorem dX1_improve_4 : decode cX1_improve 4 = .ok (.iload_n 2, 1) := by decide +kernel
theorem dX1_improve_5 : decode cX1_improve 5 = .ok (.iaload, 1) := by decide +kernel
theorem dX1_improve_6 : decode cX1_improve 6 = .ok (.iconst (-1), 1) := by decide +kernel
theorem dX1_improve_7 : decode cX1_improve 7 = .ok (.if_icmp .ne 4, 3) := by decide +kernel
theorem dX1_improve_10 : decode cX1_improve 10 = .ok (.return_, 1) := by decide +kernel
theorem dX1_improve_11 : decode cX1_improve 11 = .ok (.aload_n 0, 1) := by decide +kernel
theorem dX1_improve_12 : decode cX1_improve 12 = .ok (.getfield 9, 3) := by decide +kernel
theorem dX1_improve_15 : decode cX1_improve 15 = .ok (.iload_n 2, 1) := by decide +kernel
theorem dX1_improve_16 : decode cX1_improve 16 = .ok (.iaload, 1) := by decide +kernel
theorem dX1_improve_17 : decode cX1_improve 17 = .ok (.iconst 1, 1) := by decide +kernel
theorem dX1_improve_18 : decode cX1_improve 18 = .ok (.iadd, 1) := by decide +kernel
theorem dX1_improve_19 : decode cX1_improve 19 = .ok (.istore_n 3, 1) := by decide +kernel
theorem dX1_improve_20 : decode cX1_improve 20 = .ok (.aload_n 0, 1) := by decide +kernel
theorem dX1_improve_21 : decode cX1_improve 21 = .ok (.getfield 9, 3) := by decide +kernel
theorem dX1_improve_24 : decode cX1_improve 24 = .ok (.iload_n 1, 1) := by decide +kernel
theorem dX1_improve_25 : decode cX1_improve 25 = .ok (.iaload, 1) := by decide +kernel
theorem dX1_improve_26 : decode cX1_improve 26 = .ok (.iconst (-1), 1) := by decide +kernel
theorem dX1_improve_27 : decode cX1_improve 27 = .ok (.if_icmp .eq 13, 3) := by decide +kernel
theorem dX1_improve_30 : decode cX1_improve 30 = .ok (.iload_n 3, 1) := by decide +kernel
theorem dX1_improve_31 : decode cX1_improve 31 = .ok (.aload_n 0, 1) := by decide +kernel
theorem dX1_improve_32 : decode cX1_improve 32 = .ok (.getfield 9, 3) := by decide +kernel
theorem dX1_improve_35 : decode cX1_improve 35 = .ok (.iload_n 1, 1) := by decide +kernel
theorem dX1_improve_36 : decode cX1_improve 36 = .ok (.iaload, 1) := by decide +kernel
theorem dX1_improve_37 : decode cX1_improve 37 = .ok (.if_icmp .ge 10, 3) := by decide +kernel
theorem dX1_improve_40 : decode cX1_improve 40 = .ok (.aload_n 0, 1) := by decide +kernel
theorem dX1_improve_41 : decode cX1_improve 41 = .ok (.getfield 9, 3) := by decide +kernel
theorem dX1_improve_44 : decode cX1_improve 44 = .ok (.iload_n 1, 1) := by decide +kernel
theorem dX1_improve_45 : decode cX1_improve 45 = .ok (.iload_n 3, 1) := by decide +kernel
theorem dX1_improve_46 : decode cX1_improve 46 = .ok (.iastore, 1) := by decide +kernel
theorem dX1_improve_47 : decode cX1_improve 47 = .ok (.return_, 1) := by decide +kernel
set_option maxRecDepth 20000 in
theorem ggX2_init_X3_init : GoodIn wsX2_init wsX3_init := goodIn_r _ [10, 11, 2, 3, 12, 13, 14, 15, 16, 17, 18, 19, 20, 21, 22, 23, 24, 25, 26, 27, 28, 29, 30, 31, 32, 33, 34, 35, 36, 37, 38, 39, 40, 41, 42] (by decide +kernel) (by decide +kernel)
set_option maxRecDepth 20000 in
theorem gX2_init_X3_init_n11 : GoodIn wsX2_init (wsX3_init) := ggX2_init_X3_init
theorem dX2_init_0 : decode cX2_init 0 = .ok (.aload_n 0, 1) := by decide +kernel
theorem dX2_init_1 : decode cX2_init 1 = .ok (.invokespecial 3, 3) := by decide +kernel
theorem dX2_init_4 : decode cX2_init 4 = .ok (.aload_n 0, 1) := by decide +kernel
theorem dX2_init_5 : decode cX2_init 5 = .ok (.bipush 6, 2) := by decide +kernel
theorem dX2_init_7 : decode cX2_init 7 = .ok (.anewarray 9, 3) := by decide +kernel
theorem dX2_init_10 : decode cX2_init 10 = .ok (.dup, 1) := by decide +kernel
theorem dX2_init_11 : decode cX2_init 11 = .ok (.iconst 0, 1) := by decide +kernel
theorem dX2_init_12 : decode cX2_init 12 = .ok (.new 9, 3) := by decide +kernel
theorem dX2_init_15 : decode cX2_init 15 = .ok (.dup, 1) := by decide +kernel
theorem dX2_init_16 : decode cX2_init 16 = .ok (.invokespecial 11, 3) := by decide +kernel
theorem dX2_init_19 : decode cX2_init 19 = .ok (.aastore, 1) := by decide +kernel
theorem dX2_init_20 : decode cX2_init 20 = .ok (.dup, 1) := by decide +kernel
theorem dX2_init_21 : decode cX2_init 21 = .ok (.iconst 1, 1) := by decide +kernel
theorem dX2_init_22 : decode cX2_init 22 = .ok (.new 9, 3) := by decide +kernel
theorem dX2_init_25 : decode cX2_init 25 = .ok (.dup, 1) := by decide +kernel
theorem dX2_init_26 : decode cX2_init 26 = .ok (.invokespecial 11, 3) := by decide +kernel
theorem dX2_init_29 : decode cX2_init 29 = .ok (.aastore, 1) := by decide +kernel
theorem dX2_init_30 : decode cX2_init 30 = .ok (.dup, 1) := by decide +kernel
theorem dX2_init_31 : decode cX2_init 31 = .ok (.iconst 2, 1) := by decide +kernel
theorem dX2_init_32 : decode cX2_init 32 = .ok (.new 9, 3) := by decide +kernel
theorem dX2_init_35 : decode cX2_init 35 = .ok (.dup, 1) := by decide +kernel
theorem dX2_init_36 : decode cX2_init 36 = .ok (.invokespecial 11, 3) := by decide +kernel
theorem dX2_init_39 : decode cX2_init 39 = .ok (.aastore, 1) := by decide +kernel
theorem dX2_init_40 : decode cX2_init 40 = .ok (.dup, 1) := by decide +kernel
theorem dX2_init_41 : decode cX2_init 41 = .ok (.iconst 3, 1) := by decide +kernel
theorem dX2_init_42 : decode cX2_init 42 = .ok (.new 9, 3) := by decide +kernel
theorem dX2_init_45 : decode cX2_init 45 = .ok (.dup, 1) := by decide +kernel
theorem dX2_init_46 : decode cX2_init 46 = .ok (.invokespecial 11, 3) := by decide +kernel
theorem dX2_init_49 : decode cX2_init 49 = .ok (.aastore, 1) := by decide +kernel
theorem dX2_init_50 : decode cX2_init 50 = .ok (.dup, 1) := by decide +kernel
theorem dX2_init_51 : decode cX2_init 51 = .ok (.iconst 4, 1) := by decide +kernel
theorem dX2_init_52 : decode cX2_init 52 = .ok (.new 9, 3) := by decide +kernel
theorem dX2_init_55 : decode cX2_init 55 = .ok (.dup, 1) := by decide +kernel
theorem dX2_init_56 : decode cX2_init 56 = .ok (.invokespecial 11, 3) := by decide +kernel
theorem dX2_init_59 : decode cX2_init 59 = .ok (.aastore, 1) := by decide +kernel
theorem dX2_init_60 : decode cX2_init 60 = .ok (.dup, 1) := by decide +kernel
theorem dX2_init_61 : decode cX2_init 61 = .ok (.iconst 5, 1) := by decide +kernel
theorem dX2_init_62 : decode cX2_init 62 = .ok (.new 9, 3) := by decide +kernel
theorem dX2_init_65 : decode cX2_init 65 = .ok (.dup, 1) := by decide +kernel
theorem dX2_init_66 : decode cX2_init 66 = .ok (.invokespecial 11, 3) := by decide +kernel
theorem dX2_init_69 : decode cX2_init 69 = .ok (.aastore, 1) := by decide +kernel
theorem dX2_init_70 : decode cX2_init 70 = .ok (.putfield 12, 3) := by decide +kernel
theorem dX2_init_73 : decode cX2_init 73 = .ok (.aload_n 0, 1) := by decide +kernel
theorem dX2_init_74 : decode cX2_init 74 = .ok (.iconst 0, 1) := by decide +kernel
theorem dX2_init_75 : decode cX2_init 75 = .ok (.putfield 18, 3) := by decide +kernel
theorem dX2_init_78 : decode cX2_init 78 = .ok (.return_, 1) := by decide +kernel
set_option maxRecDepth 20000 in
theorem ggX2_save_X2_dropOldest : GoodIn wsX2_save wsX2_dropOldest := goodIn_r _ [7, 2, 1, 32, 33] (by decide +kernel) (by decide +kernel)
set_option maxRecDepth 20000 in
theorem gX2_save_X2_dropOldest : GoodIn wsX2_save (wsV RX2 22 RX2 yX2_dropOldest wsX2_dropOldest) := goodIn_app (goodIn_of _ (by decide +kernel)) ggX2_save_X2_dropOldest
set_option maxRecDepth 20000 in
theorem ggX2_save_X3_copyFrom : GoodIn wsX2_save wsX3_copyFrom := goodIn_r _ [12, 13, 14, 15, 16, 17, 18, 19, 20, 21, 22, 23, 24, 25, 26, 27, 28, 29, 30, 31, 34, 35, 36, 37, 38, 39, 40, 41, 42, 43, 44, 45, 46, 47, 48] (by decide +kernel) (by decide +kernel)
set_option maxRecDepth 20000 in
theorem gX2_save_X3_copyFrom : GoodIn wsX2_save (wsV RX2 25 RX3 yX3_copyFrom wsX3_copyFrom) := goodIn_app (goodIn_of _ (by decide +kernel)) ggX2_save_X3_copyFrom
theorem dX2_save_0 : decode cX2_save 0 = .ok (.aload_n 0, 1) := by decide +kernel
theorem dX2_save_1 : decode cX2_save 1 = .ok (.getfield 18, 3) := by decide +kernel
theorem dX2_save_4 : decode cX2_save 4 = .ok (.bipush 6, 2) := by decide +kernel
theorem dX2_save_6 : decode cX2_save 6 = .ok (.if_icmp .ne 7, 3) := by decide +kernel
theorem dX2_save_9 : decode cX2_save 9 = .ok (.aload_n 0, 1) := by decide +kernel
theorem dX2_save_10 : decode cX2_save 10 = .ok (.invokevirtual 22, 3) := by decide +kernel
theorem dX2_save_13 : decode cX2_save 13 = .ok (.aload_n 0, 1) := by decide +kernel
theorem dX2_save_14 : decode cX2_save 14 = .ok (.getfield 12, 3) := by decide +kernel
theorem dX2_save_17 : decode cX2_save 17 = .ok (.aload_n 0, 1) := by decide +kernel
theorem dX2_save_18 : decode cX2_save 18 = .ok (.getfield 18, 3) := by decide +kernel
theorem dX2_save_21 : decode cX2_save 21 = .ok (.aaload, 1) := by decide +kernel
theorem dX2_save_22 : decode cX2_save 22 = .ok (.aload_n 1, 1) := by decide +kernel
theorem dX2_save_23 : decode cX2_save 23 = .ok (.invokevirtual 25, 3) := by decide +kernel
theorem dX2_save_26 : decode cX2_save 26 = .ok (.aload_n 0, 1) := by decide +kernel
theorem dX2_save_27 : decode cX2_save 27 = .ok (.dup, 1) := by decide +kernel
theorem dX2_save_28 : decode cX2_save 28 = .ok (.getfield 18, 3) := by decide +kernel
theorem dX2_save_31 : decode cX2_save 31 = .ok (.iconst 1, 1) := by decide +kernel
theorem dX2_save_32 : decode cX2_save 32 = .ok (.iadd, 1) := by decide +kernel
theorem dX2_save_33 : decode cX2_save 33 = .ok (.putfield 18, 3) := by decide +kernel
theorem dX2_save_36 : decode cX2_save 36 = .ok (.return_, 1) := by decide +kernel
theorem dX2_dropOldest_0 : decode cX2_dropOldest 0 = .ok (.aload_n 0, 1) := by decide +kernel
theorem dX2_dropOldest_1 : decode cX2_dropOldest 1 = .ok (.getfield 12, 3) := by decide +kernel
theorem dX2_dropOldest_4 : decode cX2_dropOldest 4 = .ok (.iconst 0, 1) := by decide +kernel
theorem dX2_dropOldest_5 : decode cX2_dropOldest 5 = .ok (.aaload, 1) := by decide +kernel
theorem dX2_dropOldest_6 : decode cX2_dropOldest 6 = .ok (.astore_n 1, 1) := by decide +kernel
theorem dX2_dropOldest_7 : decode cX2_dropOldest 7 = .ok (.iconst 1, 1) := by decide +kernel
theorem dX2_dropOldest_8 : decode cX2_dropOldest 8 = .ok (.istore_n 2, 1) := by decide +kernel
theorem dX2_dropOldest_9 : decode cX2_dropOldest 9 = .ok (.iload_n 2, 1) := by decide +kernel
theorem dX2_dropOldest_10 : decode cX2_dropOldest 10 = .ok (.bipush 6, 2) := by decide +kernel
theorem dX2_dropOldest_12 : decode cX2_dropOldest 12 = .ok (.if_icmp .ge 23, 3) := by decide +kernel
theorem dX2_dropOldest_15 : decode cX2_dropOldest 15 = .ok (.aload_n 0, 1) := by decide +kernel
theorem dX2_dropOldest_16 : decode cX2_dropOldest 16 = .ok (.getfield 12, 3) := by decide +kernel
theorem dX2_dropOldest_19 : decode cX2_dropOldest 19 = .ok (.iload_n 2, 1) := by decide +kernel
theorem dX2_dropOldest_20 : decode cX2_dropOldest 20 = .ok (.iconst 1, 1) := by decide +kernel
theorem dX2_dropOldest_21 : decode cX2_dropOldest 21 = .ok (.isub, 1) := by decide +kernel
theorem dX2_dropOldest_22 : decode cX2_dropOldest 22 = .ok (.aload_n 0, 1) := by decide +kernel
theorem dX2_dropOldest_23 : decode cX2_dropOldest 23 = .ok (.getfield 12, 3) := by decide +kernel
theorem dX2_dropOldest_26 : decode cX2_dropOldest 26 = .ok (.iload_n 2, 1) := by decide +kernel
theorem dX2_dropOldest_27 : decode cX2_dropOldest 27 = .ok (.aaload, 1) := by decide +kernel
theorem dX2_dropOldest_28 : decode cX2_dropOldest 28 = .ok (.aastore, 1) := by decide +kernel
theorem dX2_dropOldest_29 : decode cX2_dropOldest 29 = .ok (.iinc 2 1, 3) := by decide +kernel
theorem dX2_dropOldest_32 : decode cX2_dropOldest 32 = .ok (.goto (-23), 3) := by decide +kernel
theorem dX2_dropOldest_35 : decode cX2_dropOldest 35 = .ok (.aload_n 0, 1) := by decide +kernel
theorem dX2_dropOldest_36 : decode cX2_dropOldest 36 = .ok (.getfield 12, 3) := by decide +kernel
theorem dX2_dropOldest_39 : decode cX2_dropOldest 39 = .ok (.iconst 5, 1) := by decide +kernel
theorem dX2_dropOldest_40 : decode cX2_dropOldest 40 = .ok (.aload_n 1, 1) := by decide +kernel
theorem dX2_dropOldest_41 : decode cX2_dropOldest 41 = .ok (.aastore, 1) := by decide +kernel
theorem dX2_dropOldest_42 : decode cX2_dropOldest 42 = .ok (.aload_n 0, 1) := by decide +kernel
theorem dX2_dropOldest_43 : decode cX2_dropOldest 43 = .ok (.dup, 1) := by decide +kernel
theorem dX2_dropOldest_44 : decode cX2_dropOldest 44 = .ok (.getfield 18, 3) := by decide +kernel
theorem dX2_dropOldest_47 : decode cX2_dropOldest 47 = .ok (.iconst 1, 1) := by decide +kernel
theorem dX2_dropOldest_48 : decode cX2_dropOldest 48 = .ok (.isub, 1) := by decide +kernel
theorem dX2_dropOldest_49 : decode cX2_dropOldest 49 = .ok (.putfield 18, 3) := by decide +kernel
theorem dX2_dropOldest_52 : decode cX2_dropOldest 52 = .ok (.return_, 1) := by decide +kernel
set_option maxRecDepth 20000 in
theorem ggX2_restoreInto_X3_copyFrom : GoodIn wsX2_restoreInto wsX3_copyFrom := goodIn_r _ [7, 8, 9, 10, 11, 12, 13, 14, 15, 16, 17, 18, 19, 20, 21, 22, 23, 24, 25, 26, 29, 30, 31, 32, 33, 34, 35, 36, 37, 38, 39, 40, 41, 42, 43] (by decide +kernel) (by decide +kernel)
set_option maxRecDepth 20000 in
theorem gX2_restoreInto_X3_copyFrom : GoodIn wsX2_restoreInto (wsV RX2 25 RX3 yX3_copyFrom wsX3_copyFrom) := goodIn_app (goodIn_of _ (by decide +kernel)) ggX2_restoreInto_X3_copyFrom
theorem dX2_restoreInto_0 : decode cX2_restoreInto 0 = .ok (.aload_n 0, 1) := by decide +kernel
theorem dX2_restoreInto_1 : decode cX2_restoreInto 1 = .ok (.getfield 18, 3) := by decide +kernel
theorem dX2_restoreInto_4 : decode cX2_restoreInto 4 = .ok (.ifCond .le 26, 3) := by decide +kernel
theorem dX2_restoreInto_7 : decode cX2_restoreInto 7 = .ok (.aload_n 0, 1) := by decide +kernel
theorem dX2_restoreInto_8 : decode cX2_restoreInto 8 = .ok (.dup, 1) := by decide +kernel
theorem dX2_restoreInto_9 : decode cX2_restoreInto 9 = .ok (.getfield 18, 3) := by decide +kernel
theorem dX2_restoreInto_12 : decode cX2_restoreInto 12 = .ok (.iconst 1, 1) := by decide +kernel
theorem dX2_restoreInto_13 : decode cX2_restoreInto 13 = .ok (.isub, 1) := by decide +kernel
theorem dX2_restoreInto_14 : decode cX2_restoreInto 14 = .ok (.putfield 18, 3) := by decide +kernel
theorem dX2_restoreInto_17 : decode cX2_restoreInto 17 = .ok (.aload_n 1, 1) := by decide +kernel
theorem dX2_restoreInto_18 : decode cX2_restoreInto 18 = .ok (.aload_n 0, 1) := by decide +kernel
theorem dX2_restoreInto_19 : decode cX2_restoreInto 19 = .ok (.getfield 12, 3) := by decide +kernel
theorem dX2_restoreInto_22 : decode cX2_restoreInto 22 = .ok (.aload_n 0, 1) := by decide +kernel
theorem dX2_restoreInto_23 : decode cX2_restoreInto 23 = .ok (.getfield 18, 3) := by decide +kernel
theorem dX2_restoreInto_26 : decode cX2_restoreInto 26 = .ok (.aaload, 1) := by decide +kernel
theorem dX2_restoreInto_27 : decode cX2_restoreInto 27 = .ok (.invokevirtual 25, 3) := by decide +kernel
theorem dX2_restoreInto_30 : decode cX2_restoreInto 30 = .ok (.return_, 1) := by decide +kernel
theorem dX3_init_0 : decode cX3_init 0 = .ok (.aload_n 0, 1) := by decide +kernel
theorem dX3_init_1 : decode cX3_init 1 = .ok (.invokespecial 3, 3) := by decide +kernel
theorem dX3_init_4 : decode cX3_init 4 = .ok (.aload_n 0, 1) := by decide +kernel
theorem dX3_init_5 : decode cX3_init 5 = .ok (.iconst 0, 1) := by decide +kernel
theorem dX3_init_6 : decode cX3_init 6 = .ok (.putfield 9, 3) := by decide +kernel
theorem dX3_init_9 : decode cX3_init 9 = .ok (.aload_n 0, 1) := by decide +kernel
theorem dX3_init_10 : decode cX3_init 10 = .ok (.iconst 0, 1) := by decide +kernel
theorem dX3_init_11 : decode cX3_init 11 = .ok (.putfield 15, 3) := by decide +kernel
theorem dX3_init_14 : decode cX3_init 14 = .ok (.aload_n 0, 1) := by decide +kernel
theorem dX3_init_15 : decode cX3_init 15 = .ok (.iconst 0, 1) := by decide +kernel
theorem dX3_init_16 : decode cX3_init 16 = .ok (.putfield 18, 3) := by decide +kernel
theorem dX3_init_19 : decode cX3_init 19 = .ok (.aload_n 0, 1) := by decide +kernel
theorem dX3_init_20 : decode cX3_init 20 = .ok (.iconst 2, 1) := by decide +kernel
theorem dX3_init_21 : decode cX3_init 21 = .ok (.newarray .int, 2) := by decide +kernel
theorem dX3_init_23 : decode cX3_init 23 = .ok (.dup, 1) := by decide +kernel
theorem dX3_init_24 : decode cX3_init 24 = .ok (.iconst 0, 1) := by decide +kernel
theorem dX3_init_25 : decode cX3_init 25 = .ok (.bipush 6, 2) := by decide +kernel
theorem dX3_init_27 : decode cX3_init 27 = .ok (.iastore, 1) := by decide +kernel
theorem dX3_init_28 : decode cX3_init 28 = .ok (.dup, 1) := by decide +kernel
theorem dX3_init_29 : decode cX3_init 29 = .ok (.iconst 1, 1) := by decide +kernel
theorem dX3_init_30 : decode cX3_init 30 = .ok (.bipush 10, 2) := by decide +kernel
theorem dX3_init_32 : decode cX3_init 32 = .ok (.iastore, 1) := by decide +kernel
theorem dX3_init_33 : decode cX3_init 33 = .ok (.putfield 21, 3) := by decide +kernel
theorem dX3_init_36 : decode cX3_init 36 = .ok (.aload_n 0, 1) := by decide +kernel
theorem dX3_init_37 : decode cX3_init 37 = .ok (.iconst 4, 1) := by decide +kernel
theorem dX3_init_38 : decode cX3_init 38 = .ok (.newarray .int, 2) := by decide +kernel
theorem dX3_init_40 : decode cX3_init 40 = .ok (.putfield 25, 3) := by decide +kernel
theorem dX3_init_43 : decode cX3_init 43 = .ok (.aload_n 0, 1) := by decide +kernel
theorem dX3_init_44 : decode cX3_init 44 = .ok (.iconst 4, 1) := by decide +kernel
theorem dX3_init_45 : decode cX3_init 45 = .ok (.newarray .int, 2) := by decide +kernel
theorem dX3_init_47 : decode cX3_init 47 = .ok (.putfield 28, 3) := by decide +kernel
theorem dX3_init_50 : decode cX3_init 50 = .ok (.aload_n 0, 1) := by decide +kernel
theorem dX3_init_51 : decode cX3_init 51 = .ok (.iconst 4, 1) := by decide +kernel
theorem dX3_init_52 : decode cX3_init 52 = .ok (.newarray .int, 2) := by decide +kernel
theorem dX3_init_54 : decode cX3_init 54 = .ok (.dup, 1) := by decide +kernel
theorem dX3_init_55 : decode cX3_init 55 = .ok (.iconst 0, 1) := by decide +kernel
theorem dX3_init_56 : decode cX3_init 56 = .ok (.bipush 100, 2) := by decide +kernel
theorem dX3_init_58 : decode cX3_init 58 = .ok (.iastore, 1) := by decide +kernel
theorem dX3_init_59 : decode cX3_init 59 = .ok (.dup, 1) := by decide +kernel
theorem dX3_init_60 : decode cX3_init 60 = .ok (.iconst 1, 1) := by decide +kernel
theorem dX3_init_61 : decode cX3_init 61 = .ok (.bipush 100, 2) := by decide +kernel
theorem dX3_init_63 : decode cX3_init 63 = .ok (.iastore, 1) := by decide +kernel
theorem dX3_init_64 : decode cX3_init 64 = .ok (.dup, 1) := by decide +kernel
theorem dX3_init_65 : decode cX3_init 65 = .ok (.iconst 2, 1) := by decide +kernel
theorem dX3_init_66 : decode cX3_init 66 = .ok (.bipush 100, 2) := by decide +kernel
theorem dX3_init_68 : decode cX3_init 68 = .ok (.iastore, 1) := by decide +kernel
theorem dX3_init_69 : decode cX3_init 69 = .ok (.dup, 1) := by decide +kernel
theorem dX3_init_70 : decode cX3_init 70 = .ok (.iconst 3, 1) := by decide +kernel
theorem dX3_init_71 : decode cX3_init 71 = .ok (.bipush 100, 2) := by decide +kernel
theorem dX3_init_73 : decode cX3_init 73 = .ok (.iastore, 1) := by decide +kernel
theorem dX3_init_74 : decode cX3_init 74 = .ok (.putfield 31, 3) := by decide +kernel
theorem dX3_init_77 : decode cX3_init 77 = .ok (.aload_n 0, 1) := by decide +kernel
theorem dX3_init_78 : decode cX3_init 78 = .ok (.bipush 16, 2) := by decide +kernel
theorem dX3_init_80 : decode cX3_init 80 = .ok (.newarray .int, 2) := by decide +kernel
theorem dX3_init_82 : decode cX3_init 82 = .ok (.putfield 34, 3) := by decide +kernel
theorem dX3_init_85 : decode cX3_init 85 = .ok (.aload_n 0, 1) := by decide +kernel
theorem dX3_init_86 : decode cX3_init 86 = .ok (.bipush 16, 2) := by decide +kernel
theorem dX3_init_88 : decode cX3_init 88 = .ok (.newarray .int, 2) := by decide +kernel
theorem dX3_init_90 : decode cX3_init 90 = .ok (.putfield 37, 3) := by decide +kernel
theorem dX3_init_93 : decode cX3_init 93 = .ok (.aload_n 0, 1) := by decide +kernel
theorem dX3_init_94 : decode cX3_init 94 = .ok (.bipush 16, 2) := by decide +kernel
theorem dX3_init_96 : decode cX3_init 96 = .ok (.newarray .int, 2) := by decide +kernel
theorem dX3_init_98 : decode cX3_init 98 = .ok (.putfield 40, 3) := by decide +kernel
theorem dX3_init_101 : decode cX3_init 101 = .ok (.aload_n 0, 1) := by decide +kernel
theorem dX3_init_102 : decode cX3_init 102 = .ok (.bipush 16, 2) := by decide +kernel
theorem dX3_init_104 : decode cX3_init 104 = .ok (.newarray .int, 2) := by decide +kernel
theorem dX3_init_106 : decode cX3_init 106 = .ok (.putfield 43, 3) := by decide +kernel
theorem dX3_init_109 : decode cX3_init 109 = .ok (.aload_n 0, 1) := by decide +kernel
theorem dX3_init_110 : decode cX3_init 110 = .ok (.bipush 16, 2) := by decide +kernel
theorem dX3_init_112 : decode cX3_init 112 = .ok (.newarray .int, 2) := by decide +kernel
theorem dX3_init_114 : decode cX3_init 114 = .ok (.putfield 46, 3) := by decide +kernel
theorem dX3_init_117 : decode cX3_init 117 = .ok (.aload_n 0, 1) := by decide +kernel
theorem dX3_init_118 : decode cX3_init 118 = .ok (.bipush 6, 2) := by decide +kernel
theorem dX3_init_120 : decode cX3_init 120 = .ok (.newarray .int, 2) := by decide +kernel
theorem dX3_init_122 : decode cX3_init 122 = .ok (.putfield 49, 3) := by decide +kernel
theorem dX3_init_125 : decode cX3_init 125 = .ok (.aload_n 0, 1) := by decide +kernel
theorem dX3_init_126 : decode cX3_init 126 = .ok (.bipush 6, 2) := by decide +kernel
theorem dX3_init_128 : decode cX3_init 128 = .ok (.newarray .int, 2) := by decide +kernel
theorem dX3_init_130 : decode cX3_init 130 = .ok (.putfield 52, 3) := by decide +kernel
theorem dX3_init_133 : decode cX3_init 133 = .ok (.aload_n 0, 1) := by decide +kernel
theorem dX3_init_134 : decode cX3_init 134 = .ok (.bipush 6, 2) := by decide +kernel
theorem dX3_init_136 : decode cX3_init 136 = .ok (.newarray .int, 2) := by decide +kernel
theorem dX3_init_138 : decode cX3_init 138 = .ok (.putfield 55, 3) := by decide +kernel
theorem dX3_init_141 : decode cX3_init 141 = .ok (.return_, 1) := by decide +kernel
theorem dX3_copyFrom_0 : decode cX3_copyFrom 0 = .ok (.aload_n 0, 1) := by decide +kernel
theorem dX3_copyFrom_1 : decode cX3_copyFrom 1 = .ok (.aload_n 1, 1) := by decide +kernel
theorem dX3_copyFrom_2 : decode cX3_copyFrom 2 = .ok (.getfield 9, 3) := by decide +kernel
theorem dX3_copyFrom_5 : decode cX3_copyFrom 5 = .ok (.putfield 9, 3) := by decide +kernel
theorem dX3_copyFrom_8 : decode cX3_copyFrom 8 = .ok (.aload_n 0, 1) := by decide +kernel
theorem dX3_copyFrom_9 : decode cX3_copyFrom 9 = .ok (.aload_n 1, 1) := by decide +kernel
theorem dX3_copyFrom_10 : decode cX3_copyFrom 10 = .ok (.getfield 15, 3) := by decide +kernel
theorem dX3_copyFrom_13 : decode cX3_copyFrom 13 = .ok (.putfield 15, 3) := by decide +kernel
theorem dX3_copyFrom_16 : decode cX3_copyFrom 16 = .ok (.aload_n 0, 1) := by decide +kernel
theorem dX3_copyFrom_17 : decode cX3_copyFrom 17 = .ok (.aload_n 1, 1) := by decide +kernel
theorem dX3_copyFrom_18 : decode cX3_copyFrom 18 = .ok (.getfield 18, 3) := by decide +kernel
theorem dX3_copyFrom_21 : decode cX3_copyFrom 21 = .ok (.putfield 18, 3) := by decide +kernel
theorem dX3_copyFrom_24 : decode cX3_copyFrom 24 = .ok (.aload_n 1, 1) := by decide +kernel
theorem dX3_copyFrom_25 : decode cX3_copyFrom 25 = .ok (.getfield 21, 3) := by decide +kernel
theorem dX3_copyFrom_28 : decode cX3_copyFrom 28 = .ok (.iconst 0, 1) := by decide +kernel
theorem dX3_copyFrom_29 : decode cX3_copyFrom 29 = .ok (.aload_n 0, 1) := by decide +kernel
theorem dX3_copyFrom_30 : decode cX3_copyFrom 30 = .ok (.getfield 21, 3) := by decide +kernel
theorem dX3_copyFrom_33 : decode cX3_copyFrom 33 = .ok (.iconst 0, 1) := by decide +kernel
theorem dX3_copyFrom_34 : decode cX3_copyFrom 34 = .ok (.iconst 2, 1) := by decide +kernel
theorem dX3_copyFrom_35 : decode cX3_copyFrom 35 = .ok (.invokestatic 58, 3) := by decide +kernel
theorem dX3_copyFrom_38 : decode cX3_copyFrom 38 = .ok (.aload_n 1, 1) := by decide +kernel
theorem dX3_copyFrom_39 : decode cX3_copyFrom 39 = .ok (.getfield 25, 3) := by decide +kernel
theorem dX3_copyFrom_42 : decode cX3_copyFrom 42 = .ok (.iconst 0, 1) := by decide +kernel
theorem dX3_copyFrom_43 : decode cX3_copyFrom 43 = .ok (.aload_n 0, 1) := by decide +kernel
theorem dX3_copyFrom_44 : decode cX3_copyFrom 44 = .ok (.getfield 25, 3) := by decide +kernel
theorem dX3_copyFrom_47 : decode cX3_copyFrom 47 = .ok (.iconst 0, 1) := by decide +kernel
theorem dX3_copyFrom_48 : decode cX3_copyFrom 48 = .ok (.iconst 4, 1) := by decide +kernel
theorem dX3_copyFrom_49 : decode cX3_copyFrom 49 = .ok (.invokestatic 58, 3) := by decide +kernel
theorem dX3_copyFrom_52 : decode cX3_copyFrom 52 = .ok (.aload_n 1, 1) := by decide +kernel
theorem dX3_copyFrom_53 : decode cX3_copyFrom 53 = .ok (.getfield 28, 3) := by decide +kernel
theorem dX3_copyFrom_56 : decode cX3_copyFrom 56 = .ok (.iconst 0, 1) := by decide +kernel
theorem dX3_copyFrom_57 : decode cX3_copyFrom 57 = .ok (.aload_n 0, 1) := by decide +kernel
theorem dX3_copyFrom_58 : decode cX3_copyFrom 58 = .ok (.getfield 28, 3) := by decide +kernel
theorem dX3_copyFrom_61 : decode cX3_copyFrom 61 = .ok (.iconst 0, 1) := by decide +kernel
theorem dX3_copyFrom_62 : decode cX3_copyFrom 62 = .ok (.iconst 4, 1) := by decide +kernel
theorem dX3_copyFrom_63 : decode cX3_copyFrom 63 = .ok (.invokestatic 58, 3) := by decide +kernel
theorem dX3_copyFrom_66 : decode cX3_copyFrom 66 = .ok (.aload_n 1, 1) := by decide +kernel
theorem dX3_copyFrom_67 : decode cX3_copyFrom 67 = .ok (.getfield 31, 3) := by decide +kernel
theorem dX3_copyFrom_70 : decode cX3_copyFrom 70 = .ok (.iconst 0, 1) := by decide +kernel
theorem dX3_copyFrom_71 : decode cX3_copyFrom 71 = .ok (.aload_n 0, 1) := by decide +kernel
theorem dX3_copyFrom_72 : decode cX3_copyFrom 72 = .ok (.getfield 31, 3) := by decide +kernel
theorem dX3_copyFrom_75 : decode cX3_copyFrom 75 = .ok (.iconst 0, 1) := by decide +kernel
theorem dX3_copyFrom_76 : decode cX3_copyFrom 76 = .ok (.iconst 4, 1) := by decide +kernel
theorem dX3_copyFrom_77 : decode cX3_copyFrom 77 = .ok (.invokestatic 58, 3) := by decide +kernel
theorem dX3_copyFrom_80 : decode cX3_copyFrom 80 = .ok (.aload_n 1, 1) := by decide +kernel
theorem dX3_copyFrom_81 : decode cX3_copyFrom 81 = .ok (.getfield 34, 3) := by decide +kernel
theorem dX3_copyFrom_84 : decode cX3_copyFrom 84 = .ok (.iconst 0, 1) := by decide +kernel
theorem dX3_copyFrom_85 : decode cX3_copyFrom 85 = .ok (.aload_n 0, 1) := by decide +kernel
theorem dX3_copyFrom_86 : decode cX3_copyFrom 86 = .ok (.getfield 34, 3) := by decide +kernel
theorem dX3_copyFrom_89 : decode cX3_copyFrom 89 = .ok (.iconst 0, 1) := by decide +kernel
theorem dX3_copyFrom_90 : decode cX3_copyFrom 90 = .ok (.bipush 16, 2) := by decide +kernel
theorem dX3_copyFrom_92 : decode cX3_copyFrom 92 = .ok (.invokestatic 58, 3) := by decide +kernel
theorem dX3_copyFrom_95 : decode cX3_copyFrom 95 = .ok (.aload_n 1, 1) := by decide +kernel
theorem dX3_copyFrom_96 : decode cX3_copyFrom 96 = .ok (.getfield 37, 3) := by decide +kernel
theorem dX3_copyFrom_99 : decode cX3_copyFrom 99 = .ok (.iconst 0, 1) := by decide +kernel
theorem dX3_copyFrom_100 : decode cX3_copyFrom 100 = .ok (.aload_n 0, 1) := by decide +kernel
theorem dX3_copyFrom_101 : decode cX3_copyFrom 101 = .ok (.getfield 37, 3) := by decide +kernel
theorem dX3_copyFrom_104 : decode cX3_copyFrom 104 = .ok (.iconst 0, 1) := by decide +kernel
theorem dX3_copyFrom_105 : decode cX3_copyFrom 105 = .ok (.bipush 16, 2) := by decide +kernel
theorem dX3_copyFrom_107 : decode cX3_copyFrom 107 = .ok (.invokestatic 58, 3) := by decide +kernel
theorem dX3_copyFrom_110 : decode cX3_copyFrom 110 = .ok (.aload_n 1, 1) := by decide +kernel
theorem dX3_copyFrom_111 : decode cX3_copyFrom 111 = .ok (.getfield 40, 3) := by decide +kernel
theorem dX3_copyFrom_114 : decode cX3_copyFrom 114 = .ok (.iconst 0, 1) := by decide +kernel
theorem dX3_copyFrom_115 : decode cX3_copyFrom 115 = .ok (.aload_n 0, 1) := by decide +kernel
theorem dX3_copyFrom_116 : decode cX3_copyFrom 116 = .ok (.getfield 40, 3) := by decide +kernel
theorem dX3_copyFrom_119 : decode cX3_copyFrom 119 = .ok (.iconst 0, 1) := by decide +kernel
theorem dX3_copyFrom_120 : decode cX3_copyFrom 120 = .ok (.bipush 16, 2) := by decide +kernel
theorem dX3_copyFrom_122 : decode cX3_copyFrom 122 = .ok (.invokestatic 58, 3) := by decide +kernel
theorem dX3_copyFrom_125 : decode cX3_copyFrom 125 = .ok (.aload_n 1, 1) := by decide +kernel
theorem dX3_copyFrom_126 : decode cX3_copyFrom 126 = .ok (.getfield 43, 3) := by decide +kernel
theorem dX3_copyFrom_129 : decode cX3_copyFrom 129 = .ok (.iconst 0, 1) := by decide +kernel
theorem dX3_copyFrom_130 : decode cX3_copyFrom 130 = .ok (.aload_n 0, 1) := by decide +kernel
theorem dX3_copyFrom_131 : decode cX3_copyFrom 131 = .ok (.getfield 43, 3) := by decide +kernel
theorem dX3_copyFrom_134 : decode cX3_copyFrom 134 = .ok (.iconst 0, 1) := by decide +kernel
theorem dX3_copyFrom_135 : decode cX3_copyFrom 135 = .ok (.bipush 16, 2) := by decide +kernel
theorem dX3_copyFrom_137 : decode cX3_copyFrom 137 = .ok (.invokestatic 58, 3) := by decide +kernel
theorem dX3_copyFrom_140 : decode cX3_copyFrom 140 = .ok (.aload_n 1, 1) := by decide +kernel
theorem dX3_copyFrom_141 : decode cX3_copyFrom 141 = .ok (.getfield 46, 3) := by decide +kernel
theorem dX3_copyFrom_144 : decode cX3_copyFrom 144 = .ok (.iconst 0, 1) := by decide +kernel
theorem dX3_copyFrom_145 : decode cX3_copyFrom 145 = .ok (.aload_n 0, 1) := by decide +kernel
theorem dX3_copyFrom_146 : decode cX3_copyFrom 146 = .ok (.getfield 46, 3) := by decide +kernel
theorem dX3_copyFrom_149 : decode cX3_copyFrom 149 = .ok (.iconst 0, 1) := by decide +kernel
theorem dX3_copyFrom_150 : decode cX3_copyFrom 150 = .ok (.bipush 16, 2) := by decide +kernel
theorem dX3_copyFrom_152 : decode cX3_copyFrom 152 = .ok (.invokestatic 58, 3) := by decide +kernel
theorem dX3_copyFrom_155 : decode cX3_copyFrom 155 = .ok (.aload_n 1, 1) := by decide +kernel
theorem dX3_copyFrom_156 : decode cX3_copyFrom 156 = .ok (.getfield 49, 3) := by decide +kernel
theorem dX3_copyFrom_159 : decode cX3_copyFrom 159 = .ok (.iconst 0, 1) := by decide +kernel
theorem dX3_copyFrom_160 : decode cX3_copyFrom 160 = .ok (.aload_n 0, 1) := by decide +kernel
theorem dX3_copyFrom_161 : decode cX3_copyFrom 161 = .ok (.getfield 49, 3) := by decide +kernel
theorem dX3_copyFrom_164 : decode cX3_copyFrom 164 = .ok (.iconst 0, 1) := by decide +kernel
theorem dX3_copyFrom_165 : decode cX3_copyFrom 165 = .ok (.bipush 6, 2) := by decide +kernel
theorem dX3_copyFrom_167 : decode cX3_copyFrom 167 = .ok (.invokestatic 58, 3) := by decide +kernel
theorem dX3_copyFrom_170 : decode cX3_copyFrom 170 = .ok (.aload_n 1, 1) := by decide +kernel
theorem dX3_copyFrom_171 : decode cX3_copyFrom 171 = .ok (.getfield 52, 3) := by decide +kernel
theorem dX3_copyFrom_174 : decode cX3_copyFrom 174 = .ok (.iconst 0, 1) := by decide +kernel
theorem dX3_copyFrom_175 : decode cX3_copyFrom 175 = .ok (.aload_n 0, 1) := by decide +kernel
theorem dX3_copyFrom_176 : decode cX3_copyFrom 176 = .ok (.getfield 52, 3) := by decide +kernel
theorem dX3_copyFrom_179 : decode cX3_copyFrom 179 = .ok (.iconst 0, 1) := by decide +kernel
theorem dX3_copyFrom_180 : decode cX3_copyFrom 180 = .ok (.bipush 6, 2) := by decide +kernel
theorem dX3_copyFrom_182 : decode cX3_copyFrom 182 = .ok (.invokestatic 58, 3) := by decide +kernel
theorem dX3_copyFrom_185 : decode cX3_copyFrom 185 = .ok (.aload_n 1, 1) := by decide +kernel
theorem dX3_copyFrom_186 : decode cX3_copyFrom 186 = .ok (.getfield 55, 3) := by decide +kernel
theorem dX3_copyFrom_189 : decode cX3_copyFrom 189 = .ok (.iconst 0, 1) := by decide +kernel
theorem dX3_copyFrom_190 : decode cX3_copyFrom 190 = .ok (.aload_n 0, 1) := by decide +kernel
theorem dX3_copyFrom_191 : decode cX3_copyFrom 191 = .ok (.getfield 55, 3) := by decide +kernel
theorem dX3_copyFrom_194 : decode cX3_copyFrom 194 = .ok (.iconst 0, 1) := by decide +kernel
theorem dX3_copyFrom_195 : decode cX3_copyFrom 195 = .ok (.bipush 6, 2) := by decide +kernel
theorem dX3_copyFrom_197 : decode cX3_copyFrom 197 = .ok (.invokestatic 58, 3) := by decide +kernel
theorem dX3_copyFrom_200 : decode cX3_copyFrom 200 = .ok (.return_, 1) := by decide +kernel
theorem dX3_changeOf_0 : decode cX3_changeOf 0 = .ok (.aload_n 0, 1) := by decide +kernel
theorem dX3_changeOf_1 : decode cX3_changeOf 1 = .ok (.getfield 37, 3) := by decide +kernel
theorem dX3_changeOf_4 : decode cX3_changeOf 4 = .ok (.iload_n 1, 1) := by decide +kernel
theorem dX3_changeOf_5 : decode cX3_changeOf 5 = .ok (.iaload, 1) := by decide +kernel
theorem dX3_changeOf_6 : decode cX3_changeOf 6 = .ok (.iload_n 2, 1) := by decide +kernel
theorem dX3_changeOf_7 : decode cX3_changeOf 7 = .ok (.if_icmp .ne 10, 3) := by decide +kernel
theorem dX3_changeOf_10 : decode cX3_changeOf 10 = .ok (.aload_n 0, 1) := by decide +kernel
theorem dX3_changeOf_11 : decode cX3_changeOf 11 = .ok (.getfield 40, 3) := by decide +kernel
theorem dX3_changeOf_14 : decode cX3_changeOf 14 = .ok (.iload_n 1, 1) := by decide +kernel
theorem dX3_changeOf_15 : decode cX3_changeOf 15 = .ok (.iaload, 1) := by decide +kernel
theorem dX3_changeOf_16 : decode cX3_changeOf 16 = .ok (.ireturn, 1) := by decide +kernel
theorem dX3_changeOf_17 : decode cX3_changeOf 17 = .ok (.aload_n 0, 1) := by decide +kernel
theorem dX3_changeOf_18 : decode cX3_changeOf 18 = .ok (.getfield 43, 3) := by decide +kernel
theorem dX3_changeOf_21 : decode cX3_changeOf 21 = .ok (.iload_n 1, 1) := by decide +kernel
theorem dX3_changeOf_22 : decode cX3_changeOf 22 = .ok (.iaload, 1) := by decide +kernel
theorem dX3_changeOf_23 : decode cX3_changeOf 23 = .ok (.iload_n 2, 1) := by decide +kernel
theorem dX3_changeOf_24 : decode cX3_changeOf 24 = .ok (.if_icmp .ne 13, 3) := by decide +kernel
theorem dX3_changeOf_27 : decode cX3_changeOf 27 = .ok (.aload_n 0, 1) := by decide +kernel
theorem dX3_changeOf_28 : decode cX3_changeOf 28 = .ok (.getfield 40, 3) := by decide +kernel
theorem dX3_changeOf_31 : decode cX3_changeOf 31 = .ok (.iload_n 1, 1) := by decide +kernel
theorem dX3_changeOf_32 : decode cX3_changeOf 32 = .ok (.iaload, 1) := by decide +kernel
theorem dX3_changeOf_33 : decode cX3_changeOf 33 = .ok (.ineg, 1) := by decide +kernel
theorem dX3_changeOf_34 : decode cX3_changeOf 34 = .ok (.goto 4, 3) := by decide +kernel
theorem dX3_changeOf_37 : decode cX3_changeOf 37 = .ok (.iconst 0, 1) := by decide +kernel
theorem dX3_changeOf_38 : decode cX3_changeOf 38 = .ok (.ireturn, 1) := by decide +kernel
set_option maxRecDepth 20000 in
theorem ggX3_lowOf_X3_lowThen : GoodIn wsX3_lowOf wsX3_lowThen := goodIn_r _ [6, 7, 8, 9, 10, 11, 12, 13, 14, 15, 16, 5, 17, 18, 19, 20, 21, 22, 23, 24, 25, 26, 27, 28, 29, 30, 31, 32, 33, 34, 35] (by decide +kernel) (by decide +kernel)
set_option maxRecDepth 20000 in
theorem gX3_lowOf_X3_lowThen : GoodIn wsX3_lowOf (wsV RX3 64 RX3 yX3_lowThen wsX3_lowThen) := goodIn_app (goodIn_of _ (by decide +kernel)) ggX3_lowOf_X3_lowThen
theorem dX3_lowOf_0 : decode cX3_lowOf 0 = .ok (.aload_n 0, 1) := by decide +kernel
theorem dX3_lowOf_1 : decode cX3_lowOf 1 = .ok (.iload_n 1, 1) := by decide +kernel
theorem dX3_lowOf_2 : decode cX3_lowOf 2 = .ok (.aload_n 0, 1) := by decide +kernel
theorem dX3_lowOf_3 : decode cX3_lowOf 3 = .ok (.getfield 9, 3) := by decide +kernel
theorem dX3_lowOf_6 : decode cX3_lowOf 6 = .ok (.invokevirtual 64, 3) := by decide +kernel
theorem dX3_lowOf_9 : decode cX3_lowOf 9 = .ok (.ireturn, 1) := by decide +kernel
set_option maxRecDepth 20000 in
theorem ggX3_lowThen_X3_changeOf : GoodIn wsX3_lowThen wsX3_changeOf := goodIn_r _ [12, 13, 14, 15, 16, 17, 18, 19, 20, 21, 22, 23, 24, 25, 26, 27, 28, 29, 30] (by decide +kernel) (by decide +kernel)
set_option maxRecDepth 20000 in
theorem gX3_lowThen_X3_changeOf : GoodIn wsX3_lowThen (wsV RX3 68 RX3 yX3_changeOf wsX3_changeOf) := goodIn_app (goodIn_of _ (by decide +kernel)) ggX3_lowThen_X3_changeOf
theorem dX3_lowThen_0 : decode cX3_lowThen 0 = .ok (.aload_n 0, 1) := by decide +kernel
theorem dX3_lowThen_1 : decode cX3_lowThen 1 = .ok (.getfield 25, 3) := by decide +kernel
theorem dX3_lowThen_4 : decode cX3_lowThen 4 = .ok (.iload_n 1, 1) := by decide +kernel
theorem dX3_lowThen_5 : decode cX3_lowThen 5 = .ok (.iaload, 1) := by decide +kernel
theorem dX3_lowThen_6 : decode cX3_lowThen 6 = .ok (.istore_n 3, 1) := by decide +kernel
theorem dX3_lowThen_7 : decode cX3_lowThen 7 = .ok (.iconst 0, 1) := by decide +kernel
theorem dX3_lowThen_8 : decode cX3_lowThen 8 = .ok (.istore 4, 2) := by decide +kernel
theorem dX3_lowThen_10 : decode cX3_lowThen 10 = .ok (.iload 4, 2) := by decide +kernel
theorem dX3_lowThen_12 : decode cX3_lowThen 12 = .ok (.aload_n 0, 1) := by decide +kernel
theorem dX3_lowThen_13 : decode cX3_lowThen 13 = .ok (.getfield 15, 3) := by decide +kernel
theorem dX3_lowThen_16 : decode cX3_lowThen 16 = .ok (.if_icmp .ge 34, 3) := by decide +kernel
theorem dX3_lowThen_19 : decode cX3_lowThen 19 = .ok (.aload_n 0, 1) := by decide +kernel
theorem dX3_lowThen_20 : decode cX3_lowThen 20 = .ok (.getfield 46, 3) := by decide +kernel
theorem dX3_lowThen_23 : decode cX3_lowThen 23 = .ok (.iload 4, 2) := by decide +kernel
theorem dX3_lowThen_25 : decode cX3_lowThen 25 = .ok (.iaload, 1) := by decide +kernel
theorem dX3_lowThen_26 : decode cX3_lowThen 26 = .ok (.iload_n 2, 1) := by decide +kernel
theorem dX3_lowThen_27 : decode cX3_lowThen 27 = .ok (.if_icmp .le 17, 3) := by decide +kernel
theorem dX3_lowThen_30 : decode cX3_lowThen 30 = .ok (.iload_n 3, 1) := by decide +kernel
theorem dX3_lowThen_31 : decode cX3_lowThen 31 = .ok (.aload_n 0, 1) := by decide +kernel
theorem dX3_lowThen_32 : decode cX3_lowThen 32 = .ok (.iload 4, 2) := by decide +kernel
theorem dX3_lowThen_34 : decode cX3_lowThen 34 = .ok (.iload_n 1, 1) := by decide +kernel
theorem dX3_lowThen_35 : decode cX3_lowThen 35 = .ok (.invokevirtual 68, 3) := by decide +kernel
theorem dX3_lowThen_38 : decode cX3_lowThen 38 = .ok (.iconst 0, 1) := by decide +kernel
theorem dX3_lowThen_39 : decode cX3_lowThen 39 = .ok (.invokestatic 71, 3) := by decide +kernel
theorem dX3_lowThen_42 : decode cX3_lowThen 42 = .ok (.iadd, 1) := by decide +kernel
theorem dX3_lowThen_43 : decode cX3_lowThen 43 = .ok (.istore_n 3, 1) := by decide +kernel
theorem dX3_lowThen_44 : decode cX3_lowThen 44 = .ok (.iinc 4 1, 3) := by decide +kernel
theorem dX3_lowThen_47 : decode cX3_lowThen 47 = .ok (.goto (-37), 3) := by decide +kernel
theorem dX3_lowThen_50 : decode cX3_lowThen 50 = .ok (.iload_n 3, 1) := by decide +kernel
theorem dX3_lowThen_51 : decode cX3_lowThen 51 = .ok (.ireturn, 1) := by decide +kernel
set_option maxRecDepth 20000 in
theorem ggX3_highOf_X3_changeOf : GoodIn wsX3_highOf wsX3_changeOf := goodIn_r _ [11, 12, 13, 14, 15, 16, 17, 18, 19, 20, 21, 22, 23, 24, 25, 26, 27, 28, 29] (by decide +kernel) (by decide +kernel)
set_option maxRecDepth 20000 in
theorem gX3_highOf_X3_changeOf : GoodIn wsX3_highOf (wsV RX3 68 RX3 yX3_changeOf wsX3_changeOf) := goodIn_app (goodIn_of _ (by decide +kernel)) ggX3_highOf_X3_changeOf
theorem dX3_highOf_0 : decode cX3_highOf 0 = .ok (.aload_n 0, 1) := by decide +kernel
theorem dX3_highOf_1 : decode cX3_highOf 1 = .ok (.getfield 25, 3) := by decide +kernel
theorem dX3_highOf_4 : decode cX3_highOf 4 = .ok (.iload_n 1, 1) := by decide +kernel
theorem dX3_highOf_5 : decode cX3_highOf 5 = .ok (.iaload, 1) := by decide +kernel
theorem dX3_highOf_6 : decode cX3_highOf 6 = .ok (.istore_n 2, 1) := by decide +kernel
theorem dX3_highOf_7 : decode cX3_highOf 7 = .ok (.iconst 0, 1) := by decide +kernel
theorem dX3_highOf_8 : decode cX3_highOf 8 = .ok (.istore_n 3, 1) := by decide +kernel
theorem dX3_highOf_9 : decode cX3_highOf 9 = .ok (.iload_n 3, 1) := by decide +kernel
theorem dX3_highOf_10 : decode cX3_highOf 10 = .ok (.aload_n 0, 1) := by decide +kernel
theorem dX3_highOf_11 : decode cX3_highOf 11 = .ok (.getfield 15, 3) := by decide +kernel
theorem dX3_highOf_14 : decode cX3_highOf 14 = .ok (.if_icmp .ge 22, 3) := by decide +kernel
theorem dX3_highOf_17 : decode cX3_highOf 17 = .ok (.iload_n 2, 1) := by decide +kernel
theorem dX3_highOf_18 : decode cX3_highOf 18 = .ok (.aload_n 0, 1) := by decide +kernel
theorem dX3_highOf_19 : decode cX3_highOf 19 = .ok (.iload_n 3, 1) := by decide +kernel
theorem dX3_highOf_20 : decode cX3_highOf 20 = .ok (.iload_n 1, 1) := by decide +kernel
theorem dX3_highOf_21 : decode cX3_highOf 21 = .ok (.invokevirtual 68, 3) := by decide +kernel
theorem dX3_highOf_24 : decode cX3_highOf 24 = .ok (.iconst 0, 1) := by decide +kernel
theorem dX3_highOf_25 : decode cX3_highOf 25 = .ok (.invokestatic 76, 3) := by decide +kernel
theorem dX3_highOf_28 : decode cX3_highOf 28 = .ok (.iadd, 1) := by decide +kernel
theorem dX3_highOf_29 : decode cX3_highOf 29 = .ok (.istore_n 2, 1) := by decide +kernel
theorem dX3_highOf_30 : decode cX3_highOf 30 = .ok (.iinc 3 1, 3) := by decide +kernel
theorem dX3_highOf_33 : decode cX3_highOf 33 = .ok (.goto (-24), 3) := by decide +kernel
theorem dX3_highOf_36 : decode cX3_highOf 36 = .ok (.iload_n 2, 1) := by decide +kernel
theorem dX3_highOf_37 : decode cX3_highOf 37 = .ok (.ireturn, 1) := by decide +kernel
set_option maxRecDepth 20000 in
theorem ggX3_roomBelow_X3_lowThen : GoodIn wsX3_roomBelow wsX3_lowThen := goodIn_r _ [6, 7, 8, 9, 10, 11, 12, 13, 14, 15, 16, 5, 17, 18, 19, 20, 21, 22, 23, 24, 25, 26, 27, 28, 29, 30, 31, 32, 33, 34, 35] (by decide +kernel) (by decide +kernel)
set_option maxRecDepth 20000 in
theorem gX3_roomBelow_X3_lowThen : GoodIn wsX3_roomBelow (wsV RX3 64 RX3 yX3_lowThen wsX3_lowThen) := goodIn_app (goodIn_of _ (by decide +kernel)) ggX3_roomBelow_X3_lowThen
theorem dX3_roomBelow_0 : decode cX3_roomBelow 0 = .ok (.aload_n 0, 1) := by decide +kernel
theorem dX3_roomBelow_1 : decode cX3_roomBelow 1 = .ok (.iload_n 1, 1) := by decide +kernel
theorem dX3_roomBelow_2 : decode cX3_roomBelow 2 = .ok (.iload_n 2, 1) := by decide +kernel
theorem dX3_roomBelow_3 : decode cX3_roomBelow 3 = .ok (.invokevirtual 64, 3) := by decide +kernel
theorem dX3_roomBelow_6 : decode cX3_roomBelow 6 = .ok (.aload_n 0, 1) := by decide +kernel
theorem dX3_roomBelow_7 : decode cX3_roomBelow 7 = .ok (.getfield 28, 3) := by decide +kernel
theorem dX3_roomBelow_10 : decode cX3_roomBelow 10 = .ok (.iload_n 1, 1) := by decide +kernel
theorem dX3_roomBelow_11 : decode cX3_roomBelow 11 = .ok (.iaload, 1) := by decide +kernel
theorem dX3_roomBelow_12 : decode cX3_roomBelow 12 = .ok (.isub, 1) := by decide +kernel
theorem dX3_roomBelow_13 : decode cX3_roomBelow 13 = .ok (.ireturn, 1) := by decide +kernel
set_option maxRecDepth 20000 in
theorem ggX3_roomAbove_X3_highOf : GoodIn wsX3_roomAbove wsX3_highOf := goodIn_r _ [6, 7, 8, 9, 10, 11, 12, 13, 14, 15, 5, 16, 17, 18, 19, 20, 21, 22, 23, 24, 25, 26, 27, 28, 29, 30, 31, 32, 33, 34] (by decide +kernel) (by decide +kernel)
set_option maxRecDepth 20000 in
theorem gX3_roomAbove_X3_highOf : GoodIn wsX3_roomAbove (wsV RX3 79 RX3 yX3_highOf wsX3_highOf) := goodIn_app (goodIn_of _ (by decide +kernel)) ggX3_roomAbove_X3_highOf
theorem dX3_roomAbove_0 : decode cX3_roomAbove 0 = .ok (.aload_n 0, 1) := by decide +kernel
theorem dX3_roomAbove_1 : decode cX3_roomAbove 1 = .ok (.getfield 31, 3) := by decide +kernel
theorem dX3_roomAbove_4 : decode cX3_roomAbove 4 = .ok (.iload_n 1, 1) := by decide +kernel
theorem dX3_roomAbove_5 : decode cX3_roomAbove 5 = .ok (.iaload, 1) := by decide +kernel
theorem dX3_roomAbove_6 : decode cX3_roomAbove 6 = .ok (.aload_n 0, 1) := by decide +kernel
theorem dX3_roomAbove_7 : decode cX3_roomAbove 7 = .ok (.iload_n 1, 1) := by decide +kernel
theorem dX3_roomAbove_8 : decode cX3_roomAbove 8 = .ok (.invokevirtual 79, 3) := by decide +kernel
theorem dX3_roomAbove_11 : decode cX3_roomAbove 11 = .ok (.isub, 1) := by decide +kernel
theorem dX3_roomAbove_12 : decode cX3_roomAbove 12 = .ok (.ireturn, 1) := by decide +kernel
set_option maxRecDepth 20000 in
theorem ggX3_promisesChanging_X3_changeOf : GoodIn wsX3_promisesChanging wsX3_changeOf := goodIn_r _ [6, 7, 8, 9, 10, 11, 12, 13, 14, 15, 16, 17, 18, 19, 20, 21, 22, 23, 24] (by decide +kernel) (by decide +kernel)
set_option maxRecDepth 20000 in
theorem gX3_promisesChanging_X3_changeOf : GoodIn wsX3_promisesChanging (wsV RX3 68 RX3 yX3_changeOf wsX3_changeOf) := goodIn_app (goodIn_of _ (by decide +kernel)) ggX3_promisesChanging_X3_changeOf
theorem dX3_promisesChanging_0 : decode cX3_promisesChanging 0 = .ok (.iconst 0, 1) := by decide +kernel
theorem dX3_promisesChanging_1 : decode cX3_promisesChanging 1 = .ok (.istore_n 2, 1) := by decide +kernel
theorem dX3_promisesChanging_2 : decode cX3_promisesChanging 2 = .ok (.iconst 0, 1) := by decide +kernel
theorem dX3_promisesChanging_3 : decode cX3_promisesChanging 3 = .ok (.istore_n 3, 1) := by decide +kernel
theorem dX3_promisesChanging_4 : decode cX3_promisesChanging 4 = .ok (.iload_n 3, 1) := by decide +kernel
theorem dX3_promisesChanging_5 : decode cX3_promisesChanging 5 = .ok (.aload_n 0, 1) := by decide +kernel
theorem dX3_promisesChanging_6 : decode cX3_promisesChanging 6 = .ok (.getfield 15, 3) := by decide +kernel
theorem dX3_promisesChanging_9 : decode cX3_promisesChanging 9 = .ok (.if_icmp .ge 21, 3) := by decide +kernel
theorem dX3_promisesChanging_12 : decode cX3_promisesChanging 12 = .ok (.aload_n 0, 1) := by decide +kernel
theorem dX3_promisesChanging_13 : decode cX3_promisesChanging 13 = .ok (.iload_n 3, 1) := by decide +kernel
theorem dX3_promisesChanging_14 : decode cX3_promisesChanging 14 = .ok (.iload_n 1, 1) := by decide +kernel
theorem dX3_promisesChanging_15 : decode cX3_promisesChanging 15 = .ok (.invokevirtual 68, 3) := by decide +kernel
theorem dX3_promisesChanging_18 : decode cX3_promisesChanging 18 = .ok (.ifCond .eq 6, 3) := by decide +kernel
theorem dX3_promisesChanging_21 : decode cX3_promisesChanging 21 = .ok (.iinc 2 1, 3) := by decide +kernel
theorem dX3_promisesChanging_24 : decode cX3_promisesChanging 24 = .ok (.iinc 3 1, 3) := by decide +kernel
theorem dX3_promisesChanging_27 : decode cX3_promisesChanging 27 = .ok (.goto (-23), 3) := by decide +kernel
theorem dX3_promisesChanging_30 : decode cX3_promisesChanging 30 = .ok (.iload_n 2, 1) := by decide +kernel
theorem dX3_promisesChanging_31 : decode cX3_promisesChanging 31 = .ok (.ireturn, 1) := by decide +kernel
set_option maxRecDepth 20000 in
theorem ggX3_sumOfChanges_X3_changeOf : GoodIn wsX3_sumOfChanges wsX3_changeOf := goodIn_r _ [6, 7, 8, 9, 10, 11, 12, 13, 14, 15, 16, 17, 18, 19, 20, 21, 22, 23, 24] (by decide +kernel) (by decide +kernel)
set_option maxRecDepth 20000 in
theorem gX3_sumOfChanges_X3_changeOf : GoodIn wsX3_sumOfChanges (wsV RX3 68 RX3 yX3_changeOf wsX3_changeOf) := goodIn_app (goodIn_of _ (by decide +kernel)) ggX3_sumOfChanges_X3_changeOf
theorem dX3_sumOfChanges_0 : decode cX3_sumOfChanges 0 = .ok (.iconst 0, 1) := by decide +kernel
theorem dX3_sumOfChanges_1 : decode cX3_sumOfChanges 1 = .ok (.istore_n 2, 1) := by decide +kernel
theorem dX3_sumOfChanges_2 : decode cX3_sumOfChanges 2 = .ok (.iconst 0, 1) := by decide +kernel
theorem dX3_sumOfChanges_3 : decode cX3_sumOfChanges 3 = .ok (.istore_n 3, 1) := by decide +kernel
theorem dX3_sumOfChanges_4 : decode cX3_sumOfChanges 4 = .ok (.iload_n 3, 1) := by decide +kernel
theorem dX3_sumOfChanges_5 : decode cX3_sumOfChanges 5 = .ok (.aload_n 0, 1) := by decide +kernel
theorem dX3_sumOfChanges_6 : decode cX3_sumOfChanges 6 = .ok (.getfield 15, 3) := by decide +kernel
theorem dX3_sumOfChanges_9 : decode cX3_sumOfChanges 9 = .ok (.if_icmp .ge 18, 3) := by decide +kernel
theorem dX3_sumOfChanges_12 : decode cX3_sumOfChanges 12 = .ok (.iload_n 2, 1) := by decide +kernel
theorem dX3_sumOfChanges_13 : decode cX3_sumOfChanges 13 = .ok (.aload_n 0, 1) := by decide +kernel
theorem dX3_sumOfChanges_14 : decode cX3_sumOfChanges 14 = .ok (.iload_n 3, 1) := by decide +kernel
theorem dX3_sumOfChanges_15 : decode cX3_sumOfChanges 15 = .ok (.iload_n 1, 1) := by decide +kernel
theorem dX3_sumOfChanges_16 : decode cX3_sumOfChanges 16 = .ok (.invokevirtual 68, 3) := by decide +kernel
theorem dX3_sumOfChanges_19 : decode cX3_sumOfChanges 19 = .ok (.iadd, 1) := by decide +kernel
theorem dX3_sumOfChanges_20 : decode cX3_sumOfChanges 20 = .ok (.istore_n 2, 1) := by decide +kernel
theorem dX3_sumOfChanges_21 : decode cX3_sumOfChanges 21 = .ok (.iinc 3 1, 3) := by decide +kernel
theorem dX3_sumOfChanges_24 : decode cX3_sumOfChanges 24 = .ok (.goto (-20), 3) := by decide +kernel
theorem dX3_sumOfChanges_27 : decode cX3_sumOfChanges 27 = .ok (.iload_n 2, 1) := by decide +kernel
theorem dX3_sumOfChanges_28 : decode cX3_sumOfChanges 28 = .ok (.ireturn, 1) := by decide +kernel
theorem dX3_promisesOf_0 : decode cX3_promisesOf 0 = .ok (.iconst 0, 1) := by decide +kernel
theorem dX3_promisesOf_1 : decode cX3_promisesOf 1 = .ok (.istore_n 2, 1) := by decide +kernel
theorem dX3_promisesOf_2 : decode cX3_promisesOf 2 = .ok (.iconst 0, 1) := by decide +kernel
theorem dX3_promisesOf_3 : decode cX3_promisesOf 3 = .ok (.istore_n 3, 1) := by decide +kernel
theorem dX3_promisesOf_4 : decode cX3_promisesOf 4 = .ok (.iload_n 3, 1) := by decide +kernel
theorem dX3_promisesOf_5 : decode cX3_promisesOf 5 = .ok (.aload_n 0, 1) := by decide +kernel
theorem dX3_promisesOf_6 : decode cX3_promisesOf 6 = .ok (.getfield 15, 3) := by decide +kernel
theorem dX3_promisesOf_9 : decode cX3_promisesOf 9 = .ok (.if_icmp .ge 22, 3) := by decide +kernel
theorem dX3_promisesOf_12 : decode cX3_promisesOf 12 = .ok (.aload_n 0, 1) := by decide +kernel
theorem dX3_promisesOf_13 : decode cX3_promisesOf 13 = .ok (.getfield 34, 3) := by decide +kernel
theorem dX3_promisesOf_16 : decode cX3_promisesOf 16 = .ok (.iload_n 3, 1) := by decide +kernel
