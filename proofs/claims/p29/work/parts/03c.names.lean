theorem dX2_dropOldest_1 : decode cX2_dropOldest 1 = .ok (.getfield 12, 3) := by decide +kernel
theorem dX2_dropOldest_4 : decode cX2_dropOldest 4 = .ok (.iconst 0, 1) := by decide +kernel
theorem dX2_dropOldest_5 : decode cX2_dropOldest 5 = .ok (.aaload, 1) := by decide +kernel
theorem dX2_dropOldest_6 : decode cX2_dropOldest 6 = .ok (.astore_n 1, 1) := by decide +kernel
theorem dX2_dropOldest_7 : decode cX2_dropOldest 7 = .ok (.iconst 1, 1) := by decide +kernel
theorem dX2_dropOldest_8 : decode cX2_dropOldest 8 = .ok (.istore_n 2, 1) := by decide +kernel
theorem dX2_dropOldest_9 : decode cX2_dropOldest 9 = .ok (.iload_n 2, 1) := by decide +kernel
theorem dX2_dropOldest_10 : decode cX2_dropOldest 10 = .ok (.bipush 6, 2) := by decide +kernel
theorem dX2_dropOldest_12 : decode cX2_dropOldest 12 = .ok (.if_icmp .ge 23, 3) := by decide +kernel
theorem dX2_dropOldest_15 : decode cX2_dropOldest 15 = .ok (.aload_n 0, 1) := by decide +kernel
theorem dX2_dropOldest_16 : decode cX2_dropOldest 16 = .ok (.getfield 12, 3) := by decide +kernel
theorem dX2_dropOldest_19 : decode cX2_dropOldest 19 = .ok (.iload_n 2, 1) := by decide +kernel
theorem dX2_dropOldest_20 : decode cX2_dropOldest 20 = .ok (.iconst 1, 1) := by decide +kernel
theorem dX2_dropOldest_21 : decode cX2_dropOldest 21 = .ok (.isub, 1) := by decide +kernel
theorem dX2_dropOldest_22 : decode cX2_dropOldest 22 = .ok (.aload_n 0, 1) := by decide +kernel
theorem dX2_dropOldest_23 : decode cX2_dropOldest 23 = .ok (.getfield 12, 3) := by decide +kernel
theorem dX2_dropOldest_26 : decode cX2_dropOldest 26 = .ok (.iload_n 2, 1) := by decide +kernel
theorem dX2_dropOldest_27 : decode cX2_dropOldest 27 = .ok (.aaload, 1) := by decide +kernel
theorem dX2_dropOldest_28 : decode cX2_dropOldest 28 = .ok (.aastore, 1) := by decide +kernel
theorem dX2_dropOldest_29 : decode cX2_dropOldest 29 = .ok (.iinc 2 1, 3) := by decide +kernel
theorem dX2_dropOldest_32 : decode cX2_dropOldest 32 = .ok (.goto (-23), 3) := by decide +kernel
theorem dX2_dropOldest_35 : decode cX2_dropOldest 35 = .ok (.aload_n 0, 1) := by decide +kernel
theorem dX2_dropOldest_36 : decode cX2_dropOldest 36 = .ok (.getfield 12, 3) := by decide +kernel
theorem dX2_dropOldest_39 : decode cX2_dropOldest 39 = .ok (.iconst 5, 1) := by decide +kernel
theorem dX2_dropOldest_40 : decode cX2_dropOldest 40 = .ok (.aload_n 1, 1) := by decide +kernel
theorem dX2_dropOldest_41 : decode cX2_dropOldest 41 = .ok (.aastore, 1) := by decide +kernel
theorem dX2_dropOldest_42 : decode cX2_dropOldest 42 = .ok (.aload_n 0, 1) := by decide +kernel
theorem dX2_dropOldest_43 : decode cX2_dropOldest 43 = .ok (.dup, 1) := by decide +kernel
theorem dX2_dropOldest_44 : decode cX2_dropOldest 44 = .ok (.getfield 18, 3) := by decide +kernel
theorem dX2_dropOldest_47 : decode cX2_dropOldest 47 = .ok (.iconst 1, 1) := by decide +kernel
theorem dX2_dropOldest_48 : decode cX2_dropOldest 48 = .ok (.isub, 1) := by decide +kernel
theorem dX2_dropOldest_49 : decode cX2_dropOldest 49 = .ok (.putfield 18, 3) := by decide +kernel
theorem dX2_dropOldest_52 : decode cX2_dropOldest 52 = .ok (.return_, 1) := by decide +kernel
set_option maxRecDepth 20000 in
theorem ggX2_restoreInto_X3_copyFrom : GoodIn wsX2_restoreInto wsX3_copyFrom := goodIn_r _ [7, 8, 9, 10, 11, 12, 13, 14, 15, 16, 17, 18, 19, 20, 21, 22, 23, 24, 25, 26, 29, 30, 31, 32, 33, 34, 35, 36, 37, 38, 39, 40, 41, 42, 43] (by decide +kernel) (by decide +kernel)
set_option maxRecDepth 20000 in
theorem gX2_restoreInto_X3_copyFrom : GoodIn wsX2_restoreInto (wsV RX2 25 RX3 yX3_copyFrom wsX3_copyFrom) := goodIn_app (goodIn_of _ (by decide +kernel)) ggX2_restoreInto_X3_copyFrom
theorem dX2_restoreInto_0 : decode cX2_restoreInto 0 = .ok (.aload_n 0, 1) := by decide +kernel
theorem dX2_restoreInto_1 : decode cX2_restoreInto 1 = .ok (.getfield 18, 3) := by decide +kernel
theorem dX2_restoreInto_4 : decode cX2_restoreInto 4 = .ok (.ifCond .le 26, 3) := by decide +kernel
theorem dX2_restoreInto_7 : decode cX2_restoreInto 7 = .ok (.aload_n 0, 1) := by decide +kernel
theorem dX2_restoreInto_8 : decode cX2_restoreInto 8 = .ok (.dup, 1) := by decide +kernel
theorem dX2_restoreInto_9 : decode cX2_restoreInto 9 = .ok (.getfield 18, 3) := by decide +kernel
theorem dX2_restoreInto_12 : decode cX2_restoreInto 12 = .ok (.iconst 1, 1) := by decide +kernel
theorem dX2_restoreInto_13 : decode cX2_restoreInto 13 = .ok (.isub, 1) := by decide +kernel
theorem dX2_restoreInto_14 : decode cX2_restoreInto 14 = .ok (.putfield 18, 3) := by decide +kernel
theorem dX2_restoreInto_17 : decode cX2_restoreInto 17 = .ok (.aload_n 1, 1) := by decide +kernel
theorem dX2_restoreInto_18 : decode cX2_restoreInto 18 = .ok (.aload_n 0, 1) := by decide +kernel
theorem dX2_restoreInto_19 : decode cX2_restoreInto 19 = .ok (.getfield 12, 3) := by decide +kernel
theorem dX2_restoreInto_22 : decode cX2_restoreInto 22 = .ok (.aload_n 0, 1) := by decide +kernel
theorem dX2_restoreInto_23 : decode cX2_restoreInto 23 = .ok (.getfield 18, 3) := by decide +kernel
theorem dX2_restoreInto_26 : decode cX2_restoreInto 26 = .ok (.aaload, 1) := by decide +kernel
theorem dX2_restoreInto_27 : decode cX2_restoreInto 27 = .ok (.invokevirtual 25, 3) := by decide +kernel
theorem dX2_restoreInto_30 : decode cX2_restoreInto 30 = .ok (.return_, 1) := by decide +kernel
theorem dX3_init_0 : decode cX3_init 0 = .ok (.aload_n 0, 1) := by decide +kernel
theorem dX3_init_1 : decode cX3_init 1 = .ok (.invokespecial 3, 3) := by decide +kernel
theorem dX3_init_4 : decode cX3_init 4 = .ok (.aload_n 0, 1) := by decide +kernel
theorem dX3_init_5 : decode cX3_init 5 = .ok (.iconst 0, 1) := by decide +kernel
theorem dX3_init_6 : decode cX3_init 6 = .ok (.putfield 9, 3) := by decide +kernel
theorem dX3_init_9 : decode cX3_init 9 = .ok (.aload_n 0, 1) := by decide +kernel
theorem dX3_init_10 : decode cX3_init 10 = .ok (.iconst 0, 1) := by decide +kernel
theorem dX3_init_11 : decode cX3_init 11 = .ok (.putfield 15, 3) := by decide +kernel
theorem dX3_init_14 : decode cX3_init 14 = .ok (.aload_n 0, 1) := by decide +kernel
theorem dX3_init_15 : decode cX3_init 15 = .ok (.iconst 0, 1) := by decide +kernel
theorem dX3_init_16 : decode cX3_init 16 = .ok (.putfield 18, 3) := by decide +kernel
theorem dX3_init_19 : decode cX3_init 19 = .ok (.aload_n 0, 1) := by decide +kernel
theorem dX3_init_20 : decode cX3_init 20 = .ok (.iconst 2, 1) := by decide +kernel
theorem dX3_init_21 : decode cX3_init 21 = .ok (.newarray .int, 2) := by decide +kernel
theorem dX3_init_23 : decode cX3_init 23 = .ok (.dup, 1) := by decide +kernel
theorem dX3_init_24 : decode cX3_init 24 = .ok (.iconst 0, 1) := by decide +kernel
theorem dX3_init_25 : decode cX3_init 25 = .ok (.bipush 6, 2) := by decide +kernel
theorem dX3_init_27 : decode cX3_init 27 = .ok (.iastore, 1) := by decide +kernel
theorem dX3_init_28 : decode cX3_init 28 = .ok (.dup, 1) := by decide +kernel
theorem dX3_init_29 : decode cX3_init 29 = .ok (.iconst 1, 1) := by decide +kernel
theorem dX3_init_30 : decode cX3_init 30 = .ok (.bipush 10, 2) := by decide +kernel
theorem dX3_init_32 : decode cX3_init 32 = .ok (.iastore, 1) := by decide +kernel
theorem dX3_init_33 : decode cX3_init 33 = .ok (.putfield 21, 3) := by decide +kernel
theorem dX3_init_36 : decode cX3_init 36 = .ok (.aload_n 0, 1) := by decide +kernel
theorem dX3_init_37 : decode cX3_init 37 = .ok (.iconst 4, 1) := by decide +kernel
theorem dX3_init_38 : decode cX3_init 38 = .ok (.newarray .int, 2) := by decide +kernel
theorem dX3_init_40 : decode cX3_init 40 = .ok (.putfield 25, 3) := by decide +kernel
theorem dX3_init_43 : decode cX3_init 43 = .ok (.aload_n 0, 1) := by decide +kernel
theorem dX3_init_44 : decode cX3_init 44 = .ok (.iconst 4, 1) := by decide +kernel
theorem dX3_init_45 : decode cX3_init 45 = .ok (.newarray .int, 2) := by decide +kernel
theorem dX3_init_47 : decode cX3_init 47 = .ok (.putfield 28, 3) := by decide +kernel
theorem dX3_init_50 : decode cX3_init 50 = .ok (.aload_n 0, 1) := by decide +kernel
theorem dX3_init_51 : decode cX3_init 51 = .ok (.iconst 4, 1) := by decide +kernel
theorem dX3_init_52 : decode cX3_init 52 = .ok (.newarray .int, 2) := by decide +kernel
theorem dX3_init_54 : decode cX3_init 54 = .ok (.dup, 1) := by decide +kernel
theorem dX3_init_55 : decode cX3_init 55 = .ok (.iconst 0, 1) := by decide +kernel
theorem dX3_init_56 : decode cX3_init 56 = .ok (.bipush 100, 2) := by decide +kernel
theorem dX3_init_58 : decode cX3_init 58 = .ok (.iastore, 1) := by decide +kernel
theorem dX3_init_59 : decode cX3_init 59 = .ok (.dup, 1) := by decide +kernel
theorem dX3_init_60 : decode cX3_init 60 = .ok (.iconst 1, 1) := by decide +kernel
theorem dX3_init_61 : decode cX3_init 61 = .ok (.bipush 100, 2) := by decide +kernel
theorem dX3_init_63 : decode cX3_init 63 = .ok (.iastore, 1) := by decide +kernel
theorem dX3_init_64 : decode cX3_init 64 = .ok (.dup, 1) := by decide +kernel
theorem dX3_init_65 : decode cX3_init 65 = .ok (.iconst 2, 1) := by decide +kernel
theorem dX3_init_66 : decode cX3_init 66 = .ok (.bipush 100, 2) := by decide +kernel
theorem dX3_init_68 : decode cX3_init 68 = .ok (.iastore, 1) := by decide +kernel
theorem dX3_init_69 : decode cX3_init 69 = .ok (.dup, 1) := by decide +kernel
theorem dX3_init_70 : decode cX3_init 70 = .ok (.iconst 3, 1) := by decide +kernel
theorem dX3_init_71 : decode cX3_init 71 = .ok (.bipush 100, 2) := by decide +kernel
theorem dX3_init_73 : decode cX3_init 73 = .ok (.iastore, 1) := by decide +kernel
theorem dX3_init_74 : decode cX3_init 74 = .ok (.putfield 31, 3) := by decide +kernel
theorem dX3_init_77 : decode cX3_init 77 = .ok (.aload_n 0, 1) := by decide +kernel
theorem dX3_init_78 : decode cX3_init 78 = .ok (.bipush 16, 2) := by decide +kernel
theorem dX3_init_80 : decode cX3_init 80 = .ok (.newarray .int, 2) := by decide +kernel
theorem dX3_init_82 : decode cX3_init 82 = .ok (.putfield 34, 3) := by decide +kernel
theorem dX3_init_85 : decode cX3_init 85 = .ok (.aload_n 0, 1) := by decide +kernel
theorem dX3_init_86 : decode cX3_init 86 = .ok (.bipush 16, 2) := by decide +kernel
theorem dX3_init_88 : decode cX3_init 88 = .ok (.newarray .int, 2) := by decide +kernel
theorem dX3_init_90 : decode cX3_init 90 = .ok (.putfield 37, 3) := by decide +kernel
theorem dX3_init_93 : decode cX3_init 93 = .ok (.aload_n 0, 1) := by decide +kernel
theorem dX3_init_94 : decode cX3_init 94 = .ok (.bipush 16, 2) := by decide +kernel
theorem dX3_init_96 : decode cX3_init 96 = .ok (.newarray .int, 2) := by decide +kernel
theorem dX3_init_98 : decode cX3_init 98 = .ok (.putfield 40, 3) := by decide +kernel
theorem dX3_init_101 : decode cX3_init 101 = .ok (.aload_n 0, 1) := by decide +kernel
theorem dX3_init_102 : decode cX3_init 102 = .ok (.bipush 16, 2) := by decide +kernel
theorem dX3_init_104 : decode cX3_init 104 = .ok (.newarray .int, 2) := by decide +kernel
theorem dX3_init_106 : decode cX3_init 106 = .ok (.putfield 43, 3) := by decide +kernel
theorem dX3_init_109 : decode cX3_init 109 = .ok (.aload_n 0, 1) := by decide +kernel
theorem dX3_init_110 : decode cX3_init 110 = .ok (.bipush 16, 2) := by decide +kernel
theorem dX3_init_112 : decode cX3_init 112 = .ok (.newarray .int, 2) := by decide +kernel
theorem dX3_init_114 : decode cX3_init 114 = .ok (.putfield 46, 3) := by decide +kernel
theorem dX3_init_117 : decode cX3_init 117 = .ok (.aload_n 0, 1) := by decide +kernel
theorem dX3_init_118 : decode cX3_init 118 = .ok (.bipush 6, 2) := by decide +kernel
theorem dX3_init_120 : decode cX3_init 120 = .ok (.newarray .int, 2) := by decide +kernel
theorem dX3_init_122 : decode cX3_init 122 = .ok (.putfield 49, 3) := by decide +kernel
theorem dX3_init_125 : decode cX3_init 125 = .ok (.aload_n 0, 1) := by decide +kernel
theorem dX3_init_126 : decode cX3_init 126 = .ok (.bipush 6, 2) := by decide +kernel
theorem dX3_init_128 : decode cX3_init 128 = .ok (.newarray .int, 2) := by decide +kernel
theorem dX3_init_130 : decode cX3_init 130 = .ok (.putfield 52, 3) := by decide +kernel
theorem dX3_init_133 : decode cX3_init 133 = .ok (.aload_n 0, 1) := by decide +kernel
theorem dX3_init_134 : decode cX3_init 134 = .ok (.bipush 6, 2) := by decide +kernel
theorem dX3_init_136 : decode cX3_init 136 = .ok (.newarray .int, 2) := by decide +kernel
theorem dX3_init_138 : decode cX3_init 138 = .ok (.putfield 55, 3) := by decide +kernel
theorem dX3_init_141 : decode cX3_init 141 = .ok (.return_, 1) := by decide +kernel
theorem dX3_copyFrom_0 : decode cX3_copyFrom 0 = .ok (.aload_n 0, 1) := by decide +kernel
theorem dX3_copyFrom_1 : decode cX3_copyFrom 1 = .ok (.aload_n 1, 1) := by decide +kernel
theorem dX3_copyFrom_2 : decode cX3_copyFrom 2 = .ok (.getfield 9, 3) := by decide +kernel
theorem dX3_copyFrom_5 : decode cX3_copyFrom 5 = .ok (.putfield 9, 3) := by decide +kernel
theorem dX3_copyFrom_8 : decode cX3_copyFrom 8 = .ok (.aload_n 0, 1) := by decide +kernel
theorem dX3_copyFrom_9 : decode cX3_copyFrom 9 = .ok (.aload_n 1, 1) := by decide +kernel
theorem dX3_copyFrom_10 : decode cX3_copyFrom 10 = .ok (.getfield 15, 3) := by decide +kernel
theorem dX3_copyFrom_13 : decode cX3_copyFrom 13 = .ok (.putfield 15, 3) := by decide +kernel
theorem dX3_copyFrom_16 : decode cX3_copyFrom 16 = .ok (.aload_n 0, 1) := by decide +kernel
theorem dX3_copyFrom_17 : decode cX3_copyFrom 17 = .ok (.aload_n 1, 1) := by decide +kernel
theorem dX3_copyFrom_18 : decode cX3_copyFrom 18 = .ok (.getfield 18, 3) := by decide +kernel
theorem dX3_copyFrom_21 : decode cX3_copyFrom 21 = .ok (.putfield 18, 3) := by decide +kernel
theorem dX3_copyFrom_24 : decode cX3_copyFrom 24 = .ok (.aload_n 1, 1) := by decide +kernel
theorem dX3_copyFrom_25 : decode cX3_copyFrom 25 = .ok (.getfield 21, 3) := by decide +kernel
theorem dX3_copyFrom_28 : decode cX3_copyFrom 28 = .ok (.iconst 0, 1) := by decide +kernel
theorem dX3_copyFrom_29 : decode cX3_copyFrom 29 = .ok (.aload_n 0, 1) := by decide +kernel
theorem dX3_copyFrom_30 : decode cX3_copyFrom 30 = .ok (.getfield 21, 3) := by decide +kernel
theorem dX3_copyFrom_33 : decode cX3_copyFrom 33 = .ok (.iconst 0, 1) := by decide +kernel
theorem dX3_copyFrom_34 : decode cX3_copyFrom 34 = .ok (.iconst 2, 1) := by decide +kernel
theorem dX3_copyFrom_35 : decode cX3_copyFrom 35 = .ok (.invokestatic 58, 3) := by decide +kernel
theorem dX3_copyFrom_38 : decode cX3_copyFrom 38 = .ok (.aload_n 1, 1) := by decide +kernel
theorem dX3_copyFrom_39 : decode cX3_copyFrom 39 = .ok (.getfield 25, 3) := by decide +kernel
theorem dX3_copyFrom_42 : decode cX3_copyFrom 42 = .ok (.iconst 0, 1) := by decide +kernel
theorem dX3_copyFrom_43 : decode cX3_copyFrom 43 = .ok (.aload_n 0, 1) := by decide +kernel
theorem dX3_copyFrom_44 : decode cX3_copyFrom 44 = .ok (.getfield 25, 3) := by decide +kernel
theorem dX3_copyFrom_47 : decode cX3_copyFrom 47 = .ok (.iconst 0, 1) := by decide +kernel
theorem dX3_copyFrom_48 : decode cX3_copyFrom 48 = .ok (.iconst 4, 1) := by decide +kernel
theorem dX3_copyFrom_49 : decode cX3_copyFrom 49 = .ok (.invokestatic 58, 3) := by decide +kernel
theorem dX3_copyFrom_52 : decode cX3_copyFrom 52 = .ok (.aload_n 1, 1) := by decide +kernel
theorem dX3_copyFrom_53 : decode cX3_copyFrom 53 = .ok (.getfield 28, 3) := by decide +kernel
theorem dX3_copyFrom_56 : decode cX3_copyFrom 56 = .ok (.iconst 0, 1) := by decide +kernel
theorem dX3_copyFrom_57 : decode cX3_copyFrom 57 = .ok (.aload_n 0, 1) := by decide +kernel
theorem dX3_copyFrom_58 : decode cX3_copyFrom 58 = .ok (.getfield 28, 3) := by decide +kernel
theorem dX3_copyFrom_61 : decode cX3_copyFrom 61 = .ok (.iconst 0, 1) := by decide +kernel
theorem dX3_copyFrom_62 : decode cX3_copyFrom 62 = .ok (.iconst 4, 1) := by decide +kernel
theorem dX3_copyFrom_63 : decode cX3_copyFrom 63 = .ok (.invokestatic 58, 3) := by decide +kernel
theorem dX3_copyFrom_66 : decode cX3_copyFrom 66 = .ok (.aload_n 1, 1) := by decide +kernel
theorem dX3_copyFrom_67 : decode cX3_copyFrom 67 = .ok (.getfield 31, 3) := by decide +kernel
theorem dX3_copyFrom_70 : decode cX3_copyFrom 70 = .ok (.iconst 0, 1) := by decide +kernel
theorem dX3_copyFrom_71 : decode cX3_copyFrom 71 = .ok (.aload_n 0, 1) := by decide +kernel
theorem dX3_copyFrom_72 : decode cX3_copyFrom 72 = .ok (.getfield 31, 3) := by decide +kernel
theorem dX3_copyFrom_75 : decode cX3_copyFrom 75 = .ok (.iconst 0, 1) := by decide +kernel
theorem dX3_copyFrom_76 : decode cX3_copyFrom 76 = .ok (.iconst 4, 1) := by decide +kernel
theorem dX3_copyFrom_77 : decode cX3_copyFrom 77 = .ok (.invokestatic 58, 3) := by decide +kernel
theorem dX3_copyFrom_80 : decode cX3_copyFrom 80 = .ok (.aload_n 1, 1) := by decide +kernel
theorem dX3_copyFrom_81 : decode cX3_copyFrom 81 = .ok (.getfield 34, 3) := by decide +kernel
theorem dX3_copyFrom_84 : decode cX3_copyFrom 84 = .ok (.iconst 0, 1) := by decide +kernel
theorem dX3_copyFrom_85 : decode cX3_copyFrom 85 = .ok (.aload_n 0, 1) := by decide +kernel
theorem dX3_copyFrom_86 : decode cX3_copyFrom 86 = .ok (.getfield 34, 3) := by decide +kernel
theorem dX3_copyFrom_89 : decode cX3_copyFrom 89 = .ok (.iconst 0, 1) := by decide +kernel
theorem dX3_copyFrom_90 : decode cX3_copyFrom 90 = .ok (.bipush 16, 2) := by decide +kernel
theorem dX3_copyFrom_92 : decode cX3_copyFrom 92 = .ok (.invokestatic 58, 3) := by decide +kernel
theorem dX3_copyFrom_95 : decode cX3_copyFrom 95 = .ok (.aload_n 1, 1) := by decide +kernel
theorem dX3_copyFrom_96 : decode cX3_copyFrom 96 = .ok (.getfield 37, 3) := by decide +kernel
theorem dX3_copyFrom_99 : decode cX3_copyFrom 99 = .ok (.iconst 0, 1) := by decide +kernel
theorem dX3_copyFrom_100 : decode cX3_copyFrom 100 = .ok (.aload_n 0, 1) := by decide +kernel
theorem dX3_copyFrom_101 : decode cX3_copyFrom 101 = .ok (.getfield 37, 3) := by decide +kernel
theorem dX3_copyFrom_104 : decode cX3_copyFrom 104 = .ok (.iconst 0, 1) := by decide +kernel
theorem dX3_copyFrom_105 : decode cX3_copyFrom 105 = .ok (.bipush 16, 2) := by decide +kernel
theorem dX3_copyFrom_107 : decode cX3_copyFrom 107 = .ok (.invokestatic 58, 3) := by decide +kernel
theorem dX3_copyFrom_110 : decode cX3_copyFrom 110 = .ok (.aload_n 1, 1) := by decide +kernel
theorem dX3_copyFrom_111 : decode cX3_copyFrom 111 = .ok (.getfield 40, 3) := by decide +kernel
theorem dX3_copyFrom_114 : decode cX3_copyFrom 114 = .ok (.iconst 0, 1) := by decide +kernel
theorem dX3_copyFrom_115 : decode cX3_copyFrom 115 = .ok (.aload_n 0, 1) := by decide +kernel
theorem dX3_copyFrom_116 : decode cX3_copyFrom 116 = .ok (.getfield 40, 3) := by decide +kernel
theorem dX3_copyFrom_119 : decode cX3_copyFrom 119 = .ok (.iconst 0, 1) := by decide +kernel
theorem dX3_copyFrom_120 : decode cX3_copyFrom 120 = .ok (.bipush 16, 2) := by decide +kernel
theorem dX3_copyFrom_122 : decode cX3_copyFrom 122 = .ok (.invokestatic 58, 3) := by decide +kernel
theorem dX3_copyFrom_125 : decode cX3_copyFrom 125 = .ok (.aload_n 1, 1) := by decide +kernel
theorem dX3_copyFrom_126 : decode cX3_copyFrom 126 = .ok (.getfield 43, 3) := by decide +kernel
theorem dX3_copyFrom_129 : decode cX3_copyFrom 129 = .ok (.iconst 0, 1) := by decide +kernel
theorem dX3_copyFrom_130 : decode cX3_copyFrom 130 = .ok (.aload_n 0, 1) := by decide +kernel
theorem dX3_copyFrom_131 : decode cX3_copyFrom 131 = .ok (.getfield 43, 3) := by decide +kernel
theorem dX3_copyFrom_134 : decode cX3_copyFrom 134 = .ok (.iconst 0, 1) := by decide +kernel
theorem dX3_copyFrom_135 : decode cX3_copyFrom 135 = .ok (.bipush 16, 2) := by decide +kernel
theorem dX3_copyFrom_137 : decode cX3_copyFrom 137 = .ok (.invokestatic 58, 3) := by decide +kernel
theorem dX3_copyFrom_140 : decode cX3_copyFrom 140 = .ok (.aload_n 1, 1) := by decide +kernel
theorem dX3_copyFrom_141 : decode cX3_copyFrom 141 = .ok (.getfield 46, 3) := by decide +kernel
theorem dX3_copyFrom_144 : decode cX3_copyFrom 144 = .ok (.iconst 0, 1) := by decide +kernel
theorem dX3_copyFrom_145 : decode cX3_copyFrom 145 = .ok (.aload_n 0, 1) := by decide +kernel
theorem dX3_copyFrom_146 : decode cX3_copyFrom 146 = .ok (.getfield 46, 3) := by decide +kernel
theorem dX3_copyFrom_149 : decode cX3_copyFrom 149 = .ok (.iconst 0, 1) := by decide +kernel
theorem dX3_copyFrom_150 : decode cX3_copyFrom 150 = .ok (.bipush 16, 2) := by decide +kernel
theorem dX3_copyFrom_152 : decode cX3_copyFrom 152 = .ok (.invokestatic 58, 3) := by decide +kernel
theorem dX3_copyFrom_155 : decode cX3_copyFrom 155 = .ok (.aload_n 1, 1) := by decide +kernel
theorem dX3_copyFrom_156 : decode cX3_copyFrom 156 = .ok (.getfield 49, 3) := by decide +kernel
theorem dX3_copyFrom_159 : decode cX3_copyFrom 159 = .ok (.iconst 0, 1) := by decide +kernel
theorem dX3_copyFrom_160 : decode cX3_copyFrom 160 = .ok (.aload_n 0, 1) := by decide +kernel
theorem dX3_copyFrom_161 : decode cX3_copyFrom 161 = .ok (.getfield 49, 3) := by decide +kernel
theorem dX3_copyFrom_164 : decode cX3_copyFrom 164 = .ok (.iconst 0, 1) := by decide +kernel
theorem dX3_copyFrom_165 : decode cX3_copyFrom 165 = .ok (.bipush 6, 2) := by decide +kernel
theorem dX3_copyFrom_167 : decode cX3_copyFrom 167 = .ok (.invokestatic 58, 3) := by decide +kernel
theorem dX3_copyFrom_170 : decode cX3_copyFrom 170 = .ok (.aload_n 1, 1) := by decide +kernel
theorem dX3_copyFrom_171 : decode cX3_copyFrom 171 = .ok (.getfield 52, 3) := by decide +kernel
theorem dX3_copyFrom_174 : decode cX3_copyFrom 174 = .ok (.iconst 0, 1) := by decide +kernel
theorem dX3_copyFrom_175 : decode cX3_copyFrom 175 = .ok (.aload_n 0, 1) := by decide +kernel
theorem dX3_copyFrom_176 : decode cX3_copyFrom 176 = .ok (.getfield 52, 3) := by decide +kernel
theorem dX3_copyFrom_179 : decode cX3_copyFrom 179 = .ok (.iconst 0, 1) := by decide +kernel
theorem dX3_copyFrom_180 : decode cX3_copyFrom 180 = .ok (.bipush 6, 2) := by decide +kernel
theorem dX3_copyFrom_182 : decode cX3_copyFrom 182 = .ok (.invokestatic 58, 3) := by decide +kernel
theorem dX3_copyFrom_185 : decode cX3_copyFrom 185 = .ok (.aload_n 1, 1) := by decide +kernel
theorem dX3_copyFrom_186 : decode cX3_copyFrom 186 = .ok (.getfield 55, 3) := by decide +kernel
theorem dX3_copyFrom_189 : decode cX3_copyFrom 189 = .ok (.iconst 0, 1) := by decide +kernel
theorem dX3_copyFrom_190 : decode cX3_copyFrom 190 = .ok (.aload_n 0, 1) := by decide +kernel
theorem dX3_copyFrom_191 : decode cX3_copyFrom 191 = .ok (.getfield 55, 3) := by decide +kernel
theorem dX3_copyFrom_194 : decode cX3_copyFrom 194 = .ok (.iconst 0, 1) := by decide +kernel
theorem dX3_copyFrom_195 : decode cX3_copyFrom 195 = .ok (.bipush 6, 2) := by decide +kernel
theorem dX3_copyFrom_197 : decode cX3_copyFrom 197 = .ok (.invokestatic 58, 3) := by decide +kernel
theorem dX3_copyFrom_200 : decode cX3_copyFrom 200 = .ok (.return_, 1) := by decide +kernel
theorem dX3_changeOf_0 : decode cX3_changeOf 0 = .ok (.aload_n 0, 1) := by decide +kernel
theorem dX3_changeOf_1 : decode cX3_changeOf 1 = .ok (.getfield 37, 3) := by decide +kernel
theorem dX3_changeOf_4 : decode cX3_changeOf 4 = .ok (.iload_n 1, 1) := by decide +kernel
theorem dX3_changeOf_5 : decode cX3_changeOf 5 = .ok (.iaload, 1) := by decide +kernel
theorem dX3_changeOf_6 : decode cX3_changeOf 6 = .ok (.iload_n 2, 1) := by decide +kernel
theorem dX3_changeOf_7 : decode cX3_changeOf 7 = .ok (.if_icmp .ne 10, 3) := by decide +kernel
theorem dX3_changeOf_10 : decode cX3_changeOf 10 = .ok (.aload_n 0, 1) := by decide +kernel
theorem dX3_changeOf_11 : decode cX3_changeOf 11 = .ok (.getfield 40, 3) := by decide +kernel
theorem dX3_changeOf_14 : decode cX3_changeOf 14 = .ok (.iload_n 1, 1) := by decide +kernel
theorem dX3_changeOf_15 : decode cX3_changeOf 15 = .ok (.iaload, 1) := by decide +kernel
theorem dX3_changeOf_16 : decode cX3_changeOf 16 = .ok (.ireturn, 1) := by decide +kernel
theorem dX3_changeOf_17 : decode cX3_changeOf 17 = .ok (.aload_n 0, 1) := by decide +kernel
theorem dX3_changeOf_18 : decode cX3_changeOf 18 = .ok (.getfield 43, 3) := by decide +kernel
theorem dX3_changeOf_21 : decode cX3_changeOf 21 = .ok (.iload_n 1, 1) := by decide +kernel
theorem dX3_changeOf_22 : decode cX3_changeOf 22 = .ok (.iaload, 1) := by decide +kernel
theorem dX3_changeOf_23 : decode cX3_changeOf 23 = .ok (.iload_n 2, 1) := by decide +kernel
theorem dX3_changeOf_24 : decode cX3_changeOf 24 = .ok (.if_icmp .ne 13, 3) := by decide +kernel
theorem dX3_changeOf_27 : decode cX3_changeOf 27 = .ok (.aload_n 0, 1) := by decide +kernel
theorem dX3_changeOf_28 : decode cX3_changeOf 28 = .ok (.getfield 40, 3) := by decide +kernel
theorem dX3_changeOf_31 : decode cX3_changeOf 31 = .ok (.iload_n 1, 1) := by decide +kernel
theorem dX3_changeOf_32 : decode cX3_changeOf 32 = .ok (.iaload, 1) := by decide +kernel
theorem dX3_changeOf_33 : decode cX3_changeOf 33 = .ok (.ineg, 1) := by decide +kernel
theorem dX3_changeOf_34 : decode cX3_changeOf 34 = .ok (.goto 4, 3) := by decide +kernel
theorem dX3_changeOf_37 : decode cX3_changeOf 37 = .ok (.iconst 0, 1) := by decide +kernel
theorem dX3_changeOf_38 : decode cX3_changeOf 38 = .ok (.ireturn, 1) := by decide +kernel
set_option maxRecDepth 20000 in
theorem ggX3_lowOf_X3_lowThen : GoodIn wsX3_lowOf wsX3_lowThen := goodIn_r _ [6, 7, 8, 9, 10, 11, 12, 13, 14, 15, 16, 5, 17, 18, 19, 20, 21, 22, 23, 24, 25, 26, 27, 28, 29, 30, 31, 32, 33, 34, 35] (by decide +kernel) (by decide +kernel)
set_option maxRecDepth 20000 in
theorem gX3_lowOf_X3_lowThen : GoodIn wsX3_lowOf (wsV RX3 64 RX3 yX3_lowThen wsX3_lowThen) := goodIn_app (goodIn_of _ (by decide +kernel)) ggX3_lowOf_X3_lowThen
theorem dX3_lowOf_0 : decode cX3_lowOf 0 = .ok (.aload_n 0, 1) := by decide +kernel
theorem dX3_lowOf_1 : decode cX3_lowOf 1 = .ok (.iload_n 1, 1) := by decide +kernel
theorem dX3_lowOf_2 : decode cX3_lowOf 2 = .ok (.aload_n 0, 1) := by decide +kernel
theorem dX3_lowOf_3 : decode cX3_lowOf 3 = .ok (.getfield 9, 3) := by decide +kernel
theorem dX3_lowOf_6 : decode cX3_lowOf 6 = .ok (.invokevirtual 64, 3) := by decide +kernel
theorem dX3_lowOf_9 : decode cX3_lowOf 9 = .ok (.ireturn, 1) := by decide +kernel
set_option maxRecDepth 20000 in
theorem ggX3_lowThen_X3_changeOf : GoodIn wsX3_lowThen wsX3_changeOf := goodIn_r _ [12, 13, 14, 15, 16, 17, 18, 19, 20, 21, 22, 23, 24, 25, 26, 27, 28, 29, 30] (by decide +kernel) (by decide +kernel)
set_option maxRecDepth 20000 in
theorem gX3_lowThen_X3_changeOf : GoodIn wsX3_lowThen (wsV RX3 68 RX3 yX3_changeOf wsX3_changeOf) := goodIn_app (goodIn_of _ (by decide +kernel)) ggX3_lowThen_X3_changeOf
theorem dX3_lowThen_0 : decode cX3_lowThen 0 = .ok (.aload_n 0, 1) := by decide +kernel
theorem dX3_lowThen_1 : decode cX3_lowThen 1 = .ok (.getfield 25, 3) := by decide +kernel
theorem dX3_lowThen_4 : decode cX3_lowThen 4 = .ok (.iload_n 1, 1) := by decide +kernel
theorem dX3_lowThen_5 : decode cX3_lowThen 5 = .ok (.iaload, 1) := by decide +kernel
theorem dX3_lowThen_6 : decode cX3_lowThen 6 = .ok (.istore_n 3, 1) := by decide +kernel
theorem dX3_lowThen_7 : decode cX3_lowThen 7 = .ok (.iconst 0, 1) := by decide +kernel
theorem dX3_lowThen_8 : decode cX3_lowThen 8 = .ok (.istore 4, 2) := by decide +kernel
theorem dX3_lowThen_10 : decode cX3_lowThen 10 = .ok (.iload 4, 2) := by decide +kernel
theorem dX3_lowThen_12 : decode cX3_lowThen 12 = .ok (.aload_n 0, 1) := by decide +kernel
theorem dX3_lowThen_13 : decode cX3_lowThen 13 = .ok (.getfield 15, 3) := by decide +kernel
theorem dX3_lowThen_16 : decode cX3_lowThen 16 = .ok (.if_icmp .ge 34, 3) := by decide +kernel
theorem dX3_lowThen_19 : decode cX3_lowThen 19 = .ok (.aload_n 0, 1) := by decide +kernel
theorem dX3_lowThen_20 : decode cX3_lowThen 20 = .ok (.getfield 46, 3) := by decide +kernel
theorem dX3_lowThen_23 : decode cX3_lowThen 23 = .ok (.iload 4, 2) := by decide +kernel
theorem dX3_lowThen_25 : decode cX3_lowThen 25 = .ok (.iaload, 1) := by decide +kernel
theorem dX3_lowThen_26 : decode cX3_lowThen 26 = .ok (.iload_n 2, 1) := by decide +kernel
theorem dX3_lowThen_27 : decode cX3_lowThen 27 = .ok (.if_icmp .le 17, 3) := by decide +kernel
theorem dX3_lowThen_30 : decode cX3_lowThen 30 = .ok (.iload_n 3, 1) := by decide +kernel
theorem dX3_lowThen_31 : decode cX3_lowThen 31 = .ok (.aload_n 0, 1) := by decide +kernel
theorem dX3_lowThen_32 : decode cX3_lowThen 32 = .ok (.iload 4, 2) := by decide +kernel
theorem dX3_lowThen_34 : decode cX3_lowThen 34 = .ok (.iload_n 1, 1) := by decide +kernel
theorem dX3_lowThen_35 : decode cX3_lowThen 35 = .ok (.invokevirtual 68, 3) := by decide +kernel
theorem dX3_lowThen_38 : decode cX3_lowThen 38 = .ok (.iconst 0, 1) := by decide +kernel
theorem dX3_lowThen_39 : decode cX3_lowThen 39 = .ok (.invokestatic 71, 3) := by decide +kernel
theorem dX3_lowThen_42 : decode cX3_lowThen 42 = .ok (.iadd, 1) := by decide +kernel
theorem dX3_lowThen_43 : decode cX3_lowThen 43 = .ok (.istore_n 3, 1) := by decide +kernel
theorem dX3_lowThen_44 : decode cX3_lowThen 44 = .ok (.iinc 4 1, 3) := by decide +kernel
theorem dX3_lowThen_47 : decode cX3_lowThen 47 = .ok (.goto (-37), 3) := by decide +kernel
theorem dX3_lowThen_50 : decode cX3_lowThen 50 = .ok (.iload_n 3, 1) := by decide +kernel
theorem dX3_lowThen_51 : decode cX3_lowThen 51 = .ok (.ireturn, 1) := by decide +kernel
set_option maxRecDepth 20000 in
theorem ggX3_highOf_X3_changeOf : GoodIn wsX3_highOf wsX3_changeOf := goodIn_r _ [11, 12, 13, 14, 15, 16, 17, 18, 19, 20, 21, 22, 23, 24, 25, 26, 27, 28, 29] (by decide +kernel) (by decide +kernel)
set_option maxRecDepth 20000 in
theorem gX3_highOf_X3_changeOf : GoodIn wsX3_highOf (wsV RX3 68 RX3 yX3_changeOf wsX3_changeOf) := goodIn_app (goodIn_of _ (by decide +kernel)) ggX3_highOf_X3_changeOf
theorem dX3_highOf_0 : decode cX3_highOf 0 = .ok (.aload_n 0, 1) := by decide +kernel
theorem dX3_highOf_1 : decode cX3_highOf 1 = .ok (.getfield 25, 3) := by decide +kernel
theorem dX3_highOf_4 : decode cX3_highOf 4 = .ok (.iload_n 1, 1) := by decide +kernel
theorem dX3_highOf_5 : decode cX3_highOf 5 = .ok (.iaload, 1) := by decide +kernel
theorem dX3_highOf_6 : decode cX3_highOf 6 = .ok (.istore_n 2, 1) := by decide +kernel
theorem dX3_highOf_7 : decode cX3_highOf 7 = .ok (.iconst 0, 1) := by decide +kernel
theorem dX3_highOf_8 : decode cX3_highOf 8 = .ok (.istore_n 3, 1) := by decide +kernel
theorem dX3_highOf_9 : decode cX3_highOf 9 = .ok (.iload_n 3, 1) := by decide +kernel
theorem dX3_highOf_10 : decode cX3_highOf 10 = .ok (.aload_n 0, 1) := by decide +kernel
theorem dX3_highOf_11 : decode cX3_highOf 11 = .ok (.getfield 15, 3) := by decide +kernel
theorem dX3_highOf_14 : decode cX3_highOf 14 = .ok (.if_icmp .ge 22, 3) := by decide +kernel
theorem dX3_highOf_17 : decode cX3_highOf 17 = .ok (.iload_n 2, 1) := by decide +kernel
theorem dX3_highOf_18 : decode cX3_highOf 18 = .ok (.aload_n 0, 1) := by decide +kernel
theorem dX3_highOf_19 : decode cX3_highOf 19 = .ok (.iload_n 3, 1) := by decide +kernel
theorem dX3_highOf_20 : decode cX3_highOf 20 = .ok (.iload_n 1, 1) := by decide +kernel
theorem dX3_highOf_21 : decode cX3_highOf 21 = .ok (.invokevirtual 68, 3) := by decide +kernel
theorem dX3_highOf_24 : decode cX3_highOf 24 = .ok (.iconst 0, 1) := by decide +kernel
theorem dX3_highOf_25 : decode cX3_highOf 25 = .ok (.invokestatic 76, 3) := by decide +kernel
theorem dX3_highOf_28 : decode cX3_highOf 28 = .ok (.iadd, 1) := by decide +kernel
theorem dX3_highOf_29 : decode cX3_highOf 29 = .ok (.istore_n 2, 1) := by decide +kernel
theorem dX3_highOf_30 : decode cX3_highOf 30 = .ok (.iinc 3 1, 3) := by decide +kernel
theorem dX3_highOf_33 : decode cX3_highOf 33 = .ok (.goto (-24), 3) := by decide +kernel
theorem dX3_highOf_36 : decode cX3_highOf 36 = .ok (.iload_n 2, 1) := by decide +kernel
theorem dX3_highOf_37 : decode cX3_highOf 37 = .ok (.ireturn, 1) := by decide +kernel
set_option maxRecDepth 20000 in
theorem ggX3_roomBelow_X3_lowThen : GoodIn wsX3_roomBelow wsX3_lowThen := goodIn_r _ [6, 7, 8, 9, 10, 11, 12, 13, 14, 15, 16, 5, 17, 18, 19, 20, 21, 22, 23, 24, 25, 26, 27, 28, 29, 30, 31, 32, 33, 34, 35] (by decide +kernel) (by decide +kernel)
set_option maxRecDepth 20000 in
theorem gX3_roomBelow_X3_lowThen : GoodIn wsX3_roomBelow (wsV RX3 64 RX3 yX3_lowThen wsX3_lowThen) := goodIn_app (goodIn_of _ (by decide +kernel)) ggX3_roomBelow_X3_lowThen
theorem dX3_roomBelow_0 : decode cX3_roomBelow 0 = .ok (.aload_n 0, 1) := by decide +kernel
theorem dX3_roomBelow_1 : decode cX3_roomBelow 1 = .ok (.iload_n 1, 1) := by decide +kernel
theorem dX3_roomBelow_2 : decode cX3_roomBelow 2 = .ok (.iload_n 2, 1) := by decide +kernel
theorem dX3_roomBelow_3 : decode cX3_roomBelow 3 = .ok (.invokevirtual 64, 3) := by decide +kernel
theorem dX3_roomBelow_6 : decode cX3_roomBelow 6 = .ok (.aload_n 0, 1) := by decide +kernel
theorem dX3_roomBelow_7 : decode cX3_roomBelow 7 = .ok (.getfield 28, 3) := by decide +kernel
theorem dX3_roomBelow_10 : decode cX3_roomBelow 10 = .ok (.iload_n 1, 1) := by decide +kernel
theorem dX3_roomBelow_11 : decode cX3_roomBelow 11 = .ok (.iaload, 1) := by decide +kernel
theorem dX3_roomBelow_12 : decode cX3_roomBelow 12 = .ok (.isub, 1) := by decide +kernel
theorem dX3_roomBelow_13 : decode cX3_roomBelow 13 = .ok (.ireturn, 1) := by decide +kernel
set_option maxRecDepth 20000 in
theorem ggX3_roomAbove_X3_highOf : GoodIn wsX3_roomAbove wsX3_highOf := goodIn_r _ [6, 7, 8, 9, 10, 11, 12, 13, 14, 15, 5, 16, 17, 18, 19, 20, 21, 22, 23, 24, 25, 26, 27, 28, 29, 30, 31, 32, 33, 34] (by decide +kernel) (by decide +kernel)
set_option maxRecDepth 20000 in
theorem gX3_roomAbove_X3_highOf : GoodIn wsX3_roomAbove (wsV RX3 79 RX3 yX3_highOf wsX3_highOf) := goodIn_app (goodIn_of _ (by decide +kernel)) ggX3_roomAbove_X3_highOf
theorem dX3_roomAbove_0 : decode cX3_roomAbove 0 = .ok (.aload_n 0, 1) := by decide +kernel
theorem dX3_roomAbove_1 : decode cX3_roomAbove 1 = .ok (.getfield 31, 3) := by decide +kernel
theorem dX3_roomAbove_4 : decode cX3_roomAbove 4 = .ok (.iload_n 1, 1) := by decide +kernel
theorem dX3_roomAbove_5 : decode cX3_roomAbove 5 = .ok (.iaload, 1) := by decide +kernel
theorem dX3_roomAbove_6 : decode cX3_roomAbove 6 = .ok (.aload_n 0, 1) := by decide +kernel
theorem dX3_roomAbove_7 : decode cX3_roomAbove 7 = .ok (.iload_n 1, 1) := by decide +kernel
theorem dX3_roomAbove_8 : decode cX3_roomAbove 8 = .ok (.invokevirtual 79, 3) := by decide +kernel
theorem dX3_roomAbove_11 : decode cX3_roomAbove 11 = .ok (.isub, 1) := by decide +kernel
theorem dX3_roomAbove_12 : decode cX3_roomAbove 12 = .ok (.ireturn, 1) := by decide +kernel
set_option maxRecDepth 20000 in
theorem ggX3_promisesChanging_X3_changeOf : GoodIn wsX3_promisesChanging wsX3_changeOf := goodIn_r _ [6, 7, 8, 9, 10, 11, 12, 13, 14, 15, 16, 17, 18, 19, 20, 21, 22, 23, 24] (by decide +kernel) (by decide +kernel)
set_option maxRecDepth 20000 in
theorem gX3_promisesChanging_X3_changeOf : GoodIn wsX3_promisesChanging (wsV RX3 68 RX3 yX3_changeOf wsX3_changeOf) := goodIn_app (goodIn_of _ (by decide +kernel)) ggX3_promisesChanging_X3_changeOf
theorem dX3_promisesChanging_0 : decode cX3_promisesChanging 0 = .ok (.iconst 0, 1) := by decide +kernel
theorem dX3_promisesChanging_1 : decode cX3_promisesChanging 1 = .ok (.istore_n 2, 1) := by decide +kernel
theorem dX3_promisesChanging_2 : decode cX3_promisesChanging 2 = .ok (.iconst 0, 1) := by decide +kernel
theorem dX3_promisesChanging_3 : decode cX3_promisesChanging 3 = .ok (.istore_n 3, 1) := by decide +kernel
theorem dX3_promisesChanging_4 : decode cX3_promisesChanging 4 = .ok (.iload_n 3, 1) := by decide +kernel
theorem dX3_promisesChanging_5 : decode cX3_promisesChanging 5 = .ok (.aload_n 0, 1) := by decide +kernel
theorem dX3_promisesChanging_6 : decode cX3_promisesChanging 6 = .ok (.getfield 15, 3) := by decide +kernel
theorem dX3_promisesChanging_9 : decode cX3_promisesChanging 9 = .ok (.if_icmp .ge 21, 3) := by decide +kernel
theorem dX3_promisesChanging_12 : decode cX3_promisesChanging 12 = .ok (.aload_n 0, 1) := by decide +kernel
theorem dX3_promisesChanging_13 : decode cX3_promisesChanging 13 = .ok (.iload_n 3, 1) := by decide +kernel
theorem dX3_promisesChanging_14 : decode cX3_promisesChanging 14 = .ok (.iload_n 1, 1) := by decide +kernel
theorem dX3_promisesChanging_15 : decode cX3_promisesChanging 15 = .ok (.invokevirtual 68, 3) := by decide +kernel
theorem dX3_promisesChanging_18 : decode cX3_promisesChanging 18 = .ok (.ifCond .eq 6, 3) := by decide +kernel
theorem dX3_promisesChanging_21 : decode cX3_promisesChanging 21 = .ok (.iinc 2 1, 3) := by decide +kernel
theorem dX3_promisesChanging_24 : decode cX3_promisesChanging 24 = .ok (.iinc 3 1, 3) := by decide +kernel
theorem dX3_promisesChanging_27 : decode cX3_promisesChanging 27 = .ok (.goto (-23), 3) := by decide +kernel
theorem dX3_promisesChanging_30 : decode cX3_promisesChanging 30 = .ok (.iload_n 2, 1) := by decide +kernel
theorem dX3_promisesChanging_31 : decode cX3_promisesChanging 31 = .ok (.ireturn, 1) := by decide +kernel
set_option maxRecDepth 20000 in
theorem ggX3_sumOfChanges_X3_changeOf : GoodIn wsX3_sumOfChanges wsX3_changeOf := goodIn_r _ [6, 7, 8, 9, 10, 11, 12, 13, 14, 15, 16, 17, 18, 19, 20, 21, 22, 23, 24] (by decide +kernel) (by decide +kernel)
set_option maxRecDepth 20000 in
theorem gX3_sumOfChanges_X3_changeOf : GoodIn wsX3_sumOfChanges (wsV RX3 68 RX3 yX3_changeOf wsX3_changeOf) := goodIn_app (goodIn_of _ (by decide +kernel)) ggX3_sumOfChanges_X3_changeOf
theorem dX3_sumOfChanges_0 : decode cX3_sumOfChanges 0 = .ok (.iconst 0, 1) := by decide +kernel
theorem dX3_sumOfChanges_1 : decode cX3_sumOfChanges 1 = .ok (.istore_n 2, 1) := by decide +kernel
theorem dX3_sumOfChanges_2 : decode cX3_sumOfChanges 2 = .ok (.iconst 0, 1) := by decide +kernel
theorem dX3_sumOfChanges_3 : decode cX3_sumOfChanges 3 = .ok (.istore_n 3, 1) := by decide +kernel
theorem dX3_sumOfChanges_4 : decode cX3_sumOfChanges 4 = .ok (.iload_n 3, 1) := by decide +kernel
theorem dX3_sumOfChanges_5 : decode cX3_sumOfChanges 5 = .ok (.aload_n 0, 1) := by decide +kernel
theorem dX3_sumOfChanges_6 : decode cX3_sumOfChanges 6 = .ok (.getfield 15, 3) := by decide +kernel
theorem dX3_sumOfChanges_9 : decode cX3_sumOfChanges 9 = .ok (.if_icmp .ge 18, 3) := by decide +kernel
theorem dX3_sumOfChanges_12 : decode cX3_sumOfChanges 12 = .ok (.iload_n 2, 1) := by decide +kernel
theorem dX3_sumOfChanges_13 : decode cX3_sumOfChanges 13 = .ok (.aload_n 0, 1) := by decide +kernel
theorem dX3_sumOfChanges_14 : decode cX3_sumOfChanges 14 = .ok (.iload_n 3, 1) := by decide +kernel
theorem dX3_sumOfChanges_15 : decode cX3_sumOfChanges 15 = .ok (.iload_n 1, 1) := by decide +kernel
theorem dX3_sumOfChanges_16 : decode cX3_sumOfChanges 16 = .ok (.invokevirtual 68, 3) := by decide +kernel
theorem dX3_sumOfChanges_19 : decode cX3_sumOfChanges 19 = .ok (.iadd, 1) := by decide +kernel
theorem dX3_sumOfChanges_20 : decode cX3_sumOfChanges 20 = .ok (.istore_n 2, 1) := by decide +kernel
theorem dX3_sumOfChanges_21 : decode cX3_sumOfChanges 21 = .ok (.iinc 3 1, 3) := by decide +kernel
theorem dX3_sumOfChanges_24 : decode cX3_sumOfChanges 24 = .ok (.goto (-20), 3) := by decide +kernel
theorem dX3_sumOfChanges_27 : decode cX3_sumOfChanges 27 = .ok (.iload_n 2, 1) := by decide +kernel
theorem dX3_sumOfChanges_28 : decode cX3_sumOfChanges 28 = .ok (.ireturn, 1) := by decide +kernel
theorem dX3_promisesOf_0 : decode cX3_promisesOf 0 = .ok (.iconst 0, 1) := by decide +kernel
theorem dX3_promisesOf_1 : decode cX3_promisesOf 1 = .ok (.istore_n 2, 1) := by decide +kernel
theorem dX3_promisesOf_2 : decode cX3_promisesOf 2 = .ok (.iconst 0, 1) := by decide +kernel
theorem dX3_promisesOf_3 : decode cX3_promisesOf 3 = .ok (.istore_n 3, 1) := by decide +kernel
theorem dX3_promisesOf_4 : decode cX3_promisesOf 4 = .ok (.iload_n 3, 1) := by decide +kernel
theorem dX3_promisesOf_5 : decode cX3_promisesOf 5 = .ok (.aload_n 0, 1) := by decide +kernel
theorem dX3_promisesOf_6 : decode cX3_promisesOf 6 = .ok (.getfield 15, 3) := by decide +kernel
theorem dX3_promisesOf_9 : decode cX3_promisesOf 9 = .ok (.if_icmp .ge 22, 3) := by decide +kernel
theorem dX3_promisesOf_12 : decode cX3_promisesOf 12 = .ok (.aload_n 0, 1) := by decide +kernel
theorem dX3_promisesOf_13 : decode cX3_promisesOf 13 = .ok (.getfield 34, 3) := by decide +kernel
theorem dX3_promisesOf_16 : decode cX3_promisesOf 16 = .ok (.iload_n 3, 1) := by decide +kernel
theorem dX3_promisesOf_17 : decode cX3_promisesOf 17 = .ok (.iaload, 1) := by decide +kernel
theorem dX3_promisesOf_18 : decode cX3_promisesOf 18 = .ok (.iload_n 1, 1) := by decide +kernel
theorem dX3_promisesOf_19 : decode cX3_promisesOf 19 = .ok (.if_icmp .ne 6, 3) := by decide +kernel
theorem dX3_promisesOf_22 : decode cX3_promisesOf 22 = .ok (.iinc 2 1, 3) := by decide +kernel
theorem dX3_promisesOf_25 : decode cX3_promisesOf 25 = .ok (.iinc 3 1, 3) := by decide +kernel
theorem dX3_promisesOf_28 : decode cX3_promisesOf 28 = .ok (.goto (-24), 3) := by decide +kernel
theorem dX3_promisesOf_31 : decode cX3_promisesOf 31 = .ok (.iload_n 2, 1) := by decide +kernel
theorem dX3_promisesOf_32 : decode cX3_promisesOf 32 = .ok (.ireturn, 1) := by decide +kernel
theorem dX3_sizesOf_0 : decode cX3_sizesOf 0 = .ok (.iconst 0, 1) := by decide +kernel
theorem dX3_sizesOf_1 : decode cX3_sizesOf 1 = .ok (.istore_n 2, 1) := by decide +kernel
theorem dX3_sizesOf_2 : decode cX3_sizesOf 2 = .ok (.iconst 0, 1) := by decide +kernel
theorem dX3_sizesOf_3 : decode cX3_sizesOf 3 = .ok (.istore_n 3, 1) := by decide +kernel
theorem dX3_sizesOf_4 : decode cX3_sizesOf 4 = .ok (.iload_n 3, 1) := by decide +kernel
theorem dX3_sizesOf_5 : decode cX3_sizesOf 5 = .ok (.aload_n 0, 1) := by decide +kernel
theorem dX3_sizesOf_6 : decode cX3_sizesOf 6 = .ok (.getfield 15, 3) := by decide +kernel
theorem dX3_sizesOf_9 : decode cX3_sizesOf 9 = .ok (.if_icmp .ge 31, 3) := by decide +kernel
theorem dX3_sizesOf_12 : decode cX3_sizesOf 12 = .ok (.aload_n 0, 1) := by decide +kernel
theorem dX3_sizesOf_13 : decode cX3_sizesOf 13 = .ok (.getfield 34, 3) := by decide +kernel
theorem dX3_sizesOf_16 : decode cX3_sizesOf 16 = .ok (.iload_n 3, 1) := by decide +kernel
theorem dX3_sizesOf_17 : decode cX3_sizesOf 17 = .ok (.iaload, 1) := by decide +kernel
theorem dX3_sizesOf_18 : decode cX3_sizesOf 18 = .ok (.iload_n 1, 1) := by decide +kernel
theorem dX3_sizesOf_19 : decode cX3_sizesOf 19 = .ok (.if_icmp .ne 15, 3) := by decide +kernel
theorem dX3_sizesOf_22 : decode cX3_sizesOf 22 = .ok (.iload_n 2, 1) := by decide +kernel
theorem dX3_sizesOf_23 : decode cX3_sizesOf 23 = .ok (.aload_n 0, 1) := by decide +kernel
theorem dX3_sizesOf_24 : decode cX3_sizesOf 24 = .ok (.getfield 40, 3) := by decide +kernel
theorem dX3_sizesOf_27 : decode cX3_sizesOf 27 = .ok (.iload_n 3, 1) := by decide +kernel
theorem dX3_sizesOf_28 : decode cX3_sizesOf 28 = .ok (.iaload, 1) := by decide +kernel
theorem dX3_sizesOf_29 : decode cX3_sizesOf 29 = .ok (.invokestatic 83, 3) := by decide +kernel
theorem dX3_sizesOf_32 : decode cX3_sizesOf 32 = .ok (.iadd, 1) := by decide +kernel
theorem dX3_sizesOf_33 : decode cX3_sizesOf 33 = .ok (.istore_n 2, 1) := by decide +kernel
theorem dX3_sizesOf_34 : decode cX3_sizesOf 34 = .ok (.iinc 3 1, 3) := by decide +kernel
theorem dX3_sizesOf_37 : decode cX3_sizesOf 37 = .ok (.goto (-33), 3) := by decide +kernel
theorem dX3_sizesOf_40 : decode cX3_sizesOf 40 = .ok (.iload_n 2, 1) := by decide +kernel
theorem dX3_sizesOf_41 : decode cX3_sizesOf 41 = .ok (.ireturn, 1) := by decide +kernel
theorem dX3_transfers_0 : decode cX3_transfers 0 = .ok (.iconst 0, 1) := by decide +kernel
theorem dX3_transfers_1 : decode cX3_transfers 1 = .ok (.istore_n 1, 1) := by decide +kernel
theorem dX3_transfers_2 : decode cX3_transfers 2 = .ok (.iconst 0, 1) := by decide +kernel
theorem dX3_transfers_3 : decode cX3_transfers 3 = .ok (.istore_n 2, 1) := by decide +kernel
theorem dX3_transfers_4 : decode cX3_transfers 4 = .ok (.iload_n 2, 1) := by decide +kernel
theorem dX3_transfers_5 : decode cX3_transfers 5 = .ok (.aload_n 0, 1) := by decide +kernel
theorem dX3_transfers_6 : decode cX3_transfers 6 = .ok (.getfield 15, 3) := by decide +kernel
theorem dX3_transfers_9 : decode cX3_transfers 9 = .ok (.if_icmp .ge 22, 3) := by decide +kernel
theorem dX3_transfers_12 : decode cX3_transfers 12 = .ok (.aload_n 0, 1) := by decide +kernel
theorem dX3_transfers_13 : decode cX3_transfers 13 = .ok (.getfield 43, 3) := by decide +kernel
theorem dX3_transfers_16 : decode cX3_transfers 16 = .ok (.iload_n 2, 1) := by decide +kernel
theorem dX3_transfers_17 : decode cX3_transfers 17 = .ok (.iaload, 1) := by decide +kernel
theorem dX3_transfers_18 : decode cX3_transfers 18 = .ok (.iconst (-1), 1) := by decide +kernel
theorem dX3_transfers_19 : decode cX3_transfers 19 = .ok (.if_icmp .eq 6, 3) := by decide +kernel
theorem dX3_transfers_22 : decode cX3_transfers 22 = .ok (.iinc 1 1, 3) := by decide +kernel
theorem dX3_transfers_25 : decode cX3_transfers 25 = .ok (.iinc 2 1, 3) := by decide +kernel
theorem dX3_transfers_28 : decode cX3_transfers 28 = .ok (.goto (-24), 3) := by decide +kernel
theorem dX3_transfers_31 : decode cX3_transfers 31 = .ok (.iload_n 1, 1) := by decide +kernel
theorem dX3_transfers_32 : decode cX3_transfers 32 = .ok (.ireturn, 1) := by decide +kernel
theorem dX3_firstLapse_0 : decode cX3_firstLapse 0 = .ok (.iconst (-1), 1) := by decide +kernel
theorem dX3_firstLapse_1 : decode cX3_firstLapse 1 = .ok (.istore_n 1, 1) := by decide +kernel
theorem dX3_firstLapse_2 : decode cX3_firstLapse 2 = .ok (.iconst 0, 1) := by decide +kernel
theorem dX3_firstLapse_3 : decode cX3_firstLapse 3 = .ok (.istore_n 2, 1) := by decide +kernel
theorem dX3_firstLapse_4 : decode cX3_firstLapse 4 = .ok (.iload_n 2, 1) := by decide +kernel
theorem dX3_firstLapse_5 : decode cX3_firstLapse 5 = .ok (.aload_n 0, 1) := by decide +kernel
theorem dX3_firstLapse_6 : decode cX3_firstLapse 6 = .ok (.getfield 15, 3) := by decide +kernel
theorem dX3_firstLapse_9 : decode cX3_firstLapse 9 = .ok (.if_icmp .ge 31, 3) := by decide +kernel
theorem dX3_firstLapse_12 : decode cX3_firstLapse 12 = .ok (.iload_n 1, 1) := by decide +kernel
theorem dX3_firstLapse_13 : decode cX3_firstLapse 13 = .ok (.iconst (-1), 1) := by decide +kernel
theorem dX3_firstLapse_14 : decode cX3_firstLapse 14 = .ok (.if_icmp .eq 13, 3) := by decide +kernel
theorem dX3_firstLapse_17 : decode cX3_firstLapse 17 = .ok (.aload_n 0, 1) := by decide +kernel
theorem dX3_firstLapse_18 : decode cX3_firstLapse 18 = .ok (.getfield 46, 3) := by decide +kernel
theorem dX3_firstLapse_21 : decode cX3_firstLapse 21 = .ok (.iload_n 2, 1) := by decide +kernel
theorem dX3_firstLapse_22 : decode cX3_firstLapse 22 = .ok (.iaload, 1) := by decide +kernel
theorem dX3_firstLapse_23 : decode cX3_firstLapse 23 = .ok (.iload_n 1, 1) := by decide +kernel
theorem dX3_firstLapse_24 : decode cX3_firstLapse 24 = .ok (.if_icmp .ge 10, 3) := by decide +kernel
theorem dX3_firstLapse_27 : decode cX3_firstLapse 27 = .ok (.aload_n 0, 1) := by decide +kernel
theorem dX3_firstLapse_28 : decode cX3_firstLapse 28 = .ok (.getfield 46, 3) := by decide +kernel
theorem dX3_firstLapse_31 : decode cX3_firstLapse 31 = .ok (.iload_n 2, 1) := by decide +kernel
theorem dX3_firstLapse_32 : decode cX3_firstLapse 32 = .ok (.iaload, 1) := by decide +kernel
theorem dX3_firstLapse_33 : decode cX3_firstLapse 33 = .ok (.istore_n 1, 1) := by decide +kernel
theorem dX3_firstLapse_34 : decode cX3_firstLapse 34 = .ok (.iinc 2 1, 3) := by decide +kernel
theorem dX3_firstLapse_37 : decode cX3_firstLapse 37 = .ok (.goto (-33), 3) := by decide +kernel
theorem dX3_firstLapse_40 : decode cX3_firstLapse 40 = .ok (.iload_n 1, 1) := by decide +kernel
theorem dX3_firstLapse_41 : decode cX3_firstLapse 41 = .ok (.ireturn, 1) := by decide +kernel
set_option maxRecDepth 20000 in
theorem ggX3_reasonAgainst_X3_reasonOfNumber : GoodIn wsX3_reasonAgainst wsX3_reasonOfNumber := goodIn_r _ [6, 7, 8, 9, 10, 11, 5, 12, 13, 48, 49, 50, 51, 52, 53, 54, 55, 56, 57, 58, 59, 60, 61, 62] (by decide +kernel) (by decide +kernel)
set_option maxRecDepth 20000 in
theorem gX3_reasonAgainst_X3_reasonOfNumber : GoodIn wsX3_reasonAgainst (wsV RX3 86 RX3 yX3_reasonOfNumber wsX3_reasonOfNumber) := goodIn_app (goodIn_of _ (by decide +kernel)) ggX3_reasonAgainst_X3_reasonOfNumber
set_option maxRecDepth 20000 in
theorem ggX3_reasonAgainst_X3_roomBelow : GoodIn wsX3_reasonAgainst wsX3_roomBelow := goodIn_r _ [17, 18, 19, 20, 21, 5, 22, 23, 7, 24, 25, 26, 27, 28, 29, 30, 31, 32, 33, 34, 35, 48, 49, 50, 51, 52, 53, 54, 55, 56, 57, 58, 59, 60, 61, 62] (by decide +kernel) (by decide +kernel)
set_option maxRecDepth 20000 in
theorem gX3_reasonAgainst_X3_roomBelow : GoodIn wsX3_reasonAgainst (wsV RX3 89 RX3 yX3_roomBelow wsX3_roomBelow) := goodIn_app (goodIn_of _ (by decide +kernel)) ggX3_reasonAgainst_X3_roomBelow
set_option maxRecDepth 20000 in
theorem ggX3_reasonAgainst_X3_roomAbove : GoodIn wsX3_reasonAgainst wsX3_roomAbove := goodIn_r _ [39, 40, 41, 42, 43, 5, 44, 23, 7, 45, 46, 27, 47, 29, 30, 31, 32, 33, 34, 35, 48, 49, 50, 51, 52, 53, 54, 55, 56, 57, 58, 59, 60, 61, 62] (by decide +kernel) (by decide +kernel)
set_option maxRecDepth 20000 in
theorem gX3_reasonAgainst_X3_roomAbove : GoodIn wsX3_reasonAgainst (wsV RX3 92 RX3 yX3_roomAbove wsX3_roomAbove) := goodIn_app (goodIn_of _ (by decide +kernel)) ggX3_reasonAgainst_X3_roomAbove
theorem dX3_reasonAgainst_0 : decode cX3_reasonAgainst 0 = .ok (.aload_n 0, 1) := by decide +kernel
theorem dX3_reasonAgainst_1 : decode cX3_reasonAgainst 1 = .ok (.iload_n 1, 1) := by decide +kernel
theorem dX3_reasonAgainst_2 : decode cX3_reasonAgainst 2 = .ok (.invokevirtual 86, 3) := by decide +kernel
theorem dX3_reasonAgainst_5 : decode cX3_reasonAgainst 5 = .ok (.istore 5, 2) := by decide +kernel
theorem dX3_reasonAgainst_7 : decode cX3_reasonAgainst 7 = .ok (.iload 5, 2) := by decide +kernel
theorem dX3_reasonAgainst_9 : decode cX3_reasonAgainst 9 = .ok (.ifCond .eq 6, 3) := by decide +kernel
theorem dX3_reasonAgainst_12 : decode cX3_reasonAgainst 12 = .ok (.iload 5, 2) := by decide +kernel
theorem dX3_reasonAgainst_14 : decode cX3_reasonAgainst 14 = .ok (.ireturn, 1) := by decide +kernel
theorem dX3_reasonAgainst_15 : decode cX3_reasonAgainst 15 = .ok (.iload_n 3, 1) := by decide +kernel
theorem dX3_reasonAgainst_16 : decode cX3_reasonAgainst 16 = .ok (.ifCond .ge 19, 3) := by decide +kernel
theorem dX3_reasonAgainst_19 : decode cX3_reasonAgainst 19 = .ok (.iload_n 3, 1) := by decide +kernel
theorem dX3_reasonAgainst_20 : decode cX3_reasonAgainst 20 = .ok (.ineg, 1) := by decide +kernel
theorem dX3_reasonAgainst_21 : decode cX3_reasonAgainst 21 = .ok (.aload_n 0, 1) := by decide +kernel
theorem dX3_reasonAgainst_22 : decode cX3_reasonAgainst 22 = .ok (.iload_n 2, 1) := by decide +kernel
theorem dX3_reasonAgainst_23 : decode cX3_reasonAgainst 23 = .ok (.aload_n 0, 1) := by decide +kernel
theorem dX3_reasonAgainst_24 : decode cX3_reasonAgainst 24 = .ok (.getfield 9, 3) := by decide +kernel
theorem dX3_reasonAgainst_27 : decode cX3_reasonAgainst 27 = .ok (.invokevirtual 89, 3) := by decide +kernel
theorem dX3_reasonAgainst_30 : decode cX3_reasonAgainst 30 = .ok (.if_icmp .le 5, 3) := by decide +kernel
theorem dX3_reasonAgainst_33 : decode cX3_reasonAgainst 33 = .ok (.iconst 3, 1) := by decide +kernel
theorem dX3_reasonAgainst_34 : decode cX3_reasonAgainst 34 = .ok (.ireturn, 1) := by decide +kernel
theorem dX3_reasonAgainst_35 : decode cX3_reasonAgainst 35 = .ok (.iload_n 3, 1) := by decide +kernel
theorem dX3_reasonAgainst_36 : decode cX3_reasonAgainst 36 = .ok (.ifCond .le 14, 3) := by decide +kernel
theorem dX3_reasonAgainst_39 : decode cX3_reasonAgainst 39 = .ok (.iload_n 3, 1) := by decide +kernel
theorem dX3_reasonAgainst_40 : decode cX3_reasonAgainst 40 = .ok (.aload_n 0, 1) := by decide +kernel
theorem dX3_reasonAgainst_41 : decode cX3_reasonAgainst 41 = .ok (.iload_n 2, 1) := by decide +kernel
theorem dX3_reasonAgainst_42 : decode cX3_reasonAgainst 42 = .ok (.invokevirtual 92, 3) := by decide +kernel
theorem dX3_reasonAgainst_45 : decode cX3_reasonAgainst 45 = .ok (.if_icmp .le 5, 3) := by decide +kernel
theorem dX3_reasonAgainst_48 : decode cX3_reasonAgainst 48 = .ok (.iconst 4, 1) := by decide +kernel
theorem dX3_reasonAgainst_49 : decode cX3_reasonAgainst 49 = .ok (.ireturn, 1) := by decide +kernel
theorem dX3_reasonAgainst_50 : decode cX3_reasonAgainst 50 = .ok (.iload 4, 2) := by decide +kernel
theorem dX3_reasonAgainst_52 : decode cX3_reasonAgainst 52 = .ok (.iconst (-1), 1) := by decide +kernel
theorem dX3_reasonAgainst_53 : decode cX3_reasonAgainst 53 = .ok (.if_icmp .eq 18, 3) := by decide +kernel
theorem dX3_reasonAgainst_56 : decode cX3_reasonAgainst 56 = .ok (.iload_n 3, 1) := by decide +kernel
theorem dX3_reasonAgainst_57 : decode cX3_reasonAgainst 57 = .ok (.ineg, 1) := by decide +kernel
theorem dX3_reasonAgainst_58 : decode cX3_reasonAgainst 58 = .ok (.aload_n 0, 1) := by decide +kernel
theorem dX3_reasonAgainst_59 : decode cX3_reasonAgainst 59 = .ok (.iload 4, 2) := by decide +kernel
theorem dX3_reasonAgainst_61 : decode cX3_reasonAgainst 61 = .ok (.invokevirtual 92, 3) := by decide +kernel
theorem dX3_reasonAgainst_64 : decode cX3_reasonAgainst 64 = .ok (.if_icmp .le 7, 3) := by decide +kernel
theorem dX3_reasonAgainst_67 : decode cX3_reasonAgainst 67 = .ok (.iconst 4, 1) := by decide +kernel
theorem dX3_reasonAgainst_68 : decode cX3_reasonAgainst 68 = .ok (.goto 4, 3) := by decide +kernel
theorem dX3_reasonAgainst_71 : decode cX3_reasonAgainst 71 = .ok (.iconst 0, 1) := by decide +kernel
theorem dX3_reasonAgainst_72 : decode cX3_reasonAgainst 72 = .ok (.ireturn, 1) := by decide +kernel
set_option maxRecDepth 20000 in
theorem ggX3_reasonOfNumber_X3_promisesOf : GoodIn wsX3_reasonOfNumber wsX3_promisesOf := goodIn_r _ [7, 1, 8, 9, 10, 11, 12, 13, 14, 15, 16, 17, 18, 19, 20, 21, 22, 23] (by decide +kernel) (by decide +kernel)
set_option maxRecDepth 20000 in
theorem gX3_reasonOfNumber_X3_promisesOf : GoodIn wsX3_reasonOfNumber (wsV RX3 95 RX3 yX3_promisesOf wsX3_promisesOf) := goodIn_app (goodIn_of _ (by decide +kernel)) ggX3_reasonOfNumber_X3_promisesOf
theorem dX3_reasonOfNumber_0 : decode cX3_reasonOfNumber 0 = .ok (.aload_n 0, 1) := by decide +kernel
theorem dX3_reasonOfNumber_1 : decode cX3_reasonOfNumber 1 = .ok (.getfield 15, 3) := by decide +kernel
theorem dX3_reasonOfNumber_4 : decode cX3_reasonOfNumber 4 = .ok (.bipush 16, 2) := by decide +kernel
theorem dX3_reasonOfNumber_6 : decode cX3_reasonOfNumber 6 = .ok (.if_icmp .lt 5, 3) := by decide +kernel
theorem dX3_reasonOfNumber_9 : decode cX3_reasonOfNumber 9 = .ok (.iconst 1, 1) := by decide +kernel
theorem dX3_reasonOfNumber_10 : decode cX3_reasonOfNumber 10 = .ok (.ireturn, 1) := by decide +kernel
theorem dX3_reasonOfNumber_11 : decode cX3_reasonOfNumber 11 = .ok (.aload_n 0, 1) := by decide +kernel
theorem dX3_reasonOfNumber_12 : decode cX3_reasonOfNumber 12 = .ok (.iload_n 1, 1) := by decide +kernel
theorem dX3_reasonOfNumber_13 : decode cX3_reasonOfNumber 13 = .ok (.invokevirtual 95, 3) := by decide +kernel
theorem dX3_reasonOfNumber_16 : decode cX3_reasonOfNumber 16 = .ok (.aload_n 0, 1) := by decide +kernel
theorem dX3_reasonOfNumber_17 : decode cX3_reasonOfNumber 17 = .ok (.getfield 21, 3) := by decide +kernel
theorem dX3_reasonOfNumber_20 : decode cX3_reasonOfNumber 20 = .ok (.iconst 0, 1) := by decide +kernel
theorem dX3_reasonOfNumber_21 : decode cX3_reasonOfNumber 21 = .ok (.iaload, 1) := by decide +kernel
theorem dX3_reasonOfNumber_22 : decode cX3_reasonOfNumber 22 = .ok (.if_icmp .lt 7, 3) := by decide +kernel
theorem dX3_reasonOfNumber_25 : decode cX3_reasonOfNumber 25 = .ok (.iconst 2, 1) := by decide +kernel
theorem dX3_reasonOfNumber_26 : decode cX3_reasonOfNumber 26 = .ok (.goto 4, 3) := by decide +kernel
theorem dX3_reasonOfNumber_29 : decode cX3_reasonOfNumber 29 = .ok (.iconst 0, 1) := by decide +kernel
theorem dX3_reasonOfNumber_30 : decode cX3_reasonOfNumber 30 = .ok (.ireturn, 1) := by decide +kernel
theorem dX3_addPromise_0 : decode cX3_addPromise 0 = .ok (.aload_n 0, 1) := by decide +kernel
theorem dX3_addPromise_1 : decode cX3_addPromise 1 = .ok (.getfield 15, 3) := by decide +kernel
theorem dX3_addPromise_4 : decode cX3_addPromise 4 = .ok (.istore 5, 2) := by decide +kernel
theorem dX3_addPromise_6 : decode cX3_addPromise 6 = .ok (.aload_n 0, 1) := by decide +kernel
theorem dX3_addPromise_7 : decode cX3_addPromise 7 = .ok (.getfield 34, 3) := by decide +kernel
theorem dX3_addPromise_10 : decode cX3_addPromise 10 = .ok (.iload 5, 2) := by decide +kernel
theorem dX3_addPromise_12 : decode cX3_addPromise 12 = .ok (.iload_n 1, 1) := by decide +kernel
theorem dX3_addPromise_13 : decode cX3_addPromise 13 = .ok (.iastore, 1) := by decide +kernel
theorem dX3_addPromise_14 : decode cX3_addPromise 14 = .ok (.aload_n 0, 1) := by decide +kernel
theorem dX3_addPromise_15 : decode cX3_addPromise 15 = .ok (.getfield 37, 3) := by decide +kernel
theorem dX3_addPromise_18 : decode cX3_addPromise 18 = .ok (.iload 5, 2) := by decide +kernel
theorem dX3_addPromise_20 : decode cX3_addPromise 20 = .ok (.iload_n 2, 1) := by decide +kernel
theorem dX3_addPromise_21 : decode cX3_addPromise 21 = .ok (.iastore, 1) := by decide +kernel
theorem dX3_addPromise_22 : decode cX3_addPromise 22 = .ok (.aload_n 0, 1) := by decide +kernel
theorem dX3_addPromise_23 : decode cX3_addPromise 23 = .ok (.getfield 40, 3) := by decide +kernel
theorem dX3_addPromise_26 : decode cX3_addPromise 26 = .ok (.iload 5, 2) := by decide +kernel
theorem dX3_addPromise_28 : decode cX3_addPromise 28 = .ok (.iload_n 3, 1) := by decide +kernel
theorem dX3_addPromise_29 : decode cX3_addPromise 29 = .ok (.iastore, 1) := by decide +kernel
theorem dX3_addPromise_30 : decode cX3_addPromise 30 = .ok (.aload_n 0, 1) := by decide +kernel
theorem dX3_addPromise_31 : decode cX3_addPromise 31 = .ok (.getfield 43, 3) := by decide +kernel
theorem dX3_addPromise_34 : decode cX3_addPromise 34 = .ok (.iload 5, 2) := by decide +kernel
theorem dX3_addPromise_36 : decode cX3_addPromise 36 = .ok (.iload 4, 2) := by decide +kernel
theorem dX3_addPromise_38 : decode cX3_addPromise 38 = .ok (.iastore, 1) := by decide +kernel
theorem dX3_addPromise_39 : decode cX3_addPromise 39 = .ok (.aload_n 0, 1) := by decide +kernel
theorem dX3_addPromise_40 : decode cX3_addPromise 40 = .ok (.getfield 46, 3) := by decide +kernel
theorem dX3_addPromise_43 : decode cX3_addPromise 43 = .ok (.iload 5, 2) := by decide +kernel
theorem dX3_addPromise_45 : decode cX3_addPromise 45 = .ok (.aload_n 0, 1) := by decide +kernel
theorem dX3_addPromise_46 : decode cX3_addPromise 46 = .ok (.getfield 9, 3) := by decide +kernel
theorem dX3_addPromise_49 : decode cX3_addPromise 49 = .ok (.aload_n 0, 1) := by decide +kernel
theorem dX3_addPromise_50 : decode cX3_addPromise 50 = .ok (.getfield 21, 3) := by decide +kernel
theorem dX3_addPromise_53 : decode cX3_addPromise 53 = .ok (.iconst 1, 1) := by decide +kernel
theorem dX3_addPromise_54 : decode cX3_addPromise 54 = .ok (.iaload, 1) := by decide +kernel
theorem dX3_addPromise_55 : decode cX3_addPromise 55 = .ok (.iadd, 1) := by decide +kernel
theorem dX3_addPromise_56 : decode cX3_addPromise 56 = .ok (.iastore, 1) := by decide +kernel
theorem dX3_addPromise_57 : decode cX3_addPromise 57 = .ok (.aload_n 0, 1) := by decide +kernel
theorem dX3_addPromise_58 : decode cX3_addPromise 58 = .ok (.dup, 1) := by decide +kernel
theorem dX3_addPromise_59 : decode cX3_addPromise 59 = .ok (.getfield 15, 3) := by decide +kernel
theorem dX3_addPromise_62 : decode cX3_addPromise 62 = .ok (.iconst 1, 1) := by decide +kernel
theorem dX3_addPromise_63 : decode cX3_addPromise 63 = .ok (.iadd, 1) := by decide +kernel
theorem dX3_addPromise_64 : decode cX3_addPromise 64 = .ok (.putfield 15, 3) := by decide +kernel
theorem dX3_addPromise_67 : decode cX3_addPromise 67 = .ok (.aload_n 0, 1) := by decide +kernel
theorem dX3_addPromise_68 : decode cX3_addPromise 68 = .ok (.dup, 1) := by decide +kernel
theorem dX3_addPromise_69 : decode cX3_addPromise 69 = .ok (.getfield 18, 3) := by decide +kernel
theorem dX3_addPromise_72 : decode cX3_addPromise 72 = .ok (.iconst 1, 1) := by decide +kernel
theorem dX3_addPromise_73 : decode cX3_addPromise 73 = .ok (.iadd, 1) := by decide +kernel
theorem dX3_addPromise_74 : decode cX3_addPromise 74 = .ok (.putfield 18, 3) := by decide +kernel
theorem dX3_addPromise_77 : decode cX3_addPromise 77 = .ok (.iload 5, 2) := by decide +kernel
theorem dX3_addPromise_79 : decode cX3_addPromise 79 = .ok (.ireturn, 1) := by decide +kernel
theorem dX3_addToCounters_0 : decode cX3_addToCounters 0 = .ok (.aload_n 0, 1) := by decide +kernel
theorem dX3_addToCounters_1 : decode cX3_addToCounters 1 = .ok (.getfield 25, 3) := by decide +kernel
theorem dX3_addToCounters_4 : decode cX3_addToCounters 4 = .ok (.aload_n 0, 1) := by decide +kernel
theorem dX3_addToCounters_5 : decode cX3_addToCounters 5 = .ok (.getfield 37, 3) := by decide +kernel
theorem dX3_addToCounters_8 : decode cX3_addToCounters 8 = .ok (.iload_n 1, 1) := by decide +kernel
theorem dX3_addToCounters_9 : decode cX3_addToCounters 9 = .ok (.iaload, 1) := by decide +kernel
theorem dX3_addToCounters_10 : decode cX3_addToCounters 10 = .ok (.dup2, 1) := by decide +kernel
theorem dX3_addToCounters_11 : decode cX3_addToCounters 11 = .ok (.iaload, 1) := by decide +kernel
theorem dX3_addToCounters_12 : decode cX3_addToCounters 12 = .ok (.iload_n 2, 1) := by decide +kernel
theorem dX3_addToCounters_13 : decode cX3_addToCounters 13 = .ok (.iadd, 1) := by decide +kernel
theorem dX3_addToCounters_14 : decode cX3_addToCounters 14 = .ok (.iastore, 1) := by decide +kernel
theorem dX3_addToCounters_15 : decode cX3_addToCounters 15 = .ok (.aload_n 0, 1) := by decide +kernel
theorem dX3_addToCounters_16 : decode cX3_addToCounters 16 = .ok (.getfield 43, 3) := by decide +kernel
theorem dX3_addToCounters_19 : decode cX3_addToCounters 19 = .ok (.iload_n 1, 1) := by decide +kernel
theorem dX3_addToCounters_20 : decode cX3_addToCounters 20 = .ok (.iaload, 1) := by decide +kernel
theorem dX3_addToCounters_21 : decode cX3_addToCounters 21 = .ok (.iconst (-1), 1) := by decide +kernel
theorem dX3_addToCounters_22 : decode cX3_addToCounters 22 = .ok (.if_icmp .eq 18, 3) := by decide +kernel
theorem dX3_addToCounters_25 : decode cX3_addToCounters 25 = .ok (.aload_n 0, 1) := by decide +kernel
theorem dX3_addToCounters_26 : decode cX3_addToCounters 26 = .ok (.getfield 25, 3) := by decide +kernel
theorem dX3_addToCounters_29 : decode cX3_addToCounters 29 = .ok (.aload_n 0, 1) := by decide +kernel
theorem dX3_addToCounters_30 : decode cX3_addToCounters 30 = .ok (.getfield 43, 3) := by decide +kernel
theorem dX3_addToCounters_33 : decode cX3_addToCounters 33 = .ok (.iload_n 1, 1) := by decide +kernel
theorem dX3_addToCounters_34 : decode cX3_addToCounters 34 = .ok (.iaload, 1) := by decide +kernel
theorem dX3_addToCounters_35 : decode cX3_addToCounters 35 = .ok (.dup2, 1) := by decide +kernel
theorem dX3_addToCounters_36 : decode cX3_addToCounters 36 = .ok (.iaload, 1) := by decide +kernel
theorem dX3_addToCounters_37 : decode cX3_addToCounters 37 = .ok (.iload_n 2, 1) := by decide +kernel
theorem dX3_addToCounters_38 : decode cX3_addToCounters 38 = .ok (.isub, 1) := by decide +kernel
theorem dX3_addToCounters_39 : decode cX3_addToCounters 39 = .ok (.iastore, 1) := by decide +kernel
theorem dX3_addToCounters_40 : decode cX3_addToCounters 40 = .ok (.return_, 1) := by decide +kernel
set_option maxRecDepth 20000 in
theorem ggX3_settleWhole_X3_addToCounters : GoodIn wsX3_settleWhole wsX3_addToCounters := goodIn_r _ [8, 9, 10, 11, 18, 19, 20, 21, 22, 23, 24, 25, 26, 27, 28, 29, 30, 31, 32] (by decide +kernel) (by decide +kernel)
set_option maxRecDepth 20000 in
theorem gX3_settleWhole_X3_addToCounters : GoodIn wsX3_settleWhole (wsV RX3 98 RX3 yX3_addToCounters wsX3_addToCounters) := goodIn_app (goodIn_of _ (by decide +kernel)) ggX3_settleWhole_X3_addToCounters
set_option maxRecDepth 20000 in
theorem ggX3_settleWhole_X3_removeRow : GoodIn wsX3_settleWhole wsX3_removeRow := goodIn_r _ [15, 16, 3, 10, 1, 11, 17, 18, 19, 20, 21, 22, 23, 24, 25, 26, 27, 28, 29, 30, 31, 32] (by decide +kernel) (by decide +kernel)
set_option maxRecDepth 20000 in
theorem gX3_settleWhole_X3_removeRow : GoodIn wsX3_settleWhole (wsV RX3 102 RX3 yX3_removeRow wsX3_removeRow) := goodIn_app (goodIn_of _ (by decide +kernel)) ggX3_settleWhole_X3_removeRow
theorem dX3_settleWhole_0 : decode cX3_settleWhole 0 = .ok (.aload_n 0, 1) := by decide +kernel
theorem dX3_settleWhole_1 : decode cX3_settleWhole 1 = .ok (.iload_n 1, 1) := by decide +kernel
theorem dX3_settleWhole_2 : decode cX3_settleWhole 2 = .ok (.aload_n 0, 1) := by decide +kernel
theorem dX3_settleWhole_3 : decode cX3_settleWhole 3 = .ok (.getfield 40, 3) := by decide +kernel
theorem dX3_settleWhole_6 : decode cX3_settleWhole 6 = .ok (.iload_n 1, 1) := by decide +kernel
theorem dX3_settleWhole_7 : decode cX3_settleWhole 7 = .ok (.iaload, 1) := by decide +kernel
theorem dX3_settleWhole_8 : decode cX3_settleWhole 8 = .ok (.invokevirtual 98, 3) := by decide +kernel
theorem dX3_settleWhole_11 : decode cX3_settleWhole 11 = .ok (.aload_n 0, 1) := by decide +kernel
theorem dX3_settleWhole_12 : decode cX3_settleWhole 12 = .ok (.getfield 49, 3) := by decide +kernel
theorem dX3_settleWhole_15 : decode cX3_settleWhole 15 = .ok (.aload_n 0, 1) := by decide +kernel
theorem dX3_settleWhole_16 : decode cX3_settleWhole 16 = .ok (.getfield 34, 3) := by decide +kernel
theorem dX3_settleWhole_19 : decode cX3_settleWhole 19 = .ok (.iload_n 1, 1) := by decide +kernel
theorem dX3_settleWhole_20 : decode cX3_settleWhole 20 = .ok (.iaload, 1) := by decide +kernel
theorem dX3_settleWhole_21 : decode cX3_settleWhole 21 = .ok (.dup2, 1) := by decide +kernel
theorem dX3_settleWhole_22 : decode cX3_settleWhole 22 = .ok (.iaload, 1) := by decide +kernel
theorem dX3_settleWhole_23 : decode cX3_settleWhole 23 = .ok (.iconst 1, 1) := by decide +kernel
theorem dX3_settleWhole_24 : decode cX3_settleWhole 24 = .ok (.iadd, 1) := by decide +kernel
theorem dX3_settleWhole_25 : decode cX3_settleWhole 25 = .ok (.iastore, 1) := by decide +kernel
theorem dX3_settleWhole_26 : decode cX3_settleWhole 26 = .ok (.aload_n 0, 1) := by decide +kernel
theorem dX3_settleWhole_27 : decode cX3_settleWhole 27 = .ok (.iload_n 1, 1) := by decide +kernel
theorem dX3_settleWhole_28 : decode cX3_settleWhole 28 = .ok (.invokevirtual 102, 3) := by decide +kernel
theorem dX3_settleWhole_31 : decode cX3_settleWhole 31 = .ok (.return_, 1) := by decide +kernel
set_option maxRecDepth 20000 in
theorem ggX3_cancelWhole_X3_removeRow : GoodIn wsX3_cancelWhole wsX3_removeRow := goodIn_r _ [7, 8, 2, 9, 10, 11, 12, 13, 14, 15, 16, 17, 18, 19, 20, 21, 22, 23, 24, 25, 26, 27] (by decide +kernel) (by decide +kernel)
set_option maxRecDepth 20000 in
theorem gX3_cancelWhole_X3_removeRow : GoodIn wsX3_cancelWhole (wsV RX3 102 RX3 yX3_removeRow wsX3_removeRow) := goodIn_app (goodIn_of _ (by decide +kernel)) ggX3_cancelWhole_X3_removeRow
theorem dX3_cancelWhole_0 : decode cX3_cancelWhole 0 = .ok (.aload_n 0, 1) := by decide +kernel
theorem dX3_cancelWhole_1 : decode cX3_cancelWhole 1 = .ok (.getfield 52, 3) := by decide +kernel
theorem dX3_cancelWhole_4 : decode cX3_cancelWhole 4 = .ok (.aload_n 0, 1) := by decide +kernel
theorem dX3_cancelWhole_5 : decode cX3_cancelWhole 5 = .ok (.getfield 34, 3) := by decide +kernel
theorem dX3_cancelWhole_8 : decode cX3_cancelWhole 8 = .ok (.iload_n 1, 1) := by decide +kernel
theorem dX3_cancelWhole_9 : decode cX3_cancelWhole 9 = .ok (.iaload, 1) := by decide +kernel
theorem dX3_cancelWhole_10 : decode cX3_cancelWhole 10 = .ok (.dup2, 1) := by decide +kernel
theorem dX3_cancelWhole_11 : decode cX3_cancelWhole 11 = .ok (.iaload, 1) := by decide +kernel
theorem dX3_cancelWhole_12 : decode cX3_cancelWhole 12 = .ok (.iconst 1, 1) := by decide +kernel
theorem dX3_cancelWhole_13 : decode cX3_cancelWhole 13 = .ok (.iadd, 1) := by decide +kernel
theorem dX3_cancelWhole_14 : decode cX3_cancelWhole 14 = .ok (.iastore, 1) := by decide +kernel
theorem dX3_cancelWhole_15 : decode cX3_cancelWhole 15 = .ok (.aload_n 0, 1) := by decide +kernel
theorem dX3_cancelWhole_16 : decode cX3_cancelWhole 16 = .ok (.iload_n 1, 1) := by decide +kernel
theorem dX3_cancelWhole_17 : decode cX3_cancelWhole 17 = .ok (.invokevirtual 102, 3) := by decide +kernel
theorem dX3_cancelWhole_20 : decode cX3_cancelWhole 20 = .ok (.return_, 1) := by decide +kernel
set_option maxRecDepth 20000 in
theorem ggX3_lapse_X3_removeRow : GoodIn wsX3_lapse wsX3_removeRow := goodIn_r _ [7, 8, 2, 9, 10, 11, 12, 13, 14, 15, 16, 17, 18, 19, 20, 21, 22, 23, 24, 25, 26, 27] (by decide +kernel) (by decide +kernel)
set_option maxRecDepth 20000 in
theorem gX3_lapse_X3_removeRow : GoodIn wsX3_lapse (wsV RX3 102 RX3 yX3_removeRow wsX3_removeRow) := goodIn_app (goodIn_of _ (by decide +kernel)) ggX3_lapse_X3_removeRow
theorem dX3_lapse_0 : decode cX3_lapse 0 = .ok (.aload_n 0, 1) := by decide +kernel
theorem dX3_lapse_1 : decode cX3_lapse 1 = .ok (.getfield 55, 3) := by decide +kernel
theorem dX3_lapse_4 : decode cX3_lapse 4 = .ok (.aload_n 0, 1) := by decide +kernel
theorem dX3_lapse_5 : decode cX3_lapse 5 = .ok (.getfield 34, 3) := by decide +kernel
theorem dX3_lapse_8 : decode cX3_lapse 8 = .ok (.iload_n 1, 1) := by decide +kernel
theorem dX3_lapse_9 : decode cX3_lapse 9 = .ok (.iaload, 1) := by decide +kernel
theorem dX3_lapse_10 : decode cX3_lapse 10 = .ok (.dup2, 1) := by decide +kernel
theorem dX3_lapse_11 : decode cX3_lapse 11 = .ok (.iaload, 1) := by decide +kernel
theorem dX3_lapse_12 : decode cX3_lapse 12 = .ok (.iconst 1, 1) := by decide +kernel
theorem dX3_lapse_13 : decode cX3_lapse 13 = .ok (.iadd, 1) := by decide +kernel
theorem dX3_lapse_14 : decode cX3_lapse 14 = .ok (.iastore, 1) := by decide +kernel
theorem dX3_lapse_15 : decode cX3_lapse 15 = .ok (.aload_n 0, 1) := by decide +kernel
theorem dX3_lapse_16 : decode cX3_lapse 16 = .ok (.iload_n 1, 1) := by decide +kernel
theorem dX3_lapse_17 : decode cX3_lapse 17 = .ok (.invokevirtual 102, 3) := by decide +kernel
theorem dX3_lapse_20 : decode cX3_lapse 20 = .ok (.return_, 1) := by decide +kernel
theorem dX3_removeRow_0 : decode cX3_removeRow 0 = .ok (.aload_n 0, 1) := by decide +kernel
theorem dX3_removeRow_1 : decode cX3_removeRow 1 = .ok (.dup, 1) := by decide +kernel
theorem dX3_removeRow_2 : decode cX3_removeRow 2 = .ok (.getfield 15, 3) := by decide +kernel
theorem dX3_removeRow_5 : decode cX3_removeRow 5 = .ok (.iconst 1, 1) := by decide +kernel
theorem dX3_removeRow_6 : decode cX3_removeRow 6 = .ok (.isub, 1) := by decide +kernel
theorem dX3_removeRow_7 : decode cX3_removeRow 7 = .ok (.putfield 15, 3) := by decide +kernel
theorem dX3_removeRow_10 : decode cX3_removeRow 10 = .ok (.iload_n 1, 1) := by decide +kernel
theorem dX3_removeRow_11 : decode cX3_removeRow 11 = .ok (.istore_n 2, 1) := by decide +kernel
theorem dX3_removeRow_12 : decode cX3_removeRow 12 = .ok (.iload_n 2, 1) := by decide +kernel
theorem dX3_removeRow_13 : decode cX3_removeRow 13 = .ok (.aload_n 0, 1) := by decide +kernel
theorem dX3_removeRow_14 : decode cX3_removeRow 14 = .ok (.getfield 15, 3) := by decide +kernel
theorem dX3_removeRow_17 : decode cX3_removeRow 17 = .ok (.if_icmp .ge 79, 3) := by decide +kernel
theorem dX3_removeRow_20 : decode cX3_removeRow 20 = .ok (.aload_n 0, 1) := by decide +kernel
theorem dX3_removeRow_21 : decode cX3_removeRow 21 = .ok (.getfield 34, 3) := by decide +kernel
theorem dX3_removeRow_24 : decode cX3_removeRow 24 = .ok (.iload_n 2, 1) := by decide +kernel
theorem dX3_removeRow_25 : decode cX3_removeRow 25 = .ok (.aload_n 0, 1) := by decide +kernel
theorem dX3_removeRow_26 : decode cX3_removeRow 26 = .ok (.getfield 34, 3) := by decide +kernel
theorem dX3_removeRow_29 : decode cX3_removeRow 29 = .ok (.iload_n 2, 1) := by decide +kernel
theorem dX3_removeRow_30 : decode cX3_removeRow 30 = .ok (.iconst 1, 1) := by decide +kernel
theorem dX3_removeRow_31 : decode cX3_removeRow 31 = .ok (.iadd, 1) := by decide +kernel
theorem dX3_removeRow_32 : decode cX3_removeRow 32 = .ok (.iaload, 1) := by decide +kernel
theorem dX3_removeRow_33 : decode cX3_removeRow 33 = .ok (.iastore, 1) := by decide +kernel
theorem dX3_removeRow_34 : decode cX3_removeRow 34 = .ok (.aload_n 0, 1) := by decide +kernel
theorem dX3_removeRow_35 : decode cX3_removeRow 35 = .ok (.getfield 37, 3) := by decide +kernel
theorem dX3_removeRow_38 : decode cX3_removeRow 38 = .ok (.iload_n 2, 1) := by decide +kernel
theorem dX3_removeRow_39 : decode cX3_removeRow 39 = .ok (.aload_n 0, 1) := by decide +kernel
theorem dX3_removeRow_40 : decode cX3_removeRow 40 = .ok (.getfield 37, 3) := by decide +kernel
theorem dX3_removeRow_43 : decode cX3_removeRow 43 = .ok (.iload_n 2, 1) := by decide +kernel
theorem dX3_removeRow_44 : decode cX3_removeRow 44 = .ok (.iconst 1, 1) := by decide +kernel
theorem dX3_removeRow_45 : decode cX3_removeRow 45 = .ok (.iadd, 1) := by decide +kernel
theorem dX3_removeRow_46 : decode cX3_removeRow 46 = .ok (.iaload, 1) := by decide +kernel
theorem dX3_removeRow_47 : decode cX3_removeRow 47 = .ok (.iastore, 1) := by decide +kernel
theorem dX3_removeRow_48 : decode cX3_removeRow 48 = .ok (.aload_n 0, 1) := by decide +kernel
theorem dX3_removeRow_49 : decode cX3_removeRow 49 = .ok (.getfield 40, 3) := by decide +kernel
theorem dX3_removeRow_52 : decode cX3_removeRow 52 = .ok (.iload_n 2, 1) := by decide +kernel
theorem dX3_removeRow_53 : decode cX3_removeRow 53 = .ok (.aload_n 0, 1) := by decide +kernel
theorem dX3_removeRow_54 : decode cX3_removeRow 54 = .ok (.getfield 40, 3) := by decide +kernel
theorem dX3_removeRow_57 : decode cX3_removeRow 57 = .ok (.iload_n 2, 1) := by decide +kernel
theorem dX3_removeRow_58 : decode cX3_removeRow 58 = .ok (.iconst 1, 1) := by decide +kernel
theorem dX3_removeRow_59 : decode cX3_removeRow 59 = .ok (.iadd, 1) := by decide +kernel
theorem dX3_removeRow_60 : decode cX3_removeRow 60 = .ok (.iaload, 1) := by decide +kernel
theorem dX3_removeRow_61 : decode cX3_removeRow 61 = .ok (.iastore, 1) := by decide +kernel
theorem dX3_removeRow_62 : decode cX3_removeRow 62 = .ok (.aload_n 0, 1) := by decide +kernel
theorem dX3_removeRow_63 : decode cX3_removeRow 63 = .ok (.getfield 43, 3) := by decide +kernel
theorem dX3_removeRow_66 : decode cX3_removeRow 66 = .ok (.iload_n 2, 1) := by decide +kernel
theorem dX3_removeRow_67 : decode cX3_removeRow 67 = .ok (.aload_n 0, 1) := by decide +kernel
theorem dX3_removeRow_68 : decode cX3_removeRow 68 = .ok (.getfield 43, 3) := by decide +kernel
theorem dX3_removeRow_71 : decode cX3_removeRow 71 = .ok (.iload_n 2, 1) := by decide +kernel
theorem dX3_removeRow_72 : decode cX3_removeRow 72 = .ok (.iconst 1, 1) := by decide +kernel
theorem dX3_removeRow_73 : decode cX3_removeRow 73 = .ok (.iadd, 1) := by decide +kernel
theorem dX3_removeRow_74 : decode cX3_removeRow 74 = .ok (.iaload, 1) := by decide +kernel
theorem dX3_removeRow_75 : decode cX3_removeRow 75 = .ok (.iastore, 1) := by decide +kernel
theorem dX3_removeRow_76 : decode cX3_removeRow 76 = .ok (.aload_n 0, 1) := by decide +kernel
theorem dX3_removeRow_77 : decode cX3_removeRow 77 = .ok (.getfield 46, 3) := by decide +kernel
theorem dX3_removeRow_80 : decode cX3_removeRow 80 = .ok (.iload_n 2, 1) := by decide +kernel
theorem dX3_removeRow_81 : decode cX3_removeRow 81 = .ok (.aload_n 0, 1) := by decide +kernel
theorem dX3_removeRow_82 : decode cX3_removeRow 82 = .ok (.getfield 46, 3) := by decide +kernel
theorem dX3_removeRow_85 : decode cX3_removeRow 85 = .ok (.iload_n 2, 1) := by decide +kernel
theorem dX3_removeRow_86 : decode cX3_removeRow 86 = .ok (.iconst 1, 1) := by decide +kernel
theorem dX3_removeRow_87 : decode cX3_removeRow 87 = .ok (.iadd, 1) := by decide +kernel
theorem dX3_removeRow_88 : decode cX3_removeRow 88 = .ok (.iaload, 1) := by decide +kernel
theorem dX3_removeRow_89 : decode cX3_removeRow 89 = .ok (.iastore, 1) := by decide +kernel
theorem dX3_removeRow_90 : decode cX3_removeRow 90 = .ok (.iinc 2 1, 3) := by decide +kernel
theorem dX3_removeRow_93 : decode cX3_removeRow 93 = .ok (.goto (-81), 3) := by decide +kernel
theorem dX3_removeRow_96 : decode cX3_removeRow 96 = .ok (.return_, 1) := by decide +kernel
set_option maxRecDepth 20000 in
theorem ggX4_init_X3_init : GoodIn wsX4_init wsX3_init := goodIn_r _ [24, 25, 2, 3, 26, 27, 28, 29, 30, 31, 32, 33, 34, 35, 36, 37, 38, 39, 40, 41, 61, 62, 63, 64, 65, 66, 67, 68, 69, 70, 71, 72, 73, 74, 75] (by decide +kernel) (by decide +kernel)
set_option maxRecDepth 20000 in
theorem gX4_init_X3_init_n9 : GoodIn wsX4_init (wsX3_init) := ggX4_init_X3_init
set_option maxRecDepth 20000 in
theorem ggX4_init_X2_init : GoodIn wsX4_init wsX2_init := goodIn_r _ [43, 44, 2, 3, 45, 5, 6, 46, 47, 23, 24, 25, 26, 27, 28, 29, 30, 31, 32, 33, 34, 35, 36, 37, 38, 39, 40, 41, 61, 62, 63, 64, 65, 66, 67, 68, 69, 70, 71, 72, 73, 74, 75, 82, 83] (by decide +kernel) (by decide +kernel)
set_option maxRecDepth 20000 in
theorem gX4_init_X2_init_n18 : GoodIn wsX4_init (wsX2_init) := ggX4_init_X2_init
set_option maxRecDepth 20000 in
theorem ggX4_init_X1_init : GoodIn wsX4_init wsX1_init := goodIn_r _ [49, 50, 2, 3, 29, 51, 84] (by decide +kernel) (by decide +kernel)
set_option maxRecDepth 20000 in
theorem gX4_init_X1_init_n25 : GoodIn wsX4_init (wsX1_init) := ggX4_init_X1_init
set_option maxRecDepth 20000 in
theorem ggX4_init_X0_init : GoodIn wsX4_init wsX0_init := goodIn_r _ [53, 54, 2, 3, 55, 56, 57, 58, 59, 60, 85, 86, 87, 88, 89, 90] (by decide +kernel) (by decide +kernel)
set_option maxRecDepth 20000 in
theorem gX4_init_X0_init_n32 : GoodIn wsX4_init (wsX0_init) := ggX4_init_X0_init
theorem dX4_init_0 : decode cX4_init 0 = .ok (.aload_n 0, 1) := by decide +kernel
theorem dX4_init_1 : decode cX4_init 1 = .ok (.invokespecial 1, 3) := by decide +kernel
theorem dX4_init_4 : decode cX4_init 4 = .ok (.aload_n 0, 1) := by decide +kernel
theorem dX4_init_5 : decode cX4_init 5 = .ok (.new 7, 3) := by decide +kernel
theorem dX4_init_8 : decode cX4_init 8 = .ok (.dup, 1) := by decide +kernel
theorem dX4_init_9 : decode cX4_init 9 = .ok (.invokespecial 9, 3) := by decide +kernel
theorem dX4_init_12 : decode cX4_init 12 = .ok (.putfield 10, 3) := by decide +kernel
theorem dX4_init_15 : decode cX4_init 15 = .ok (.aload_n 0, 1) := by decide +kernel
theorem dX4_init_16 : decode cX4_init 16 = .ok (.new 16, 3) := by decide +kernel
theorem dX4_init_19 : decode cX4_init 19 = .ok (.dup, 1) := by decide +kernel
theorem dX4_init_20 : decode cX4_init 20 = .ok (.invokespecial 18, 3) := by decide +kernel
theorem dX4_init_23 : decode cX4_init 23 = .ok (.putfield 19, 3) := by decide +kernel
theorem dX4_init_26 : decode cX4_init 26 = .ok (.aload_n 0, 1) := by decide +kernel
theorem dX4_init_27 : decode cX4_init 27 = .ok (.new 23, 3) := by decide +kernel
theorem dX4_init_30 : decode cX4_init 30 = .ok (.dup, 1) := by decide +kernel
theorem dX4_init_31 : decode cX4_init 31 = .ok (.invokespecial 25, 3) := by decide +kernel
theorem dX4_init_34 : decode cX4_init 34 = .ok (.putfield 26, 3) := by decide +kernel
theorem dX4_init_37 : decode cX4_init 37 = .ok (.aload_n 0, 1) := by decide +kernel
theorem dX4_init_38 : decode cX4_init 38 = .ok (.new 30, 3) := by decide +kernel
theorem dX4_init_41 : decode cX4_init 41 = .ok (.dup, 1) := by decide +kernel
theorem dX4_init_42 : decode cX4_init 42 = .ok (.invokespecial 32, 3) := by decide +kernel
theorem dX4_init_45 : decode cX4_init 45 = .ok (.putfield 33, 3) := by decide +kernel
theorem dX4_init_48 : decode cX4_init 48 = .ok (.aload_n 0, 1) := by decide +kernel
theorem dX4_init_49 : decode cX4_init 49 = .ok (.bipush 60, 2) := by decide +kernel
theorem dX4_init_51 : decode cX4_init 51 = .ok (.newarray .char, 2) := by decide +kernel
theorem dX4_init_53 : decode cX4_init 53 = .ok (.putfield 37, 3) := by decide +kernel
theorem dX4_init_56 : decode cX4_init 56 = .ok (.aload_n 0, 1) := by decide +kernel
theorem dX4_init_57 : decode cX4_init 57 = .ok (.iconst 0, 1) := by decide +kernel
theorem dX4_init_58 : decode cX4_init 58 = .ok (.putfield 41, 3) := by decide +kernel
theorem dX4_init_61 : decode cX4_init 61 = .ok (.return_, 1) := by decide +kernel
set_option maxRecDepth 20000 in
theorem ggX4_bounds_X4_checkIndex : GoodIn wsX4_bounds wsX4_checkIndex := goodIn_ca (goodIn_r _ [10, 11, 12] (by decide +kernel) (by decide +kernel)) (goodIn_sub (fun _ h => List.mem_cons_of_mem _ (List.mem_append_left _ (List.mem_append_right _ h))) (by decide +kernel))
set_option maxRecDepth 20000 in
theorem gX4_bounds_X4_checkIndex : GoodIn wsX4_bounds (va_wsS RX4 45 yX4_checkIndex wsX4_checkIndex) := goodIn_app (goodIn_of _ (by decide +kernel)) ggX4_bounds_X4_checkIndex
set_option maxRecDepth 20000 in
theorem ggX4_bounds_X4_checkArgument : GoodIn wsX4_bounds wsX4_checkArgument := goodIn_ca (goodIn_r _ [15, 16, 17] (by decide +kernel) (by decide +kernel)) (goodIn_sub (fun _ h => List.mem_cons_of_mem _ (List.mem_append_right _ h)) (by decide +kernel))
set_option maxRecDepth 20000 in
theorem gX4_bounds_X4_checkArgument : GoodIn wsX4_bounds (va_wsS RX4 49 yX4_checkArgument wsX4_checkArgument) := goodIn_app (goodIn_of _ (by decide +kernel)) ggX4_bounds_X4_checkArgument
set_option maxRecDepth 20000 in
theorem ggX4_bounds_X3_lowOf : GoodIn wsX4_bounds wsX3_lowOf := goodIn_r _ [22, 23, 24, 25, 26, 21, 27, 28, 29, 30, 31, 32, 33, 34, 35, 36, 37, 38, 39, 40, 41, 82, 83, 84, 85, 86, 87, 88, 89, 90, 91, 92, 93, 94, 95, 96] (by decide +kernel) (by decide +kernel)
set_option maxRecDepth 20000 in
theorem gX4_bounds_X3_lowOf : GoodIn wsX4_bounds (wsV RX4 53 RX3 yX3_lowOf wsX3_lowOf) := goodIn_app (goodIn_of _ (by decide +kernel)) ggX4_bounds_X3_lowOf
set_option maxRecDepth 20000 in
theorem ggX4_bounds_X3_highOf : GoodIn wsX4_bounds wsX3_highOf := goodIn_r _ [45, 28, 29, 46, 47, 33, 48, 35, 36, 37, 21, 38, 39, 40, 41, 82, 83, 84, 85, 86, 87, 88, 89, 90, 91, 92, 93, 94, 95, 96] (by decide +kernel) (by decide +kernel)
set_option maxRecDepth 20000 in
theorem gX4_bounds_X3_highOf : GoodIn wsX4_bounds (wsV RX4 57 RX3 yX3_highOf wsX3_highOf) := goodIn_app (goodIn_of _ (by decide +kernel)) ggX4_bounds_X3_highOf
set_option maxRecDepth 20000 in
theorem ggX4_bounds_X2_save : GoodIn wsX4_bounds wsX2_save := goodIn_r _ [53, 54, 55, 56, 57, 58, 52, 59, 60, 61, 62, 21, 63, 23, 29, 64, 65, 66, 67, 68, 69, 28, 70, 71, 72, 39, 40, 41, 30, 73, 74, 75, 97, 98, 82, 83, 84, 85, 86, 87, 88, 89, 90, 91, 92, 93, 94, 95, 96] (by decide +kernel) (by decide +kernel)
set_option maxRecDepth 20000 in
theorem gX4_bounds_X2_save : GoodIn wsX4_bounds (wsV RX4 67 RX2 yX2_save wsX2_save) := goodIn_app (goodIn_of _ (by decide +kernel)) ggX4_bounds_X2_save
theorem dX4_bounds_0 : decode cX4_bounds 0 = .ok (.iload_n 1, 1) := by decide +kernel
theorem dX4_bounds_1 : decode cX4_bounds 1 = .ok (.iconst 4, 1) := by decide +kernel
theorem dX4_bounds_2 : decode cX4_bounds 2 = .ok (.invokestatic 45, 3) := by decide +kernel
theorem dX4_bounds_5 : decode cX4_bounds 5 = .ok (.iload_n 2, 1) := by decide +kernel
theorem dX4_bounds_6 : decode cX4_bounds 6 = .ok (.sipush (-999), 3) := by decide +kernel
theorem dX4_bounds_9 : decode cX4_bounds 9 = .ok (.sipush 999, 3) := by decide +kernel
theorem dX4_bounds_12 : decode cX4_bounds 12 = .ok (.invokestatic 49, 3) := by decide +kernel
theorem dX4_bounds_15 : decode cX4_bounds 15 = .ok (.iload_n 3, 1) := by decide +kernel
theorem dX4_bounds_16 : decode cX4_bounds 16 = .ok (.iload_n 2, 1) := by decide +kernel
theorem dX4_bounds_17 : decode cX4_bounds 17 = .ok (.sipush 999, 3) := by decide +kernel
theorem dX4_bounds_20 : decode cX4_bounds 20 = .ok (.invokestatic 49, 3) := by decide +kernel
theorem dX4_bounds_23 : decode cX4_bounds 23 = .ok (.aload_n 0, 1) := by decide +kernel
theorem dX4_bounds_24 : decode cX4_bounds 24 = .ok (.getfield 10, 3) := by decide +kernel
theorem dX4_bounds_27 : decode cX4_bounds 27 = .ok (.iload_n 1, 1) := by decide +kernel
theorem dX4_bounds_28 : decode cX4_bounds 28 = .ok (.invokevirtual 53, 3) := by decide +kernel
theorem dX4_bounds_31 : decode cX4_bounds 31 = .ok (.iload_n 2, 1) := by decide +kernel
theorem dX4_bounds_32 : decode cX4_bounds 32 = .ok (.if_icmp .lt 15, 3) := by decide +kernel
theorem dX4_bounds_35 : decode cX4_bounds 35 = .ok (.aload_n 0, 1) := by decide +kernel
theorem dX4_bounds_36 : decode cX4_bounds 36 = .ok (.getfield 10, 3) := by decide +kernel
theorem dX4_bounds_39 : decode cX4_bounds 39 = .ok (.iload_n 1, 1) := by decide +kernel
theorem dX4_bounds_40 : decode cX4_bounds 40 = .ok (.invokevirtual 57, 3) := by decide +kernel
theorem dX4_bounds_43 : decode cX4_bounds 43 = .ok (.iload_n 3, 1) := by decide +kernel
theorem dX4_bounds_44 : decode cX4_bounds 44 = .ok (.if_icmp .le 13, 3) := by decide +kernel
theorem dX4_bounds_47 : decode cX4_bounds 47 = .ok (.new 60, 3) := by decide +kernel
theorem dX4_bounds_50 : decode cX4_bounds 50 = .ok (.dup, 1) := by decide +kernel
theorem dX4_bounds_51 : decode cX4_bounds 51 = .ok (.ldc 62, 2) := by decide +kernel
theorem dX4_bounds_53 : decode cX4_bounds 53 = .ok (.invokespecial 64, 3) := by decide +kernel
theorem dX4_bounds_56 : decode cX4_bounds 56 = .ok (.athrow, 1) := by decide +kernel
theorem dX4_bounds_57 : decode cX4_bounds 57 = .ok (.aload_n 0, 1) := by decide +kernel
theorem dX4_bounds_58 : decode cX4_bounds 58 = .ok (.getfield 19, 3) := by decide +kernel
theorem dX4_bounds_61 : decode cX4_bounds 61 = .ok (.aload_n 0, 1) := by decide +kernel
theorem dX4_bounds_62 : decode cX4_bounds 62 = .ok (.getfield 10, 3) := by decide +kernel
theorem dX4_bounds_65 : decode cX4_bounds 65 = .ok (.invokevirtual 67, 3) := by decide +kernel
theorem dX4_bounds_68 : decode cX4_bounds 68 = .ok (.aload_n 0, 1) := by decide +kernel
theorem dX4_bounds_69 : decode cX4_bounds 69 = .ok (.getfield 10, 3) := by decide +kernel
theorem dX4_bounds_72 : decode cX4_bounds 72 = .ok (.getfield 71, 3) := by decide +kernel
theorem dX4_bounds_75 : decode cX4_bounds 75 = .ok (.iload_n 1, 1) := by decide +kernel
theorem dX4_bounds_76 : decode cX4_bounds 76 = .ok (.iaload, 1) := by decide +kernel
theorem dX4_bounds_77 : decode cX4_bounds 77 = .ok (.aload_n 0, 1) := by decide +kernel
theorem dX4_bounds_78 : decode cX4_bounds 78 = .ok (.getfield 10, 3) := by decide +kernel
theorem dX4_bounds_81 : decode cX4_bounds 81 = .ok (.getfield 75, 3) := by decide +kernel
theorem dX4_bounds_84 : decode cX4_bounds 84 = .ok (.iload_n 1, 1) := by decide +kernel
theorem dX4_bounds_85 : decode cX4_bounds 85 = .ok (.iaload, 1) := by decide +kernel
theorem dX4_bounds_86 : decode cX4_bounds 86 = .ok (.isub, 1) := by decide +kernel
theorem dX4_bounds_87 : decode cX4_bounds 87 = .ok (.istore 4, 2) := by decide +kernel
theorem dX4_bounds_89 : decode cX4_bounds 89 = .ok (.aload_n 0, 1) := by decide +kernel
theorem dX4_bounds_90 : decode cX4_bounds 90 = .ok (.getfield 10, 3) := by decide +kernel
theorem dX4_bounds_93 : decode cX4_bounds 93 = .ok (.getfield 75, 3) := by decide +kernel
theorem dX4_bounds_96 : decode cX4_bounds 96 = .ok (.iload_n 1, 1) := by decide +kernel
theorem dX4_bounds_97 : decode cX4_bounds 97 = .ok (.iload_n 2, 1) := by decide +kernel
theorem dX4_bounds_98 : decode cX4_bounds 98 = .ok (.iastore, 1) := by decide +kernel
theorem dX4_bounds_99 : decode cX4_bounds 99 = .ok (.aload_n 0, 1) := by decide +kernel
theorem dX4_bounds_100 : decode cX4_bounds 100 = .ok (.getfield 10, 3) := by decide +kernel
theorem dX4_bounds_103 : decode cX4_bounds 103 = .ok (.getfield 71, 3) := by decide +kernel
theorem dX4_bounds_106 : decode cX4_bounds 106 = .ok (.iload_n 1, 1) := by decide +kernel
theorem dX4_bounds_107 : decode cX4_bounds 107 = .ok (.iload_n 3, 1) := by decide +kernel
theorem dX4_bounds_108 : decode cX4_bounds 108 = .ok (.iastore, 1) := by decide +kernel
theorem dX4_bounds_109 : decode cX4_bounds 109 = .ok (.iload 4, 2) := by decide +kernel
theorem dX4_bounds_111 : decode cX4_bounds 111 = .ok (.ireturn, 1) := by decide +kernel
set_option maxRecDepth 20000 in
theorem ggX4_set_X4_checkIndex : GoodIn wsX4_set wsX4_checkIndex := goodIn_ca (goodIn_r _ [7, 8, 9] (by decide +kernel) (by decide +kernel)) (goodIn_sub (fun _ h => List.mem_cons_of_mem _ (List.mem_append_left _ (List.mem_append_right _ h))) (by decide +kernel))
set_option maxRecDepth 20000 in
theorem gX4_set_X4_checkIndex : GoodIn wsX4_set (va_wsS RX4 45 yX4_checkIndex wsX4_checkIndex) := goodIn_app (goodIn_of _ (by decide +kernel)) ggX4_set_X4_checkIndex
set_option maxRecDepth 20000 in
theorem ggX4_set_X4_checkArgument : GoodIn wsX4_set wsX4_checkArgument := goodIn_ca (goodIn_r _ [12, 13, 14] (by decide +kernel) (by decide +kernel)) (goodIn_sub (fun _ h => List.mem_cons_of_mem _ (List.mem_append_right _ h)) (by decide +kernel))
set_option maxRecDepth 20000 in
theorem gX4_set_X4_checkArgument : GoodIn wsX4_set (va_wsS RX4 49 yX4_checkArgument wsX4_checkArgument) := goodIn_app (goodIn_of _ (by decide +kernel)) ggX4_set_X4_checkArgument
set_option maxRecDepth 20000 in
theorem ggX4_set_X2_save : GoodIn wsX4_set wsX2_save := goodIn_r _ [19, 20, 21, 22, 23, 24, 18, 25, 26, 27, 28, 29, 30, 31, 32, 33, 34, 35, 36, 37, 38, 39, 40, 41, 42, 43, 44, 45, 46, 47, 48, 49, 71, 72, 56, 57, 58, 59, 60, 61, 62, 63, 64, 65, 66, 67, 68, 69, 70] (by decide +kernel) (by decide +kernel)
set_option maxRecDepth 20000 in
theorem gX4_set_X2_save : GoodIn wsX4_set (wsV RX4 67 RX2 yX2_save wsX2_save) := goodIn_app (goodIn_of _ (by decide +kernel)) ggX4_set_X2_save
theorem dX4_set_0 : decode cX4_set 0 = .ok (.iload_n 1, 1) := by decide +kernel
theorem dX4_set_1 : decode cX4_set 1 = .ok (.iconst 2, 1) := by decide +kernel
theorem dX4_set_2 : decode cX4_set 2 = .ok (.invokestatic 45, 3) := by decide +kernel
theorem dX4_set_5 : decode cX4_set 5 = .ok (.iload_n 2, 1) := by decide +kernel
theorem dX4_set_6 : decode cX4_set 6 = .ok (.iconst 1, 1) := by decide +kernel
theorem dX4_set_7 : decode cX4_set 7 = .ok (.iload_n 1, 1) := by decide +kernel
theorem dX4_set_8 : decode cX4_set 8 = .ok (.ifCond .ne 8, 3) := by decide +kernel
theorem dX4_set_11 : decode cX4_set 11 = .ok (.bipush 16, 2) := by decide +kernel
theorem dX4_set_13 : decode cX4_set 13 = .ok (.goto 5, 3) := by decide +kernel
theorem dX4_set_16 : decode cX4_set 16 = .ok (.bipush 99, 2) := by decide +kernel
theorem dX4_set_18 : decode cX4_set 18 = .ok (.invokestatic 49, 3) := by decide +kernel
theorem dX4_set_21 : decode cX4_set 21 = .ok (.aload_n 0, 1) := by decide +kernel
theorem dX4_set_22 : decode cX4_set 22 = .ok (.getfield 19, 3) := by decide +kernel
theorem dX4_set_25 : decode cX4_set 25 = .ok (.aload_n 0, 1) := by decide +kernel
theorem dX4_set_26 : decode cX4_set 26 = .ok (.getfield 10, 3) := by decide +kernel
theorem dX4_set_29 : decode cX4_set 29 = .ok (.invokevirtual 67, 3) := by decide +kernel
theorem dX4_set_32 : decode cX4_set 32 = .ok (.aload_n 0, 1) := by decide +kernel
theorem dX4_set_33 : decode cX4_set 33 = .ok (.getfield 10, 3) := by decide +kernel
theorem dX4_set_36 : decode cX4_set 36 = .ok (.getfield 78, 3) := by decide +kernel
theorem dX4_set_39 : decode cX4_set 39 = .ok (.iload_n 1, 1) := by decide +kernel
theorem dX4_set_40 : decode cX4_set 40 = .ok (.iaload, 1) := by decide +kernel
theorem dX4_set_41 : decode cX4_set 41 = .ok (.istore_n 3, 1) := by decide +kernel
theorem dX4_set_42 : decode cX4_set 42 = .ok (.aload_n 0, 1) := by decide +kernel
theorem dX4_set_43 : decode cX4_set 43 = .ok (.getfield 10, 3) := by decide +kernel
theorem dX4_set_46 : decode cX4_set 46 = .ok (.getfield 78, 3) := by decide +kernel
theorem dX4_set_49 : decode cX4_set 49 = .ok (.iload_n 1, 1) := by decide +kernel
theorem dX4_set_50 : decode cX4_set 50 = .ok (.iload_n 2, 1) := by decide +kernel
theorem dX4_set_51 : decode cX4_set 51 = .ok (.iastore, 1) := by decide +kernel
theorem dX4_set_52 : decode cX4_set 52 = .ok (.iload_n 3, 1) := by decide +kernel
theorem dX4_set_53 : decode cX4_set 53 = .ok (.ireturn, 1) := by decide +kernel
set_option maxRecDepth 20000 in
theorem ggX4_promise_X4_checkIndex : GoodIn wsX4_promise wsX4_checkIndex := goodIn_ca (goodIn_r _ [6, 7, 8] (by decide +kernel) (by decide +kernel)) (goodIn_sub (fun _ h => List.mem_cons_of_mem _ (List.mem_append_left _ (List.mem_append_left _ (List.mem_append_right _ h)))) (by decide +kernel))
set_option maxRecDepth 20000 in
theorem gX4_promise_X4_checkIndex : GoodIn wsX4_promise (va_wsS RX4 45 yX4_checkIndex wsX4_checkIndex) := goodIn_app (goodIn_of _ (by decide +kernel)) ggX4_promise_X4_checkIndex
set_option maxRecDepth 20000 in
theorem ggX4_promise_X4_checkChange : GoodIn wsX4_promise wsX4_checkChange := goodIn_ca (goodIn_r _ [11, 12, 13, 14, 15, 5, 16] (by decide +kernel) (by decide +kernel)) (goodIn_sub (fun _ h => List.mem_cons_of_mem _ (List.mem_append_left _ (List.mem_append_right _ h))) (by decide +kernel))
set_option maxRecDepth 20000 in
theorem gX4_promise_X4_checkChange : GoodIn wsX4_promise (va_wsS RX4 81 yX4_checkChange wsX4_checkChange) := goodIn_app (goodIn_of _ (by decide +kernel)) ggX4_promise_X4_checkChange
set_option maxRecDepth 20000 in
theorem ggX4_promise_X4_checkNoReason : GoodIn wsX4_promise wsX4_checkNoReason := goodIn_ca (goodIn_r _ [20, 21, 22, 2, 23, 24, 25, 26, 27, 28, 29, 30, 31, 32, 33, 34, 35, 36, 37, 38, 39, 40, 41, 42, 43, 44, 45, 46, 47, 48, 49, 50, 51, 52, 53, 54, 55, 56, 57, 58, 59, 60, 61, 62, 63, 64, 65, 66, 67, 68, 69, 70, 71, 72, 73, 101, 102, 103, 104, 105, 106, 107, 108, 109, 110, 111, 112, 113, 114, 115, 116, 117, 118, 119, 120, 121] (by decide +kernel) (by decide +kernel)) (goodIn_sub (fun _ h => List.mem_cons_of_mem _ (List.mem_append_right _ h)) (by decide +kernel))
set_option maxRecDepth 20000 in
theorem gX4_promise_X4_checkNoReason : GoodIn wsX4_promise (wsV RX4 85 RX4 yX4_checkNoReason wsX4_checkNoReason) := goodIn_app (goodIn_of _ (by decide +kernel)) ggX4_promise_X4_checkNoReason
set_option maxRecDepth 20000 in
theorem ggX4_promise_X2_save : GoodIn wsX4_promise wsX2_save := goodIn_r _ [78, 79, 80, 81, 82, 83, 77, 84, 85, 86, 87, 26, 88, 28, 33, 89, 34, 90, 91, 92, 93, 49, 44, 66, 39, 59, 60, 61, 50, 94, 95, 96, 122, 123, 107, 108, 109, 110, 111, 112, 113, 114, 115, 116, 117, 118, 119, 120, 121] (by decide +kernel) (by decide +kernel)
set_option maxRecDepth 20000 in
theorem gX4_promise_X2_save : GoodIn wsX4_promise (wsV RX4 67 RX2 yX2_save wsX2_save) := goodIn_app (goodIn_of _ (by decide +kernel)) ggX4_promise_X2_save
set_option maxRecDepth 20000 in
theorem ggX4_promise_X3_addPromise : GoodIn wsX4_promise wsX3_addPromise := goodIn_r _ [100, 33, 39, 59, 60, 61, 50, 28, 34, 89, 107, 108, 109, 110, 111, 112, 113, 114, 115, 116, 117, 118, 119, 120, 121] (by decide +kernel) (by decide +kernel)
set_option maxRecDepth 20000 in
theorem gX4_promise_X3_addPromise : GoodIn wsX4_promise (wsV RX4 89 RX3 yX3_addPromise wsX3_addPromise) := goodIn_app (goodIn_of _ (by decide +kernel)) ggX4_promise_X3_addPromise
theorem dX4_promise_0 : decode cX4_promise 0 = .ok (.iload_n 1, 1) := by decide +kernel
theorem dX4_promise_1 : decode cX4_promise 1 = .ok (.bipush 6, 2) := by decide +kernel
theorem dX4_promise_3 : decode cX4_promise 3 = .ok (.invokestatic 45, 3) := by decide +kernel
theorem dX4_promise_6 : decode cX4_promise 6 = .ok (.iload_n 2, 1) := by decide +kernel
theorem dX4_promise_7 : decode cX4_promise 7 = .ok (.iconst 4, 1) := by decide +kernel
theorem dX4_promise_8 : decode cX4_promise 8 = .ok (.invokestatic 45, 3) := by decide +kernel
theorem dX4_promise_11 : decode cX4_promise 11 = .ok (.iload_n 3, 1) := by decide +kernel
theorem dX4_promise_12 : decode cX4_promise 12 = .ok (.invokestatic 81, 3) := by decide +kernel
theorem dX4_promise_15 : decode cX4_promise 15 = .ok (.aload_n 0, 1) := by decide +kernel
theorem dX4_promise_16 : decode cX4_promise 16 = .ok (.iload_n 1, 1) := by decide +kernel
theorem dX4_promise_17 : decode cX4_promise 17 = .ok (.iload_n 2, 1) := by decide +kernel
theorem dX4_promise_18 : decode cX4_promise 18 = .ok (.iload_n 3, 1) := by decide +kernel
theorem dX4_promise_19 : decode cX4_promise 19 = .ok (.iconst (-1), 1) := by decide +kernel
theorem dX4_promise_20 : decode cX4_promise 20 = .ok (.invokevirtual 85, 3) := by decide +kernel
theorem dX4_promise_23 : decode cX4_promise 23 = .ok (.aload_n 0, 1) := by decide +kernel
theorem dX4_promise_24 : decode cX4_promise 24 = .ok (.getfield 19, 3) := by decide +kernel
theorem dX4_promise_27 : decode cX4_promise 27 = .ok (.aload_n 0, 1) := by decide +kernel
theorem dX4_promise_28 : decode cX4_promise 28 = .ok (.getfield 10, 3) := by decide +kernel
theorem dX4_promise_31 : decode cX4_promise 31 = .ok (.invokevirtual 67, 3) := by decide +kernel
theorem dX4_promise_34 : decode cX4_promise 34 = .ok (.aload_n 0, 1) := by decide +kernel
theorem dX4_promise_35 : decode cX4_promise 35 = .ok (.getfield 10, 3) := by decide +kernel
theorem dX4_promise_38 : decode cX4_promise 38 = .ok (.iload_n 1, 1) := by decide +kernel
theorem dX4_promise_39 : decode cX4_promise 39 = .ok (.iload_n 2, 1) := by decide +kernel
theorem dX4_promise_40 : decode cX4_promise 40 = .ok (.iload_n 3, 1) := by decide +kernel
theorem dX4_promise_41 : decode cX4_promise 41 = .ok (.iconst (-1), 1) := by decide +kernel
theorem dX4_promise_42 : decode cX4_promise 42 = .ok (.invokevirtual 89, 3) := by decide +kernel
theorem dX4_promise_45 : decode cX4_promise 45 = .ok (.ireturn, 1) := by decide +kernel
set_option maxRecDepth 20000 in
theorem ggX4_transfer_X4_checkIndex : GoodIn wsX4_transfer wsX4_checkIndex := goodIn_ca (goodIn_r _ [8, 9, 10] (by decide +kernel) (by decide +kernel)) (goodIn_sub (fun _ h => List.mem_cons_of_mem _ (List.mem_append_left _ (List.mem_append_right _ h))) (by decide +kernel))
set_option maxRecDepth 20000 in
theorem gX4_transfer_X4_checkIndex : GoodIn wsX4_transfer (va_wsS RX4 45 yX4_checkIndex wsX4_checkIndex) := goodIn_app (goodIn_of _ (by decide +kernel)) ggX4_transfer_X4_checkIndex
set_option maxRecDepth 20000 in
theorem ggX4_transfer_X4_checkArgument : GoodIn wsX4_transfer wsX4_checkArgument := goodIn_ca (goodIn_r _ [13, 1, 2] (by decide +kernel) (by decide +kernel)) (goodIn_sub (fun _ h => List.mem_cons_of_mem _ (List.mem_append_left _ (List.mem_append_left _ (List.mem_append_right _ h)))) (by decide +kernel))
set_option maxRecDepth 20000 in
theorem gX4_transfer_X4_checkArgument : GoodIn wsX4_transfer (va_wsS RX4 49 yX4_checkArgument wsX4_checkArgument) := goodIn_app (goodIn_of _ (by decide +kernel)) ggX4_transfer_X4_checkArgument
set_option maxRecDepth 20000 in
theorem ggX4_transfer_X4_checkNoReason : GoodIn wsX4_transfer wsX4_checkNoReason := goodIn_ca (goodIn_r _ [17, 18, 19, 4, 20, 21, 22, 23, 24, 25, 26, 27, 28, 29, 30, 31, 32, 33, 34, 35, 36, 37, 38, 39, 40, 41, 42, 43, 44, 45, 46, 47, 48, 49, 50, 51, 52, 53, 54, 55, 56, 57, 58, 59, 60, 61, 62, 63, 64, 65, 66, 67, 68, 69, 70, 98, 99, 100, 101, 102, 103, 104, 105, 106, 107, 108, 109, 110, 111, 112, 113, 114, 115, 116, 117, 118] (by decide +kernel) (by decide +kernel)) (goodIn_sub (fun _ h => List.mem_cons_of_mem _ (List.mem_append_right _ h)) (by decide +kernel))
set_option maxRecDepth 20000 in
theorem gX4_transfer_X4_checkNoReason : GoodIn wsX4_transfer (wsV RX4 85 RX4 yX4_checkNoReason wsX4_checkNoReason) := goodIn_app (goodIn_of _ (by decide +kernel)) ggX4_transfer_X4_checkNoReason
set_option maxRecDepth 20000 in
theorem ggX4_transfer_X2_save : GoodIn wsX4_transfer wsX2_save := goodIn_r _ [75, 76, 77, 78, 79, 80, 74, 81, 82, 83, 84, 23, 85, 25, 30, 86, 31, 87, 88, 89, 90, 46, 41, 63, 36, 56, 57, 58, 47, 91, 92, 93, 119, 120, 104, 105, 106, 107, 108, 109, 110, 111, 112, 113, 114, 115, 116, 117, 118] (by decide +kernel) (by decide +kernel)
set_option maxRecDepth 20000 in
theorem gX4_transfer_X2_save : GoodIn wsX4_transfer (wsV RX4 67 RX2 yX2_save wsX2_save) := goodIn_app (goodIn_of _ (by decide +kernel)) ggX4_transfer_X2_save
set_option maxRecDepth 20000 in
theorem ggX4_transfer_X3_addPromise : GoodIn wsX4_transfer wsX3_addPromise := goodIn_r _ [97, 30, 36, 56, 57, 58, 47, 25, 31, 86, 104, 105, 106, 107, 108, 109, 110, 111, 112, 113, 114, 115, 116, 117, 118] (by decide +kernel) (by decide +kernel)
set_option maxRecDepth 20000 in
theorem gX4_transfer_X3_addPromise : GoodIn wsX4_transfer (wsV RX4 89 RX3 yX3_addPromise wsX3_addPromise) := goodIn_app (goodIn_of _ (by decide +kernel)) ggX4_transfer_X3_addPromise
