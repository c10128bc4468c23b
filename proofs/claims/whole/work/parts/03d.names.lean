theorem dX4_undo_14 : decode cX4_undo 14 = .ok (.ldc 163, 2) := by decide +kernel
theorem dX4_undo_16 : decode cX4_undo 16 = .ok (.invokespecial 64, 3) := by decide +kernel
theorem dX4_undo_19 : decode cX4_undo 19 = .ok (.athrow, 1) := by decide +kernel
theorem dX4_undo_20 : decode cX4_undo 20 = .ok (.aload_n 0, 1) := by decide +kernel
theorem dX4_undo_21 : decode cX4_undo 21 = .ok (.getfield 19, 3) := by decide +kernel
theorem dX4_undo_24 : decode cX4_undo 24 = .ok (.aload_n 0, 1) := by decide +kernel
theorem dX4_undo_25 : decode cX4_undo 25 = .ok (.getfield 10, 3) := by decide +kernel
theorem dX4_undo_28 : decode cX4_undo 28 = .ok (.invokevirtual 165, 3) := by decide +kernel
theorem dX4_undo_31 : decode cX4_undo 31 = .ok (.aload_n 0, 1) := by decide +kernel
theorem dX4_undo_32 : decode cX4_undo 32 = .ok (.getfield 19, 3) := by decide +kernel
theorem dX4_undo_35 : decode cX4_undo 35 = .ok (.getfield 160, 3) := by decide +kernel
theorem dX4_undo_38 : decode cX4_undo 38 = .ok (.ireturn, 1) := by decide +kernel
set_option maxRecDepth 20000 in
theorem ggX4_counter_X4_checkIndex : GoodIn wsX4_counter wsX4_checkIndex := goodIn_ca (goodIn_r _ [10, 11, 12] (by decide +kernel) (by decide +kernel)) (goodIn_sub (fun _ h => List.mem_cons_of_mem _ (List.mem_append_left _ (List.mem_append_right _ h))) (by decide +kernel))
set_option maxRecDepth 20000 in
theorem gX4_counter_X4_checkIndex : GoodIn wsX4_counter (va_wsS RX4 45 yX4_checkIndex wsX4_checkIndex) := goodIn_app (goodIn_of _ (by decide +kernel)) ggX4_counter_X4_checkIndex
set_option maxRecDepth 20000 in
theorem ggX4_counter_X4_checkArgument : GoodIn wsX4_counter wsX4_checkArgument := goodIn_ca (goodIn_r _ [15, 16, 17] (by decide +kernel) (by decide +kernel)) (goodIn_sub (fun _ h => List.mem_cons_of_mem _ (List.mem_append_right _ h)) (by decide +kernel))
set_option maxRecDepth 20000 in
theorem gX4_counter_X4_checkArgument : GoodIn wsX4_counter (va_wsS RX4 49 yX4_checkArgument wsX4_checkArgument) := goodIn_app (goodIn_of _ (by decide +kernel)) ggX4_counter_X4_checkArgument
set_option maxRecDepth 20000 in
theorem ggX4_counter_X3_lowOf : GoodIn wsX4_counter wsX3_lowOf := goodIn_r _ [22, 23, 24, 25, 26, 21, 27, 28, 29, 30, 31, 32, 33, 34, 35, 36, 37, 38, 39, 40, 41, 101, 102, 103, 104, 105, 106, 107, 108, 109, 110, 111, 112, 113, 114, 115] (by decide +kernel) (by decide +kernel)
set_option maxRecDepth 20000 in
theorem gX4_counter_X3_lowOf : GoodIn wsX4_counter (wsV RX4 53 RX3 yX3_lowOf wsX3_lowOf) := goodIn_app (goodIn_of _ (by decide +kernel)) ggX4_counter_X3_lowOf
set_option maxRecDepth 20000 in
theorem ggX4_counter_X3_highOf : GoodIn wsX4_counter wsX3_highOf := goodIn_r _ [45, 28, 29, 46, 47, 33, 48, 35, 36, 37, 21, 38, 39, 40, 41, 101, 102, 103, 104, 105, 106, 107, 108, 109, 110, 111, 112, 113, 114, 115] (by decide +kernel) (by decide +kernel)
set_option maxRecDepth 20000 in
theorem gX4_counter_X3_highOf : GoodIn wsX4_counter (wsV RX4 57 RX3 yX3_highOf wsX3_highOf) := goodIn_app (goodIn_of _ (by decide +kernel)) ggX4_counter_X3_highOf
set_option maxRecDepth 20000 in
theorem ggX4_counter_X3_promisesChanging : GoodIn wsX4_counter wsX3_promisesChanging := goodIn_r _ [52, 29, 35, 36, 37, 21, 38, 39, 40, 41, 101, 102, 103, 104, 105, 106, 107, 108, 109, 110, 111, 112, 113, 114, 115] (by decide +kernel) (by decide +kernel)
set_option maxRecDepth 20000 in
theorem gX4_counter_X3_promisesChanging : GoodIn wsX4_counter (wsV RX4 168 RX3 yX3_promisesChanging wsX3_promisesChanging) := goodIn_app (goodIn_of _ (by decide +kernel)) ggX4_counter_X3_promisesChanging
set_option maxRecDepth 20000 in
theorem ggX4_counter_X3_sumOfChanges : GoodIn wsX4_counter wsX3_sumOfChanges := goodIn_r _ [56, 29, 35, 36, 37, 21, 38, 39, 40, 41, 101, 102, 103, 104, 105, 106, 107, 108, 109, 110, 111, 112, 113, 114, 115] (by decide +kernel) (by decide +kernel)
set_option maxRecDepth 20000 in
theorem gX4_counter_X3_sumOfChanges : GoodIn wsX4_counter (wsV RX4 171 RX3 yX3_sumOfChanges wsX3_sumOfChanges) := goodIn_app (goodIn_of _ (by decide +kernel)) ggX4_counter_X3_sumOfChanges
set_option maxRecDepth 20000 in
theorem ggX4_counter_X3_roomBelow : GoodIn wsX4_counter wsX3_roomBelow := goodIn_r _ [60, 61, 24, 25, 26, 21, 27, 28, 29, 30, 31, 32, 33, 34, 35, 36, 37, 38, 39, 40, 41, 101, 102, 103, 104, 105, 106, 107, 108, 109, 110, 111, 112, 113, 114, 115] (by decide +kernel) (by decide +kernel)
set_option maxRecDepth 20000 in
theorem gX4_counter_X3_roomBelow : GoodIn wsX4_counter (wsV RX4 174 RX3 yX3_roomBelow wsX3_roomBelow) := goodIn_app (goodIn_of _ (by decide +kernel)) ggX4_counter_X3_roomBelow
set_option maxRecDepth 20000 in
theorem ggX4_counter_X3_roomAbove : GoodIn wsX4_counter wsX3_roomAbove := goodIn_r _ [65, 66, 67, 43, 44, 21, 45, 28, 29, 46, 47, 33, 48, 35, 36, 37, 38, 39, 40, 41, 101, 102, 103, 104, 105, 106, 107, 108, 109, 110, 111, 112, 113, 114, 115] (by decide +kernel) (by decide +kernel)
set_option maxRecDepth 20000 in
theorem gX4_counter_X3_roomAbove : GoodIn wsX4_counter (wsV RX4 178 RX3 yX3_roomAbove wsX3_roomAbove) := goodIn_app (goodIn_of _ (by decide +kernel)) ggX4_counter_X3_roomAbove
set_option maxRecDepth 20000 in
theorem ggX4_counter_X1_manyOf : GoodIn wsX4_counter wsX1_manyOf := goodIn_r _ [72, 73, 74, 75, 76, 71, 77, 78, 79, 80, 19, 20, 21, 22, 23, 24, 25, 26, 27, 28, 29, 30, 31, 32, 33, 34, 35, 36, 37, 38, 39, 40, 41, 81, 43, 44, 45, 46, 47, 48, 82, 83, 84, 85, 86, 87, 88, 89, 90, 91, 92, 93, 94, 116, 101, 102, 103, 104, 105, 106, 107, 108, 109, 110, 111, 112, 113, 114, 115] (by decide +kernel) (by decide +kernel)
set_option maxRecDepth 20000 in
theorem gX4_counter_X1_manyOf : GoodIn wsX4_counter (wsV RX4 181 RX1 yX1_manyOf wsX1_manyOf) := goodIn_app (goodIn_of _ (by decide +kernel)) ggX4_counter_X1_manyOf
theorem dX4_counter_0 : decode cX4_counter 0 = .ok (.iload_n 1, 1) := by decide +kernel
theorem dX4_counter_1 : decode cX4_counter 1 = .ok (.iconst 4, 1) := by decide +kernel
theorem dX4_counter_2 : decode cX4_counter 2 = .ok (.invokestatic 45, 3) := by decide +kernel
theorem dX4_counter_5 : decode cX4_counter 5 = .ok (.iload_n 2, 1) := by decide +kernel
theorem dX4_counter_6 : decode cX4_counter 6 = .ok (.iconst 0, 1) := by decide +kernel
theorem dX4_counter_7 : decode cX4_counter 7 = .ok (.bipush 9, 2) := by decide +kernel
theorem dX4_counter_9 : decode cX4_counter 9 = .ok (.invokestatic 49, 3) := by decide +kernel
theorem dX4_counter_12 : decode cX4_counter 12 = .ok (.iload_n 2, 1) := by decide +kernel
theorem dX4_counter_13 : decode cX4_counter 13 = .ok (.tableswitch 142 0 8 #[51, 61, 71, 81, 90, 99, 108, 117, 133], 51) := by decide +kernel
theorem dX4_counter_64 : decode cX4_counter 64 = .ok (.aload_n 0, 1) := by decide +kernel
theorem dX4_counter_65 : decode cX4_counter 65 = .ok (.getfield 10, 3) := by decide +kernel
theorem dX4_counter_68 : decode cX4_counter 68 = .ok (.getfield 107, 3) := by decide +kernel
theorem dX4_counter_71 : decode cX4_counter 71 = .ok (.iload_n 1, 1) := by decide +kernel
theorem dX4_counter_72 : decode cX4_counter 72 = .ok (.iaload, 1) := by decide +kernel
theorem dX4_counter_73 : decode cX4_counter 73 = .ok (.ireturn, 1) := by decide +kernel
theorem dX4_counter_74 : decode cX4_counter 74 = .ok (.aload_n 0, 1) := by decide +kernel
theorem dX4_counter_75 : decode cX4_counter 75 = .ok (.getfield 10, 3) := by decide +kernel
theorem dX4_counter_78 : decode cX4_counter 78 = .ok (.getfield 75, 3) := by decide +kernel
theorem dX4_counter_81 : decode cX4_counter 81 = .ok (.iload_n 1, 1) := by decide +kernel
theorem dX4_counter_82 : decode cX4_counter 82 = .ok (.iaload, 1) := by decide +kernel
theorem dX4_counter_83 : decode cX4_counter 83 = .ok (.ireturn, 1) := by decide +kernel
theorem dX4_counter_84 : decode cX4_counter 84 = .ok (.aload_n 0, 1) := by decide +kernel
theorem dX4_counter_85 : decode cX4_counter 85 = .ok (.getfield 10, 3) := by decide +kernel
theorem dX4_counter_88 : decode cX4_counter 88 = .ok (.getfield 71, 3) := by decide +kernel
theorem dX4_counter_91 : decode cX4_counter 91 = .ok (.iload_n 1, 1) := by decide +kernel
theorem dX4_counter_92 : decode cX4_counter 92 = .ok (.iaload, 1) := by decide +kernel
theorem dX4_counter_93 : decode cX4_counter 93 = .ok (.ireturn, 1) := by decide +kernel
theorem dX4_counter_94 : decode cX4_counter 94 = .ok (.aload_n 0, 1) := by decide +kernel
theorem dX4_counter_95 : decode cX4_counter 95 = .ok (.getfield 10, 3) := by decide +kernel
theorem dX4_counter_98 : decode cX4_counter 98 = .ok (.iload_n 1, 1) := by decide +kernel
theorem dX4_counter_99 : decode cX4_counter 99 = .ok (.invokevirtual 53, 3) := by decide +kernel
theorem dX4_counter_102 : decode cX4_counter 102 = .ok (.ireturn, 1) := by decide +kernel
theorem dX4_counter_103 : decode cX4_counter 103 = .ok (.aload_n 0, 1) := by decide +kernel
theorem dX4_counter_104 : decode cX4_counter 104 = .ok (.getfield 10, 3) := by decide +kernel
theorem dX4_counter_107 : decode cX4_counter 107 = .ok (.iload_n 1, 1) := by decide +kernel
theorem dX4_counter_108 : decode cX4_counter 108 = .ok (.invokevirtual 57, 3) := by decide +kernel
theorem dX4_counter_111 : decode cX4_counter 111 = .ok (.ireturn, 1) := by decide +kernel
theorem dX4_counter_112 : decode cX4_counter 112 = .ok (.aload_n 0, 1) := by decide +kernel
theorem dX4_counter_113 : decode cX4_counter 113 = .ok (.getfield 10, 3) := by decide +kernel
theorem dX4_counter_116 : decode cX4_counter 116 = .ok (.iload_n 1, 1) := by decide +kernel
theorem dX4_counter_117 : decode cX4_counter 117 = .ok (.invokevirtual 168, 3) := by decide +kernel
theorem dX4_counter_120 : decode cX4_counter 120 = .ok (.ireturn, 1) := by decide +kernel
theorem dX4_counter_121 : decode cX4_counter 121 = .ok (.aload_n 0, 1) := by decide +kernel
theorem dX4_counter_122 : decode cX4_counter 122 = .ok (.getfield 10, 3) := by decide +kernel
theorem dX4_counter_125 : decode cX4_counter 125 = .ok (.iload_n 1, 1) := by decide +kernel
theorem dX4_counter_126 : decode cX4_counter 126 = .ok (.invokevirtual 171, 3) := by decide +kernel
theorem dX4_counter_129 : decode cX4_counter 129 = .ok (.ireturn, 1) := by decide +kernel
theorem dX4_counter_130 : decode cX4_counter 130 = .ok (.aload_n 0, 1) := by decide +kernel
theorem dX4_counter_131 : decode cX4_counter 131 = .ok (.getfield 10, 3) := by decide +kernel
theorem dX4_counter_134 : decode cX4_counter 134 = .ok (.iload_n 1, 1) := by decide +kernel
theorem dX4_counter_135 : decode cX4_counter 135 = .ok (.aload_n 0, 1) := by decide +kernel
theorem dX4_counter_136 : decode cX4_counter 136 = .ok (.getfield 10, 3) := by decide +kernel
theorem dX4_counter_139 : decode cX4_counter 139 = .ok (.getfield 127, 3) := by decide +kernel
theorem dX4_counter_142 : decode cX4_counter 142 = .ok (.invokevirtual 174, 3) := by decide +kernel
theorem dX4_counter_145 : decode cX4_counter 145 = .ok (.ireturn, 1) := by decide +kernel
theorem dX4_counter_146 : decode cX4_counter 146 = .ok (.aload_n 0, 1) := by decide +kernel
theorem dX4_counter_147 : decode cX4_counter 147 = .ok (.getfield 10, 3) := by decide +kernel
theorem dX4_counter_150 : decode cX4_counter 150 = .ok (.iload_n 1, 1) := by decide +kernel
theorem dX4_counter_151 : decode cX4_counter 151 = .ok (.invokevirtual 178, 3) := by decide +kernel
theorem dX4_counter_154 : decode cX4_counter 154 = .ok (.ireturn, 1) := by decide +kernel
theorem dX4_counter_155 : decode cX4_counter 155 = .ok (.aload_n 0, 1) := by decide +kernel
theorem dX4_counter_156 : decode cX4_counter 156 = .ok (.getfield 26, 3) := by decide +kernel
theorem dX4_counter_159 : decode cX4_counter 159 = .ok (.aload_n 0, 1) := by decide +kernel
theorem dX4_counter_160 : decode cX4_counter 160 = .ok (.getfield 10, 3) := by decide +kernel
theorem dX4_counter_163 : decode cX4_counter 163 = .ok (.iload_n 1, 1) := by decide +kernel
theorem dX4_counter_164 : decode cX4_counter 164 = .ok (.invokevirtual 181, 3) := by decide +kernel
theorem dX4_counter_167 : decode cX4_counter 167 = .ok (.ireturn, 1) := by decide +kernel
set_option maxRecDepth 20000 in
theorem ggX4_promiseOf_X4_checkIndex : GoodIn wsX4_promiseOf wsX4_checkIndex := goodIn_ca (goodIn_r _ [12, 13, 14] (by decide +kernel) (by decide +kernel)) (goodIn_sub (fun _ h => List.mem_cons_of_mem _ (List.mem_append_left _ (List.mem_append_right _ h))) (by decide +kernel))
set_option maxRecDepth 20000 in
theorem gX4_promiseOf_X4_checkIndex : GoodIn wsX4_promiseOf (va_wsS RX4 45 yX4_checkIndex wsX4_checkIndex) := goodIn_app (goodIn_of _ (by decide +kernel)) ggX4_promiseOf_X4_checkIndex
set_option maxRecDepth 20000 in
theorem ggX4_promiseOf_X4_checkArgument : GoodIn wsX4_promiseOf wsX4_checkArgument := goodIn_ca (goodIn_r _ [17, 18, 19] (by decide +kernel) (by decide +kernel)) (goodIn_sub (fun _ h => List.mem_cons_of_mem _ (List.mem_append_right _ h)) (by decide +kernel))
set_option maxRecDepth 20000 in
theorem gX4_promiseOf_X4_checkArgument : GoodIn wsX4_promiseOf (va_wsS RX4 49 yX4_checkArgument wsX4_checkArgument) := goodIn_app (goodIn_of _ (by decide +kernel)) ggX4_promiseOf_X4_checkArgument
theorem dX4_promiseOf_0 : decode cX4_promiseOf 0 = .ok (.iload_n 1, 1) := by decide +kernel
theorem dX4_promiseOf_1 : decode cX4_promiseOf 1 = .ok (.aload_n 0, 1) := by decide +kernel
theorem dX4_promiseOf_2 : decode cX4_promiseOf 2 = .ok (.getfield 10, 3) := by decide +kernel
theorem dX4_promiseOf_5 : decode cX4_promiseOf 5 = .ok (.getfield 98, 3) := by decide +kernel
theorem dX4_promiseOf_8 : decode cX4_promiseOf 8 = .ok (.invokestatic 45, 3) := by decide +kernel
theorem dX4_promiseOf_11 : decode cX4_promiseOf 11 = .ok (.iload_n 2, 1) := by decide +kernel
theorem dX4_promiseOf_12 : decode cX4_promiseOf 12 = .ok (.iconst 0, 1) := by decide +kernel
theorem dX4_promiseOf_13 : decode cX4_promiseOf 13 = .ok (.iconst 5, 1) := by decide +kernel
theorem dX4_promiseOf_14 : decode cX4_promiseOf 14 = .ok (.invokestatic 49, 3) := by decide +kernel
theorem dX4_promiseOf_17 : decode cX4_promiseOf 17 = .ok (.iload_n 2, 1) := by decide +kernel
theorem dX4_promiseOf_18 : decode cX4_promiseOf 18 = .ok (.tableswitch 84 0 4 #[34, 44, 54, 64, 74], 34) := by decide +kernel
theorem dX4_promiseOf_52 : decode cX4_promiseOf 52 = .ok (.aload_n 0, 1) := by decide +kernel
theorem dX4_promiseOf_53 : decode cX4_promiseOf 53 = .ok (.getfield 10, 3) := by decide +kernel
theorem dX4_promiseOf_56 : decode cX4_promiseOf 56 = .ok (.getfield 130, 3) := by decide +kernel
theorem dX4_promiseOf_59 : decode cX4_promiseOf 59 = .ok (.iload_n 1, 1) := by decide +kernel
theorem dX4_promiseOf_60 : decode cX4_promiseOf 60 = .ok (.iaload, 1) := by decide +kernel
theorem dX4_promiseOf_61 : decode cX4_promiseOf 61 = .ok (.ireturn, 1) := by decide +kernel
theorem dX4_promiseOf_62 : decode cX4_promiseOf 62 = .ok (.aload_n 0, 1) := by decide +kernel
theorem dX4_promiseOf_63 : decode cX4_promiseOf 63 = .ok (.getfield 10, 3) := by decide +kernel
theorem dX4_promiseOf_66 : decode cX4_promiseOf 66 = .ok (.getfield 101, 3) := by decide +kernel
theorem dX4_promiseOf_69 : decode cX4_promiseOf 69 = .ok (.iload_n 1, 1) := by decide +kernel
theorem dX4_promiseOf_70 : decode cX4_promiseOf 70 = .ok (.iaload, 1) := by decide +kernel
theorem dX4_promiseOf_71 : decode cX4_promiseOf 71 = .ok (.ireturn, 1) := by decide +kernel
theorem dX4_promiseOf_72 : decode cX4_promiseOf 72 = .ok (.aload_n 0, 1) := by decide +kernel
theorem dX4_promiseOf_73 : decode cX4_promiseOf 73 = .ok (.getfield 10, 3) := by decide +kernel
theorem dX4_promiseOf_76 : decode cX4_promiseOf 76 = .ok (.getfield 110, 3) := by decide +kernel
theorem dX4_promiseOf_79 : decode cX4_promiseOf 79 = .ok (.iload_n 1, 1) := by decide +kernel
theorem dX4_promiseOf_80 : decode cX4_promiseOf 80 = .ok (.iaload, 1) := by decide +kernel
theorem dX4_promiseOf_81 : decode cX4_promiseOf 81 = .ok (.ireturn, 1) := by decide +kernel
theorem dX4_promiseOf_82 : decode cX4_promiseOf 82 = .ok (.aload_n 0, 1) := by decide +kernel
theorem dX4_promiseOf_83 : decode cX4_promiseOf 83 = .ok (.getfield 10, 3) := by decide +kernel
theorem dX4_promiseOf_86 : decode cX4_promiseOf 86 = .ok (.getfield 185, 3) := by decide +kernel
theorem dX4_promiseOf_89 : decode cX4_promiseOf 89 = .ok (.iload_n 1, 1) := by decide +kernel
theorem dX4_promiseOf_90 : decode cX4_promiseOf 90 = .ok (.iaload, 1) := by decide +kernel
theorem dX4_promiseOf_91 : decode cX4_promiseOf 91 = .ok (.ireturn, 1) := by decide +kernel
theorem dX4_promiseOf_92 : decode cX4_promiseOf 92 = .ok (.aload_n 0, 1) := by decide +kernel
theorem dX4_promiseOf_93 : decode cX4_promiseOf 93 = .ok (.getfield 10, 3) := by decide +kernel
theorem dX4_promiseOf_96 : decode cX4_promiseOf 96 = .ok (.getfield 124, 3) := by decide +kernel
theorem dX4_promiseOf_99 : decode cX4_promiseOf 99 = .ok (.iload_n 1, 1) := by decide +kernel
theorem dX4_promiseOf_100 : decode cX4_promiseOf 100 = .ok (.iaload, 1) := by decide +kernel
theorem dX4_promiseOf_101 : decode cX4_promiseOf 101 = .ok (.ireturn, 1) := by decide +kernel
theorem dX4_promiseOf_102 : decode cX4_promiseOf 102 = .ok (.aload_n 0, 1) := by decide +kernel
theorem dX4_promiseOf_103 : decode cX4_promiseOf 103 = .ok (.getfield 10, 3) := by decide +kernel
theorem dX4_promiseOf_106 : decode cX4_promiseOf 106 = .ok (.getfield 124, 3) := by decide +kernel
theorem dX4_promiseOf_109 : decode cX4_promiseOf 109 = .ok (.iload_n 1, 1) := by decide +kernel
theorem dX4_promiseOf_110 : decode cX4_promiseOf 110 = .ok (.iaload, 1) := by decide +kernel
theorem dX4_promiseOf_111 : decode cX4_promiseOf 111 = .ok (.aload_n 0, 1) := by decide +kernel
theorem dX4_promiseOf_112 : decode cX4_promiseOf 112 = .ok (.getfield 10, 3) := by decide +kernel
theorem dX4_promiseOf_115 : decode cX4_promiseOf 115 = .ok (.getfield 127, 3) := by decide +kernel
theorem dX4_promiseOf_118 : decode cX4_promiseOf 118 = .ok (.isub, 1) := by decide +kernel
theorem dX4_promiseOf_119 : decode cX4_promiseOf 119 = .ok (.ireturn, 1) := by decide +kernel
set_option maxRecDepth 20000 in
theorem ggX4_owner_X4_checkIndex : GoodIn wsX4_owner wsX4_checkIndex := goodIn_ca (goodIn_r _ [8, 9, 10] (by decide +kernel) (by decide +kernel)) (goodIn_sub (fun _ h => List.mem_cons_of_mem _ (List.mem_append_left _ (List.mem_append_right _ h))) (by decide +kernel))
set_option maxRecDepth 20000 in
theorem gX4_owner_X4_checkIndex : GoodIn wsX4_owner (va_wsS RX4 45 yX4_checkIndex wsX4_checkIndex) := goodIn_app (goodIn_of _ (by decide +kernel)) ggX4_owner_X4_checkIndex
set_option maxRecDepth 20000 in
theorem ggX4_owner_X4_checkArgument : GoodIn wsX4_owner wsX4_checkArgument := goodIn_ca (goodIn_r _ [13, 14, 15] (by decide +kernel) (by decide +kernel)) (goodIn_sub (fun _ h => List.mem_cons_of_mem _ (List.mem_append_right _ h)) (by decide +kernel))
set_option maxRecDepth 20000 in
theorem gX4_owner_X4_checkArgument : GoodIn wsX4_owner (va_wsS RX4 49 yX4_checkArgument wsX4_checkArgument) := goodIn_app (goodIn_of _ (by decide +kernel)) ggX4_owner_X4_checkArgument
set_option maxRecDepth 20000 in
theorem ggX4_owner_X3_promisesOf : GoodIn wsX4_owner wsX3_promisesOf := goodIn_r _ [20, 21, 22, 38, 39, 40, 41, 42, 43, 44, 45, 46, 47, 48, 49, 50, 51, 52] (by decide +kernel) (by decide +kernel)
set_option maxRecDepth 20000 in
theorem gX4_owner_X3_promisesOf : GoodIn wsX4_owner (wsV RX4 188 RX3 yX3_promisesOf wsX3_promisesOf) := goodIn_app (goodIn_of _ (by decide +kernel)) ggX4_owner_X3_promisesOf
set_option maxRecDepth 20000 in
theorem ggX4_owner_X3_sizesOf : GoodIn wsX4_owner wsX3_sizesOf := goodIn_r _ [26, 21, 22, 27, 28, 29, 30, 31, 38, 39, 40, 41, 42, 43, 44, 45, 46, 47, 48, 49, 50, 51, 52] (by decide +kernel) (by decide +kernel)
set_option maxRecDepth 20000 in
theorem gX4_owner_X3_sizesOf : GoodIn wsX4_owner (wsV RX4 200 RX3 yX3_sizesOf wsX3_sizesOf) := goodIn_app (goodIn_of _ (by decide +kernel)) ggX4_owner_X3_sizesOf
theorem dX4_owner_0 : decode cX4_owner 0 = .ok (.iload_n 1, 1) := by decide +kernel
theorem dX4_owner_1 : decode cX4_owner 1 = .ok (.bipush 6, 2) := by decide +kernel
theorem dX4_owner_3 : decode cX4_owner 3 = .ok (.invokestatic 45, 3) := by decide +kernel
theorem dX4_owner_6 : decode cX4_owner 6 = .ok (.iload_n 2, 1) := by decide +kernel
theorem dX4_owner_7 : decode cX4_owner 7 = .ok (.iconst 0, 1) := by decide +kernel
theorem dX4_owner_8 : decode cX4_owner 8 = .ok (.iconst 4, 1) := by decide +kernel
theorem dX4_owner_9 : decode cX4_owner 9 = .ok (.invokestatic 49, 3) := by decide +kernel
theorem dX4_owner_12 : decode cX4_owner 12 = .ok (.iload_n 2, 1) := by decide +kernel
theorem dX4_owner_13 : decode cX4_owner 13 = .ok (.tableswitch 70 0 3 #[31, 40, 50, 60], 31) := by decide +kernel
theorem dX4_owner_44 : decode cX4_owner 44 = .ok (.aload_n 0, 1) := by decide +kernel
theorem dX4_owner_45 : decode cX4_owner 45 = .ok (.getfield 10, 3) := by decide +kernel
theorem dX4_owner_48 : decode cX4_owner 48 = .ok (.iload_n 1, 1) := by decide +kernel
theorem dX4_owner_49 : decode cX4_owner 49 = .ok (.invokevirtual 188, 3) := by decide +kernel
theorem dX4_owner_52 : decode cX4_owner 52 = .ok (.ireturn, 1) := by decide +kernel
theorem dX4_owner_53 : decode cX4_owner 53 = .ok (.aload_n 0, 1) := by decide +kernel
theorem dX4_owner_54 : decode cX4_owner 54 = .ok (.getfield 10, 3) := by decide +kernel
theorem dX4_owner_57 : decode cX4_owner 57 = .ok (.getfield 191, 3) := by decide +kernel
theorem dX4_owner_60 : decode cX4_owner 60 = .ok (.iload_n 1, 1) := by decide +kernel
theorem dX4_owner_61 : decode cX4_owner 61 = .ok (.iaload, 1) := by decide +kernel
theorem dX4_owner_62 : decode cX4_owner 62 = .ok (.ireturn, 1) := by decide +kernel
theorem dX4_owner_63 : decode cX4_owner 63 = .ok (.aload_n 0, 1) := by decide +kernel
theorem dX4_owner_64 : decode cX4_owner 64 = .ok (.getfield 10, 3) := by decide +kernel
theorem dX4_owner_67 : decode cX4_owner 67 = .ok (.getfield 194, 3) := by decide +kernel
theorem dX4_owner_70 : decode cX4_owner 70 = .ok (.iload_n 1, 1) := by decide +kernel
theorem dX4_owner_71 : decode cX4_owner 71 = .ok (.iaload, 1) := by decide +kernel
theorem dX4_owner_72 : decode cX4_owner 72 = .ok (.ireturn, 1) := by decide +kernel
theorem dX4_owner_73 : decode cX4_owner 73 = .ok (.aload_n 0, 1) := by decide +kernel
theorem dX4_owner_74 : decode cX4_owner 74 = .ok (.getfield 10, 3) := by decide +kernel
theorem dX4_owner_77 : decode cX4_owner 77 = .ok (.getfield 197, 3) := by decide +kernel
theorem dX4_owner_80 : decode cX4_owner 80 = .ok (.iload_n 1, 1) := by decide +kernel
theorem dX4_owner_81 : decode cX4_owner 81 = .ok (.iaload, 1) := by decide +kernel
theorem dX4_owner_82 : decode cX4_owner 82 = .ok (.ireturn, 1) := by decide +kernel
theorem dX4_owner_83 : decode cX4_owner 83 = .ok (.aload_n 0, 1) := by decide +kernel
theorem dX4_owner_84 : decode cX4_owner 84 = .ok (.getfield 10, 3) := by decide +kernel
theorem dX4_owner_87 : decode cX4_owner 87 = .ok (.iload_n 1, 1) := by decide +kernel
theorem dX4_owner_88 : decode cX4_owner 88 = .ok (.invokevirtual 200, 3) := by decide +kernel
theorem dX4_owner_91 : decode cX4_owner 91 = .ok (.ireturn, 1) := by decide +kernel
set_option maxRecDepth 20000 in
theorem ggX4_count_X4_checkArgument : GoodIn wsX4_count wsX4_checkArgument := goodIn_ca (goodIn_r _ [14, 15, 16] (by decide +kernel) (by decide +kernel)) (goodIn_sub (fun _ h => List.mem_cons_of_mem _ (List.mem_append_right _ h)) (by decide +kernel))
set_option maxRecDepth 20000 in
theorem gX4_count_X4_checkArgument : GoodIn wsX4_count (va_wsS RX4 49 yX4_checkArgument wsX4_checkArgument) := goodIn_app (goodIn_of _ (by decide +kernel)) ggX4_count_X4_checkArgument
set_option maxRecDepth 20000 in
theorem ggX4_count_X3_transfers : GoodIn wsX4_count wsX3_transfers := goodIn_r _ [21, 22, 23, 38, 39, 40, 41, 42, 43, 44, 45, 46, 47, 48, 49, 50, 51, 52] (by decide +kernel) (by decide +kernel)
set_option maxRecDepth 20000 in
theorem gX4_count_X3_transfers : GoodIn wsX4_count (wsV RX4 203 RX3 yX3_transfers wsX3_transfers) := goodIn_app (goodIn_of _ (by decide +kernel)) ggX4_count_X3_transfers
set_option maxRecDepth 20000 in
theorem ggX4_count_X4_sumOf : GoodIn wsX4_count wsX4_sumOf := goodIn_r _ [26] (by decide +kernel) (by decide +kernel)
set_option maxRecDepth 20000 in
theorem gX4_count_X4_sumOf : GoodIn wsX4_count (va_wsS RX4 209 yX4_sumOf wsX4_sumOf) := goodIn_app (goodIn_of _ (by decide +kernel)) ggX4_count_X4_sumOf
set_option maxRecDepth 20000 in
theorem ggX4_count_X3_firstLapse : GoodIn wsX4_count wsX3_firstLapse := goodIn_r _ [30, 22, 31, 38, 39, 40, 41, 42, 43, 44, 45, 46, 47, 48, 49, 50, 51, 52] (by decide +kernel) (by decide +kernel)
set_option maxRecDepth 20000 in
theorem gX4_count_X3_firstLapse : GoodIn wsX4_count (wsV RX4 213 RX3 yX3_firstLapse wsX3_firstLapse) := goodIn_app (goodIn_of _ (by decide +kernel)) ggX4_count_X3_firstLapse
theorem dX4_count_0 : decode cX4_count 0 = .ok (.iload_n 1, 1) := by decide +kernel
theorem dX4_count_1 : decode cX4_count 1 = .ok (.iconst 0, 1) := by decide +kernel
theorem dX4_count_2 : decode cX4_count 2 = .ok (.bipush 9, 2) := by decide +kernel
theorem dX4_count_4 : decode cX4_count 4 = .ok (.invokestatic 49, 3) := by decide +kernel
theorem dX4_count_7 : decode cX4_count 7 = .ok (.iload_n 1, 1) := by decide +kernel
theorem dX4_count_8 : decode cX4_count 8 = .ok (.tableswitch 136 0 8 #[52, 60, 68, 76, 84, 95, 106, 117, 128], 52) := by decide +kernel
theorem dX4_count_60 : decode cX4_count 60 = .ok (.aload_n 0, 1) := by decide +kernel
theorem dX4_count_61 : decode cX4_count 61 = .ok (.getfield 10, 3) := by decide +kernel
theorem dX4_count_64 : decode cX4_count 64 = .ok (.getfield 127, 3) := by decide +kernel
theorem dX4_count_67 : decode cX4_count 67 = .ok (.ireturn, 1) := by decide +kernel
theorem dX4_count_68 : decode cX4_count 68 = .ok (.aload_n 0, 1) := by decide +kernel
theorem dX4_count_69 : decode cX4_count 69 = .ok (.getfield 10, 3) := by decide +kernel
theorem dX4_count_72 : decode cX4_count 72 = .ok (.getfield 98, 3) := by decide +kernel
theorem dX4_count_75 : decode cX4_count 75 = .ok (.ireturn, 1) := by decide +kernel
theorem dX4_count_76 : decode cX4_count 76 = .ok (.aload_n 0, 1) := by decide +kernel
theorem dX4_count_77 : decode cX4_count 77 = .ok (.getfield 10, 3) := by decide +kernel
theorem dX4_count_80 : decode cX4_count 80 = .ok (.invokevirtual 203, 3) := by decide +kernel
theorem dX4_count_83 : decode cX4_count 83 = .ok (.ireturn, 1) := by decide +kernel
theorem dX4_count_84 : decode cX4_count 84 = .ok (.aload_n 0, 1) := by decide +kernel
theorem dX4_count_85 : decode cX4_count 85 = .ok (.getfield 10, 3) := by decide +kernel
theorem dX4_count_88 : decode cX4_count 88 = .ok (.getfield 206, 3) := by decide +kernel
theorem dX4_count_91 : decode cX4_count 91 = .ok (.ireturn, 1) := by decide +kernel
theorem dX4_count_92 : decode cX4_count 92 = .ok (.aload_n 0, 1) := by decide +kernel
theorem dX4_count_93 : decode cX4_count 93 = .ok (.getfield 10, 3) := by decide +kernel
theorem dX4_count_96 : decode cX4_count 96 = .ok (.getfield 191, 3) := by decide +kernel
theorem dX4_count_99 : decode cX4_count 99 = .ok (.invokestatic 209, 3) := by decide +kernel
theorem dX4_count_102 : decode cX4_count 102 = .ok (.ireturn, 1) := by decide +kernel
theorem dX4_count_103 : decode cX4_count 103 = .ok (.aload_n 0, 1) := by decide +kernel
theorem dX4_count_104 : decode cX4_count 104 = .ok (.getfield 10, 3) := by decide +kernel
theorem dX4_count_107 : decode cX4_count 107 = .ok (.getfield 194, 3) := by decide +kernel
theorem dX4_count_110 : decode cX4_count 110 = .ok (.invokestatic 209, 3) := by decide +kernel
theorem dX4_count_113 : decode cX4_count 113 = .ok (.ireturn, 1) := by decide +kernel
theorem dX4_count_114 : decode cX4_count 114 = .ok (.aload_n 0, 1) := by decide +kernel
theorem dX4_count_115 : decode cX4_count 115 = .ok (.getfield 10, 3) := by decide +kernel
theorem dX4_count_118 : decode cX4_count 118 = .ok (.getfield 197, 3) := by decide +kernel
theorem dX4_count_121 : decode cX4_count 121 = .ok (.invokestatic 209, 3) := by decide +kernel
theorem dX4_count_124 : decode cX4_count 124 = .ok (.ireturn, 1) := by decide +kernel
theorem dX4_count_125 : decode cX4_count 125 = .ok (.aload_n 0, 1) := by decide +kernel
theorem dX4_count_126 : decode cX4_count 126 = .ok (.getfield 10, 3) := by decide +kernel
theorem dX4_count_129 : decode cX4_count 129 = .ok (.getfield 107, 3) := by decide +kernel
theorem dX4_count_132 : decode cX4_count 132 = .ok (.invokestatic 209, 3) := by decide +kernel
theorem dX4_count_135 : decode cX4_count 135 = .ok (.ireturn, 1) := by decide +kernel
theorem dX4_count_136 : decode cX4_count 136 = .ok (.aload_n 0, 1) := by decide +kernel
theorem dX4_count_137 : decode cX4_count 137 = .ok (.getfield 10, 3) := by decide +kernel
theorem dX4_count_140 : decode cX4_count 140 = .ok (.invokevirtual 213, 3) := by decide +kernel
theorem dX4_count_143 : decode cX4_count 143 = .ok (.ireturn, 1) := by decide +kernel
theorem dX4_count_144 : decode cX4_count 144 = .ok (.aload_n 0, 1) := by decide +kernel
theorem dX4_count_145 : decode cX4_count 145 = .ok (.getfield 19, 3) := by decide +kernel
theorem dX4_count_148 : decode cX4_count 148 = .ok (.getfield 160, 3) := by decide +kernel
theorem dX4_count_151 : decode cX4_count 151 = .ok (.ireturn, 1) := by decide +kernel
set_option maxRecDepth 20000 in
theorem ggX4_setting_X4_checkIndex : GoodIn wsX4_setting wsX4_checkIndex := goodIn_ca (goodIn_r _ [6, 7, 8] (by decide +kernel) (by decide +kernel)) (goodIn_sub (fun _ h => List.mem_cons_of_mem _ (List.mem_append_right _ h)) (by decide +kernel))
set_option maxRecDepth 20000 in
theorem gX4_setting_X4_checkIndex : GoodIn wsX4_setting (va_wsS RX4 45 yX4_checkIndex wsX4_checkIndex) := goodIn_app (goodIn_of _ (by decide +kernel)) ggX4_setting_X4_checkIndex
theorem dX4_setting_0 : decode cX4_setting 0 = .ok (.iload_n 1, 1) := by decide +kernel
theorem dX4_setting_1 : decode cX4_setting 1 = .ok (.iconst 2, 1) := by decide +kernel
theorem dX4_setting_2 : decode cX4_setting 2 = .ok (.invokestatic 45, 3) := by decide +kernel
theorem dX4_setting_5 : decode cX4_setting 5 = .ok (.aload_n 0, 1) := by decide +kernel
theorem dX4_setting_6 : decode cX4_setting 6 = .ok (.getfield 10, 3) := by decide +kernel
theorem dX4_setting_9 : decode cX4_setting 9 = .ok (.getfield 78, 3) := by decide +kernel
theorem dX4_setting_12 : decode cX4_setting 12 = .ok (.iload_n 1, 1) := by decide +kernel
theorem dX4_setting_13 : decode cX4_setting 13 = .ok (.iaload, 1) := by decide +kernel
theorem dX4_setting_14 : decode cX4_setting 14 = .ok (.ireturn, 1) := by decide +kernel
set_option maxRecDepth 20000 in
theorem ggX4_whyNot_X4_checkIndex : GoodIn wsX4_whyNot wsX4_checkIndex := goodIn_ca (goodIn_r _ [5, 6, 7] (by decide +kernel) (by decide +kernel)) (goodIn_sub (fun _ h => List.mem_cons_of_mem _ (List.mem_append_left _ (List.mem_append_right _ h))) (by decide +kernel))
set_option maxRecDepth 20000 in
theorem gX4_whyNot_X4_checkIndex : GoodIn wsX4_whyNot (va_wsS RX4 45 yX4_checkIndex wsX4_checkIndex) := goodIn_app (goodIn_of _ (by decide +kernel)) ggX4_whyNot_X4_checkIndex
set_option maxRecDepth 20000 in
theorem ggX4_whyNot_X4_checkChange : GoodIn wsX4_whyNot wsX4_checkChange := goodIn_ca (goodIn_r _ [10, 11, 12, 13, 14, 4, 15] (by decide +kernel) (by decide +kernel)) (goodIn_sub (fun _ h => List.mem_cons_of_mem _ (List.mem_append_right _ h)) (by decide +kernel))
set_option maxRecDepth 20000 in
theorem gX4_whyNot_X4_checkChange : GoodIn wsX4_whyNot (va_wsS RX4 81 yX4_checkChange wsX4_checkChange) := goodIn_app (goodIn_of _ (by decide +kernel)) ggX4_whyNot_X4_checkChange
set_option maxRecDepth 20000 in
theorem ggX4_whyNot_X3_reasonAgainst : GoodIn wsX4_whyNot wsX3_reasonAgainst := goodIn_r _ [20, 21, 22, 23, 24, 19, 25, 26, 27, 28, 29, 30, 31, 32, 33, 34, 35, 36, 37, 38, 39, 40, 41, 42, 43, 44, 45, 46, 47, 48, 49, 50, 51, 52, 53, 54, 55, 56, 57, 58, 59, 60, 61, 62, 63, 64, 65, 66, 73, 74, 75, 76, 77, 78, 79, 80, 81, 82, 83, 84, 85, 86, 87] (by decide +kernel) (by decide +kernel)
set_option maxRecDepth 20000 in
theorem gX4_whyNot_X3_reasonAgainst : GoodIn wsX4_whyNot (wsV RX4 216 RX3 yX3_reasonAgainst wsX3_reasonAgainst) := goodIn_app (goodIn_of _ (by decide +kernel)) ggX4_whyNot_X3_reasonAgainst
theorem dX4_whyNot_0 : decode cX4_whyNot 0 = .ok (.iload_n 1, 1) := by decide +kernel
theorem dX4_whyNot_1 : decode cX4_whyNot 1 = .ok (.bipush 6, 2) := by decide +kernel
theorem dX4_whyNot_3 : decode cX4_whyNot 3 = .ok (.invokestatic 45, 3) := by decide +kernel
theorem dX4_whyNot_6 : decode cX4_whyNot 6 = .ok (.iload_n 2, 1) := by decide +kernel
theorem dX4_whyNot_7 : decode cX4_whyNot 7 = .ok (.iconst 4, 1) := by decide +kernel
theorem dX4_whyNot_8 : decode cX4_whyNot 8 = .ok (.invokestatic 45, 3) := by decide +kernel
theorem dX4_whyNot_11 : decode cX4_whyNot 11 = .ok (.iload_n 3, 1) := by decide +kernel
theorem dX4_whyNot_12 : decode cX4_whyNot 12 = .ok (.invokestatic 81, 3) := by decide +kernel
theorem dX4_whyNot_15 : decode cX4_whyNot 15 = .ok (.aload_n 0, 1) := by decide +kernel
theorem dX4_whyNot_16 : decode cX4_whyNot 16 = .ok (.getfield 10, 3) := by decide +kernel
theorem dX4_whyNot_19 : decode cX4_whyNot 19 = .ok (.iload_n 1, 1) := by decide +kernel
theorem dX4_whyNot_20 : decode cX4_whyNot 20 = .ok (.iload_n 2, 1) := by decide +kernel
theorem dX4_whyNot_21 : decode cX4_whyNot 21 = .ok (.iload_n 3, 1) := by decide +kernel
theorem dX4_whyNot_22 : decode cX4_whyNot 22 = .ok (.iconst (-1), 1) := by decide +kernel
theorem dX4_whyNot_23 : decode cX4_whyNot 23 = .ok (.invokevirtual 216, 3) := by decide +kernel
theorem dX4_whyNot_26 : decode cX4_whyNot 26 = .ok (.ireturn, 1) := by decide +kernel
set_option maxRecDepth 20000 in
theorem ggX4_canBe_X4_checkIndex : GoodIn wsX4_canBe wsX4_checkIndex := goodIn_ca (goodIn_r _ [6, 7, 8] (by decide +kernel) (by decide +kernel)) (goodIn_sub (fun _ h => List.mem_cons_of_mem _ (List.mem_append_right _ h)) (by decide +kernel))
set_option maxRecDepth 20000 in
theorem gX4_canBe_X4_checkIndex : GoodIn wsX4_canBe (va_wsS RX4 45 yX4_checkIndex wsX4_checkIndex) := goodIn_app (goodIn_of _ (by decide +kernel)) ggX4_canBe_X4_checkIndex
set_option maxRecDepth 20000 in
theorem ggX4_canBe_X1_fewestFor : GoodIn wsX4_canBe wsX1_fewestFor := goodIn_r _ [13, 14, 15, 16, 17, 18, 19, 20, 21, 22, 23, 24, 25, 26, 27, 28, 29, 30, 31, 32, 33, 34, 35, 36, 37, 38, 39, 40, 41, 42, 43, 44, 45, 46, 47, 48, 12, 49, 50, 51, 52, 53, 54, 55, 56, 57, 58, 59, 60, 61, 62, 63, 64, 71, 72, 73, 74, 75, 76, 77, 78, 79, 80, 81, 82, 83, 84, 85, 86] (by decide +kernel) (by decide +kernel)
set_option maxRecDepth 20000 in
theorem gX4_canBe_X1_fewestFor : GoodIn wsX4_canBe (wsV RX4 219 RX1 yX1_fewestFor wsX1_fewestFor) := goodIn_app (goodIn_of _ (by decide +kernel)) ggX4_canBe_X1_fewestFor
theorem dX4_canBe_0 : decode cX4_canBe 0 = .ok (.iload_n 1, 1) := by decide +kernel
theorem dX4_canBe_1 : decode cX4_canBe 1 = .ok (.iconst 4, 1) := by decide +kernel
theorem dX4_canBe_2 : decode cX4_canBe 2 = .ok (.invokestatic 45, 3) := by decide +kernel
theorem dX4_canBe_5 : decode cX4_canBe 5 = .ok (.aload_n 0, 1) := by decide +kernel
theorem dX4_canBe_6 : decode cX4_canBe 6 = .ok (.getfield 26, 3) := by decide +kernel
theorem dX4_canBe_9 : decode cX4_canBe 9 = .ok (.aload_n 0, 1) := by decide +kernel
theorem dX4_canBe_10 : decode cX4_canBe 10 = .ok (.getfield 10, 3) := by decide +kernel
theorem dX4_canBe_13 : decode cX4_canBe 13 = .ok (.iload_n 1, 1) := by decide +kernel
theorem dX4_canBe_14 : decode cX4_canBe 14 = .ok (.iload_n 2, 1) := by decide +kernel
theorem dX4_canBe_15 : decode cX4_canBe 15 = .ok (.invokevirtual 219, 3) := by decide +kernel
theorem dX4_canBe_18 : decode cX4_canBe 18 = .ok (.ireturn, 1) := by decide +kernel
set_option maxRecDepth 20000 in
theorem ggX4_mostFor_X4_checkIndex : GoodIn wsX4_mostFor wsX4_checkIndex := goodIn_ca (goodIn_r _ [10, 11, 12] (by decide +kernel) (by decide +kernel)) (goodIn_sub (fun _ h => List.mem_cons_of_mem _ (List.mem_append_right _ h)) (by decide +kernel))
set_option maxRecDepth 20000 in
theorem gX4_mostFor_X4_checkIndex : GoodIn wsX4_mostFor (va_wsS RX4 45 yX4_checkIndex wsX4_checkIndex) := goodIn_app (goodIn_of _ (by decide +kernel)) ggX4_mostFor_X4_checkIndex
set_option maxRecDepth 20000 in
theorem ggX4_mostFor_X3_reasonOfNumber : GoodIn wsX4_mostFor wsX3_reasonOfNumber := goodIn_r _ [17, 18, 19, 20, 21, 22, 16, 23, 24, 62, 63, 64, 65, 66, 67, 68, 69, 70, 71, 72, 73, 74, 75, 76] (by decide +kernel) (by decide +kernel)
set_option maxRecDepth 20000 in
theorem gX4_mostFor_X3_reasonOfNumber : GoodIn wsX4_mostFor (wsV RX4 223 RX3 yX3_reasonOfNumber wsX3_reasonOfNumber) := goodIn_app (goodIn_of _ (by decide +kernel)) ggX4_mostFor_X3_reasonOfNumber
set_option maxRecDepth 20000 in
theorem ggX4_mostFor_X3_roomAbove : GoodIn wsX4_mostFor wsX3_roomAbove := goodIn_r _ [28, 29, 30, 31, 32, 16, 33, 34, 18, 35, 36, 5, 37, 38, 39, 40, 41, 42, 43, 44, 62, 63, 64, 65, 66, 67, 68, 69, 70, 71, 72, 73, 74, 75, 76] (by decide +kernel) (by decide +kernel)
set_option maxRecDepth 20000 in
theorem gX4_mostFor_X3_roomAbove : GoodIn wsX4_mostFor (wsV RX4 178 RX3 yX3_roomAbove wsX3_roomAbove) := goodIn_app (goodIn_of _ (by decide +kernel)) ggX4_mostFor_X3_roomAbove
set_option maxRecDepth 20000 in
theorem ggX4_mostFor_X3_roomBelow : GoodIn wsX4_mostFor wsX3_roomBelow := goodIn_r _ [48, 49, 50, 51, 52, 16, 53, 34, 18, 54, 55, 4, 5, 6, 38, 39, 40, 41, 42, 43, 44, 62, 63, 64, 65, 66, 67, 68, 69, 70, 71, 72, 73, 74, 75, 76] (by decide +kernel) (by decide +kernel)
set_option maxRecDepth 20000 in
theorem gX4_mostFor_X3_roomBelow : GoodIn wsX4_mostFor (wsV RX4 174 RX3 yX3_roomBelow wsX3_roomBelow) := goodIn_app (goodIn_of _ (by decide +kernel)) ggX4_mostFor_X3_roomBelow
theorem dX4_mostFor_0 : decode cX4_mostFor 0 = .ok (.iload_n 1, 1) := by decide +kernel
theorem dX4_mostFor_1 : decode cX4_mostFor 1 = .ok (.bipush 6, 2) := by decide +kernel
theorem dX4_mostFor_3 : decode cX4_mostFor 3 = .ok (.invokestatic 45, 3) := by decide +kernel
theorem dX4_mostFor_6 : decode cX4_mostFor 6 = .ok (.iload_n 2, 1) := by decide +kernel
theorem dX4_mostFor_7 : decode cX4_mostFor 7 = .ok (.iconst 4, 1) := by decide +kernel
theorem dX4_mostFor_8 : decode cX4_mostFor 8 = .ok (.invokestatic 45, 3) := by decide +kernel
theorem dX4_mostFor_11 : decode cX4_mostFor 11 = .ok (.aload_n 0, 1) := by decide +kernel
theorem dX4_mostFor_12 : decode cX4_mostFor 12 = .ok (.getfield 10, 3) := by decide +kernel
theorem dX4_mostFor_15 : decode cX4_mostFor 15 = .ok (.iload_n 1, 1) := by decide +kernel
theorem dX4_mostFor_16 : decode cX4_mostFor 16 = .ok (.invokevirtual 223, 3) := by decide +kernel
theorem dX4_mostFor_19 : decode cX4_mostFor 19 = .ok (.ifCond .eq 5, 3) := by decide +kernel
theorem dX4_mostFor_22 : decode cX4_mostFor 22 = .ok (.iconst 0, 1) := by decide +kernel
theorem dX4_mostFor_23 : decode cX4_mostFor 23 = .ok (.ireturn, 1) := by decide +kernel
theorem dX4_mostFor_24 : decode cX4_mostFor 24 = .ok (.iload_n 3, 1) := by decide +kernel
theorem dX4_mostFor_25 : decode cX4_mostFor 25 = .ok (.ifCond .eq 14, 3) := by decide +kernel
theorem dX4_mostFor_28 : decode cX4_mostFor 28 = .ok (.aload_n 0, 1) := by decide +kernel
theorem dX4_mostFor_29 : decode cX4_mostFor 29 = .ok (.getfield 10, 3) := by decide +kernel
theorem dX4_mostFor_32 : decode cX4_mostFor 32 = .ok (.iload_n 2, 1) := by decide +kernel
theorem dX4_mostFor_33 : decode cX4_mostFor 33 = .ok (.invokevirtual 178, 3) := by decide +kernel
theorem dX4_mostFor_36 : decode cX4_mostFor 36 = .ok (.goto 18, 3) := by decide +kernel
theorem dX4_mostFor_39 : decode cX4_mostFor 39 = .ok (.aload_n 0, 1) := by decide +kernel
theorem dX4_mostFor_40 : decode cX4_mostFor 40 = .ok (.getfield 10, 3) := by decide +kernel
theorem dX4_mostFor_43 : decode cX4_mostFor 43 = .ok (.iload_n 2, 1) := by decide +kernel
theorem dX4_mostFor_44 : decode cX4_mostFor 44 = .ok (.aload_n 0, 1) := by decide +kernel
theorem dX4_mostFor_45 : decode cX4_mostFor 45 = .ok (.getfield 10, 3) := by decide +kernel
theorem dX4_mostFor_48 : decode cX4_mostFor 48 = .ok (.getfield 127, 3) := by decide +kernel
theorem dX4_mostFor_51 : decode cX4_mostFor 51 = .ok (.invokevirtual 174, 3) := by decide +kernel
theorem dX4_mostFor_54 : decode cX4_mostFor 54 = .ok (.istore 4, 2) := by decide +kernel
theorem dX4_mostFor_56 : decode cX4_mostFor 56 = .ok (.iload 4, 2) := by decide +kernel
theorem dX4_mostFor_58 : decode cX4_mostFor 58 = .ok (.bipush 99, 2) := by decide +kernel
theorem dX4_mostFor_60 : decode cX4_mostFor 60 = .ok (.invokestatic 226, 3) := by decide +kernel
theorem dX4_mostFor_63 : decode cX4_mostFor 63 = .ok (.ireturn, 1) := by decide +kernel
set_option maxRecDepth 20000 in
theorem ggX4_ifPassed_X4_checkArgument : GoodIn wsX4_ifPassed wsX4_checkArgument := goodIn_ca (goodIn_r _ [6, 7, 8] (by decide +kernel) (by decide +kernel)) (goodIn_sub (fun _ h => List.mem_cons_of_mem _ (List.mem_append_right _ h)) (by decide +kernel))
set_option maxRecDepth 20000 in
theorem gX4_ifPassed_X4_checkArgument : GoodIn wsX4_ifPassed (va_wsS RX4 49 yX4_checkArgument wsX4_checkArgument) := goodIn_app (goodIn_of _ (by decide +kernel)) ggX4_ifPassed_X4_checkArgument
set_option maxRecDepth 20000 in
theorem ggX4_ifPassed_X3_lapsingBy : GoodIn wsX4_ifPassed wsX3_lapsingBy := goodIn_r _ [13, 14, 15, 43, 44, 45, 46, 47, 48, 49, 50, 51, 52, 53, 54, 55, 56, 57] (by decide +kernel) (by decide +kernel)
set_option maxRecDepth 20000 in
theorem gX4_ifPassed_X3_lapsingBy : GoodIn wsX4_ifPassed (wsV RX4 229 RX3 yX3_lapsingBy wsX3_lapsingBy) := goodIn_app (goodIn_of _ (by decide +kernel)) ggX4_ifPassed_X3_lapsingBy
set_option maxRecDepth 20000 in
theorem ggX4_ifPassed_X3_roomBelow : GoodIn wsX4_ifPassed wsX3_roomBelow := goodIn_r _ [19, 20, 21, 22, 23, 12, 24, 25, 14, 15, 26, 27, 28, 29, 30, 31, 32, 33, 34, 35, 36, 43, 44, 45, 46, 47, 48, 49, 50, 51, 52, 53, 54, 55, 56, 57] (by decide +kernel) (by decide +kernel)
set_option maxRecDepth 20000 in
theorem gX4_ifPassed_X3_roomBelow : GoodIn wsX4_ifPassed (wsV RX4 174 RX3 yX3_roomBelow wsX3_roomBelow) := goodIn_app (goodIn_of _ (by decide +kernel)) ggX4_ifPassed_X3_roomBelow
theorem dX4_ifPassed_0 : decode cX4_ifPassed 0 = .ok (.iload_n 1, 1) := by decide +kernel
theorem dX4_ifPassed_1 : decode cX4_ifPassed 1 = .ok (.iconst 0, 1) := by decide +kernel
theorem dX4_ifPassed_2 : decode cX4_ifPassed 2 = .ok (.sipush 200, 3) := by decide +kernel
theorem dX4_ifPassed_5 : decode cX4_ifPassed 5 = .ok (.invokestatic 49, 3) := by decide +kernel
theorem dX4_ifPassed_8 : decode cX4_ifPassed 8 = .ok (.iload_n 2, 1) := by decide +kernel
theorem dX4_ifPassed_9 : decode cX4_ifPassed 9 = .ok (.iconst 0, 1) := by decide +kernel
theorem dX4_ifPassed_10 : decode cX4_ifPassed 10 = .ok (.iconst 4, 1) := by decide +kernel
theorem dX4_ifPassed_11 : decode cX4_ifPassed 11 = .ok (.invokestatic 49, 3) := by decide +kernel
theorem dX4_ifPassed_14 : decode cX4_ifPassed 14 = .ok (.aload_n 0, 1) := by decide +kernel
theorem dX4_ifPassed_15 : decode cX4_ifPassed 15 = .ok (.getfield 10, 3) := by decide +kernel
theorem dX4_ifPassed_18 : decode cX4_ifPassed 18 = .ok (.getfield 127, 3) := by decide +kernel
theorem dX4_ifPassed_21 : decode cX4_ifPassed 21 = .ok (.iload_n 1, 1) := by decide +kernel
theorem dX4_ifPassed_22 : decode cX4_ifPassed 22 = .ok (.iadd, 1) := by decide +kernel
theorem dX4_ifPassed_23 : decode cX4_ifPassed 23 = .ok (.istore_n 3, 1) := by decide +kernel
theorem dX4_ifPassed_24 : decode cX4_ifPassed 24 = .ok (.iload_n 2, 1) := by decide +kernel
theorem dX4_ifPassed_25 : decode cX4_ifPassed 25 = .ok (.ifCond .ne 14, 3) := by decide +kernel
theorem dX4_ifPassed_28 : decode cX4_ifPassed 28 = .ok (.aload_n 0, 1) := by decide +kernel
theorem dX4_ifPassed_29 : decode cX4_ifPassed 29 = .ok (.getfield 10, 3) := by decide +kernel
theorem dX4_ifPassed_32 : decode cX4_ifPassed 32 = .ok (.iload_n 3, 1) := by decide +kernel
theorem dX4_ifPassed_33 : decode cX4_ifPassed 33 = .ok (.invokevirtual 229, 3) := by decide +kernel
theorem dX4_ifPassed_36 : decode cX4_ifPassed 36 = .ok (.goto 14, 3) := by decide +kernel
theorem dX4_ifPassed_39 : decode cX4_ifPassed 39 = .ok (.aload_n 0, 1) := by decide +kernel
theorem dX4_ifPassed_40 : decode cX4_ifPassed 40 = .ok (.getfield 10, 3) := by decide +kernel
theorem dX4_ifPassed_43 : decode cX4_ifPassed 43 = .ok (.iload_n 2, 1) := by decide +kernel
theorem dX4_ifPassed_44 : decode cX4_ifPassed 44 = .ok (.iconst 1, 1) := by decide +kernel
theorem dX4_ifPassed_45 : decode cX4_ifPassed 45 = .ok (.isub, 1) := by decide +kernel
theorem dX4_ifPassed_46 : decode cX4_ifPassed 46 = .ok (.iload_n 3, 1) := by decide +kernel
theorem dX4_ifPassed_47 : decode cX4_ifPassed 47 = .ok (.invokevirtual 174, 3) := by decide +kernel
theorem dX4_ifPassed_50 : decode cX4_ifPassed 50 = .ok (.ireturn, 1) := by decide +kernel
set_option maxRecDepth 20000 in
theorem ggX4_heldShare_X3_highOf : GoodIn wsX4_heldShare wsX3_highOf := goodIn_r _ [8, 9, 10, 11, 12, 13, 14, 15, 16, 17, 7, 18, 19, 20, 21, 41, 42, 43, 44, 45, 46, 47, 48, 49, 50, 51, 52, 53, 54, 55] (by decide +kernel) (by decide +kernel)
set_option maxRecDepth 20000 in
theorem gX4_heldShare_X3_highOf : GoodIn wsX4_heldShare (wsV RX4 57 RX3 yX3_highOf wsX3_highOf) := goodIn_app (goodIn_of _ (by decide +kernel)) ggX4_heldShare_X3_highOf
set_option maxRecDepth 20000 in
theorem ggX4_heldShare_X3_lowOf : GoodIn wsX4_heldShare wsX3_lowOf := goodIn_r _ [25, 26, 27, 28, 29, 7, 30, 9, 10, 31, 32, 33, 13, 34, 15, 16, 17, 18, 19, 20, 21, 41, 42, 43, 44, 45, 46, 47, 48, 49, 50, 51, 52, 53, 54, 55] (by decide +kernel) (by decide +kernel)
set_option maxRecDepth 20000 in
theorem gX4_heldShare_X3_lowOf : GoodIn wsX4_heldShare (wsV RX4 53 RX3 yX3_lowOf wsX3_lowOf) := goodIn_app (goodIn_of _ (by decide +kernel)) ggX4_heldShare_X3_lowOf
theorem dX4_heldShare_0 : decode cX4_heldShare 0 = .ok (.iconst 0, 1) := by decide +kernel
theorem dX4_heldShare_1 : decode cX4_heldShare 1 = .ok (.istore_n 1, 1) := by decide +kernel
theorem dX4_heldShare_2 : decode cX4_heldShare 2 = .ok (.iconst 0, 1) := by decide +kernel
theorem dX4_heldShare_3 : decode cX4_heldShare 3 = .ok (.istore_n 2, 1) := by decide +kernel
theorem dX4_heldShare_4 : decode cX4_heldShare 4 = .ok (.iconst 0, 1) := by decide +kernel
theorem dX4_heldShare_5 : decode cX4_heldShare 5 = .ok (.istore_n 3, 1) := by decide +kernel
theorem dX4_heldShare_6 : decode cX4_heldShare 6 = .ok (.iload_n 3, 1) := by decide +kernel
theorem dX4_heldShare_7 : decode cX4_heldShare 7 = .ok (.iconst 4, 1) := by decide +kernel
theorem dX4_heldShare_8 : decode cX4_heldShare 8 = .ok (.if_icmp .ge 51, 3) := by decide +kernel
theorem dX4_heldShare_11 : decode cX4_heldShare 11 = .ok (.iload_n 1, 1) := by decide +kernel
theorem dX4_heldShare_12 : decode cX4_heldShare 12 = .ok (.aload_n 0, 1) := by decide +kernel
theorem dX4_heldShare_13 : decode cX4_heldShare 13 = .ok (.getfield 10, 3) := by decide +kernel
theorem dX4_heldShare_16 : decode cX4_heldShare 16 = .ok (.iload_n 3, 1) := by decide +kernel
theorem dX4_heldShare_17 : decode cX4_heldShare 17 = .ok (.invokevirtual 57, 3) := by decide +kernel
theorem dX4_heldShare_20 : decode cX4_heldShare 20 = .ok (.aload_n 0, 1) := by decide +kernel
theorem dX4_heldShare_21 : decode cX4_heldShare 21 = .ok (.getfield 10, 3) := by decide +kernel
theorem dX4_heldShare_24 : decode cX4_heldShare 24 = .ok (.iload_n 3, 1) := by decide +kernel
theorem dX4_heldShare_25 : decode cX4_heldShare 25 = .ok (.invokevirtual 53, 3) := by decide +kernel
theorem dX4_heldShare_28 : decode cX4_heldShare 28 = .ok (.isub, 1) := by decide +kernel
theorem dX4_heldShare_29 : decode cX4_heldShare 29 = .ok (.iadd, 1) := by decide +kernel
theorem dX4_heldShare_30 : decode cX4_heldShare 30 = .ok (.istore_n 1, 1) := by decide +kernel
theorem dX4_heldShare_31 : decode cX4_heldShare 31 = .ok (.iload_n 2, 1) := by decide +kernel
theorem dX4_heldShare_32 : decode cX4_heldShare 32 = .ok (.aload_n 0, 1) := by decide +kernel
theorem dX4_heldShare_33 : decode cX4_heldShare 33 = .ok (.getfield 10, 3) := by decide +kernel
theorem dX4_heldShare_36 : decode cX4_heldShare 36 = .ok (.getfield 71, 3) := by decide +kernel
theorem dX4_heldShare_39 : decode cX4_heldShare 39 = .ok (.iload_n 3, 1) := by decide +kernel
theorem dX4_heldShare_40 : decode cX4_heldShare 40 = .ok (.iaload, 1) := by decide +kernel
theorem dX4_heldShare_41 : decode cX4_heldShare 41 = .ok (.aload_n 0, 1) := by decide +kernel
theorem dX4_heldShare_42 : decode cX4_heldShare 42 = .ok (.getfield 10, 3) := by decide +kernel
theorem dX4_heldShare_45 : decode cX4_heldShare 45 = .ok (.getfield 75, 3) := by decide +kernel
theorem dX4_heldShare_48 : decode cX4_heldShare 48 = .ok (.iload_n 3, 1) := by decide +kernel
theorem dX4_heldShare_49 : decode cX4_heldShare 49 = .ok (.iaload, 1) := by decide +kernel
theorem dX4_heldShare_50 : decode cX4_heldShare 50 = .ok (.isub, 1) := by decide +kernel
theorem dX4_heldShare_51 : decode cX4_heldShare 51 = .ok (.iadd, 1) := by decide +kernel
theorem dX4_heldShare_52 : decode cX4_heldShare 52 = .ok (.istore_n 2, 1) := by decide +kernel
theorem dX4_heldShare_53 : decode cX4_heldShare 53 = .ok (.iinc 3 1, 3) := by decide +kernel
theorem dX4_heldShare_56 : decode cX4_heldShare 56 = .ok (.goto (-50), 3) := by decide +kernel
theorem dX4_heldShare_59 : decode cX4_heldShare 59 = .ok (.iload_n 2, 1) := by decide +kernel
theorem dX4_heldShare_60 : decode cX4_heldShare 60 = .ok (.ifCond .ne 7, 3) := by decide +kernel
theorem dX4_heldShare_63 : decode cX4_heldShare 63 = .ok (.dconst 0, 1) := by decide +kernel
theorem dX4_heldShare_64 : decode cX4_heldShare 64 = .ok (.goto 8, 3) := by decide +kernel
theorem dX4_heldShare_67 : decode cX4_heldShare 67 = .ok (.iload_n 1, 1) := by decide +kernel
theorem dX4_heldShare_68 : decode cX4_heldShare 68 = .ok (.i2d, 1) := by decide +kernel
theorem dX4_heldShare_69 : decode cX4_heldShare 69 = .ok (.iload_n 2, 1) := by decide +kernel
theorem dX4_heldShare_70 : decode cX4_heldShare 70 = .ok (.i2d, 1) := by decide +kernel
theorem dX4_heldShare_71 : decode cX4_heldShare 71 = .ok (.ddiv, 1) := by decide +kernel
theorem dX4_heldShare_72 : decode cX4_heldShare 72 = .ok (.dreturn, 1) := by decide +kernel
set_option maxRecDepth 20000 in
theorem ggX4_digest_X4_count : GoodIn wsX4_digest wsX4_count := goodIn_ca (goodIn_r _ [8, 9, 10, 11, 12, 13, 14, 15, 16, 17, 18, 19, 20, 7, 21, 22, 23, 24, 25, 26, 27, 28, 29, 30, 31, 32, 33, 34, 35, 36, 37, 38, 221, 222, 223, 224, 225, 226, 227, 228, 229, 230, 231, 232, 233, 234, 235, 236, 237, 238, 239, 240, 241, 242, 243] (by decide +kernel) (by decide +kernel)) (goodIn_sub (fun _ h => List.mem_cons_of_mem _ (List.mem_append_left _ (List.mem_append_right _ h))) (by decide +kernel))
set_option maxRecDepth 20000 in
theorem gX4_digest_X4_count : GoodIn wsX4_digest (wsV RX4 234 RX4 yX4_count wsX4_count) := goodIn_app (goodIn_of _ (by decide +kernel)) ggX4_digest_X4_count
set_option maxRecDepth 20000 in
theorem ggX4_digest_X4_mixed : GoodIn wsX4_digest wsX4_mixed := goodIn_r _ [41, 42] (by decide +kernel) (by decide +kernel)
set_option maxRecDepth 20000 in
theorem gX4_digest_X4_mixed : GoodIn wsX4_digest (va_wsS RX4 237 yX4_mixed wsX4_mixed) := goodIn_app (goodIn_of _ (by decide +kernel)) ggX4_digest_X4_mixed
set_option maxRecDepth 20000 in
theorem ggX4_digest_X4_setting : GoodIn wsX4_digest wsX4_setting := goodIn_ca (goodIn_r _ [46, 9, 47, 48, 49, 7, 50, 51, 52, 221, 222, 223, 224, 225, 226, 227, 228, 229, 230, 231, 232, 233, 234, 235, 236, 237, 238, 239, 240, 241] (by decide +kernel) (by decide +kernel)) (goodIn_sub (fun _ h => List.mem_cons_of_mem _ (List.mem_append_right _ h)) (by decide +kernel))
set_option maxRecDepth 20000 in
theorem gX4_digest_X4_setting : GoodIn wsX4_digest (wsV RX4 241 RX4 yX4_setting wsX4_setting) := goodIn_app (goodIn_of _ (by decide +kernel)) ggX4_digest_X4_setting
set_option maxRecDepth 20000 in
theorem ggX4_digest_X4_mixedCounters : GoodIn wsX4_digest wsX4_mixedCounters := goodIn_ca (goodIn_ca (goodIn_r _ [56, 57, 58, 59, 7, 60, 9, 16, 61, 62, 10, 63, 48, 49, 50, 51, 52, 19, 20, 21, 22, 23, 64, 65, 66, 27, 67, 68, 69, 70, 71, 72, 73, 29, 38, 74, 75, 76, 77, 78, 79, 80, 81, 82, 83, 30, 84, 85, 86, 87, 88, 89, 90, 91, 92, 93, 94, 95, 96, 97, 98, 99, 100, 101, 102, 103, 104, 105, 106, 107, 108, 109, 110, 111, 112, 113, 114, 115, 116, 117, 118, 119, 120, 121, 122, 123, 124, 125, 126, 127, 128, 129, 130, 131, 132, 133, 134, 135, 136, 39, 40, 41, 42, 137, 138, 139, 140, 141, 142, 143, 144, 145, 146, 147, 148, 149, 150, 151, 152, 153, 154, 155, 156, 157, 158, 159, 221, 222, 223, 224, 225, 226, 227, 228, 229, 230, 231, 232, 233, 234, 235, 236, 237, 238, 239, 240, 241, 244] (by decide +kernel) (by decide +kernel)) (goodIn_sub (fun _ h => List.mem_cons_of_mem _ (List.mem_append_right _ h)) (by decide +kernel))) (goodIn_sub (fun _ h => List.mem_cons_of_mem _ (List.mem_append_left _ (List.mem_append_right _ h))) (by decide +kernel))
set_option maxRecDepth 20000 in
theorem gX4_digest_X4_mixedCounters : GoodIn wsX4_digest (wsV RX4 244 RX4 yX4_mixedCounters wsX4_mixedCounters) := goodIn_app (goodIn_of _ (by decide +kernel)) ggX4_digest_X4_mixedCounters
set_option maxRecDepth 20000 in
theorem ggX4_digest_X4_mixedPromises : GoodIn wsX4_digest wsX4_mixedPromises := goodIn_ca (goodIn_ca (goodIn_r _ [163, 9, 11, 164, 165, 166, 7, 167, 168, 169, 170, 171, 172, 10, 48, 49, 50, 51, 52, 19, 20, 21, 22, 23, 39, 40, 41, 42, 221, 222, 223, 224, 225, 226, 227, 228, 229, 230, 231, 232, 233, 234, 235, 236, 237, 238, 239, 240, 241] (by decide +kernel) (by decide +kernel)) (goodIn_sub (fun _ h => List.mem_cons_of_mem _ (List.mem_append_right _ h)) (by decide +kernel))) (goodIn_sub (fun _ h => List.mem_cons_of_mem _ (List.mem_append_left _ (List.mem_append_right _ h))) (by decide +kernel))
set_option maxRecDepth 20000 in
theorem gX4_digest_X4_mixedPromises : GoodIn wsX4_digest (wsV RX4 248 RX4 yX4_mixedPromises wsX4_mixedPromises) := goodIn_app (goodIn_of _ (by decide +kernel)) ggX4_digest_X4_mixedPromises
set_option maxRecDepth 20000 in
theorem ggX4_digest_X4_mixedOwners : GoodIn wsX4_digest wsX4_mixedOwners := goodIn_ca (goodIn_ca (goodIn_r _ [176, 177, 178, 179, 7, 180, 9, 13, 14, 15, 48, 49, 50, 51, 52, 19, 20, 21, 22, 23, 181, 156, 157, 27, 158, 29, 159, 182, 183, 184, 185, 83, 186, 187, 76, 188, 39, 40, 41, 42, 189, 190, 191, 192, 193, 194, 195, 196, 197, 198, 199, 68, 200, 151, 152, 153, 154, 155, 201, 100, 101, 102, 103, 69, 70, 71, 72, 73, 38, 74, 75, 77, 78, 79, 80, 81, 82, 30, 202, 105, 106, 107, 108, 109, 85, 86, 87, 88, 89, 90, 221, 222, 223, 224, 225, 226, 227, 228, 229, 230, 231, 232, 233, 234, 235, 236, 237, 238, 239, 240, 241] (by decide +kernel) (by decide +kernel)) (goodIn_sub (fun _ h => List.mem_cons_of_mem _ (List.mem_append_right _ h)) (by decide +kernel))) (goodIn_sub (fun _ h => List.mem_cons_of_mem _ (List.mem_append_left _ (List.mem_append_right _ h))) (by decide +kernel))
set_option maxRecDepth 20000 in
theorem gX4_digest_X4_mixedOwners : GoodIn wsX4_digest (wsV RX4 251 RX4 yX4_mixedOwners wsX4_mixedOwners) := goodIn_app (goodIn_of _ (by decide +kernel)) ggX4_digest_X4_mixedOwners
set_option maxRecDepth 20000 in
theorem ggX4_digest_X4_ifPassed : GoodIn wsX4_digest wsX4_ifPassed := goodIn_ca (goodIn_r _ [206, 9, 10, 19, 20, 7, 21, 22, 23, 207, 208, 209, 27, 210, 29, 38, 99, 100, 101, 102, 103, 69, 70, 71, 72, 73, 74, 75, 76, 77, 78, 79, 80, 81, 82, 83, 30, 221, 222, 223, 224, 225, 226, 227, 228, 229, 230, 231, 232, 233, 234, 235, 236, 237, 238, 239, 240, 241] (by decide +kernel) (by decide +kernel)) (goodIn_sub (fun _ h => List.mem_cons_of_mem _ (List.mem_append_left _ (List.mem_append_right _ h))) (by decide +kernel))
set_option maxRecDepth 20000 in
theorem gX4_digest_X4_ifPassed : GoodIn wsX4_digest (wsV RX4 254 RX4 yX4_ifPassed wsX4_ifPassed) := goodIn_app (goodIn_of _ (by decide +kernel)) ggX4_digest_X4_ifPassed
set_option maxRecDepth 20000 in
theorem ggX4_digest_X4_heldShare : GoodIn wsX4_digest wsX4_heldShare := goodIn_r _ [214, 9, 62, 61, 84, 85, 86, 27, 87, 73, 29, 88, 89, 76, 90, 78, 79, 80, 81, 82, 83, 30, 64, 65, 66, 67, 68, 69, 70, 71, 72, 38, 74, 75, 77, 221, 222, 223, 224, 225, 226, 227, 228, 229, 230, 231, 232, 233, 234, 235, 236, 237, 238, 239, 240, 241] (by decide +kernel) (by decide +kernel)
set_option maxRecDepth 20000 in
theorem gX4_digest_X4_heldShare : GoodIn wsX4_digest (wsV RX4 257 RX4 yX4_heldShare wsX4_heldShare) := goodIn_app (goodIn_of _ (by decide +kernel)) ggX4_digest_X4_heldShare
set_option maxRecDepth 20000 in
theorem ggX4_digest_X4_bitsOfShare : GoodIn wsX4_digest wsX4_bitsOfShare := goodIn_r _ [217, 218, 219, 220] (by decide +kernel) (by decide +kernel)
set_option maxRecDepth 20000 in
theorem gX4_digest_X4_bitsOfShare : GoodIn wsX4_digest (va_wsS RX4 261 yX4_bitsOfShare wsX4_bitsOfShare) := goodIn_app (goodIn_of _ (by decide +kernel)) ggX4_digest_X4_bitsOfShare
theorem dX4_digest_0 : decode cX4_digest 0 = .ok (.ldc2_w 232, 3) := by decide +kernel
theorem dX4_digest_3 : decode cX4_digest 3 = .ok (.lstore_n 1, 1) := by decide +kernel
theorem dX4_digest_4 : decode cX4_digest 4 = .ok (.iconst 0, 1) := by decide +kernel
theorem dX4_digest_5 : decode cX4_digest 5 = .ok (.istore_n 3, 1) := by decide +kernel
theorem dX4_digest_6 : decode cX4_digest 6 = .ok (.iload_n 3, 1) := by decide +kernel
theorem dX4_digest_7 : decode cX4_digest 7 = .ok (.bipush 9, 2) := by decide +kernel
theorem dX4_digest_9 : decode cX4_digest 9 = .ok (.if_icmp .gt 20, 3) := by decide +kernel
theorem dX4_digest_12 : decode cX4_digest 12 = .ok (.lload_n 1, 1) := by decide +kernel
theorem dX4_digest_13 : decode cX4_digest 13 = .ok (.aload_n 0, 1) := by decide +kernel
theorem dX4_digest_14 : decode cX4_digest 14 = .ok (.iload_n 3, 1) := by decide +kernel
theorem dX4_digest_15 : decode cX4_digest 15 = .ok (.invokevirtual 234, 3) := by decide +kernel
theorem dX4_digest_18 : decode cX4_digest 18 = .ok (.i2l, 1) := by decide +kernel
theorem dX4_digest_19 : decode cX4_digest 19 = .ok (.invokestatic 237, 3) := by decide +kernel
theorem dX4_digest_22 : decode cX4_digest 22 = .ok (.lstore_n 1, 1) := by decide +kernel
theorem dX4_digest_23 : decode cX4_digest 23 = .ok (.iinc 3 1, 3) := by decide +kernel
theorem dX4_digest_26 : decode cX4_digest 26 = .ok (.goto (-20), 3) := by decide +kernel
theorem dX4_digest_29 : decode cX4_digest 29 = .ok (.iconst 0, 1) := by decide +kernel
theorem dX4_digest_30 : decode cX4_digest 30 = .ok (.istore_n 3, 1) := by decide +kernel
theorem dX4_digest_31 : decode cX4_digest 31 = .ok (.iload_n 3, 1) := by decide +kernel
theorem dX4_digest_32 : decode cX4_digest 32 = .ok (.iconst 2, 1) := by decide +kernel
theorem dX4_digest_33 : decode cX4_digest 33 = .ok (.if_icmp .ge 20, 3) := by decide +kernel
theorem dX4_digest_36 : decode cX4_digest 36 = .ok (.lload_n 1, 1) := by decide +kernel
theorem dX4_digest_37 : decode cX4_digest 37 = .ok (.aload_n 0, 1) := by decide +kernel
theorem dX4_digest_38 : decode cX4_digest 38 = .ok (.iload_n 3, 1) := by decide +kernel
theorem dX4_digest_39 : decode cX4_digest 39 = .ok (.invokevirtual 241, 3) := by decide +kernel
theorem dX4_digest_42 : decode cX4_digest 42 = .ok (.i2l, 1) := by decide +kernel
theorem dX4_digest_43 : decode cX4_digest 43 = .ok (.invokestatic 237, 3) := by decide +kernel
theorem dX4_digest_46 : decode cX4_digest 46 = .ok (.lstore_n 1, 1) := by decide +kernel
theorem dX4_digest_47 : decode cX4_digest 47 = .ok (.iinc 3 1, 3) := by decide +kernel
theorem dX4_digest_50 : decode cX4_digest 50 = .ok (.goto (-19), 3) := by decide +kernel
theorem dX4_digest_53 : decode cX4_digest 53 = .ok (.aload_n 0, 1) := by decide +kernel
theorem dX4_digest_54 : decode cX4_digest 54 = .ok (.lload_n 1, 1) := by decide +kernel
theorem dX4_digest_55 : decode cX4_digest 55 = .ok (.invokevirtual 244, 3) := by decide +kernel
theorem dX4_digest_58 : decode cX4_digest 58 = .ok (.lstore_n 1, 1) := by decide +kernel
theorem dX4_digest_59 : decode cX4_digest 59 = .ok (.aload_n 0, 1) := by decide +kernel
theorem dX4_digest_60 : decode cX4_digest 60 = .ok (.lload_n 1, 1) := by decide +kernel
theorem dX4_digest_61 : decode cX4_digest 61 = .ok (.invokevirtual 248, 3) := by decide +kernel
theorem dX4_digest_64 : decode cX4_digest 64 = .ok (.lstore_n 1, 1) := by decide +kernel
theorem dX4_digest_65 : decode cX4_digest 65 = .ok (.aload_n 0, 1) := by decide +kernel
theorem dX4_digest_66 : decode cX4_digest 66 = .ok (.lload_n 1, 1) := by decide +kernel
theorem dX4_digest_67 : decode cX4_digest 67 = .ok (.invokevirtual 251, 3) := by decide +kernel
theorem dX4_digest_70 : decode cX4_digest 70 = .ok (.lstore_n 1, 1) := by decide +kernel
theorem dX4_digest_71 : decode cX4_digest 71 = .ok (.iconst 0, 1) := by decide +kernel
theorem dX4_digest_72 : decode cX4_digest 72 = .ok (.istore_n 3, 1) := by decide +kernel
theorem dX4_digest_73 : decode cX4_digest 73 = .ok (.iload_n 3, 1) := by decide +kernel
theorem dX4_digest_74 : decode cX4_digest 74 = .ok (.iconst 4, 1) := by decide +kernel
theorem dX4_digest_75 : decode cX4_digest 75 = .ok (.if_icmp .gt 21, 3) := by decide +kernel
theorem dX4_digest_78 : decode cX4_digest 78 = .ok (.lload_n 1, 1) := by decide +kernel
theorem dX4_digest_79 : decode cX4_digest 79 = .ok (.aload_n 0, 1) := by decide +kernel
theorem dX4_digest_80 : decode cX4_digest 80 = .ok (.iconst 5, 1) := by decide +kernel
theorem dX4_digest_81 : decode cX4_digest 81 = .ok (.iload_n 3, 1) := by decide +kernel
theorem dX4_digest_82 : decode cX4_digest 82 = .ok (.invokevirtual 254, 3) := by decide +kernel
theorem dX4_digest_85 : decode cX4_digest 85 = .ok (.i2l, 1) := by decide +kernel
theorem dX4_digest_86 : decode cX4_digest 86 = .ok (.invokestatic 237, 3) := by decide +kernel
theorem dX4_digest_89 : decode cX4_digest 89 = .ok (.lstore_n 1, 1) := by decide +kernel
theorem dX4_digest_90 : decode cX4_digest 90 = .ok (.iinc 3 1, 3) := by decide +kernel
theorem dX4_digest_93 : decode cX4_digest 93 = .ok (.goto (-20), 3) := by decide +kernel
theorem dX4_digest_96 : decode cX4_digest 96 = .ok (.lload_n 1, 1) := by decide +kernel
theorem dX4_digest_97 : decode cX4_digest 97 = .ok (.aload_n 0, 1) := by decide +kernel
theorem dX4_digest_98 : decode cX4_digest 98 = .ok (.invokevirtual 257, 3) := by decide +kernel
theorem dX4_digest_101 : decode cX4_digest 101 = .ok (.invokestatic 261, 3) := by decide +kernel
theorem dX4_digest_104 : decode cX4_digest 104 = .ok (.invokestatic 237, 3) := by decide +kernel
theorem dX4_digest_107 : decode cX4_digest 107 = .ok (.lstore_n 1, 1) := by decide +kernel
theorem dX4_digest_108 : decode cX4_digest 108 = .ok (.lload_n 1, 1) := by decide +kernel
theorem dX4_digest_109 : decode cX4_digest 109 = .ok (.aload_n 0, 1) := by decide +kernel
theorem dX4_digest_110 : decode cX4_digest 110 = .ok (.getfield 41, 3) := by decide +kernel
theorem dX4_digest_113 : decode cX4_digest 113 = .ok (.i2l, 1) := by decide +kernel
theorem dX4_digest_114 : decode cX4_digest 114 = .ok (.invokestatic 237, 3) := by decide +kernel
theorem dX4_digest_117 : decode cX4_digest 117 = .ok (.lstore_n 1, 1) := by decide +kernel
theorem dX4_digest_118 : decode cX4_digest 118 = .ok (.iconst 0, 1) := by decide +kernel
theorem dX4_digest_119 : decode cX4_digest 119 = .ok (.istore_n 3, 1) := by decide +kernel
theorem dX4_digest_120 : decode cX4_digest 120 = .ok (.iload_n 3, 1) := by decide +kernel
theorem dX4_digest_121 : decode cX4_digest 121 = .ok (.aload_n 0, 1) := by decide +kernel
theorem dX4_digest_122 : decode cX4_digest 122 = .ok (.getfield 41, 3) := by decide +kernel
theorem dX4_digest_125 : decode cX4_digest 125 = .ok (.if_icmp .ge 21, 3) := by decide +kernel
theorem dX4_digest_128 : decode cX4_digest 128 = .ok (.lload_n 1, 1) := by decide +kernel
theorem dX4_digest_129 : decode cX4_digest 129 = .ok (.aload_n 0, 1) := by decide +kernel
theorem dX4_digest_130 : decode cX4_digest 130 = .ok (.getfield 37, 3) := by decide +kernel
theorem dX4_digest_133 : decode cX4_digest 133 = .ok (.iload_n 3, 1) := by decide +kernel
theorem dX4_digest_134 : decode cX4_digest 134 = .ok (.caload, 1) := by decide +kernel
theorem dX4_digest_135 : decode cX4_digest 135 = .ok (.i2l, 1) := by decide +kernel
theorem dX4_digest_136 : decode cX4_digest 136 = .ok (.invokestatic 237, 3) := by decide +kernel
theorem dX4_digest_139 : decode cX4_digest 139 = .ok (.lstore_n 1, 1) := by decide +kernel
theorem dX4_digest_140 : decode cX4_digest 140 = .ok (.iinc 3 1, 3) := by decide +kernel
theorem dX4_digest_143 : decode cX4_digest 143 = .ok (.goto (-23), 3) := by decide +kernel
theorem dX4_digest_146 : decode cX4_digest 146 = .ok (.lload_n 1, 1) := by decide +kernel
theorem dX4_digest_147 : decode cX4_digest 147 = .ok (.lreturn, 1) := by decide +kernel
set_option maxRecDepth 20000 in
theorem ggX4_mixedCounters_X4_counter : GoodIn wsX4_mixedCounters wsX4_counter := goodIn_ca (goodIn_ca (goodIn_r _ [5, 6, 7, 8, 9, 10, 11, 12, 13, 4, 14, 15, 16, 17, 18, 19, 20, 21, 22, 23, 24, 25, 26, 27, 28, 29, 30, 31, 32, 33, 34, 35, 36, 37, 38, 39, 40, 41, 42, 43, 44, 45, 46, 47, 48, 49, 50, 51, 52, 53, 54, 55, 56, 57, 58, 59, 60, 61, 62, 63, 64, 65, 66, 67, 68, 69, 70, 71, 72, 73, 74, 75, 76, 77, 78, 79, 80, 81, 82, 83, 84, 85, 86, 87, 88, 89, 90, 91, 92, 93, 94, 95, 96, 97, 98, 126, 127, 128, 129, 130, 131, 132, 133, 134, 135, 136, 137, 138, 139, 140, 141, 142, 143, 144, 145, 146, 147] (by decide +kernel) (by decide +kernel)) (goodIn_sub (fun _ h => List.mem_cons_of_mem _ (List.mem_append_left _ (List.mem_append_right _ h))) (by decide +kernel))) (goodIn_sub (fun _ h => List.mem_cons_of_mem _ (List.mem_append_right _ h)) (by decide +kernel))
set_option maxRecDepth 20000 in
theorem gX4_mixedCounters_X4_counter : GoodIn wsX4_mixedCounters (wsV RX4 265 RX4 yX4_counter wsX4_counter) := goodIn_app (goodIn_of _ (by decide +kernel)) ggX4_mixedCounters_X4_counter
set_option maxRecDepth 20000 in
theorem ggX4_mixedCounters_X4_mixed : GoodIn wsX4_mixedCounters wsX4_mixed := goodIn_r _ [101, 102] (by decide +kernel) (by decide +kernel)
set_option maxRecDepth 20000 in
theorem gX4_mixedCounters_X4_mixed : GoodIn wsX4_mixedCounters (va_wsS RX4 237 yX4_mixed wsX4_mixed) := goodIn_app (goodIn_of _ (by decide +kernel)) ggX4_mixedCounters_X4_mixed
set_option maxRecDepth 20000 in
theorem ggX4_mixedCounters_X4_canBe : GoodIn wsX4_mixedCounters wsX4_canBe := goodIn_ca (goodIn_r _ [106, 11, 6, 12, 13, 4, 14, 15, 16, 107, 108, 109, 75, 110, 77, 84, 23, 24, 25, 26, 27, 28, 29, 30, 31, 32, 33, 34, 35, 36, 37, 38, 39, 40, 41, 42, 43, 44, 45, 85, 47, 48, 49, 50, 51, 52, 78, 79, 80, 81, 82, 83, 86, 87, 88, 89, 90, 91, 92, 93, 94, 95, 96, 97, 98, 126, 127, 128, 129, 130, 131, 147, 132, 133, 134, 135, 136, 137, 138, 139, 140, 141, 142, 143, 144, 145, 146] (by decide +kernel) (by decide +kernel)) (goodIn_sub (fun _ h => List.mem_cons_of_mem _ (List.mem_append_left _ (List.mem_append_right _ h))) (by decide +kernel))
set_option maxRecDepth 20000 in
theorem gX4_mixedCounters_X4_canBe : GoodIn wsX4_mixedCounters (wsV RX4 267 RX4 yX4_canBe wsX4_canBe) := goodIn_app (goodIn_of _ (by decide +kernel)) ggX4_mixedCounters_X4_canBe
set_option maxRecDepth 20000 in
theorem ggX4_mixedCounters_X4_mostFor : GoodIn wsX4_mixedCounters wsX4_mostFor := goodIn_ca (goodIn_r _ [114, 6, 10, 115, 36, 37, 38, 12, 13, 4, 14, 15, 16, 116, 117, 118, 25, 119, 33, 120, 121, 122, 123, 124, 125, 66, 67, 68, 69, 70, 71, 47, 48, 49, 32, 50, 51, 52, 39, 40, 41, 42, 43, 44, 45, 61, 62, 63, 64, 65, 28, 29, 30, 31, 34, 35, 126, 127, 128, 129, 130, 131, 132, 133, 134, 135, 136, 137, 138, 139, 140, 141, 142, 143, 144, 145, 146] (by decide +kernel) (by decide +kernel)) (goodIn_sub (fun _ h => List.mem_cons_of_mem _ (List.mem_append_left _ (List.mem_append_right _ h))) (by decide +kernel))
set_option maxRecDepth 20000 in
theorem gX4_mixedCounters_X4_mostFor : GoodIn wsX4_mixedCounters (wsV RX4 270 RX4 yX4_mostFor wsX4_mostFor) := goodIn_app (goodIn_of _ (by decide +kernel)) ggX4_mixedCounters_X4_mostFor
theorem dX4_mixedCounters_0 : decode cX4_mixedCounters 0 = .ok (.lload_n 1, 1) := by decide +kernel
theorem dX4_mixedCounters_1 : decode cX4_mixedCounters 1 = .ok (.lstore_n 3, 1) := by decide +kernel
theorem dX4_mixedCounters_2 : decode cX4_mixedCounters 2 = .ok (.iconst 0, 1) := by decide +kernel
theorem dX4_mixedCounters_3 : decode cX4_mixedCounters 3 = .ok (.istore 5, 2) := by decide +kernel
theorem dX4_mixedCounters_5 : decode cX4_mixedCounters 5 = .ok (.iload 5, 2) := by decide +kernel
theorem dX4_mixedCounters_7 : decode cX4_mixedCounters 7 = .ok (.iconst 4, 1) := by decide +kernel
theorem dX4_mixedCounters_8 : decode cX4_mixedCounters 8 = .ok (.if_icmp .ge 80, 3) := by decide +kernel
theorem dX4_mixedCounters_11 : decode cX4_mixedCounters 11 = .ok (.iconst 0, 1) := by decide +kernel
theorem dX4_mixedCounters_12 : decode cX4_mixedCounters 12 = .ok (.istore 6, 2) := by decide +kernel
theorem dX4_mixedCounters_14 : decode cX4_mixedCounters 14 = .ok (.iload 6, 2) := by decide +kernel
theorem dX4_mixedCounters_16 : decode cX4_mixedCounters 16 = .ok (.bipush 9, 2) := by decide +kernel
theorem dX4_mixedCounters_18 : decode cX4_mixedCounters 18 = .ok (.if_icmp .gt 23, 3) := by decide +kernel
theorem dX4_mixedCounters_21 : decode cX4_mixedCounters 21 = .ok (.lload_n 3, 1) := by decide +kernel
theorem dX4_mixedCounters_22 : decode cX4_mixedCounters 22 = .ok (.aload_n 0, 1) := by decide +kernel
theorem dX4_mixedCounters_23 : decode cX4_mixedCounters 23 = .ok (.iload 5, 2) := by decide +kernel
theorem dX4_mixedCounters_25 : decode cX4_mixedCounters 25 = .ok (.iload 6, 2) := by decide +kernel
theorem dX4_mixedCounters_27 : decode cX4_mixedCounters 27 = .ok (.invokevirtual 265, 3) := by decide +kernel
theorem dX4_mixedCounters_30 : decode cX4_mixedCounters 30 = .ok (.i2l, 1) := by decide +kernel
theorem dX4_mixedCounters_31 : decode cX4_mixedCounters 31 = .ok (.invokestatic 237, 3) := by decide +kernel
theorem dX4_mixedCounters_34 : decode cX4_mixedCounters 34 = .ok (.lstore_n 3, 1) := by decide +kernel
theorem dX4_mixedCounters_35 : decode cX4_mixedCounters 35 = .ok (.iinc 6 1, 3) := by decide +kernel
theorem dX4_mixedCounters_38 : decode cX4_mixedCounters 38 = .ok (.goto (-24), 3) := by decide +kernel
theorem dX4_mixedCounters_41 : decode cX4_mixedCounters 41 = .ok (.lload_n 3, 1) := by decide +kernel
theorem dX4_mixedCounters_42 : decode cX4_mixedCounters 42 = .ok (.aload_n 0, 1) := by decide +kernel
theorem dX4_mixedCounters_43 : decode cX4_mixedCounters 43 = .ok (.iload 5, 2) := by decide +kernel
theorem dX4_mixedCounters_45 : decode cX4_mixedCounters 45 = .ok (.iconst 5, 1) := by decide +kernel
theorem dX4_mixedCounters_46 : decode cX4_mixedCounters 46 = .ok (.invokevirtual 267, 3) := by decide +kernel
theorem dX4_mixedCounters_49 : decode cX4_mixedCounters 49 = .ok (.i2l, 1) := by decide +kernel
theorem dX4_mixedCounters_50 : decode cX4_mixedCounters 50 = .ok (.invokestatic 237, 3) := by decide +kernel
theorem dX4_mixedCounters_53 : decode cX4_mixedCounters 53 = .ok (.lstore_n 3, 1) := by decide +kernel
theorem dX4_mixedCounters_54 : decode cX4_mixedCounters 54 = .ok (.lload_n 3, 1) := by decide +kernel
theorem dX4_mixedCounters_55 : decode cX4_mixedCounters 55 = .ok (.aload_n 0, 1) := by decide +kernel
theorem dX4_mixedCounters_56 : decode cX4_mixedCounters 56 = .ok (.iconst 0, 1) := by decide +kernel
theorem dX4_mixedCounters_57 : decode cX4_mixedCounters 57 = .ok (.iload 5, 2) := by decide +kernel
theorem dX4_mixedCounters_59 : decode cX4_mixedCounters 59 = .ok (.iconst 1, 1) := by decide +kernel
theorem dX4_mixedCounters_60 : decode cX4_mixedCounters 60 = .ok (.invokevirtual 270, 3) := by decide +kernel
theorem dX4_mixedCounters_63 : decode cX4_mixedCounters 63 = .ok (.i2l, 1) := by decide +kernel
theorem dX4_mixedCounters_64 : decode cX4_mixedCounters 64 = .ok (.invokestatic 237, 3) := by decide +kernel
theorem dX4_mixedCounters_67 : decode cX4_mixedCounters 67 = .ok (.lstore_n 3, 1) := by decide +kernel
theorem dX4_mixedCounters_68 : decode cX4_mixedCounters 68 = .ok (.lload_n 3, 1) := by decide +kernel
theorem dX4_mixedCounters_69 : decode cX4_mixedCounters 69 = .ok (.aload_n 0, 1) := by decide +kernel
theorem dX4_mixedCounters_70 : decode cX4_mixedCounters 70 = .ok (.iconst 0, 1) := by decide +kernel
theorem dX4_mixedCounters_71 : decode cX4_mixedCounters 71 = .ok (.iload 5, 2) := by decide +kernel
theorem dX4_mixedCounters_73 : decode cX4_mixedCounters 73 = .ok (.iconst 0, 1) := by decide +kernel
theorem dX4_mixedCounters_74 : decode cX4_mixedCounters 74 = .ok (.invokevirtual 270, 3) := by decide +kernel
theorem dX4_mixedCounters_77 : decode cX4_mixedCounters 77 = .ok (.i2l, 1) := by decide +kernel
theorem dX4_mixedCounters_78 : decode cX4_mixedCounters 78 = .ok (.invokestatic 237, 3) := by decide +kernel
theorem dX4_mixedCounters_81 : decode cX4_mixedCounters 81 = .ok (.lstore_n 3, 1) := by decide +kernel
theorem dX4_mixedCounters_82 : decode cX4_mixedCounters 82 = .ok (.iinc 5 1, 3) := by decide +kernel
theorem dX4_mixedCounters_85 : decode cX4_mixedCounters 85 = .ok (.goto (-80), 3) := by decide +kernel
theorem dX4_mixedCounters_88 : decode cX4_mixedCounters 88 = .ok (.lload_n 3, 1) := by decide +kernel
theorem dX4_mixedCounters_89 : decode cX4_mixedCounters 89 = .ok (.lreturn, 1) := by decide +kernel
set_option maxRecDepth 20000 in
theorem ggX4_mixedPromises_X4_promiseOf : GoodIn wsX4_mixedPromises wsX4_promiseOf := goodIn_ca (goodIn_ca (goodIn_r _ [7, 1, 2, 8, 9, 10, 11, 12, 13, 14, 15, 6, 16, 17, 18, 19, 20, 21, 22, 23, 28, 29, 30, 31, 32, 33, 34, 35, 36, 37, 38, 39, 40, 41, 42, 43, 44, 45, 46, 47, 48] (by decide +kernel) (by decide +kernel)) (goodIn_sub (fun _ h => List.mem_cons_of_mem _ (List.mem_append_left _ (List.mem_append_right _ h))) (by decide +kernel))) (goodIn_sub (fun _ h => List.mem_cons_of_mem _ (List.mem_append_right _ h)) (by decide +kernel))
set_option maxRecDepth 20000 in
theorem gX4_mixedPromises_X4_promiseOf : GoodIn wsX4_mixedPromises (wsV RX4 274 RX4 yX4_promiseOf wsX4_promiseOf) := goodIn_app (goodIn_of _ (by decide +kernel)) ggX4_mixedPromises_X4_promiseOf
set_option maxRecDepth 20000 in
theorem ggX4_mixedPromises_X4_mixed : GoodIn wsX4_mixedPromises wsX4_mixed := goodIn_r _ [26, 27] (by decide +kernel) (by decide +kernel)
set_option maxRecDepth 20000 in
theorem gX4_mixedPromises_X4_mixed : GoodIn wsX4_mixedPromises (va_wsS RX4 237 yX4_mixed wsX4_mixed) := goodIn_app (goodIn_of _ (by decide +kernel)) ggX4_mixedPromises_X4_mixed
theorem dX4_mixedPromises_0 : decode cX4_mixedPromises 0 = .ok (.lload_n 1, 1) := by decide +kernel
theorem dX4_mixedPromises_1 : decode cX4_mixedPromises 1 = .ok (.lstore_n 3, 1) := by decide +kernel
theorem dX4_mixedPromises_2 : decode cX4_mixedPromises 2 = .ok (.iconst 0, 1) := by decide +kernel
theorem dX4_mixedPromises_3 : decode cX4_mixedPromises 3 = .ok (.istore 5, 2) := by decide +kernel
theorem dX4_mixedPromises_5 : decode cX4_mixedPromises 5 = .ok (.iload 5, 2) := by decide +kernel
theorem dX4_mixedPromises_7 : decode cX4_mixedPromises 7 = .ok (.aload_n 0, 1) := by decide +kernel
theorem dX4_mixedPromises_8 : decode cX4_mixedPromises 8 = .ok (.getfield 10, 3) := by decide +kernel
theorem dX4_mixedPromises_11 : decode cX4_mixedPromises 11 = .ok (.getfield 98, 3) := by decide +kernel
theorem dX4_mixedPromises_14 : decode cX4_mixedPromises 14 = .ok (.if_icmp .ge 38, 3) := by decide +kernel
theorem dX4_mixedPromises_17 : decode cX4_mixedPromises 17 = .ok (.iconst 0, 1) := by decide +kernel
theorem dX4_mixedPromises_18 : decode cX4_mixedPromises 18 = .ok (.istore 6, 2) := by decide +kernel
theorem dX4_mixedPromises_20 : decode cX4_mixedPromises 20 = .ok (.iload 6, 2) := by decide +kernel
theorem dX4_mixedPromises_22 : decode cX4_mixedPromises 22 = .ok (.iconst 5, 1) := by decide +kernel
theorem dX4_mixedPromises_23 : decode cX4_mixedPromises 23 = .ok (.if_icmp .gt 23, 3) := by decide +kernel
theorem dX4_mixedPromises_26 : decode cX4_mixedPromises 26 = .ok (.lload_n 3, 1) := by decide +kernel
theorem dX4_mixedPromises_27 : decode cX4_mixedPromises 27 = .ok (.aload_n 0, 1) := by decide +kernel
theorem dX4_mixedPromises_28 : decode cX4_mixedPromises 28 = .ok (.iload 5, 2) := by decide +kernel
theorem dX4_mixedPromises_30 : decode cX4_mixedPromises 30 = .ok (.iload 6, 2) := by decide +kernel
theorem dX4_mixedPromises_32 : decode cX4_mixedPromises 32 = .ok (.invokevirtual 274, 3) := by decide +kernel
theorem dX4_mixedPromises_35 : decode cX4_mixedPromises 35 = .ok (.i2l, 1) := by decide +kernel
theorem dX4_mixedPromises_36 : decode cX4_mixedPromises 36 = .ok (.invokestatic 237, 3) := by decide +kernel
theorem dX4_mixedPromises_39 : decode cX4_mixedPromises 39 = .ok (.lstore_n 3, 1) := by decide +kernel
theorem dX4_mixedPromises_40 : decode cX4_mixedPromises 40 = .ok (.iinc 6 1, 3) := by decide +kernel
theorem dX4_mixedPromises_43 : decode cX4_mixedPromises 43 = .ok (.goto (-23), 3) := by decide +kernel
theorem dX4_mixedPromises_46 : decode cX4_mixedPromises 46 = .ok (.iinc 5 1, 3) := by decide +kernel
theorem dX4_mixedPromises_49 : decode cX4_mixedPromises 49 = .ok (.goto (-44), 3) := by decide +kernel
theorem dX4_mixedPromises_52 : decode cX4_mixedPromises 52 = .ok (.lload_n 3, 1) := by decide +kernel
theorem dX4_mixedPromises_53 : decode cX4_mixedPromises 53 = .ok (.lreturn, 1) := by decide +kernel
set_option maxRecDepth 20000 in
theorem ggX4_mixedOwners_X4_owner : GoodIn wsX4_mixedOwners wsX4_owner := goodIn_ca (goodIn_ca (goodIn_r _ [5, 6, 7, 8, 9, 10, 11, 4, 12, 13, 14, 15, 16, 17, 18, 19, 20, 21, 22, 23, 24, 25, 26, 27, 28, 29, 30, 31, 32, 33, 34, 35, 90, 91, 92, 93, 94, 95, 96, 97, 98, 99, 100, 101, 102, 103, 104, 105, 106, 107, 108, 109, 110] (by decide +kernel) (by decide +kernel)) (goodIn_sub (fun _ h => List.mem_cons_of_mem _ (List.mem_append_left _ (List.mem_append_right _ h))) (by decide +kernel))) (goodIn_sub (fun _ h => List.mem_cons_of_mem _ (List.mem_append_right _ h)) (by decide +kernel))
set_option maxRecDepth 20000 in
theorem gX4_mixedOwners_X4_owner : GoodIn wsX4_mixedOwners (wsV RX4 277 RX4 yX4_owner wsX4_owner) := goodIn_app (goodIn_of _ (by decide +kernel)) ggX4_mixedOwners_X4_owner
set_option maxRecDepth 20000 in
theorem ggX4_mixedOwners_X4_mixed : GoodIn wsX4_mixedOwners wsX4_mixed := goodIn_r _ [38, 39] (by decide +kernel) (by decide +kernel)
set_option maxRecDepth 20000 in
theorem gX4_mixedOwners_X4_mixed : GoodIn wsX4_mixedOwners (va_wsS RX4 237 yX4_mixed wsX4_mixed) := goodIn_app (goodIn_of _ (by decide +kernel)) ggX4_mixedOwners_X4_mixed
set_option maxRecDepth 20000 in
theorem ggX4_mixedOwners_X4_whyNot : GoodIn wsX4_mixedOwners wsX4_whyNot := goodIn_ca (goodIn_ca (goodIn_r _ [43, 6, 10, 11, 4, 12, 13, 14, 44, 45, 46, 18, 19, 15, 16, 17, 47, 48, 49, 23, 50, 51, 52, 53, 54, 55, 25, 56, 57, 21, 22, 24, 26, 58, 59, 60, 61, 62, 63, 64, 65, 66, 67, 68, 69, 70, 34, 71, 72, 73, 74, 75, 76, 31, 77, 78, 79, 80, 81, 82, 83, 84, 85, 86, 87, 88, 89, 90, 91, 92, 93, 94, 95, 96, 97, 98, 99, 100, 101, 102, 103, 104, 105, 106, 107, 108, 109, 110] (by decide +kernel) (by decide +kernel)) (goodIn_sub (fun _ h => List.mem_cons_of_mem _ (List.mem_append_left _ (List.mem_append_right _ h))) (by decide +kernel))) (goodIn_sub (fun _ h => List.mem_cons_of_mem _ (List.mem_append_right _ h)) (by decide +kernel))
set_option maxRecDepth 20000 in
theorem gX4_mixedOwners_X4_whyNot : GoodIn wsX4_mixedOwners (wsV RX4 279 RX4 yX4_whyNot wsX4_whyNot) := goodIn_app (goodIn_of _ (by decide +kernel)) ggX4_mixedOwners_X4_whyNot
theorem dX4_mixedOwners_0 : decode cX4_mixedOwners 0 = .ok (.lload_n 1, 1) := by decide +kernel
theorem dX4_mixedOwners_1 : decode cX4_mixedOwners 1 = .ok (.lstore_n 3, 1) := by decide +kernel
theorem dX4_mixedOwners_2 : decode cX4_mixedOwners 2 = .ok (.iconst 0, 1) := by decide +kernel
theorem dX4_mixedOwners_3 : decode cX4_mixedOwners 3 = .ok (.istore 5, 2) := by decide +kernel
theorem dX4_mixedOwners_5 : decode cX4_mixedOwners 5 = .ok (.iload 5, 2) := by decide +kernel
theorem dX4_mixedOwners_7 : decode cX4_mixedOwners 7 = .ok (.bipush 6, 2) := by decide +kernel
theorem dX4_mixedOwners_9 : decode cX4_mixedOwners 9 = .ok (.if_icmp .ge 53, 3) := by decide +kernel
theorem dX4_mixedOwners_12 : decode cX4_mixedOwners 12 = .ok (.iconst 0, 1) := by decide +kernel
theorem dX4_mixedOwners_13 : decode cX4_mixedOwners 13 = .ok (.istore 6, 2) := by decide +kernel
theorem dX4_mixedOwners_15 : decode cX4_mixedOwners 15 = .ok (.iload 6, 2) := by decide +kernel
theorem dX4_mixedOwners_17 : decode cX4_mixedOwners 17 = .ok (.iconst 4, 1) := by decide +kernel
theorem dX4_mixedOwners_18 : decode cX4_mixedOwners 18 = .ok (.if_icmp .gt 23, 3) := by decide +kernel
theorem dX4_mixedOwners_21 : decode cX4_mixedOwners 21 = .ok (.lload_n 3, 1) := by decide +kernel
theorem dX4_mixedOwners_22 : decode cX4_mixedOwners 22 = .ok (.aload_n 0, 1) := by decide +kernel
theorem dX4_mixedOwners_23 : decode cX4_mixedOwners 23 = .ok (.iload 5, 2) := by decide +kernel
theorem dX4_mixedOwners_25 : decode cX4_mixedOwners 25 = .ok (.iload 6, 2) := by decide +kernel
theorem dX4_mixedOwners_27 : decode cX4_mixedOwners 27 = .ok (.invokevirtual 277, 3) := by decide +kernel
theorem dX4_mixedOwners_30 : decode cX4_mixedOwners 30 = .ok (.i2l, 1) := by decide +kernel
theorem dX4_mixedOwners_31 : decode cX4_mixedOwners 31 = .ok (.invokestatic 237, 3) := by decide +kernel
theorem dX4_mixedOwners_34 : decode cX4_mixedOwners 34 = .ok (.lstore_n 3, 1) := by decide +kernel
theorem dX4_mixedOwners_35 : decode cX4_mixedOwners 35 = .ok (.iinc 6 1, 3) := by decide +kernel
theorem dX4_mixedOwners_38 : decode cX4_mixedOwners 38 = .ok (.goto (-23), 3) := by decide +kernel
theorem dX4_mixedOwners_41 : decode cX4_mixedOwners 41 = .ok (.lload_n 3, 1) := by decide +kernel
theorem dX4_mixedOwners_42 : decode cX4_mixedOwners 42 = .ok (.aload_n 0, 1) := by decide +kernel
theorem dX4_mixedOwners_43 : decode cX4_mixedOwners 43 = .ok (.iload 5, 2) := by decide +kernel
theorem dX4_mixedOwners_45 : decode cX4_mixedOwners 45 = .ok (.iconst 1, 1) := by decide +kernel
theorem dX4_mixedOwners_46 : decode cX4_mixedOwners 46 = .ok (.bipush 7, 2) := by decide +kernel
theorem dX4_mixedOwners_48 : decode cX4_mixedOwners 48 = .ok (.invokevirtual 279, 3) := by decide +kernel
theorem dX4_mixedOwners_51 : decode cX4_mixedOwners 51 = .ok (.i2l, 1) := by decide +kernel
theorem dX4_mixedOwners_52 : decode cX4_mixedOwners 52 = .ok (.invokestatic 237, 3) := by decide +kernel
theorem dX4_mixedOwners_55 : decode cX4_mixedOwners 55 = .ok (.lstore_n 3, 1) := by decide +kernel
theorem dX4_mixedOwners_56 : decode cX4_mixedOwners 56 = .ok (.iinc 5 1, 3) := by decide +kernel
theorem dX4_mixedOwners_59 : decode cX4_mixedOwners 59 = .ok (.goto (-54), 3) := by decide +kernel
theorem dX4_mixedOwners_62 : decode cX4_mixedOwners 62 = .ok (.lload_n 3, 1) := by decide +kernel
theorem dX4_mixedOwners_63 : decode cX4_mixedOwners 63 = .ok (.lreturn, 1) := by decide +kernel
theorem dX4_mixed_0 : decode cX4_mixed 0 = .ok (.ldc2_w 283, 3) := by decide +kernel
theorem dX4_mixed_3 : decode cX4_mixed 3 = .ok (.lload_n 0, 1) := by decide +kernel
theorem dX4_mixed_4 : decode cX4_mixed 4 = .ok (.lmul, 1) := by decide +kernel
theorem dX4_mixed_5 : decode cX4_mixed 5 = .ok (.lload_n 2, 1) := by decide +kernel
theorem dX4_mixed_6 : decode cX4_mixed 6 = .ok (.ladd, 1) := by decide +kernel
theorem dX4_mixed_7 : decode cX4_mixed 7 = .ok (.lreturn, 1) := by decide +kernel
theorem dX4_bitsOfShare_0 : decode cX4_bitsOfShare 0 = .ok (.dload_n 0, 1) := by decide +kernel
theorem dX4_bitsOfShare_1 : decode cX4_bitsOfShare 1 = .ok (.dconst 0, 1) := by decide +kernel
theorem dX4_bitsOfShare_2 : decode cX4_bitsOfShare 2 = .ok (.dcmp .g, 1) := by decide +kernel
theorem dX4_bitsOfShare_3 : decode cX4_bitsOfShare 3 = .ok (.ifCond .gt 5, 3) := by decide +kernel
theorem dX4_bitsOfShare_6 : decode cX4_bitsOfShare 6 = .ok (.lconst 0, 1) := by decide +kernel
theorem dX4_bitsOfShare_7 : decode cX4_bitsOfShare 7 = .ok (.lreturn, 1) := by decide +kernel
theorem dX4_bitsOfShare_8 : decode cX4_bitsOfShare 8 = .ok (.dload_n 0, 1) := by decide +kernel
theorem dX4_bitsOfShare_9 : decode cX4_bitsOfShare 9 = .ok (.dstore_n 2, 1) := by decide +kernel
theorem dX4_bitsOfShare_10 : decode cX4_bitsOfShare 10 = .ok (.ldc2_w 285, 3) := by decide +kernel
theorem dX4_bitsOfShare_13 : decode cX4_bitsOfShare 13 = .ok (.lstore 4, 2) := by decide +kernel
theorem dX4_bitsOfShare_15 : decode cX4_bitsOfShare 15 = .ok (.iconst 0, 1) := by decide +kernel
theorem dX4_bitsOfShare_16 : decode cX4_bitsOfShare 16 = .ok (.istore 6, 2) := by decide +kernel
theorem dX4_bitsOfShare_18 : decode cX4_bitsOfShare 18 = .ok (.iload 6, 2) := by decide +kernel
theorem dX4_bitsOfShare_20 : decode cX4_bitsOfShare 20 = .ok (.bipush 64, 2) := by decide +kernel
theorem dX4_bitsOfShare_22 : decode cX4_bitsOfShare 22 = .ok (.if_icmp .ge 27, 3) := by decide +kernel
theorem dX4_bitsOfShare_25 : decode cX4_bitsOfShare 25 = .ok (.dload_n 2, 1) := by decide +kernel
theorem dX4_bitsOfShare_26 : decode cX4_bitsOfShare 26 = .ok (.dconst 1, 1) := by decide +kernel
theorem dX4_bitsOfShare_27 : decode cX4_bitsOfShare 27 = .ok (.dcmp .g, 1) := by decide +kernel
theorem dX4_bitsOfShare_28 : decode cX4_bitsOfShare 28 = .ok (.ifCond .ge 21, 3) := by decide +kernel
theorem dX4_bitsOfShare_31 : decode cX4_bitsOfShare 31 = .ok (.dload_n 2, 1) := by decide +kernel
theorem dX4_bitsOfShare_32 : decode cX4_bitsOfShare 32 = .ok (.ldc2_w 287, 3) := by decide +kernel
theorem dX4_bitsOfShare_35 : decode cX4_bitsOfShare 35 = .ok (.dmul, 1) := by decide +kernel
theorem dX4_bitsOfShare_36 : decode cX4_bitsOfShare 36 = .ok (.dstore_n 2, 1) := by decide +kernel
theorem dX4_bitsOfShare_37 : decode cX4_bitsOfShare 37 = .ok (.lload 4, 2) := by decide +kernel
theorem dX4_bitsOfShare_39 : decode cX4_bitsOfShare 39 = .ok (.lconst 1, 1) := by decide +kernel
theorem dX4_bitsOfShare_40 : decode cX4_bitsOfShare 40 = .ok (.lsub, 1) := by decide +kernel
theorem dX4_bitsOfShare_41 : decode cX4_bitsOfShare 41 = .ok (.lstore 4, 2) := by decide +kernel
theorem dX4_bitsOfShare_43 : decode cX4_bitsOfShare 43 = .ok (.iinc 6 1, 3) := by decide +kernel
theorem dX4_bitsOfShare_46 : decode cX4_bitsOfShare 46 = .ok (.goto (-28), 3) := by decide +kernel
theorem dX4_bitsOfShare_49 : decode cX4_bitsOfShare 49 = .ok (.dload_n 2, 1) := by decide +kernel
theorem dX4_bitsOfShare_50 : decode cX4_bitsOfShare 50 = .ok (.dconst 1, 1) := by decide +kernel
theorem dX4_bitsOfShare_51 : decode cX4_bitsOfShare 51 = .ok (.dsub, 1) := by decide +kernel
theorem dX4_bitsOfShare_52 : decode cX4_bitsOfShare 52 = .ok (.ldc2_w 289, 3) := by decide +kernel
theorem dX4_bitsOfShare_55 : decode cX4_bitsOfShare 55 = .ok (.dmul, 1) := by decide +kernel
theorem dX4_bitsOfShare_56 : decode cX4_bitsOfShare 56 = .ok (.d2l, 1) := by decide +kernel
theorem dX4_bitsOfShare_57 : decode cX4_bitsOfShare 57 = .ok (.lstore 6, 2) := by decide +kernel
theorem dX4_bitsOfShare_59 : decode cX4_bitsOfShare 59 = .ok (.lload 4, 2) := by decide +kernel
theorem dX4_bitsOfShare_61 : decode cX4_bitsOfShare 61 = .ok (.bipush 52, 2) := by decide +kernel
theorem dX4_bitsOfShare_63 : decode cX4_bitsOfShare 63 = .ok (.lshl, 1) := by decide +kernel
theorem dX4_bitsOfShare_64 : decode cX4_bitsOfShare 64 = .ok (.lload 6, 2) := by decide +kernel
theorem dX4_bitsOfShare_66 : decode cX4_bitsOfShare 66 = .ok (.lor, 1) := by decide +kernel
theorem dX4_bitsOfShare_67 : decode cX4_bitsOfShare 67 = .ok (.lreturn, 1) := by decide +kernel
set_option maxRecDepth 20000 in
theorem ggX4_promiseParts_X0_begin : GoodIn wsX4_promiseParts wsX0_begin := goodIn_r _ [12, 13, 124, 125, 126, 127, 128, 129] (by decide +kernel) (by decide +kernel)
set_option maxRecDepth 20000 in
theorem gX4_promiseParts_X0_begin : GoodIn wsX4_promiseParts (wsV RX4 140 RX0 yX0_begin wsX0_begin) := goodIn_app (goodIn_of _ (by decide +kernel)) ggX4_promiseParts_X0_begin
set_option maxRecDepth 20000 in
theorem ggX4_promiseParts_X0_reads : GoodIn wsX4_promiseParts wsX0_reads := goodIn_r _ [17, 13, 18, 19, 20, 11, 21, 22, 23, 24, 25, 26, 27, 28, 29, 30, 31, 32, 33, 34, 35, 36, 37, 38, 39, 40, 41, 42, 43, 44, 45, 46, 47, 48, 49, 50, 51, 52, 53, 54, 55, 56, 57, 124, 125, 126, 127, 128, 129] (by decide +kernel) (by decide +kernel)
set_option maxRecDepth 20000 in
theorem gX4_promiseParts_X0_reads : GoodIn wsX4_promiseParts (wsV RX4 143 RX0 yX0_reads wsX0_reads) := goodIn_app (goodIn_of _ (by decide +kernel)) ggX4_promiseParts_X0_reads
set_option maxRecDepth 20000 in
theorem ggX4_promiseParts_X0_by : GoodIn wsX4_promiseParts wsX0_by := goodIn_r _ [61, 36, 45, 124, 125, 126, 127, 128, 129] (by decide +kernel) (by decide +kernel)
set_option maxRecDepth 20000 in
theorem gX4_promiseParts_X0_by : GoodIn wsX4_promiseParts (wsV RX4 297 RX0 yX0_by wsX0_by) := goodIn_app (goodIn_of _ (by decide +kernel)) ggX4_promiseParts_X0_by
set_option maxRecDepth 20000 in
theorem ggX4_promiseParts_X3_reasonAgainst : GoodIn wsX4_promiseParts wsX3_reasonAgainst := goodIn_r _ [66, 67, 68, 69, 70, 65, 71, 72, 73, 74, 75, 76, 77, 78, 79, 80, 81, 82, 83, 84, 85, 86, 87, 88, 89, 90, 91, 92, 93, 94, 95, 96, 97, 98, 99, 100, 101, 102, 103, 104, 105, 106, 107, 108, 109, 110, 111, 112, 130, 131, 132, 133, 134, 135, 136, 137, 138, 139, 140, 141, 142, 143, 144] (by decide +kernel) (by decide +kernel)
set_option maxRecDepth 20000 in
theorem gX4_promiseParts_X3_reasonAgainst : GoodIn wsX4_promiseParts (wsV RX4 216 RX3 yX3_reasonAgainst wsX3_reasonAgainst) := goodIn_app (goodIn_of _ (by decide +kernel)) ggX4_promiseParts_X3_reasonAgainst
set_option maxRecDepth 20000 in
theorem ggX4_promiseParts_X3_addPromise : GoodIn wsX4_promiseParts wsX3_addPromise := goodIn_r _ [116, 72, 78, 98, 99, 100, 89, 67, 73, 117, 130, 131, 132, 133, 134, 135, 136, 137, 138, 139, 140, 141, 142, 143, 144] (by decide +kernel) (by decide +kernel)
set_option maxRecDepth 20000 in
theorem gX4_promiseParts_X3_addPromise : GoodIn wsX4_promiseParts (wsV RX4 89 RX3 yX3_addPromise wsX3_addPromise) := goodIn_app (goodIn_of _ (by decide +kernel)) ggX4_promiseParts_X3_addPromise
theorem dX4_promiseParts_0 : decode cX4_promiseParts 0 = .ok (.iconst 0, 1) := by decide +kernel
theorem dX4_promiseParts_1 : decode cX4_promiseParts 1 = .ok (.istore_n 1, 1) := by decide +kernel
theorem dX4_promiseParts_2 : decode cX4_promiseParts 2 = .ok (.aload_n 0, 1) := by decide +kernel
theorem dX4_promiseParts_3 : decode cX4_promiseParts 3 = .ok (.getfield 33, 3) := by decide +kernel
theorem dX4_promiseParts_6 : decode cX4_promiseParts 6 = .ok (.invokevirtual 140, 3) := by decide +kernel
theorem dX4_promiseParts_9 : decode cX4_promiseParts 9 = .ok (.iconst 0, 1) := by decide +kernel
theorem dX4_promiseParts_10 : decode cX4_promiseParts 10 = .ok (.istore_n 2, 1) := by decide +kernel
theorem dX4_promiseParts_11 : decode cX4_promiseParts 11 = .ok (.iload_n 2, 1) := by decide +kernel
theorem dX4_promiseParts_12 : decode cX4_promiseParts 12 = .ok (.aload_n 0, 1) := by decide +kernel
theorem dX4_promiseParts_13 : decode cX4_promiseParts 13 = .ok (.getfield 41, 3) := by decide +kernel
theorem dX4_promiseParts_16 : decode cX4_promiseParts 16 = .ok (.if_icmp .ge 135, 3) := by decide +kernel
theorem dX4_promiseParts_19 : decode cX4_promiseParts 19 = .ok (.aload_n 0, 1) := by decide +kernel
theorem dX4_promiseParts_20 : decode cX4_promiseParts 20 = .ok (.getfield 33, 3) := by decide +kernel
theorem dX4_promiseParts_23 : decode cX4_promiseParts 23 = .ok (.aload_n 0, 1) := by decide +kernel
theorem dX4_promiseParts_24 : decode cX4_promiseParts 24 = .ok (.getfield 37, 3) := by decide +kernel
theorem dX4_promiseParts_27 : decode cX4_promiseParts 27 = .ok (.iload_n 2, 1) := by decide +kernel
theorem dX4_promiseParts_28 : decode cX4_promiseParts 28 = .ok (.caload, 1) := by decide +kernel
theorem dX4_promiseParts_29 : decode cX4_promiseParts 29 = .ok (.invokevirtual 143, 3) := by decide +kernel
theorem dX4_promiseParts_32 : decode cX4_promiseParts 32 = .ok (.pop, 1) := by decide +kernel
theorem dX4_promiseParts_33 : decode cX4_promiseParts 33 = .ok (.iload_n 2, 1) := by decide +kernel
theorem dX4_promiseParts_34 : decode cX4_promiseParts 34 = .ok (.iconst 1, 1) := by decide +kernel
theorem dX4_promiseParts_35 : decode cX4_promiseParts 35 = .ok (.iadd, 1) := by decide +kernel
theorem dX4_promiseParts_36 : decode cX4_promiseParts 36 = .ok (.aload_n 0, 1) := by decide +kernel
theorem dX4_promiseParts_37 : decode cX4_promiseParts 37 = .ok (.getfield 41, 3) := by decide +kernel
theorem dX4_promiseParts_40 : decode cX4_promiseParts 40 = .ok (.if_icmp .eq 16, 3) := by decide +kernel
theorem dX4_promiseParts_43 : decode cX4_promiseParts 43 = .ok (.aload_n 0, 1) := by decide +kernel
theorem dX4_promiseParts_44 : decode cX4_promiseParts 44 = .ok (.getfield 37, 3) := by decide +kernel
theorem dX4_promiseParts_47 : decode cX4_promiseParts 47 = .ok (.iload_n 2, 1) := by decide +kernel
theorem dX4_promiseParts_48 : decode cX4_promiseParts 48 = .ok (.iconst 1, 1) := by decide +kernel
theorem dX4_promiseParts_49 : decode cX4_promiseParts 49 = .ok (.iadd, 1) := by decide +kernel
theorem dX4_promiseParts_50 : decode cX4_promiseParts 50 = .ok (.caload, 1) := by decide +kernel
theorem dX4_promiseParts_51 : decode cX4_promiseParts 51 = .ok (.bipush 59, 2) := by decide +kernel
theorem dX4_promiseParts_53 : decode cX4_promiseParts 53 = .ok (.if_icmp .ne 7, 3) := by decide +kernel
theorem dX4_promiseParts_56 : decode cX4_promiseParts 56 = .ok (.iconst 1, 1) := by decide +kernel
theorem dX4_promiseParts_57 : decode cX4_promiseParts 57 = .ok (.goto 4, 3) := by decide +kernel
theorem dX4_promiseParts_60 : decode cX4_promiseParts 60 = .ok (.iconst 0, 1) := by decide +kernel
theorem dX4_promiseParts_61 : decode cX4_promiseParts 61 = .ok (.istore_n 3, 1) := by decide +kernel
theorem dX4_promiseParts_62 : decode cX4_promiseParts 62 = .ok (.iload_n 3, 1) := by decide +kernel
theorem dX4_promiseParts_63 : decode cX4_promiseParts 63 = .ok (.ifCond .eq 82, 3) := by decide +kernel
theorem dX4_promiseParts_66 : decode cX4_promiseParts 66 = .ok (.aload_n 0, 1) := by decide +kernel
theorem dX4_promiseParts_67 : decode cX4_promiseParts 67 = .ok (.getfield 10, 3) := by decide +kernel
theorem dX4_promiseParts_70 : decode cX4_promiseParts 70 = .ok (.aload_n 0, 1) := by decide +kernel
theorem dX4_promiseParts_71 : decode cX4_promiseParts 71 = .ok (.getfield 33, 3) := by decide +kernel
theorem dX4_promiseParts_74 : decode cX4_promiseParts 74 = .ok (.getfield 291, 3) := by decide +kernel
theorem dX4_promiseParts_77 : decode cX4_promiseParts 77 = .ok (.aload_n 0, 1) := by decide +kernel
theorem dX4_promiseParts_78 : decode cX4_promiseParts 78 = .ok (.getfield 33, 3) := by decide +kernel
theorem dX4_promiseParts_81 : decode cX4_promiseParts 81 = .ok (.getfield 294, 3) := by decide +kernel
theorem dX4_promiseParts_84 : decode cX4_promiseParts 84 = .ok (.aload_n 0, 1) := by decide +kernel
theorem dX4_promiseParts_85 : decode cX4_promiseParts 85 = .ok (.getfield 33, 3) := by decide +kernel
theorem dX4_promiseParts_88 : decode cX4_promiseParts 88 = .ok (.invokevirtual 297, 3) := by decide +kernel
theorem dX4_promiseParts_91 : decode cX4_promiseParts 91 = .ok (.aload_n 0, 1) := by decide +kernel
theorem dX4_promiseParts_92 : decode cX4_promiseParts 92 = .ok (.getfield 33, 3) := by decide +kernel
theorem dX4_promiseParts_95 : decode cX4_promiseParts 95 = .ok (.getfield 300, 3) := by decide +kernel
theorem dX4_promiseParts_98 : decode cX4_promiseParts 98 = .ok (.invokevirtual 216, 3) := by decide +kernel
theorem dX4_promiseParts_101 : decode cX4_promiseParts 101 = .ok (.ifCond .eq 5, 3) := by decide +kernel
theorem dX4_promiseParts_104 : decode cX4_promiseParts 104 = .ok (.iload_n 1, 1) := by decide +kernel
theorem dX4_promiseParts_105 : decode cX4_promiseParts 105 = .ok (.ireturn, 1) := by decide +kernel
theorem dX4_promiseParts_106 : decode cX4_promiseParts 106 = .ok (.aload_n 0, 1) := by decide +kernel
theorem dX4_promiseParts_107 : decode cX4_promiseParts 107 = .ok (.getfield 10, 3) := by decide +kernel
theorem dX4_promiseParts_110 : decode cX4_promiseParts 110 = .ok (.aload_n 0, 1) := by decide +kernel
theorem dX4_promiseParts_111 : decode cX4_promiseParts 111 = .ok (.getfield 33, 3) := by decide +kernel
theorem dX4_promiseParts_114 : decode cX4_promiseParts 114 = .ok (.getfield 291, 3) := by decide +kernel
theorem dX4_promiseParts_117 : decode cX4_promiseParts 117 = .ok (.aload_n 0, 1) := by decide +kernel
theorem dX4_promiseParts_118 : decode cX4_promiseParts 118 = .ok (.getfield 33, 3) := by decide +kernel
theorem dX4_promiseParts_121 : decode cX4_promiseParts 121 = .ok (.getfield 294, 3) := by decide +kernel
theorem dX4_promiseParts_124 : decode cX4_promiseParts 124 = .ok (.aload_n 0, 1) := by decide +kernel
theorem dX4_promiseParts_125 : decode cX4_promiseParts 125 = .ok (.getfield 33, 3) := by decide +kernel
theorem dX4_promiseParts_128 : decode cX4_promiseParts 128 = .ok (.invokevirtual 297, 3) := by decide +kernel
theorem dX4_promiseParts_131 : decode cX4_promiseParts 131 = .ok (.aload_n 0, 1) := by decide +kernel
theorem dX4_promiseParts_132 : decode cX4_promiseParts 132 = .ok (.getfield 33, 3) := by decide +kernel
theorem dX4_promiseParts_135 : decode cX4_promiseParts 135 = .ok (.getfield 300, 3) := by decide +kernel
theorem dX4_promiseParts_138 : decode cX4_promiseParts 138 = .ok (.invokevirtual 89, 3) := by decide +kernel
theorem dX4_promiseParts_141 : decode cX4_promiseParts 141 = .ok (.pop, 1) := by decide +kernel
theorem dX4_promiseParts_142 : decode cX4_promiseParts 142 = .ok (.iinc 1 1, 3) := by decide +kernel
theorem dX4_promiseParts_145 : decode cX4_promiseParts 145 = .ok (.iinc 2 1, 3) := by decide +kernel
theorem dX4_promiseParts_148 : decode cX4_promiseParts 148 = .ok (.goto (-137), 3) := by decide +kernel
theorem dX4_promiseParts_151 : decode cX4_promiseParts 151 = .ok (.iload_n 1, 1) := by decide +kernel
theorem dX4_promiseParts_152 : decode cX4_promiseParts 152 = .ok (.ireturn, 1) := by decide +kernel
set_option maxRecDepth 20000 in
theorem ggX4_checkNoReason_X3_reasonAgainst : GoodIn wsX4_checkNoReason wsX3_reasonAgainst := goodIn_r _ [8, 9, 10, 11, 12, 7, 13, 14, 15, 16, 17, 18, 19, 20, 21, 22, 23, 24, 25, 26, 27, 28, 29, 30, 31, 32, 33, 34, 35, 36, 37, 38, 39, 40, 41, 42, 43, 44, 45, 46, 47, 48, 49, 50, 51, 52, 53, 54, 61, 62, 63, 64, 65, 66, 67, 68, 69, 70, 71, 72, 73, 74, 75] (by decide +kernel) (by decide +kernel)
set_option maxRecDepth 20000 in
theorem gX4_checkNoReason_X3_reasonAgainst : GoodIn wsX4_checkNoReason (wsV RX4 216 RX3 yX3_reasonAgainst wsX3_reasonAgainst) := goodIn_app (goodIn_of _ (by decide +kernel)) ggX4_checkNoReason_X3_reasonAgainst
theorem dX4_checkNoReason_0 : decode cX4_checkNoReason 0 = .ok (.aload_n 0, 1) := by decide +kernel
theorem dX4_checkNoReason_1 : decode cX4_checkNoReason 1 = .ok (.getfield 10, 3) := by decide +kernel
theorem dX4_checkNoReason_4 : decode cX4_checkNoReason 4 = .ok (.iload_n 1, 1) := by decide +kernel
theorem dX4_checkNoReason_5 : decode cX4_checkNoReason 5 = .ok (.iload_n 2, 1) := by decide +kernel
theorem dX4_checkNoReason_6 : decode cX4_checkNoReason 6 = .ok (.iload_n 3, 1) := by decide +kernel
theorem dX4_checkNoReason_7 : decode cX4_checkNoReason 7 = .ok (.iload 4, 2) := by decide +kernel
theorem dX4_checkNoReason_9 : decode cX4_checkNoReason 9 = .ok (.invokevirtual 216, 3) := by decide +kernel
theorem dX4_checkNoReason_12 : decode cX4_checkNoReason 12 = .ok (.ifCond .eq 14, 3) := by decide +kernel
theorem dX4_checkNoReason_15 : decode cX4_checkNoReason 15 = .ok (.new 60, 3) := by decide +kernel
theorem dX4_checkNoReason_18 : decode cX4_checkNoReason 18 = .ok (.dup, 1) := by decide +kernel
theorem dX4_checkNoReason_19 : decode cX4_checkNoReason 19 = .ok (.ldc_w 303, 3) := by decide +kernel
theorem dX4_checkNoReason_22 : decode cX4_checkNoReason 22 = .ok (.invokespecial 64, 3) := by decide +kernel
theorem dX4_checkNoReason_25 : decode cX4_checkNoReason 25 = .ok (.athrow, 1) := by decide +kernel
theorem dX4_checkNoReason_26 : decode cX4_checkNoReason 26 = .ok (.return_, 1) := by decide +kernel
theorem dX4_checkIndex_0 : decode cX4_checkIndex 0 = .ok (.iload_n 0, 1) := by decide +kernel
theorem dX4_checkIndex_1 : decode cX4_checkIndex 1 = .ok (.ifCond .lt 8, 3) := by decide +kernel
theorem dX4_checkIndex_4 : decode cX4_checkIndex 4 = .ok (.iload_n 0, 1) := by decide +kernel
theorem dX4_checkIndex_5 : decode cX4_checkIndex 5 = .ok (.iload_n 1, 1) := by decide +kernel
theorem dX4_checkIndex_6 : decode cX4_checkIndex 6 = .ok (.if_icmp .lt 14, 3) := by decide +kernel
theorem dX4_checkIndex_9 : decode cX4_checkIndex 9 = .ok (.new 305, 3) := by decide +kernel
theorem dX4_checkIndex_12 : decode cX4_checkIndex 12 = .ok (.dup, 1) := by decide +kernel
theorem dX4_checkIndex_13 : decode cX4_checkIndex 13 = .ok (.ldc_w 307, 3) := by decide +kernel
theorem dX4_checkIndex_16 : decode cX4_checkIndex 16 = .ok (.invokespecial 309, 3) := by decide +kernel
theorem dX4_checkIndex_19 : decode cX4_checkIndex 19 = .ok (.athrow, 1) := by decide +kernel
theorem dX4_checkIndex_20 : decode cX4_checkIndex 20 = .ok (.return_, 1) := by decide +kernel
theorem dX4_checkArgument_0 : decode cX4_checkArgument 0 = .ok (.iload_n 0, 1) := by decide +kernel
theorem dX4_checkArgument_1 : decode cX4_checkArgument 1 = .ok (.iload_n 1, 1) := by decide +kernel
theorem dX4_checkArgument_2 : decode cX4_checkArgument 2 = .ok (.if_icmp .lt 8, 3) := by decide +kernel
theorem dX4_checkArgument_5 : decode cX4_checkArgument 5 = .ok (.iload_n 0, 1) := by decide +kernel
theorem dX4_checkArgument_6 : decode cX4_checkArgument 6 = .ok (.iload_n 2, 1) := by decide +kernel
theorem dX4_checkArgument_7 : decode cX4_checkArgument 7 = .ok (.if_icmp .le 14, 3) := by decide +kernel
theorem dX4_checkArgument_10 : decode cX4_checkArgument 10 = .ok (.new 93, 3) := by decide +kernel
theorem dX4_checkArgument_13 : decode cX4_checkArgument 13 = .ok (.dup, 1) := by decide +kernel
theorem dX4_checkArgument_14 : decode cX4_checkArgument 14 = .ok (.ldc_w 310, 3) := by decide +kernel
theorem dX4_checkArgument_17 : decode cX4_checkArgument 17 = .ok (.invokespecial 97, 3) := by decide +kernel
theorem dX4_checkArgument_20 : decode cX4_checkArgument 20 = .ok (.athrow, 1) := by decide +kernel
theorem dX4_checkArgument_21 : decode cX4_checkArgument 21 = .ok (.return_, 1) := by decide +kernel
set_option maxRecDepth 20000 in
theorem ggX4_checkChange_X4_checkArgument : GoodIn wsX4_checkChange wsX4_checkArgument := goodIn_ca (goodIn_r _ [6, 1, 2] (by decide +kernel) (by decide +kernel)) (goodIn_sub (fun _ h => List.mem_cons_of_mem _ (List.mem_append_right _ h)) (by decide +kernel))
set_option maxRecDepth 20000 in
theorem gX4_checkChange_X4_checkArgument : GoodIn wsX4_checkChange (va_wsS RX4 49 yX4_checkArgument wsX4_checkArgument) := goodIn_app (goodIn_of _ (by decide +kernel)) ggX4_checkChange_X4_checkArgument
theorem dX4_checkChange_0 : decode cX4_checkChange 0 = .ok (.iload_n 0, 1) := by decide +kernel
theorem dX4_checkChange_1 : decode cX4_checkChange 1 = .ok (.bipush (-99), 2) := by decide +kernel
theorem dX4_checkChange_3 : decode cX4_checkChange 3 = .ok (.bipush 99, 2) := by decide +kernel
theorem dX4_checkChange_5 : decode cX4_checkChange 5 = .ok (.invokestatic 49, 3) := by decide +kernel
theorem dX4_checkChange_8 : decode cX4_checkChange 8 = .ok (.iload_n 0, 1) := by decide +kernel
theorem dX4_checkChange_9 : decode cX4_checkChange 9 = .ok (.ifCond .ne 14, 3) := by decide +kernel
theorem dX4_checkChange_12 : decode cX4_checkChange 12 = .ok (.new 93, 3) := by decide +kernel
theorem dX4_checkChange_15 : decode cX4_checkChange 15 = .ok (.dup, 1) := by decide +kernel
theorem dX4_checkChange_16 : decode cX4_checkChange 16 = .ok (.ldc_w 312, 3) := by decide +kernel
theorem dX4_checkChange_19 : decode cX4_checkChange 19 = .ok (.invokespecial 97, 3) := by decide +kernel
theorem dX4_checkChange_22 : decode cX4_checkChange 22 = .ok (.athrow, 1) := by decide +kernel
theorem dX4_checkChange_23 : decode cX4_checkChange 23 = .ok (.return_, 1) := by decide +kernel
theorem dX4_sumOf_0 : decode cX4_sumOf 0 = .ok (.iconst 0, 1) := by decide +kernel
theorem dX4_sumOf_1 : decode cX4_sumOf 1 = .ok (.istore_n 1, 1) := by decide +kernel
theorem dX4_sumOf_2 : decode cX4_sumOf 2 = .ok (.aload_n 0, 1) := by decide +kernel
theorem dX4_sumOf_3 : decode cX4_sumOf 3 = .ok (.astore_n 2, 1) := by decide +kernel
theorem dX4_sumOf_4 : decode cX4_sumOf 4 = .ok (.aload_n 2, 1) := by decide +kernel
theorem dX4_sumOf_5 : decode cX4_sumOf 5 = .ok (.arraylength, 1) := by decide +kernel
theorem dX4_sumOf_6 : decode cX4_sumOf 6 = .ok (.istore_n 3, 1) := by decide +kernel
theorem dX4_sumOf_7 : decode cX4_sumOf 7 = .ok (.iconst 0, 1) := by decide +kernel
theorem dX4_sumOf_8 : decode cX4_sumOf 8 = .ok (.istore 4, 2) := by decide +kernel
theorem dX4_sumOf_10 : decode cX4_sumOf 10 = .ok (.iload 4, 2) := by decide +kernel
theorem dX4_sumOf_12 : decode cX4_sumOf 12 = .ok (.iload_n 3, 1) := by decide +kernel
theorem dX4_sumOf_13 : decode cX4_sumOf 13 = .ok (.if_icmp .ge 20, 3) := by decide +kernel
theorem dX4_sumOf_16 : decode cX4_sumOf 16 = .ok (.aload_n 2, 1) := by decide +kernel
theorem dX4_sumOf_17 : decode cX4_sumOf 17 = .ok (.iload 4, 2) := by decide +kernel
theorem dX4_sumOf_19 : decode cX4_sumOf 19 = .ok (.iaload, 1) := by decide +kernel
theorem dX4_sumOf_20 : decode cX4_sumOf 20 = .ok (.istore 5, 2) := by decide +kernel
theorem dX4_sumOf_22 : decode cX4_sumOf 22 = .ok (.iload_n 1, 1) := by decide +kernel
theorem dX4_sumOf_23 : decode cX4_sumOf 23 = .ok (.iload 5, 2) := by decide +kernel
theorem dX4_sumOf_25 : decode cX4_sumOf 25 = .ok (.iadd, 1) := by decide +kernel
theorem dX4_sumOf_26 : decode cX4_sumOf 26 = .ok (.istore_n 1, 1) := by decide +kernel
theorem dX4_sumOf_27 : decode cX4_sumOf 27 = .ok (.iinc 4 1, 3) := by decide +kernel
theorem dX4_sumOf_30 : decode cX4_sumOf 30 = .ok (.goto (-20), 3) := by decide +kernel
theorem dX4_sumOf_33 : decode cX4_sumOf 33 = .ok (.iload_n 1, 1) := by decide +kernel
theorem dX4_sumOf_34 : decode cX4_sumOf 34 = .ok (.ireturn, 1) := by decide +kernel
theorem dX5_init_0 : decode cX5_init 0 = .ok (.aload_n 0, 1) := by decide +kernel
theorem dX5_init_1 : decode cX5_init 1 = .ok (.invokespecial 1, 3) := by decide +kernel
theorem dX5_init_4 : decode cX5_init 4 = .ok (.aload_n 0, 1) := by decide +kernel
theorem dX5_init_5 : decode cX5_init 5 = .ok (.bipush 115, 2) := by decide +kernel
theorem dX5_init_7 : decode cX5_init 7 = .ok (.newarray .int, 2) := by decide +kernel
theorem dX5_init_9 : decode cX5_init 9 = .ok (.putfield 7, 3) := by decide +kernel
theorem dX5_init_12 : decode cX5_init 12 = .ok (.aload_n 0, 1) := by decide +kernel
theorem dX5_init_13 : decode cX5_init 13 = .ok (.sipush 690, 3) := by decide +kernel
theorem dX5_init_16 : decode cX5_init 16 = .ok (.newarray .int, 2) := by decide +kernel
theorem dX5_init_18 : decode cX5_init 18 = .ok (.putfield 13, 3) := by decide +kernel
theorem dX5_init_21 : decode cX5_init 21 = .ok (.aload_n 0, 1) := by decide +kernel
theorem dX5_init_22 : decode cX5_init 22 = .ok (.bipush 60, 2) := by decide +kernel
theorem dX5_init_24 : decode cX5_init 24 = .ok (.newarray .int, 2) := by decide +kernel
theorem dX5_init_26 : decode cX5_init 26 = .ok (.putfield 16, 3) := by decide +kernel
theorem dX5_init_29 : decode cX5_init 29 = .ok (.aload_n 0, 1) := by decide +kernel
theorem dX5_init_30 : decode cX5_init 30 = .ok (.bipush 68, 2) := by decide +kernel
theorem dX5_init_32 : decode cX5_init 32 = .ok (.newarray .int, 2) := by decide +kernel
theorem dX5_init_34 : decode cX5_init 34 = .ok (.putfield 19, 3) := by decide +kernel
theorem dX5_init_37 : decode cX5_init 37 = .ok (.aload_n 0, 1) := by decide +kernel
theorem dX5_init_38 : decode cX5_init 38 = .ok (.sipush 3169, 3) := by decide +kernel
theorem dX5_init_41 : decode cX5_init 41 = .ok (.newarray .int, 2) := by decide +kernel
theorem dX5_init_43 : decode cX5_init 43 = .ok (.putfield 22, 3) := by decide +kernel
theorem dX5_init_46 : decode cX5_init 46 = .ok (.aload_n 0, 1) := by decide +kernel
theorem dX5_init_47 : decode cX5_init 47 = .ok (.getfield 7, 3) := by decide +kernel
theorem dX5_init_50 : decode cX5_init 50 = .ok (.iconst 1, 1) := by decide +kernel
theorem dX5_init_51 : decode cX5_init 51 = .ok (.bipush 6, 2) := by decide +kernel
theorem dX5_init_53 : decode cX5_init 53 = .ok (.iastore, 1) := by decide +kernel
theorem dX5_init_54 : decode cX5_init 54 = .ok (.aload_n 0, 1) := by decide +kernel
theorem dX5_init_55 : decode cX5_init 55 = .ok (.getfield 7, 3) := by decide +kernel
theorem dX5_init_58 : decode cX5_init 58 = .ok (.iconst 2, 1) := by decide +kernel
theorem dX5_init_59 : decode cX5_init 59 = .ok (.bipush 10, 2) := by decide +kernel
theorem dX5_init_61 : decode cX5_init 61 = .ok (.iastore, 1) := by decide +kernel
theorem dX5_init_62 : decode cX5_init 62 = .ok (.iconst 0, 1) := by decide +kernel
theorem dX5_init_63 : decode cX5_init 63 = .ok (.istore_n 1, 1) := by decide +kernel
theorem dX5_init_64 : decode cX5_init 64 = .ok (.iload_n 1, 1) := by decide +kernel
theorem dX5_init_65 : decode cX5_init 65 = .ok (.iconst 4, 1) := by decide +kernel
theorem dX5_init_66 : decode cX5_init 66 = .ok (.if_icmp .ge 20, 3) := by decide +kernel
theorem dX5_init_69 : decode cX5_init 69 = .ok (.aload_n 0, 1) := by decide +kernel
theorem dX5_init_70 : decode cX5_init 70 = .ok (.getfield 7, 3) := by decide +kernel
theorem dX5_init_73 : decode cX5_init 73 = .ok (.bipush 13, 2) := by decide +kernel
theorem dX5_init_75 : decode cX5_init 75 = .ok (.iload_n 1, 1) := by decide +kernel
theorem dX5_init_76 : decode cX5_init 76 = .ok (.iadd, 1) := by decide +kernel
theorem dX5_init_77 : decode cX5_init 77 = .ok (.bipush 100, 2) := by decide +kernel
theorem dX5_init_79 : decode cX5_init 79 = .ok (.iastore, 1) := by decide +kernel
theorem dX5_init_80 : decode cX5_init 80 = .ok (.iinc 1 1, 3) := by decide +kernel
theorem dX5_init_83 : decode cX5_init 83 = .ok (.goto (-19), 3) := by decide +kernel
theorem dX5_init_86 : decode cX5_init 86 = .ok (.return_, 1) := by decide +kernel
theorem dX5_thrown_0 : decode cX5_thrown 0 = .ok (.aload_n 0, 1) := by decide +kernel
theorem dX5_thrown_1 : decode cX5_thrown 1 = .ok (.getfield 25, 3) := by decide +kernel
theorem dX5_thrown_4 : decode cX5_thrown 4 = .ok (.ireturn, 1) := by decide +kernel
theorem dX5_fails_0 : decode cX5_fails 0 = .ok (.aload_n 0, 1) := by decide +kernel
theorem dX5_fails_1 : decode cX5_fails 1 = .ok (.iload_n 1, 1) := by decide +kernel
theorem dX5_fails_2 : decode cX5_fails 2 = .ok (.putfield 25, 3) := by decide +kernel
theorem dX5_fails_5 : decode cX5_fails 5 = .ok (.iconst 0, 1) := by decide +kernel
theorem dX5_fails_6 : decode cX5_fails 6 = .ok (.ireturn, 1) := by decide +kernel
theorem dX5_in_0 : decode cX5_in 0 = .ok (.iload_n 0, 1) := by decide +kernel
theorem dX5_in_1 : decode cX5_in 1 = .ok (.iload_n 1, 1) := by decide +kernel
theorem dX5_in_2 : decode cX5_in 2 = .ok (.if_icmp .lt 12, 3) := by decide +kernel
theorem dX5_in_5 : decode cX5_in 5 = .ok (.iload_n 0, 1) := by decide +kernel
theorem dX5_in_6 : decode cX5_in 6 = .ok (.iload_n 2, 1) := by decide +kernel
theorem dX5_in_7 : decode cX5_in 7 = .ok (.if_icmp .gt 7, 3) := by decide +kernel
theorem dX5_in_10 : decode cX5_in 10 = .ok (.iconst 1, 1) := by decide +kernel
theorem dX5_in_11 : decode cX5_in 11 = .ok (.goto 4, 3) := by decide +kernel
theorem dX5_in_14 : decode cX5_in 14 = .ok (.iconst 0, 1) := by decide +kernel
theorem dX5_in_15 : decode cX5_in 15 = .ok (.ireturn, 1) := by decide +kernel
set_option maxRecDepth 20000 in
theorem ggX5_isCounter_X5_in : GoodIn wsX5_isCounter wsX5_in := goodIn_r _ [4] (by decide +kernel) (by decide +kernel)
set_option maxRecDepth 20000 in
theorem gX5_isCounter_X5_in : GoodIn wsX5_isCounter (va_wsS RX5 29 yX5_in wsX5_in) := goodIn_app (goodIn_of _ (by decide +kernel)) ggX5_isCounter_X5_in
theorem dX5_isCounter_0 : decode cX5_isCounter 0 = .ok (.iload_n 0, 1) := by decide +kernel
theorem dX5_isCounter_1 : decode cX5_isCounter 1 = .ok (.iconst 0, 1) := by decide +kernel
theorem dX5_isCounter_2 : decode cX5_isCounter 2 = .ok (.iconst 3, 1) := by decide +kernel
theorem dX5_isCounter_3 : decode cX5_isCounter 3 = .ok (.invokestatic 29, 3) := by decide +kernel
theorem dX5_isCounter_6 : decode cX5_isCounter 6 = .ok (.ireturn, 1) := by decide +kernel
set_option maxRecDepth 20000 in
theorem ggX5_isOwner_X5_in : GoodIn wsX5_isOwner wsX5_in := goodIn_r _ [4] (by decide +kernel) (by decide +kernel)
set_option maxRecDepth 20000 in
theorem gX5_isOwner_X5_in : GoodIn wsX5_isOwner (va_wsS RX5 29 yX5_in wsX5_in) := goodIn_app (goodIn_of _ (by decide +kernel)) ggX5_isOwner_X5_in
theorem dX5_isOwner_0 : decode cX5_isOwner 0 = .ok (.iload_n 0, 1) := by decide +kernel
theorem dX5_isOwner_1 : decode cX5_isOwner 1 = .ok (.iconst 0, 1) := by decide +kernel
theorem dX5_isOwner_2 : decode cX5_isOwner 2 = .ok (.iconst 5, 1) := by decide +kernel
theorem dX5_isOwner_3 : decode cX5_isOwner 3 = .ok (.invokestatic 29, 3) := by decide +kernel
theorem dX5_isOwner_6 : decode cX5_isOwner 6 = .ok (.ireturn, 1) := by decide +kernel
set_option maxRecDepth 20000 in
theorem ggX5_isPromise_X5_in : GoodIn wsX5_isPromise wsX5_in := goodIn_r _ [5] (by decide +kernel) (by decide +kernel)
set_option maxRecDepth 20000 in
theorem gX5_isPromise_X5_in : GoodIn wsX5_isPromise (va_wsS RX5 29 yX5_in wsX5_in) := goodIn_app (goodIn_of _ (by decide +kernel)) ggX5_isPromise_X5_in
theorem dX5_isPromise_0 : decode cX5_isPromise 0 = .ok (.iload_n 1, 1) := by decide +kernel
theorem dX5_isPromise_1 : decode cX5_isPromise 1 = .ok (.iconst 0, 1) := by decide +kernel
theorem dX5_isPromise_2 : decode cX5_isPromise 2 = .ok (.aload_n 0, 1) := by decide +kernel
theorem dX5_isPromise_3 : decode cX5_isPromise 3 = .ok (.getfield 7, 3) := by decide +kernel
theorem dX5_isPromise_6 : decode cX5_isPromise 6 = .ok (.iconst 3, 1) := by decide +kernel
theorem dX5_isPromise_7 : decode cX5_isPromise 7 = .ok (.iaload, 1) := by decide +kernel
theorem dX5_isPromise_8 : decode cX5_isPromise 8 = .ok (.iconst 1, 1) := by decide +kernel
theorem dX5_isPromise_9 : decode cX5_isPromise 9 = .ok (.isub, 1) := by decide +kernel
theorem dX5_isPromise_10 : decode cX5_isPromise 10 = .ok (.invokestatic 29, 3) := by decide +kernel
theorem dX5_isPromise_13 : decode cX5_isPromise 13 = .ok (.ireturn, 1) := by decide +kernel
theorem dX5_of_0 : decode cX5_of 0 = .ok (.aload_n 0, 1) := by decide +kernel
theorem dX5_of_1 : decode cX5_of 1 = .ok (.getfield 7, 3) := by decide +kernel
theorem dX5_of_4 : decode cX5_of 4 = .ok (.bipush 35, 2) := by decide +kernel
theorem dX5_of_6 : decode cX5_of 6 = .ok (.iconst 5, 1) := by decide +kernel
theorem dX5_of_7 : decode cX5_of 7 = .ok (.iload_n 1, 1) := by decide +kernel
