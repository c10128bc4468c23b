set_option maxRecDepth 20000 in
theorem ggL_law_L_counters_c : GoodIn wsL_law [.code yL_counters cL_counters 8 (some .boolean)] := goodIn_r _ [282] (by decide +kernel) (by decide +kernel)
set_option maxRecDepth 20000 in
theorem ggL_law_L_counters_r1 : GoodIn wsL_law wsL_counters_r1 := goodIn_r _ [283, 284, 285, 2, 286, 12, 76, 251, 250, 70, 20, 114, 115, 116, 117, 118, 78, 79, 80, 81, 82, 252, 253, 254] (by decide +kernel) (by decide +kernel)
set_option maxRecDepth 20000 in
theorem ggL_law_L_counters_r2 : GoodIn wsL_law wsL_counters_r2 := goodIn_r _ [11, 255, 31, 144, 145, 146, 147, 36, 32, 43, 148, 149, 150, 151, 152, 153, 154, 155, 40, 41, 42, 256, 161, 162] (by decide +kernel) (by decide +kernel)
set_option maxRecDepth 20000 in
theorem ggL_law_L_counters_r3 : GoodIn wsL_law wsL_counters_r3 := goodIn_r _ [163, 164, 165, 166, 287, 288, 289, 290, 291, 292, 293, 294, 295, 141, 142, 143, 37, 296, 157, 158, 159, 38, 160, 297] (by decide +kernel) (by decide +kernel)
set_option maxRecDepth 20000 in
theorem ggL_law_L_counters_r4 : GoodIn wsL_law wsL_counters_r4 := goodIn_r _ [298, 299, 19, 300, 56, 301, 302, 303, 304, 305, 306, 307, 308, 309, 310, 311, 312, 313, 314, 315, 316, 317, 318, 319] (by decide +kernel) (by decide +kernel)
set_option maxRecDepth 20000 in
theorem ggL_law_L_counters_r5 : GoodIn wsL_law wsL_counters_r5 := goodIn_r _ [320, 321, 66, 67, 68, 69, 71, 72, 73, 74, 75, 16, 77, 83, 84, 85, 86, 87, 88, 89, 90, 91, 92, 93] (by decide +kernel) (by decide +kernel)
set_option maxRecDepth 20000 in
theorem ggL_law_L_counters_r6 : GoodIn wsL_law wsL_counters_r6 := goodIn_r _ [322, 323, 324, 325, 242, 198, 219, 326, 236, 327, 328, 329, 330, 331, 332, 333, 334, 335, 336, 337, 338] (by decide +kernel) (by decide +kernel)
theorem ggL_law_L_counters : GoodIn wsL_law wsL_counters := fun w h => (List.mem_cons.mp h).elim (fun e => ggL_law_L_counters_c w (List.mem_singleton.mpr e)) (fun h => (goodIn_app (goodIn_app (goodIn_app (goodIn_app (goodIn_app (goodIn_app (goodIn_app ggL_law_L_counters_r1 (goodIn_app ggL_law_L_counters_r2 (goodIn_app ggL_law_L_counters_r3 (goodIn_app ggL_law_L_counters_r4 (goodIn_app ggL_law_L_counters_r5 ggL_law_L_counters_r6))))) (goodIn_sub inlX4 (by decide +kernel))) (goodIn_sub inlX3 (by decide +kernel))) (goodIn_sub inlX1 (by decide +kernel))) (goodIn_sub inlX2 (by decide +kernel))) (goodIn_sub (fun _ h => List.mem_append_left _ (List.mem_append_right _ h)) (by decide +kernel))) (goodIn_sub (fun _ h => List.mem_append_left _ (List.mem_append_left _ (List.mem_append_right _ h))) (by decide +kernel))) w h)
set_option maxRecDepth 20000 in
theorem gL_law_L_counters : GoodIn wsL_law (va_wsS RL 102 yL_counters wsL_counters) := goodIn_app (goodIn_of _ (by decide +kernel)) ggL_law_L_counters
set_option maxRecDepth 20000 in
theorem ggL_law_L_promises_c : GoodIn wsL_law [.code yL_promises cL_promises 10 (some .boolean)] := goodIn_r _ [341] (by decide +kernel) (by decide +kernel)
set_option maxRecDepth 20000 in
theorem ggL_law_L_promises_r1 : GoodIn wsL_law wsL_promises_r1 := goodIn_r _ [66, 67, 68, 2, 69, 12, 70, 71, 72, 73, 74, 75, 76, 16, 77, 78, 79, 80, 81, 82, 83, 84, 85, 11] (by decide +kernel) (by decide +kernel)
set_option maxRecDepth 20000 in
theorem ggL_law_L_promises_r2 : GoodIn wsL_law wsL_promises_r2 := goodIn_r _ [86, 32, 42, 87, 88, 89, 90, 91, 92, 93, 43, 322, 323, 324, 325, 242, 198, 219, 326, 236, 114, 115, 116, 117] (by decide +kernel) (by decide +kernel)
set_option maxRecDepth 20000 in
theorem ggL_law_L_promises_r3 : GoodIn wsL_law wsL_promises_r3 := goodIn_r _ [118, 342, 343, 344, 345, 346, 137, 138, 139, 39, 347, 348, 349, 350, 41, 351, 221, 150, 222] (by decide +kernel) (by decide +kernel)
theorem ggL_law_L_promises : GoodIn wsL_law wsL_promises := fun w h => (List.mem_cons.mp h).elim (fun e => ggL_law_L_promises_c w (List.mem_singleton.mpr e)) (fun h => (goodIn_app (goodIn_app (goodIn_app (goodIn_app (goodIn_app (goodIn_app ggL_law_L_promises_r1 (goodIn_app ggL_law_L_promises_r2 ggL_law_L_promises_r3)) (goodIn_sub inlX4 (by decide +kernel))) (goodIn_sub inlX3 (by decide +kernel))) (goodIn_sub inlX2 (by decide +kernel))) (goodIn_sub (fun _ h => List.mem_append_left _ (List.mem_append_left _ (List.mem_append_right _ h))) (by decide +kernel))) (goodIn_sub (fun _ h => List.mem_append_left _ (List.mem_append_right _ h)) (by decide +kernel))) w h)
set_option maxRecDepth 20000 in
theorem gL_law_L_promises : GoodIn wsL_law (va_wsS RL 106 yL_promises wsL_promises) := goodIn_app (goodIn_of _ (by decide +kernel)) ggL_law_L_promises
