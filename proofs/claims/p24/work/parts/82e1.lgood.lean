/-! the words of what the law calls (printed rows) -/
set_option maxRecDepth 20000 in
theorem gL_law_L_act : GoodIn wsL_law (va_wsS RL 119 yL_act wsL_act) := goodIn_app (goodIn_of _ (by decide +kernel)) ggL_law_L_act
set_option maxRecDepth 20000 in
theorem ggL_law_L_areAlike_h : GoodIn wsL_law [.code yL_areAlike cL_areAlike 4 (some .boolean)] := goodIn_r _ [274] (by decide +kernel) (by decide +kernel)
set_option maxRecDepth 20000 in
theorem ggL_law_L_areAlike_r1 : GoodIn wsL_law wsL_areAlike_r1 := goodIn_r _ [66, 67, 68, 2, 69, 14, 58, 59, 60, 61, 62, 13, 63, 64, 65, 32, 275, 276, 277, 278, 210, 279, 280, 281] (by decide +kernel) (by decide +kernel)
set_option maxRecDepth 20000 in
theorem ggL_law_L_areAlike_r2 : GoodIn wsL_law wsL_areAlike_r2 := goodIn_r _ [282, 27, 264, 283, 284, 285, 286, 154, 287, 288, 47, 289, 290, 291, 292, 293, 294, 295, 28, 99, 100, 101, 102, 103] (by decide +kernel) (by decide +kernel)
set_option maxRecDepth 20000 in
theorem ggL_law_L_areAlike_r3 : GoodIn wsL_law wsL_areAlike_r3 := goodIn_r _ [149, 43, 44, 134, 135, 136, 137, 138, 139, 140, 141, 24, 142, 143, 144, 159, 160, 161, 162, 18, 163, 17, 164, 165] (by decide +kernel) (by decide +kernel)
set_option maxRecDepth 20000 in
theorem ggL_law_L_areAlike_r4 : GoodIn wsL_law wsL_areAlike_r4 := goodIn_r _ [36, 37, 166, 167, 21, 168, 169, 41, 170, 171, 172, 173, 174, 175, 176, 177, 178, 179, 180, 181, 128, 182, 183, 184] (by decide +kernel) (by decide +kernel)
set_option maxRecDepth 20000 in
theorem ggL_law_L_areAlike_r5 : GoodIn wsL_law wsL_areAlike_r5 := goodIn_r _ [185, 186, 187, 188, 189, 190, 191, 192, 193, 194, 296, 297, 298, 299, 300, 301, 302, 303, 304, 305, 306, 307, 308, 309] (by decide +kernel) (by decide +kernel)
set_option maxRecDepth 20000 in
theorem ggL_law_L_areAlike_r6 : GoodIn wsL_law wsL_areAlike_r6 := goodIn_r _ [310, 311, 312] (by decide +kernel) (by decide +kernel)
set_option maxRecDepth 20000 in
theorem ggL_law_L_areAlike_wsX30 : GoodIn wsL_law wsX30 := goodIn_r _ [328, 329, 330, 331, 332, 333, 334, 335, 336] (by decide +kernel) (by decide +kernel)
set_option maxRecDepth 20000 in
theorem ggL_law_L_areAlike_wsX00 : GoodIn wsL_law wsX00 := goodIn_r _ [337, 338] (by decide +kernel) (by decide +kernel)
set_option maxRecDepth 20000 in
theorem ggL_law_L_areAlike_wsX10 : GoodIn wsL_law wsX10 := goodIn_r _ [342, 343] (by decide +kernel) (by decide +kernel)
set_option maxRecDepth 20000 in
theorem ggL_law_L_areAlike_wsX20 : GoodIn wsL_law wsX20 := goodIn_r _ [339, 340, 341] (by decide +kernel) (by decide +kernel)
set_option maxRecDepth 20000 in
theorem ggL_law_L_areAlike : GoodIn wsL_law wsL_areAlike := goodIn_ca (goodIn_ca (goodIn_ca (goodIn_ca ((fun w h => (List.mem_cons.mp h).elim (fun e => ggL_law_L_areAlike_h w (List.mem_singleton.mpr e)) (fun h => (goodIn_app (goodIn_app (goodIn_app (goodIn_app (goodIn_app ggL_law_L_areAlike_r1 (goodIn_app ggL_law_L_areAlike_r2 (goodIn_app ggL_law_L_areAlike_r3 (goodIn_app ggL_law_L_areAlike_r4 (goodIn_app ggL_law_L_areAlike_r5 ggL_law_L_areAlike_r6))))) ggL_law_L_areAlike_wsX30) ggL_law_L_areAlike_wsX00) ggL_law_L_areAlike_wsX10) ggL_law_L_areAlike_wsX20) w h))) (goodIn_sub (fun _ h => List.mem_append_left _ (List.mem_append_left _ (List.mem_append_left _ (List.mem_append_left _ (List.mem_append_left _ (List.mem_append_left _ (List.mem_append_right _ h))))))) (by decide +kernel))) (goodIn_sub (fun _ h => List.mem_append_left _ (List.mem_append_left _ (List.mem_append_right _ h))) (by decide +kernel))) (goodIn_sub (fun _ h => List.mem_append_left _ (List.mem_append_left _ (List.mem_append_left _ (List.mem_append_left _ (List.mem_append_left _ (List.mem_append_right _ h)))))) (by decide +kernel))) (goodIn_sub (fun _ h => List.mem_append_right _ h) (by decide +kernel))
