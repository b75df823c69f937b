/-! the words of what the law calls (printed rows) -/
set_option maxRecDepth 20000 in
theorem gL_law_L_areAlike : GoodIn wsL_law (va_wsS RL 123 yL_areAlike wsL_areAlike) := goodIn_app (goodIn_of _ (by decide +kernel)) ggL_law_L_areAlike
set_option maxRecDepth 20000 in
theorem ggL_law_L_areCellsSo_h : GoodIn wsL_law [.code yL_areCellsSo cL_areCellsSo 10 (some .boolean)] := goodIn_r _ [315] (by decide +kernel) (by decide +kernel)
set_option maxRecDepth 20000 in
theorem ggL_law_L_areCellsSo_r1 : GoodIn wsL_law wsL_areCellsSo_r1 := goodIn_r _ [291, 316, 317, 287, 288, 47, 289, 290, 292, 293, 294, 2, 295, 28, 99, 100, 101, 102, 103, 149, 43, 44, 134, 135] (by decide +kernel) (by decide +kernel)
set_option maxRecDepth 20000 in
theorem ggL_law_L_areCellsSo_r2 : GoodIn wsL_law wsL_areCellsSo_r2 := goodIn_r _ [136, 137, 138, 139, 140, 141, 24, 142, 143, 144, 159, 160, 161, 162, 18, 163, 17, 164, 165, 36, 37, 166, 167, 21] (by decide +kernel) (by decide +kernel)
set_option maxRecDepth 20000 in
theorem ggL_law_L_areCellsSo_r3 : GoodIn wsL_law wsL_areCellsSo_r3 := goodIn_r _ [168, 169, 41, 170, 171, 172, 173, 174, 175, 176, 177, 178, 179, 180, 181, 128, 182, 183, 184, 185, 186, 187, 188, 189] (by decide +kernel) (by decide +kernel)
set_option maxRecDepth 20000 in
theorem ggL_law_L_areCellsSo_r4 : GoodIn wsL_law wsL_areCellsSo_r4 := goodIn_r _ [190, 191, 192, 193, 194, 296, 297, 298, 299, 300, 264, 301, 302, 303, 304, 27, 305, 306, 307, 308, 309, 310, 311, 312] (by decide +kernel) (by decide +kernel)
set_option maxRecDepth 20000 in
theorem ggL_law_L_areCellsSo_r5 : GoodIn wsL_law wsL_areCellsSo_r5 := goodIn_r _ [318, 319, 320, 321, 255, 256, 257, 258, 279, 280, 281, 282, 275, 276, 277, 278, 210] (by decide +kernel) (by decide +kernel)
set_option maxRecDepth 20000 in
theorem ggL_law_L_areCellsSo_wsX30 : GoodIn wsL_law wsX30 := goodIn_r _ [328, 329, 330, 331, 332, 333, 334, 335, 336] (by decide +kernel) (by decide +kernel)
set_option maxRecDepth 20000 in
theorem ggL_law_L_areCellsSo_wsX10 : GoodIn wsL_law wsX10 := goodIn_r _ [342, 343] (by decide +kernel) (by decide +kernel)
set_option maxRecDepth 20000 in
theorem ggL_law_L_areCellsSo_wsX20 : GoodIn wsL_law wsX20 := goodIn_r _ [339, 340, 341] (by decide +kernel) (by decide +kernel)
set_option maxRecDepth 20000 in
theorem ggL_law_L_areCellsSo : GoodIn wsL_law wsL_areCellsSo := goodIn_ca (goodIn_ca (goodIn_ca (goodIn_ca ((fun w h => (List.mem_cons.mp h).elim (fun e => ggL_law_L_areCellsSo_h w (List.mem_singleton.mpr e)) (fun h => (goodIn_app (goodIn_app (goodIn_app (goodIn_app ggL_law_L_areCellsSo_r1 (goodIn_app ggL_law_L_areCellsSo_r2 (goodIn_app ggL_law_L_areCellsSo_r3 (goodIn_app ggL_law_L_areCellsSo_r4 ggL_law_L_areCellsSo_r5)))) ggL_law_L_areCellsSo_wsX30) ggL_law_L_areCellsSo_wsX10) ggL_law_L_areCellsSo_wsX20) w h))) (goodIn_sub (fun _ h => List.mem_append_left _ (List.mem_append_left _ (List.mem_append_left _ (List.mem_append_left _ (List.mem_append_left _ (List.mem_append_left _ (List.mem_append_right _ h))))))) (by decide +kernel))) (goodIn_sub (fun _ h => List.mem_append_left _ (List.mem_append_left _ (List.mem_append_right _ h))) (by decide +kernel))) (goodIn_sub (fun _ h => List.mem_append_left _ (List.mem_append_left _ (List.mem_append_left _ (List.mem_append_left _ (List.mem_append_left _ (List.mem_append_right _ h)))))) (by decide +kernel))) (goodIn_sub (fun _ h => List.mem_append_right _ h) (by decide +kernel))
