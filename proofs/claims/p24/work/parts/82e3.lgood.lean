/-! the words of what the law calls (printed rows) -/
set_option maxRecDepth 20000 in
theorem gL_law_L_areCellsSo : GoodIn wsL_law (va_wsS RL 127 yL_areCellsSo wsL_areCellsSo) := goodIn_app (goodIn_of _ (by decide +kernel)) ggL_law_L_areCellsSo
set_option maxRecDepth 20000 in
theorem ggL_law_L_low : GoodIn wsL_law wsL_low := goodIn_ca (goodIn_r _ [56, 57] (by decide +kernel) (by decide +kernel)) (goodIn_sub (fun _ h => List.mem_append_left _ (List.mem_append_left _ (List.mem_append_left _ (List.mem_append_left _ (List.mem_append_left _ (List.mem_append_right _ h)))))) (by decide +kernel))
set_option maxRecDepth 20000 in
theorem gL_law_L_low : GoodIn wsL_law (va_wsS RL 64 yL_low wsL_low) := goodIn_app (goodIn_of _ (by decide +kernel)) ggL_law_L_low
set_option maxRecDepth 20000 in
theorem ggL_law_L_isPutSo_h : GoodIn wsL_law [.code yL_isPutSo cL_isPutSo 13 (some .boolean)] := goodIn_r _ [324] (by decide +kernel) (by decide +kernel)
set_option maxRecDepth 20000 in
theorem ggL_law_L_isPutSo_r1 : GoodIn wsL_law wsL_isPutSo_r1 := goodIn_r _ [283, 284, 285, 2, 286, 154, 305, 306, 307, 308, 24, 99, 100, 101, 102, 103, 287, 288, 47, 289, 290, 291, 292, 293] (by decide +kernel) (by decide +kernel)
set_option maxRecDepth 20000 in
theorem ggL_law_L_isPutSo_r2 : GoodIn wsL_law wsL_isPutSo_r2 := goodIn_r _ [294, 295, 28, 149, 43, 44, 134, 135, 136, 137, 138, 139, 140, 141, 142, 143, 144, 159, 160, 161, 162, 18, 163, 17] (by decide +kernel) (by decide +kernel)
set_option maxRecDepth 20000 in
theorem ggL_law_L_isPutSo_r3 : GoodIn wsL_law wsL_isPutSo_r3 := goodIn_r _ [164, 165, 36, 37, 166, 167, 21, 168, 169, 41, 170, 171, 172, 173, 174, 175, 176, 177, 178, 179, 180, 181, 128, 182] (by decide +kernel) (by decide +kernel)
set_option maxRecDepth 20000 in
theorem ggL_law_L_isPutSo_r4 : GoodIn wsL_law wsL_isPutSo_r4 := goodIn_r _ [183, 184, 185, 186, 187, 188, 189, 190, 191, 192, 193, 194, 296, 297, 298, 299, 300, 264, 301, 302, 303, 304, 27, 275] (by decide +kernel) (by decide +kernel)
set_option maxRecDepth 20000 in
theorem ggL_law_L_isPutSo_r5 : GoodIn wsL_law wsL_isPutSo_r5 := goodIn_r _ [276, 277, 278, 210, 222, 223, 224, 225, 215, 216, 217, 218, 90, 91, 318, 319, 320, 321, 255, 256, 257, 258, 206, 207] (by decide +kernel) (by decide +kernel)
set_option maxRecDepth 20000 in
theorem ggL_law_L_isPutSo_r6 : GoodIn wsL_law wsL_isPutSo_r6 := goodIn_r _ [208, 209, 25, 233, 234, 235, 236, 80, 81, 82, 83, 84, 85, 237, 238, 239, 22, 19, 20, 38, 39, 40, 9, 10] (by decide +kernel) (by decide +kernel)
set_option maxRecDepth 20000 in
theorem ggL_law_L_isPutSo_r7 : GoodIn wsL_law wsL_isPutSo_r7 := goodIn_r _ [42, 145, 146, 147, 148, 150, 151, 152, 153, 155, 156, 157, 158, 195, 196, 197, 198, 199, 200, 201, 309, 310, 311, 312] (by decide +kernel) (by decide +kernel)
set_option maxRecDepth 20000 in
theorem ggL_law_L_isPutSo_r8 : GoodIn wsL_law wsL_isPutSo_r8 := goodIn_r _ [211, 212, 213, 214, 219, 220, 221] (by decide +kernel) (by decide +kernel)
set_option maxRecDepth 20000 in
theorem ggL_law_L_isPutSo_wsX30 : GoodIn wsL_law wsX30 := goodIn_r _ [328, 329, 330, 331, 332, 333, 334, 335, 336] (by decide +kernel) (by decide +kernel)
set_option maxRecDepth 20000 in
theorem ggL_law_L_isPutSo_wsX10 : GoodIn wsL_law wsX10 := goodIn_r _ [342, 343] (by decide +kernel) (by decide +kernel)
set_option maxRecDepth 20000 in
theorem ggL_law_L_isPutSo_wsX20 : GoodIn wsL_law wsX20 := goodIn_r _ [339, 340, 341] (by decide +kernel) (by decide +kernel)
set_option maxRecDepth 20000 in
theorem ggL_law_L_isPutSo : GoodIn wsL_law wsL_isPutSo := goodIn_ca (goodIn_ca (goodIn_ca (goodIn_ca (goodIn_ca (goodIn_ca ((fun w h => (List.mem_cons.mp h).elim (fun e => ggL_law_L_isPutSo_h w (List.mem_singleton.mpr e)) (fun h => (goodIn_app (goodIn_app (goodIn_app (goodIn_app ggL_law_L_isPutSo_r1 (goodIn_app ggL_law_L_isPutSo_r2 (goodIn_app ggL_law_L_isPutSo_r3 (goodIn_app ggL_law_L_isPutSo_r4 (goodIn_app ggL_law_L_isPutSo_r5 (goodIn_app ggL_law_L_isPutSo_r6 (goodIn_app ggL_law_L_isPutSo_r7 ggL_law_L_isPutSo_r8))))))) ggL_law_L_isPutSo_wsX30) ggL_law_L_isPutSo_wsX10) ggL_law_L_isPutSo_wsX20) w h))) (goodIn_sub (fun _ h => List.mem_append_left _ (List.mem_append_left _ (List.mem_append_right _ h))) (by decide +kernel))) (goodIn_sub (fun _ h => List.mem_append_left _ (List.mem_append_left _ (List.mem_append_left _ (List.mem_append_left _ (List.mem_append_left _ (List.mem_append_left _ (List.mem_append_right _ h))))))) (by decide +kernel))) (goodIn_sub (fun _ h => List.mem_append_left _ (List.mem_append_left _ (List.mem_append_left _ (List.mem_append_left _ (List.mem_append_left _ (List.mem_append_right _ h)))))) (by decide +kernel))) (goodIn_sub (fun _ h => List.mem_append_right _ h) (by decide +kernel))) (goodIn_sub (fun _ h => List.mem_append_left _ (List.mem_append_left _ (List.mem_append_left _ (List.mem_append_right _ h)))) (by decide +kernel))) (goodIn_sub (fun _ h => List.mem_append_left _ (List.mem_append_left _ (List.mem_append_left _ (List.mem_append_left _ (List.mem_append_right _ h))))) (by decide +kernel))
