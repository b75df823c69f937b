/-! the words of what the law calls (printed rows) -/
set_option maxRecDepth 20000 in
theorem gL_law_L_isPutSo : GoodIn wsL_law (va_wsS RL 132 yL_isPutSo wsL_isPutSo) := goodIn_app (goodIn_of _ (by decide +kernel)) ggL_law_L_isPutSo
set_option maxRecDepth 20000 in
theorem ggL_law_L_isSoughtSo_h : GoodIn wsL_law [.code yL_isSoughtSo cL_isSoughtSo 12 (some .boolean)] := goodIn_r _ [327] (by decide +kernel) (by decide +kernel)
set_option maxRecDepth 20000 in
theorem ggL_law_L_isSoughtSo_r1 : GoodIn wsL_law wsL_isSoughtSo_r1 := goodIn_r _ [291, 240, 241, 47, 242, 73, 74, 75, 243, 3, 244, 245, 246, 2, 247, 83, 84, 90, 91, 248, 249, 250, 251, 85] (by decide +kernel) (by decide +kernel)
set_option maxRecDepth 20000 in
theorem ggL_law_L_isSoughtSo_r2 : GoodIn wsL_law wsL_isSoughtSo_r2 := goodIn_r _ [24, 99, 100, 101, 102, 103, 252, 21, 253, 254, 41, 255, 256, 257, 258, 149, 43, 44, 134, 135, 136, 137, 138, 139] (by decide +kernel) (by decide +kernel)
set_option maxRecDepth 20000 in
theorem ggL_law_L_isSoughtSo_r3 : GoodIn wsL_law wsL_isSoughtSo_r3 := goodIn_r _ [140, 141, 142, 143, 144, 259, 260, 261, 262, 27, 28, 263, 131, 132, 133, 264, 155, 156, 157, 158, 265, 266, 267, 268] (by decide +kernel) (by decide +kernel)
set_option maxRecDepth 20000 in
theorem ggL_law_L_isSoughtSo_r4 : GoodIn wsL_law wsL_isSoughtSo_r4 := goodIn_r _ [159, 160, 161, 162, 18, 163, 17, 164, 165, 36, 37, 166, 167, 168, 169, 170, 171, 172, 173, 174, 175, 176, 177, 178] (by decide +kernel) (by decide +kernel)
set_option maxRecDepth 20000 in
theorem ggL_law_L_isSoughtSo_r5 : GoodIn wsL_law wsL_isSoughtSo_r5 := goodIn_r _ [179, 180, 181, 128, 182, 183, 184, 185, 186, 187, 188, 189, 190, 191, 192, 193, 194, 269, 270, 271, 237, 238, 239, 22] (by decide +kernel) (by decide +kernel)
set_option maxRecDepth 20000 in
theorem ggL_law_L_isSoughtSo_r6 : GoodIn wsL_law wsL_isSoughtSo_r6 := goodIn_r _ [19, 20, 38, 39, 40, 9, 10, 42, 145, 146, 147, 148, 150, 151, 152, 153, 154, 195, 196, 197, 198, 199, 200, 201] (by decide +kernel) (by decide +kernel)
set_option maxRecDepth 20000 in
theorem ggL_law_L_isSoughtSo_r7 : GoodIn wsL_law wsL_isSoughtSo_r7 := goodIn_r _ [301, 302, 303, 304, 296, 297, 298, 299, 300, 305, 306, 307, 308, 318, 319, 320, 321, 233, 234, 235, 236, 80, 81, 82] (by decide +kernel) (by decide +kernel)
set_option maxRecDepth 20000 in
theorem ggL_law_L_isSoughtSo_r8 : GoodIn wsL_law wsL_isSoughtSo_r8 := goodIn_r _ [287, 288, 289, 290, 292, 293, 294, 295] (by decide +kernel) (by decide +kernel)
set_option maxRecDepth 20000 in
theorem ggL_law_L_isSoughtSo_wsX30 : GoodIn wsL_law wsX30 := goodIn_r _ [328, 329, 330, 331, 332, 333, 334, 335, 336] (by decide +kernel) (by decide +kernel)
set_option maxRecDepth 20000 in
theorem ggL_law_L_isSoughtSo_wsX10 : GoodIn wsL_law wsX10 := goodIn_r _ [342, 343] (by decide +kernel) (by decide +kernel)
set_option maxRecDepth 20000 in
theorem ggL_law_L_isSoughtSo_wsX20 : GoodIn wsL_law wsX20 := goodIn_r _ [339, 340, 341] (by decide +kernel) (by decide +kernel)
set_option maxRecDepth 20000 in
theorem ggL_law_L_isSoughtSo : GoodIn wsL_law wsL_isSoughtSo := goodIn_ca (goodIn_ca (goodIn_ca (goodIn_ca (goodIn_ca (goodIn_ca (goodIn_ca ((fun w h => (List.mem_cons.mp h).elim (fun e => ggL_law_L_isSoughtSo_h w (List.mem_singleton.mpr e)) (fun h => (goodIn_app (goodIn_app (goodIn_app (goodIn_app ggL_law_L_isSoughtSo_r1 (goodIn_app ggL_law_L_isSoughtSo_r2 (goodIn_app ggL_law_L_isSoughtSo_r3 (goodIn_app ggL_law_L_isSoughtSo_r4 (goodIn_app ggL_law_L_isSoughtSo_r5 (goodIn_app ggL_law_L_isSoughtSo_r6 (goodIn_app ggL_law_L_isSoughtSo_r7 ggL_law_L_isSoughtSo_r8))))))) ggL_law_L_isSoughtSo_wsX30) ggL_law_L_isSoughtSo_wsX10) ggL_law_L_isSoughtSo_wsX20) w h))) (goodIn_sub (fun _ h => List.mem_append_left _ (List.mem_append_left _ (List.mem_append_left _ (List.mem_append_left _ (List.mem_append_right _ h))))) (by decide +kernel))) (goodIn_sub (fun _ h => List.mem_append_left _ (List.mem_append_left _ (List.mem_append_left _ (List.mem_append_right _ h)))) (by decide +kernel))) (goodIn_sub (fun _ h => List.mem_append_left _ (List.mem_append_right _ h)) (by decide +kernel))) (goodIn_sub (fun _ h => List.mem_append_left _ (List.mem_append_left _ (List.mem_append_right _ h))) (by decide +kernel))) (goodIn_sub (fun _ h => List.mem_append_left _ (List.mem_append_left _ (List.mem_append_left _ (List.mem_append_left _ (List.mem_append_left _ (List.mem_append_left _ (List.mem_append_right _ h))))))) (by decide +kernel))) (goodIn_sub (fun _ h => List.mem_append_left _ (List.mem_append_left _ (List.mem_append_left _ (List.mem_append_left _ (List.mem_append_left _ (List.mem_append_right _ h)))))) (by decide +kernel))) (goodIn_sub (fun _ h => List.mem_append_right _ h) (by decide +kernel))
