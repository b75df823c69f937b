/-! the words of the law among the tables, piece by piece -/
set_option maxRecDepth 20000 in
theorem wsL_in_r1 : GoodIn lw_tbl wsL_law0_r1 := goodIn_p wsL_law0_r1 [68, 71] (by decide +kernel) (by decide +kernel)
set_option maxRecDepth 20000 in
theorem wsL_in_r2 : GoodIn lw_tbl wsL_law0_r2 := goodIn_p wsL_law0_r2 [76, 91, 108, 112] (by decide +kernel) (by decide +kernel)
set_option maxRecDepth 20000 in
theorem wsL_in_r3 : GoodIn lw_tbl wsL_law0_r3 := goodIn_p wsL_law0_r3 [599, 189, 192] (by decide +kernel) (by decide +kernel)
set_option maxRecDepth 20000 in
theorem wsL_in_r4 : GoodIn lw_tbl wsL_law0_r4 := goodIn_p wsL_law0_r4 [268, 288, 657, 661] (by decide +kernel) (by decide +kernel)
set_option maxRecDepth 20000 in
theorem wsL_in_r5 : GoodIn lw_tbl wsL_law0_r5 := goodIn_p wsL_law0_r5 [665, 669, 673, 653, 319] (by decide +kernel) (by decide +kernel)
set_option maxRecDepth 20000 in
theorem wsL_in_r6 : GoodIn lw_tbl wsL_law0_r6 := goodIn_p wsL_law0_r6 [322, 677, 680, 342, 685] (by decide +kernel) (by decide +kernel)
set_option maxRecDepth 20000 in
theorem wsL_in_r7 : GoodIn lw_tbl wsL_law0_r7 := goodIn_p wsL_law0_r7 [155, 690, 159, 163, 694, 698] (by decide +kernel) (by decide +kernel)
set_option maxRecDepth 20000 in
theorem wsL_in_r8 : GoodIn lw_tbl wsL_law0_r8 := goodIn_p wsL_law0_r8 [350, 355, 359, 369] (by decide +kernel) (by decide +kernel)
set_option maxRecDepth 20000 in
theorem wsL_in_r9 : GoodIn lw_tbl wsL_law0_r9 := goodIn_p wsL_law0_r9 [377, 381, 384, 389, 394] (by decide +kernel) (by decide +kernel)
set_option maxRecDepth 20000 in
theorem wsL_in_r10 : GoodIn lw_tbl wsL_law0_r10 := goodIn_p wsL_law0_r10 [398, 402, 406, 410, 414] (by decide +kernel) (by decide +kernel)
set_option maxRecDepth 20000 in
theorem wsL_in_r11 : GoodIn lw_tbl wsL_law0_r11 := goodIn_p wsL_law0_r11 [427, 430, 434, 422, 418, 438] (by decide +kernel) (by decide +kernel)
set_option maxRecDepth 20000 in
theorem wsL_in_r12 : GoodIn lw_tbl wsL_law0_r12 := goodIn_p wsL_law0_r12 [702, 706, 709, 714, 718] (by decide +kernel) (by decide +kernel)
set_option maxRecDepth 20000 in
theorem wsL_in_r13 : GoodIn lw_tbl wsL_law0_r13 := goodIn_p wsL_law0_r13 [722, 448, 451, 726, 730] (by decide +kernel) (by decide +kernel)
set_option maxRecDepth 20000 in
theorem wsL_in_r14 : GoodIn lw_tbl wsL_law0_r14 := goodIn_p wsL_law0_r14 [458, 734, 465, 738] (by decide +kernel) (by decide +kernel)
set_option maxRecDepth 20000 in
theorem wsL_in_r15 : GoodIn lw_tbl wsL_law0_r15 := goodIn_p wsL_law0_r15 [473, 477, 482, 742, 746, 489] (by decide +kernel) (by decide +kernel)
set_option maxRecDepth 20000 in
theorem wsL_in_r16 : GoodIn lw_tbl wsL_law0_r16 := goodIn_p wsL_law0_r16 [750, 167, 754, 171, 758] (by decide +kernel) (by decide +kernel)
set_option maxRecDepth 20000 in
theorem wsL_in_r17 : GoodIn lw_tbl wsL_law0_r17 := goodIn_p wsL_law0_r17 [510, 513, 762, 766, 770] (by decide +kernel) (by decide +kernel)
set_option maxRecDepth 20000 in
theorem wsL_in_r18 : GoodIn lw_tbl wsL_law0_r18 := goodIn_p wsL_law0_r18 [774, 778, 782, 786, 790] (by decide +kernel) (by decide +kernel)
set_option maxRecDepth 20000 in
theorem wsL_in_r19 : GoodIn lw_tbl wsL_law0_r19 := goodIn_p wsL_law0_r19 [794, 797, 801, 523, 805] (by decide +kernel) (by decide +kernel)
set_option maxRecDepth 20000 in
theorem wsL_in_r20 : GoodIn lw_tbl wsL_law0_r20 := goodIn_p wsL_law0_r20 [530, 809, 537, 813, 544] (by decide +kernel) (by decide +kernel)
set_option maxRecDepth 20000 in
theorem wsL_in_r21 : GoodIn lw_tbl wsL_law0_r21 := goodIn_p wsL_law0_r21 [548, 817, 821, 175, 825, 180] (by decide +kernel) (by decide +kernel)
set_option maxRecDepth 20000 in
theorem wsL_in_r22 : GoodIn lw_tbl wsL_law0_r22 := goodIn_p wsL_law0_r22 [829, 556, 564, 570] (by decide +kernel) (by decide +kernel)
set_option maxRecDepth 20000 in
theorem wsL_in_r23 : GoodIn lw_tbl wsL_law0_r23 := goodIn_p wsL_law0_r23 [575, 578, 833, 837, 843] (by decide +kernel) (by decide +kernel)
set_option maxRecDepth 20000 in
theorem wsL_in_r24 : GoodIn lw_tbl wsL_law0_r24 := goodIn_p wsL_law0_r24 [847] (by decide +kernel) (by decide +kernel)
