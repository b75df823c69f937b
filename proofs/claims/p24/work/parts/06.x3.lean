theorem dX2_combine_125 : decode cX2_combine 125 = .ok (.lload 5, 2) := by decide +kernel
theorem dX2_combine_127 : decode cX2_combine 127 = .ok (.lreturn, 1) := by decide +kernel
set_option maxRecDepth 20000 in
theorem ggX3_init_X0_init : GoodIn wsX3_init wsX0_init := goodIn_r _ [23, 24, 2, 3, 15, 25, 39, 40] (by decide +kernel) (by decide +kernel)
set_option maxRecDepth 20000 in
theorem gX3_init_X0_init_n13 : GoodIn wsX3_init (wsX0_init) := ggX3_init_X0_init
set_option maxRecDepth 20000 in
theorem ggX3_init_X2_init : GoodIn wsX3_init wsX2_init := goodIn_r _ [27, 28, 2, 3, 15, 29, 19, 30, 50, 51, 52] (by decide +kernel) (by decide +kernel)
set_option maxRecDepth 20000 in
theorem gX3_init_X2_init_n20 : GoodIn wsX3_init (wsX2_init) := ggX3_init_X2_init
set_option maxRecDepth 20000 in
theorem ggX3_init_X1_init : GoodIn wsX3_init wsX1_init := goodIn_ca (goodIn_r _ [32, 33, 2, 3, 34, 35, 36, 37, 38, 53, 54] (by decide +kernel) (by decide +kernel)) (goodIn_sub (fun _ h => List.mem_cons_of_mem _ (List.mem_append_right _ h)) (by decide +kernel))
set_option maxRecDepth 20000 in
theorem gX3_init_X1_init_n27 : GoodIn wsX3_init (wsX1_init) := ggX3_init_X1_init
theorem dX3_init_0 : decode cX3_init 0 = .ok (.aload_n 0, 1) := by decide +kernel
theorem dX3_init_1 : decode cX3_init 1 = .ok (.invokespecial 5, 3) := by decide +kernel
theorem dX3_init_4 : decode cX3_init 4 = .ok (.aload_n 0, 1) := by decide +kernel
theorem dX3_init_5 : decode cX3_init 5 = .ok (.new 11, 3) := by decide +kernel
theorem dX3_init_8 : decode cX3_init 8 = .ok (.dup, 1) := by decide +kernel
theorem dX3_init_9 : decode cX3_init 9 = .ok (.invokespecial 13, 3) := by decide +kernel
theorem dX3_init_12 : decode cX3_init 12 = .ok (.putfield 14, 3) := by decide +kernel
theorem dX3_init_15 : decode cX3_init 15 = .ok (.aload_n 0, 1) := by decide +kernel
theorem dX3_init_16 : decode cX3_init 16 = .ok (.new 18, 3) := by decide +kernel
theorem dX3_init_19 : decode cX3_init 19 = .ok (.dup, 1) := by decide +kernel
theorem dX3_init_20 : decode cX3_init 20 = .ok (.invokespecial 20, 3) := by decide +kernel
theorem dX3_init_23 : decode cX3_init 23 = .ok (.putfield 21, 3) := by decide +kernel
theorem dX3_init_26 : decode cX3_init 26 = .ok (.aload_n 0, 1) := by decide +kernel
theorem dX3_init_27 : decode cX3_init 27 = .ok (.new 25, 3) := by decide +kernel
theorem dX3_init_30 : decode cX3_init 30 = .ok (.dup, 1) := by decide +kernel
theorem dX3_init_31 : decode cX3_init 31 = .ok (.iconst 0, 1) := by decide +kernel
theorem dX3_init_32 : decode cX3_init 32 = .ok (.newarray .int, 2) := by decide +kernel
theorem dX3_init_34 : decode cX3_init 34 = .ok (.invokespecial 27, 3) := by decide +kernel
theorem dX3_init_37 : decode cX3_init 37 = .ok (.putfield 30, 3) := by decide +kernel
theorem dX3_init_40 : decode cX3_init 40 = .ok (.aload_n 0, 1) := by decide +kernel
theorem dX3_init_41 : decode cX3_init 41 = .ok (.bipush 30, 2) := by decide +kernel
theorem dX3_init_43 : decode cX3_init 43 = .ok (.anewarray 25, 3) := by decide +kernel
theorem dX3_init_46 : decode cX3_init 46 = .ok (.putfield 34, 3) := by decide +kernel
theorem dX3_init_49 : decode cX3_init 49 = .ok (.aload_n 0, 1) := by decide +kernel
theorem dX3_init_50 : decode cX3_init 50 = .ok (.bipush 120, 2) := by decide +kernel
theorem dX3_init_52 : decode cX3_init 52 = .ok (.anewarray 25, 3) := by decide +kernel
theorem dX3_init_55 : decode cX3_init 55 = .ok (.putfield 38, 3) := by decide +kernel
theorem dX3_init_58 : decode cX3_init 58 = .ok (.aload_n 0, 1) := by decide +kernel
theorem dX3_init_59 : decode cX3_init 59 = .ok (.bipush 30, 2) := by decide +kernel
theorem dX3_init_61 : decode cX3_init 61 = .ok (.newarray .long, 2) := by decide +kernel
theorem dX3_init_63 : decode cX3_init 63 = .ok (.putfield 41, 3) := by decide +kernel
theorem dX3_init_66 : decode cX3_init 66 = .ok (.aload_n 0, 1) := by decide +kernel
theorem dX3_init_67 : decode cX3_init 67 = .ok (.bipush 30, 2) := by decide +kernel
theorem dX3_init_69 : decode cX3_init 69 = .ok (.newarray .long, 2) := by decide +kernel
theorem dX3_init_71 : decode cX3_init 71 = .ok (.putfield 45, 3) := by decide +kernel
theorem dX3_init_74 : decode cX3_init 74 = .ok (.iconst 0, 1) := by decide +kernel
theorem dX3_init_75 : decode cX3_init 75 = .ok (.istore_n 1, 1) := by decide +kernel
theorem dX3_init_76 : decode cX3_init 76 = .ok (.iload_n 1, 1) := by decide +kernel
theorem dX3_init_77 : decode cX3_init 77 = .ok (.aload_n 0, 1) := by decide +kernel
theorem dX3_init_78 : decode cX3_init 78 = .ok (.getfield 34, 3) := by decide +kernel
theorem dX3_init_81 : decode cX3_init 81 = .ok (.arraylength, 1) := by decide +kernel
theorem dX3_init_82 : decode cX3_init 82 = .ok (.if_icmp .ge 19, 3) := by decide +kernel
theorem dX3_init_85 : decode cX3_init 85 = .ok (.aload_n 0, 1) := by decide +kernel
theorem dX3_init_86 : decode cX3_init 86 = .ok (.getfield 34, 3) := by decide +kernel
theorem dX3_init_89 : decode cX3_init 89 = .ok (.iload_n 1, 1) := by decide +kernel
theorem dX3_init_90 : decode cX3_init 90 = .ok (.aload_n 0, 1) := by decide +kernel
theorem dX3_init_91 : decode cX3_init 91 = .ok (.getfield 30, 3) := by decide +kernel
theorem dX3_init_94 : decode cX3_init 94 = .ok (.aastore, 1) := by decide +kernel
theorem dX3_init_95 : decode cX3_init 95 = .ok (.iinc 1 1, 3) := by decide +kernel
theorem dX3_init_98 : decode cX3_init 98 = .ok (.goto (-22), 3) := by decide +kernel
theorem dX3_init_101 : decode cX3_init 101 = .ok (.iconst 0, 1) := by decide +kernel
theorem dX3_init_102 : decode cX3_init 102 = .ok (.istore_n 1, 1) := by decide +kernel
theorem dX3_init_103 : decode cX3_init 103 = .ok (.iload_n 1, 1) := by decide +kernel
theorem dX3_init_104 : decode cX3_init 104 = .ok (.aload_n 0, 1) := by decide +kernel
theorem dX3_init_105 : decode cX3_init 105 = .ok (.getfield 38, 3) := by decide +kernel
theorem dX3_init_108 : decode cX3_init 108 = .ok (.arraylength, 1) := by decide +kernel
theorem dX3_init_109 : decode cX3_init 109 = .ok (.if_icmp .ge 19, 3) := by decide +kernel
theorem dX3_init_112 : decode cX3_init 112 = .ok (.aload_n 0, 1) := by decide +kernel
theorem dX3_init_113 : decode cX3_init 113 = .ok (.getfield 38, 3) := by decide +kernel
theorem dX3_init_116 : decode cX3_init 116 = .ok (.iload_n 1, 1) := by decide +kernel
theorem dX3_init_117 : decode cX3_init 117 = .ok (.aload_n 0, 1) := by decide +kernel
theorem dX3_init_118 : decode cX3_init 118 = .ok (.getfield 30, 3) := by decide +kernel
theorem dX3_init_121 : decode cX3_init 121 = .ok (.aastore, 1) := by decide +kernel
theorem dX3_init_122 : decode cX3_init 122 = .ok (.iinc 1 1, 3) := by decide +kernel
theorem dX3_init_125 : decode cX3_init 125 = .ok (.goto (-22), 3) := by decide +kernel
theorem dX3_init_128 : decode cX3_init 128 = .ok (.return_, 1) := by decide +kernel
set_option maxRecDepth 20000 in
theorem ggX3_number_X3_requireNumber : GoodIn wsX3_number wsX3_requireNumber := goodIn_ca (goodIn_r _ [5, 6, 7, 8] (by decide +kernel) (by decide +kernel)) (goodIn_sub (fun _ h => List.mem_cons_of_mem _ (List.mem_append_left _ (List.mem_append_left _ (List.mem_append_right _ h)))) (by decide +kernel))
set_option maxRecDepth 20000 in
theorem gX3_number_X3_requireNumber : GoodIn wsX3_number (va_wsS RX3 48 yX3_requireNumber wsX3_requireNumber) := goodIn_app (goodIn_of _ (by decide +kernel)) ggX3_number_X3_requireNumber
set_option maxRecDepth 20000 in
theorem ggX3_number_X3_requireRoom : GoodIn wsX3_number wsX3_requireRoom := goodIn_ca (goodIn_r _ [12, 13, 14, 1, 21, 22, 23, 24, 25, 26, 27, 28, 29, 30, 31] (by decide +kernel) (by decide +kernel)) (goodIn_sub (fun _ h => List.mem_cons_of_mem _ (List.mem_append_left _ (List.mem_append_right _ h))) (by decide +kernel))
set_option maxRecDepth 20000 in
theorem gX3_number_X3_requireRoom : GoodIn wsX3_number (wsV RX3 52 RX3 yX3_requireRoom wsX3_requireRoom) := goodIn_app (goodIn_of _ (by decide +kernel)) ggX3_number_X3_requireRoom
set_option maxRecDepth 20000 in
theorem ggX3_number_X0_write : GoodIn wsX3_number wsX0_write := goodIn_ca (goodIn_r _ [18, 19, 20, 30, 31] (by decide +kernel) (by decide +kernel)) (goodIn_sub (fun _ h => List.mem_cons_of_mem _ (List.mem_append_right _ h)) (by decide +kernel))
set_option maxRecDepth 20000 in
theorem gX3_number_X0_write_n55 : GoodIn wsX3_number (wsX0_write) := ggX3_number_X0_write
theorem dX3_number_0 : decode cX3_number 0 = .ok (.iload_n 1, 1) := by decide +kernel
theorem dX3_number_1 : decode cX3_number 1 = .ok (.invokestatic 48, 3) := by decide +kernel
theorem dX3_number_4 : decode cX3_number 4 = .ok (.aload_n 0, 1) := by decide +kernel
theorem dX3_number_5 : decode cX3_number 5 = .ok (.invokevirtual 52, 3) := by decide +kernel
theorem dX3_number_8 : decode cX3_number 8 = .ok (.aload_n 0, 1) := by decide +kernel
theorem dX3_number_9 : decode cX3_number 9 = .ok (.getfield 14, 3) := by decide +kernel
theorem dX3_number_12 : decode cX3_number 12 = .ok (.bipush 36, 2) := by decide +kernel
theorem dX3_number_14 : decode cX3_number 14 = .ok (.iload_n 1, 1) := by decide +kernel
theorem dX3_number_15 : decode cX3_number 15 = .ok (.iadd, 1) := by decide +kernel
theorem dX3_number_16 : decode cX3_number 16 = .ok (.invokevirtual 55, 3) := by decide +kernel
theorem dX3_number_19 : decode cX3_number 19 = .ok (.ireturn, 1) := by decide +kernel
set_option maxRecDepth 20000 in
theorem ggX3_cell_X3_requireCell : GoodIn wsX3_cell wsX3_requireCell := goodIn_ca (goodIn_r _ [5, 6, 7] (by decide +kernel) (by decide +kernel)) (goodIn_sub (fun _ h => List.mem_cons_of_mem _ (List.mem_append_left _ (List.mem_append_left _ (List.mem_append_right _ h)))) (by decide +kernel))
set_option maxRecDepth 20000 in
theorem gX3_cell_X3_requireCell : GoodIn wsX3_cell (va_wsS RX3 59 yX3_requireCell wsX3_requireCell) := goodIn_app (goodIn_of _ (by decide +kernel)) ggX3_cell_X3_requireCell
set_option maxRecDepth 20000 in
theorem ggX3_cell_X3_requireRoom : GoodIn wsX3_cell wsX3_requireRoom := goodIn_ca (goodIn_r _ [11, 12, 13, 1, 20, 21, 22, 23, 24, 25, 26, 27, 28, 29, 30] (by decide +kernel) (by decide +kernel)) (goodIn_sub (fun _ h => List.mem_cons_of_mem _ (List.mem_append_left _ (List.mem_append_right _ h))) (by decide +kernel))
set_option maxRecDepth 20000 in
theorem gX3_cell_X3_requireRoom : GoodIn wsX3_cell (wsV RX3 52 RX3 yX3_requireRoom wsX3_requireRoom) := goodIn_app (goodIn_of _ (by decide +kernel)) ggX3_cell_X3_requireRoom
set_option maxRecDepth 20000 in
theorem ggX3_cell_X0_write : GoodIn wsX3_cell wsX0_write := goodIn_ca (goodIn_r _ [17, 18, 19, 29, 30] (by decide +kernel) (by decide +kernel)) (goodIn_sub (fun _ h => List.mem_cons_of_mem _ (List.mem_append_right _ h)) (by decide +kernel))
set_option maxRecDepth 20000 in
theorem gX3_cell_X0_write_n55 : GoodIn wsX3_cell (wsX0_write) := ggX3_cell_X0_write
theorem dX3_cell_0 : decode cX3_cell 0 = .ok (.iload_n 1, 1) := by decide +kernel
theorem dX3_cell_1 : decode cX3_cell 1 = .ok (.invokestatic 59, 3) := by decide +kernel
theorem dX3_cell_4 : decode cX3_cell 4 = .ok (.aload_n 0, 1) := by decide +kernel
theorem dX3_cell_5 : decode cX3_cell 5 = .ok (.invokevirtual 52, 3) := by decide +kernel
theorem dX3_cell_8 : decode cX3_cell 8 = .ok (.aload_n 0, 1) := by decide +kernel
theorem dX3_cell_9 : decode cX3_cell 9 = .ok (.getfield 14, 3) := by decide +kernel
theorem dX3_cell_12 : decode cX3_cell 12 = .ok (.bipush 6, 2) := by decide +kernel
theorem dX3_cell_14 : decode cX3_cell 14 = .ok (.iload_n 1, 1) := by decide +kernel
theorem dX3_cell_15 : decode cX3_cell 15 = .ok (.iadd, 1) := by decide +kernel
theorem dX3_cell_16 : decode cX3_cell 16 = .ok (.invokevirtual 55, 3) := by decide +kernel
theorem dX3_cell_19 : decode cX3_cell 19 = .ok (.ireturn, 1) := by decide +kernel
set_option maxRecDepth 20000 in
theorem ggX3_sign_X3_requireRoom : GoodIn wsX3_sign wsX3_requireRoom := goodIn_ca (goodIn_r _ [8, 9, 10, 3, 17, 18, 19, 20, 21, 22, 23, 24, 25, 26, 27] (by decide +kernel) (by decide +kernel)) (goodIn_sub (fun _ h => List.mem_cons_of_mem _ (List.mem_append_left _ (List.mem_append_right _ h))) (by decide +kernel))
set_option maxRecDepth 20000 in
theorem gX3_sign_X3_requireRoom : GoodIn wsX3_sign (wsV RX3 52 RX3 yX3_requireRoom wsX3_requireRoom) := goodIn_app (goodIn_of _ (by decide +kernel)) ggX3_sign_X3_requireRoom
set_option maxRecDepth 20000 in
theorem ggX3_sign_X0_write : GoodIn wsX3_sign wsX0_write := goodIn_ca (goodIn_r _ [14, 15, 16, 26, 27] (by decide +kernel) (by decide +kernel)) (goodIn_sub (fun _ h => List.mem_cons_of_mem _ (List.mem_append_right _ h)) (by decide +kernel))
set_option maxRecDepth 20000 in
theorem gX3_sign_X0_write_n55 : GoodIn wsX3_sign (wsX0_write) := ggX3_sign_X0_write
theorem dX3_sign_0 : decode cX3_sign 0 = .ok (.iload_n 1, 1) := by decide +kernel
theorem dX3_sign_1 : decode cX3_sign 1 = .ok (.ifCond .lt 8, 3) := by decide +kernel
theorem dX3_sign_4 : decode cX3_sign 4 = .ok (.iload_n 1, 1) := by decide +kernel
theorem dX3_sign_5 : decode cX3_sign 5 = .ok (.iconst 5, 1) := by decide +kernel
theorem dX3_sign_6 : decode cX3_sign 6 = .ok (.if_icmp .le 13, 3) := by decide +kernel
theorem dX3_sign_9 : decode cX3_sign 9 = .ok (.new 62, 3) := by decide +kernel
theorem dX3_sign_12 : decode cX3_sign 12 = .ok (.dup, 1) := by decide +kernel
theorem dX3_sign_13 : decode cX3_sign 13 = .ok (.ldc 64, 2) := by decide +kernel
theorem dX3_sign_15 : decode cX3_sign 15 = .ok (.invokespecial 66, 3) := by decide +kernel
theorem dX3_sign_18 : decode cX3_sign 18 = .ok (.athrow, 1) := by decide +kernel
theorem dX3_sign_19 : decode cX3_sign 19 = .ok (.aload_n 0, 1) := by decide +kernel
theorem dX3_sign_20 : decode cX3_sign 20 = .ok (.invokevirtual 52, 3) := by decide +kernel
theorem dX3_sign_23 : decode cX3_sign 23 = .ok (.aload_n 0, 1) := by decide +kernel
theorem dX3_sign_24 : decode cX3_sign 24 = .ok (.getfield 14, 3) := by decide +kernel
theorem dX3_sign_27 : decode cX3_sign 27 = .ok (.iload_n 1, 1) := by decide +kernel
theorem dX3_sign_28 : decode cX3_sign 28 = .ok (.invokevirtual 55, 3) := by decide +kernel
theorem dX3_sign_31 : decode cX3_sign 31 = .ok (.ireturn, 1) := by decide +kernel
theorem dX3_wipe_0 : decode cX3_wipe 0 = .ok (.aload_n 0, 1) := by decide +kernel
theorem dX3_wipe_1 : decode cX3_wipe 1 = .ok (.getfield 14, 3) := by decide +kernel
theorem dX3_wipe_4 : decode cX3_wipe 4 = .ok (.getfield 69, 3) := by decide +kernel
theorem dX3_wipe_7 : decode cX3_wipe 7 = .ok (.istore_n 1, 1) := by decide +kernel
theorem dX3_wipe_8 : decode cX3_wipe 8 = .ok (.aload_n 0, 1) := by decide +kernel
theorem dX3_wipe_9 : decode cX3_wipe 9 = .ok (.getfield 14, 3) := by decide +kernel
theorem dX3_wipe_12 : decode cX3_wipe 12 = .ok (.iconst 0, 1) := by decide +kernel
theorem dX3_wipe_13 : decode cX3_wipe 13 = .ok (.putfield 69, 3) := by decide +kernel
theorem dX3_wipe_16 : decode cX3_wipe 16 = .ok (.iload_n 1, 1) := by decide +kernel
theorem dX3_wipe_17 : decode cX3_wipe 17 = .ok (.ireturn, 1) := by decide +kernel
set_option maxRecDepth 20000 in
theorem ggX3_fault_X0_faultPlace : GoodIn wsX3_fault wsX0_faultPlace := goodIn_ca (goodIn_r _ [5, 6, 7, 17, 18] (by decide +kernel) (by decide +kernel)) (goodIn_sub (fun _ h => List.mem_cons_of_mem _ (List.mem_append_right _ h)) (by decide +kernel))
set_option maxRecDepth 20000 in
theorem gX3_fault_X0_faultPlace_n73 : GoodIn wsX3_fault (wsX0_faultPlace) := ggX3_fault_X0_faultPlace
theorem dX3_fault_0 : decode cX3_fault 0 = .ok (.aload_n 0, 1) := by decide +kernel
theorem dX3_fault_1 : decode cX3_fault 1 = .ok (.getfield 14, 3) := by decide +kernel
theorem dX3_fault_4 : decode cX3_fault 4 = .ok (.invokevirtual 73, 3) := by decide +kernel
theorem dX3_fault_7 : decode cX3_fault 7 = .ok (.ireturn, 1) := by decide +kernel
set_option maxRecDepth 20000 in
theorem ggX3_set_X3_requireCell : GoodIn wsX3_set wsX3_requireCell := goodIn_ca (goodIn_r _ [9, 10, 11] (by decide +kernel) (by decide +kernel)) (goodIn_sub (fun _ h => List.mem_cons_of_mem _ (List.mem_append_left _ (List.mem_append_left _ (List.mem_append_right _ h)))) (by decide +kernel))
set_option maxRecDepth 20000 in
theorem gX3_set_X3_requireCell : GoodIn wsX3_set (va_wsS RX3 59 yX3_requireCell wsX3_requireCell) := goodIn_app (goodIn_of _ (by decide +kernel)) ggX3_set_X3_requireCell
set_option maxRecDepth 20000 in
theorem ggX3_set_X0_faultPlace : GoodIn wsX3_set wsX0_faultPlace := goodIn_ca (goodIn_r _ [15, 16, 17, 137, 138] (by decide +kernel) (by decide +kernel)) (goodIn_sub (fun _ h => List.mem_cons_of_mem _ (List.mem_append_left _ (List.mem_append_right _ h))) (by decide +kernel))
set_option maxRecDepth 20000 in
theorem gX3_set_X0_faultPlace_n73 : GoodIn wsX3_set (wsX0_faultPlace) := ggX3_set_X0_faultPlace
set_option maxRecDepth 20000 in
theorem ggX3_set_X0_toFormula : GoodIn wsX3_set wsX0_toFormula := goodIn_ca (goodIn_r _ [20, 21, 22, 23, 17, 16, 24, 25, 26, 27, 28, 29, 30, 31, 32, 33, 34, 35, 36, 37, 38, 39, 40, 41, 42, 43, 44, 45, 46, 47, 48, 49, 50, 8, 51, 135, 136, 137, 138] (by decide +kernel) (by decide +kernel)) (goodIn_sub (fun _ h => List.mem_cons_of_mem _ (List.mem_append_left _ (List.mem_append_right _ h))) (by decide +kernel))
set_option maxRecDepth 20000 in
theorem gX3_set_X0_toFormula_n79 : GoodIn wsX3_set (wsX0_toFormula) := ggX3_set_X0_toFormula
set_option maxRecDepth 20000 in
theorem ggX3_set_X3_withDependencies : GoodIn wsX3_set wsX3_withDependencies := goodIn_r _ [55, 56, 57, 58, 8, 59, 60, 61, 62, 63, 126, 127, 128, 129, 130, 131, 132, 133, 134, 135, 136] (by decide +kernel) (by decide +kernel)
set_option maxRecDepth 20000 in
theorem gX3_set_X3_withDependencies : GoodIn wsX3_set (wsV RX3 86 RX3 yX3_withDependencies wsX3_withDependencies) := goodIn_app (goodIn_of _ (by decide +kernel)) ggX3_set_X3_withDependencies
set_option maxRecDepth 20000 in
theorem ggX3_set_X3_holds : GoodIn wsX3_set wsX3_holds := goodIn_r _ [63] (by decide +kernel) (by decide +kernel)
set_option maxRecDepth 20000 in
theorem gX3_set_X3_holds : GoodIn wsX3_set (va_wsS RX3 89 yX3_holds wsX3_holds) := goodIn_app (goodIn_of _ (by decide +kernel)) ggX3_set_X3_holds
set_option maxRecDepth 20000 in
theorem ggX3_set_X3_give : GoodIn wsX3_set wsX3_give := goodIn_ca (goodIn_ca (goodIn_r _ [67, 60, 68, 50, 8, 51, 69, 70, 71, 72, 73, 74, 75, 76, 77, 78, 79, 80, 81, 82, 83, 61, 62, 63, 84, 85, 86, 87, 88, 89, 90, 91, 23, 92, 93, 48, 94, 95, 96, 97, 98, 99, 100, 101, 102, 103, 104, 105, 37, 106, 107, 108, 109, 110, 111, 112, 113, 114, 115, 116, 117, 118, 119, 120, 121, 122, 123, 124, 125, 126, 127, 128, 129, 130, 131, 132, 133, 134, 135, 136, 139, 140, 141] (by decide +kernel) (by decide +kernel)) (goodIn_sub (fun _ h => List.mem_cons_of_mem _ (List.mem_append_left _ (List.mem_append_right _ h))) (by decide +kernel))) (goodIn_sub (fun _ h => List.mem_cons_of_mem _ (List.mem_append_right _ h)) (by decide +kernel))
set_option maxRecDepth 20000 in
theorem gX3_set_X3_give : GoodIn wsX3_set (wsV RX3 98 RX3 yX3_give wsX3_give) := goodIn_app (goodIn_of _ (by decide +kernel)) ggX3_set_X3_give
theorem dX3_set_0 : decode cX3_set 0 = .ok (.iload_n 1, 1) := by decide +kernel
theorem dX3_set_1 : decode cX3_set 1 = .ok (.invokestatic 59, 3) := by decide +kernel
theorem dX3_set_4 : decode cX3_set 4 = .ok (.aload_n 0, 1) := by decide +kernel
theorem dX3_set_5 : decode cX3_set 5 = .ok (.getfield 14, 3) := by decide +kernel
theorem dX3_set_8 : decode cX3_set 8 = .ok (.invokevirtual 73, 3) := by decide +kernel
theorem dX3_set_11 : decode cX3_set 11 = .ok (.iconst (-1), 1) := by decide +kernel
theorem dX3_set_12 : decode cX3_set 12 = .ok (.if_icmp .eq 13, 3) := by decide +kernel
theorem dX3_set_15 : decode cX3_set 15 = .ok (.new 62, 3) := by decide +kernel
theorem dX3_set_18 : decode cX3_set 18 = .ok (.dup, 1) := by decide +kernel
theorem dX3_set_19 : decode cX3_set 19 = .ok (.ldc 77, 2) := by decide +kernel
theorem dX3_set_21 : decode cX3_set 21 = .ok (.invokespecial 66, 3) := by decide +kernel
theorem dX3_set_24 : decode cX3_set 24 = .ok (.athrow, 1) := by decide +kernel
theorem dX3_set_25 : decode cX3_set 25 = .ok (.aload_n 0, 1) := by decide +kernel
theorem dX3_set_26 : decode cX3_set 26 = .ok (.getfield 14, 3) := by decide +kernel
theorem dX3_set_29 : decode cX3_set 29 = .ok (.invokevirtual 79, 3) := by decide +kernel
theorem dX3_set_32 : decode cX3_set 32 = .ok (.astore_n 2, 1) := by decide +kernel
theorem dX3_set_33 : decode cX3_set 33 = .ok (.aload_n 0, 1) := by decide +kernel
theorem dX3_set_34 : decode cX3_set 34 = .ok (.aload_n 2, 1) := by decide +kernel
theorem dX3_set_35 : decode cX3_set 35 = .ok (.getfield 83, 3) := by decide +kernel
theorem dX3_set_38 : decode cX3_set 38 = .ok (.invokevirtual 86, 3) := by decide +kernel
theorem dX3_set_41 : decode cX3_set 41 = .ok (.iload_n 1, 1) := by decide +kernel
theorem dX3_set_42 : decode cX3_set 42 = .ok (.invokestatic 89, 3) := by decide +kernel
theorem dX3_set_45 : decode cX3_set 45 = .ok (.ifCond .eq 13, 3) := by decide +kernel
theorem dX3_set_48 : decode cX3_set 48 = .ok (.new 93, 3) := by decide +kernel
theorem dX3_set_51 : decode cX3_set 51 = .ok (.dup, 1) := by decide +kernel
theorem dX3_set_52 : decode cX3_set 52 = .ok (.ldc 95, 2) := by decide +kernel
theorem dX3_set_54 : decode cX3_set 54 = .ok (.invokespecial 97, 3) := by decide +kernel
theorem dX3_set_57 : decode cX3_set 57 = .ok (.athrow, 1) := by decide +kernel
theorem dX3_set_58 : decode cX3_set 58 = .ok (.aload_n 0, 1) := by decide +kernel
theorem dX3_set_59 : decode cX3_set 59 = .ok (.getfield 14, 3) := by decide +kernel
theorem dX3_set_62 : decode cX3_set 62 = .ok (.iconst 0, 1) := by decide +kernel
theorem dX3_set_63 : decode cX3_set 63 = .ok (.putfield 69, 3) := by decide +kernel
theorem dX3_set_66 : decode cX3_set 66 = .ok (.aload_n 0, 1) := by decide +kernel
theorem dX3_set_67 : decode cX3_set 67 = .ok (.iload_n 1, 1) := by decide +kernel
theorem dX3_set_68 : decode cX3_set 68 = .ok (.aload_n 2, 1) := by decide +kernel
theorem dX3_set_69 : decode cX3_set 69 = .ok (.invokevirtual 98, 3) := by decide +kernel
theorem dX3_set_72 : decode cX3_set 72 = .ok (.ireturn, 1) := by decide +kernel
set_option maxRecDepth 20000 in
theorem ggX3_put_X3_requireCell : GoodIn wsX3_put wsX3_requireCell := goodIn_ca (goodIn_r _ [4, 5, 6] (by decide +kernel) (by decide +kernel)) (goodIn_sub (fun _ h => List.mem_cons_of_mem _ (List.mem_append_left _ (List.mem_append_left _ (List.mem_append_left _ (List.mem_append_right _ h))))) (by decide +kernel))
set_option maxRecDepth 20000 in
theorem gX3_put_X3_requireCell : GoodIn wsX3_put (va_wsS RX3 59 yX3_requireCell wsX3_requireCell) := goodIn_app (goodIn_of _ (by decide +kernel)) ggX3_put_X3_requireCell
set_option maxRecDepth 20000 in
theorem ggX3_put_X3_requireNumber : GoodIn wsX3_put wsX3_requireNumber := goodIn_ca (goodIn_r _ [9, 10, 11, 12] (by decide +kernel) (by decide +kernel)) (goodIn_sub (fun _ h => List.mem_cons_of_mem _ (List.mem_append_left _ (List.mem_append_left _ (List.mem_append_right _ h)))) (by decide +kernel))
set_option maxRecDepth 20000 in
theorem gX3_put_X3_requireNumber : GoodIn wsX3_put (va_wsS RX3 48 yX3_requireNumber wsX3_requireNumber) := goodIn_app (goodIn_of _ (by decide +kernel)) ggX3_put_X3_requireNumber
set_option maxRecDepth 20000 in
theorem ggX3_put_X3_loneNumber : GoodIn wsX3_put wsX3_loneNumber := goodIn_ca (goodIn_r _ [15, 16, 17, 18, 19, 20, 21, 22, 23, 24, 25, 26, 27, 3, 28, 96, 97] (by decide +kernel) (by decide +kernel)) (goodIn_sub (fun _ h => List.mem_cons_of_mem _ (List.mem_append_left _ (List.mem_append_right _ h))) (by decide +kernel))
set_option maxRecDepth 20000 in
theorem gX3_put_X3_loneNumber : GoodIn wsX3_put (va_wsS RX3 102 yX3_loneNumber wsX3_loneNumber) := goodIn_app (goodIn_of _ (by decide +kernel)) ggX3_put_X3_loneNumber
set_option maxRecDepth 20000 in
theorem ggX3_put_X3_give : GoodIn wsX3_put wsX3_give := goodIn_ca (goodIn_ca (goodIn_r _ [32, 33, 34, 27, 3, 28, 35, 36, 37, 38, 39, 40, 41, 42, 43, 44, 45, 46, 47, 48, 49, 50, 51, 52, 53, 54, 55, 56, 57, 58, 59, 60, 19, 61, 62, 25, 63, 64, 65, 66, 67, 68, 69, 70, 71, 72, 73, 74, 75, 76, 77, 78, 79, 80, 81, 82, 83, 84, 85, 86, 87, 88, 89, 90, 91, 92, 93, 94, 95, 98, 99, 100, 101, 102, 103, 104, 105, 106, 96, 97, 107, 108, 109] (by decide +kernel) (by decide +kernel)) (goodIn_sub (fun _ h => List.mem_cons_of_mem _ (List.mem_append_left _ (List.mem_append_right _ h))) (by decide +kernel))) (goodIn_sub (fun _ h => List.mem_cons_of_mem _ (List.mem_append_right _ h)) (by decide +kernel))
set_option maxRecDepth 20000 in
theorem gX3_put_X3_give : GoodIn wsX3_put (wsV RX3 98 RX3 yX3_give wsX3_give) := goodIn_app (goodIn_of _ (by decide +kernel)) ggX3_put_X3_give
theorem dX3_put_0 : decode cX3_put 0 = .ok (.iload_n 1, 1) := by decide +kernel
theorem dX3_put_1 : decode cX3_put 1 = .ok (.invokestatic 59, 3) := by decide +kernel
theorem dX3_put_4 : decode cX3_put 4 = .ok (.iload_n 2, 1) := by decide +kernel
theorem dX3_put_5 : decode cX3_put 5 = .ok (.invokestatic 48, 3) := by decide +kernel
theorem dX3_put_8 : decode cX3_put 8 = .ok (.aload_n 0, 1) := by decide +kernel
theorem dX3_put_9 : decode cX3_put 9 = .ok (.iload_n 1, 1) := by decide +kernel
theorem dX3_put_10 : decode cX3_put 10 = .ok (.iload_n 2, 1) := by decide +kernel
theorem dX3_put_11 : decode cX3_put 11 = .ok (.invokestatic 102, 3) := by decide +kernel
theorem dX3_put_14 : decode cX3_put 14 = .ok (.invokevirtual 98, 3) := by decide +kernel
theorem dX3_put_17 : decode cX3_put 17 = .ok (.ireturn, 1) := by decide +kernel
set_option maxRecDepth 20000 in
theorem ggX3_clear_X3_requireCell : GoodIn wsX3_clear wsX3_requireCell := goodIn_ca (goodIn_r _ [6, 7, 8] (by decide +kernel) (by decide +kernel)) (goodIn_sub (fun _ h => List.mem_cons_of_mem _ (List.mem_append_left _ (List.mem_append_left _ (List.mem_append_right _ h)))) (by decide +kernel))
set_option maxRecDepth 20000 in
theorem gX3_clear_X3_requireCell : GoodIn wsX3_clear (va_wsS RX3 59 yX3_requireCell wsX3_requireCell) := goodIn_app (goodIn_of _ (by decide +kernel)) ggX3_clear_X3_requireCell
set_option maxRecDepth 20000 in
theorem ggX3_clear_X1_isEmpty : GoodIn wsX3_clear wsX1_isEmpty := goodIn_r _ [12, 13, 88, 89] (by decide +kernel) (by decide +kernel)
set_option maxRecDepth 20000 in
theorem gX3_clear_X1_isEmpty_n106 : GoodIn wsX3_clear (wsX1_isEmpty) := ggX3_clear_X1_isEmpty
set_option maxRecDepth 20000 in
theorem ggX3_clear_X3_give : GoodIn wsX3_clear wsX3_give := goodIn_ca (goodIn_ca (goodIn_r _ [17, 1, 18, 19, 5, 20, 21, 22, 23, 24, 25, 26, 27, 28, 29, 30, 31, 32, 33, 34, 35, 36, 37, 38, 39, 40, 41, 42, 43, 44, 45, 9, 10, 11, 12, 13, 46, 47, 48, 49, 50, 51, 52, 53, 54, 55, 56, 57, 58, 59, 60, 61, 62, 63, 64, 65, 66, 67, 68, 69, 70, 71, 72, 73, 74, 75, 76, 77, 78, 79, 80, 81, 82, 83, 84, 85, 86, 87, 88, 89, 90, 91, 92] (by decide +kernel) (by decide +kernel)) (goodIn_sub (fun _ h => List.mem_cons_of_mem _ (List.mem_append_left _ (List.mem_append_right _ h))) (by decide +kernel))) (goodIn_sub (fun _ h => List.mem_cons_of_mem _ (List.mem_append_right _ h)) (by decide +kernel))
set_option maxRecDepth 20000 in
theorem gX3_clear_X3_give : GoodIn wsX3_clear (wsV RX3 98 RX3 yX3_give wsX3_give) := goodIn_app (goodIn_of _ (by decide +kernel)) ggX3_clear_X3_give
theorem dX3_clear_0 : decode cX3_clear 0 = .ok (.iload_n 1, 1) := by decide +kernel
theorem dX3_clear_1 : decode cX3_clear 1 = .ok (.invokestatic 59, 3) := by decide +kernel
theorem dX3_clear_4 : decode cX3_clear 4 = .ok (.aload_n 0, 1) := by decide +kernel
theorem dX3_clear_5 : decode cX3_clear 5 = .ok (.getfield 34, 3) := by decide +kernel
theorem dX3_clear_8 : decode cX3_clear 8 = .ok (.iload_n 1, 1) := by decide +kernel
theorem dX3_clear_9 : decode cX3_clear 9 = .ok (.aaload, 1) := by decide +kernel
theorem dX3_clear_10 : decode cX3_clear 10 = .ok (.invokevirtual 106, 3) := by decide +kernel
theorem dX3_clear_13 : decode cX3_clear 13 = .ok (.ifCond .eq 7, 3) := by decide +kernel
theorem dX3_clear_16 : decode cX3_clear 16 = .ok (.iconst 0, 1) := by decide +kernel
theorem dX3_clear_17 : decode cX3_clear 17 = .ok (.goto 12, 3) := by decide +kernel
theorem dX3_clear_20 : decode cX3_clear 20 = .ok (.aload_n 0, 1) := by decide +kernel
theorem dX3_clear_21 : decode cX3_clear 21 = .ok (.iload_n 1, 1) := by decide +kernel
theorem dX3_clear_22 : decode cX3_clear 22 = .ok (.aload_n 0, 1) := by decide +kernel
theorem dX3_clear_23 : decode cX3_clear 23 = .ok (.getfield 30, 3) := by decide +kernel
theorem dX3_clear_26 : decode cX3_clear 26 = .ok (.invokevirtual 98, 3) := by decide +kernel
theorem dX3_clear_29 : decode cX3_clear 29 = .ok (.ireturn, 1) := by decide +kernel
theorem dX3_open_0 : decode cX3_open 0 = .ok (.aload_n 0, 1) := by decide +kernel
theorem dX3_open_1 : decode cX3_open 1 = .ok (.getfield 110, 3) := by decide +kernel
theorem dX3_open_4 : decode cX3_open 4 = .ok (.iconst 4, 1) := by decide +kernel
theorem dX3_open_5 : decode cX3_open 5 = .ok (.if_icmp .lt 13, 3) := by decide +kernel
theorem dX3_open_8 : decode cX3_open 8 = .ok (.new 93, 3) := by decide +kernel
theorem dX3_open_11 : decode cX3_open 11 = .ok (.dup, 1) := by decide +kernel
theorem dX3_open_12 : decode cX3_open 12 = .ok (.ldc 113, 2) := by decide +kernel
theorem dX3_open_14 : decode cX3_open 14 = .ok (.invokespecial 97, 3) := by decide +kernel
theorem dX3_open_17 : decode cX3_open 17 = .ok (.athrow, 1) := by decide +kernel
theorem dX3_open_18 : decode cX3_open 18 = .ok (.aload_n 0, 1) := by decide +kernel
theorem dX3_open_19 : decode cX3_open 19 = .ok (.getfield 110, 3) := by decide +kernel
theorem dX3_open_22 : decode cX3_open 22 = .ok (.bipush 30, 2) := by decide +kernel
theorem dX3_open_24 : decode cX3_open 24 = .ok (.imul, 1) := by decide +kernel
theorem dX3_open_25 : decode cX3_open 25 = .ok (.istore_n 1, 1) := by decide +kernel
theorem dX3_open_26 : decode cX3_open 26 = .ok (.iconst 0, 1) := by decide +kernel
theorem dX3_open_27 : decode cX3_open 27 = .ok (.istore_n 2, 1) := by decide +kernel
theorem dX3_open_28 : decode cX3_open 28 = .ok (.iload_n 2, 1) := by decide +kernel
theorem dX3_open_29 : decode cX3_open 29 = .ok (.bipush 30, 2) := by decide +kernel
theorem dX3_open_31 : decode cX3_open 31 = .ok (.if_icmp .ge 23, 3) := by decide +kernel
theorem dX3_open_34 : decode cX3_open 34 = .ok (.aload_n 0, 1) := by decide +kernel
theorem dX3_open_35 : decode cX3_open 35 = .ok (.getfield 38, 3) := by decide +kernel
theorem dX3_open_38 : decode cX3_open 38 = .ok (.iload_n 1, 1) := by decide +kernel
theorem dX3_open_39 : decode cX3_open 39 = .ok (.iload_n 2, 1) := by decide +kernel
theorem dX3_open_40 : decode cX3_open 40 = .ok (.iadd, 1) := by decide +kernel
theorem dX3_open_41 : decode cX3_open 41 = .ok (.aload_n 0, 1) := by decide +kernel
theorem dX3_open_42 : decode cX3_open 42 = .ok (.getfield 34, 3) := by decide +kernel
theorem dX3_open_45 : decode cX3_open 45 = .ok (.iload_n 2, 1) := by decide +kernel
theorem dX3_open_46 : decode cX3_open 46 = .ok (.aaload, 1) := by decide +kernel
theorem dX3_open_47 : decode cX3_open 47 = .ok (.aastore, 1) := by decide +kernel
theorem dX3_open_48 : decode cX3_open 48 = .ok (.iinc 2 1, 3) := by decide +kernel
theorem dX3_open_51 : decode cX3_open 51 = .ok (.goto (-23), 3) := by decide +kernel
theorem dX3_open_54 : decode cX3_open 54 = .ok (.aload_n 0, 1) := by decide +kernel
theorem dX3_open_55 : decode cX3_open 55 = .ok (.dup, 1) := by decide +kernel
theorem dX3_open_56 : decode cX3_open 56 = .ok (.getfield 110, 3) := by decide +kernel
theorem dX3_open_59 : decode cX3_open 59 = .ok (.iconst 1, 1) := by decide +kernel
theorem dX3_open_60 : decode cX3_open 60 = .ok (.iadd, 1) := by decide +kernel
theorem dX3_open_61 : decode cX3_open 61 = .ok (.putfield 110, 3) := by decide +kernel
theorem dX3_open_64 : decode cX3_open 64 = .ok (.aload_n 0, 1) := by decide +kernel
theorem dX3_open_65 : decode cX3_open 65 = .ok (.getfield 110, 3) := by decide +kernel
theorem dX3_open_68 : decode cX3_open 68 = .ok (.ireturn, 1) := by decide +kernel
set_option maxRecDepth 20000 in
theorem ggX3_drop_X3_requireLayer : GoodIn wsX3_drop wsX3_requireLayer := goodIn_ca (goodIn_r _ [8, 9, 10, 1, 80, 81, 82, 83, 84, 85, 86, 87, 88] (by decide +kernel) (by decide +kernel)) (goodIn_sub (fun _ h => List.mem_cons_of_mem _ (List.mem_append_left _ (List.mem_append_left _ (List.mem_append_right _ h)))) (by decide +kernel))
set_option maxRecDepth 20000 in
theorem gX3_drop_X3_requireLayer : GoodIn wsX3_drop (wsV RX3 115 RX3 yX3_requireLayer wsX3_requireLayer) := goodIn_app (goodIn_of _ (by decide +kernel)) ggX3_drop_X3_requireLayer
set_option maxRecDepth 20000 in
theorem ggX3_drop_X1_sameAs : GoodIn wsX3_drop wsX1_sameAs := goodIn_ca (goodIn_r _ [14, 15, 89, 90] (by decide +kernel) (by decide +kernel)) (goodIn_sub (fun _ h => List.mem_cons_of_mem _ (List.mem_append_left _ (List.mem_append_right _ h))) (by decide +kernel))
set_option maxRecDepth 20000 in
theorem gX3_drop_X1_sameAs_n118 : GoodIn wsX3_drop (wsX1_sameAs) := ggX3_drop_X1_sameAs
set_option maxRecDepth 20000 in
theorem ggX3_drop_X3_only : GoodIn wsX3_drop wsX3_only := goodIn_r _ [18] (by decide +kernel) (by decide +kernel)
set_option maxRecDepth 20000 in
theorem gX3_drop_X3_only : GoodIn wsX3_drop (va_wsS RX3 122 yX3_only wsX3_only) := goodIn_app (goodIn_of _ (by decide +kernel)) ggX3_drop_X3_only
set_option maxRecDepth 20000 in
theorem ggX3_drop_X3_findAnew : GoodIn wsX3_drop wsX3_findAnew := goodIn_ca (goodIn_ca (goodIn_r _ [22, 23, 24, 25, 26, 27, 7, 28, 3, 16, 17, 18, 29, 30, 31, 32, 33, 34, 35, 36, 37, 38, 39, 40, 41, 42, 43, 44, 12, 45, 46, 15, 47, 48, 49, 50, 51, 52, 53, 54, 55, 56, 57, 58, 59, 60, 61, 62, 63, 64, 65, 66, 67, 68, 69, 70, 71, 72, 73, 74, 75, 76, 77, 78, 79, 80, 81, 82, 83, 84, 85, 86, 87, 88, 89, 90, 91, 92, 93] (by decide +kernel) (by decide +kernel)) (goodIn_sub (fun _ h => List.mem_cons_of_mem _ (List.mem_append_left _ (List.mem_append_right _ h))) (by decide +kernel))) (goodIn_sub (fun _ h => List.mem_cons_of_mem _ (List.mem_append_right _ h)) (by decide +kernel))
set_option maxRecDepth 20000 in
theorem gX3_drop_X3_findAnew : GoodIn wsX3_drop (wsV RX3 125 RX3 yX3_findAnew wsX3_findAnew) := goodIn_app (goodIn_of _ (by decide +kernel)) ggX3_drop_X3_findAnew
set_option maxRecDepth 20000 in
theorem ggX3_drop_J6_bitCount_0f7a4 : GoodIn wsX3_drop wsJ6_bitCount_0f7a4 := goodIn_r _ [76, 77, 78, 79] (by decide +kernel) (by decide +kernel)
set_option maxRecDepth 20000 in
theorem gX3_drop_J6_bitCount_0f7a4 : GoodIn wsX3_drop (va_wsS RX3 128 yJ6_bitCount_0f7a4 wsJ6_bitCount_0f7a4) := goodIn_app (goodIn_of _ (by decide +kernel)) ggX3_drop_J6_bitCount_0f7a4
theorem dX3_drop_0 : decode cX3_drop 0 = .ok (.aload_n 0, 1) := by decide +kernel
theorem dX3_drop_1 : decode cX3_drop 1 = .ok (.invokevirtual 115, 3) := by decide +kernel
theorem dX3_drop_4 : decode cX3_drop 4 = .ok (.aload_n 0, 1) := by decide +kernel
theorem dX3_drop_5 : decode cX3_drop 5 = .ok (.dup, 1) := by decide +kernel
theorem dX3_drop_6 : decode cX3_drop 6 = .ok (.getfield 110, 3) := by decide +kernel
theorem dX3_drop_9 : decode cX3_drop 9 = .ok (.iconst 1, 1) := by decide +kernel
theorem dX3_drop_10 : decode cX3_drop 10 = .ok (.isub, 1) := by decide +kernel
theorem dX3_drop_11 : decode cX3_drop 11 = .ok (.putfield 110, 3) := by decide +kernel
theorem dX3_drop_14 : decode cX3_drop 14 = .ok (.aload_n 0, 1) := by decide +kernel
theorem dX3_drop_15 : decode cX3_drop 15 = .ok (.getfield 110, 3) := by decide +kernel
theorem dX3_drop_18 : decode cX3_drop 18 = .ok (.bipush 30, 2) := by decide +kernel
theorem dX3_drop_20 : decode cX3_drop 20 = .ok (.imul, 1) := by decide +kernel
theorem dX3_drop_21 : decode cX3_drop 21 = .ok (.istore_n 1, 1) := by decide +kernel
theorem dX3_drop_22 : decode cX3_drop 22 = .ok (.iconst 0, 1) := by decide +kernel
theorem dX3_drop_23 : decode cX3_drop 23 = .ok (.istore_n 2, 1) := by decide +kernel
theorem dX3_drop_24 : decode cX3_drop 24 = .ok (.iconst 0, 1) := by decide +kernel
theorem dX3_drop_25 : decode cX3_drop 25 = .ok (.istore_n 3, 1) := by decide +kernel
theorem dX3_drop_26 : decode cX3_drop 26 = .ok (.iload_n 3, 1) := by decide +kernel
theorem dX3_drop_27 : decode cX3_drop 27 = .ok (.bipush 30, 2) := by decide +kernel
theorem dX3_drop_29 : decode cX3_drop 29 = .ok (.if_icmp .ge 48, 3) := by decide +kernel
theorem dX3_drop_32 : decode cX3_drop 32 = .ok (.aload_n 0, 1) := by decide +kernel
theorem dX3_drop_33 : decode cX3_drop 33 = .ok (.getfield 38, 3) := by decide +kernel
theorem dX3_drop_36 : decode cX3_drop 36 = .ok (.iload_n 1, 1) := by decide +kernel
theorem dX3_drop_37 : decode cX3_drop 37 = .ok (.iload_n 3, 1) := by decide +kernel
theorem dX3_drop_38 : decode cX3_drop 38 = .ok (.iadd, 1) := by decide +kernel
theorem dX3_drop_39 : decode cX3_drop 39 = .ok (.aaload, 1) := by decide +kernel
theorem dX3_drop_40 : decode cX3_drop 40 = .ok (.astore 4, 2) := by decide +kernel
theorem dX3_drop_42 : decode cX3_drop 42 = .ok (.aload 4, 2) := by decide +kernel
theorem dX3_drop_44 : decode cX3_drop 44 = .ok (.aload_n 0, 1) := by decide +kernel
theorem dX3_drop_45 : decode cX3_drop 45 = .ok (.getfield 34, 3) := by decide +kernel
theorem dX3_drop_48 : decode cX3_drop 48 = .ok (.iload_n 3, 1) := by decide +kernel
theorem dX3_drop_49 : decode cX3_drop 49 = .ok (.aaload, 1) := by decide +kernel
theorem dX3_drop_50 : decode cX3_drop 50 = .ok (.invokevirtual 118, 3) := by decide +kernel
theorem dX3_drop_53 : decode cX3_drop 53 = .ok (.ifCond .ne 10, 3) := by decide +kernel
theorem dX3_drop_56 : decode cX3_drop 56 = .ok (.iload_n 2, 1) := by decide +kernel
theorem dX3_drop_57 : decode cX3_drop 57 = .ok (.iload_n 3, 1) := by decide +kernel
theorem dX3_drop_58 : decode cX3_drop 58 = .ok (.invokestatic 122, 3) := by decide +kernel
theorem dX3_drop_61 : decode cX3_drop 61 = .ok (.ior, 1) := by decide +kernel
theorem dX3_drop_62 : decode cX3_drop 62 = .ok (.istore_n 2, 1) := by decide +kernel
theorem dX3_drop_63 : decode cX3_drop 63 = .ok (.aload_n 0, 1) := by decide +kernel
theorem dX3_drop_64 : decode cX3_drop 64 = .ok (.getfield 34, 3) := by decide +kernel
theorem dX3_drop_67 : decode cX3_drop 67 = .ok (.iload_n 3, 1) := by decide +kernel
theorem dX3_drop_68 : decode cX3_drop 68 = .ok (.aload 4, 2) := by decide +kernel
theorem dX3_drop_70 : decode cX3_drop 70 = .ok (.aastore, 1) := by decide +kernel
theorem dX3_drop_71 : decode cX3_drop 71 = .ok (.iinc 3 1, 3) := by decide +kernel
theorem dX3_drop_74 : decode cX3_drop 74 = .ok (.goto (-48), 3) := by decide +kernel
theorem dX3_drop_77 : decode cX3_drop 77 = .ok (.aload_n 0, 1) := by decide +kernel
theorem dX3_drop_78 : decode cX3_drop 78 = .ok (.iload_n 2, 1) := by decide +kernel
theorem dX3_drop_79 : decode cX3_drop 79 = .ok (.invokevirtual 125, 3) := by decide +kernel
theorem dX3_drop_82 : decode cX3_drop 82 = .ok (.pop, 1) := by decide +kernel
theorem dX3_drop_83 : decode cX3_drop 83 = .ok (.iload_n 2, 1) := by decide +kernel
theorem dX3_drop_84 : decode cX3_drop 84 = .ok (.invokestatic 128, 3) := by decide +kernel
theorem dX3_drop_87 : decode cX3_drop 87 = .ok (.ireturn, 1) := by decide +kernel
set_option maxRecDepth 20000 in
theorem ggX3_keep_X3_requireLayer : GoodIn wsX3_keep wsX3_requireLayer := goodIn_ca (goodIn_r _ [6, 7, 8, 1, 9, 10, 11, 12, 13, 14, 15, 16, 17] (by decide +kernel) (by decide +kernel)) (goodIn_sub (fun _ h => List.mem_cons_of_mem _ (List.mem_append_right _ h)) (by decide +kernel))
set_option maxRecDepth 20000 in
theorem gX3_keep_X3_requireLayer : GoodIn wsX3_keep (wsV RX3 115 RX3 yX3_requireLayer wsX3_requireLayer) := goodIn_app (goodIn_of _ (by decide +kernel)) ggX3_keep_X3_requireLayer
theorem dX3_keep_0 : decode cX3_keep 0 = .ok (.aload_n 0, 1) := by decide +kernel
theorem dX3_keep_1 : decode cX3_keep 1 = .ok (.invokevirtual 115, 3) := by decide +kernel
theorem dX3_keep_4 : decode cX3_keep 4 = .ok (.aload_n 0, 1) := by decide +kernel
theorem dX3_keep_5 : decode cX3_keep 5 = .ok (.dup, 1) := by decide +kernel
theorem dX3_keep_6 : decode cX3_keep 6 = .ok (.getfield 110, 3) := by decide +kernel
theorem dX3_keep_9 : decode cX3_keep 9 = .ok (.iconst 1, 1) := by decide +kernel
theorem dX3_keep_10 : decode cX3_keep 10 = .ok (.isub, 1) := by decide +kernel
theorem dX3_keep_11 : decode cX3_keep 11 = .ok (.putfield 110, 3) := by decide +kernel
theorem dX3_keep_14 : decode cX3_keep 14 = .ok (.aload_n 0, 1) := by decide +kernel
theorem dX3_keep_15 : decode cX3_keep 15 = .ok (.getfield 110, 3) := by decide +kernel
theorem dX3_keep_18 : decode cX3_keep 18 = .ok (.ireturn, 1) := by decide +kernel
theorem dX3_layers_0 : decode cX3_layers 0 = .ok (.aload_n 0, 1) := by decide +kernel
theorem dX3_layers_1 : decode cX3_layers 1 = .ok (.getfield 110, 3) := by decide +kernel
theorem dX3_layers_4 : decode cX3_layers 4 = .ok (.ireturn, 1) := by decide +kernel
theorem dX3_drafted_0 : decode cX3_drafted 0 = .ok (.aload_n 0, 1) := by decide +kernel
theorem dX3_drafted_1 : decode cX3_drafted 1 = .ok (.getfield 14, 3) := by decide +kernel
theorem dX3_drafted_4 : decode cX3_drafted 4 = .ok (.getfield 69, 3) := by decide +kernel
theorem dX3_drafted_7 : decode cX3_drafted 7 = .ok (.ireturn, 1) := by decide +kernel
set_option maxRecDepth 20000 in
theorem ggX3_value_X3_requireCell : GoodIn wsX3_value wsX3_requireCell := goodIn_ca (goodIn_r _ [5, 6, 7] (by decide +kernel) (by decide +kernel)) (goodIn_sub (fun _ h => List.mem_cons_of_mem _ (List.mem_append_left _ (List.mem_append_right _ h))) (by decide +kernel))
set_option maxRecDepth 20000 in
theorem gX3_value_X3_requireCell : GoodIn wsX3_value (va_wsS RX3 59 yX3_requireCell wsX3_requireCell) := goodIn_app (goodIn_of _ (by decide +kernel)) ggX3_value_X3_requireCell
set_option maxRecDepth 20000 in
theorem ggX3_value_X3_requireValue : GoodIn wsX3_value wsX3_requireValue := goodIn_ca (goodIn_r _ [10, 11, 12, 13] (by decide +kernel) (by decide +kernel)) (goodIn_sub (fun _ h => List.mem_cons_of_mem _ (List.mem_append_right _ h)) (by decide +kernel))
set_option maxRecDepth 20000 in
theorem gX3_value_X3_requireValue : GoodIn wsX3_value (va_wsS RX3 133 yX3_requireValue wsX3_requireValue) := goodIn_app (goodIn_of _ (by decide +kernel)) ggX3_value_X3_requireValue
theorem dX3_value_0 : decode cX3_value 0 = .ok (.iload_n 1, 1) := by decide +kernel
theorem dX3_value_1 : decode cX3_value 1 = .ok (.invokestatic 59, 3) := by decide +kernel
theorem dX3_value_4 : decode cX3_value 4 = .ok (.aload_n 0, 1) := by decide +kernel
theorem dX3_value_5 : decode cX3_value 5 = .ok (.getfield 41, 3) := by decide +kernel
theorem dX3_value_8 : decode cX3_value 8 = .ok (.iload_n 1, 1) := by decide +kernel
theorem dX3_value_9 : decode cX3_value 9 = .ok (.laload, 1) := by decide +kernel
theorem dX3_value_10 : decode cX3_value 10 = .ok (.invokestatic 133, 3) := by decide +kernel
theorem dX3_value_13 : decode cX3_value 13 = .ok (.aload_n 0, 1) := by decide +kernel
theorem dX3_value_14 : decode cX3_value 14 = .ok (.getfield 41, 3) := by decide +kernel
theorem dX3_value_17 : decode cX3_value 17 = .ok (.iload_n 1, 1) := by decide +kernel
theorem dX3_value_18 : decode cX3_value 18 = .ok (.laload, 1) := by decide +kernel
theorem dX3_value_19 : decode cX3_value 19 = .ok (.lreturn, 1) := by decide +kernel
set_option maxRecDepth 20000 in
theorem ggX3_valueAnew_X3_requireCell : GoodIn wsX3_valueAnew wsX3_requireCell := goodIn_ca (goodIn_r _ [5, 6, 7] (by decide +kernel) (by decide +kernel)) (goodIn_sub (fun _ h => List.mem_cons_of_mem _ (List.mem_append_left _ (List.mem_append_left _ (List.mem_append_right _ h)))) (by decide +kernel))
set_option maxRecDepth 20000 in
theorem gX3_valueAnew_X3_requireCell : GoodIn wsX3_valueAnew (va_wsS RX3 59 yX3_requireCell wsX3_requireCell) := goodIn_app (goodIn_of _ (by decide +kernel)) ggX3_valueAnew_X3_requireCell
set_option maxRecDepth 20000 in
theorem ggX3_valueAnew_X3_only : GoodIn wsX3_valueAnew wsX3_only := goodIn_r _ [10] (by decide +kernel) (by decide +kernel)
set_option maxRecDepth 20000 in
theorem gX3_valueAnew_X3_only : GoodIn wsX3_valueAnew (va_wsS RX3 122 yX3_only wsX3_only) := goodIn_app (goodIn_of _ (by decide +kernel)) ggX3_valueAnew_X3_only
set_option maxRecDepth 20000 in
theorem ggX3_valueAnew_X3_withDependencies : GoodIn wsX3_valueAnew wsX3_withDependencies := goodIn_r _ [14, 15, 16, 17, 4, 18, 19, 20, 21, 22, 72, 73, 74, 75, 76, 77, 78, 79, 80, 81, 82] (by decide +kernel) (by decide +kernel)
set_option maxRecDepth 20000 in
theorem gX3_valueAnew_X3_withDependencies : GoodIn wsX3_valueAnew (wsV RX3 86 RX3 yX3_withDependencies wsX3_withDependencies) := goodIn_app (goodIn_of _ (by decide +kernel)) ggX3_valueAnew_X3_withDependencies
set_option maxRecDepth 20000 in
theorem ggX3_valueAnew_X3_workOut : GoodIn wsX3_valueAnew wsX3_workOut := goodIn_ca (goodIn_ca (goodIn_r _ [26, 19, 27, 20, 21, 4, 22, 28, 29, 30, 31, 32, 33, 34, 35, 36, 37, 38, 39, 40, 41, 42, 43, 44, 45, 46, 47, 48, 49, 50, 51, 52, 53, 54, 55, 56, 57, 58, 59, 60, 61, 62, 63, 64, 65, 8, 9, 10, 72, 73, 74, 75, 76, 77, 78, 79, 80, 81, 82, 83, 84, 85] (by decide +kernel) (by decide +kernel)) (goodIn_sub (fun _ h => List.mem_cons_of_mem _ (List.mem_append_left _ (List.mem_append_left _ (List.mem_append_left _ (List.mem_append_right _ h))))) (by decide +kernel))) (goodIn_sub (fun _ h => List.mem_cons_of_mem _ (List.mem_append_left _ (List.mem_append_right _ h))) (by decide +kernel))
set_option maxRecDepth 20000 in
theorem gX3_valueAnew_X3_workOut : GoodIn wsX3_valueAnew (wsV RX3 137 RX3 yX3_workOut wsX3_workOut) := goodIn_app (goodIn_of _ (by decide +kernel)) ggX3_valueAnew_X3_workOut
set_option maxRecDepth 20000 in
theorem ggX3_valueAnew_X3_requireValue : GoodIn wsX3_valueAnew wsX3_requireValue := goodIn_ca (goodIn_r _ [68, 69, 70, 71] (by decide +kernel) (by decide +kernel)) (goodIn_sub (fun _ h => List.mem_cons_of_mem _ (List.mem_append_right _ h)) (by decide +kernel))
set_option maxRecDepth 20000 in
theorem gX3_valueAnew_X3_requireValue : GoodIn wsX3_valueAnew (va_wsS RX3 133 yX3_requireValue wsX3_requireValue) := goodIn_app (goodIn_of _ (by decide +kernel)) ggX3_valueAnew_X3_requireValue
theorem dX3_valueAnew_0 : decode cX3_valueAnew 0 = .ok (.iload_n 1, 1) := by decide +kernel
theorem dX3_valueAnew_1 : decode cX3_valueAnew 1 = .ok (.invokestatic 59, 3) := by decide +kernel
theorem dX3_valueAnew_4 : decode cX3_valueAnew 4 = .ok (.aload_n 0, 1) := by decide +kernel
theorem dX3_valueAnew_5 : decode cX3_valueAnew 5 = .ok (.aload_n 0, 1) := by decide +kernel
theorem dX3_valueAnew_6 : decode cX3_valueAnew 6 = .ok (.iload_n 1, 1) := by decide +kernel
theorem dX3_valueAnew_7 : decode cX3_valueAnew 7 = .ok (.invokestatic 122, 3) := by decide +kernel
theorem dX3_valueAnew_10 : decode cX3_valueAnew 10 = .ok (.invokevirtual 86, 3) := by decide +kernel
theorem dX3_valueAnew_13 : decode cX3_valueAnew 13 = .ok (.aload_n 0, 1) := by decide +kernel
theorem dX3_valueAnew_14 : decode cX3_valueAnew 14 = .ok (.getfield 45, 3) := by decide +kernel
theorem dX3_valueAnew_17 : decode cX3_valueAnew 17 = .ok (.invokevirtual 137, 3) := by decide +kernel
theorem dX3_valueAnew_20 : decode cX3_valueAnew 20 = .ok (.aload_n 0, 1) := by decide +kernel
theorem dX3_valueAnew_21 : decode cX3_valueAnew 21 = .ok (.getfield 45, 3) := by decide +kernel
theorem dX3_valueAnew_24 : decode cX3_valueAnew 24 = .ok (.iload_n 1, 1) := by decide +kernel
theorem dX3_valueAnew_25 : decode cX3_valueAnew 25 = .ok (.laload, 1) := by decide +kernel
theorem dX3_valueAnew_26 : decode cX3_valueAnew 26 = .ok (.invokestatic 133, 3) := by decide +kernel
theorem dX3_valueAnew_29 : decode cX3_valueAnew 29 = .ok (.aload_n 0, 1) := by decide +kernel
theorem dX3_valueAnew_30 : decode cX3_valueAnew 30 = .ok (.getfield 45, 3) := by decide +kernel
theorem dX3_valueAnew_33 : decode cX3_valueAnew 33 = .ok (.iload_n 1, 1) := by decide +kernel
theorem dX3_valueAnew_34 : decode cX3_valueAnew 34 = .ok (.laload, 1) := by decide +kernel
theorem dX3_valueAnew_35 : decode cX3_valueAnew 35 = .ok (.lreturn, 1) := by decide +kernel
set_option maxRecDepth 20000 in
theorem ggX3_signs_X3_requireCell : GoodIn wsX3_signs wsX3_requireCell := goodIn_ca (goodIn_r _ [5, 6, 7] (by decide +kernel) (by decide +kernel)) (goodIn_sub (fun _ h => List.mem_cons_of_mem _ (List.mem_append_right _ h)) (by decide +kernel))
set_option maxRecDepth 20000 in
theorem gX3_signs_X3_requireCell : GoodIn wsX3_signs (va_wsS RX3 59 yX3_requireCell wsX3_requireCell) := goodIn_app (goodIn_of _ (by decide +kernel)) ggX3_signs_X3_requireCell
theorem dX3_signs_0 : decode cX3_signs 0 = .ok (.iload_n 1, 1) := by decide +kernel
theorem dX3_signs_1 : decode cX3_signs 1 = .ok (.invokestatic 59, 3) := by decide +kernel
theorem dX3_signs_4 : decode cX3_signs 4 = .ok (.aload_n 0, 1) := by decide +kernel
theorem dX3_signs_5 : decode cX3_signs 5 = .ok (.getfield 34, 3) := by decide +kernel
theorem dX3_signs_8 : decode cX3_signs 8 = .ok (.iload_n 1, 1) := by decide +kernel
theorem dX3_signs_9 : decode cX3_signs 9 = .ok (.aaload, 1) := by decide +kernel
theorem dX3_signs_10 : decode cX3_signs 10 = .ok (.getfield 141, 3) := by decide +kernel
theorem dX3_signs_13 : decode cX3_signs 13 = .ok (.arraylength, 1) := by decide +kernel
theorem dX3_signs_14 : decode cX3_signs 14 = .ok (.ireturn, 1) := by decide +kernel
set_option maxRecDepth 20000 in
theorem ggX3_level_X3_requireCell : GoodIn wsX3_level wsX3_requireCell := goodIn_ca (goodIn_r _ [5, 6, 7] (by decide +kernel) (by decide +kernel)) (goodIn_sub (fun _ h => List.mem_cons_of_mem _ (List.mem_append_right _ h)) (by decide +kernel))
set_option maxRecDepth 20000 in
theorem gX3_level_X3_requireCell : GoodIn wsX3_level (va_wsS RX3 59 yX3_requireCell wsX3_requireCell) := goodIn_app (goodIn_of _ (by decide +kernel)) ggX3_level_X3_requireCell
set_option maxRecDepth 20000 in
theorem ggX3_level_X3_namedByAny : GoodIn wsX3_level wsX3_namedByAny := goodIn_r _ [11, 1, 12, 13, 4, 14, 15, 16, 17, 18, 19, 20, 21, 22, 23, 24, 25] (by decide +kernel) (by decide +kernel)
set_option maxRecDepth 20000 in
theorem gX3_level_X3_namedByAny : GoodIn wsX3_level (wsV RX3 145 RX3 yX3_namedByAny wsX3_namedByAny) := goodIn_app (goodIn_of _ (by decide +kernel)) ggX3_level_X3_namedByAny
theorem dX3_level_0 : decode cX3_level 0 = .ok (.iload_n 1, 1) := by decide +kernel
theorem dX3_level_1 : decode cX3_level 1 = .ok (.invokestatic 59, 3) := by decide +kernel
theorem dX3_level_4 : decode cX3_level 4 = .ok (.iconst 0, 1) := by decide +kernel
theorem dX3_level_5 : decode cX3_level 5 = .ok (.istore_n 2, 1) := by decide +kernel
theorem dX3_level_6 : decode cX3_level 6 = .ok (.aload_n 0, 1) := by decide +kernel
theorem dX3_level_7 : decode cX3_level 7 = .ok (.getfield 34, 3) := by decide +kernel
theorem dX3_level_10 : decode cX3_level 10 = .ok (.iload_n 1, 1) := by decide +kernel
theorem dX3_level_11 : decode cX3_level 11 = .ok (.aaload, 1) := by decide +kernel
theorem dX3_level_12 : decode cX3_level 12 = .ok (.getfield 83, 3) := by decide +kernel
theorem dX3_level_15 : decode cX3_level 15 = .ok (.istore_n 3, 1) := by decide +kernel
theorem dX3_level_16 : decode cX3_level 16 = .ok (.iload_n 3, 1) := by decide +kernel
theorem dX3_level_17 : decode cX3_level 17 = .ok (.ifCond .eq 21, 3) := by decide +kernel
theorem dX3_level_20 : decode cX3_level 20 = .ok (.iload_n 2, 1) := by decide +kernel
theorem dX3_level_21 : decode cX3_level 21 = .ok (.bipush 30, 2) := by decide +kernel
theorem dX3_level_23 : decode cX3_level 23 = .ok (.if_icmp .ge 15, 3) := by decide +kernel
theorem dX3_level_26 : decode cX3_level 26 = .ok (.iinc 2 1, 3) := by decide +kernel
theorem dX3_level_29 : decode cX3_level 29 = .ok (.aload_n 0, 1) := by decide +kernel
theorem dX3_level_30 : decode cX3_level 30 = .ok (.iload_n 3, 1) := by decide +kernel
theorem dX3_level_31 : decode cX3_level 31 = .ok (.invokevirtual 145, 3) := by decide +kernel
theorem dX3_level_34 : decode cX3_level 34 = .ok (.istore_n 3, 1) := by decide +kernel
theorem dX3_level_35 : decode cX3_level 35 = .ok (.goto (-19), 3) := by decide +kernel
theorem dX3_level_38 : decode cX3_level 38 = .ok (.iload_n 2, 1) := by decide +kernel
theorem dX3_level_39 : decode cX3_level 39 = .ok (.ireturn, 1) := by decide +kernel
set_option maxRecDepth 20000 in
theorem ggX3_depends_X3_requireCell : GoodIn wsX3_depends wsX3_requireCell := goodIn_ca (goodIn_r _ [4, 5, 6] (by decide +kernel) (by decide +kernel)) (goodIn_sub (fun _ h => List.mem_cons_of_mem _ (List.mem_append_right _ h)) (by decide +kernel))
set_option maxRecDepth 20000 in
theorem gX3_depends_X3_requireCell : GoodIn wsX3_depends (va_wsS RX3 59 yX3_requireCell wsX3_requireCell) := goodIn_app (goodIn_of _ (by decide +kernel)) ggX3_depends_X3_requireCell
set_option maxRecDepth 20000 in
theorem ggX3_depends_X3_dependsOn : GoodIn wsX3_depends wsX3_dependsOn := goodIn_r _ [10, 11, 12, 3, 13, 14, 15, 16, 17, 18, 19, 20, 21, 22, 23, 24, 25, 26, 27, 28, 29, 30, 31, 32, 33, 34, 35, 36] (by decide +kernel) (by decide +kernel)
set_option maxRecDepth 20000 in
theorem gX3_depends_X3_dependsOn : GoodIn wsX3_depends (wsV RX3 148 RX3 yX3_dependsOn wsX3_dependsOn) := goodIn_app (goodIn_of _ (by decide +kernel)) ggX3_depends_X3_dependsOn
theorem dX3_depends_0 : decode cX3_depends 0 = .ok (.iload_n 1, 1) := by decide +kernel
theorem dX3_depends_1 : decode cX3_depends 1 = .ok (.invokestatic 59, 3) := by decide +kernel
theorem dX3_depends_4 : decode cX3_depends 4 = .ok (.iload_n 2, 1) := by decide +kernel
theorem dX3_depends_5 : decode cX3_depends 5 = .ok (.invokestatic 59, 3) := by decide +kernel
theorem dX3_depends_8 : decode cX3_depends 8 = .ok (.aload_n 0, 1) := by decide +kernel
theorem dX3_depends_9 : decode cX3_depends 9 = .ok (.iload_n 1, 1) := by decide +kernel
theorem dX3_depends_10 : decode cX3_depends 10 = .ok (.iload_n 2, 1) := by decide +kernel
theorem dX3_depends_11 : decode cX3_depends 11 = .ok (.invokevirtual 148, 3) := by decide +kernel
theorem dX3_depends_14 : decode cX3_depends 14 = .ok (.ireturn, 1) := by decide +kernel
theorem dX3_faulty_0 : decode cX3_faulty 0 = .ok (.iconst 0, 1) := by decide +kernel
theorem dX3_faulty_1 : decode cX3_faulty 1 = .ok (.istore_n 1, 1) := by decide +kernel
theorem dX3_faulty_2 : decode cX3_faulty 2 = .ok (.iconst 0, 1) := by decide +kernel
theorem dX3_faulty_3 : decode cX3_faulty 3 = .ok (.istore_n 2, 1) := by decide +kernel
theorem dX3_faulty_4 : decode cX3_faulty 4 = .ok (.iload_n 2, 1) := by decide +kernel
theorem dX3_faulty_5 : decode cX3_faulty 5 = .ok (.bipush 30, 2) := by decide +kernel
theorem dX3_faulty_7 : decode cX3_faulty 7 = .ok (.if_icmp .ge 25, 3) := by decide +kernel
theorem dX3_faulty_10 : decode cX3_faulty 10 = .ok (.aload_n 0, 1) := by decide +kernel
theorem dX3_faulty_11 : decode cX3_faulty 11 = .ok (.getfield 41, 3) := by decide +kernel
theorem dX3_faulty_14 : decode cX3_faulty 14 = .ok (.iload_n 2, 1) := by decide +kernel
theorem dX3_faulty_15 : decode cX3_faulty 15 = .ok (.laload, 1) := by decide +kernel
theorem dX3_faulty_16 : decode cX3_faulty 16 = .ok (.ldc2_w 151, 3) := by decide +kernel
theorem dX3_faulty_19 : decode cX3_faulty 19 = .ok (.lcmp, 1) := by decide +kernel
theorem dX3_faulty_20 : decode cX3_faulty 20 = .ok (.ifCond .ne 6, 3) := by decide +kernel
theorem dX3_faulty_23 : decode cX3_faulty 23 = .ok (.iinc 1 1, 3) := by decide +kernel
theorem dX3_faulty_26 : decode cX3_faulty 26 = .ok (.iinc 2 1, 3) := by decide +kernel
theorem dX3_faulty_29 : decode cX3_faulty 29 = .ok (.goto (-25), 3) := by decide +kernel
theorem dX3_faulty_32 : decode cX3_faulty 32 = .ok (.iload_n 1, 1) := by decide +kernel
theorem dX3_faulty_33 : decode cX3_faulty 33 = .ok (.ireturn, 1) := by decide +kernel
theorem dX3_foundAnew_0 : decode cX3_foundAnew 0 = .ok (.aload_n 0, 1) := by decide +kernel
theorem dX3_foundAnew_1 : decode cX3_foundAnew 1 = .ok (.getfield 153, 3) := by decide +kernel
theorem dX3_foundAnew_4 : decode cX3_foundAnew 4 = .ok (.ireturn, 1) := by decide +kernel
set_option maxRecDepth 20000 in
theorem ggX3_seek_X3_requireCell : GoodIn wsX3_seek wsX3_requireCell := goodIn_ca (goodIn_r _ [14, 15, 16] (by decide +kernel) (by decide +kernel)) (goodIn_sub (fun _ h => List.mem_cons_of_mem _ (List.mem_append_left _ (List.mem_append_left _ (List.mem_append_right _ h)))) (by decide +kernel))
set_option maxRecDepth 20000 in
theorem gX3_seek_X3_requireCell : GoodIn wsX3_seek (va_wsS RX3 59 yX3_requireCell wsX3_requireCell) := goodIn_app (goodIn_of _ (by decide +kernel)) ggX3_seek_X3_requireCell
set_option maxRecDepth 20000 in
theorem ggX3_seek_X1_canBeInput : GoodIn wsX3_seek wsX1_canBeInput := goodIn_ca (goodIn_r _ [20, 21, 140, 141] (by decide +kernel) (by decide +kernel)) (goodIn_sub (fun _ h => List.mem_cons_of_mem _ (List.mem_append_left _ (List.mem_append_right _ h))) (by decide +kernel))
set_option maxRecDepth 20000 in
theorem gX3_seek_X1_canBeInput_n163 : GoodIn wsX3_seek (wsX1_canBeInput) := ggX3_seek_X1_canBeInput
set_option maxRecDepth 20000 in
theorem ggX3_seek_X3_dependsOn : GoodIn wsX3_seek wsX3_dependsOn := goodIn_r _ [25, 26, 27, 13, 28, 29, 30, 31, 32, 33, 34, 35, 36, 10, 37, 38, 39, 131, 132, 133, 134, 135, 136, 137, 138, 139, 140, 141] (by decide +kernel) (by decide +kernel)
set_option maxRecDepth 20000 in
theorem gX3_seek_X3_dependsOn : GoodIn wsX3_seek (wsV RX3 148 RX3 yX3_dependsOn wsX3_dependsOn) := goodIn_app (goodIn_of _ (by decide +kernel)) ggX3_seek_X3_dependsOn
set_option maxRecDepth 20000 in
theorem ggX3_seek_X3_search : GoodIn wsX3_seek wsX3_search := goodIn_ca (goodIn_ca (goodIn_r _ [43, 44, 45, 46, 47, 48, 49, 50, 9, 26, 27, 13, 28, 51, 52, 53, 54, 10, 29, 30, 31, 32, 33, 34, 35, 36, 37, 38, 39, 55, 56, 57, 58, 59, 60, 61, 62, 63, 64, 65, 66, 67, 68, 69, 70, 71, 18, 72, 73, 21, 74, 75, 76, 77, 78, 79, 80, 81, 82, 83, 84, 85, 86, 87, 88, 89, 90, 91, 92, 93, 94, 95, 96, 97, 98, 99, 100, 101, 102, 131, 132, 133, 134, 135, 136, 137, 138, 139, 140, 141, 142, 143, 144] (by decide +kernel) (by decide +kernel)) (goodIn_sub (fun _ h => List.mem_cons_of_mem _ (List.mem_append_left _ (List.mem_append_right _ h))) (by decide +kernel))) (goodIn_sub (fun _ h => List.mem_cons_of_mem _ (List.mem_append_right _ h)) (by decide +kernel))
set_option maxRecDepth 20000 in
theorem gX3_seek_X3_search : GoodIn wsX3_seek (wsV RX3 170 RX3 yX3_search wsX3_search) := goodIn_app (goodIn_of _ (by decide +kernel)) ggX3_seek_X3_search
set_option maxRecDepth 20000 in
theorem ggX3_seek_X3_loneNumber : GoodIn wsX3_seek wsX3_loneNumber := goodIn_ca (goodIn_r _ [105, 106, 107, 108, 18, 109, 110, 111, 112, 113, 21, 114, 27, 13, 28, 140, 141] (by decide +kernel) (by decide +kernel)) (goodIn_sub (fun _ h => List.mem_cons_of_mem _ (List.mem_append_left _ (List.mem_append_right _ h))) (by decide +kernel))
set_option maxRecDepth 20000 in
theorem gX3_seek_X3_loneNumber : GoodIn wsX3_seek (va_wsS RX3 102 yX3_loneNumber wsX3_loneNumber) := goodIn_app (goodIn_of _ (by decide +kernel)) ggX3_seek_X3_loneNumber
set_option maxRecDepth 20000 in
theorem ggX3_seek_X3_give : GoodIn wsX3_seek wsX3_give := goodIn_ca (goodIn_ca (goodIn_r _ [118, 10, 26, 27, 13, 28, 119, 120, 121, 122, 44, 123, 51, 52, 53, 54, 59, 60, 61, 62, 63, 37, 38, 39, 64, 65, 66, 67, 68, 69, 70, 71, 18, 72, 73, 21, 74, 75, 76, 77, 78, 79, 80, 81, 82, 83, 84, 85, 86, 87, 88, 89, 90, 91, 92, 93, 94, 95, 96, 97, 98, 99, 124, 125, 126, 127, 128, 129, 130, 131, 132, 133, 134, 135, 136, 137, 138, 139, 140, 141, 142, 143, 144] (by decide +kernel) (by decide +kernel)) (goodIn_sub (fun _ h => List.mem_cons_of_mem _ (List.mem_append_left _ (List.mem_append_right _ h))) (by decide +kernel))) (goodIn_sub (fun _ h => List.mem_cons_of_mem _ (List.mem_append_right _ h)) (by decide +kernel))
set_option maxRecDepth 20000 in
theorem gX3_seek_X3_give : GoodIn wsX3_seek (wsV RX3 98 RX3 yX3_give wsX3_give) := goodIn_app (goodIn_of _ (by decide +kernel)) ggX3_seek_X3_give
theorem dX3_seek_0 : decode cX3_seek 0 = .ok (.iload_n 1, 1) := by decide +kernel
theorem dX3_seek_1 : decode cX3_seek 1 = .ok (.invokestatic 59, 3) := by decide +kernel
theorem dX3_seek_4 : decode cX3_seek 4 = .ok (.iload_n 3, 1) := by decide +kernel
theorem dX3_seek_5 : decode cX3_seek 5 = .ok (.invokestatic 59, 3) := by decide +kernel
theorem dX3_seek_8 : decode cX3_seek 8 = .ok (.iload_n 2, 1) := by decide +kernel
theorem dX3_seek_9 : decode cX3_seek 9 = .ok (.ldc 156, 2) := by decide +kernel
theorem dX3_seek_11 : decode cX3_seek 11 = .ok (.if_icmp .lt 9, 3) := by decide +kernel
theorem dX3_seek_14 : decode cX3_seek 14 = .ok (.iload_n 2, 1) := by decide +kernel
theorem dX3_seek_15 : decode cX3_seek 15 = .ok (.ldc 157, 2) := by decide +kernel
theorem dX3_seek_17 : decode cX3_seek 17 = .ok (.if_icmp .le 13, 3) := by decide +kernel
theorem dX3_seek_20 : decode cX3_seek 20 = .ok (.new 62, 3) := by decide +kernel
theorem dX3_seek_23 : decode cX3_seek 23 = .ok (.dup, 1) := by decide +kernel
theorem dX3_seek_24 : decode cX3_seek 24 = .ok (.ldc 158, 2) := by decide +kernel
theorem dX3_seek_26 : decode cX3_seek 26 = .ok (.invokespecial 66, 3) := by decide +kernel
theorem dX3_seek_29 : decode cX3_seek 29 = .ok (.athrow, 1) := by decide +kernel
theorem dX3_seek_30 : decode cX3_seek 30 = .ok (.iload 4, 2) := by decide +kernel
theorem dX3_seek_32 : decode cX3_seek 32 = .ok (.ifCond .lt 17, 3) := by decide +kernel
theorem dX3_seek_35 : decode cX3_seek 35 = .ok (.iload 5, 2) := by decide +kernel
theorem dX3_seek_37 : decode cX3_seek 37 = .ok (.iload 4, 2) := by decide +kernel
theorem dX3_seek_39 : decode cX3_seek 39 = .ok (.if_icmp .lt 10, 3) := by decide +kernel
theorem dX3_seek_42 : decode cX3_seek 42 = .ok (.iload 5, 2) := by decide +kernel
theorem dX3_seek_44 : decode cX3_seek 44 = .ok (.ldc 160, 2) := by decide +kernel
theorem dX3_seek_46 : decode cX3_seek 46 = .ok (.if_icmp .le 13, 3) := by decide +kernel
theorem dX3_seek_49 : decode cX3_seek 49 = .ok (.new 62, 3) := by decide +kernel
theorem dX3_seek_52 : decode cX3_seek 52 = .ok (.dup, 1) := by decide +kernel
theorem dX3_seek_53 : decode cX3_seek 53 = .ok (.ldc 161, 2) := by decide +kernel
theorem dX3_seek_55 : decode cX3_seek 55 = .ok (.invokespecial 66, 3) := by decide +kernel
theorem dX3_seek_58 : decode cX3_seek 58 = .ok (.athrow, 1) := by decide +kernel
theorem dX3_seek_59 : decode cX3_seek 59 = .ok (.aload_n 0, 1) := by decide +kernel
theorem dX3_seek_60 : decode cX3_seek 60 = .ok (.getfield 34, 3) := by decide +kernel
theorem dX3_seek_63 : decode cX3_seek 63 = .ok (.iload_n 3, 1) := by decide +kernel
theorem dX3_seek_64 : decode cX3_seek 64 = .ok (.aaload, 1) := by decide +kernel
theorem dX3_seek_65 : decode cX3_seek 65 = .ok (.invokevirtual 163, 3) := by decide +kernel
theorem dX3_seek_68 : decode cX3_seek 68 = .ok (.ifCond .ne 13, 3) := by decide +kernel
theorem dX3_seek_71 : decode cX3_seek 71 = .ok (.new 93, 3) := by decide +kernel
theorem dX3_seek_74 : decode cX3_seek 74 = .ok (.dup, 1) := by decide +kernel
theorem dX3_seek_75 : decode cX3_seek 75 = .ok (.ldc 166, 2) := by decide +kernel
theorem dX3_seek_77 : decode cX3_seek 77 = .ok (.invokespecial 97, 3) := by decide +kernel
theorem dX3_seek_80 : decode cX3_seek 80 = .ok (.athrow, 1) := by decide +kernel
theorem dX3_seek_81 : decode cX3_seek 81 = .ok (.aload_n 0, 1) := by decide +kernel
theorem dX3_seek_82 : decode cX3_seek 82 = .ok (.iload_n 1, 1) := by decide +kernel
theorem dX3_seek_83 : decode cX3_seek 83 = .ok (.iload_n 3, 1) := by decide +kernel
theorem dX3_seek_84 : decode cX3_seek 84 = .ok (.invokevirtual 148, 3) := by decide +kernel
theorem dX3_seek_87 : decode cX3_seek 87 = .ok (.ifCond .ne 13, 3) := by decide +kernel
theorem dX3_seek_90 : decode cX3_seek 90 = .ok (.new 93, 3) := by decide +kernel
theorem dX3_seek_93 : decode cX3_seek 93 = .ok (.dup, 1) := by decide +kernel
theorem dX3_seek_94 : decode cX3_seek 94 = .ok (.ldc 168, 2) := by decide +kernel
theorem dX3_seek_96 : decode cX3_seek 96 = .ok (.invokespecial 97, 3) := by decide +kernel
theorem dX3_seek_99 : decode cX3_seek 99 = .ok (.athrow, 1) := by decide +kernel
theorem dX3_seek_100 : decode cX3_seek 100 = .ok (.aload_n 0, 1) := by decide +kernel
theorem dX3_seek_101 : decode cX3_seek 101 = .ok (.iload_n 1, 1) := by decide +kernel
theorem dX3_seek_102 : decode cX3_seek 102 = .ok (.iload_n 2, 1) := by decide +kernel
theorem dX3_seek_103 : decode cX3_seek 103 = .ok (.iload_n 3, 1) := by decide +kernel
theorem dX3_seek_104 : decode cX3_seek 104 = .ok (.iload 4, 2) := by decide +kernel
theorem dX3_seek_106 : decode cX3_seek 106 = .ok (.iload 5, 2) := by decide +kernel
theorem dX3_seek_108 : decode cX3_seek 108 = .ok (.invokevirtual 170, 3) := by decide +kernel
theorem dX3_seek_111 : decode cX3_seek 111 = .ok (.istore 6, 2) := by decide +kernel
theorem dX3_seek_113 : decode cX3_seek 113 = .ok (.iload 6, 2) := by decide +kernel
theorem dX3_seek_115 : decode cX3_seek 115 = .ok (.iconst (-1), 1) := by decide +kernel
theorem dX3_seek_116 : decode cX3_seek 116 = .ok (.if_icmp .ne 13, 3) := by decide +kernel
theorem dX3_seek_119 : decode cX3_seek 119 = .ok (.new 174, 3) := by decide +kernel
theorem dX3_seek_122 : decode cX3_seek 122 = .ok (.dup, 1) := by decide +kernel
theorem dX3_seek_123 : decode cX3_seek 123 = .ok (.ldc 176, 2) := by decide +kernel
theorem dX3_seek_125 : decode cX3_seek 125 = .ok (.invokespecial 178, 3) := by decide +kernel
theorem dX3_seek_128 : decode cX3_seek 128 = .ok (.athrow, 1) := by decide +kernel
theorem dX3_seek_129 : decode cX3_seek 129 = .ok (.aload_n 0, 1) := by decide +kernel
theorem dX3_seek_130 : decode cX3_seek 130 = .ok (.iload_n 3, 1) := by decide +kernel
theorem dX3_seek_131 : decode cX3_seek 131 = .ok (.iload 6, 2) := by decide +kernel
theorem dX3_seek_133 : decode cX3_seek 133 = .ok (.invokestatic 102, 3) := by decide +kernel
theorem dX3_seek_136 : decode cX3_seek 136 = .ok (.invokevirtual 98, 3) := by decide +kernel
theorem dX3_seek_139 : decode cX3_seek 139 = .ok (.pop, 1) := by decide +kernel
theorem dX3_seek_140 : decode cX3_seek 140 = .ok (.iload 6, 2) := by decide +kernel
theorem dX3_seek_142 : decode cX3_seek 142 = .ok (.ireturn, 1) := by decide +kernel
set_option maxRecDepth 20000 in
theorem ggX3_search_X3_only : GoodIn wsX3_search wsX3_only := goodIn_r _ [12] (by decide +kernel) (by decide +kernel)
set_option maxRecDepth 20000 in
theorem gX3_search_X3_only : GoodIn wsX3_search (va_wsS RX3 122 yX3_only wsX3_only) := goodIn_app (goodIn_of _ (by decide +kernel)) ggX3_search_X3_only
set_option maxRecDepth 20000 in
theorem ggX3_search_X3_withDependents : GoodIn wsX3_search wsX3_withDependents := goodIn_r _ [16, 17, 9, 10, 11, 12, 79, 80, 81, 82, 83, 84, 85, 86, 87, 88, 89] (by decide +kernel) (by decide +kernel)
set_option maxRecDepth 20000 in
theorem gX3_search_X3_withDependents : GoodIn wsX3_search (wsV RX3 185 RX3 yX3_withDependents wsX3_withDependents) := goodIn_app (goodIn_of _ (by decide +kernel)) ggX3_search_X3_withDependents
set_option maxRecDepth 20000 in
theorem ggX3_search_X3_withDependencies : GoodIn wsX3_search wsX3_withDependencies := goodIn_r _ [21, 22, 23, 24, 11, 25, 17, 26, 27, 28, 79, 80, 81, 82, 83, 84, 85, 86, 87, 88, 89] (by decide +kernel) (by decide +kernel)
set_option maxRecDepth 20000 in
theorem gX3_search_X3_withDependencies : GoodIn wsX3_search (wsV RX3 86 RX3 yX3_withDependencies wsX3_withDependencies) := goodIn_app (goodIn_of _ (by decide +kernel)) ggX3_search_X3_withDependencies
set_option maxRecDepth 20000 in
theorem ggX3_search_X3_goalWith : GoodIn wsX3_search wsX3_goalWith := goodIn_ca (goodIn_ca (goodIn_r _ [32, 2, 33, 34, 35, 11, 36, 17, 37, 26, 27, 28, 38, 39, 40, 41, 42, 43, 44, 45, 46, 47, 48, 49, 50, 51, 52, 53, 54, 55, 56, 57, 58, 59, 60, 61, 62, 63, 64, 65, 66, 67, 68, 69, 70, 71, 72, 73, 74, 75, 9, 10, 12, 79, 80, 81, 82, 83, 84, 85, 86, 87, 88, 89, 90, 91, 92] (by decide +kernel) (by decide +kernel)) (goodIn_sub (fun _ h => List.mem_cons_of_mem _ (List.mem_append_left _ (List.mem_append_right _ h))) (by decide +kernel))) (goodIn_sub (fun _ h => List.mem_cons_of_mem _ (List.mem_append_right _ h)) (by decide +kernel))
set_option maxRecDepth 20000 in
theorem gX3_search_X3_goalWith : GoodIn wsX3_search (wsV RX3 188 RX3 yX3_goalWith wsX3_goalWith) := goodIn_app (goodIn_of _ (by decide +kernel)) ggX3_search_X3_goalWith
set_option maxRecDepth 20000 in
theorem ggX3_search_X3_onOneSide : GoodIn wsX3_search wsX3_onOneSide := goodIn_r _ [78] (by decide +kernel) (by decide +kernel)
set_option maxRecDepth 20000 in
theorem gX3_search_X3_onOneSide : GoodIn wsX3_search (va_wsS RX3 192 yX3_onOneSide wsX3_onOneSide) := goodIn_app (goodIn_of _ (by decide +kernel)) ggX3_search_X3_onOneSide
theorem dX3_search_0 : decode cX3_search 0 = .ok (.aload_n 0, 1) := by decide +kernel
theorem dX3_search_1 : decode cX3_search 1 = .ok (.getfield 41, 3) := by decide +kernel
theorem dX3_search_4 : decode cX3_search 4 = .ok (.iconst 0, 1) := by decide +kernel
theorem dX3_search_5 : decode cX3_search 5 = .ok (.aload_n 0, 1) := by decide +kernel
theorem dX3_search_6 : decode cX3_search 6 = .ok (.getfield 45, 3) := by decide +kernel
theorem dX3_search_9 : decode cX3_search 9 = .ok (.iconst 0, 1) := by decide +kernel
theorem dX3_search_10 : decode cX3_search 10 = .ok (.bipush 30, 2) := by decide +kernel
theorem dX3_search_12 : decode cX3_search 12 = .ok (.invokestatic 179, 3) := by decide +kernel
theorem dX3_search_15 : decode cX3_search 15 = .ok (.aload_n 0, 1) := by decide +kernel
theorem dX3_search_16 : decode cX3_search 16 = .ok (.iload_n 3, 1) := by decide +kernel
theorem dX3_search_17 : decode cX3_search 17 = .ok (.invokestatic 122, 3) := by decide +kernel
theorem dX3_search_20 : decode cX3_search 20 = .ok (.invokevirtual 185, 3) := by decide +kernel
theorem dX3_search_23 : decode cX3_search 23 = .ok (.aload_n 0, 1) := by decide +kernel
theorem dX3_search_24 : decode cX3_search 24 = .ok (.iload_n 1, 1) := by decide +kernel
theorem dX3_search_25 : decode cX3_search 25 = .ok (.invokestatic 122, 3) := by decide +kernel
theorem dX3_search_28 : decode cX3_search 28 = .ok (.invokevirtual 86, 3) := by decide +kernel
theorem dX3_search_31 : decode cX3_search 31 = .ok (.iand, 1) := by decide +kernel
theorem dX3_search_32 : decode cX3_search 32 = .ok (.iload_n 3, 1) := by decide +kernel
theorem dX3_search_33 : decode cX3_search 33 = .ok (.invokestatic 122, 3) := by decide +kernel
theorem dX3_search_36 : decode cX3_search 36 = .ok (.iconst (-1), 1) := by decide +kernel
theorem dX3_search_37 : decode cX3_search 37 = .ok (.ixor, 1) := by decide +kernel
theorem dX3_search_38 : decode cX3_search 38 = .ok (.iand, 1) := by decide +kernel
theorem dX3_search_39 : decode cX3_search 39 = .ok (.istore 6, 2) := by decide +kernel
theorem dX3_search_41 : decode cX3_search 41 = .ok (.iload 4, 2) := by decide +kernel
theorem dX3_search_43 : decode cX3_search 43 = .ok (.istore 7, 2) := by decide +kernel
theorem dX3_search_45 : decode cX3_search 45 = .ok (.iload 5, 2) := by decide +kernel
theorem dX3_search_47 : decode cX3_search 47 = .ok (.istore 8, 2) := by decide +kernel
theorem dX3_search_49 : decode cX3_search 49 = .ok (.aload_n 0, 1) := by decide +kernel
theorem dX3_search_50 : decode cX3_search 50 = .ok (.iload_n 1, 1) := by decide +kernel
theorem dX3_search_51 : decode cX3_search 51 = .ok (.iload_n 3, 1) := by decide +kernel
theorem dX3_search_52 : decode cX3_search 52 = .ok (.iload 7, 2) := by decide +kernel
theorem dX3_search_54 : decode cX3_search 54 = .ok (.iload 6, 2) := by decide +kernel
theorem dX3_search_56 : decode cX3_search 56 = .ok (.invokevirtual 188, 3) := by decide +kernel
theorem dX3_search_59 : decode cX3_search 59 = .ok (.lstore 9, 2) := by decide +kernel
theorem dX3_search_61 : decode cX3_search 61 = .ok (.aload_n 0, 1) := by decide +kernel
theorem dX3_search_62 : decode cX3_search 62 = .ok (.iload_n 1, 1) := by decide +kernel
theorem dX3_search_63 : decode cX3_search 63 = .ok (.iload_n 3, 1) := by decide +kernel
theorem dX3_search_64 : decode cX3_search 64 = .ok (.iload 8, 2) := by decide +kernel
theorem dX3_search_66 : decode cX3_search 66 = .ok (.iload 6, 2) := by decide +kernel
theorem dX3_search_68 : decode cX3_search 68 = .ok (.invokevirtual 188, 3) := by decide +kernel
theorem dX3_search_71 : decode cX3_search 71 = .ok (.lstore 11, 2) := by decide +kernel
theorem dX3_search_73 : decode cX3_search 73 = .ok (.lload 9, 2) := by decide +kernel
theorem dX3_search_75 : decode cX3_search 75 = .ok (.ldc2_w 151, 3) := by decide +kernel
theorem dX3_search_78 : decode cX3_search 78 = .ok (.lcmp, 1) := by decide +kernel
theorem dX3_search_79 : decode cX3_search 79 = .ok (.ifCond .eq 24, 3) := by decide +kernel
theorem dX3_search_82 : decode cX3_search 82 = .ok (.lload 11, 2) := by decide +kernel
theorem dX3_search_84 : decode cX3_search 84 = .ok (.ldc2_w 151, 3) := by decide +kernel
theorem dX3_search_87 : decode cX3_search 87 = .ok (.lcmp, 1) := by decide +kernel
theorem dX3_search_88 : decode cX3_search 88 = .ok (.ifCond .eq 15, 3) := by decide +kernel
theorem dX3_search_91 : decode cX3_search 91 = .ok (.lload 9, 2) := by decide +kernel
theorem dX3_search_93 : decode cX3_search 93 = .ok (.lload 11, 2) := by decide +kernel
theorem dX3_search_95 : decode cX3_search 95 = .ok (.iload_n 2, 1) := by decide +kernel
theorem dX3_search_96 : decode cX3_search 96 = .ok (.i2l, 1) := by decide +kernel
theorem dX3_search_97 : decode cX3_search 97 = .ok (.invokestatic 192, 3) := by decide +kernel
theorem dX3_search_100 : decode cX3_search 100 = .ok (.ifCond .eq 5, 3) := by decide +kernel
theorem dX3_search_103 : decode cX3_search 103 = .ok (.iconst (-1), 1) := by decide +kernel
theorem dX3_search_104 : decode cX3_search 104 = .ok (.ireturn, 1) := by decide +kernel
theorem dX3_search_105 : decode cX3_search 105 = .ok (.iconst 0, 1) := by decide +kernel
theorem dX3_search_106 : decode cX3_search 106 = .ok (.istore 13, 2) := by decide +kernel
theorem dX3_search_108 : decode cX3_search 108 = .ok (.iload 13, 2) := by decide +kernel
theorem dX3_search_110 : decode cX3_search 110 = .ok (.ldc 160, 2) := by decide +kernel
theorem dX3_search_112 : decode cX3_search 112 = .ok (.if_icmp .ge 77, 3) := by decide +kernel
theorem dX3_search_115 : decode cX3_search 115 = .ok (.iload 8, 2) := by decide +kernel
theorem dX3_search_117 : decode cX3_search 117 = .ok (.iload 7, 2) := by decide +kernel
theorem dX3_search_119 : decode cX3_search 119 = .ok (.iconst 1, 1) := by decide +kernel
theorem dX3_search_120 : decode cX3_search 120 = .ok (.iadd, 1) := by decide +kernel
theorem dX3_search_121 : decode cX3_search 121 = .ok (.if_icmp .le 68, 3) := by decide +kernel
theorem dX3_search_124 : decode cX3_search 124 = .ok (.iload 7, 2) := by decide +kernel
theorem dX3_search_126 : decode cX3_search 126 = .ok (.iload 8, 2) := by decide +kernel
theorem dX3_search_128 : decode cX3_search 128 = .ok (.iadd, 1) := by decide +kernel
theorem dX3_search_129 : decode cX3_search 129 = .ok (.iconst 2, 1) := by decide +kernel
theorem dX3_search_130 : decode cX3_search 130 = .ok (.idiv, 1) := by decide +kernel
theorem dX3_search_131 : decode cX3_search 131 = .ok (.istore 14, 2) := by decide +kernel
theorem dX3_search_133 : decode cX3_search 133 = .ok (.aload_n 0, 1) := by decide +kernel
theorem dX3_search_134 : decode cX3_search 134 = .ok (.iload_n 1, 1) := by decide +kernel
theorem dX3_search_135 : decode cX3_search 135 = .ok (.iload_n 3, 1) := by decide +kernel
theorem dX3_search_136 : decode cX3_search 136 = .ok (.iload 14, 2) := by decide +kernel
theorem dX3_search_138 : decode cX3_search 138 = .ok (.iload 6, 2) := by decide +kernel
theorem dX3_search_140 : decode cX3_search 140 = .ok (.invokevirtual 188, 3) := by decide +kernel
theorem dX3_search_143 : decode cX3_search 143 = .ok (.lstore 15, 2) := by decide +kernel
theorem dX3_search_145 : decode cX3_search 145 = .ok (.lload 15, 2) := by decide +kernel
theorem dX3_search_147 : decode cX3_search 147 = .ok (.ldc2_w 151, 3) := by decide +kernel
theorem dX3_search_150 : decode cX3_search 150 = .ok (.lcmp, 1) := by decide +kernel
theorem dX3_search_151 : decode cX3_search 151 = .ok (.ifCond .ne 5, 3) := by decide +kernel
theorem dX3_search_154 : decode cX3_search 154 = .ok (.iconst (-1), 1) := by decide +kernel
theorem dX3_search_155 : decode cX3_search 155 = .ok (.ireturn, 1) := by decide +kernel
theorem dX3_search_156 : decode cX3_search 156 = .ok (.lload 15, 2) := by decide +kernel
theorem dX3_search_158 : decode cX3_search 158 = .ok (.lload 9, 2) := by decide +kernel
theorem dX3_search_160 : decode cX3_search 160 = .ok (.iload_n 2, 1) := by decide +kernel
theorem dX3_search_161 : decode cX3_search 161 = .ok (.i2l, 1) := by decide +kernel
theorem dX3_search_162 : decode cX3_search 162 = .ok (.invokestatic 192, 3) := by decide +kernel
theorem dX3_search_165 : decode cX3_search 165 = .ok (.ifCond .eq 14, 3) := by decide +kernel
theorem dX3_search_168 : decode cX3_search 168 = .ok (.iload 14, 2) := by decide +kernel
theorem dX3_search_170 : decode cX3_search 170 = .ok (.istore 7, 2) := by decide +kernel
theorem dX3_search_172 : decode cX3_search 172 = .ok (.lload 15, 2) := by decide +kernel
theorem dX3_search_174 : decode cX3_search 174 = .ok (.lstore 9, 2) := by decide +kernel
theorem dX3_search_176 : decode cX3_search 176 = .ok (.goto 7, 3) := by decide +kernel
theorem dX3_search_179 : decode cX3_search 179 = .ok (.iload 14, 2) := by decide +kernel
theorem dX3_search_181 : decode cX3_search 181 = .ok (.istore 8, 2) := by decide +kernel
theorem dX3_search_183 : decode cX3_search 183 = .ok (.iinc 13 1, 3) := by decide +kernel
theorem dX3_search_186 : decode cX3_search 186 = .ok (.goto (-78), 3) := by decide +kernel
theorem dX3_search_189 : decode cX3_search 189 = .ok (.lload 9, 2) := by decide +kernel
theorem dX3_search_191 : decode cX3_search 191 = .ok (.iload_n 2, 1) := by decide +kernel
theorem dX3_search_192 : decode cX3_search 192 = .ok (.i2l, 1) := by decide +kernel
theorem dX3_search_193 : decode cX3_search 193 = .ok (.lcmp, 1) := by decide +kernel
theorem dX3_search_194 : decode cX3_search 194 = .ok (.ifCond .ne 8, 3) := by decide +kernel
theorem dX3_search_197 : decode cX3_search 197 = .ok (.iload 7, 2) := by decide +kernel
theorem dX3_search_199 : decode cX3_search 199 = .ok (.goto 5, 3) := by decide +kernel
theorem dX3_search_202 : decode cX3_search 202 = .ok (.iload 8, 2) := by decide +kernel
theorem dX3_search_204 : decode cX3_search 204 = .ok (.ireturn, 1) := by decide +kernel
set_option maxRecDepth 20000 in
theorem ggX3_goalWith_X3_workOut : GoodIn wsX3_goalWith wsX3_workOut := goodIn_ca (goodIn_ca (goodIn_r _ [6, 7, 8, 9, 10, 5, 11, 12, 13, 14, 15, 16, 17, 18, 19, 20, 21, 22, 23, 24, 25, 26, 27, 28, 29, 30, 31, 32, 33, 34, 35, 36, 37, 38, 39, 40, 41, 42, 43, 44, 45, 46, 47, 48, 49, 50, 51, 52, 53, 54, 55, 56, 57, 58, 59, 60, 61, 62, 63, 64, 65, 66] (by decide +kernel) (by decide +kernel)) (goodIn_sub (fun _ h => List.mem_cons_of_mem _ (List.mem_append_left _ (List.mem_append_right _ h))) (by decide +kernel))) (goodIn_sub (fun _ h => List.mem_cons_of_mem _ (List.mem_append_right _ h)) (by decide +kernel))
set_option maxRecDepth 20000 in
theorem gX3_goalWith_X3_workOut : GoodIn wsX3_goalWith (wsV RX3 137 RX3 yX3_workOut wsX3_workOut) := goodIn_app (goodIn_of _ (by decide +kernel)) ggX3_goalWith_X3_workOut
theorem dX3_goalWith_0 : decode cX3_goalWith 0 = .ok (.aload_n 0, 1) := by decide +kernel
theorem dX3_goalWith_1 : decode cX3_goalWith 1 = .ok (.getfield 45, 3) := by decide +kernel
theorem dX3_goalWith_4 : decode cX3_goalWith 4 = .ok (.iload_n 2, 1) := by decide +kernel
theorem dX3_goalWith_5 : decode cX3_goalWith 5 = .ok (.iload_n 3, 1) := by decide +kernel
theorem dX3_goalWith_6 : decode cX3_goalWith 6 = .ok (.i2l, 1) := by decide +kernel
theorem dX3_goalWith_7 : decode cX3_goalWith 7 = .ok (.lastore, 1) := by decide +kernel
theorem dX3_goalWith_8 : decode cX3_goalWith 8 = .ok (.aload_n 0, 1) := by decide +kernel
theorem dX3_goalWith_9 : decode cX3_goalWith 9 = .ok (.iload 4, 2) := by decide +kernel
theorem dX3_goalWith_11 : decode cX3_goalWith 11 = .ok (.aload_n 0, 1) := by decide +kernel
theorem dX3_goalWith_12 : decode cX3_goalWith 12 = .ok (.getfield 45, 3) := by decide +kernel
theorem dX3_goalWith_15 : decode cX3_goalWith 15 = .ok (.invokevirtual 137, 3) := by decide +kernel
theorem dX3_goalWith_18 : decode cX3_goalWith 18 = .ok (.aload_n 0, 1) := by decide +kernel
theorem dX3_goalWith_19 : decode cX3_goalWith 19 = .ok (.getfield 45, 3) := by decide +kernel
theorem dX3_goalWith_22 : decode cX3_goalWith 22 = .ok (.iload_n 1, 1) := by decide +kernel
theorem dX3_goalWith_23 : decode cX3_goalWith 23 = .ok (.laload, 1) := by decide +kernel
theorem dX3_goalWith_24 : decode cX3_goalWith 24 = .ok (.lreturn, 1) := by decide +kernel
theorem dX3_onOneSide_0 : decode cX3_onOneSide 0 = .ok (.lload_n 0, 1) := by decide +kernel
theorem dX3_onOneSide_1 : decode cX3_onOneSide 1 = .ok (.lload 4, 2) := by decide +kernel
theorem dX3_onOneSide_3 : decode cX3_onOneSide 3 = .ok (.lcmp, 1) := by decide +kernel
theorem dX3_onOneSide_4 : decode cX3_onOneSide 4 = .ok (.ifCond .le 10, 3) := by decide +kernel
theorem dX3_onOneSide_7 : decode cX3_onOneSide 7 = .ok (.lload_n 2, 1) := by decide +kernel
theorem dX3_onOneSide_8 : decode cX3_onOneSide 8 = .ok (.lload 4, 2) := by decide +kernel
theorem dX3_onOneSide_10 : decode cX3_onOneSide 10 = .ok (.lcmp, 1) := by decide +kernel
theorem dX3_onOneSide_11 : decode cX3_onOneSide 11 = .ok (.ifCond .gt 17, 3) := by decide +kernel
theorem dX3_onOneSide_14 : decode cX3_onOneSide 14 = .ok (.lload_n 0, 1) := by decide +kernel
theorem dX3_onOneSide_15 : decode cX3_onOneSide 15 = .ok (.lload 4, 2) := by decide +kernel
theorem dX3_onOneSide_17 : decode cX3_onOneSide 17 = .ok (.lcmp, 1) := by decide +kernel
theorem dX3_onOneSide_18 : decode cX3_onOneSide 18 = .ok (.ifCond .ge 14, 3) := by decide +kernel
theorem dX3_onOneSide_21 : decode cX3_onOneSide 21 = .ok (.lload_n 2, 1) := by decide +kernel
theorem dX3_onOneSide_22 : decode cX3_onOneSide 22 = .ok (.lload 4, 2) := by decide +kernel
theorem dX3_onOneSide_24 : decode cX3_onOneSide 24 = .ok (.lcmp, 1) := by decide +kernel
theorem dX3_onOneSide_25 : decode cX3_onOneSide 25 = .ok (.ifCond .ge 7, 3) := by decide +kernel
theorem dX3_onOneSide_28 : decode cX3_onOneSide 28 = .ok (.iconst 1, 1) := by decide +kernel
theorem dX3_onOneSide_29 : decode cX3_onOneSide 29 = .ok (.goto 4, 3) := by decide +kernel
theorem dX3_onOneSide_32 : decode cX3_onOneSide 32 = .ok (.iconst 0, 1) := by decide +kernel
theorem dX3_onOneSide_33 : decode cX3_onOneSide 33 = .ok (.ireturn, 1) := by decide +kernel
set_option maxRecDepth 20000 in
theorem ggX3_give_X3_only : GoodIn wsX3_give wsX3_only := goodIn_r _ [5] (by decide +kernel) (by decide +kernel)
set_option maxRecDepth 20000 in
theorem gX3_give_X3_only : GoodIn wsX3_give (va_wsS RX3 122 yX3_only wsX3_only) := goodIn_app (goodIn_of _ (by decide +kernel)) ggX3_give_X3_only
set_option maxRecDepth 20000 in
theorem ggX3_give_X3_findAnew : GoodIn wsX3_give wsX3_findAnew := goodIn_ca (goodIn_ca (goodIn_r _ [9, 10, 11, 12, 13, 14, 4, 15, 1, 2, 3, 5, 16, 17, 18, 19, 20, 21, 22, 23, 24, 25, 26, 27, 28, 29, 30, 31, 32, 33, 34, 35, 36, 37, 38, 39, 40, 41, 42, 43, 44, 45, 46, 47, 48, 49, 50, 51, 52, 53, 54, 55, 56, 57, 58, 59, 60, 61, 62, 63, 64, 65, 66, 67, 68, 69, 70, 71, 72, 73, 74, 75, 76, 77, 78, 79, 80, 81, 82] (by decide +kernel) (by decide +kernel)) (goodIn_sub (fun _ h => List.mem_cons_of_mem _ (List.mem_append_left _ (List.mem_append_right _ h))) (by decide +kernel))) (goodIn_sub (fun _ h => List.mem_cons_of_mem _ (List.mem_append_right _ h)) (by decide +kernel))
set_option maxRecDepth 20000 in
theorem gX3_give_X3_findAnew : GoodIn wsX3_give (wsV RX3 125 RX3 yX3_findAnew wsX3_findAnew) := goodIn_app (goodIn_of _ (by decide +kernel)) ggX3_give_X3_findAnew
theorem dX3_give_0 : decode cX3_give 0 = .ok (.aload_n 0, 1) := by decide +kernel
theorem dX3_give_1 : decode cX3_give 1 = .ok (.getfield 34, 3) := by decide +kernel
theorem dX3_give_4 : decode cX3_give 4 = .ok (.iload_n 1, 1) := by decide +kernel
theorem dX3_give_5 : decode cX3_give 5 = .ok (.aload_n 2, 1) := by decide +kernel
theorem dX3_give_6 : decode cX3_give 6 = .ok (.aastore, 1) := by decide +kernel
theorem dX3_give_7 : decode cX3_give 7 = .ok (.aload_n 0, 1) := by decide +kernel
theorem dX3_give_8 : decode cX3_give 8 = .ok (.iload_n 1, 1) := by decide +kernel
theorem dX3_give_9 : decode cX3_give 9 = .ok (.invokestatic 122, 3) := by decide +kernel
theorem dX3_give_12 : decode cX3_give 12 = .ok (.invokevirtual 125, 3) := by decide +kernel
theorem dX3_give_15 : decode cX3_give 15 = .ok (.ireturn, 1) := by decide +kernel
set_option maxRecDepth 20000 in
theorem ggX3_findAnew_X3_withDependents : GoodIn wsX3_findAnew wsX3_withDependents := goodIn_r _ [7, 8, 9, 10, 6, 11, 65, 66, 67, 68, 69, 70, 71, 72, 73, 74, 75] (by decide +kernel) (by decide +kernel)
set_option maxRecDepth 20000 in
theorem gX3_findAnew_X3_withDependents : GoodIn wsX3_findAnew (wsV RX3 185 RX3 yX3_withDependents wsX3_withDependents) := goodIn_app (goodIn_of _ (by decide +kernel)) ggX3_findAnew_X3_withDependents
set_option maxRecDepth 20000 in
theorem ggX3_findAnew_X3_workOut : GoodIn wsX3_findAnew wsX3_workOut := goodIn_ca (goodIn_ca (goodIn_r _ [15, 8, 16, 17, 18, 6, 19, 20, 21, 22, 23, 24, 25, 26, 27, 28, 29, 30, 31, 32, 33, 34, 35, 36, 37, 38, 39, 40, 41, 42, 43, 44, 45, 46, 47, 48, 49, 50, 51, 52, 53, 54, 55, 56, 57, 9, 10, 11, 65, 66, 67, 68, 69, 70, 71, 72, 73, 74, 75, 76, 77, 78] (by decide +kernel) (by decide +kernel)) (goodIn_sub (fun _ h => List.mem_cons_of_mem _ (List.mem_append_left _ (List.mem_append_right _ h))) (by decide +kernel))) (goodIn_sub (fun _ h => List.mem_cons_of_mem _ (List.mem_append_right _ h)) (by decide +kernel))
set_option maxRecDepth 20000 in
theorem gX3_findAnew_X3_workOut : GoodIn wsX3_findAnew (wsV RX3 137 RX3 yX3_workOut wsX3_workOut) := goodIn_app (goodIn_of _ (by decide +kernel)) ggX3_findAnew_X3_workOut
set_option maxRecDepth 20000 in
theorem ggX3_findAnew_J6_bitCount_0f7a4 : GoodIn wsX3_findAnew wsJ6_bitCount_0f7a4 := goodIn_r _ [61, 62, 63, 64] (by decide +kernel) (by decide +kernel)
set_option maxRecDepth 20000 in
theorem gX3_findAnew_J6_bitCount_0f7a4 : GoodIn wsX3_findAnew (va_wsS RX3 128 yJ6_bitCount_0f7a4 wsJ6_bitCount_0f7a4) := goodIn_app (goodIn_of _ (by decide +kernel)) ggX3_findAnew_J6_bitCount_0f7a4
theorem dX3_findAnew_0 : decode cX3_findAnew 0 = .ok (.aload_n 0, 1) := by decide +kernel
theorem dX3_findAnew_1 : decode cX3_findAnew 1 = .ok (.iload_n 1, 1) := by decide +kernel
theorem dX3_findAnew_2 : decode cX3_findAnew 2 = .ok (.invokevirtual 185, 3) := by decide +kernel
theorem dX3_findAnew_5 : decode cX3_findAnew 5 = .ok (.istore_n 2, 1) := by decide +kernel
theorem dX3_findAnew_6 : decode cX3_findAnew 6 = .ok (.aload_n 0, 1) := by decide +kernel
theorem dX3_findAnew_7 : decode cX3_findAnew 7 = .ok (.iload_n 2, 1) := by decide +kernel
theorem dX3_findAnew_8 : decode cX3_findAnew 8 = .ok (.aload_n 0, 1) := by decide +kernel
theorem dX3_findAnew_9 : decode cX3_findAnew 9 = .ok (.getfield 41, 3) := by decide +kernel
theorem dX3_findAnew_12 : decode cX3_findAnew 12 = .ok (.invokevirtual 137, 3) := by decide +kernel
theorem dX3_findAnew_15 : decode cX3_findAnew 15 = .ok (.iload_n 2, 1) := by decide +kernel
theorem dX3_findAnew_16 : decode cX3_findAnew 16 = .ok (.invokestatic 128, 3) := by decide +kernel
theorem dX3_findAnew_19 : decode cX3_findAnew 19 = .ok (.istore_n 3, 1) := by decide +kernel
theorem dX3_findAnew_20 : decode cX3_findAnew 20 = .ok (.aload_n 0, 1) := by decide +kernel
theorem dX3_findAnew_21 : decode cX3_findAnew 21 = .ok (.dup, 1) := by decide +kernel
theorem dX3_findAnew_22 : decode cX3_findAnew 22 = .ok (.getfield 153, 3) := by decide +kernel
theorem dX3_findAnew_25 : decode cX3_findAnew 25 = .ok (.iload_n 3, 1) := by decide +kernel
theorem dX3_findAnew_26 : decode cX3_findAnew 26 = .ok (.iadd, 1) := by decide +kernel
theorem dX3_findAnew_27 : decode cX3_findAnew 27 = .ok (.putfield 153, 3) := by decide +kernel
theorem dX3_findAnew_30 : decode cX3_findAnew 30 = .ok (.iload_n 3, 1) := by decide +kernel
theorem dX3_findAnew_31 : decode cX3_findAnew 31 = .ok (.ireturn, 1) := by decide +kernel
set_option maxRecDepth 20000 in
theorem ggX3_workOut_X3_holds : GoodIn wsX3_workOut wsX3_holds := goodIn_r _ [6] (by decide +kernel) (by decide +kernel)
set_option maxRecDepth 20000 in
theorem gX3_workOut_X3_holds : GoodIn wsX3_workOut (va_wsS RX3 89 yX3_holds wsX3_holds) := goodIn_app (goodIn_of _ (by decide +kernel)) ggX3_workOut_X3_holds
set_option maxRecDepth 20000 in
theorem ggX3_workOut_X2_take : GoodIn wsX3_workOut wsX2_take := goodIn_r _ [10, 11, 12, 13, 57, 58, 59, 60, 61] (by decide +kernel) (by decide +kernel)
set_option maxRecDepth 20000 in
theorem gX3_workOut_X2_take_n196 : GoodIn wsX3_workOut (wsX2_take) := ggX3_workOut_X2_take
set_option maxRecDepth 20000 in
theorem ggX3_workOut_X1_isEmpty : GoodIn wsX3_workOut wsX1_isEmpty := goodIn_r _ [17, 18, 57, 58] (by decide +kernel) (by decide +kernel)
set_option maxRecDepth 20000 in
theorem gX3_workOut_X1_isEmpty_n106 : GoodIn wsX3_workOut (wsX1_isEmpty) := ggX3_workOut_X1_isEmpty
set_option maxRecDepth 20000 in
theorem ggX3_workOut_X2_sum : GoodIn wsX3_workOut wsX2_sum := goodIn_ca (goodIn_ca (goodIn_r _ [21, 13, 11, 22, 23, 24, 8, 25, 26, 27, 28, 29, 30, 31, 32, 33, 34, 35, 36, 37, 38, 39, 12, 40, 19, 20, 41, 42, 43, 44, 59, 60, 61] (by decide +kernel) (by decide +kernel)) (goodIn_sub (fun _ h => List.mem_cons_of_mem _ (List.mem_append_left _ (List.mem_append_right _ h))) (by decide +kernel))) (goodIn_sub (fun _ h => List.mem_cons_of_mem _ (List.mem_append_right _ h)) (by decide +kernel))
set_option maxRecDepth 20000 in
theorem gX3_workOut_X2_sum_n200 : GoodIn wsX3_workOut (wsX2_sum) := ggX3_workOut_X2_sum
set_option maxRecDepth 20000 in
theorem ggX3_workOut_X3_only : GoodIn wsX3_workOut wsX3_only := goodIn_r _ [47] (by decide +kernel) (by decide +kernel)
set_option maxRecDepth 20000 in
theorem gX3_workOut_X3_only : GoodIn wsX3_workOut (va_wsS RX3 122 yX3_only wsX3_only) := goodIn_app (goodIn_of _ (by decide +kernel)) ggX3_workOut_X3_only
theorem dX3_workOut_0 : decode cX3_workOut 0 = .ok (.iload_n 1, 1) := by decide +kernel
theorem dX3_workOut_1 : decode cX3_workOut 1 = .ok (.istore_n 3, 1) := by decide +kernel
theorem dX3_workOut_2 : decode cX3_workOut 2 = .ok (.iconst 0, 1) := by decide +kernel
theorem dX3_workOut_3 : decode cX3_workOut 3 = .ok (.istore 4, 2) := by decide +kernel
theorem dX3_workOut_5 : decode cX3_workOut 5 = .ok (.iload 4, 2) := by decide +kernel
theorem dX3_workOut_7 : decode cX3_workOut 7 = .ok (.bipush 30, 2) := by decide +kernel
theorem dX3_workOut_9 : decode cX3_workOut 9 = .ok (.if_icmp .ge 101, 3) := by decide +kernel
theorem dX3_workOut_12 : decode cX3_workOut 12 = .ok (.iload_n 3, 1) := by decide +kernel
theorem dX3_workOut_13 : decode cX3_workOut 13 = .ok (.ifCond .eq 97, 3) := by decide +kernel
theorem dX3_workOut_16 : decode cX3_workOut 16 = .ok (.iconst 0, 1) := by decide +kernel
theorem dX3_workOut_17 : decode cX3_workOut 17 = .ok (.istore 5, 2) := by decide +kernel
theorem dX3_workOut_19 : decode cX3_workOut 19 = .ok (.iload 5, 2) := by decide +kernel
theorem dX3_workOut_21 : decode cX3_workOut 21 = .ok (.bipush 30, 2) := by decide +kernel
theorem dX3_workOut_23 : decode cX3_workOut 23 = .ok (.if_icmp .ge 81, 3) := by decide +kernel
theorem dX3_workOut_26 : decode cX3_workOut 26 = .ok (.aload_n 0, 1) := by decide +kernel
theorem dX3_workOut_27 : decode cX3_workOut 27 = .ok (.getfield 34, 3) := by decide +kernel
theorem dX3_workOut_30 : decode cX3_workOut 30 = .ok (.iload 5, 2) := by decide +kernel
theorem dX3_workOut_32 : decode cX3_workOut 32 = .ok (.aaload, 1) := by decide +kernel
theorem dX3_workOut_33 : decode cX3_workOut 33 = .ok (.astore 6, 2) := by decide +kernel
theorem dX3_workOut_35 : decode cX3_workOut 35 = .ok (.iload_n 3, 1) := by decide +kernel
theorem dX3_workOut_36 : decode cX3_workOut 36 = .ok (.iload 5, 2) := by decide +kernel
theorem dX3_workOut_38 : decode cX3_workOut 38 = .ok (.invokestatic 89, 3) := by decide +kernel
theorem dX3_workOut_41 : decode cX3_workOut 41 = .ok (.ifCond .eq 57, 3) := by decide +kernel
theorem dX3_workOut_44 : decode cX3_workOut 44 = .ok (.aload 6, 2) := by decide +kernel
theorem dX3_workOut_46 : decode cX3_workOut 46 = .ok (.getfield 83, 3) := by decide +kernel
theorem dX3_workOut_49 : decode cX3_workOut 49 = .ok (.iload_n 3, 1) := by decide +kernel
theorem dX3_workOut_50 : decode cX3_workOut 50 = .ok (.iand, 1) := by decide +kernel
theorem dX3_workOut_51 : decode cX3_workOut 51 = .ok (.ifCond .ne 47, 3) := by decide +kernel
theorem dX3_workOut_54 : decode cX3_workOut 54 = .ok (.aload_n 0, 1) := by decide +kernel
theorem dX3_workOut_55 : decode cX3_workOut 55 = .ok (.getfield 21, 3) := by decide +kernel
theorem dX3_workOut_58 : decode cX3_workOut 58 = .ok (.aload 6, 2) := by decide +kernel
theorem dX3_workOut_60 : decode cX3_workOut 60 = .ok (.aload_n 2, 1) := by decide +kernel
theorem dX3_workOut_61 : decode cX3_workOut 61 = .ok (.invokevirtual 196, 3) := by decide +kernel
theorem dX3_workOut_64 : decode cX3_workOut 64 = .ok (.aload_n 2, 1) := by decide +kernel
theorem dX3_workOut_65 : decode cX3_workOut 65 = .ok (.iload 5, 2) := by decide +kernel
theorem dX3_workOut_67 : decode cX3_workOut 67 = .ok (.aload 6, 2) := by decide +kernel
theorem dX3_workOut_69 : decode cX3_workOut 69 = .ok (.invokevirtual 106, 3) := by decide +kernel
theorem dX3_workOut_72 : decode cX3_workOut 72 = .ok (.ifCond .eq 7, 3) := by decide +kernel
theorem dX3_workOut_75 : decode cX3_workOut 75 = .ok (.lconst 0, 1) := by decide +kernel
theorem dX3_workOut_76 : decode cX3_workOut 76 = .ok (.goto 11, 3) := by decide +kernel
theorem dX3_workOut_79 : decode cX3_workOut 79 = .ok (.aload_n 0, 1) := by decide +kernel
theorem dX3_workOut_80 : decode cX3_workOut 80 = .ok (.getfield 21, 3) := by decide +kernel
theorem dX3_workOut_83 : decode cX3_workOut 83 = .ok (.iconst 0, 1) := by decide +kernel
theorem dX3_workOut_84 : decode cX3_workOut 84 = .ok (.invokevirtual 200, 3) := by decide +kernel
theorem dX3_workOut_87 : decode cX3_workOut 87 = .ok (.lastore, 1) := by decide +kernel
theorem dX3_workOut_88 : decode cX3_workOut 88 = .ok (.iload_n 3, 1) := by decide +kernel
theorem dX3_workOut_89 : decode cX3_workOut 89 = .ok (.iload 5, 2) := by decide +kernel
theorem dX3_workOut_91 : decode cX3_workOut 91 = .ok (.invokestatic 122, 3) := by decide +kernel
theorem dX3_workOut_94 : decode cX3_workOut 94 = .ok (.iconst (-1), 1) := by decide +kernel
theorem dX3_workOut_95 : decode cX3_workOut 95 = .ok (.ixor, 1) := by decide +kernel
theorem dX3_workOut_96 : decode cX3_workOut 96 = .ok (.iand, 1) := by decide +kernel
theorem dX3_workOut_97 : decode cX3_workOut 97 = .ok (.istore_n 3, 1) := by decide +kernel
theorem dX3_workOut_98 : decode cX3_workOut 98 = .ok (.iinc 5 1, 3) := by decide +kernel
theorem dX3_workOut_101 : decode cX3_workOut 101 = .ok (.goto (-82), 3) := by decide +kernel
theorem dX3_workOut_104 : decode cX3_workOut 104 = .ok (.iinc 4 1, 3) := by decide +kernel
theorem dX3_workOut_107 : decode cX3_workOut 107 = .ok (.goto (-102), 3) := by decide +kernel
theorem dX3_workOut_110 : decode cX3_workOut 110 = .ok (.return_, 1) := by decide +kernel
theorem dX3_only_0 : decode cX3_only 0 = .ok (.iconst 1, 1) := by decide +kernel
theorem dX3_only_1 : decode cX3_only 1 = .ok (.iload_n 0, 1) := by decide +kernel
theorem dX3_only_2 : decode cX3_only 2 = .ok (.ishl, 1) := by decide +kernel
theorem dX3_only_3 : decode cX3_only 3 = .ok (.ireturn, 1) := by decide +kernel
theorem dX3_holds_0 : decode cX3_holds 0 = .ok (.iload_n 0, 1) := by decide +kernel
theorem dX3_holds_1 : decode cX3_holds 1 = .ok (.iload_n 1, 1) := by decide +kernel
theorem dX3_holds_2 : decode cX3_holds 2 = .ok (.ishr, 1) := by decide +kernel
theorem dX3_holds_3 : decode cX3_holds 3 = .ok (.iconst 1, 1) := by decide +kernel
theorem dX3_holds_4 : decode cX3_holds 4 = .ok (.iand, 1) := by decide +kernel
theorem dX3_holds_5 : decode cX3_holds 5 = .ok (.ifCond .eq 7, 3) := by decide +kernel
theorem dX3_holds_8 : decode cX3_holds 8 = .ok (.iconst 1, 1) := by decide +kernel
theorem dX3_holds_9 : decode cX3_holds 9 = .ok (.goto 4, 3) := by decide +kernel
theorem dX3_holds_12 : decode cX3_holds 12 = .ok (.iconst 0, 1) := by decide +kernel
theorem dX3_holds_13 : decode cX3_holds 13 = .ok (.ireturn, 1) := by decide +kernel
set_option maxRecDepth 20000 in
theorem ggX3_dependsOn_X3_only : GoodIn wsX3_dependsOn wsX3_only := goodIn_r _ [4] (by decide +kernel) (by decide +kernel)
set_option maxRecDepth 20000 in
theorem gX3_dependsOn_X3_only : GoodIn wsX3_dependsOn (va_wsS RX3 122 yX3_only wsX3_only) := goodIn_app (goodIn_of _ (by decide +kernel)) ggX3_dependsOn_X3_only
set_option maxRecDepth 20000 in
theorem ggX3_dependsOn_X3_withDependencies : GoodIn wsX3_dependsOn wsX3_withDependencies := goodIn_r _ [8, 9, 10, 11, 3, 12, 13, 14, 15, 16, 17, 18, 19, 20, 21, 22, 23, 24, 25, 26, 27] (by decide +kernel) (by decide +kernel)
set_option maxRecDepth 20000 in
theorem gX3_dependsOn_X3_withDependencies : GoodIn wsX3_dependsOn (wsV RX3 86 RX3 yX3_withDependencies wsX3_withDependencies) := goodIn_app (goodIn_of _ (by decide +kernel)) ggX3_dependsOn_X3_withDependencies
set_option maxRecDepth 20000 in
theorem ggX3_dependsOn_X3_holds : GoodIn wsX3_dependsOn wsX3_holds := goodIn_r _ [16] (by decide +kernel) (by decide +kernel)
set_option maxRecDepth 20000 in
theorem gX3_dependsOn_X3_holds : GoodIn wsX3_dependsOn (va_wsS RX3 89 yX3_holds wsX3_holds) := goodIn_app (goodIn_of _ (by decide +kernel)) ggX3_dependsOn_X3_holds
theorem dX3_dependsOn_0 : decode cX3_dependsOn 0 = .ok (.iload_n 1, 1) := by decide +kernel
theorem dX3_dependsOn_1 : decode cX3_dependsOn 1 = .ok (.iload_n 2, 1) := by decide +kernel
theorem dX3_dependsOn_2 : decode cX3_dependsOn 2 = .ok (.if_icmp .eq 22, 3) := by decide +kernel
theorem dX3_dependsOn_5 : decode cX3_dependsOn 5 = .ok (.aload_n 0, 1) := by decide +kernel
theorem dX3_dependsOn_6 : decode cX3_dependsOn 6 = .ok (.iload_n 1, 1) := by decide +kernel
theorem dX3_dependsOn_7 : decode cX3_dependsOn 7 = .ok (.invokestatic 122, 3) := by decide +kernel
theorem dX3_dependsOn_10 : decode cX3_dependsOn 10 = .ok (.invokevirtual 86, 3) := by decide +kernel
theorem dX3_dependsOn_13 : decode cX3_dependsOn 13 = .ok (.iload_n 2, 1) := by decide +kernel
theorem dX3_dependsOn_14 : decode cX3_dependsOn 14 = .ok (.invokestatic 89, 3) := by decide +kernel
theorem dX3_dependsOn_17 : decode cX3_dependsOn 17 = .ok (.ifCond .eq 7, 3) := by decide +kernel
theorem dX3_dependsOn_20 : decode cX3_dependsOn 20 = .ok (.iconst 1, 1) := by decide +kernel
theorem dX3_dependsOn_21 : decode cX3_dependsOn 21 = .ok (.goto 4, 3) := by decide +kernel
theorem dX3_dependsOn_24 : decode cX3_dependsOn 24 = .ok (.iconst 0, 1) := by decide +kernel
theorem dX3_dependsOn_25 : decode cX3_dependsOn 25 = .ok (.ireturn, 1) := by decide +kernel
set_option maxRecDepth 20000 in
theorem ggX3_namedByAny_X3_holds : GoodIn wsX3_namedByAny wsX3_holds := goodIn_r _ [5] (by decide +kernel) (by decide +kernel)
set_option maxRecDepth 20000 in
theorem gX3_namedByAny_X3_holds : GoodIn wsX3_namedByAny (va_wsS RX3 89 yX3_holds wsX3_holds) := goodIn_app (goodIn_of _ (by decide +kernel)) ggX3_namedByAny_X3_holds
theorem dX3_namedByAny_0 : decode cX3_namedByAny 0 = .ok (.iconst 0, 1) := by decide +kernel
theorem dX3_namedByAny_1 : decode cX3_namedByAny 1 = .ok (.istore_n 2, 1) := by decide +kernel
theorem dX3_namedByAny_2 : decode cX3_namedByAny 2 = .ok (.iconst 0, 1) := by decide +kernel
theorem dX3_namedByAny_3 : decode cX3_namedByAny 3 = .ok (.istore_n 3, 1) := by decide +kernel
theorem dX3_namedByAny_4 : decode cX3_namedByAny 4 = .ok (.iload_n 3, 1) := by decide +kernel
theorem dX3_namedByAny_5 : decode cX3_namedByAny 5 = .ok (.bipush 30, 2) := by decide +kernel
theorem dX3_namedByAny_7 : decode cX3_namedByAny 7 = .ok (.if_icmp .ge 29, 3) := by decide +kernel
theorem dX3_namedByAny_10 : decode cX3_namedByAny 10 = .ok (.iload_n 1, 1) := by decide +kernel
theorem dX3_namedByAny_11 : decode cX3_namedByAny 11 = .ok (.iload_n 3, 1) := by decide +kernel
theorem dX3_namedByAny_12 : decode cX3_namedByAny 12 = .ok (.invokestatic 89, 3) := by decide +kernel
theorem dX3_namedByAny_15 : decode cX3_namedByAny 15 = .ok (.ifCond .eq 15, 3) := by decide +kernel
theorem dX3_namedByAny_18 : decode cX3_namedByAny 18 = .ok (.iload_n 2, 1) := by decide +kernel
theorem dX3_namedByAny_19 : decode cX3_namedByAny 19 = .ok (.aload_n 0, 1) := by decide +kernel
theorem dX3_namedByAny_20 : decode cX3_namedByAny 20 = .ok (.getfield 34, 3) := by decide +kernel
theorem dX3_namedByAny_23 : decode cX3_namedByAny 23 = .ok (.iload_n 3, 1) := by decide +kernel
theorem dX3_namedByAny_24 : decode cX3_namedByAny 24 = .ok (.aaload, 1) := by decide +kernel
theorem dX3_namedByAny_25 : decode cX3_namedByAny 25 = .ok (.getfield 83, 3) := by decide +kernel
theorem dX3_namedByAny_28 : decode cX3_namedByAny 28 = .ok (.ior, 1) := by decide +kernel
theorem dX3_namedByAny_29 : decode cX3_namedByAny 29 = .ok (.istore_n 2, 1) := by decide +kernel
theorem dX3_namedByAny_30 : decode cX3_namedByAny 30 = .ok (.iinc 3 1, 3) := by decide +kernel
theorem dX3_namedByAny_33 : decode cX3_namedByAny 33 = .ok (.goto (-29), 3) := by decide +kernel
theorem dX3_namedByAny_36 : decode cX3_namedByAny 36 = .ok (.iload_n 2, 1) := by decide +kernel
theorem dX3_namedByAny_37 : decode cX3_namedByAny 37 = .ok (.ireturn, 1) := by decide +kernel
set_option maxRecDepth 20000 in
theorem ggX3_withDependencies_X3_namedByAny : GoodIn wsX3_withDependencies wsX3_namedByAny := goodIn_r _ [5, 6, 7, 8, 4, 9, 10, 11, 12, 13, 14, 15, 16, 17, 18, 19, 20] (by decide +kernel) (by decide +kernel)
set_option maxRecDepth 20000 in
theorem gX3_withDependencies_X3_namedByAny : GoodIn wsX3_withDependencies (wsV RX3 145 RX3 yX3_namedByAny wsX3_namedByAny) := goodIn_app (goodIn_of _ (by decide +kernel)) ggX3_withDependencies_X3_namedByAny
theorem dX3_withDependencies_0 : decode cX3_withDependencies 0 = .ok (.iload_n 1, 1) := by decide +kernel
theorem dX3_withDependencies_1 : decode cX3_withDependencies 1 = .ok (.istore_n 2, 1) := by decide +kernel
theorem dX3_withDependencies_2 : decode cX3_withDependencies 2 = .ok (.iconst 0, 1) := by decide +kernel
theorem dX3_withDependencies_3 : decode cX3_withDependencies 3 = .ok (.istore_n 3, 1) := by decide +kernel
theorem dX3_withDependencies_4 : decode cX3_withDependencies 4 = .ok (.iconst 0, 1) := by decide +kernel
theorem dX3_withDependencies_5 : decode cX3_withDependencies 5 = .ok (.istore 4, 2) := by decide +kernel
theorem dX3_withDependencies_7 : decode cX3_withDependencies 7 = .ok (.iload 4, 2) := by decide +kernel
theorem dX3_withDependencies_9 : decode cX3_withDependencies 9 = .ok (.bipush 30, 2) := by decide +kernel
theorem dX3_withDependencies_11 : decode cX3_withDependencies 11 = .ok (.if_icmp .ge 24, 3) := by decide +kernel
theorem dX3_withDependencies_14 : decode cX3_withDependencies 14 = .ok (.iload_n 2, 1) := by decide +kernel
theorem dX3_withDependencies_15 : decode cX3_withDependencies 15 = .ok (.iload_n 3, 1) := by decide +kernel
theorem dX3_withDependencies_16 : decode cX3_withDependencies 16 = .ok (.if_icmp .eq 19, 3) := by decide +kernel
theorem dX3_withDependencies_19 : decode cX3_withDependencies 19 = .ok (.iload_n 2, 1) := by decide +kernel
theorem dX3_withDependencies_20 : decode cX3_withDependencies 20 = .ok (.istore_n 3, 1) := by decide +kernel
theorem dX3_withDependencies_21 : decode cX3_withDependencies 21 = .ok (.iload_n 2, 1) := by decide +kernel
theorem dX3_withDependencies_22 : decode cX3_withDependencies 22 = .ok (.aload_n 0, 1) := by decide +kernel
theorem dX3_withDependencies_23 : decode cX3_withDependencies 23 = .ok (.iload_n 2, 1) := by decide +kernel
theorem dX3_withDependencies_24 : decode cX3_withDependencies 24 = .ok (.invokevirtual 145, 3) := by decide +kernel
theorem dX3_withDependencies_27 : decode cX3_withDependencies 27 = .ok (.ior, 1) := by decide +kernel
theorem dX3_withDependencies_28 : decode cX3_withDependencies 28 = .ok (.istore_n 2, 1) := by decide +kernel
theorem dX3_withDependencies_29 : decode cX3_withDependencies 29 = .ok (.iinc 4 1, 3) := by decide +kernel
theorem dX3_withDependencies_32 : decode cX3_withDependencies 32 = .ok (.goto (-25), 3) := by decide +kernel
theorem dX3_withDependencies_35 : decode cX3_withDependencies 35 = .ok (.iload_n 2, 1) := by decide +kernel
theorem dX3_withDependencies_36 : decode cX3_withDependencies 36 = .ok (.ireturn, 1) := by decide +kernel
set_option maxRecDepth 20000 in
theorem ggX3_withDependents_X3_only : GoodIn wsX3_withDependents wsX3_only := goodIn_r _ [5] (by decide +kernel) (by decide +kernel)
set_option maxRecDepth 20000 in
theorem gX3_withDependents_X3_only : GoodIn wsX3_withDependents (va_wsS RX3 122 yX3_only wsX3_only) := goodIn_app (goodIn_of _ (by decide +kernel)) ggX3_withDependents_X3_only
theorem dX3_withDependents_0 : decode cX3_withDependents 0 = .ok (.iload_n 1, 1) := by decide +kernel
theorem dX3_withDependents_1 : decode cX3_withDependents 1 = .ok (.istore_n 2, 1) := by decide +kernel
theorem dX3_withDependents_2 : decode cX3_withDependents 2 = .ok (.iconst 0, 1) := by decide +kernel
theorem dX3_withDependents_3 : decode cX3_withDependents 3 = .ok (.istore_n 3, 1) := by decide +kernel
theorem dX3_withDependents_4 : decode cX3_withDependents 4 = .ok (.iconst 0, 1) := by decide +kernel
theorem dX3_withDependents_5 : decode cX3_withDependents 5 = .ok (.istore 4, 2) := by decide +kernel
theorem dX3_withDependents_7 : decode cX3_withDependents 7 = .ok (.iload 4, 2) := by decide +kernel
theorem dX3_withDependents_9 : decode cX3_withDependents 9 = .ok (.bipush 30, 2) := by decide +kernel
theorem dX3_withDependents_11 : decode cX3_withDependents 11 = .ok (.if_icmp .ge 55, 3) := by decide +kernel
theorem dX3_withDependents_14 : decode cX3_withDependents 14 = .ok (.iload_n 2, 1) := by decide +kernel
theorem dX3_withDependents_15 : decode cX3_withDependents 15 = .ok (.iload_n 3, 1) := by decide +kernel
theorem dX3_withDependents_16 : decode cX3_withDependents 16 = .ok (.if_icmp .eq 50, 3) := by decide +kernel
theorem dX3_withDependents_19 : decode cX3_withDependents 19 = .ok (.iload_n 2, 1) := by decide +kernel
theorem dX3_withDependents_20 : decode cX3_withDependents 20 = .ok (.istore_n 3, 1) := by decide +kernel
theorem dX3_withDependents_21 : decode cX3_withDependents 21 = .ok (.iconst 0, 1) := by decide +kernel
theorem dX3_withDependents_22 : decode cX3_withDependents 22 = .ok (.istore 5, 2) := by decide +kernel
theorem dX3_withDependents_24 : decode cX3_withDependents 24 = .ok (.iload 5, 2) := by decide +kernel
theorem dX3_withDependents_26 : decode cX3_withDependents 26 = .ok (.bipush 30, 2) := by decide +kernel
theorem dX3_withDependents_28 : decode cX3_withDependents 28 = .ok (.if_icmp .ge 32, 3) := by decide +kernel
theorem dX3_withDependents_31 : decode cX3_withDependents 31 = .ok (.aload_n 0, 1) := by decide +kernel
theorem dX3_withDependents_32 : decode cX3_withDependents 32 = .ok (.getfield 34, 3) := by decide +kernel
theorem dX3_withDependents_35 : decode cX3_withDependents 35 = .ok (.iload 5, 2) := by decide +kernel
theorem dX3_withDependents_37 : decode cX3_withDependents 37 = .ok (.aaload, 1) := by decide +kernel
theorem dX3_withDependents_38 : decode cX3_withDependents 38 = .ok (.getfield 83, 3) := by decide +kernel
theorem dX3_withDependents_41 : decode cX3_withDependents 41 = .ok (.iload_n 2, 1) := by decide +kernel
theorem dX3_withDependents_42 : decode cX3_withDependents 42 = .ok (.iand, 1) := by decide +kernel
theorem dX3_withDependents_43 : decode cX3_withDependents 43 = .ok (.ifCond .eq 11, 3) := by decide +kernel
theorem dX3_withDependents_46 : decode cX3_withDependents 46 = .ok (.iload_n 2, 1) := by decide +kernel
theorem dX3_withDependents_47 : decode cX3_withDependents 47 = .ok (.iload 5, 2) := by decide +kernel
theorem dX3_withDependents_49 : decode cX3_withDependents 49 = .ok (.invokestatic 122, 3) := by decide +kernel
theorem dX3_withDependents_52 : decode cX3_withDependents 52 = .ok (.ior, 1) := by decide +kernel
theorem dX3_withDependents_53 : decode cX3_withDependents 53 = .ok (.istore_n 2, 1) := by decide +kernel
theorem dX3_withDependents_54 : decode cX3_withDependents 54 = .ok (.iinc 5 1, 3) := by decide +kernel
theorem dX3_withDependents_57 : decode cX3_withDependents 57 = .ok (.goto (-33), 3) := by decide +kernel
theorem dX3_withDependents_60 : decode cX3_withDependents 60 = .ok (.iinc 4 1, 3) := by decide +kernel
theorem dX3_withDependents_63 : decode cX3_withDependents 63 = .ok (.goto (-56), 3) := by decide +kernel
theorem dX3_withDependents_66 : decode cX3_withDependents 66 = .ok (.iload_n 2, 1) := by decide +kernel
theorem dX3_withDependents_67 : decode cX3_withDependents 67 = .ok (.ireturn, 1) := by decide +kernel
theorem dX3_requireCell_0 : decode cX3_requireCell 0 = .ok (.iload_n 0, 1) := by decide +kernel
theorem dX3_requireCell_1 : decode cX3_requireCell 1 = .ok (.ifCond .lt 9, 3) := by decide +kernel
theorem dX3_requireCell_4 : decode cX3_requireCell 4 = .ok (.iload_n 0, 1) := by decide +kernel
theorem dX3_requireCell_5 : decode cX3_requireCell 5 = .ok (.bipush 30, 2) := by decide +kernel
theorem dX3_requireCell_7 : decode cX3_requireCell 7 = .ok (.if_icmp .lt 13, 3) := by decide +kernel
theorem dX3_requireCell_10 : decode cX3_requireCell 10 = .ok (.new 204, 3) := by decide +kernel
theorem dX3_requireCell_13 : decode cX3_requireCell 13 = .ok (.dup, 1) := by decide +kernel
theorem dX3_requireCell_14 : decode cX3_requireCell 14 = .ok (.ldc 206, 2) := by decide +kernel
theorem dX3_requireCell_16 : decode cX3_requireCell 16 = .ok (.invokespecial 208, 3) := by decide +kernel
theorem dX3_requireCell_19 : decode cX3_requireCell 19 = .ok (.athrow, 1) := by decide +kernel
theorem dX3_requireCell_20 : decode cX3_requireCell 20 = .ok (.return_, 1) := by decide +kernel
theorem dX3_requireNumber_0 : decode cX3_requireNumber 0 = .ok (.iload_n 0, 1) := by decide +kernel
theorem dX3_requireNumber_1 : decode cX3_requireNumber 1 = .ok (.ifCond .lt 9, 3) := by decide +kernel
theorem dX3_requireNumber_4 : decode cX3_requireNumber 4 = .ok (.iload_n 0, 1) := by decide +kernel
theorem dX3_requireNumber_5 : decode cX3_requireNumber 5 = .ok (.ldc 160, 2) := by decide +kernel
theorem dX3_requireNumber_7 : decode cX3_requireNumber 7 = .ok (.if_icmp .le 13, 3) := by decide +kernel
theorem dX3_requireNumber_10 : decode cX3_requireNumber 10 = .ok (.new 62, 3) := by decide +kernel
theorem dX3_requireNumber_13 : decode cX3_requireNumber 13 = .ok (.dup, 1) := by decide +kernel
theorem dX3_requireNumber_14 : decode cX3_requireNumber 14 = .ok (.ldc 209, 2) := by decide +kernel
theorem dX3_requireNumber_16 : decode cX3_requireNumber 16 = .ok (.invokespecial 66, 3) := by decide +kernel
theorem dX3_requireNumber_19 : decode cX3_requireNumber 19 = .ok (.athrow, 1) := by decide +kernel
theorem dX3_requireNumber_20 : decode cX3_requireNumber 20 = .ok (.return_, 1) := by decide +kernel
theorem dX3_requireValue_0 : decode cX3_requireValue 0 = .ok (.lload_n 0, 1) := by decide +kernel
theorem dX3_requireValue_1 : decode cX3_requireValue 1 = .ok (.ldc2_w 151, 3) := by decide +kernel
theorem dX3_requireValue_4 : decode cX3_requireValue 4 = .ok (.lcmp, 1) := by decide +kernel
theorem dX3_requireValue_5 : decode cX3_requireValue 5 = .ok (.ifCond .ne 13, 3) := by decide +kernel
theorem dX3_requireValue_8 : decode cX3_requireValue 8 = .ok (.new 211, 3) := by decide +kernel
theorem dX3_requireValue_11 : decode cX3_requireValue 11 = .ok (.dup, 1) := by decide +kernel
theorem dX3_requireValue_12 : decode cX3_requireValue 12 = .ok (.ldc 213, 2) := by decide +kernel
theorem dX3_requireValue_14 : decode cX3_requireValue 14 = .ok (.invokespecial 215, 3) := by decide +kernel
theorem dX3_requireValue_17 : decode cX3_requireValue 17 = .ok (.athrow, 1) := by decide +kernel
theorem dX3_requireValue_18 : decode cX3_requireValue 18 = .ok (.return_, 1) := by decide +kernel
theorem dX3_requireRoom_0 : decode cX3_requireRoom 0 = .ok (.aload_n 0, 1) := by decide +kernel
theorem dX3_requireRoom_1 : decode cX3_requireRoom 1 = .ok (.getfield 14, 3) := by decide +kernel
theorem dX3_requireRoom_4 : decode cX3_requireRoom 4 = .ok (.getfield 69, 3) := by decide +kernel
theorem dX3_requireRoom_7 : decode cX3_requireRoom 7 = .ok (.bipush 15, 2) := by decide +kernel
theorem dX3_requireRoom_9 : decode cX3_requireRoom 9 = .ok (.if_icmp .lt 13, 3) := by decide +kernel
theorem dX3_requireRoom_12 : decode cX3_requireRoom 12 = .ok (.new 93, 3) := by decide +kernel
theorem dX3_requireRoom_15 : decode cX3_requireRoom 15 = .ok (.dup, 1) := by decide +kernel
theorem dX3_requireRoom_16 : decode cX3_requireRoom 16 = .ok (.ldc 216, 2) := by decide +kernel
theorem dX3_requireRoom_18 : decode cX3_requireRoom 18 = .ok (.invokespecial 97, 3) := by decide +kernel
theorem dX3_requireRoom_21 : decode cX3_requireRoom 21 = .ok (.athrow, 1) := by decide +kernel
theorem dX3_requireRoom_22 : decode cX3_requireRoom 22 = .ok (.return_, 1) := by decide +kernel
theorem dX3_requireLayer_0 : decode cX3_requireLayer 0 = .ok (.aload_n 0, 1) := by decide +kernel
theorem dX3_requireLayer_1 : decode cX3_requireLayer 1 = .ok (.getfield 110, 3) := by decide +kernel
theorem dX3_requireLayer_4 : decode cX3_requireLayer 4 = .ok (.ifCond .gt 13, 3) := by decide +kernel
theorem dX3_requireLayer_7 : decode cX3_requireLayer 7 = .ok (.new 93, 3) := by decide +kernel
theorem dX3_requireLayer_10 : decode cX3_requireLayer 10 = .ok (.dup, 1) := by decide +kernel
theorem dX3_requireLayer_11 : decode cX3_requireLayer 11 = .ok (.ldc 218, 2) := by decide +kernel
theorem dX3_requireLayer_13 : decode cX3_requireLayer 13 = .ok (.invokespecial 97, 3) := by decide +kernel
theorem dX3_requireLayer_16 : decode cX3_requireLayer 16 = .ok (.athrow, 1) := by decide +kernel
theorem dX3_requireLayer_17 : decode cX3_requireLayer 17 = .ok (.return_, 1) := by decide +kernel
set_option maxRecDepth 20000 in
theorem ggX3_loneNumber_X1_init : GoodIn wsX3_loneNumber wsX1_init := goodIn_ca (goodIn_r _ [6, 7, 8, 9, 10, 11, 12, 13, 14, 15, 16] (by decide +kernel) (by decide +kernel)) (goodIn_sub (fun _ h => List.mem_cons_of_mem _ (List.mem_append_right _ h)) (by decide +kernel))
set_option maxRecDepth 20000 in
theorem gX3_loneNumber_X1_init_n27 : GoodIn wsX3_loneNumber (wsX1_init) := ggX3_loneNumber_X1_init
theorem dX3_loneNumber_0 : decode cX3_loneNumber 0 = .ok (.iconst 1, 1) := by decide +kernel
theorem dX3_loneNumber_1 : decode cX3_loneNumber 1 = .ok (.newarray .int, 2) := by decide +kernel
theorem dX3_loneNumber_3 : decode cX3_loneNumber 3 = .ok (.dup, 1) := by decide +kernel
theorem dX3_loneNumber_4 : decode cX3_loneNumber 4 = .ok (.iconst 0, 1) := by decide +kernel
theorem dX3_loneNumber_5 : decode cX3_loneNumber 5 = .ok (.bipush 36, 2) := by decide +kernel
theorem dX3_loneNumber_7 : decode cX3_loneNumber 7 = .ok (.iload_n 0, 1) := by decide +kernel
theorem dX3_loneNumber_8 : decode cX3_loneNumber 8 = .ok (.iadd, 1) := by decide +kernel
theorem dX3_loneNumber_9 : decode cX3_loneNumber 9 = .ok (.iastore, 1) := by decide +kernel
theorem dX3_loneNumber_10 : decode cX3_loneNumber 10 = .ok (.astore_n 1, 1) := by decide +kernel
theorem dX3_loneNumber_11 : decode cX3_loneNumber 11 = .ok (.new 25, 3) := by decide +kernel
theorem dX3_loneNumber_14 : decode cX3_loneNumber 14 = .ok (.dup, 1) := by decide +kernel
theorem dX3_loneNumber_15 : decode cX3_loneNumber 15 = .ok (.aload_n 1, 1) := by decide +kernel
theorem dX3_loneNumber_16 : decode cX3_loneNumber 16 = .ok (.invokespecial 27, 3) := by decide +kernel
theorem dX3_loneNumber_19 : decode cX3_loneNumber 19 = .ok (.areturn, 1) := by decide +kernel
