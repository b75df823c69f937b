theorem dX4_init_0 : decode cX4_init 0 = .ok (.aload_n 0, 1) := by decide +kernel
theorem dX4_init_1 : decode cX4_init 1 = .ok (.invokespecial 1, 3) := by decide +kernel
theorem dX4_init_4 : decode cX4_init 4 = .ok (.aload_n 0, 1) := by decide +kernel
theorem dX4_init_5 : decode cX4_init 5 = .ok (.bipush 15, 2) := by decide +kernel
theorem dX4_init_7 : decode cX4_init 7 = .ok (.newarray .int, 2) := by decide +kernel
theorem dX4_init_9 : decode cX4_init 9 = .ok (.putfield 7, 3) := by decide +kernel
theorem dX4_init_12 : decode cX4_init 12 = .ok (.aload_n 0, 1) := by decide +kernel
theorem dX4_init_13 : decode cX4_init 13 = .ok (.sipush 450, 3) := by decide +kernel
theorem dX4_init_16 : decode cX4_init 16 = .ok (.newarray .int, 2) := by decide +kernel
theorem dX4_init_18 : decode cX4_init 18 = .ok (.putfield 13, 3) := by decide +kernel
theorem dX4_init_21 : decode cX4_init 21 = .ok (.aload_n 0, 1) := by decide +kernel
theorem dX4_init_22 : decode cX4_init 22 = .ok (.bipush 30, 2) := by decide +kernel
theorem dX4_init_24 : decode cX4_init 24 = .ok (.newarray .int, 2) := by decide +kernel
theorem dX4_init_26 : decode cX4_init 26 = .ok (.putfield 16, 3) := by decide +kernel
theorem dX4_init_29 : decode cX4_init 29 = .ok (.aload_n 0, 1) := by decide +kernel
theorem dX4_init_30 : decode cX4_init 30 = .ok (.sipush 1800, 3) := by decide +kernel
theorem dX4_init_33 : decode cX4_init 33 = .ok (.newarray .int, 2) := by decide +kernel
theorem dX4_init_35 : decode cX4_init 35 = .ok (.putfield 19, 3) := by decide +kernel
theorem dX4_init_38 : decode cX4_init 38 = .ok (.aload_n 0, 1) := by decide +kernel
theorem dX4_init_39 : decode cX4_init 39 = .ok (.bipush 120, 2) := by decide +kernel
theorem dX4_init_41 : decode cX4_init 41 = .ok (.newarray .int, 2) := by decide +kernel
theorem dX4_init_43 : decode cX4_init 43 = .ok (.putfield 22, 3) := by decide +kernel
theorem dX4_init_46 : decode cX4_init 46 = .ok (.aload_n 0, 1) := by decide +kernel
theorem dX4_init_47 : decode cX4_init 47 = .ok (.bipush 30, 2) := by decide +kernel
theorem dX4_init_49 : decode cX4_init 49 = .ok (.newarray .long, 2) := by decide +kernel
theorem dX4_init_51 : decode cX4_init 51 = .ok (.putfield 25, 3) := by decide +kernel
theorem dX4_init_54 : decode cX4_init 54 = .ok (.aload_n 0, 1) := by decide +kernel
theorem dX4_init_55 : decode cX4_init 55 = .ok (.bipush 30, 2) := by decide +kernel
theorem dX4_init_57 : decode cX4_init 57 = .ok (.newarray .int, 2) := by decide +kernel
theorem dX4_init_59 : decode cX4_init 59 = .ok (.putfield 29, 3) := by decide +kernel
theorem dX4_init_62 : decode cX4_init 62 = .ok (.aload_n 0, 1) := by decide +kernel
theorem dX4_init_63 : decode cX4_init 63 = .ok (.bipush 15, 2) := by decide +kernel
theorem dX4_init_65 : decode cX4_init 65 = .ok (.newarray .long, 2) := by decide +kernel
theorem dX4_init_67 : decode cX4_init 67 = .ok (.putfield 32, 3) := by decide +kernel
theorem dX4_init_70 : decode cX4_init 70 = .ok (.aload_n 0, 1) := by decide +kernel
theorem dX4_init_71 : decode cX4_init 71 = .ok (.bipush 15, 2) := by decide +kernel
theorem dX4_init_73 : decode cX4_init 73 = .ok (.newarray .int, 2) := by decide +kernel
theorem dX4_init_75 : decode cX4_init 75 = .ok (.putfield 35, 3) := by decide +kernel
theorem dX4_init_78 : decode cX4_init 78 = .ok (.return_, 1) := by decide +kernel
theorem dX4_thrown_0 : decode cX4_thrown 0 = .ok (.aload_n 0, 1) := by decide +kernel
theorem dX4_thrown_1 : decode cX4_thrown 1 = .ok (.getfield 38, 3) := by decide +kernel
theorem dX4_thrown_4 : decode cX4_thrown 4 = .ok (.ireturn, 1) := by decide +kernel
theorem dX4_holds_0 : decode cX4_holds 0 = .ok (.aload_n 0, 1) := by decide +kernel
theorem dX4_holds_1 : decode cX4_holds 1 = .ok (.iload_n 1, 1) := by decide +kernel
theorem dX4_holds_2 : decode cX4_holds 2 = .ok (.putfield 38, 3) := by decide +kernel
theorem dX4_holds_5 : decode cX4_holds 5 = .ok (.iload_n 1, 1) := by decide +kernel
theorem dX4_holds_6 : decode cX4_holds 6 = .ok (.ifCond .ne 7, 3) := by decide +kernel
theorem dX4_holds_9 : decode cX4_holds 9 = .ok (.iconst 1, 1) := by decide +kernel
theorem dX4_holds_10 : decode cX4_holds 10 = .ok (.goto 4, 3) := by decide +kernel
theorem dX4_holds_13 : decode cX4_holds 13 = .ok (.iconst 0, 1) := by decide +kernel
theorem dX4_holds_14 : decode cX4_holds 14 = .ok (.ireturn, 1) := by decide +kernel
theorem dX4_in_0 : decode cX4_in 0 = .ok (.iload_n 0, 1) := by decide +kernel
theorem dX4_in_1 : decode cX4_in 1 = .ok (.iload_n 1, 1) := by decide +kernel
theorem dX4_in_2 : decode cX4_in 2 = .ok (.if_icmp .lt 12, 3) := by decide +kernel
theorem dX4_in_5 : decode cX4_in 5 = .ok (.iload_n 0, 1) := by decide +kernel
theorem dX4_in_6 : decode cX4_in 6 = .ok (.iload_n 2, 1) := by decide +kernel
theorem dX4_in_7 : decode cX4_in 7 = .ok (.if_icmp .gt 7, 3) := by decide +kernel
theorem dX4_in_10 : decode cX4_in 10 = .ok (.iconst 1, 1) := by decide +kernel
theorem dX4_in_11 : decode cX4_in 11 = .ok (.goto 4, 3) := by decide +kernel
theorem dX4_in_14 : decode cX4_in 14 = .ok (.iconst 0, 1) := by decide +kernel
theorem dX4_in_15 : decode cX4_in 15 = .ok (.ireturn, 1) := by decide +kernel
set_option maxRecDepth 20000 in
theorem ggX4_isCell_X4_in : GoodIn wsX4_isCell wsX4_in := goodIn_r _ [4] (by decide +kernel) (by decide +kernel)
set_option maxRecDepth 20000 in
theorem gX4_isCell_X4_in : GoodIn wsX4_isCell (va_wsS RX4 42 yX4_in wsX4_in) := goodIn_app (goodIn_of _ (by decide +kernel)) ggX4_isCell_X4_in
theorem dX4_isCell_0 : decode cX4_isCell 0 = .ok (.iload_n 0, 1) := by decide +kernel
theorem dX4_isCell_1 : decode cX4_isCell 1 = .ok (.iconst 0, 1) := by decide +kernel
theorem dX4_isCell_2 : decode cX4_isCell 2 = .ok (.bipush 29, 2) := by decide +kernel
theorem dX4_isCell_4 : decode cX4_isCell 4 = .ok (.invokestatic 42, 3) := by decide +kernel
theorem dX4_isCell_7 : decode cX4_isCell 7 = .ok (.ireturn, 1) := by decide +kernel
theorem dX4_writes_0 : decode cX4_writes 0 = .ok (.aload_n 0, 1) := by decide +kernel
theorem dX4_writes_1 : decode cX4_writes 1 = .ok (.getfield 7, 3) := by decide +kernel
theorem dX4_writes_4 : decode cX4_writes 4 = .ok (.aload_n 0, 1) := by decide +kernel
theorem dX4_writes_5 : decode cX4_writes 5 = .ok (.getfield 46, 3) := by decide +kernel
theorem dX4_writes_8 : decode cX4_writes 8 = .ok (.iload_n 1, 1) := by decide +kernel
theorem dX4_writes_9 : decode cX4_writes 9 = .ok (.iastore, 1) := by decide +kernel
theorem dX4_writes_10 : decode cX4_writes 10 = .ok (.aload_n 0, 1) := by decide +kernel
theorem dX4_writes_11 : decode cX4_writes 11 = .ok (.dup, 1) := by decide +kernel
theorem dX4_writes_12 : decode cX4_writes 12 = .ok (.getfield 46, 3) := by decide +kernel
theorem dX4_writes_15 : decode cX4_writes 15 = .ok (.iconst 1, 1) := by decide +kernel
theorem dX4_writes_16 : decode cX4_writes 16 = .ok (.iadd, 1) := by decide +kernel
theorem dX4_writes_17 : decode cX4_writes 17 = .ok (.putfield 46, 3) := by decide +kernel
theorem dX4_writes_20 : decode cX4_writes 20 = .ok (.aload_n 0, 1) := by decide +kernel
theorem dX4_writes_21 : decode cX4_writes 21 = .ok (.getfield 46, 3) := by decide +kernel
theorem dX4_writes_24 : decode cX4_writes 24 = .ok (.ireturn, 1) := by decide +kernel
theorem dX4_errorOfSign_0 : decode cX4_errorOfSign 0 = .ok (.iload_n 1, 1) := by decide +kernel
theorem dX4_errorOfSign_1 : decode cX4_errorOfSign 1 = .ok (.ifCond .ne 7, 3) := by decide +kernel
theorem dX4_errorOfSign_4 : decode cX4_errorOfSign 4 = .ok (.iconst 1, 1) := by decide +kernel
theorem dX4_errorOfSign_5 : decode cX4_errorOfSign 5 = .ok (.goto 17, 3) := by decide +kernel
theorem dX4_errorOfSign_8 : decode cX4_errorOfSign 8 = .ok (.aload_n 0, 1) := by decide +kernel
theorem dX4_errorOfSign_9 : decode cX4_errorOfSign 9 = .ok (.getfield 46, 3) := by decide +kernel
theorem dX4_errorOfSign_12 : decode cX4_errorOfSign 12 = .ok (.bipush 15, 2) := by decide +kernel
theorem dX4_errorOfSign_14 : decode cX4_errorOfSign 14 = .ok (.if_icmp .ne 7, 3) := by decide +kernel
theorem dX4_errorOfSign_17 : decode cX4_errorOfSign 17 = .ok (.iconst 2, 1) := by decide +kernel
theorem dX4_errorOfSign_18 : decode cX4_errorOfSign 18 = .ok (.goto 4, 3) := by decide +kernel
theorem dX4_errorOfSign_21 : decode cX4_errorOfSign 21 = .ok (.iconst 0, 1) := by decide +kernel
theorem dX4_errorOfSign_22 : decode cX4_errorOfSign 22 = .ok (.ireturn, 1) := by decide +kernel
set_option maxRecDepth 20000 in
theorem ggX4_number_X4_in : GoodIn wsX4_number wsX4_in := goodIn_r _ [5] (by decide +kernel) (by decide +kernel)
set_option maxRecDepth 20000 in
theorem gX4_number_X4_in : GoodIn wsX4_number (va_wsS RX4 42 yX4_in wsX4_in) := goodIn_app (goodIn_of _ (by decide +kernel)) ggX4_number_X4_in
set_option maxRecDepth 20000 in
theorem ggX4_number_X4_errorOfSign : GoodIn wsX4_number wsX4_errorOfSign := goodIn_r _ [9, 10, 21, 22, 23, 24, 25, 26, 27, 28, 29, 30, 31, 32, 33, 34, 35, 36] (by decide +kernel) (by decide +kernel)
set_option maxRecDepth 20000 in
theorem gX4_number_X4_errorOfSign : GoodIn wsX4_number (wsV RX4 50 RX4 yX4_errorOfSign wsX4_errorOfSign) := goodIn_app (goodIn_of _ (by decide +kernel)) ggX4_number_X4_errorOfSign
set_option maxRecDepth 20000 in
theorem ggX4_number_X4_holds : GoodIn wsX4_number wsX4_holds := goodIn_r _ [14, 15, 21, 22, 23, 24, 25, 26, 27, 28, 29, 30, 31, 32, 33, 34, 35, 36] (by decide +kernel) (by decide +kernel)
set_option maxRecDepth 20000 in
theorem gX4_number_X4_holds : GoodIn wsX4_number (wsV RX4 54 RX4 yX4_holds wsX4_holds) := goodIn_app (goodIn_of _ (by decide +kernel)) ggX4_number_X4_holds
set_option maxRecDepth 20000 in
theorem ggX4_number_X4_writes : GoodIn wsX4_number wsX4_writes := goodIn_ca (goodIn_r _ [19, 20, 10, 21, 22, 23, 24, 25, 26, 27, 28, 29, 30, 31, 32, 33, 34, 35, 36] (by decide +kernel) (by decide +kernel)) (goodIn_sub (fun _ h => List.mem_cons_of_mem _ (List.mem_append_right _ h)) (by decide +kernel))
set_option maxRecDepth 20000 in
theorem gX4_number_X4_writes : GoodIn wsX4_number (wsV RX4 58 RX4 yX4_writes wsX4_writes) := goodIn_app (goodIn_of _ (by decide +kernel)) ggX4_number_X4_writes
theorem dX4_number_0 : decode cX4_number 0 = .ok (.aload_n 0, 1) := by decide +kernel
theorem dX4_number_1 : decode cX4_number 1 = .ok (.aload_n 0, 1) := by decide +kernel
theorem dX4_number_2 : decode cX4_number 2 = .ok (.iload_n 1, 1) := by decide +kernel
theorem dX4_number_3 : decode cX4_number 3 = .ok (.iconst 0, 1) := by decide +kernel
theorem dX4_number_4 : decode cX4_number 4 = .ok (.ldc 49, 2) := by decide +kernel
theorem dX4_number_6 : decode cX4_number 6 = .ok (.invokestatic 42, 3) := by decide +kernel
theorem dX4_number_9 : decode cX4_number 9 = .ok (.invokevirtual 50, 3) := by decide +kernel
theorem dX4_number_12 : decode cX4_number 12 = .ok (.invokevirtual 54, 3) := by decide +kernel
theorem dX4_number_15 : decode cX4_number 15 = .ok (.ifCond .eq 11, 3) := by decide +kernel
theorem dX4_number_18 : decode cX4_number 18 = .ok (.aload_n 0, 1) := by decide +kernel
theorem dX4_number_19 : decode cX4_number 19 = .ok (.iload_n 1, 1) := by decide +kernel
theorem dX4_number_20 : decode cX4_number 20 = .ok (.invokevirtual 58, 3) := by decide +kernel
theorem dX4_number_23 : decode cX4_number 23 = .ok (.goto 4, 3) := by decide +kernel
theorem dX4_number_26 : decode cX4_number 26 = .ok (.iconst 0, 1) := by decide +kernel
theorem dX4_number_27 : decode cX4_number 27 = .ok (.ireturn, 1) := by decide +kernel
set_option maxRecDepth 20000 in
theorem ggX4_cell_X4_isCell : GoodIn wsX4_cell wsX4_isCell := goodIn_r _ [5, 6, 7, 4, 8] (by decide +kernel) (by decide +kernel)
set_option maxRecDepth 20000 in
theorem gX4_cell_X4_isCell : GoodIn wsX4_cell (va_wsS RX4 62 yX4_isCell wsX4_isCell) := goodIn_app (goodIn_of _ (by decide +kernel)) ggX4_cell_X4_isCell
set_option maxRecDepth 20000 in
theorem ggX4_cell_X4_errorOfSign : GoodIn wsX4_cell wsX4_errorOfSign := goodIn_r _ [12, 13, 24, 25, 26, 27, 28, 29, 30, 31, 32, 33, 34, 35, 36, 37, 38, 39] (by decide +kernel) (by decide +kernel)
set_option maxRecDepth 20000 in
theorem gX4_cell_X4_errorOfSign : GoodIn wsX4_cell (wsV RX4 50 RX4 yX4_errorOfSign wsX4_errorOfSign) := goodIn_app (goodIn_of _ (by decide +kernel)) ggX4_cell_X4_errorOfSign
set_option maxRecDepth 20000 in
theorem ggX4_cell_X4_holds : GoodIn wsX4_cell wsX4_holds := goodIn_r _ [17, 18, 24, 25, 26, 27, 28, 29, 30, 31, 32, 33, 34, 35, 36, 37, 38, 39] (by decide +kernel) (by decide +kernel)
set_option maxRecDepth 20000 in
theorem gX4_cell_X4_holds : GoodIn wsX4_cell (wsV RX4 54 RX4 yX4_holds wsX4_holds) := goodIn_app (goodIn_of _ (by decide +kernel)) ggX4_cell_X4_holds
set_option maxRecDepth 20000 in
theorem ggX4_cell_X4_writes : GoodIn wsX4_cell wsX4_writes := goodIn_ca (goodIn_r _ [22, 23, 13, 24, 25, 26, 27, 28, 29, 30, 31, 32, 33, 34, 35, 36, 37, 38, 39] (by decide +kernel) (by decide +kernel)) (goodIn_sub (fun _ h => List.mem_cons_of_mem _ (List.mem_append_right _ h)) (by decide +kernel))
set_option maxRecDepth 20000 in
theorem gX4_cell_X4_writes : GoodIn wsX4_cell (wsV RX4 58 RX4 yX4_writes wsX4_writes) := goodIn_app (goodIn_of _ (by decide +kernel)) ggX4_cell_X4_writes
theorem dX4_cell_0 : decode cX4_cell 0 = .ok (.aload_n 0, 1) := by decide +kernel
theorem dX4_cell_1 : decode cX4_cell 1 = .ok (.aload_n 0, 1) := by decide +kernel
theorem dX4_cell_2 : decode cX4_cell 2 = .ok (.iload_n 1, 1) := by decide +kernel
theorem dX4_cell_3 : decode cX4_cell 3 = .ok (.invokestatic 62, 3) := by decide +kernel
theorem dX4_cell_6 : decode cX4_cell 6 = .ok (.invokevirtual 50, 3) := by decide +kernel
theorem dX4_cell_9 : decode cX4_cell 9 = .ok (.invokevirtual 54, 3) := by decide +kernel
theorem dX4_cell_12 : decode cX4_cell 12 = .ok (.ifCond .eq 14, 3) := by decide +kernel
theorem dX4_cell_15 : decode cX4_cell 15 = .ok (.aload_n 0, 1) := by decide +kernel
theorem dX4_cell_16 : decode cX4_cell 16 = .ok (.ldc 65, 2) := by decide +kernel
theorem dX4_cell_18 : decode cX4_cell 18 = .ok (.iload_n 1, 1) := by decide +kernel
theorem dX4_cell_19 : decode cX4_cell 19 = .ok (.iadd, 1) := by decide +kernel
theorem dX4_cell_20 : decode cX4_cell 20 = .ok (.invokevirtual 58, 3) := by decide +kernel
theorem dX4_cell_23 : decode cX4_cell 23 = .ok (.goto 4, 3) := by decide +kernel
theorem dX4_cell_26 : decode cX4_cell 26 = .ok (.iconst 0, 1) := by decide +kernel
theorem dX4_cell_27 : decode cX4_cell 27 = .ok (.ireturn, 1) := by decide +kernel
set_option maxRecDepth 20000 in
theorem ggX4_sign_X4_in : GoodIn wsX4_sign wsX4_in := goodIn_r _ [5] (by decide +kernel) (by decide +kernel)
set_option maxRecDepth 20000 in
theorem gX4_sign_X4_in : GoodIn wsX4_sign (va_wsS RX4 42 yX4_in wsX4_in) := goodIn_app (goodIn_of _ (by decide +kernel)) ggX4_sign_X4_in
set_option maxRecDepth 20000 in
theorem ggX4_sign_X4_errorOfSign : GoodIn wsX4_sign wsX4_errorOfSign := goodIn_r _ [9, 10, 21, 22, 23, 24, 25, 26, 27, 28, 29, 30, 31, 32, 33, 34, 35, 36] (by decide +kernel) (by decide +kernel)
set_option maxRecDepth 20000 in
theorem gX4_sign_X4_errorOfSign : GoodIn wsX4_sign (wsV RX4 50 RX4 yX4_errorOfSign wsX4_errorOfSign) := goodIn_app (goodIn_of _ (by decide +kernel)) ggX4_sign_X4_errorOfSign
set_option maxRecDepth 20000 in
theorem ggX4_sign_X4_holds : GoodIn wsX4_sign wsX4_holds := goodIn_r _ [14, 15, 21, 22, 23, 24, 25, 26, 27, 28, 29, 30, 31, 32, 33, 34, 35, 36] (by decide +kernel) (by decide +kernel)
set_option maxRecDepth 20000 in
theorem gX4_sign_X4_holds : GoodIn wsX4_sign (wsV RX4 54 RX4 yX4_holds wsX4_holds) := goodIn_app (goodIn_of _ (by decide +kernel)) ggX4_sign_X4_holds
set_option maxRecDepth 20000 in
theorem ggX4_sign_X4_writes : GoodIn wsX4_sign wsX4_writes := goodIn_ca (goodIn_r _ [19, 20, 10, 21, 22, 23, 24, 25, 26, 27, 28, 29, 30, 31, 32, 33, 34, 35, 36] (by decide +kernel) (by decide +kernel)) (goodIn_sub (fun _ h => List.mem_cons_of_mem _ (List.mem_append_right _ h)) (by decide +kernel))
set_option maxRecDepth 20000 in
theorem gX4_sign_X4_writes : GoodIn wsX4_sign (wsV RX4 58 RX4 yX4_writes wsX4_writes) := goodIn_app (goodIn_of _ (by decide +kernel)) ggX4_sign_X4_writes
theorem dX4_sign_0 : decode cX4_sign 0 = .ok (.aload_n 0, 1) := by decide +kernel
theorem dX4_sign_1 : decode cX4_sign 1 = .ok (.aload_n 0, 1) := by decide +kernel
theorem dX4_sign_2 : decode cX4_sign 2 = .ok (.iload_n 1, 1) := by decide +kernel
theorem dX4_sign_3 : decode cX4_sign 3 = .ok (.iconst 0, 1) := by decide +kernel
theorem dX4_sign_4 : decode cX4_sign 4 = .ok (.iconst 5, 1) := by decide +kernel
theorem dX4_sign_5 : decode cX4_sign 5 = .ok (.invokestatic 42, 3) := by decide +kernel
theorem dX4_sign_8 : decode cX4_sign 8 = .ok (.invokevirtual 50, 3) := by decide +kernel
theorem dX4_sign_11 : decode cX4_sign 11 = .ok (.invokevirtual 54, 3) := by decide +kernel
theorem dX4_sign_14 : decode cX4_sign 14 = .ok (.ifCond .eq 14, 3) := by decide +kernel
theorem dX4_sign_17 : decode cX4_sign 17 = .ok (.aload_n 0, 1) := by decide +kernel
theorem dX4_sign_18 : decode cX4_sign 18 = .ok (.ldc 66, 2) := by decide +kernel
theorem dX4_sign_20 : decode cX4_sign 20 = .ok (.iload_n 1, 1) := by decide +kernel
theorem dX4_sign_21 : decode cX4_sign 21 = .ok (.iadd, 1) := by decide +kernel
theorem dX4_sign_22 : decode cX4_sign 22 = .ok (.invokevirtual 58, 3) := by decide +kernel
theorem dX4_sign_25 : decode cX4_sign 25 = .ok (.goto 4, 3) := by decide +kernel
theorem dX4_sign_28 : decode cX4_sign 28 = .ok (.iconst 0, 1) := by decide +kernel
theorem dX4_sign_29 : decode cX4_sign 29 = .ok (.ireturn, 1) := by decide +kernel
theorem dX4_wipe_0 : decode cX4_wipe 0 = .ok (.aload_n 0, 1) := by decide +kernel
theorem dX4_wipe_1 : decode cX4_wipe 1 = .ok (.iconst 0, 1) := by decide +kernel
theorem dX4_wipe_2 : decode cX4_wipe 2 = .ok (.putfield 38, 3) := by decide +kernel
theorem dX4_wipe_5 : decode cX4_wipe 5 = .ok (.aload_n 0, 1) := by decide +kernel
theorem dX4_wipe_6 : decode cX4_wipe 6 = .ok (.getfield 46, 3) := by decide +kernel
theorem dX4_wipe_9 : decode cX4_wipe 9 = .ok (.istore_n 1, 1) := by decide +kernel
theorem dX4_wipe_10 : decode cX4_wipe 10 = .ok (.aload_n 0, 1) := by decide +kernel
theorem dX4_wipe_11 : decode cX4_wipe 11 = .ok (.iconst 0, 1) := by decide +kernel
theorem dX4_wipe_12 : decode cX4_wipe 12 = .ok (.putfield 46, 3) := by decide +kernel
theorem dX4_wipe_15 : decode cX4_wipe 15 = .ok (.iload_n 1, 1) := by decide +kernel
theorem dX4_wipe_16 : decode cX4_wipe 16 = .ok (.ireturn, 1) := by decide +kernel
theorem dX4_faultOf_0 : decode cX4_faultOf 0 = .ok (.iconst 0, 1) := by decide +kernel
theorem dX4_faultOf_1 : decode cX4_faultOf 1 = .ok (.istore_n 1, 1) := by decide +kernel
theorem dX4_faultOf_2 : decode cX4_faultOf 2 = .ok (.iconst 0, 1) := by decide +kernel
theorem dX4_faultOf_3 : decode cX4_faultOf 3 = .ok (.istore_n 2, 1) := by decide +kernel
theorem dX4_faultOf_4 : decode cX4_faultOf 4 = .ok (.iconst 0, 1) := by decide +kernel
theorem dX4_faultOf_5 : decode cX4_faultOf 5 = .ok (.istore_n 3, 1) := by decide +kernel
theorem dX4_faultOf_6 : decode cX4_faultOf 6 = .ok (.iload_n 3, 1) := by decide +kernel
theorem dX4_faultOf_7 : decode cX4_faultOf 7 = .ok (.aload_n 0, 1) := by decide +kernel
theorem dX4_faultOf_8 : decode cX4_faultOf 8 = .ok (.getfield 46, 3) := by decide +kernel
theorem dX4_faultOf_11 : decode cX4_faultOf 11 = .ok (.if_icmp .ge 150, 3) := by decide +kernel
theorem dX4_faultOf_14 : decode cX4_faultOf 14 = .ok (.aload_n 0, 1) := by decide +kernel
theorem dX4_faultOf_15 : decode cX4_faultOf 15 = .ok (.getfield 7, 3) := by decide +kernel
theorem dX4_faultOf_18 : decode cX4_faultOf 18 = .ok (.iload_n 3, 1) := by decide +kernel
theorem dX4_faultOf_19 : decode cX4_faultOf 19 = .ok (.iaload, 1) := by decide +kernel
theorem dX4_faultOf_20 : decode cX4_faultOf 20 = .ok (.ldc 66, 2) := by decide +kernel
theorem dX4_faultOf_22 : decode cX4_faultOf 22 = .ok (.if_icmp .ge 7, 3) := by decide +kernel
theorem dX4_faultOf_25 : decode cX4_faultOf 25 = .ok (.iconst (-1), 1) := by decide +kernel
theorem dX4_faultOf_26 : decode cX4_faultOf 26 = .ok (.goto 12, 3) := by decide +kernel
theorem dX4_faultOf_29 : decode cX4_faultOf 29 = .ok (.aload_n 0, 1) := by decide +kernel
theorem dX4_faultOf_30 : decode cX4_faultOf 30 = .ok (.getfield 7, 3) := by decide +kernel
theorem dX4_faultOf_33 : decode cX4_faultOf 33 = .ok (.iload_n 3, 1) := by decide +kernel
theorem dX4_faultOf_34 : decode cX4_faultOf 34 = .ok (.iaload, 1) := by decide +kernel
theorem dX4_faultOf_35 : decode cX4_faultOf 35 = .ok (.ldc 66, 2) := by decide +kernel
theorem dX4_faultOf_37 : decode cX4_faultOf 37 = .ok (.isub, 1) := by decide +kernel
theorem dX4_faultOf_38 : decode cX4_faultOf 38 = .ok (.istore 4, 2) := by decide +kernel
theorem dX4_faultOf_40 : decode cX4_faultOf 40 = .ok (.iload 4, 2) := by decide +kernel
theorem dX4_faultOf_42 : decode cX4_faultOf 42 = .ok (.iconst (-1), 1) := by decide +kernel
theorem dX4_faultOf_43 : decode cX4_faultOf 43 = .ok (.if_icmp .eq 15, 3) := by decide +kernel
theorem dX4_faultOf_46 : decode cX4_faultOf 46 = .ok (.iload 4, 2) := by decide +kernel
theorem dX4_faultOf_48 : decode cX4_faultOf 48 = .ok (.iconst 4, 1) := by decide +kernel
theorem dX4_faultOf_49 : decode cX4_faultOf 49 = .ok (.if_icmp .eq 9, 3) := by decide +kernel
theorem dX4_faultOf_52 : decode cX4_faultOf 52 = .ok (.iload 4, 2) := by decide +kernel
theorem dX4_faultOf_54 : decode cX4_faultOf 54 = .ok (.iconst 1, 1) := by decide +kernel
theorem dX4_faultOf_55 : decode cX4_faultOf 55 = .ok (.if_icmp .ne 7, 3) := by decide +kernel
theorem dX4_faultOf_58 : decode cX4_faultOf 58 = .ok (.iconst 1, 1) := by decide +kernel
theorem dX4_faultOf_59 : decode cX4_faultOf 59 = .ok (.goto 4, 3) := by decide +kernel
theorem dX4_faultOf_62 : decode cX4_faultOf 62 = .ok (.iconst 0, 1) := by decide +kernel
theorem dX4_faultOf_63 : decode cX4_faultOf 63 = .ok (.istore 5, 2) := by decide +kernel
theorem dX4_faultOf_65 : decode cX4_faultOf 65 = .ok (.iload 4, 2) := by decide +kernel
theorem dX4_faultOf_67 : decode cX4_faultOf 67 = .ok (.iconst (-1), 1) := by decide +kernel
theorem dX4_faultOf_68 : decode cX4_faultOf 68 = .ok (.if_icmp .eq 23, 3) := by decide +kernel
theorem dX4_faultOf_71 : decode cX4_faultOf 71 = .ok (.iload 4, 2) := by decide +kernel
theorem dX4_faultOf_73 : decode cX4_faultOf 73 = .ok (.iconst 4, 1) := by decide +kernel
theorem dX4_faultOf_74 : decode cX4_faultOf 74 = .ok (.if_icmp .eq 17, 3) := by decide +kernel
theorem dX4_faultOf_77 : decode cX4_faultOf 77 = .ok (.iload 4, 2) := by decide +kernel
theorem dX4_faultOf_79 : decode cX4_faultOf 79 = .ok (.iconst 5, 1) := by decide +kernel
theorem dX4_faultOf_80 : decode cX4_faultOf 80 = .ok (.if_icmp .ne 7, 3) := by decide +kernel
theorem dX4_faultOf_83 : decode cX4_faultOf 83 = .ok (.iload_n 1, 1) := by decide +kernel
theorem dX4_faultOf_84 : decode cX4_faultOf 84 = .ok (.ifCond .le 7, 3) := by decide +kernel
theorem dX4_faultOf_87 : decode cX4_faultOf 87 = .ok (.iconst 1, 1) := by decide +kernel
theorem dX4_faultOf_88 : decode cX4_faultOf 88 = .ok (.goto 4, 3) := by decide +kernel
theorem dX4_faultOf_91 : decode cX4_faultOf 91 = .ok (.iconst 0, 1) := by decide +kernel
theorem dX4_faultOf_92 : decode cX4_faultOf 92 = .ok (.istore 6, 2) := by decide +kernel
theorem dX4_faultOf_94 : decode cX4_faultOf 94 = .ok (.iload_n 2, 1) := by decide +kernel
theorem dX4_faultOf_95 : decode cX4_faultOf 95 = .ok (.ifCond .eq 11, 3) := by decide +kernel
theorem dX4_faultOf_98 : decode cX4_faultOf 98 = .ok (.iload 6, 2) := by decide +kernel
theorem dX4_faultOf_100 : decode cX4_faultOf 100 = .ok (.ifCond .ne 13, 3) := by decide +kernel
theorem dX4_faultOf_103 : decode cX4_faultOf 103 = .ok (.goto 8, 3) := by decide +kernel
theorem dX4_faultOf_106 : decode cX4_faultOf 106 = .ok (.iload 5, 2) := by decide +kernel
theorem dX4_faultOf_108 : decode cX4_faultOf 108 = .ok (.ifCond .ne 5, 3) := by decide +kernel
theorem dX4_faultOf_111 : decode cX4_faultOf 111 = .ok (.iload_n 3, 1) := by decide +kernel
theorem dX4_faultOf_112 : decode cX4_faultOf 112 = .ok (.ireturn, 1) := by decide +kernel
theorem dX4_faultOf_113 : decode cX4_faultOf 113 = .ok (.iload_n 1, 1) := by decide +kernel
theorem dX4_faultOf_114 : decode cX4_faultOf 114 = .ok (.iload 4, 2) := by decide +kernel
theorem dX4_faultOf_116 : decode cX4_faultOf 116 = .ok (.iconst 4, 1) := by decide +kernel
theorem dX4_faultOf_117 : decode cX4_faultOf 117 = .ok (.if_icmp .ne 7, 3) := by decide +kernel
theorem dX4_faultOf_120 : decode cX4_faultOf 120 = .ok (.iconst 1, 1) := by decide +kernel
theorem dX4_faultOf_121 : decode cX4_faultOf 121 = .ok (.goto 14, 3) := by decide +kernel
theorem dX4_faultOf_124 : decode cX4_faultOf 124 = .ok (.iload 4, 2) := by decide +kernel
theorem dX4_faultOf_126 : decode cX4_faultOf 126 = .ok (.iconst 5, 1) := by decide +kernel
theorem dX4_faultOf_127 : decode cX4_faultOf 127 = .ok (.if_icmp .ne 7, 3) := by decide +kernel
theorem dX4_faultOf_130 : decode cX4_faultOf 130 = .ok (.iconst (-1), 1) := by decide +kernel
theorem dX4_faultOf_131 : decode cX4_faultOf 131 = .ok (.goto 4, 3) := by decide +kernel
theorem dX4_faultOf_134 : decode cX4_faultOf 134 = .ok (.iconst 0, 1) := by decide +kernel
theorem dX4_faultOf_135 : decode cX4_faultOf 135 = .ok (.iadd, 1) := by decide +kernel
theorem dX4_faultOf_136 : decode cX4_faultOf 136 = .ok (.istore_n 1, 1) := by decide +kernel
theorem dX4_faultOf_137 : decode cX4_faultOf 137 = .ok (.iload 4, 2) := by decide +kernel
theorem dX4_faultOf_139 : decode cX4_faultOf 139 = .ok (.iconst (-1), 1) := by decide +kernel
theorem dX4_faultOf_140 : decode cX4_faultOf 140 = .ok (.if_icmp .eq 9, 3) := by decide +kernel
theorem dX4_faultOf_143 : decode cX4_faultOf 143 = .ok (.iload 4, 2) := by decide +kernel
theorem dX4_faultOf_145 : decode cX4_faultOf 145 = .ok (.iconst 5, 1) := by decide +kernel
theorem dX4_faultOf_146 : decode cX4_faultOf 146 = .ok (.if_icmp .ne 7, 3) := by decide +kernel
theorem dX4_faultOf_149 : decode cX4_faultOf 149 = .ok (.iconst 1, 1) := by decide +kernel
theorem dX4_faultOf_150 : decode cX4_faultOf 150 = .ok (.goto 4, 3) := by decide +kernel
theorem dX4_faultOf_153 : decode cX4_faultOf 153 = .ok (.iconst 0, 1) := by decide +kernel
theorem dX4_faultOf_154 : decode cX4_faultOf 154 = .ok (.istore_n 2, 1) := by decide +kernel
theorem dX4_faultOf_155 : decode cX4_faultOf 155 = .ok (.iinc 3 1, 3) := by decide +kernel
theorem dX4_faultOf_158 : decode cX4_faultOf 158 = .ok (.goto (-152), 3) := by decide +kernel
theorem dX4_faultOf_161 : decode cX4_faultOf 161 = .ok (.iload_n 2, 1) := by decide +kernel
theorem dX4_faultOf_162 : decode cX4_faultOf 162 = .ok (.ifCond .eq 11, 3) := by decide +kernel
theorem dX4_faultOf_165 : decode cX4_faultOf 165 = .ok (.iload_n 1, 1) := by decide +kernel
theorem dX4_faultOf_166 : decode cX4_faultOf 166 = .ok (.ifCond .ne 7, 3) := by decide +kernel
theorem dX4_faultOf_169 : decode cX4_faultOf 169 = .ok (.iconst (-1), 1) := by decide +kernel
theorem dX4_faultOf_170 : decode cX4_faultOf 170 = .ok (.goto 7, 3) := by decide +kernel
theorem dX4_faultOf_173 : decode cX4_faultOf 173 = .ok (.aload_n 0, 1) := by decide +kernel
theorem dX4_faultOf_174 : decode cX4_faultOf 174 = .ok (.getfield 46, 3) := by decide +kernel
theorem dX4_faultOf_177 : decode cX4_faultOf 177 = .ok (.ireturn, 1) := by decide +kernel
set_option maxRecDepth 20000 in
theorem ggX4_fault_X4_faultOf : GoodIn wsX4_fault wsX4_faultOf := goodIn_ca (goodIn_r _ [6, 7, 8, 9, 10, 11, 12, 13, 14, 15, 16, 17, 18, 19, 20, 21, 22, 23, 24, 25] (by decide +kernel) (by decide +kernel)) (goodIn_sub (fun _ h => List.mem_cons_of_mem _ (List.mem_append_right _ h)) (by decide +kernel))
set_option maxRecDepth 20000 in
theorem gX4_fault_X4_faultOf : GoodIn wsX4_fault (wsV RX4 67 RX4 yX4_faultOf wsX4_faultOf) := goodIn_app (goodIn_of _ (by decide +kernel)) ggX4_fault_X4_faultOf
theorem dX4_fault_0 : decode cX4_fault 0 = .ok (.aload_n 0, 1) := by decide +kernel
theorem dX4_fault_1 : decode cX4_fault 1 = .ok (.iconst 0, 1) := by decide +kernel
theorem dX4_fault_2 : decode cX4_fault 2 = .ok (.putfield 38, 3) := by decide +kernel
theorem dX4_fault_5 : decode cX4_fault 5 = .ok (.aload_n 0, 1) := by decide +kernel
theorem dX4_fault_6 : decode cX4_fault 6 = .ok (.invokevirtual 67, 3) := by decide +kernel
theorem dX4_fault_9 : decode cX4_fault 9 = .ok (.ireturn, 1) := by decide +kernel
set_option maxRecDepth 20000 in
theorem ggX4_refers_X4_in : GoodIn wsX4_refers wsX4_in := goodIn_r _ [6] (by decide +kernel) (by decide +kernel)
set_option maxRecDepth 20000 in
theorem gX4_refers_X4_in : GoodIn wsX4_refers (va_wsS RX4 42 yX4_in wsX4_in) := goodIn_app (goodIn_of _ (by decide +kernel)) ggX4_refers_X4_in
theorem dX4_refers_0 : decode cX4_refers 0 = .ok (.iconst 0, 1) := by decide +kernel
theorem dX4_refers_1 : decode cX4_refers 1 = .ok (.istore_n 3, 1) := by decide +kernel
theorem dX4_refers_2 : decode cX4_refers 2 = .ok (.iload_n 1, 1) := by decide +kernel
theorem dX4_refers_3 : decode cX4_refers 3 = .ok (.istore 4, 2) := by decide +kernel
theorem dX4_refers_5 : decode cX4_refers 5 = .ok (.iload 4, 2) := by decide +kernel
theorem dX4_refers_7 : decode cX4_refers 7 = .ok (.iload_n 1, 1) := by decide +kernel
theorem dX4_refers_8 : decode cX4_refers 8 = .ok (.iload_n 2, 1) := by decide +kernel
theorem dX4_refers_9 : decode cX4_refers 9 = .ok (.iadd, 1) := by decide +kernel
theorem dX4_refers_10 : decode cX4_refers 10 = .ok (.if_icmp .ge 39, 3) := by decide +kernel
theorem dX4_refers_13 : decode cX4_refers 13 = .ok (.iload_n 3, 1) := by decide +kernel
theorem dX4_refers_14 : decode cX4_refers 14 = .ok (.aload_n 0, 1) := by decide +kernel
theorem dX4_refers_15 : decode cX4_refers 15 = .ok (.iload 4, 2) := by decide +kernel
theorem dX4_refers_17 : decode cX4_refers 17 = .ok (.iaload, 1) := by decide +kernel
theorem dX4_refers_18 : decode cX4_refers 18 = .ok (.ldc 65, 2) := by decide +kernel
theorem dX4_refers_20 : decode cX4_refers 20 = .ok (.ldc 71, 2) := by decide +kernel
theorem dX4_refers_22 : decode cX4_refers 22 = .ok (.invokestatic 42, 3) := by decide +kernel
theorem dX4_refers_25 : decode cX4_refers 25 = .ok (.ifCond .eq 15, 3) := by decide +kernel
theorem dX4_refers_28 : decode cX4_refers 28 = .ok (.iconst 1, 1) := by decide +kernel
theorem dX4_refers_29 : decode cX4_refers 29 = .ok (.aload_n 0, 1) := by decide +kernel
theorem dX4_refers_30 : decode cX4_refers 30 = .ok (.iload 4, 2) := by decide +kernel
theorem dX4_refers_32 : decode cX4_refers 32 = .ok (.iaload, 1) := by decide +kernel
theorem dX4_refers_33 : decode cX4_refers 33 = .ok (.ldc 65, 2) := by decide +kernel
theorem dX4_refers_35 : decode cX4_refers 35 = .ok (.isub, 1) := by decide +kernel
theorem dX4_refers_36 : decode cX4_refers 36 = .ok (.ishl, 1) := by decide +kernel
theorem dX4_refers_37 : decode cX4_refers 37 = .ok (.goto 4, 3) := by decide +kernel
theorem dX4_refers_40 : decode cX4_refers 40 = .ok (.iconst 0, 1) := by decide +kernel
theorem dX4_refers_41 : decode cX4_refers 41 = .ok (.ior, 1) := by decide +kernel
theorem dX4_refers_42 : decode cX4_refers 42 = .ok (.istore_n 3, 1) := by decide +kernel
theorem dX4_refers_43 : decode cX4_refers 43 = .ok (.iinc 4 1, 3) := by decide +kernel
theorem dX4_refers_46 : decode cX4_refers 46 = .ok (.goto (-41), 3) := by decide +kernel
theorem dX4_refers_49 : decode cX4_refers 49 = .ok (.iload_n 3, 1) := by decide +kernel
theorem dX4_refers_50 : decode cX4_refers 50 = .ok (.ireturn, 1) := by decide +kernel
set_option maxRecDepth 20000 in
theorem ggX4_refersOf_X4_refers : GoodIn wsX4_refersOf wsX4_refers := goodIn_ca (goodIn_r _ [6, 7, 8, 9, 10, 5, 11] (by decide +kernel) (by decide +kernel)) (goodIn_sub (fun _ h => List.mem_cons_of_mem _ (List.mem_append_right _ h)) (by decide +kernel))
set_option maxRecDepth 20000 in
theorem gX4_refersOf_X4_refers : GoodIn wsX4_refersOf (va_wsS RX4 72 yX4_refers wsX4_refers) := goodIn_app (goodIn_of _ (by decide +kernel)) ggX4_refersOf_X4_refers
theorem dX4_refersOf_0 : decode cX4_refersOf 0 = .ok (.aload_n 0, 1) := by decide +kernel
theorem dX4_refersOf_1 : decode cX4_refersOf 1 = .ok (.getfield 13, 3) := by decide +kernel
theorem dX4_refersOf_4 : decode cX4_refersOf 4 = .ok (.bipush 15, 2) := by decide +kernel
theorem dX4_refersOf_6 : decode cX4_refersOf 6 = .ok (.iload_n 1, 1) := by decide +kernel
theorem dX4_refersOf_7 : decode cX4_refersOf 7 = .ok (.imul, 1) := by decide +kernel
theorem dX4_refersOf_8 : decode cX4_refersOf 8 = .ok (.aload_n 0, 1) := by decide +kernel
theorem dX4_refersOf_9 : decode cX4_refersOf 9 = .ok (.getfield 16, 3) := by decide +kernel
theorem dX4_refersOf_12 : decode cX4_refersOf 12 = .ok (.iload_n 1, 1) := by decide +kernel
theorem dX4_refersOf_13 : decode cX4_refersOf 13 = .ok (.iaload, 1) := by decide +kernel
theorem dX4_refersOf_14 : decode cX4_refersOf 14 = .ok (.invokestatic 72, 3) := by decide +kernel
theorem dX4_refersOf_17 : decode cX4_refersOf 17 = .ok (.ireturn, 1) := by decide +kernel
set_option maxRecDepth 20000 in
theorem ggX4_below_X4_refersOf : GoodIn wsX4_below wsX4_refersOf := goodIn_ca (goodIn_r _ [5, 6, 7, 8, 9, 4, 10, 11, 12, 13, 14, 15, 16, 17, 18, 19, 20, 21, 22, 23, 24, 25, 26, 27, 28, 29, 30, 31] (by decide +kernel) (by decide +kernel)) (goodIn_sub (fun _ h => List.mem_cons_of_mem _ (List.mem_append_right _ h)) (by decide +kernel))
set_option maxRecDepth 20000 in
theorem gX4_below_X4_refersOf : GoodIn wsX4_below (wsV RX4 76 RX4 yX4_refersOf wsX4_refersOf) := goodIn_app (goodIn_of _ (by decide +kernel)) ggX4_below_X4_refersOf
theorem dX4_below_0 : decode cX4_below 0 = .ok (.iload_n 1, 1) := by decide +kernel
theorem dX4_below_1 : decode cX4_below 1 = .ok (.istore_n 2, 1) := by decide +kernel
theorem dX4_below_2 : decode cX4_below 2 = .ok (.iconst 0, 1) := by decide +kernel
theorem dX4_below_3 : decode cX4_below 3 = .ok (.istore_n 3, 1) := by decide +kernel
theorem dX4_below_4 : decode cX4_below 4 = .ok (.iload_n 2, 1) := by decide +kernel
theorem dX4_below_5 : decode cX4_below 5 = .ok (.iload_n 3, 1) := by decide +kernel
theorem dX4_below_6 : decode cX4_below 6 = .ok (.if_icmp .eq 47, 3) := by decide +kernel
theorem dX4_below_9 : decode cX4_below 9 = .ok (.iload_n 2, 1) := by decide +kernel
theorem dX4_below_10 : decode cX4_below 10 = .ok (.istore_n 3, 1) := by decide +kernel
theorem dX4_below_11 : decode cX4_below 11 = .ok (.iconst 0, 1) := by decide +kernel
theorem dX4_below_12 : decode cX4_below 12 = .ok (.istore 4, 2) := by decide +kernel
theorem dX4_below_14 : decode cX4_below 14 = .ok (.iload 4, 2) := by decide +kernel
theorem dX4_below_16 : decode cX4_below 16 = .ok (.bipush 30, 2) := by decide +kernel
theorem dX4_below_18 : decode cX4_below 18 = .ok (.if_icmp .ge 32, 3) := by decide +kernel
theorem dX4_below_21 : decode cX4_below 21 = .ok (.iload_n 2, 1) := by decide +kernel
theorem dX4_below_22 : decode cX4_below 22 = .ok (.iload_n 2, 1) := by decide +kernel
theorem dX4_below_23 : decode cX4_below 23 = .ok (.iload 4, 2) := by decide +kernel
theorem dX4_below_25 : decode cX4_below 25 = .ok (.ishr, 1) := by decide +kernel
theorem dX4_below_26 : decode cX4_below 26 = .ok (.iconst 1, 1) := by decide +kernel
theorem dX4_below_27 : decode cX4_below 27 = .ok (.iand, 1) := by decide +kernel
theorem dX4_below_28 : decode cX4_below 28 = .ok (.iconst 1, 1) := by decide +kernel
theorem dX4_below_29 : decode cX4_below 29 = .ok (.if_icmp .ne 12, 3) := by decide +kernel
theorem dX4_below_32 : decode cX4_below 32 = .ok (.aload_n 0, 1) := by decide +kernel
theorem dX4_below_33 : decode cX4_below 33 = .ok (.iload 4, 2) := by decide +kernel
theorem dX4_below_35 : decode cX4_below 35 = .ok (.invokevirtual 76, 3) := by decide +kernel
theorem dX4_below_38 : decode cX4_below 38 = .ok (.goto 4, 3) := by decide +kernel
theorem dX4_below_41 : decode cX4_below 41 = .ok (.iconst 0, 1) := by decide +kernel
theorem dX4_below_42 : decode cX4_below 42 = .ok (.ior, 1) := by decide +kernel
theorem dX4_below_43 : decode cX4_below 43 = .ok (.istore_n 2, 1) := by decide +kernel
theorem dX4_below_44 : decode cX4_below 44 = .ok (.iinc 4 1, 3) := by decide +kernel
theorem dX4_below_47 : decode cX4_below 47 = .ok (.goto (-33), 3) := by decide +kernel
theorem dX4_below_50 : decode cX4_below 50 = .ok (.goto (-46), 3) := by decide +kernel
theorem dX4_below_53 : decode cX4_below 53 = .ok (.iload_n 2, 1) := by decide +kernel
theorem dX4_below_54 : decode cX4_below 54 = .ok (.ireturn, 1) := by decide +kernel
set_option maxRecDepth 20000 in
theorem ggX4_doesDepend_X4_refersOf : GoodIn wsX4_doesDepend wsX4_refersOf := goodIn_ca (goodIn_r _ [5, 6, 7, 8, 9, 4, 10, 11, 12, 13, 14, 15, 20, 21, 22, 23, 24, 25, 26, 27, 28, 29, 30, 31, 32, 33, 34, 35] (by decide +kernel) (by decide +kernel)) (goodIn_sub (fun _ h => List.mem_cons_of_mem _ (List.mem_append_right _ h)) (by decide +kernel))
set_option maxRecDepth 20000 in
theorem gX4_doesDepend_X4_refersOf : GoodIn wsX4_doesDepend (wsV RX4 76 RX4 yX4_refersOf wsX4_refersOf) := goodIn_app (goodIn_of _ (by decide +kernel)) ggX4_doesDepend_X4_refersOf
set_option maxRecDepth 20000 in
theorem ggX4_doesDepend_X4_below : GoodIn wsX4_doesDepend wsX4_below := goodIn_ca (goodIn_r _ [19, 1, 2, 3, 4, 5, 6, 7, 8, 9, 10, 11, 12, 13, 14, 15, 20, 21, 22, 23, 24, 25, 26, 27, 28, 29, 30, 31, 32, 33, 34, 35] (by decide +kernel) (by decide +kernel)) (goodIn_sub (fun _ h => List.mem_cons_of_mem _ (List.mem_append_right _ h)) (by decide +kernel))
set_option maxRecDepth 20000 in
theorem gX4_doesDepend_X4_below : GoodIn wsX4_doesDepend (wsV RX4 79 RX4 yX4_below wsX4_below) := goodIn_app (goodIn_of _ (by decide +kernel)) ggX4_doesDepend_X4_below
theorem dX4_doesDepend_0 : decode cX4_doesDepend 0 = .ok (.aload_n 0, 1) := by decide +kernel
theorem dX4_doesDepend_1 : decode cX4_doesDepend 1 = .ok (.aload_n 0, 1) := by decide +kernel
theorem dX4_doesDepend_2 : decode cX4_doesDepend 2 = .ok (.iload_n 1, 1) := by decide +kernel
theorem dX4_doesDepend_3 : decode cX4_doesDepend 3 = .ok (.invokevirtual 76, 3) := by decide +kernel
theorem dX4_doesDepend_6 : decode cX4_doesDepend 6 = .ok (.invokevirtual 79, 3) := by decide +kernel
theorem dX4_doesDepend_9 : decode cX4_doesDepend 9 = .ok (.iload_n 2, 1) := by decide +kernel
theorem dX4_doesDepend_10 : decode cX4_doesDepend 10 = .ok (.ishr, 1) := by decide +kernel
theorem dX4_doesDepend_11 : decode cX4_doesDepend 11 = .ok (.iconst 1, 1) := by decide +kernel
theorem dX4_doesDepend_12 : decode cX4_doesDepend 12 = .ok (.iand, 1) := by decide +kernel
theorem dX4_doesDepend_13 : decode cX4_doesDepend 13 = .ok (.iconst 1, 1) := by decide +kernel
theorem dX4_doesDepend_14 : decode cX4_doesDepend 14 = .ok (.if_icmp .ne 7, 3) := by decide +kernel
theorem dX4_doesDepend_17 : decode cX4_doesDepend 17 = .ok (.iconst 1, 1) := by decide +kernel
theorem dX4_doesDepend_18 : decode cX4_doesDepend 18 = .ok (.goto 4, 3) := by decide +kernel
theorem dX4_doesDepend_21 : decode cX4_doesDepend 21 = .ok (.iconst 0, 1) := by decide +kernel
theorem dX4_doesDepend_22 : decode cX4_doesDepend 22 = .ok (.ireturn, 1) := by decide +kernel
set_option maxRecDepth 20000 in
theorem ggX4_anew_X4_below : GoodIn wsX4_anew wsX4_below := goodIn_ca (goodIn_r _ [5, 6, 7, 8, 4, 9, 10, 11, 12, 13, 14, 15, 16, 17, 18, 19, 20, 21, 22, 23, 24, 25, 26, 27, 28, 29, 30, 31, 32, 33, 34, 35] (by decide +kernel) (by decide +kernel)) (goodIn_sub (fun _ h => List.mem_cons_of_mem _ (List.mem_append_right _ h)) (by decide +kernel))
set_option maxRecDepth 20000 in
theorem gX4_anew_X4_below : GoodIn wsX4_anew (wsV RX4 79 RX4 yX4_below wsX4_below) := goodIn_app (goodIn_of _ (by decide +kernel)) ggX4_anew_X4_below
theorem dX4_anew_0 : decode cX4_anew 0 = .ok (.iconst 0, 1) := by decide +kernel
theorem dX4_anew_1 : decode cX4_anew 1 = .ok (.istore_n 2, 1) := by decide +kernel
theorem dX4_anew_2 : decode cX4_anew 2 = .ok (.iconst 0, 1) := by decide +kernel
theorem dX4_anew_3 : decode cX4_anew 3 = .ok (.istore_n 3, 1) := by decide +kernel
theorem dX4_anew_4 : decode cX4_anew 4 = .ok (.iload_n 3, 1) := by decide +kernel
theorem dX4_anew_5 : decode cX4_anew 5 = .ok (.bipush 30, 2) := by decide +kernel
theorem dX4_anew_7 : decode cX4_anew 7 = .ok (.if_icmp .ge 29, 3) := by decide +kernel
theorem dX4_anew_10 : decode cX4_anew 10 = .ok (.iload_n 2, 1) := by decide +kernel
theorem dX4_anew_11 : decode cX4_anew 11 = .ok (.aload_n 0, 1) := by decide +kernel
theorem dX4_anew_12 : decode cX4_anew 12 = .ok (.iconst 1, 1) := by decide +kernel
theorem dX4_anew_13 : decode cX4_anew 13 = .ok (.iload_n 3, 1) := by decide +kernel
theorem dX4_anew_14 : decode cX4_anew 14 = .ok (.ishl, 1) := by decide +kernel
theorem dX4_anew_15 : decode cX4_anew 15 = .ok (.invokevirtual 79, 3) := by decide +kernel
theorem dX4_anew_18 : decode cX4_anew 18 = .ok (.iload_n 1, 1) := by decide +kernel
theorem dX4_anew_19 : decode cX4_anew 19 = .ok (.iand, 1) := by decide +kernel
theorem dX4_anew_20 : decode cX4_anew 20 = .ok (.ifCond .eq 7, 3) := by decide +kernel
theorem dX4_anew_23 : decode cX4_anew 23 = .ok (.iconst 1, 1) := by decide +kernel
theorem dX4_anew_24 : decode cX4_anew 24 = .ok (.goto 4, 3) := by decide +kernel
theorem dX4_anew_27 : decode cX4_anew 27 = .ok (.iconst 0, 1) := by decide +kernel
theorem dX4_anew_28 : decode cX4_anew 28 = .ok (.iadd, 1) := by decide +kernel
theorem dX4_anew_29 : decode cX4_anew 29 = .ok (.istore_n 2, 1) := by decide +kernel
theorem dX4_anew_30 : decode cX4_anew 30 = .ok (.iinc 3 1, 3) := by decide +kernel
theorem dX4_anew_33 : decode cX4_anew 33 = .ok (.goto (-29), 3) := by decide +kernel
theorem dX4_anew_36 : decode cX4_anew 36 = .ok (.iload_n 2, 1) := by decide +kernel
theorem dX4_anew_37 : decode cX4_anew 37 = .ok (.ireturn, 1) := by decide +kernel
theorem dX4_pushes_0 : decode cX4_pushes 0 = .ok (.aload_n 0, 1) := by decide +kernel
theorem dX4_pushes_1 : decode cX4_pushes 1 = .ok (.getfield 32, 3) := by decide +kernel
theorem dX4_pushes_4 : decode cX4_pushes 4 = .ok (.aload_n 0, 1) := by decide +kernel
theorem dX4_pushes_5 : decode cX4_pushes 5 = .ok (.getfield 82, 3) := by decide +kernel
theorem dX4_pushes_8 : decode cX4_pushes 8 = .ok (.lload_n 1, 1) := by decide +kernel
theorem dX4_pushes_9 : decode cX4_pushes 9 = .ok (.lastore, 1) := by decide +kernel
theorem dX4_pushes_10 : decode cX4_pushes 10 = .ok (.aload_n 0, 1) := by decide +kernel
theorem dX4_pushes_11 : decode cX4_pushes 11 = .ok (.dup, 1) := by decide +kernel
theorem dX4_pushes_12 : decode cX4_pushes 12 = .ok (.getfield 82, 3) := by decide +kernel
theorem dX4_pushes_15 : decode cX4_pushes 15 = .ok (.iconst 1, 1) := by decide +kernel
theorem dX4_pushes_16 : decode cX4_pushes 16 = .ok (.iadd, 1) := by decide +kernel
theorem dX4_pushes_17 : decode cX4_pushes 17 = .ok (.putfield 82, 3) := by decide +kernel
theorem dX4_pushes_20 : decode cX4_pushes 20 = .ok (.aload_n 0, 1) := by decide +kernel
theorem dX4_pushes_21 : decode cX4_pushes 21 = .ok (.getfield 85, 3) := by decide +kernel
theorem dX4_pushes_24 : decode cX4_pushes 24 = .ok (.ifCond .le 55, 3) := by decide +kernel
theorem dX4_pushes_27 : decode cX4_pushes 27 = .ok (.aload_n 0, 1) := by decide +kernel
theorem dX4_pushes_28 : decode cX4_pushes 28 = .ok (.getfield 35, 3) := by decide +kernel
theorem dX4_pushes_31 : decode cX4_pushes 31 = .ok (.aload_n 0, 1) := by decide +kernel
theorem dX4_pushes_32 : decode cX4_pushes 32 = .ok (.getfield 85, 3) := by decide +kernel
theorem dX4_pushes_35 : decode cX4_pushes 35 = .ok (.iconst 1, 1) := by decide +kernel
theorem dX4_pushes_36 : decode cX4_pushes 36 = .ok (.isub, 1) := by decide +kernel
theorem dX4_pushes_37 : decode cX4_pushes 37 = .ok (.iaload, 1) := by decide +kernel
theorem dX4_pushes_38 : decode cX4_pushes 38 = .ok (.bipush 6, 2) := by decide +kernel
theorem dX4_pushes_40 : decode cX4_pushes 40 = .ok (.if_icmp .ne 39, 3) := by decide +kernel
theorem dX4_pushes_43 : decode cX4_pushes 43 = .ok (.aload_n 0, 1) := by decide +kernel
theorem dX4_pushes_44 : decode cX4_pushes 44 = .ok (.getfield 32, 3) := by decide +kernel
theorem dX4_pushes_47 : decode cX4_pushes 47 = .ok (.aload_n 0, 1) := by decide +kernel
theorem dX4_pushes_48 : decode cX4_pushes 48 = .ok (.getfield 82, 3) := by decide +kernel
theorem dX4_pushes_51 : decode cX4_pushes 51 = .ok (.iconst 1, 1) := by decide +kernel
theorem dX4_pushes_52 : decode cX4_pushes 52 = .ok (.isub, 1) := by decide +kernel
theorem dX4_pushes_53 : decode cX4_pushes 53 = .ok (.aload_n 0, 1) := by decide +kernel
theorem dX4_pushes_54 : decode cX4_pushes 54 = .ok (.getfield 32, 3) := by decide +kernel
theorem dX4_pushes_57 : decode cX4_pushes 57 = .ok (.aload_n 0, 1) := by decide +kernel
theorem dX4_pushes_58 : decode cX4_pushes 58 = .ok (.getfield 82, 3) := by decide +kernel
theorem dX4_pushes_61 : decode cX4_pushes 61 = .ok (.iconst 1, 1) := by decide +kernel
theorem dX4_pushes_62 : decode cX4_pushes 62 = .ok (.isub, 1) := by decide +kernel
theorem dX4_pushes_63 : decode cX4_pushes 63 = .ok (.laload, 1) := by decide +kernel
theorem dX4_pushes_64 : decode cX4_pushes 64 = .ok (.lneg, 1) := by decide +kernel
theorem dX4_pushes_65 : decode cX4_pushes 65 = .ok (.lastore, 1) := by decide +kernel
theorem dX4_pushes_66 : decode cX4_pushes 66 = .ok (.aload_n 0, 1) := by decide +kernel
theorem dX4_pushes_67 : decode cX4_pushes 67 = .ok (.dup, 1) := by decide +kernel
theorem dX4_pushes_68 : decode cX4_pushes 68 = .ok (.getfield 85, 3) := by decide +kernel
theorem dX4_pushes_71 : decode cX4_pushes 71 = .ok (.iconst 1, 1) := by decide +kernel
theorem dX4_pushes_72 : decode cX4_pushes 72 = .ok (.isub, 1) := by decide +kernel
theorem dX4_pushes_73 : decode cX4_pushes 73 = .ok (.putfield 85, 3) := by decide +kernel
theorem dX4_pushes_76 : decode cX4_pushes 76 = .ok (.goto (-56), 3) := by decide +kernel
theorem dX4_pushes_79 : decode cX4_pushes 79 = .ok (.return_, 1) := by decide +kernel
theorem dX4_size_0 : decode cX4_size 0 = .ok (.lload_n 0, 1) := by decide +kernel
theorem dX4_size_1 : decode cX4_size 1 = .ok (.lconst 0, 1) := by decide +kernel
theorem dX4_size_2 : decode cX4_size 2 = .ok (.lcmp, 1) := by decide +kernel
theorem dX4_size_3 : decode cX4_size 3 = .ok (.ifCond .ge 8, 3) := by decide +kernel
theorem dX4_size_6 : decode cX4_size 6 = .ok (.lload_n 0, 1) := by decide +kernel
theorem dX4_size_7 : decode cX4_size 7 = .ok (.lneg, 1) := by decide +kernel
theorem dX4_size_8 : decode cX4_size 8 = .ok (.goto 4, 3) := by decide +kernel
theorem dX4_size_11 : decode cX4_size 11 = .ok (.lload_n 0, 1) := by decide +kernel
theorem dX4_size_12 : decode cX4_size 12 = .ok (.lreturn, 1) := by decide +kernel
theorem dX4_quotient_0 : decode cX4_quotient 0 = .ok (.lload_n 0, 1) := by decide +kernel
theorem dX4_quotient_1 : decode cX4_quotient 1 = .ok (.lload_n 2, 1) := by decide +kernel
theorem dX4_quotient_2 : decode cX4_quotient 2 = .ok (.ldiv, 1) := by decide +kernel
theorem dX4_quotient_3 : decode cX4_quotient 3 = .ok (.lstore 4, 2) := by decide +kernel
theorem dX4_quotient_5 : decode cX4_quotient 5 = .ok (.lload_n 0, 1) := by decide +kernel
theorem dX4_quotient_6 : decode cX4_quotient 6 = .ok (.lload_n 2, 1) := by decide +kernel
theorem dX4_quotient_7 : decode cX4_quotient 7 = .ok (.lrem, 1) := by decide +kernel
theorem dX4_quotient_8 : decode cX4_quotient 8 = .ok (.lconst 0, 1) := by decide +kernel
theorem dX4_quotient_9 : decode cX4_quotient 9 = .ok (.lcmp, 1) := by decide +kernel
theorem dX4_quotient_10 : decode cX4_quotient 10 = .ok (.ifCond .eq 35, 3) := by decide +kernel
theorem dX4_quotient_13 : decode cX4_quotient 13 = .ok (.lload_n 0, 1) := by decide +kernel
theorem dX4_quotient_14 : decode cX4_quotient 14 = .ok (.lconst 0, 1) := by decide +kernel
theorem dX4_quotient_15 : decode cX4_quotient 15 = .ok (.lcmp, 1) := by decide +kernel
theorem dX4_quotient_16 : decode cX4_quotient 16 = .ok (.ifCond .ge 7, 3) := by decide +kernel
theorem dX4_quotient_19 : decode cX4_quotient 19 = .ok (.iconst 1, 1) := by decide +kernel
theorem dX4_quotient_20 : decode cX4_quotient 20 = .ok (.goto 4, 3) := by decide +kernel
theorem dX4_quotient_23 : decode cX4_quotient 23 = .ok (.iconst 0, 1) := by decide +kernel
theorem dX4_quotient_24 : decode cX4_quotient 24 = .ok (.lload_n 2, 1) := by decide +kernel
theorem dX4_quotient_25 : decode cX4_quotient 25 = .ok (.lconst 0, 1) := by decide +kernel
theorem dX4_quotient_26 : decode cX4_quotient 26 = .ok (.lcmp, 1) := by decide +kernel
theorem dX4_quotient_27 : decode cX4_quotient 27 = .ok (.ifCond .ge 7, 3) := by decide +kernel
theorem dX4_quotient_30 : decode cX4_quotient 30 = .ok (.iconst 1, 1) := by decide +kernel
theorem dX4_quotient_31 : decode cX4_quotient 31 = .ok (.goto 4, 3) := by decide +kernel
theorem dX4_quotient_34 : decode cX4_quotient 34 = .ok (.iconst 0, 1) := by decide +kernel
theorem dX4_quotient_35 : decode cX4_quotient 35 = .ok (.if_icmp .eq 10, 3) := by decide +kernel
theorem dX4_quotient_38 : decode cX4_quotient 38 = .ok (.lload 4, 2) := by decide +kernel
theorem dX4_quotient_40 : decode cX4_quotient 40 = .ok (.lconst 1, 1) := by decide +kernel
theorem dX4_quotient_41 : decode cX4_quotient 41 = .ok (.lsub, 1) := by decide +kernel
theorem dX4_quotient_42 : decode cX4_quotient 42 = .ok (.goto 5, 3) := by decide +kernel
theorem dX4_quotient_45 : decode cX4_quotient 45 = .ok (.lload 4, 2) := by decide +kernel
theorem dX4_quotient_47 : decode cX4_quotient 47 = .ok (.lreturn, 1) := by decide +kernel
set_option maxRecDepth 20000 in
theorem ggX4_joins_X4_size : GoodIn wsX4_joins wsX4_size := goodIn_r _ [10] (by decide +kernel) (by decide +kernel)
set_option maxRecDepth 20000 in
theorem gX4_joins_X4_size : GoodIn wsX4_joins (va_wsS RX4 88 yX4_size wsX4_size) := goodIn_app (goodIn_of _ (by decide +kernel)) ggX4_joins_X4_size
set_option maxRecDepth 20000 in
theorem ggX4_joins_X4_quotient : GoodIn wsX4_joins wsX4_quotient := goodIn_ca (goodIn_r _ [13] (by decide +kernel) (by decide +kernel)) (goodIn_sub (fun _ h => List.mem_cons_of_mem _ (List.mem_append_right _ h)) (by decide +kernel))
set_option maxRecDepth 20000 in
theorem gX4_joins_X4_quotient : GoodIn wsX4_joins (va_wsS RX4 94 yX4_quotient wsX4_quotient) := goodIn_app (goodIn_of _ (by decide +kernel)) ggX4_joins_X4_quotient
theorem dX4_joins_0 : decode cX4_joins 0 = .ok (.aload_n 0, 1) := by decide +kernel
theorem dX4_joins_1 : decode cX4_joins 1 = .ok (.dup, 1) := by decide +kernel
theorem dX4_joins_2 : decode cX4_joins 2 = .ok (.getfield 85, 3) := by decide +kernel
theorem dX4_joins_5 : decode cX4_joins 5 = .ok (.iconst 1, 1) := by decide +kernel
theorem dX4_joins_6 : decode cX4_joins 6 = .ok (.isub, 1) := by decide +kernel
theorem dX4_joins_7 : decode cX4_joins 7 = .ok (.putfield 85, 3) := by decide +kernel
theorem dX4_joins_10 : decode cX4_joins 10 = .ok (.aload_n 0, 1) := by decide +kernel
theorem dX4_joins_11 : decode cX4_joins 11 = .ok (.dup, 1) := by decide +kernel
theorem dX4_joins_12 : decode cX4_joins 12 = .ok (.getfield 82, 3) := by decide +kernel
theorem dX4_joins_15 : decode cX4_joins 15 = .ok (.iconst 1, 1) := by decide +kernel
theorem dX4_joins_16 : decode cX4_joins 16 = .ok (.isub, 1) := by decide +kernel
theorem dX4_joins_17 : decode cX4_joins 17 = .ok (.putfield 82, 3) := by decide +kernel
theorem dX4_joins_20 : decode cX4_joins 20 = .ok (.aload_n 0, 1) := by decide +kernel
theorem dX4_joins_21 : decode cX4_joins 21 = .ok (.getfield 35, 3) := by decide +kernel
theorem dX4_joins_24 : decode cX4_joins 24 = .ok (.aload_n 0, 1) := by decide +kernel
theorem dX4_joins_25 : decode cX4_joins 25 = .ok (.getfield 85, 3) := by decide +kernel
theorem dX4_joins_28 : decode cX4_joins 28 = .ok (.iaload, 1) := by decide +kernel
theorem dX4_joins_29 : decode cX4_joins 29 = .ok (.istore_n 1, 1) := by decide +kernel
theorem dX4_joins_30 : decode cX4_joins 30 = .ok (.aload_n 0, 1) := by decide +kernel
theorem dX4_joins_31 : decode cX4_joins 31 = .ok (.getfield 32, 3) := by decide +kernel
theorem dX4_joins_34 : decode cX4_joins 34 = .ok (.aload_n 0, 1) := by decide +kernel
theorem dX4_joins_35 : decode cX4_joins 35 = .ok (.getfield 82, 3) := by decide +kernel
theorem dX4_joins_38 : decode cX4_joins 38 = .ok (.iconst 1, 1) := by decide +kernel
theorem dX4_joins_39 : decode cX4_joins 39 = .ok (.isub, 1) := by decide +kernel
theorem dX4_joins_40 : decode cX4_joins 40 = .ok (.laload, 1) := by decide +kernel
theorem dX4_joins_41 : decode cX4_joins 41 = .ok (.lstore_n 2, 1) := by decide +kernel
theorem dX4_joins_42 : decode cX4_joins 42 = .ok (.aload_n 0, 1) := by decide +kernel
theorem dX4_joins_43 : decode cX4_joins 43 = .ok (.getfield 32, 3) := by decide +kernel
theorem dX4_joins_46 : decode cX4_joins 46 = .ok (.aload_n 0, 1) := by decide +kernel
theorem dX4_joins_47 : decode cX4_joins 47 = .ok (.getfield 82, 3) := by decide +kernel
theorem dX4_joins_50 : decode cX4_joins 50 = .ok (.laload, 1) := by decide +kernel
theorem dX4_joins_51 : decode cX4_joins 51 = .ok (.lstore 4, 2) := by decide +kernel
theorem dX4_joins_53 : decode cX4_joins 53 = .ok (.iload_n 1, 1) := by decide +kernel
theorem dX4_joins_54 : decode cX4_joins 54 = .ok (.iconst 2, 1) := by decide +kernel
theorem dX4_joins_55 : decode cX4_joins 55 = .ok (.if_icmp .ne 30, 3) := by decide +kernel
theorem dX4_joins_58 : decode cX4_joins 58 = .ok (.lload_n 2, 1) := by decide +kernel
theorem dX4_joins_59 : decode cX4_joins 59 = .ok (.lconst 0, 1) := by decide +kernel
theorem dX4_joins_60 : decode cX4_joins 60 = .ok (.lcmp, 1) := by decide +kernel
theorem dX4_joins_61 : decode cX4_joins 61 = .ok (.ifCond .eq 24, 3) := by decide +kernel
theorem dX4_joins_64 : decode cX4_joins 64 = .ok (.lload 4, 2) := by decide +kernel
theorem dX4_joins_66 : decode cX4_joins 66 = .ok (.invokestatic 88, 3) := by decide +kernel
theorem dX4_joins_69 : decode cX4_joins 69 = .ok (.ldc2_w 92, 3) := by decide +kernel
theorem dX4_joins_72 : decode cX4_joins 72 = .ok (.lload_n 2, 1) := by decide +kernel
theorem dX4_joins_73 : decode cX4_joins 73 = .ok (.invokestatic 88, 3) := by decide +kernel
theorem dX4_joins_76 : decode cX4_joins 76 = .ok (.ldiv, 1) := by decide +kernel
theorem dX4_joins_77 : decode cX4_joins 77 = .ok (.lcmp, 1) := by decide +kernel
theorem dX4_joins_78 : decode cX4_joins 78 = .ok (.ifCond .le 7, 3) := by decide +kernel
theorem dX4_joins_81 : decode cX4_joins 81 = .ok (.iconst 1, 1) := by decide +kernel
theorem dX4_joins_82 : decode cX4_joins 82 = .ok (.goto 4, 3) := by decide +kernel
theorem dX4_joins_85 : decode cX4_joins 85 = .ok (.iconst 0, 1) := by decide +kernel
theorem dX4_joins_86 : decode cX4_joins 86 = .ok (.istore 6, 2) := by decide +kernel
theorem dX4_joins_88 : decode cX4_joins 88 = .ok (.iload_n 1, 1) := by decide +kernel
theorem dX4_joins_89 : decode cX4_joins 89 = .ok (.iconst 3, 1) := by decide +kernel
theorem dX4_joins_90 : decode cX4_joins 90 = .ok (.if_icmp .ne 14, 3) := by decide +kernel
theorem dX4_joins_93 : decode cX4_joins 93 = .ok (.lload 4, 2) := by decide +kernel
theorem dX4_joins_95 : decode cX4_joins 95 = .ok (.lconst 0, 1) := by decide +kernel
theorem dX4_joins_96 : decode cX4_joins 96 = .ok (.lcmp, 1) := by decide +kernel
theorem dX4_joins_97 : decode cX4_joins 97 = .ok (.ifCond .ne 7, 3) := by decide +kernel
theorem dX4_joins_100 : decode cX4_joins 100 = .ok (.iconst 1, 1) := by decide +kernel
theorem dX4_joins_101 : decode cX4_joins 101 = .ok (.goto 4, 3) := by decide +kernel
theorem dX4_joins_104 : decode cX4_joins 104 = .ok (.iconst 0, 1) := by decide +kernel
theorem dX4_joins_105 : decode cX4_joins 105 = .ok (.istore 7, 2) := by decide +kernel
theorem dX4_joins_107 : decode cX4_joins 107 = .ok (.iload 6, 2) := by decide +kernel
theorem dX4_joins_109 : decode cX4_joins 109 = .ok (.ifCond .ne 8, 3) := by decide +kernel
theorem dX4_joins_112 : decode cX4_joins 112 = .ok (.iload 7, 2) := by decide +kernel
theorem dX4_joins_114 : decode cX4_joins 114 = .ok (.ifCond .eq 7, 3) := by decide +kernel
theorem dX4_joins_117 : decode cX4_joins 117 = .ok (.lconst 0, 1) := by decide +kernel
theorem dX4_joins_118 : decode cX4_joins 118 = .ok (.goto 44, 3) := by decide +kernel
theorem dX4_joins_121 : decode cX4_joins 121 = .ok (.iload_n 1, 1) := by decide +kernel
theorem dX4_joins_122 : decode cX4_joins 122 = .ok (.ifCond .ne 10, 3) := by decide +kernel
theorem dX4_joins_125 : decode cX4_joins 125 = .ok (.lload_n 2, 1) := by decide +kernel
theorem dX4_joins_126 : decode cX4_joins 126 = .ok (.lload 4, 2) := by decide +kernel
theorem dX4_joins_128 : decode cX4_joins 128 = .ok (.ladd, 1) := by decide +kernel
theorem dX4_joins_129 : decode cX4_joins 129 = .ok (.goto 33, 3) := by decide +kernel
theorem dX4_joins_132 : decode cX4_joins 132 = .ok (.iload_n 1, 1) := by decide +kernel
theorem dX4_joins_133 : decode cX4_joins 133 = .ok (.iconst 1, 1) := by decide +kernel
theorem dX4_joins_134 : decode cX4_joins 134 = .ok (.if_icmp .ne 10, 3) := by decide +kernel
theorem dX4_joins_137 : decode cX4_joins 137 = .ok (.lload_n 2, 1) := by decide +kernel
theorem dX4_joins_138 : decode cX4_joins 138 = .ok (.lload 4, 2) := by decide +kernel
theorem dX4_joins_140 : decode cX4_joins 140 = .ok (.lsub, 1) := by decide +kernel
theorem dX4_joins_141 : decode cX4_joins 141 = .ok (.goto 21, 3) := by decide +kernel
theorem dX4_joins_144 : decode cX4_joins 144 = .ok (.iload_n 1, 1) := by decide +kernel
theorem dX4_joins_145 : decode cX4_joins 145 = .ok (.iconst 2, 1) := by decide +kernel
theorem dX4_joins_146 : decode cX4_joins 146 = .ok (.if_icmp .ne 10, 3) := by decide +kernel
theorem dX4_joins_149 : decode cX4_joins 149 = .ok (.lload_n 2, 1) := by decide +kernel
theorem dX4_joins_150 : decode cX4_joins 150 = .ok (.lload 4, 2) := by decide +kernel
theorem dX4_joins_152 : decode cX4_joins 152 = .ok (.lmul, 1) := by decide +kernel
theorem dX4_joins_153 : decode cX4_joins 153 = .ok (.goto 9, 3) := by decide +kernel
theorem dX4_joins_156 : decode cX4_joins 156 = .ok (.lload_n 2, 1) := by decide +kernel
theorem dX4_joins_157 : decode cX4_joins 157 = .ok (.lload 4, 2) := by decide +kernel
theorem dX4_joins_159 : decode cX4_joins 159 = .ok (.invokestatic 94, 3) := by decide +kernel
theorem dX4_joins_162 : decode cX4_joins 162 = .ok (.lstore 8, 2) := by decide +kernel
theorem dX4_joins_164 : decode cX4_joins 164 = .ok (.aload_n 0, 1) := by decide +kernel
theorem dX4_joins_165 : decode cX4_joins 165 = .ok (.aload_n 0, 1) := by decide +kernel
theorem dX4_joins_166 : decode cX4_joins 166 = .ok (.getfield 98, 3) := by decide +kernel
theorem dX4_joins_169 : decode cX4_joins 169 = .ok (.ifCond .ne 25, 3) := by decide +kernel
theorem dX4_joins_172 : decode cX4_joins 172 = .ok (.iload 6, 2) := by decide +kernel
theorem dX4_joins_174 : decode cX4_joins 174 = .ok (.ifCond .ne 20, 3) := by decide +kernel
theorem dX4_joins_177 : decode cX4_joins 177 = .ok (.iload 7, 2) := by decide +kernel
theorem dX4_joins_179 : decode cX4_joins 179 = .ok (.ifCond .ne 15, 3) := by decide +kernel
theorem dX4_joins_182 : decode cX4_joins 182 = .ok (.lload 8, 2) := by decide +kernel
theorem dX4_joins_184 : decode cX4_joins 184 = .ok (.invokestatic 88, 3) := by decide +kernel
theorem dX4_joins_187 : decode cX4_joins 187 = .ok (.ldc2_w 92, 3) := by decide +kernel
theorem dX4_joins_190 : decode cX4_joins 190 = .ok (.lcmp, 1) := by decide +kernel
theorem dX4_joins_191 : decode cX4_joins 191 = .ok (.ifCond .le 7, 3) := by decide +kernel
theorem dX4_joins_194 : decode cX4_joins 194 = .ok (.iconst 1, 1) := by decide +kernel
theorem dX4_joins_195 : decode cX4_joins 195 = .ok (.goto 4, 3) := by decide +kernel
theorem dX4_joins_198 : decode cX4_joins 198 = .ok (.iconst 0, 1) := by decide +kernel
theorem dX4_joins_199 : decode cX4_joins 199 = .ok (.putfield 98, 3) := by decide +kernel
theorem dX4_joins_202 : decode cX4_joins 202 = .ok (.aload_n 0, 1) := by decide +kernel
theorem dX4_joins_203 : decode cX4_joins 203 = .ok (.getfield 32, 3) := by decide +kernel
theorem dX4_joins_206 : decode cX4_joins 206 = .ok (.aload_n 0, 1) := by decide +kernel
theorem dX4_joins_207 : decode cX4_joins 207 = .ok (.getfield 82, 3) := by decide +kernel
theorem dX4_joins_210 : decode cX4_joins 210 = .ok (.iconst 1, 1) := by decide +kernel
theorem dX4_joins_211 : decode cX4_joins 211 = .ok (.isub, 1) := by decide +kernel
theorem dX4_joins_212 : decode cX4_joins 212 = .ok (.aload_n 0, 1) := by decide +kernel
theorem dX4_joins_213 : decode cX4_joins 213 = .ok (.getfield 98, 3) := by decide +kernel
theorem dX4_joins_216 : decode cX4_joins 216 = .ok (.ifCond .eq 7, 3) := by decide +kernel
theorem dX4_joins_219 : decode cX4_joins 219 = .ok (.lconst 0, 1) := by decide +kernel
theorem dX4_joins_220 : decode cX4_joins 220 = .ok (.goto 5, 3) := by decide +kernel
theorem dX4_joins_223 : decode cX4_joins 223 = .ok (.lload 8, 2) := by decide +kernel
theorem dX4_joins_225 : decode cX4_joins 225 = .ok (.lastore, 1) := by decide +kernel
theorem dX4_joins_226 : decode cX4_joins 226 = .ok (.return_, 1) := by decide +kernel
set_option maxRecDepth 20000 in
theorem ggX4_joinsAll_X4_joins : GoodIn wsX4_joinsAll wsX4_joins := goodIn_ca (goodIn_ca (goodIn_r _ [7, 1, 8, 2, 9, 10, 11, 12, 13, 6, 14, 15, 16, 17, 18, 19, 20, 21, 22, 23, 24, 25, 26, 27, 28, 29, 30, 31, 32, 33] (by decide +kernel) (by decide +kernel)) (goodIn_sub (fun _ h => List.mem_cons_of_mem _ (List.mem_append_left _ (List.mem_append_right _ h))) (by decide +kernel))) (goodIn_sub (fun _ h => List.mem_cons_of_mem _ (List.mem_append_right _ h)) (by decide +kernel))
set_option maxRecDepth 20000 in
theorem gX4_joinsAll_X4_joins : GoodIn wsX4_joinsAll (wsV RX4 102 RX4 yX4_joins wsX4_joins) := goodIn_app (goodIn_of _ (by decide +kernel)) ggX4_joinsAll_X4_joins
theorem dX4_joinsAll_0 : decode cX4_joinsAll 0 = .ok (.aload_n 0, 1) := by decide +kernel
theorem dX4_joinsAll_1 : decode cX4_joinsAll 1 = .ok (.getfield 85, 3) := by decide +kernel
theorem dX4_joinsAll_4 : decode cX4_joinsAll 4 = .ok (.ifCond .le 42, 3) := by decide +kernel
theorem dX4_joinsAll_7 : decode cX4_joinsAll 7 = .ok (.aload_n 0, 1) := by decide +kernel
theorem dX4_joinsAll_8 : decode cX4_joinsAll 8 = .ok (.getfield 35, 3) := by decide +kernel
theorem dX4_joinsAll_11 : decode cX4_joinsAll 11 = .ok (.aload_n 0, 1) := by decide +kernel
theorem dX4_joinsAll_12 : decode cX4_joinsAll 12 = .ok (.getfield 85, 3) := by decide +kernel
theorem dX4_joinsAll_15 : decode cX4_joinsAll 15 = .ok (.iconst 1, 1) := by decide +kernel
theorem dX4_joinsAll_16 : decode cX4_joinsAll 16 = .ok (.isub, 1) := by decide +kernel
theorem dX4_joinsAll_17 : decode cX4_joinsAll 17 = .ok (.iaload, 1) := by decide +kernel
theorem dX4_joinsAll_18 : decode cX4_joinsAll 18 = .ok (.iconst 4, 1) := by decide +kernel
theorem dX4_joinsAll_19 : decode cX4_joinsAll 19 = .ok (.if_icmp .eq 27, 3) := by decide +kernel
theorem dX4_joinsAll_22 : decode cX4_joinsAll 22 = .ok (.aload_n 0, 1) := by decide +kernel
theorem dX4_joinsAll_23 : decode cX4_joinsAll 23 = .ok (.getfield 35, 3) := by decide +kernel
theorem dX4_joinsAll_26 : decode cX4_joinsAll 26 = .ok (.aload_n 0, 1) := by decide +kernel
theorem dX4_joinsAll_27 : decode cX4_joinsAll 27 = .ok (.getfield 85, 3) := by decide +kernel
theorem dX4_joinsAll_30 : decode cX4_joinsAll 30 = .ok (.iconst 1, 1) := by decide +kernel
theorem dX4_joinsAll_31 : decode cX4_joinsAll 31 = .ok (.isub, 1) := by decide +kernel
theorem dX4_joinsAll_32 : decode cX4_joinsAll 32 = .ok (.iaload, 1) := by decide +kernel
theorem dX4_joinsAll_33 : decode cX4_joinsAll 33 = .ok (.iconst 2, 1) := by decide +kernel
theorem dX4_joinsAll_34 : decode cX4_joinsAll 34 = .ok (.idiv, 1) := by decide +kernel
theorem dX4_joinsAll_35 : decode cX4_joinsAll 35 = .ok (.iload_n 1, 1) := by decide +kernel
theorem dX4_joinsAll_36 : decode cX4_joinsAll 36 = .ok (.if_icmp .lt 10, 3) := by decide +kernel
theorem dX4_joinsAll_39 : decode cX4_joinsAll 39 = .ok (.aload_n 0, 1) := by decide +kernel
theorem dX4_joinsAll_40 : decode cX4_joinsAll 40 = .ok (.invokevirtual 102, 3) := by decide +kernel
theorem dX4_joinsAll_43 : decode cX4_joinsAll 43 = .ok (.goto (-43), 3) := by decide +kernel
theorem dX4_joinsAll_46 : decode cX4_joinsAll 46 = .ok (.return_, 1) := by decide +kernel
set_option maxRecDepth 20000 in
theorem ggX4_reads_X4_pushes : GoodIn wsX4_reads wsX4_pushes := goodIn_ca (goodIn_r _ [14, 8, 7, 6, 9, 30, 31, 32, 33, 34, 35, 36, 37, 38, 39, 40, 41, 42, 43, 44, 45] (by decide +kernel) (by decide +kernel)) (goodIn_sub (fun _ h => List.mem_cons_of_mem _ (List.mem_append_left _ (List.mem_append_right _ h))) (by decide +kernel))
set_option maxRecDepth 20000 in
theorem gX4_reads_X4_pushes : GoodIn wsX4_reads (wsV RX4 105 RX4 yX4_pushes wsX4_pushes) := goodIn_app (goodIn_of _ (by decide +kernel)) ggX4_reads_X4_pushes
set_option maxRecDepth 20000 in
theorem ggX4_reads_X4_joinsAll : GoodIn wsX4_reads wsX4_joinsAll := goodIn_ca (goodIn_ca (goodIn_r _ [18, 6, 9, 19, 20, 21, 13, 22, 7, 8, 23, 3, 24, 25, 26, 27, 28, 29, 30, 31, 32, 33, 34, 35, 36, 37, 38, 39, 40, 41, 42, 43, 44, 45] (by decide +kernel) (by decide +kernel)) (goodIn_sub (fun _ h => List.mem_cons_of_mem _ (List.mem_append_left _ (List.mem_append_right _ h))) (by decide +kernel))) (goodIn_sub (fun _ h => List.mem_cons_of_mem _ (List.mem_append_right _ h)) (by decide +kernel))
set_option maxRecDepth 20000 in
theorem gX4_reads_X4_joinsAll : GoodIn wsX4_reads (wsV RX4 109 RX4 yX4_joinsAll wsX4_joinsAll) := goodIn_app (goodIn_of _ (by decide +kernel)) ggX4_reads_X4_joinsAll
theorem dX4_reads_0 : decode cX4_reads 0 = .ok (.iload_n 1, 1) := by decide +kernel
theorem dX4_reads_1 : decode cX4_reads 1 = .ok (.ldc 66, 2) := by decide +kernel
theorem dX4_reads_3 : decode cX4_reads 3 = .ok (.isub, 1) := by decide +kernel
theorem dX4_reads_4 : decode cX4_reads 4 = .ok (.istore_n 3, 1) := by decide +kernel
theorem dX4_reads_5 : decode cX4_reads 5 = .ok (.iload_n 1, 1) := by decide +kernel
theorem dX4_reads_6 : decode cX4_reads 6 = .ok (.ldc 65, 2) := by decide +kernel
theorem dX4_reads_8 : decode cX4_reads 8 = .ok (.if_icmp .ge 12, 3) := by decide +kernel
theorem dX4_reads_11 : decode cX4_reads 11 = .ok (.aload_n 0, 1) := by decide +kernel
theorem dX4_reads_12 : decode cX4_reads 12 = .ok (.iload_n 1, 1) := by decide +kernel
theorem dX4_reads_13 : decode cX4_reads 13 = .ok (.i2l, 1) := by decide +kernel
theorem dX4_reads_14 : decode cX4_reads 14 = .ok (.invokevirtual 105, 3) := by decide +kernel
theorem dX4_reads_17 : decode cX4_reads 17 = .ok (.goto 150, 3) := by decide +kernel
theorem dX4_reads_20 : decode cX4_reads 20 = .ok (.iload_n 1, 1) := by decide +kernel
theorem dX4_reads_21 : decode cX4_reads 21 = .ok (.ldc 66, 2) := by decide +kernel
theorem dX4_reads_23 : decode cX4_reads 23 = .ok (.if_icmp .ge 48, 3) := by decide +kernel
theorem dX4_reads_26 : decode cX4_reads 26 = .ok (.aload_n 0, 1) := by decide +kernel
theorem dX4_reads_27 : decode cX4_reads 27 = .ok (.aload_n 0, 1) := by decide +kernel
theorem dX4_reads_28 : decode cX4_reads 28 = .ok (.getfield 98, 3) := by decide +kernel
theorem dX4_reads_31 : decode cX4_reads 31 = .ok (.ifCond .ne 16, 3) := by decide +kernel
theorem dX4_reads_34 : decode cX4_reads 34 = .ok (.aload_n 0, 1) := by decide +kernel
theorem dX4_reads_35 : decode cX4_reads 35 = .ok (.getfield 29, 3) := by decide +kernel
theorem dX4_reads_38 : decode cX4_reads 38 = .ok (.iload_n 1, 1) := by decide +kernel
theorem dX4_reads_39 : decode cX4_reads 39 = .ok (.ldc 65, 2) := by decide +kernel
theorem dX4_reads_41 : decode cX4_reads 41 = .ok (.isub, 1) := by decide +kernel
theorem dX4_reads_42 : decode cX4_reads 42 = .ok (.iaload, 1) := by decide +kernel
theorem dX4_reads_43 : decode cX4_reads 43 = .ok (.iconst 2, 1) := by decide +kernel
theorem dX4_reads_44 : decode cX4_reads 44 = .ok (.if_icmp .ne 7, 3) := by decide +kernel
theorem dX4_reads_47 : decode cX4_reads 47 = .ok (.iconst 1, 1) := by decide +kernel
theorem dX4_reads_48 : decode cX4_reads 48 = .ok (.goto 4, 3) := by decide +kernel
theorem dX4_reads_51 : decode cX4_reads 51 = .ok (.iconst 0, 1) := by decide +kernel
theorem dX4_reads_52 : decode cX4_reads 52 = .ok (.putfield 98, 3) := by decide +kernel
theorem dX4_reads_55 : decode cX4_reads 55 = .ok (.aload_n 0, 1) := by decide +kernel
theorem dX4_reads_56 : decode cX4_reads 56 = .ok (.aload_n 0, 1) := by decide +kernel
theorem dX4_reads_57 : decode cX4_reads 57 = .ok (.getfield 25, 3) := by decide +kernel
theorem dX4_reads_60 : decode cX4_reads 60 = .ok (.iload_n 1, 1) := by decide +kernel
theorem dX4_reads_61 : decode cX4_reads 61 = .ok (.ldc 65, 2) := by decide +kernel
theorem dX4_reads_63 : decode cX4_reads 63 = .ok (.isub, 1) := by decide +kernel
theorem dX4_reads_64 : decode cX4_reads 64 = .ok (.laload, 1) := by decide +kernel
theorem dX4_reads_65 : decode cX4_reads 65 = .ok (.invokevirtual 105, 3) := by decide +kernel
theorem dX4_reads_68 : decode cX4_reads 68 = .ok (.goto 99, 3) := by decide +kernel
theorem dX4_reads_71 : decode cX4_reads 71 = .ok (.iload_n 3, 1) := by decide +kernel
theorem dX4_reads_72 : decode cX4_reads 72 = .ok (.iconst 5, 1) := by decide +kernel
theorem dX4_reads_73 : decode cX4_reads 73 = .ok (.if_icmp .ne 44, 3) := by decide +kernel
theorem dX4_reads_76 : decode cX4_reads 76 = .ok (.aload_n 0, 1) := by decide +kernel
theorem dX4_reads_77 : decode cX4_reads 77 = .ok (.iconst 0, 1) := by decide +kernel
theorem dX4_reads_78 : decode cX4_reads 78 = .ok (.invokevirtual 109, 3) := by decide +kernel
theorem dX4_reads_81 : decode cX4_reads 81 = .ok (.aload_n 0, 1) := by decide +kernel
theorem dX4_reads_82 : decode cX4_reads 82 = .ok (.dup, 1) := by decide +kernel
theorem dX4_reads_83 : decode cX4_reads 83 = .ok (.getfield 85, 3) := by decide +kernel
theorem dX4_reads_86 : decode cX4_reads 86 = .ok (.iconst 1, 1) := by decide +kernel
theorem dX4_reads_87 : decode cX4_reads 87 = .ok (.isub, 1) := by decide +kernel
theorem dX4_reads_88 : decode cX4_reads 88 = .ok (.putfield 85, 3) := by decide +kernel
theorem dX4_reads_91 : decode cX4_reads 91 = .ok (.aload_n 0, 1) := by decide +kernel
theorem dX4_reads_92 : decode cX4_reads 92 = .ok (.dup, 1) := by decide +kernel
theorem dX4_reads_93 : decode cX4_reads 93 = .ok (.getfield 82, 3) := by decide +kernel
theorem dX4_reads_96 : decode cX4_reads 96 = .ok (.iconst 1, 1) := by decide +kernel
theorem dX4_reads_97 : decode cX4_reads 97 = .ok (.isub, 1) := by decide +kernel
theorem dX4_reads_98 : decode cX4_reads 98 = .ok (.putfield 82, 3) := by decide +kernel
theorem dX4_reads_101 : decode cX4_reads 101 = .ok (.aload_n 0, 1) := by decide +kernel
theorem dX4_reads_102 : decode cX4_reads 102 = .ok (.aload_n 0, 1) := by decide +kernel
theorem dX4_reads_103 : decode cX4_reads 103 = .ok (.getfield 32, 3) := by decide +kernel
theorem dX4_reads_106 : decode cX4_reads 106 = .ok (.aload_n 0, 1) := by decide +kernel
theorem dX4_reads_107 : decode cX4_reads 107 = .ok (.getfield 82, 3) := by decide +kernel
theorem dX4_reads_110 : decode cX4_reads 110 = .ok (.laload, 1) := by decide +kernel
theorem dX4_reads_111 : decode cX4_reads 111 = .ok (.invokevirtual 105, 3) := by decide +kernel
theorem dX4_reads_114 : decode cX4_reads 114 = .ok (.goto 53, 3) := by decide +kernel
theorem dX4_reads_117 : decode cX4_reads 117 = .ok (.iload_n 3, 1) := by decide +kernel
theorem dX4_reads_118 : decode cX4_reads 118 = .ok (.iconst 4, 1) := by decide +kernel
theorem dX4_reads_119 : decode cX4_reads 119 = .ok (.if_icmp .eq 14, 3) := by decide +kernel
theorem dX4_reads_122 : decode cX4_reads 122 = .ok (.iload_n 2, 1) := by decide +kernel
theorem dX4_reads_123 : decode cX4_reads 123 = .ok (.ifCond .ne 10, 3) := by decide +kernel
theorem dX4_reads_126 : decode cX4_reads 126 = .ok (.aload_n 0, 1) := by decide +kernel
theorem dX4_reads_127 : decode cX4_reads 127 = .ok (.iload_n 3, 1) := by decide +kernel
theorem dX4_reads_128 : decode cX4_reads 128 = .ok (.iconst 2, 1) := by decide +kernel
theorem dX4_reads_129 : decode cX4_reads 129 = .ok (.idiv, 1) := by decide +kernel
theorem dX4_reads_130 : decode cX4_reads 130 = .ok (.invokevirtual 109, 3) := by decide +kernel
theorem dX4_reads_133 : decode cX4_reads 133 = .ok (.aload_n 0, 1) := by decide +kernel
theorem dX4_reads_134 : decode cX4_reads 134 = .ok (.getfield 35, 3) := by decide +kernel
theorem dX4_reads_137 : decode cX4_reads 137 = .ok (.aload_n 0, 1) := by decide +kernel
theorem dX4_reads_138 : decode cX4_reads 138 = .ok (.getfield 85, 3) := by decide +kernel
theorem dX4_reads_141 : decode cX4_reads 141 = .ok (.iload_n 3, 1) := by decide +kernel
theorem dX4_reads_142 : decode cX4_reads 142 = .ok (.iconst 1, 1) := by decide +kernel
theorem dX4_reads_143 : decode cX4_reads 143 = .ok (.if_icmp .ne 12, 3) := by decide +kernel
theorem dX4_reads_146 : decode cX4_reads 146 = .ok (.iload_n 2, 1) := by decide +kernel
theorem dX4_reads_147 : decode cX4_reads 147 = .ok (.ifCond .eq 8, 3) := by decide +kernel
theorem dX4_reads_150 : decode cX4_reads 150 = .ok (.bipush 6, 2) := by decide +kernel
theorem dX4_reads_152 : decode cX4_reads 152 = .ok (.goto 4, 3) := by decide +kernel
theorem dX4_reads_155 : decode cX4_reads 155 = .ok (.iload_n 3, 1) := by decide +kernel
theorem dX4_reads_156 : decode cX4_reads 156 = .ok (.iastore, 1) := by decide +kernel
theorem dX4_reads_157 : decode cX4_reads 157 = .ok (.aload_n 0, 1) := by decide +kernel
theorem dX4_reads_158 : decode cX4_reads 158 = .ok (.dup, 1) := by decide +kernel
theorem dX4_reads_159 : decode cX4_reads 159 = .ok (.getfield 85, 3) := by decide +kernel
theorem dX4_reads_162 : decode cX4_reads 162 = .ok (.iconst 1, 1) := by decide +kernel
theorem dX4_reads_163 : decode cX4_reads 163 = .ok (.iadd, 1) := by decide +kernel
theorem dX4_reads_164 : decode cX4_reads 164 = .ok (.putfield 85, 3) := by decide +kernel
theorem dX4_reads_167 : decode cX4_reads 167 = .ok (.return_, 1) := by decide +kernel
set_option maxRecDepth 20000 in
theorem ggX4_works_X4_reads : GoodIn wsX4_works wsX4_reads := goodIn_ca (goodIn_ca (goodIn_r _ [14, 6, 15, 3, 9, 7, 2, 1, 8, 16, 17, 18, 19, 13, 20, 21, 22, 23, 24, 25, 26, 27, 28, 29, 30, 31, 32, 33, 34, 35, 36, 37, 38, 39, 40, 41, 42, 43, 44, 45, 46, 47, 48, 49, 50, 51] (by decide +kernel) (by decide +kernel)) (goodIn_sub (fun _ h => List.mem_cons_of_mem _ (List.mem_append_left _ (List.mem_append_right _ h))) (by decide +kernel))) (goodIn_sub (fun _ h => List.mem_cons_of_mem _ (List.mem_append_right _ h)) (by decide +kernel))
set_option maxRecDepth 20000 in
theorem gX4_works_X4_reads : GoodIn wsX4_works (wsV RX4 113 RX4 yX4_reads wsX4_reads) := goodIn_app (goodIn_of _ (by decide +kernel)) ggX4_works_X4_reads
set_option maxRecDepth 20000 in
theorem ggX4_works_X4_joinsAll : GoodIn wsX4_works wsX4_joinsAll := goodIn_ca (goodIn_ca (goodIn_r _ [24, 2, 16, 25, 26, 27, 13, 28, 1, 8, 29, 3, 30, 31, 32, 33, 34, 35, 36, 37, 38, 39, 40, 41, 42, 43, 44, 45, 46, 47, 48, 49, 50, 51] (by decide +kernel) (by decide +kernel)) (goodIn_sub (fun _ h => List.mem_cons_of_mem _ (List.mem_append_left _ (List.mem_append_right _ h))) (by decide +kernel))) (goodIn_sub (fun _ h => List.mem_cons_of_mem _ (List.mem_append_right _ h)) (by decide +kernel))
set_option maxRecDepth 20000 in
theorem gX4_works_X4_joinsAll : GoodIn wsX4_works (wsV RX4 109 RX4 yX4_joinsAll wsX4_joinsAll) := goodIn_app (goodIn_of _ (by decide +kernel)) ggX4_works_X4_joinsAll
theorem dX4_works_0 : decode cX4_works 0 = .ok (.aload_n 0, 1) := by decide +kernel
theorem dX4_works_1 : decode cX4_works 1 = .ok (.iconst 0, 1) := by decide +kernel
theorem dX4_works_2 : decode cX4_works 2 = .ok (.putfield 82, 3) := by decide +kernel
theorem dX4_works_5 : decode cX4_works 5 = .ok (.aload_n 0, 1) := by decide +kernel
theorem dX4_works_6 : decode cX4_works 6 = .ok (.iconst 0, 1) := by decide +kernel
theorem dX4_works_7 : decode cX4_works 7 = .ok (.putfield 85, 3) := by decide +kernel
theorem dX4_works_10 : decode cX4_works 10 = .ok (.aload_n 0, 1) := by decide +kernel
theorem dX4_works_11 : decode cX4_works 11 = .ok (.iconst 0, 1) := by decide +kernel
theorem dX4_works_12 : decode cX4_works 12 = .ok (.putfield 98, 3) := by decide +kernel
theorem dX4_works_15 : decode cX4_works 15 = .ok (.iconst 1, 1) := by decide +kernel
theorem dX4_works_16 : decode cX4_works 16 = .ok (.istore_n 2, 1) := by decide +kernel
theorem dX4_works_17 : decode cX4_works 17 = .ok (.iconst 0, 1) := by decide +kernel
theorem dX4_works_18 : decode cX4_works 18 = .ok (.istore_n 3, 1) := by decide +kernel
theorem dX4_works_19 : decode cX4_works 19 = .ok (.iload_n 3, 1) := by decide +kernel
theorem dX4_works_20 : decode cX4_works 20 = .ok (.aload_n 0, 1) := by decide +kernel
theorem dX4_works_21 : decode cX4_works 21 = .ok (.getfield 16, 3) := by decide +kernel
theorem dX4_works_24 : decode cX4_works 24 = .ok (.iload_n 1, 1) := by decide +kernel
theorem dX4_works_25 : decode cX4_works 25 = .ok (.iaload, 1) := by decide +kernel
theorem dX4_works_26 : decode cX4_works 26 = .ok (.if_icmp .ge 51, 3) := by decide +kernel
theorem dX4_works_29 : decode cX4_works 29 = .ok (.aload_n 0, 1) := by decide +kernel
theorem dX4_works_30 : decode cX4_works 30 = .ok (.getfield 13, 3) := by decide +kernel
theorem dX4_works_33 : decode cX4_works 33 = .ok (.bipush 15, 2) := by decide +kernel
theorem dX4_works_35 : decode cX4_works 35 = .ok (.iload_n 1, 1) := by decide +kernel
theorem dX4_works_36 : decode cX4_works 36 = .ok (.imul, 1) := by decide +kernel
theorem dX4_works_37 : decode cX4_works 37 = .ok (.iload_n 3, 1) := by decide +kernel
theorem dX4_works_38 : decode cX4_works 38 = .ok (.iadd, 1) := by decide +kernel
theorem dX4_works_39 : decode cX4_works 39 = .ok (.iaload, 1) := by decide +kernel
theorem dX4_works_40 : decode cX4_works 40 = .ok (.istore 4, 2) := by decide +kernel
theorem dX4_works_42 : decode cX4_works 42 = .ok (.aload_n 0, 1) := by decide +kernel
theorem dX4_works_43 : decode cX4_works 43 = .ok (.iload 4, 2) := by decide +kernel
theorem dX4_works_45 : decode cX4_works 45 = .ok (.iload_n 2, 1) := by decide +kernel
theorem dX4_works_46 : decode cX4_works 46 = .ok (.invokevirtual 113, 3) := by decide +kernel
theorem dX4_works_49 : decode cX4_works 49 = .ok (.iload 4, 2) := by decide +kernel
theorem dX4_works_51 : decode cX4_works 51 = .ok (.ldc 66, 2) := by decide +kernel
theorem dX4_works_53 : decode cX4_works 53 = .ok (.if_icmp .lt 16, 3) := by decide +kernel
theorem dX4_works_56 : decode cX4_works 56 = .ok (.iload 4, 2) := by decide +kernel
theorem dX4_works_58 : decode cX4_works 58 = .ok (.ldc 66, 2) := by decide +kernel
theorem dX4_works_60 : decode cX4_works 60 = .ok (.isub, 1) := by decide +kernel
theorem dX4_works_61 : decode cX4_works 61 = .ok (.iconst 5, 1) := by decide +kernel
theorem dX4_works_62 : decode cX4_works 62 = .ok (.if_icmp .eq 7, 3) := by decide +kernel
theorem dX4_works_65 : decode cX4_works 65 = .ok (.iconst 1, 1) := by decide +kernel
theorem dX4_works_66 : decode cX4_works 66 = .ok (.goto 4, 3) := by decide +kernel
theorem dX4_works_69 : decode cX4_works 69 = .ok (.iconst 0, 1) := by decide +kernel
theorem dX4_works_70 : decode cX4_works 70 = .ok (.istore_n 2, 1) := by decide +kernel
theorem dX4_works_71 : decode cX4_works 71 = .ok (.iinc 3 1, 3) := by decide +kernel
theorem dX4_works_74 : decode cX4_works 74 = .ok (.goto (-55), 3) := by decide +kernel
theorem dX4_works_77 : decode cX4_works 77 = .ok (.aload_n 0, 1) := by decide +kernel
theorem dX4_works_78 : decode cX4_works 78 = .ok (.iconst 0, 1) := by decide +kernel
theorem dX4_works_79 : decode cX4_works 79 = .ok (.invokevirtual 109, 3) := by decide +kernel
theorem dX4_works_82 : decode cX4_works 82 = .ok (.aload_n 0, 1) := by decide +kernel
theorem dX4_works_83 : decode cX4_works 83 = .ok (.getfield 25, 3) := by decide +kernel
theorem dX4_works_86 : decode cX4_works 86 = .ok (.iload_n 1, 1) := by decide +kernel
theorem dX4_works_87 : decode cX4_works 87 = .ok (.aload_n 0, 1) := by decide +kernel
theorem dX4_works_88 : decode cX4_works 88 = .ok (.getfield 16, 3) := by decide +kernel
theorem dX4_works_91 : decode cX4_works 91 = .ok (.iload_n 1, 1) := by decide +kernel
theorem dX4_works_92 : decode cX4_works 92 = .ok (.iaload, 1) := by decide +kernel
theorem dX4_works_93 : decode cX4_works 93 = .ok (.ifCond .eq 10, 3) := by decide +kernel
theorem dX4_works_96 : decode cX4_works 96 = .ok (.aload_n 0, 1) := by decide +kernel
theorem dX4_works_97 : decode cX4_works 97 = .ok (.getfield 98, 3) := by decide +kernel
theorem dX4_works_100 : decode cX4_works 100 = .ok (.ifCond .eq 7, 3) := by decide +kernel
theorem dX4_works_103 : decode cX4_works 103 = .ok (.lconst 0, 1) := by decide +kernel
theorem dX4_works_104 : decode cX4_works 104 = .ok (.goto 9, 3) := by decide +kernel
theorem dX4_works_107 : decode cX4_works 107 = .ok (.aload_n 0, 1) := by decide +kernel
theorem dX4_works_108 : decode cX4_works 108 = .ok (.getfield 32, 3) := by decide +kernel
theorem dX4_works_111 : decode cX4_works 111 = .ok (.iconst 0, 1) := by decide +kernel
theorem dX4_works_112 : decode cX4_works 112 = .ok (.laload, 1) := by decide +kernel
theorem dX4_works_113 : decode cX4_works 113 = .ok (.lastore, 1) := by decide +kernel
theorem dX4_works_114 : decode cX4_works 114 = .ok (.aload_n 0, 1) := by decide +kernel
theorem dX4_works_115 : decode cX4_works 115 = .ok (.getfield 29, 3) := by decide +kernel
theorem dX4_works_118 : decode cX4_works 118 = .ok (.iload_n 1, 1) := by decide +kernel
theorem dX4_works_119 : decode cX4_works 119 = .ok (.aload_n 0, 1) := by decide +kernel
theorem dX4_works_120 : decode cX4_works 120 = .ok (.getfield 98, 3) := by decide +kernel
theorem dX4_works_123 : decode cX4_works 123 = .ok (.ifCond .eq 7, 3) := by decide +kernel
theorem dX4_works_126 : decode cX4_works 126 = .ok (.iconst 2, 1) := by decide +kernel
theorem dX4_works_127 : decode cX4_works 127 = .ok (.goto 4, 3) := by decide +kernel
theorem dX4_works_130 : decode cX4_works 130 = .ok (.iconst 1, 1) := by decide +kernel
theorem dX4_works_131 : decode cX4_works 131 = .ok (.iastore, 1) := by decide +kernel
theorem dX4_works_132 : decode cX4_works 132 = .ok (.return_, 1) := by decide +kernel
set_option maxRecDepth 20000 in
theorem ggX4_worksAll_X4_refersOf : GoodIn wsX4_worksAll wsX4_refersOf := goodIn_ca (goodIn_r _ [6, 7, 8, 9, 10, 5, 11, 12, 13, 14, 15, 16, 55, 56, 57, 58, 59, 60, 61, 62, 63, 64, 65, 66, 67, 68, 69, 70] (by decide +kernel) (by decide +kernel)) (goodIn_sub (fun _ h => List.mem_cons_of_mem _ (List.mem_append_left _ (List.mem_append_right _ h))) (by decide +kernel))
set_option maxRecDepth 20000 in
theorem gX4_worksAll_X4_refersOf : GoodIn wsX4_worksAll (wsV RX4 76 RX4 yX4_refersOf wsX4_refersOf) := goodIn_app (goodIn_of _ (by decide +kernel)) ggX4_worksAll_X4_refersOf
set_option maxRecDepth 20000 in
theorem ggX4_worksAll_X4_areKnown : GoodIn wsX4_worksAll wsX4_areKnown := goodIn_ca (goodIn_r _ [20, 1, 55, 56, 57, 58, 59, 60, 61, 62, 63, 64, 65, 66, 67, 68, 69, 70] (by decide +kernel) (by decide +kernel)) (goodIn_sub (fun _ h => List.mem_cons_of_mem _ (List.mem_append_left _ (List.mem_append_right _ h))) (by decide +kernel))
set_option maxRecDepth 20000 in
theorem gX4_worksAll_X4_areKnown : GoodIn wsX4_worksAll (wsV RX4 117 RX4 yX4_areKnown wsX4_areKnown) := goodIn_app (goodIn_of _ (by decide +kernel)) ggX4_worksAll_X4_areKnown
set_option maxRecDepth 20000 in
theorem ggX4_worksAll_X4_works : GoodIn wsX4_worksAll wsX4_works := goodIn_ca (goodIn_ca (goodIn_r _ [24, 25, 26, 27, 8, 7, 28, 29, 30, 1, 31, 32, 33, 5, 34, 12, 35, 36, 37, 38, 39, 40, 41, 42, 43, 44, 45, 46, 47, 48, 49, 50, 51, 52, 53, 54, 55, 56, 57, 58, 59, 60, 61, 62, 63, 64, 65, 66, 67, 68, 69, 70] (by decide +kernel) (by decide +kernel)) (goodIn_sub (fun _ h => List.mem_cons_of_mem _ (List.mem_append_left _ (List.mem_append_right _ h))) (by decide +kernel))) (goodIn_sub (fun _ h => List.mem_cons_of_mem _ (List.mem_append_right _ h)) (by decide +kernel))
set_option maxRecDepth 20000 in
theorem gX4_worksAll_X4_works : GoodIn wsX4_worksAll (wsV RX4 120 RX4 yX4_works wsX4_works) := goodIn_app (goodIn_of _ (by decide +kernel)) ggX4_worksAll_X4_works
theorem dX4_worksAll_0 : decode cX4_worksAll 0 = .ok (.iconst 0, 1) := by decide +kernel
theorem dX4_worksAll_1 : decode cX4_worksAll 1 = .ok (.istore_n 1, 1) := by decide +kernel
theorem dX4_worksAll_2 : decode cX4_worksAll 2 = .ok (.iload_n 1, 1) := by decide +kernel
theorem dX4_worksAll_3 : decode cX4_worksAll 3 = .ok (.bipush 30, 2) := by decide +kernel
theorem dX4_worksAll_5 : decode cX4_worksAll 5 = .ok (.if_icmp .ge 16, 3) := by decide +kernel
theorem dX4_worksAll_8 : decode cX4_worksAll 8 = .ok (.aload_n 0, 1) := by decide +kernel
theorem dX4_worksAll_9 : decode cX4_worksAll 9 = .ok (.getfield 29, 3) := by decide +kernel
theorem dX4_worksAll_12 : decode cX4_worksAll 12 = .ok (.iload_n 1, 1) := by decide +kernel
theorem dX4_worksAll_13 : decode cX4_worksAll 13 = .ok (.iconst 0, 1) := by decide +kernel
theorem dX4_worksAll_14 : decode cX4_worksAll 14 = .ok (.iastore, 1) := by decide +kernel
theorem dX4_worksAll_15 : decode cX4_worksAll 15 = .ok (.iinc 1 1, 3) := by decide +kernel
theorem dX4_worksAll_18 : decode cX4_worksAll 18 = .ok (.goto (-16), 3) := by decide +kernel
theorem dX4_worksAll_21 : decode cX4_worksAll 21 = .ok (.bipush 30, 2) := by decide +kernel
theorem dX4_worksAll_23 : decode cX4_worksAll 23 = .ok (.istore_n 1, 1) := by decide +kernel
theorem dX4_worksAll_24 : decode cX4_worksAll 24 = .ok (.iload_n 1, 1) := by decide +kernel
theorem dX4_worksAll_25 : decode cX4_worksAll 25 = .ok (.ifCond .le 65, 3) := by decide +kernel
theorem dX4_worksAll_28 : decode cX4_worksAll 28 = .ok (.iconst 0, 1) := by decide +kernel
theorem dX4_worksAll_29 : decode cX4_worksAll 29 = .ok (.istore_n 1, 1) := by decide +kernel
theorem dX4_worksAll_30 : decode cX4_worksAll 30 = .ok (.iconst 0, 1) := by decide +kernel
theorem dX4_worksAll_31 : decode cX4_worksAll 31 = .ok (.istore_n 2, 1) := by decide +kernel
theorem dX4_worksAll_32 : decode cX4_worksAll 32 = .ok (.iload_n 2, 1) := by decide +kernel
theorem dX4_worksAll_33 : decode cX4_worksAll 33 = .ok (.bipush 30, 2) := by decide +kernel
theorem dX4_worksAll_35 : decode cX4_worksAll 35 = .ok (.if_icmp .ge 52, 3) := by decide +kernel
theorem dX4_worksAll_38 : decode cX4_worksAll 38 = .ok (.aload_n 0, 1) := by decide +kernel
theorem dX4_worksAll_39 : decode cX4_worksAll 39 = .ok (.getfield 29, 3) := by decide +kernel
theorem dX4_worksAll_42 : decode cX4_worksAll 42 = .ok (.iload_n 2, 1) := by decide +kernel
theorem dX4_worksAll_43 : decode cX4_worksAll 43 = .ok (.iaload, 1) := by decide +kernel
theorem dX4_worksAll_44 : decode cX4_worksAll 44 = .ok (.ifCond .ne 20, 3) := by decide +kernel
theorem dX4_worksAll_47 : decode cX4_worksAll 47 = .ok (.aload_n 0, 1) := by decide +kernel
theorem dX4_worksAll_48 : decode cX4_worksAll 48 = .ok (.aload_n 0, 1) := by decide +kernel
theorem dX4_worksAll_49 : decode cX4_worksAll 49 = .ok (.iload_n 2, 1) := by decide +kernel
theorem dX4_worksAll_50 : decode cX4_worksAll 50 = .ok (.invokevirtual 76, 3) := by decide +kernel
theorem dX4_worksAll_53 : decode cX4_worksAll 53 = .ok (.invokevirtual 117, 3) := by decide +kernel
theorem dX4_worksAll_56 : decode cX4_worksAll 56 = .ok (.ifCond .eq 8, 3) := by decide +kernel
theorem dX4_worksAll_59 : decode cX4_worksAll 59 = .ok (.aload_n 0, 1) := by decide +kernel
theorem dX4_worksAll_60 : decode cX4_worksAll 60 = .ok (.iload_n 2, 1) := by decide +kernel
theorem dX4_worksAll_61 : decode cX4_worksAll 61 = .ok (.invokevirtual 120, 3) := by decide +kernel
theorem dX4_worksAll_64 : decode cX4_worksAll 64 = .ok (.iload_n 1, 1) := by decide +kernel
theorem dX4_worksAll_65 : decode cX4_worksAll 65 = .ok (.aload_n 0, 1) := by decide +kernel
theorem dX4_worksAll_66 : decode cX4_worksAll 66 = .ok (.getfield 29, 3) := by decide +kernel
theorem dX4_worksAll_69 : decode cX4_worksAll 69 = .ok (.iload_n 2, 1) := by decide +kernel
theorem dX4_worksAll_70 : decode cX4_worksAll 70 = .ok (.iaload, 1) := by decide +kernel
theorem dX4_worksAll_71 : decode cX4_worksAll 71 = .ok (.ifCond .ne 7, 3) := by decide +kernel
theorem dX4_worksAll_74 : decode cX4_worksAll 74 = .ok (.iconst 1, 1) := by decide +kernel
theorem dX4_worksAll_75 : decode cX4_worksAll 75 = .ok (.goto 4, 3) := by decide +kernel
theorem dX4_worksAll_78 : decode cX4_worksAll 78 = .ok (.iconst 0, 1) := by decide +kernel
theorem dX4_worksAll_79 : decode cX4_worksAll 79 = .ok (.iadd, 1) := by decide +kernel
theorem dX4_worksAll_80 : decode cX4_worksAll 80 = .ok (.istore_n 1, 1) := by decide +kernel
theorem dX4_worksAll_81 : decode cX4_worksAll 81 = .ok (.iinc 2 1, 3) := by decide +kernel
theorem dX4_worksAll_84 : decode cX4_worksAll 84 = .ok (.goto (-52), 3) := by decide +kernel
theorem dX4_worksAll_87 : decode cX4_worksAll 87 = .ok (.goto (-63), 3) := by decide +kernel
theorem dX4_worksAll_90 : decode cX4_worksAll 90 = .ok (.return_, 1) := by decide +kernel
theorem dX4_areKnown_0 : decode cX4_areKnown 0 = .ok (.iconst 0, 1) := by decide +kernel
theorem dX4_areKnown_1 : decode cX4_areKnown 1 = .ok (.istore_n 2, 1) := by decide +kernel
theorem dX4_areKnown_2 : decode cX4_areKnown 2 = .ok (.iload_n 2, 1) := by decide +kernel
theorem dX4_areKnown_3 : decode cX4_areKnown 3 = .ok (.bipush 30, 2) := by decide +kernel
theorem dX4_areKnown_5 : decode cX4_areKnown 5 = .ok (.if_icmp .ge 29, 3) := by decide +kernel
theorem dX4_areKnown_8 : decode cX4_areKnown 8 = .ok (.iload_n 1, 1) := by decide +kernel
theorem dX4_areKnown_9 : decode cX4_areKnown 9 = .ok (.iload_n 2, 1) := by decide +kernel
theorem dX4_areKnown_10 : decode cX4_areKnown 10 = .ok (.ishr, 1) := by decide +kernel
theorem dX4_areKnown_11 : decode cX4_areKnown 11 = .ok (.iconst 1, 1) := by decide +kernel
theorem dX4_areKnown_12 : decode cX4_areKnown 12 = .ok (.iand, 1) := by decide +kernel
theorem dX4_areKnown_13 : decode cX4_areKnown 13 = .ok (.iconst 1, 1) := by decide +kernel
theorem dX4_areKnown_14 : decode cX4_areKnown 14 = .ok (.if_icmp .ne 14, 3) := by decide +kernel
theorem dX4_areKnown_17 : decode cX4_areKnown 17 = .ok (.aload_n 0, 1) := by decide +kernel
theorem dX4_areKnown_18 : decode cX4_areKnown 18 = .ok (.getfield 29, 3) := by decide +kernel
theorem dX4_areKnown_21 : decode cX4_areKnown 21 = .ok (.iload_n 2, 1) := by decide +kernel
theorem dX4_areKnown_22 : decode cX4_areKnown 22 = .ok (.iaload, 1) := by decide +kernel
theorem dX4_areKnown_23 : decode cX4_areKnown 23 = .ok (.ifCond .ne 5, 3) := by decide +kernel
theorem dX4_areKnown_26 : decode cX4_areKnown 26 = .ok (.iconst 0, 1) := by decide +kernel
theorem dX4_areKnown_27 : decode cX4_areKnown 27 = .ok (.ireturn, 1) := by decide +kernel
theorem dX4_areKnown_28 : decode cX4_areKnown 28 = .ok (.iinc 2 1, 3) := by decide +kernel
theorem dX4_areKnown_31 : decode cX4_areKnown 31 = .ok (.goto (-29), 3) := by decide +kernel
theorem dX4_areKnown_34 : decode cX4_areKnown 34 = .ok (.iconst 1, 1) := by decide +kernel
theorem dX4_areKnown_35 : decode cX4_areKnown 35 = .ok (.ireturn, 1) := by decide +kernel
set_option maxRecDepth 20000 in
theorem ggX4_errorOfSet_X4_isCell : GoodIn wsX4_errorOfSet wsX4_isCell := goodIn_r _ [6, 7, 8, 5, 9] (by decide +kernel) (by decide +kernel)
set_option maxRecDepth 20000 in
theorem gX4_errorOfSet_X4_isCell : GoodIn wsX4_errorOfSet (va_wsS RX4 62 yX4_isCell wsX4_isCell) := goodIn_app (goodIn_of _ (by decide +kernel)) ggX4_errorOfSet_X4_isCell
set_option maxRecDepth 20000 in
theorem ggX4_errorOfSet_X4_faultOf : GoodIn wsX4_errorOfSet wsX4_faultOf := goodIn_ca (goodIn_r _ [13, 2, 1, 14, 30, 31, 32, 33, 34, 35, 36, 37, 38, 39, 40, 41, 42, 43, 44, 45] (by decide +kernel) (by decide +kernel)) (goodIn_sub (fun _ h => List.mem_cons_of_mem _ (List.mem_append_right _ h)) (by decide +kernel))
set_option maxRecDepth 20000 in
theorem gX4_errorOfSet_X4_faultOf : GoodIn wsX4_errorOfSet (wsV RX4 67 RX4 yX4_faultOf wsX4_faultOf) := goodIn_app (goodIn_of _ (by decide +kernel)) ggX4_errorOfSet_X4_faultOf
set_option maxRecDepth 20000 in
theorem ggX4_errorOfSet_X4_refers : GoodIn wsX4_errorOfSet wsX4_refers := goodIn_ca (goodIn_r _ [17, 18, 19, 7, 8, 5, 9] (by decide +kernel) (by decide +kernel)) (goodIn_sub (fun _ h => List.mem_cons_of_mem _ (List.mem_append_right _ h)) (by decide +kernel))
set_option maxRecDepth 20000 in
theorem gX4_errorOfSet_X4_refers : GoodIn wsX4_errorOfSet (va_wsS RX4 72 yX4_refers wsX4_refers) := goodIn_app (goodIn_of _ (by decide +kernel)) ggX4_errorOfSet_X4_refers
set_option maxRecDepth 20000 in
theorem ggX4_errorOfSet_X4_below : GoodIn wsX4_errorOfSet wsX4_below := goodIn_ca (goodIn_r _ [23, 24, 25, 26, 5, 27, 28, 29, 15, 16, 17, 18, 19, 7, 8, 9, 30, 31, 32, 33, 34, 35, 36, 37, 38, 39, 40, 41, 42, 43, 44, 45] (by decide +kernel) (by decide +kernel)) (goodIn_sub (fun _ h => List.mem_cons_of_mem _ (List.mem_append_right _ h)) (by decide +kernel))
set_option maxRecDepth 20000 in
theorem gX4_errorOfSet_X4_below : GoodIn wsX4_errorOfSet (wsV RX4 79 RX4 yX4_below wsX4_below) := goodIn_app (goodIn_of _ (by decide +kernel)) ggX4_errorOfSet_X4_below
theorem dX4_errorOfSet_0 : decode cX4_errorOfSet 0 = .ok (.iload_n 1, 1) := by decide +kernel
theorem dX4_errorOfSet_1 : decode cX4_errorOfSet 1 = .ok (.invokestatic 62, 3) := by decide +kernel
theorem dX4_errorOfSet_4 : decode cX4_errorOfSet 4 = .ok (.ifCond .ne 5, 3) := by decide +kernel
theorem dX4_errorOfSet_7 : decode cX4_errorOfSet 7 = .ok (.iconst 1, 1) := by decide +kernel
theorem dX4_errorOfSet_8 : decode cX4_errorOfSet 8 = .ok (.ireturn, 1) := by decide +kernel
theorem dX4_errorOfSet_9 : decode cX4_errorOfSet 9 = .ok (.aload_n 0, 1) := by decide +kernel
theorem dX4_errorOfSet_10 : decode cX4_errorOfSet 10 = .ok (.invokevirtual 67, 3) := by decide +kernel
theorem dX4_errorOfSet_13 : decode cX4_errorOfSet 13 = .ok (.iconst (-1), 1) := by decide +kernel
theorem dX4_errorOfSet_14 : decode cX4_errorOfSet 14 = .ok (.if_icmp .eq 7, 3) := by decide +kernel
theorem dX4_errorOfSet_17 : decode cX4_errorOfSet 17 = .ok (.iconst 2, 1) := by decide +kernel
theorem dX4_errorOfSet_18 : decode cX4_errorOfSet 18 = .ok (.goto 32, 3) := by decide +kernel
theorem dX4_errorOfSet_21 : decode cX4_errorOfSet 21 = .ok (.aload_n 0, 1) := by decide +kernel
theorem dX4_errorOfSet_22 : decode cX4_errorOfSet 22 = .ok (.aload_n 0, 1) := by decide +kernel
theorem dX4_errorOfSet_23 : decode cX4_errorOfSet 23 = .ok (.getfield 7, 3) := by decide +kernel
theorem dX4_errorOfSet_26 : decode cX4_errorOfSet 26 = .ok (.iconst 0, 1) := by decide +kernel
theorem dX4_errorOfSet_27 : decode cX4_errorOfSet 27 = .ok (.aload_n 0, 1) := by decide +kernel
theorem dX4_errorOfSet_28 : decode cX4_errorOfSet 28 = .ok (.getfield 46, 3) := by decide +kernel
theorem dX4_errorOfSet_31 : decode cX4_errorOfSet 31 = .ok (.invokestatic 72, 3) := by decide +kernel
theorem dX4_errorOfSet_34 : decode cX4_errorOfSet 34 = .ok (.invokevirtual 79, 3) := by decide +kernel
theorem dX4_errorOfSet_37 : decode cX4_errorOfSet 37 = .ok (.iload_n 1, 1) := by decide +kernel
theorem dX4_errorOfSet_38 : decode cX4_errorOfSet 38 = .ok (.ishr, 1) := by decide +kernel
theorem dX4_errorOfSet_39 : decode cX4_errorOfSet 39 = .ok (.iconst 1, 1) := by decide +kernel
theorem dX4_errorOfSet_40 : decode cX4_errorOfSet 40 = .ok (.iand, 1) := by decide +kernel
theorem dX4_errorOfSet_41 : decode cX4_errorOfSet 41 = .ok (.iconst 1, 1) := by decide +kernel
theorem dX4_errorOfSet_42 : decode cX4_errorOfSet 42 = .ok (.if_icmp .ne 7, 3) := by decide +kernel
theorem dX4_errorOfSet_45 : decode cX4_errorOfSet 45 = .ok (.iconst 3, 1) := by decide +kernel
theorem dX4_errorOfSet_46 : decode cX4_errorOfSet 46 = .ok (.goto 4, 3) := by decide +kernel
theorem dX4_errorOfSet_49 : decode cX4_errorOfSet 49 = .ok (.iconst 0, 1) := by decide +kernel
theorem dX4_errorOfSet_50 : decode cX4_errorOfSet 50 = .ok (.ireturn, 1) := by decide +kernel
set_option maxRecDepth 20000 in
theorem ggX4_set_X4_errorOfSet : GoodIn wsX4_set wsX4_errorOfSet := goodIn_ca (goodIn_r _ [10, 3, 1, 11, 12, 9, 13, 14, 15, 16, 17, 18, 19, 20, 21, 22, 23, 24, 25, 26, 27, 28, 29, 30, 31, 32, 33, 34, 2, 4, 44, 45, 46, 47, 48, 49, 50, 51, 52, 53, 54, 55, 56, 57, 58, 59] (by decide +kernel) (by decide +kernel)) (goodIn_sub (fun _ h => List.mem_cons_of_mem _ (List.mem_append_right _ h)) (by decide +kernel))
set_option maxRecDepth 20000 in
theorem gX4_set_X4_errorOfSet : GoodIn wsX4_set (wsV RX4 123 RX4 yX4_errorOfSet wsX4_errorOfSet) := goodIn_app (goodIn_of _ (by decide +kernel)) ggX4_set_X4_errorOfSet
set_option maxRecDepth 20000 in
theorem ggX4_set_X4_holds : GoodIn wsX4_set wsX4_holds := goodIn_r _ [38, 39, 44, 45, 46, 47, 48, 49, 50, 51, 52, 53, 54, 55, 56, 57, 58, 59] (by decide +kernel) (by decide +kernel)
set_option maxRecDepth 20000 in
theorem gX4_set_X4_holds : GoodIn wsX4_set (wsV RX4 54 RX4 yX4_holds wsX4_holds) := goodIn_app (goodIn_of _ (by decide +kernel)) ggX4_set_X4_holds
set_option maxRecDepth 20000 in
theorem ggX4_set_X4_anew : GoodIn wsX4_set wsX4_anew := goodIn_ca (goodIn_r _ [43, 27, 28, 29, 9, 30, 31, 32, 33, 34, 2, 4, 22, 23, 24, 25, 26, 14, 15, 16, 44, 45, 46, 47, 48, 49, 50, 51, 52, 53, 54, 55, 56, 57, 58, 59] (by decide +kernel) (by decide +kernel)) (goodIn_sub (fun _ h => List.mem_cons_of_mem _ (List.mem_append_right _ h)) (by decide +kernel))
set_option maxRecDepth 20000 in
theorem gX4_set_X4_anew : GoodIn wsX4_set (wsV RX4 126 RX4 yX4_anew wsX4_anew) := goodIn_app (goodIn_of _ (by decide +kernel)) ggX4_set_X4_anew
theorem dX4_set_0 : decode cX4_set 0 = .ok (.aload_n 0, 1) := by decide +kernel
theorem dX4_set_1 : decode cX4_set 1 = .ok (.aload_n 0, 1) := by decide +kernel
theorem dX4_set_2 : decode cX4_set 2 = .ok (.iload_n 1, 1) := by decide +kernel
theorem dX4_set_3 : decode cX4_set 3 = .ok (.invokevirtual 123, 3) := by decide +kernel
theorem dX4_set_6 : decode cX4_set 6 = .ok (.invokevirtual 54, 3) := by decide +kernel
theorem dX4_set_9 : decode cX4_set 9 = .ok (.ifCond .ne 5, 3) := by decide +kernel
theorem dX4_set_12 : decode cX4_set 12 = .ok (.iconst 0, 1) := by decide +kernel
theorem dX4_set_13 : decode cX4_set 13 = .ok (.ireturn, 1) := by decide +kernel
theorem dX4_set_14 : decode cX4_set 14 = .ok (.iconst 0, 1) := by decide +kernel
theorem dX4_set_15 : decode cX4_set 15 = .ok (.istore_n 2, 1) := by decide +kernel
theorem dX4_set_16 : decode cX4_set 16 = .ok (.iload_n 2, 1) := by decide +kernel
theorem dX4_set_17 : decode cX4_set 17 = .ok (.aload_n 0, 1) := by decide +kernel
theorem dX4_set_18 : decode cX4_set 18 = .ok (.getfield 46, 3) := by decide +kernel
theorem dX4_set_21 : decode cX4_set 21 = .ok (.if_icmp .ge 26, 3) := by decide +kernel
theorem dX4_set_24 : decode cX4_set 24 = .ok (.aload_n 0, 1) := by decide +kernel
theorem dX4_set_25 : decode cX4_set 25 = .ok (.getfield 13, 3) := by decide +kernel
theorem dX4_set_28 : decode cX4_set 28 = .ok (.bipush 15, 2) := by decide +kernel
theorem dX4_set_30 : decode cX4_set 30 = .ok (.iload_n 1, 1) := by decide +kernel
theorem dX4_set_31 : decode cX4_set 31 = .ok (.imul, 1) := by decide +kernel
theorem dX4_set_32 : decode cX4_set 32 = .ok (.iload_n 2, 1) := by decide +kernel
theorem dX4_set_33 : decode cX4_set 33 = .ok (.iadd, 1) := by decide +kernel
theorem dX4_set_34 : decode cX4_set 34 = .ok (.aload_n 0, 1) := by decide +kernel
theorem dX4_set_35 : decode cX4_set 35 = .ok (.getfield 7, 3) := by decide +kernel
theorem dX4_set_38 : decode cX4_set 38 = .ok (.iload_n 2, 1) := by decide +kernel
theorem dX4_set_39 : decode cX4_set 39 = .ok (.iaload, 1) := by decide +kernel
theorem dX4_set_40 : decode cX4_set 40 = .ok (.iastore, 1) := by decide +kernel
theorem dX4_set_41 : decode cX4_set 41 = .ok (.iinc 2 1, 3) := by decide +kernel
theorem dX4_set_44 : decode cX4_set 44 = .ok (.goto (-28), 3) := by decide +kernel
theorem dX4_set_47 : decode cX4_set 47 = .ok (.aload_n 0, 1) := by decide +kernel
theorem dX4_set_48 : decode cX4_set 48 = .ok (.getfield 16, 3) := by decide +kernel
theorem dX4_set_51 : decode cX4_set 51 = .ok (.iload_n 1, 1) := by decide +kernel
theorem dX4_set_52 : decode cX4_set 52 = .ok (.aload_n 0, 1) := by decide +kernel
theorem dX4_set_53 : decode cX4_set 53 = .ok (.getfield 46, 3) := by decide +kernel
theorem dX4_set_56 : decode cX4_set 56 = .ok (.iastore, 1) := by decide +kernel
theorem dX4_set_57 : decode cX4_set 57 = .ok (.aload_n 0, 1) := by decide +kernel
theorem dX4_set_58 : decode cX4_set 58 = .ok (.iconst 0, 1) := by decide +kernel
theorem dX4_set_59 : decode cX4_set 59 = .ok (.putfield 46, 3) := by decide +kernel
theorem dX4_set_62 : decode cX4_set 62 = .ok (.aload_n 0, 1) := by decide +kernel
theorem dX4_set_63 : decode cX4_set 63 = .ok (.iconst 1, 1) := by decide +kernel
theorem dX4_set_64 : decode cX4_set 64 = .ok (.iload_n 1, 1) := by decide +kernel
theorem dX4_set_65 : decode cX4_set 65 = .ok (.ishl, 1) := by decide +kernel
theorem dX4_set_66 : decode cX4_set 66 = .ok (.invokevirtual 126, 3) := by decide +kernel
theorem dX4_set_69 : decode cX4_set 69 = .ok (.istore_n 2, 1) := by decide +kernel
theorem dX4_set_70 : decode cX4_set 70 = .ok (.aload_n 0, 1) := by decide +kernel
theorem dX4_set_71 : decode cX4_set 71 = .ok (.dup, 1) := by decide +kernel
theorem dX4_set_72 : decode cX4_set 72 = .ok (.getfield 129, 3) := by decide +kernel
theorem dX4_set_75 : decode cX4_set 75 = .ok (.iload_n 2, 1) := by decide +kernel
theorem dX4_set_76 : decode cX4_set 76 = .ok (.iadd, 1) := by decide +kernel
theorem dX4_set_77 : decode cX4_set 77 = .ok (.putfield 129, 3) := by decide +kernel
theorem dX4_set_80 : decode cX4_set 80 = .ok (.iload_n 2, 1) := by decide +kernel
theorem dX4_set_81 : decode cX4_set 81 = .ok (.ireturn, 1) := by decide +kernel
set_option maxRecDepth 20000 in
theorem ggX4_puts_X4_anew : GoodIn wsX4_puts wsX4_anew := goodIn_ca (goodIn_r _ [8, 9, 10, 11, 7, 12, 13, 14, 15, 16, 1, 2, 17, 18, 19, 20, 21, 22, 23, 24, 25, 26, 27, 28, 29, 30, 31, 32, 33, 34, 35, 36, 37, 38, 39, 40] (by decide +kernel) (by decide +kernel)) (goodIn_sub (fun _ h => List.mem_cons_of_mem _ (List.mem_append_right _ h)) (by decide +kernel))
set_option maxRecDepth 20000 in
theorem gX4_puts_X4_anew : GoodIn wsX4_puts (wsV RX4 126 RX4 yX4_anew wsX4_anew) := goodIn_app (goodIn_of _ (by decide +kernel)) ggX4_puts_X4_anew
theorem dX4_puts_0 : decode cX4_puts 0 = .ok (.aload_n 0, 1) := by decide +kernel
theorem dX4_puts_1 : decode cX4_puts 1 = .ok (.getfield 13, 3) := by decide +kernel
theorem dX4_puts_4 : decode cX4_puts 4 = .ok (.bipush 15, 2) := by decide +kernel
theorem dX4_puts_6 : decode cX4_puts 6 = .ok (.iload_n 1, 1) := by decide +kernel
theorem dX4_puts_7 : decode cX4_puts 7 = .ok (.imul, 1) := by decide +kernel
theorem dX4_puts_8 : decode cX4_puts 8 = .ok (.iload_n 2, 1) := by decide +kernel
theorem dX4_puts_9 : decode cX4_puts 9 = .ok (.iastore, 1) := by decide +kernel
theorem dX4_puts_10 : decode cX4_puts 10 = .ok (.aload_n 0, 1) := by decide +kernel
theorem dX4_puts_11 : decode cX4_puts 11 = .ok (.getfield 16, 3) := by decide +kernel
theorem dX4_puts_14 : decode cX4_puts 14 = .ok (.iload_n 1, 1) := by decide +kernel
theorem dX4_puts_15 : decode cX4_puts 15 = .ok (.iconst 1, 1) := by decide +kernel
theorem dX4_puts_16 : decode cX4_puts 16 = .ok (.iastore, 1) := by decide +kernel
theorem dX4_puts_17 : decode cX4_puts 17 = .ok (.aload_n 0, 1) := by decide +kernel
theorem dX4_puts_18 : decode cX4_puts 18 = .ok (.iconst 1, 1) := by decide +kernel
theorem dX4_puts_19 : decode cX4_puts 19 = .ok (.iload_n 1, 1) := by decide +kernel
theorem dX4_puts_20 : decode cX4_puts 20 = .ok (.ishl, 1) := by decide +kernel
theorem dX4_puts_21 : decode cX4_puts 21 = .ok (.invokevirtual 126, 3) := by decide +kernel
theorem dX4_puts_24 : decode cX4_puts 24 = .ok (.istore_n 3, 1) := by decide +kernel
theorem dX4_puts_25 : decode cX4_puts 25 = .ok (.aload_n 0, 1) := by decide +kernel
theorem dX4_puts_26 : decode cX4_puts 26 = .ok (.dup, 1) := by decide +kernel
theorem dX4_puts_27 : decode cX4_puts 27 = .ok (.getfield 129, 3) := by decide +kernel
theorem dX4_puts_30 : decode cX4_puts 30 = .ok (.iload_n 3, 1) := by decide +kernel
theorem dX4_puts_31 : decode cX4_puts 31 = .ok (.iadd, 1) := by decide +kernel
theorem dX4_puts_32 : decode cX4_puts 32 = .ok (.putfield 129, 3) := by decide +kernel
theorem dX4_puts_35 : decode cX4_puts 35 = .ok (.iload_n 3, 1) := by decide +kernel
theorem dX4_puts_36 : decode cX4_puts 36 = .ok (.ireturn, 1) := by decide +kernel
set_option maxRecDepth 20000 in
theorem ggX4_put_X4_isCell : GoodIn wsX4_put wsX4_isCell := goodIn_r _ [5, 6, 7, 4, 8] (by decide +kernel) (by decide +kernel)
set_option maxRecDepth 20000 in
theorem gX4_put_X4_isCell : GoodIn wsX4_put (va_wsS RX4 62 yX4_isCell wsX4_isCell) := goodIn_app (goodIn_of _ (by decide +kernel)) ggX4_put_X4_isCell
set_option maxRecDepth 20000 in
theorem ggX4_put_X4_in : GoodIn wsX4_put wsX4_in := goodIn_r _ [8] (by decide +kernel) (by decide +kernel)
set_option maxRecDepth 20000 in
theorem gX4_put_X4_in : GoodIn wsX4_put (va_wsS RX4 42 yX4_in wsX4_in) := goodIn_app (goodIn_of _ (by decide +kernel)) ggX4_put_X4_in
set_option maxRecDepth 20000 in
theorem ggX4_put_X4_holds : GoodIn wsX4_put wsX4_holds := goodIn_r _ [12, 13, 38, 39, 40, 41, 42, 43, 44, 45, 46, 47, 48, 49, 50, 51, 52, 53] (by decide +kernel) (by decide +kernel)
set_option maxRecDepth 20000 in
theorem gX4_put_X4_holds : GoodIn wsX4_put (wsV RX4 54 RX4 yX4_holds wsX4_holds) := goodIn_app (goodIn_of _ (by decide +kernel)) ggX4_put_X4_holds
set_option maxRecDepth 20000 in
theorem ggX4_put_X4_puts : GoodIn wsX4_put wsX4_puts := goodIn_ca (goodIn_r _ [17, 18, 19, 20, 21, 22, 23, 4, 24, 25, 26, 27, 28, 29, 30, 31, 32, 33, 34, 35, 36, 37, 6, 7, 8, 38, 39, 40, 41, 42, 43, 44, 45, 46, 47, 48, 49, 50, 51, 52, 53] (by decide +kernel) (by decide +kernel)) (goodIn_sub (fun _ h => List.mem_cons_of_mem _ (List.mem_append_right _ h)) (by decide +kernel))
set_option maxRecDepth 20000 in
theorem gX4_put_X4_puts : GoodIn wsX4_put (wsV RX4 132 RX4 yX4_puts wsX4_puts) := goodIn_app (goodIn_of _ (by decide +kernel)) ggX4_put_X4_puts
theorem dX4_put_0 : decode cX4_put 0 = .ok (.aload_n 0, 1) := by decide +kernel
theorem dX4_put_1 : decode cX4_put 1 = .ok (.iload_n 1, 1) := by decide +kernel
theorem dX4_put_2 : decode cX4_put 2 = .ok (.invokestatic 62, 3) := by decide +kernel
theorem dX4_put_5 : decode cX4_put 5 = .ok (.ifCond .ne 7, 3) := by decide +kernel
theorem dX4_put_8 : decode cX4_put 8 = .ok (.iconst 1, 1) := by decide +kernel
theorem dX4_put_9 : decode cX4_put 9 = .ok (.goto 18, 3) := by decide +kernel
theorem dX4_put_12 : decode cX4_put 12 = .ok (.iload_n 2, 1) := by decide +kernel
theorem dX4_put_13 : decode cX4_put 13 = .ok (.iconst 0, 1) := by decide +kernel
theorem dX4_put_14 : decode cX4_put 14 = .ok (.ldc 49, 2) := by decide +kernel
theorem dX4_put_16 : decode cX4_put 16 = .ok (.invokestatic 42, 3) := by decide +kernel
theorem dX4_put_19 : decode cX4_put 19 = .ok (.ifCond .eq 7, 3) := by decide +kernel
theorem dX4_put_22 : decode cX4_put 22 = .ok (.iconst 0, 1) := by decide +kernel
theorem dX4_put_23 : decode cX4_put 23 = .ok (.goto 4, 3) := by decide +kernel
theorem dX4_put_26 : decode cX4_put 26 = .ok (.iconst 2, 1) := by decide +kernel
theorem dX4_put_27 : decode cX4_put 27 = .ok (.invokevirtual 54, 3) := by decide +kernel
theorem dX4_put_30 : decode cX4_put 30 = .ok (.ifCond .eq 12, 3) := by decide +kernel
theorem dX4_put_33 : decode cX4_put 33 = .ok (.aload_n 0, 1) := by decide +kernel
theorem dX4_put_34 : decode cX4_put 34 = .ok (.iload_n 1, 1) := by decide +kernel
theorem dX4_put_35 : decode cX4_put 35 = .ok (.iload_n 2, 1) := by decide +kernel
theorem dX4_put_36 : decode cX4_put 36 = .ok (.invokevirtual 132, 3) := by decide +kernel
theorem dX4_put_39 : decode cX4_put 39 = .ok (.goto 4, 3) := by decide +kernel
theorem dX4_put_42 : decode cX4_put 42 = .ok (.iconst 0, 1) := by decide +kernel
theorem dX4_put_43 : decode cX4_put 43 = .ok (.ireturn, 1) := by decide +kernel
set_option maxRecDepth 20000 in
theorem ggX4_clear_X4_isCell : GoodIn wsX4_clear wsX4_isCell := goodIn_r _ [6, 7, 8, 5, 9] (by decide +kernel) (by decide +kernel)
set_option maxRecDepth 20000 in
theorem gX4_clear_X4_isCell : GoodIn wsX4_clear (va_wsS RX4 62 yX4_isCell wsX4_isCell) := goodIn_app (goodIn_of _ (by decide +kernel)) ggX4_clear_X4_isCell
set_option maxRecDepth 20000 in
theorem ggX4_clear_X4_holds : GoodIn wsX4_clear wsX4_holds := goodIn_r _ [13, 14, 33, 34, 35, 36, 37, 38, 39, 40, 41, 42, 43, 44, 45, 46, 47, 48] (by decide +kernel) (by decide +kernel)
set_option maxRecDepth 20000 in
theorem gX4_clear_X4_holds : GoodIn wsX4_clear (wsV RX4 54 RX4 yX4_holds wsX4_holds) := goodIn_app (goodIn_of _ (by decide +kernel)) ggX4_clear_X4_holds
set_option maxRecDepth 20000 in
theorem ggX4_clear_X4_anew : GoodIn wsX4_clear wsX4_anew := goodIn_ca (goodIn_r _ [18, 19, 20, 21, 5, 22, 23, 24, 25, 26, 27, 1, 28, 29, 30, 31, 32, 7, 8, 9, 33, 34, 35, 36, 37, 38, 39, 40, 41, 42, 43, 44, 45, 46, 47, 48] (by decide +kernel) (by decide +kernel)) (goodIn_sub (fun _ h => List.mem_cons_of_mem _ (List.mem_append_right _ h)) (by decide +kernel))
set_option maxRecDepth 20000 in
theorem gX4_clear_X4_anew : GoodIn wsX4_clear (wsV RX4 126 RX4 yX4_anew wsX4_anew) := goodIn_app (goodIn_of _ (by decide +kernel)) ggX4_clear_X4_anew
theorem dX4_clear_0 : decode cX4_clear 0 = .ok (.aload_n 0, 1) := by decide +kernel
theorem dX4_clear_1 : decode cX4_clear 1 = .ok (.iload_n 1, 1) := by decide +kernel
theorem dX4_clear_2 : decode cX4_clear 2 = .ok (.invokestatic 62, 3) := by decide +kernel
theorem dX4_clear_5 : decode cX4_clear 5 = .ok (.ifCond .eq 7, 3) := by decide +kernel
theorem dX4_clear_8 : decode cX4_clear 8 = .ok (.iconst 0, 1) := by decide +kernel
theorem dX4_clear_9 : decode cX4_clear 9 = .ok (.goto 4, 3) := by decide +kernel
theorem dX4_clear_12 : decode cX4_clear 12 = .ok (.iconst 1, 1) := by decide +kernel
theorem dX4_clear_13 : decode cX4_clear 13 = .ok (.invokevirtual 54, 3) := by decide +kernel
theorem dX4_clear_16 : decode cX4_clear 16 = .ok (.ifCond .eq 12, 3) := by decide +kernel
theorem dX4_clear_19 : decode cX4_clear 19 = .ok (.aload_n 0, 1) := by decide +kernel
theorem dX4_clear_20 : decode cX4_clear 20 = .ok (.getfield 16, 3) := by decide +kernel
theorem dX4_clear_23 : decode cX4_clear 23 = .ok (.iload_n 1, 1) := by decide +kernel
theorem dX4_clear_24 : decode cX4_clear 24 = .ok (.iaload, 1) := by decide +kernel
theorem dX4_clear_25 : decode cX4_clear 25 = .ok (.ifCond .ne 5, 3) := by decide +kernel
theorem dX4_clear_28 : decode cX4_clear 28 = .ok (.iconst 0, 1) := by decide +kernel
theorem dX4_clear_29 : decode cX4_clear 29 = .ok (.ireturn, 1) := by decide +kernel
theorem dX4_clear_30 : decode cX4_clear 30 = .ok (.aload_n 0, 1) := by decide +kernel
theorem dX4_clear_31 : decode cX4_clear 31 = .ok (.getfield 16, 3) := by decide +kernel
theorem dX4_clear_34 : decode cX4_clear 34 = .ok (.iload_n 1, 1) := by decide +kernel
theorem dX4_clear_35 : decode cX4_clear 35 = .ok (.iconst 0, 1) := by decide +kernel
theorem dX4_clear_36 : decode cX4_clear 36 = .ok (.iastore, 1) := by decide +kernel
theorem dX4_clear_37 : decode cX4_clear 37 = .ok (.aload_n 0, 1) := by decide +kernel
theorem dX4_clear_38 : decode cX4_clear 38 = .ok (.iconst 1, 1) := by decide +kernel
theorem dX4_clear_39 : decode cX4_clear 39 = .ok (.iload_n 1, 1) := by decide +kernel
theorem dX4_clear_40 : decode cX4_clear 40 = .ok (.ishl, 1) := by decide +kernel
theorem dX4_clear_41 : decode cX4_clear 41 = .ok (.invokevirtual 126, 3) := by decide +kernel
theorem dX4_clear_44 : decode cX4_clear 44 = .ok (.istore_n 2, 1) := by decide +kernel
theorem dX4_clear_45 : decode cX4_clear 45 = .ok (.aload_n 0, 1) := by decide +kernel
theorem dX4_clear_46 : decode cX4_clear 46 = .ok (.dup, 1) := by decide +kernel
theorem dX4_clear_47 : decode cX4_clear 47 = .ok (.getfield 129, 3) := by decide +kernel
theorem dX4_clear_50 : decode cX4_clear 50 = .ok (.iload_n 2, 1) := by decide +kernel
theorem dX4_clear_51 : decode cX4_clear 51 = .ok (.iadd, 1) := by decide +kernel
theorem dX4_clear_52 : decode cX4_clear 52 = .ok (.putfield 129, 3) := by decide +kernel
theorem dX4_clear_55 : decode cX4_clear 55 = .ok (.iload_n 2, 1) := by decide +kernel
theorem dX4_clear_56 : decode cX4_clear 56 = .ok (.ireturn, 1) := by decide +kernel
set_option maxRecDepth 20000 in
theorem ggX4_open_X4_holds : GoodIn wsX4_open wsX4_holds := goodIn_r _ [10, 11, 12, 13, 14, 15, 16, 17, 18, 19, 20, 21, 22, 23, 24, 25, 26, 27] (by decide +kernel) (by decide +kernel)
set_option maxRecDepth 20000 in
theorem gX4_open_X4_holds : GoodIn wsX4_open (wsV RX4 54 RX4 yX4_holds wsX4_holds) := goodIn_app (goodIn_of _ (by decide +kernel)) ggX4_open_X4_holds
theorem dX4_open_0 : decode cX4_open 0 = .ok (.aload_n 0, 1) := by decide +kernel
theorem dX4_open_1 : decode cX4_open 1 = .ok (.aload_n 0, 1) := by decide +kernel
theorem dX4_open_2 : decode cX4_open 2 = .ok (.getfield 136, 3) := by decide +kernel
theorem dX4_open_5 : decode cX4_open 5 = .ok (.iconst 4, 1) := by decide +kernel
theorem dX4_open_6 : decode cX4_open 6 = .ok (.if_icmp .ne 7, 3) := by decide +kernel
theorem dX4_open_9 : decode cX4_open 9 = .ok (.iconst 1, 1) := by decide +kernel
theorem dX4_open_10 : decode cX4_open 10 = .ok (.goto 4, 3) := by decide +kernel
theorem dX4_open_13 : decode cX4_open 13 = .ok (.iconst 0, 1) := by decide +kernel
theorem dX4_open_14 : decode cX4_open 14 = .ok (.invokevirtual 54, 3) := by decide +kernel
theorem dX4_open_17 : decode cX4_open 17 = .ok (.ifCond .ne 5, 3) := by decide +kernel
theorem dX4_open_20 : decode cX4_open 20 = .ok (.iconst 0, 1) := by decide +kernel
theorem dX4_open_21 : decode cX4_open 21 = .ok (.ireturn, 1) := by decide +kernel
theorem dX4_open_22 : decode cX4_open 22 = .ok (.iconst 0, 1) := by decide +kernel
theorem dX4_open_23 : decode cX4_open 23 = .ok (.istore_n 1, 1) := by decide +kernel
theorem dX4_open_24 : decode cX4_open 24 = .ok (.iload_n 1, 1) := by decide +kernel
theorem dX4_open_25 : decode cX4_open 25 = .ok (.sipush 450, 3) := by decide +kernel
theorem dX4_open_28 : decode cX4_open 28 = .ok (.if_icmp .ge 30, 3) := by decide +kernel
theorem dX4_open_31 : decode cX4_open 31 = .ok (.aload_n 0, 1) := by decide +kernel
theorem dX4_open_32 : decode cX4_open 32 = .ok (.getfield 19, 3) := by decide +kernel
theorem dX4_open_35 : decode cX4_open 35 = .ok (.sipush 450, 3) := by decide +kernel
theorem dX4_open_38 : decode cX4_open 38 = .ok (.aload_n 0, 1) := by decide +kernel
theorem dX4_open_39 : decode cX4_open 39 = .ok (.getfield 136, 3) := by decide +kernel
theorem dX4_open_42 : decode cX4_open 42 = .ok (.imul, 1) := by decide +kernel
theorem dX4_open_43 : decode cX4_open 43 = .ok (.iload_n 1, 1) := by decide +kernel
theorem dX4_open_44 : decode cX4_open 44 = .ok (.iadd, 1) := by decide +kernel
theorem dX4_open_45 : decode cX4_open 45 = .ok (.aload_n 0, 1) := by decide +kernel
theorem dX4_open_46 : decode cX4_open 46 = .ok (.getfield 13, 3) := by decide +kernel
theorem dX4_open_49 : decode cX4_open 49 = .ok (.iload_n 1, 1) := by decide +kernel
theorem dX4_open_50 : decode cX4_open 50 = .ok (.iaload, 1) := by decide +kernel
theorem dX4_open_51 : decode cX4_open 51 = .ok (.iastore, 1) := by decide +kernel
theorem dX4_open_52 : decode cX4_open 52 = .ok (.iinc 1 1, 3) := by decide +kernel
theorem dX4_open_55 : decode cX4_open 55 = .ok (.goto (-31), 3) := by decide +kernel
theorem dX4_open_58 : decode cX4_open 58 = .ok (.iconst 0, 1) := by decide +kernel
theorem dX4_open_59 : decode cX4_open 59 = .ok (.istore_n 1, 1) := by decide +kernel
theorem dX4_open_60 : decode cX4_open 60 = .ok (.iload_n 1, 1) := by decide +kernel
theorem dX4_open_61 : decode cX4_open 61 = .ok (.bipush 30, 2) := by decide +kernel
theorem dX4_open_63 : decode cX4_open 63 = .ok (.if_icmp .ge 29, 3) := by decide +kernel
theorem dX4_open_66 : decode cX4_open 66 = .ok (.aload_n 0, 1) := by decide +kernel
theorem dX4_open_67 : decode cX4_open 67 = .ok (.getfield 22, 3) := by decide +kernel
theorem dX4_open_70 : decode cX4_open 70 = .ok (.bipush 30, 2) := by decide +kernel
theorem dX4_open_72 : decode cX4_open 72 = .ok (.aload_n 0, 1) := by decide +kernel
theorem dX4_open_73 : decode cX4_open 73 = .ok (.getfield 136, 3) := by decide +kernel
theorem dX4_open_76 : decode cX4_open 76 = .ok (.imul, 1) := by decide +kernel
theorem dX4_open_77 : decode cX4_open 77 = .ok (.iload_n 1, 1) := by decide +kernel
theorem dX4_open_78 : decode cX4_open 78 = .ok (.iadd, 1) := by decide +kernel
theorem dX4_open_79 : decode cX4_open 79 = .ok (.aload_n 0, 1) := by decide +kernel
theorem dX4_open_80 : decode cX4_open 80 = .ok (.getfield 16, 3) := by decide +kernel
theorem dX4_open_83 : decode cX4_open 83 = .ok (.iload_n 1, 1) := by decide +kernel
theorem dX4_open_84 : decode cX4_open 84 = .ok (.iaload, 1) := by decide +kernel
theorem dX4_open_85 : decode cX4_open 85 = .ok (.iastore, 1) := by decide +kernel
theorem dX4_open_86 : decode cX4_open 86 = .ok (.iinc 1 1, 3) := by decide +kernel
theorem dX4_open_89 : decode cX4_open 89 = .ok (.goto (-29), 3) := by decide +kernel
theorem dX4_open_92 : decode cX4_open 92 = .ok (.aload_n 0, 1) := by decide +kernel
theorem dX4_open_93 : decode cX4_open 93 = .ok (.dup, 1) := by decide +kernel
theorem dX4_open_94 : decode cX4_open 94 = .ok (.getfield 136, 3) := by decide +kernel
theorem dX4_open_97 : decode cX4_open 97 = .ok (.iconst 1, 1) := by decide +kernel
theorem dX4_open_98 : decode cX4_open 98 = .ok (.iadd, 1) := by decide +kernel
theorem dX4_open_99 : decode cX4_open 99 = .ok (.putfield 136, 3) := by decide +kernel
theorem dX4_open_102 : decode cX4_open 102 = .ok (.aload_n 0, 1) := by decide +kernel
theorem dX4_open_103 : decode cX4_open 103 = .ok (.getfield 136, 3) := by decide +kernel
theorem dX4_open_106 : decode cX4_open 106 = .ok (.ireturn, 1) := by decide +kernel
theorem dX4_isOther_0 : decode cX4_isOther 0 = .ok (.aload_n 0, 1) := by decide +kernel
theorem dX4_isOther_1 : decode cX4_isOther 1 = .ok (.getfield 16, 3) := by decide +kernel
theorem dX4_isOther_4 : decode cX4_isOther 4 = .ok (.iload_n 1, 1) := by decide +kernel
theorem dX4_isOther_5 : decode cX4_isOther 5 = .ok (.iaload, 1) := by decide +kernel
theorem dX4_isOther_6 : decode cX4_isOther 6 = .ok (.aload_n 0, 1) := by decide +kernel
theorem dX4_isOther_7 : decode cX4_isOther 7 = .ok (.getfield 22, 3) := by decide +kernel
theorem dX4_isOther_10 : decode cX4_isOther 10 = .ok (.bipush 30, 2) := by decide +kernel
theorem dX4_isOther_12 : decode cX4_isOther 12 = .ok (.aload_n 0, 1) := by decide +kernel
theorem dX4_isOther_13 : decode cX4_isOther 13 = .ok (.getfield 136, 3) := by decide +kernel
theorem dX4_isOther_16 : decode cX4_isOther 16 = .ok (.imul, 1) := by decide +kernel
theorem dX4_isOther_17 : decode cX4_isOther 17 = .ok (.iload_n 1, 1) := by decide +kernel
theorem dX4_isOther_18 : decode cX4_isOther 18 = .ok (.iadd, 1) := by decide +kernel
theorem dX4_isOther_19 : decode cX4_isOther 19 = .ok (.iaload, 1) := by decide +kernel
theorem dX4_isOther_20 : decode cX4_isOther 20 = .ok (.if_icmp .eq 7, 3) := by decide +kernel
theorem dX4_isOther_23 : decode cX4_isOther 23 = .ok (.iconst 1, 1) := by decide +kernel
theorem dX4_isOther_24 : decode cX4_isOther 24 = .ok (.goto 4, 3) := by decide +kernel
theorem dX4_isOther_27 : decode cX4_isOther 27 = .ok (.iconst 0, 1) := by decide +kernel
theorem dX4_isOther_28 : decode cX4_isOther 28 = .ok (.istore_n 2, 1) := by decide +kernel
theorem dX4_isOther_29 : decode cX4_isOther 29 = .ok (.iconst 0, 1) := by decide +kernel
theorem dX4_isOther_30 : decode cX4_isOther 30 = .ok (.istore_n 3, 1) := by decide +kernel
theorem dX4_isOther_31 : decode cX4_isOther 31 = .ok (.iload_n 3, 1) := by decide +kernel
theorem dX4_isOther_32 : decode cX4_isOther 32 = .ok (.aload_n 0, 1) := by decide +kernel
theorem dX4_isOther_33 : decode cX4_isOther 33 = .ok (.getfield 16, 3) := by decide +kernel
theorem dX4_isOther_36 : decode cX4_isOther 36 = .ok (.iload_n 1, 1) := by decide +kernel
theorem dX4_isOther_37 : decode cX4_isOther 37 = .ok (.iaload, 1) := by decide +kernel
theorem dX4_isOther_38 : decode cX4_isOther 38 = .ok (.if_icmp .ge 53, 3) := by decide +kernel
theorem dX4_isOther_41 : decode cX4_isOther 41 = .ok (.iload_n 2, 1) := by decide +kernel
theorem dX4_isOther_42 : decode cX4_isOther 42 = .ok (.ifCond .ne 37, 3) := by decide +kernel
theorem dX4_isOther_45 : decode cX4_isOther 45 = .ok (.aload_n 0, 1) := by decide +kernel
theorem dX4_isOther_46 : decode cX4_isOther 46 = .ok (.getfield 13, 3) := by decide +kernel
theorem dX4_isOther_49 : decode cX4_isOther 49 = .ok (.bipush 15, 2) := by decide +kernel
theorem dX4_isOther_51 : decode cX4_isOther 51 = .ok (.iload_n 1, 1) := by decide +kernel
theorem dX4_isOther_52 : decode cX4_isOther 52 = .ok (.imul, 1) := by decide +kernel
theorem dX4_isOther_53 : decode cX4_isOther 53 = .ok (.iload_n 3, 1) := by decide +kernel
theorem dX4_isOther_54 : decode cX4_isOther 54 = .ok (.iadd, 1) := by decide +kernel
theorem dX4_isOther_55 : decode cX4_isOther 55 = .ok (.iaload, 1) := by decide +kernel
theorem dX4_isOther_56 : decode cX4_isOther 56 = .ok (.aload_n 0, 1) := by decide +kernel
theorem dX4_isOther_57 : decode cX4_isOther 57 = .ok (.getfield 19, 3) := by decide +kernel
theorem dX4_isOther_60 : decode cX4_isOther 60 = .ok (.sipush 450, 3) := by decide +kernel
theorem dX4_isOther_63 : decode cX4_isOther 63 = .ok (.aload_n 0, 1) := by decide +kernel
theorem dX4_isOther_64 : decode cX4_isOther 64 = .ok (.getfield 136, 3) := by decide +kernel
theorem dX4_isOther_67 : decode cX4_isOther 67 = .ok (.imul, 1) := by decide +kernel
theorem dX4_isOther_68 : decode cX4_isOther 68 = .ok (.bipush 15, 2) := by decide +kernel
theorem dX4_isOther_70 : decode cX4_isOther 70 = .ok (.iload_n 1, 1) := by decide +kernel
theorem dX4_isOther_71 : decode cX4_isOther 71 = .ok (.imul, 1) := by decide +kernel
theorem dX4_isOther_72 : decode cX4_isOther 72 = .ok (.iadd, 1) := by decide +kernel
theorem dX4_isOther_73 : decode cX4_isOther 73 = .ok (.iload_n 3, 1) := by decide +kernel
theorem dX4_isOther_74 : decode cX4_isOther 74 = .ok (.iadd, 1) := by decide +kernel
theorem dX4_isOther_75 : decode cX4_isOther 75 = .ok (.iaload, 1) := by decide +kernel
theorem dX4_isOther_76 : decode cX4_isOther 76 = .ok (.if_icmp .eq 7, 3) := by decide +kernel
theorem dX4_isOther_79 : decode cX4_isOther 79 = .ok (.iconst 1, 1) := by decide +kernel
theorem dX4_isOther_80 : decode cX4_isOther 80 = .ok (.goto 4, 3) := by decide +kernel
theorem dX4_isOther_83 : decode cX4_isOther 83 = .ok (.iconst 0, 1) := by decide +kernel
theorem dX4_isOther_84 : decode cX4_isOther 84 = .ok (.istore_n 2, 1) := by decide +kernel
theorem dX4_isOther_85 : decode cX4_isOther 85 = .ok (.iinc 3 1, 3) := by decide +kernel
theorem dX4_isOther_88 : decode cX4_isOther 88 = .ok (.goto (-57), 3) := by decide +kernel
theorem dX4_isOther_91 : decode cX4_isOther 91 = .ok (.iload_n 2, 1) := by decide +kernel
theorem dX4_isOther_92 : decode cX4_isOther 92 = .ok (.ireturn, 1) := by decide +kernel
set_option maxRecDepth 20000 in
theorem ggX4_drop_X4_holds : GoodIn wsX4_drop wsX4_holds := goodIn_r _ [11, 12, 37, 38, 39, 40, 41, 42, 43, 44, 45, 46, 47, 48, 49, 50, 51, 52] (by decide +kernel) (by decide +kernel)
set_option maxRecDepth 20000 in
theorem gX4_drop_X4_holds : GoodIn wsX4_drop (wsV RX4 54 RX4 yX4_holds wsX4_holds) := goodIn_app (goodIn_of _ (by decide +kernel)) ggX4_drop_X4_holds
set_option maxRecDepth 20000 in
theorem ggX4_drop_X4_isOther : GoodIn wsX4_drop wsX4_isOther := goodIn_ca (goodIn_r _ [16, 4, 5, 1, 2, 3, 37, 38, 39, 40, 41, 42, 43, 44, 45, 46, 47, 48, 49, 50, 51, 52] (by decide +kernel) (by decide +kernel)) (goodIn_sub (fun _ h => List.mem_cons_of_mem _ (List.mem_append_right _ h)) (by decide +kernel))
set_option maxRecDepth 20000 in
theorem gX4_drop_X4_isOther : GoodIn wsX4_drop (wsV RX4 139 RX4 yX4_isOther wsX4_isOther) := goodIn_app (goodIn_of _ (by decide +kernel)) ggX4_drop_X4_isOther
set_option maxRecDepth 20000 in
theorem ggX4_drop_X4_anew : GoodIn wsX4_drop wsX4_anew := goodIn_ca (goodIn_r _ [20, 21, 22, 23, 10, 24, 25, 26, 27, 28, 2, 4, 29, 30, 31, 32, 33, 34, 35, 36, 37, 38, 39, 40, 41, 42, 43, 44, 45, 46, 47, 48, 49, 50, 51, 52] (by decide +kernel) (by decide +kernel)) (goodIn_sub (fun _ h => List.mem_cons_of_mem _ (List.mem_append_right _ h)) (by decide +kernel))
set_option maxRecDepth 20000 in
theorem gX4_drop_X4_anew : GoodIn wsX4_drop (wsV RX4 126 RX4 yX4_anew wsX4_anew) := goodIn_app (goodIn_of _ (by decide +kernel)) ggX4_drop_X4_anew
theorem dX4_drop_0 : decode cX4_drop 0 = .ok (.aload_n 0, 1) := by decide +kernel
theorem dX4_drop_1 : decode cX4_drop 1 = .ok (.aload_n 0, 1) := by decide +kernel
theorem dX4_drop_2 : decode cX4_drop 2 = .ok (.getfield 136, 3) := by decide +kernel
theorem dX4_drop_5 : decode cX4_drop 5 = .ok (.ifCond .ne 7, 3) := by decide +kernel
theorem dX4_drop_8 : decode cX4_drop 8 = .ok (.iconst 1, 1) := by decide +kernel
theorem dX4_drop_9 : decode cX4_drop 9 = .ok (.goto 4, 3) := by decide +kernel
theorem dX4_drop_12 : decode cX4_drop 12 = .ok (.iconst 0, 1) := by decide +kernel
theorem dX4_drop_13 : decode cX4_drop 13 = .ok (.invokevirtual 54, 3) := by decide +kernel
theorem dX4_drop_16 : decode cX4_drop 16 = .ok (.ifCond .ne 5, 3) := by decide +kernel
theorem dX4_drop_19 : decode cX4_drop 19 = .ok (.iconst 0, 1) := by decide +kernel
theorem dX4_drop_20 : decode cX4_drop 20 = .ok (.ireturn, 1) := by decide +kernel
theorem dX4_drop_21 : decode cX4_drop 21 = .ok (.aload_n 0, 1) := by decide +kernel
theorem dX4_drop_22 : decode cX4_drop 22 = .ok (.dup, 1) := by decide +kernel
theorem dX4_drop_23 : decode cX4_drop 23 = .ok (.getfield 136, 3) := by decide +kernel
theorem dX4_drop_26 : decode cX4_drop 26 = .ok (.iconst 1, 1) := by decide +kernel
theorem dX4_drop_27 : decode cX4_drop 27 = .ok (.isub, 1) := by decide +kernel
theorem dX4_drop_28 : decode cX4_drop 28 = .ok (.putfield 136, 3) := by decide +kernel
theorem dX4_drop_31 : decode cX4_drop 31 = .ok (.iconst 0, 1) := by decide +kernel
theorem dX4_drop_32 : decode cX4_drop 32 = .ok (.istore_n 1, 1) := by decide +kernel
theorem dX4_drop_33 : decode cX4_drop 33 = .ok (.iconst 0, 1) := by decide +kernel
theorem dX4_drop_34 : decode cX4_drop 34 = .ok (.istore_n 2, 1) := by decide +kernel
theorem dX4_drop_35 : decode cX4_drop 35 = .ok (.iconst 0, 1) := by decide +kernel
theorem dX4_drop_36 : decode cX4_drop 36 = .ok (.istore_n 3, 1) := by decide +kernel
theorem dX4_drop_37 : decode cX4_drop 37 = .ok (.iload_n 3, 1) := by decide +kernel
theorem dX4_drop_38 : decode cX4_drop 38 = .ok (.bipush 30, 2) := by decide +kernel
theorem dX4_drop_40 : decode cX4_drop 40 = .ok (.if_icmp .ge 26, 3) := by decide +kernel
theorem dX4_drop_43 : decode cX4_drop 43 = .ok (.aload_n 0, 1) := by decide +kernel
theorem dX4_drop_44 : decode cX4_drop 44 = .ok (.iload_n 3, 1) := by decide +kernel
theorem dX4_drop_45 : decode cX4_drop 45 = .ok (.invokevirtual 139, 3) := by decide +kernel
theorem dX4_drop_48 : decode cX4_drop 48 = .ok (.ifCond .eq 12, 3) := by decide +kernel
theorem dX4_drop_51 : decode cX4_drop 51 = .ok (.iload_n 1, 1) := by decide +kernel
theorem dX4_drop_52 : decode cX4_drop 52 = .ok (.iconst 1, 1) := by decide +kernel
theorem dX4_drop_53 : decode cX4_drop 53 = .ok (.iload_n 3, 1) := by decide +kernel
theorem dX4_drop_54 : decode cX4_drop 54 = .ok (.ishl, 1) := by decide +kernel
theorem dX4_drop_55 : decode cX4_drop 55 = .ok (.ior, 1) := by decide +kernel
theorem dX4_drop_56 : decode cX4_drop 56 = .ok (.istore_n 1, 1) := by decide +kernel
theorem dX4_drop_57 : decode cX4_drop 57 = .ok (.iinc 2 1, 3) := by decide +kernel
theorem dX4_drop_60 : decode cX4_drop 60 = .ok (.iinc 3 1, 3) := by decide +kernel
theorem dX4_drop_63 : decode cX4_drop 63 = .ok (.goto (-26), 3) := by decide +kernel
theorem dX4_drop_66 : decode cX4_drop 66 = .ok (.iconst 0, 1) := by decide +kernel
theorem dX4_drop_67 : decode cX4_drop 67 = .ok (.istore_n 3, 1) := by decide +kernel
theorem dX4_drop_68 : decode cX4_drop 68 = .ok (.iload_n 3, 1) := by decide +kernel
theorem dX4_drop_69 : decode cX4_drop 69 = .ok (.sipush 450, 3) := by decide +kernel
theorem dX4_drop_72 : decode cX4_drop 72 = .ok (.if_icmp .ge 30, 3) := by decide +kernel
theorem dX4_drop_75 : decode cX4_drop 75 = .ok (.aload_n 0, 1) := by decide +kernel
theorem dX4_drop_76 : decode cX4_drop 76 = .ok (.getfield 13, 3) := by decide +kernel
theorem dX4_drop_79 : decode cX4_drop 79 = .ok (.iload_n 3, 1) := by decide +kernel
theorem dX4_drop_80 : decode cX4_drop 80 = .ok (.aload_n 0, 1) := by decide +kernel
theorem dX4_drop_81 : decode cX4_drop 81 = .ok (.getfield 19, 3) := by decide +kernel
theorem dX4_drop_84 : decode cX4_drop 84 = .ok (.sipush 450, 3) := by decide +kernel
theorem dX4_drop_87 : decode cX4_drop 87 = .ok (.aload_n 0, 1) := by decide +kernel
theorem dX4_drop_88 : decode cX4_drop 88 = .ok (.getfield 136, 3) := by decide +kernel
theorem dX4_drop_91 : decode cX4_drop 91 = .ok (.imul, 1) := by decide +kernel
theorem dX4_drop_92 : decode cX4_drop 92 = .ok (.iload_n 3, 1) := by decide +kernel
theorem dX4_drop_93 : decode cX4_drop 93 = .ok (.iadd, 1) := by decide +kernel
theorem dX4_drop_94 : decode cX4_drop 94 = .ok (.iaload, 1) := by decide +kernel
theorem dX4_drop_95 : decode cX4_drop 95 = .ok (.iastore, 1) := by decide +kernel
theorem dX4_drop_96 : decode cX4_drop 96 = .ok (.iinc 3 1, 3) := by decide +kernel
theorem dX4_drop_99 : decode cX4_drop 99 = .ok (.goto (-31), 3) := by decide +kernel
theorem dX4_drop_102 : decode cX4_drop 102 = .ok (.iconst 0, 1) := by decide +kernel
theorem dX4_drop_103 : decode cX4_drop 103 = .ok (.istore_n 3, 1) := by decide +kernel
theorem dX4_drop_104 : decode cX4_drop 104 = .ok (.iload_n 3, 1) := by decide +kernel
theorem dX4_drop_105 : decode cX4_drop 105 = .ok (.bipush 30, 2) := by decide +kernel
theorem dX4_drop_107 : decode cX4_drop 107 = .ok (.if_icmp .ge 29, 3) := by decide +kernel
theorem dX4_drop_110 : decode cX4_drop 110 = .ok (.aload_n 0, 1) := by decide +kernel
theorem dX4_drop_111 : decode cX4_drop 111 = .ok (.getfield 16, 3) := by decide +kernel
theorem dX4_drop_114 : decode cX4_drop 114 = .ok (.iload_n 3, 1) := by decide +kernel
theorem dX4_drop_115 : decode cX4_drop 115 = .ok (.aload_n 0, 1) := by decide +kernel
theorem dX4_drop_116 : decode cX4_drop 116 = .ok (.getfield 22, 3) := by decide +kernel
theorem dX4_drop_119 : decode cX4_drop 119 = .ok (.bipush 30, 2) := by decide +kernel
theorem dX4_drop_121 : decode cX4_drop 121 = .ok (.aload_n 0, 1) := by decide +kernel
theorem dX4_drop_122 : decode cX4_drop 122 = .ok (.getfield 136, 3) := by decide +kernel
theorem dX4_drop_125 : decode cX4_drop 125 = .ok (.imul, 1) := by decide +kernel
theorem dX4_drop_126 : decode cX4_drop 126 = .ok (.iload_n 3, 1) := by decide +kernel
theorem dX4_drop_127 : decode cX4_drop 127 = .ok (.iadd, 1) := by decide +kernel
theorem dX4_drop_128 : decode cX4_drop 128 = .ok (.iaload, 1) := by decide +kernel
theorem dX4_drop_129 : decode cX4_drop 129 = .ok (.iastore, 1) := by decide +kernel
theorem dX4_drop_130 : decode cX4_drop 130 = .ok (.iinc 3 1, 3) := by decide +kernel
theorem dX4_drop_133 : decode cX4_drop 133 = .ok (.goto (-29), 3) := by decide +kernel
theorem dX4_drop_136 : decode cX4_drop 136 = .ok (.aload_n 0, 1) := by decide +kernel
theorem dX4_drop_137 : decode cX4_drop 137 = .ok (.dup, 1) := by decide +kernel
theorem dX4_drop_138 : decode cX4_drop 138 = .ok (.getfield 129, 3) := by decide +kernel
theorem dX4_drop_141 : decode cX4_drop 141 = .ok (.aload_n 0, 1) := by decide +kernel
theorem dX4_drop_142 : decode cX4_drop 142 = .ok (.iload_n 1, 1) := by decide +kernel
theorem dX4_drop_143 : decode cX4_drop 143 = .ok (.invokevirtual 126, 3) := by decide +kernel
theorem dX4_drop_146 : decode cX4_drop 146 = .ok (.iadd, 1) := by decide +kernel
theorem dX4_drop_147 : decode cX4_drop 147 = .ok (.putfield 129, 3) := by decide +kernel
theorem dX4_drop_150 : decode cX4_drop 150 = .ok (.iload_n 2, 1) := by decide +kernel
theorem dX4_drop_151 : decode cX4_drop 151 = .ok (.ireturn, 1) := by decide +kernel
set_option maxRecDepth 20000 in
theorem ggX4_keep_X4_holds : GoodIn wsX4_keep wsX4_holds := goodIn_r _ [6, 7, 8, 9, 10, 11, 12, 13, 14, 15, 16, 17, 18, 19, 20, 21, 22, 23] (by decide +kernel) (by decide +kernel)
set_option maxRecDepth 20000 in
theorem gX4_keep_X4_holds : GoodIn wsX4_keep (wsV RX4 54 RX4 yX4_holds wsX4_holds) := goodIn_app (goodIn_of _ (by decide +kernel)) ggX4_keep_X4_holds
theorem dX4_keep_0 : decode cX4_keep 0 = .ok (.aload_n 0, 1) := by decide +kernel
theorem dX4_keep_1 : decode cX4_keep 1 = .ok (.aload_n 0, 1) := by decide +kernel
theorem dX4_keep_2 : decode cX4_keep 2 = .ok (.getfield 136, 3) := by decide +kernel
theorem dX4_keep_5 : decode cX4_keep 5 = .ok (.ifCond .ne 7, 3) := by decide +kernel
theorem dX4_keep_8 : decode cX4_keep 8 = .ok (.iconst 1, 1) := by decide +kernel
theorem dX4_keep_9 : decode cX4_keep 9 = .ok (.goto 4, 3) := by decide +kernel
theorem dX4_keep_12 : decode cX4_keep 12 = .ok (.iconst 0, 1) := by decide +kernel
theorem dX4_keep_13 : decode cX4_keep 13 = .ok (.invokevirtual 54, 3) := by decide +kernel
theorem dX4_keep_16 : decode cX4_keep 16 = .ok (.ifCond .ne 5, 3) := by decide +kernel
theorem dX4_keep_19 : decode cX4_keep 19 = .ok (.iconst 0, 1) := by decide +kernel
theorem dX4_keep_20 : decode cX4_keep 20 = .ok (.ireturn, 1) := by decide +kernel
theorem dX4_keep_21 : decode cX4_keep 21 = .ok (.aload_n 0, 1) := by decide +kernel
theorem dX4_keep_22 : decode cX4_keep 22 = .ok (.dup, 1) := by decide +kernel
theorem dX4_keep_23 : decode cX4_keep 23 = .ok (.getfield 136, 3) := by decide +kernel
theorem dX4_keep_26 : decode cX4_keep 26 = .ok (.iconst 1, 1) := by decide +kernel
theorem dX4_keep_27 : decode cX4_keep 27 = .ok (.isub, 1) := by decide +kernel
theorem dX4_keep_28 : decode cX4_keep 28 = .ok (.putfield 136, 3) := by decide +kernel
theorem dX4_keep_31 : decode cX4_keep 31 = .ok (.aload_n 0, 1) := by decide +kernel
theorem dX4_keep_32 : decode cX4_keep 32 = .ok (.getfield 136, 3) := by decide +kernel
theorem dX4_keep_35 : decode cX4_keep 35 = .ok (.ireturn, 1) := by decide +kernel
theorem dX4_layers_0 : decode cX4_layers 0 = .ok (.aload_n 0, 1) := by decide +kernel
theorem dX4_layers_1 : decode cX4_layers 1 = .ok (.iconst 0, 1) := by decide +kernel
theorem dX4_layers_2 : decode cX4_layers 2 = .ok (.putfield 38, 3) := by decide +kernel
theorem dX4_layers_5 : decode cX4_layers 5 = .ok (.aload_n 0, 1) := by decide +kernel
theorem dX4_layers_6 : decode cX4_layers 6 = .ok (.getfield 136, 3) := by decide +kernel
theorem dX4_layers_9 : decode cX4_layers 9 = .ok (.ireturn, 1) := by decide +kernel
theorem dX4_drafted_0 : decode cX4_drafted 0 = .ok (.aload_n 0, 1) := by decide +kernel
theorem dX4_drafted_1 : decode cX4_drafted 1 = .ok (.iconst 0, 1) := by decide +kernel
theorem dX4_drafted_2 : decode cX4_drafted 2 = .ok (.putfield 38, 3) := by decide +kernel
theorem dX4_drafted_5 : decode cX4_drafted 5 = .ok (.aload_n 0, 1) := by decide +kernel
theorem dX4_drafted_6 : decode cX4_drafted 6 = .ok (.getfield 46, 3) := by decide +kernel
theorem dX4_drafted_9 : decode cX4_drafted 9 = .ok (.ireturn, 1) := by decide +kernel
set_option maxRecDepth 20000 in
theorem ggX4_errorOfValue_X4_worksAll : GoodIn wsX4_errorOfValue wsX4_worksAll := goodIn_ca (goodIn_ca (goodIn_r _ [6, 1, 7, 8, 9, 5, 10, 11, 12, 13, 14, 15, 16, 17, 18, 19, 20, 21, 22, 23, 24, 25, 26, 27, 28, 29, 30, 31, 32, 33, 34, 35, 36, 37, 38, 39, 40, 41, 42, 43, 44, 45, 46, 47, 48, 49, 50, 51, 52, 53, 54, 55, 56, 57, 58, 62, 63, 64, 65, 66, 67, 68, 69, 70, 71, 72, 73, 74, 75, 76, 77] (by decide +kernel) (by decide +kernel)) (goodIn_sub (fun _ h => List.mem_cons_of_mem _ (List.mem_append_left _ (List.mem_append_right _ h))) (by decide +kernel))) (goodIn_sub (fun _ h => List.mem_cons_of_mem _ (List.mem_append_right _ h)) (by decide +kernel))
set_option maxRecDepth 20000 in
theorem gX4_errorOfValue_X4_worksAll : GoodIn wsX4_errorOfValue (wsV RX4 142 RX4 yX4_worksAll wsX4_worksAll) := goodIn_app (goodIn_of _ (by decide +kernel)) ggX4_errorOfValue_X4_worksAll
set_option maxRecDepth 20000 in
theorem ggX4_errorOfValue_X4_isCell : GoodIn wsX4_errorOfValue wsX4_isCell := goodIn_r _ [61, 18, 19, 5, 20] (by decide +kernel) (by decide +kernel)
set_option maxRecDepth 20000 in
theorem gX4_errorOfValue_X4_isCell : GoodIn wsX4_errorOfValue (va_wsS RX4 62 yX4_isCell wsX4_isCell) := goodIn_app (goodIn_of _ (by decide +kernel)) ggX4_errorOfValue_X4_isCell
theorem dX4_errorOfValue_0 : decode cX4_errorOfValue 0 = .ok (.aload_n 0, 1) := by decide +kernel
theorem dX4_errorOfValue_1 : decode cX4_errorOfValue 1 = .ok (.invokevirtual 142, 3) := by decide +kernel
theorem dX4_errorOfValue_4 : decode cX4_errorOfValue 4 = .ok (.iload_n 1, 1) := by decide +kernel
theorem dX4_errorOfValue_5 : decode cX4_errorOfValue 5 = .ok (.invokestatic 62, 3) := by decide +kernel
theorem dX4_errorOfValue_8 : decode cX4_errorOfValue 8 = .ok (.ifCond .ne 7, 3) := by decide +kernel
theorem dX4_errorOfValue_11 : decode cX4_errorOfValue 11 = .ok (.iconst 1, 1) := by decide +kernel
theorem dX4_errorOfValue_12 : decode cX4_errorOfValue 12 = .ok (.goto 18, 3) := by decide +kernel
theorem dX4_errorOfValue_15 : decode cX4_errorOfValue 15 = .ok (.aload_n 0, 1) := by decide +kernel
theorem dX4_errorOfValue_16 : decode cX4_errorOfValue 16 = .ok (.getfield 29, 3) := by decide +kernel
theorem dX4_errorOfValue_19 : decode cX4_errorOfValue 19 = .ok (.iload_n 1, 1) := by decide +kernel
theorem dX4_errorOfValue_20 : decode cX4_errorOfValue 20 = .ok (.iaload, 1) := by decide +kernel
theorem dX4_errorOfValue_21 : decode cX4_errorOfValue 21 = .ok (.iconst 2, 1) := by decide +kernel
theorem dX4_errorOfValue_22 : decode cX4_errorOfValue 22 = .ok (.if_icmp .ne 7, 3) := by decide +kernel
theorem dX4_errorOfValue_25 : decode cX4_errorOfValue 25 = .ok (.iconst 2, 1) := by decide +kernel
theorem dX4_errorOfValue_26 : decode cX4_errorOfValue 26 = .ok (.goto 4, 3) := by decide +kernel
theorem dX4_errorOfValue_29 : decode cX4_errorOfValue 29 = .ok (.iconst 0, 1) := by decide +kernel
theorem dX4_errorOfValue_30 : decode cX4_errorOfValue 30 = .ok (.ireturn, 1) := by decide +kernel
set_option maxRecDepth 20000 in
theorem ggX4_value_X4_errorOfValue : GoodIn wsX4_value wsX4_errorOfValue := goodIn_ca (goodIn_ca (goodIn_r _ [6, 7, 8, 9, 10, 5, 11, 12, 13, 14, 15, 16, 17, 18, 19, 20, 21, 22, 23, 24, 25, 26, 27, 28, 29, 30, 31, 32, 33, 34, 35, 36, 37, 1, 38, 39, 40, 41, 42, 43, 44, 45, 46, 47, 48, 49, 50, 51, 52, 53, 54, 55, 56, 57, 58, 59, 60, 61, 62, 63, 64, 65, 71, 72, 73, 74, 75, 76, 77, 78, 79, 80, 81, 82, 83, 84, 85, 86] (by decide +kernel) (by decide +kernel)) (goodIn_sub (fun _ h => List.mem_cons_of_mem _ (List.mem_append_left _ (List.mem_append_right _ h))) (by decide +kernel))) (goodIn_sub (fun _ h => List.mem_cons_of_mem _ (List.mem_append_right _ h)) (by decide +kernel))
set_option maxRecDepth 20000 in
theorem gX4_value_X4_errorOfValue : GoodIn wsX4_value (wsV RX4 145 RX4 yX4_errorOfValue wsX4_errorOfValue) := goodIn_app (goodIn_of _ (by decide +kernel)) ggX4_value_X4_errorOfValue
set_option maxRecDepth 20000 in
theorem ggX4_value_X4_holds : GoodIn wsX4_value wsX4_holds := goodIn_r _ [69, 70, 71, 72, 73, 74, 75, 76, 77, 78, 79, 80, 81, 82, 83, 84, 85, 86] (by decide +kernel) (by decide +kernel)
set_option maxRecDepth 20000 in
theorem gX4_value_X4_holds : GoodIn wsX4_value (wsV RX4 54 RX4 yX4_holds wsX4_holds) := goodIn_app (goodIn_of _ (by decide +kernel)) ggX4_value_X4_holds
theorem dX4_value_0 : decode cX4_value 0 = .ok (.aload_n 0, 1) := by decide +kernel
theorem dX4_value_1 : decode cX4_value 1 = .ok (.aload_n 0, 1) := by decide +kernel
theorem dX4_value_2 : decode cX4_value 2 = .ok (.iload_n 1, 1) := by decide +kernel
theorem dX4_value_3 : decode cX4_value 3 = .ok (.invokevirtual 145, 3) := by decide +kernel
theorem dX4_value_6 : decode cX4_value 6 = .ok (.invokevirtual 54, 3) := by decide +kernel
theorem dX4_value_9 : decode cX4_value 9 = .ok (.ifCond .eq 12, 3) := by decide +kernel
theorem dX4_value_12 : decode cX4_value 12 = .ok (.aload_n 0, 1) := by decide +kernel
theorem dX4_value_13 : decode cX4_value 13 = .ok (.getfield 25, 3) := by decide +kernel
theorem dX4_value_16 : decode cX4_value 16 = .ok (.iload_n 1, 1) := by decide +kernel
theorem dX4_value_17 : decode cX4_value 17 = .ok (.laload, 1) := by decide +kernel
theorem dX4_value_18 : decode cX4_value 18 = .ok (.goto 4, 3) := by decide +kernel
theorem dX4_value_21 : decode cX4_value 21 = .ok (.lconst 0, 1) := by decide +kernel
theorem dX4_value_22 : decode cX4_value 22 = .ok (.lreturn, 1) := by decide +kernel
set_option maxRecDepth 20000 in
theorem ggX4_valueAnew_X4_errorOfValue : GoodIn wsX4_valueAnew wsX4_errorOfValue := goodIn_ca (goodIn_ca (goodIn_r _ [6, 7, 8, 9, 10, 5, 11, 12, 13, 14, 15, 16, 17, 18, 19, 20, 21, 22, 23, 24, 25, 26, 27, 28, 29, 30, 31, 32, 33, 34, 35, 36, 37, 1, 38, 39, 40, 41, 42, 43, 44, 45, 46, 47, 48, 49, 50, 51, 52, 53, 54, 55, 56, 57, 58, 59, 60, 61, 62, 63, 64, 65, 71, 72, 73, 74, 75, 76, 77, 78, 79, 80, 81, 82, 83, 84, 85, 86] (by decide +kernel) (by decide +kernel)) (goodIn_sub (fun _ h => List.mem_cons_of_mem _ (List.mem_append_left _ (List.mem_append_right _ h))) (by decide +kernel))) (goodIn_sub (fun _ h => List.mem_cons_of_mem _ (List.mem_append_right _ h)) (by decide +kernel))
set_option maxRecDepth 20000 in
theorem gX4_valueAnew_X4_errorOfValue : GoodIn wsX4_valueAnew (wsV RX4 145 RX4 yX4_errorOfValue wsX4_errorOfValue) := goodIn_app (goodIn_of _ (by decide +kernel)) ggX4_valueAnew_X4_errorOfValue
set_option maxRecDepth 20000 in
theorem ggX4_valueAnew_X4_holds : GoodIn wsX4_valueAnew wsX4_holds := goodIn_r _ [69, 70, 71, 72, 73, 74, 75, 76, 77, 78, 79, 80, 81, 82, 83, 84, 85, 86] (by decide +kernel) (by decide +kernel)
set_option maxRecDepth 20000 in
theorem gX4_valueAnew_X4_holds : GoodIn wsX4_valueAnew (wsV RX4 54 RX4 yX4_holds wsX4_holds) := goodIn_app (goodIn_of _ (by decide +kernel)) ggX4_valueAnew_X4_holds
theorem dX4_valueAnew_0 : decode cX4_valueAnew 0 = .ok (.aload_n 0, 1) := by decide +kernel
theorem dX4_valueAnew_1 : decode cX4_valueAnew 1 = .ok (.aload_n 0, 1) := by decide +kernel
theorem dX4_valueAnew_2 : decode cX4_valueAnew 2 = .ok (.iload_n 1, 1) := by decide +kernel
theorem dX4_valueAnew_3 : decode cX4_valueAnew 3 = .ok (.invokevirtual 145, 3) := by decide +kernel
theorem dX4_valueAnew_6 : decode cX4_valueAnew 6 = .ok (.invokevirtual 54, 3) := by decide +kernel
theorem dX4_valueAnew_9 : decode cX4_valueAnew 9 = .ok (.ifCond .eq 12, 3) := by decide +kernel
theorem dX4_valueAnew_12 : decode cX4_valueAnew 12 = .ok (.aload_n 0, 1) := by decide +kernel
theorem dX4_valueAnew_13 : decode cX4_valueAnew 13 = .ok (.getfield 25, 3) := by decide +kernel
theorem dX4_valueAnew_16 : decode cX4_valueAnew 16 = .ok (.iload_n 1, 1) := by decide +kernel
theorem dX4_valueAnew_17 : decode cX4_valueAnew 17 = .ok (.laload, 1) := by decide +kernel
theorem dX4_valueAnew_18 : decode cX4_valueAnew 18 = .ok (.goto 4, 3) := by decide +kernel
theorem dX4_valueAnew_21 : decode cX4_valueAnew 21 = .ok (.lconst 0, 1) := by decide +kernel
theorem dX4_valueAnew_22 : decode cX4_valueAnew 22 = .ok (.lreturn, 1) := by decide +kernel
set_option maxRecDepth 20000 in
theorem ggX4_signs_X4_isCell : GoodIn wsX4_signs wsX4_isCell := goodIn_r _ [5, 6, 7, 4, 8] (by decide +kernel) (by decide +kernel)
set_option maxRecDepth 20000 in
theorem gX4_signs_X4_isCell : GoodIn wsX4_signs (va_wsS RX4 62 yX4_isCell wsX4_isCell) := goodIn_app (goodIn_of _ (by decide +kernel)) ggX4_signs_X4_isCell
set_option maxRecDepth 20000 in
theorem ggX4_signs_X4_holds : GoodIn wsX4_signs wsX4_holds := goodIn_r _ [12, 13, 14, 15, 16, 17, 18, 19, 20, 21, 22, 23, 24, 25, 26, 27, 28, 29] (by decide +kernel) (by decide +kernel)
set_option maxRecDepth 20000 in
theorem gX4_signs_X4_holds : GoodIn wsX4_signs (wsV RX4 54 RX4 yX4_holds wsX4_holds) := goodIn_app (goodIn_of _ (by decide +kernel)) ggX4_signs_X4_holds
theorem dX4_signs_0 : decode cX4_signs 0 = .ok (.aload_n 0, 1) := by decide +kernel
theorem dX4_signs_1 : decode cX4_signs 1 = .ok (.iload_n 1, 1) := by decide +kernel
theorem dX4_signs_2 : decode cX4_signs 2 = .ok (.invokestatic 62, 3) := by decide +kernel
theorem dX4_signs_5 : decode cX4_signs 5 = .ok (.ifCond .eq 7, 3) := by decide +kernel
theorem dX4_signs_8 : decode cX4_signs 8 = .ok (.iconst 0, 1) := by decide +kernel
theorem dX4_signs_9 : decode cX4_signs 9 = .ok (.goto 4, 3) := by decide +kernel
theorem dX4_signs_12 : decode cX4_signs 12 = .ok (.iconst 1, 1) := by decide +kernel
theorem dX4_signs_13 : decode cX4_signs 13 = .ok (.invokevirtual 54, 3) := by decide +kernel
theorem dX4_signs_16 : decode cX4_signs 16 = .ok (.ifCond .eq 12, 3) := by decide +kernel
theorem dX4_signs_19 : decode cX4_signs 19 = .ok (.aload_n 0, 1) := by decide +kernel
theorem dX4_signs_20 : decode cX4_signs 20 = .ok (.getfield 16, 3) := by decide +kernel
theorem dX4_signs_23 : decode cX4_signs 23 = .ok (.iload_n 1, 1) := by decide +kernel
theorem dX4_signs_24 : decode cX4_signs 24 = .ok (.iaload, 1) := by decide +kernel
theorem dX4_signs_25 : decode cX4_signs 25 = .ok (.goto 4, 3) := by decide +kernel
theorem dX4_signs_28 : decode cX4_signs 28 = .ok (.iconst 0, 1) := by decide +kernel
theorem dX4_signs_29 : decode cX4_signs 29 = .ok (.ireturn, 1) := by decide +kernel
set_option maxRecDepth 20000 in
theorem ggX4_level_X4_isCell : GoodIn wsX4_level wsX4_isCell := goodIn_r _ [4, 5, 6, 3, 7] (by decide +kernel) (by decide +kernel)
set_option maxRecDepth 20000 in
theorem gX4_level_X4_isCell : GoodIn wsX4_level (va_wsS RX4 62 yX4_isCell wsX4_isCell) := goodIn_app (goodIn_of _ (by decide +kernel)) ggX4_level_X4_isCell
set_option maxRecDepth 20000 in
theorem ggX4_level_X4_holds : GoodIn wsX4_level wsX4_holds := goodIn_r _ [11, 12, 24, 25, 26, 27, 28, 29, 30, 31, 32, 33, 34, 35, 36, 37, 38, 39] (by decide +kernel) (by decide +kernel)
set_option maxRecDepth 20000 in
theorem gX4_level_X4_holds : GoodIn wsX4_level (wsV RX4 54 RX4 yX4_holds wsX4_holds) := goodIn_app (goodIn_of _ (by decide +kernel)) ggX4_level_X4_holds
set_option maxRecDepth 20000 in
theorem ggX4_level_X4_refersOf : GoodIn wsX4_level wsX4_refersOf := goodIn_ca (goodIn_r _ [16, 17, 18, 19, 20, 3, 21, 22, 23, 5, 6, 7, 24, 25, 26, 27, 28, 29, 30, 31, 32, 33, 34, 35, 36, 37, 38, 39] (by decide +kernel) (by decide +kernel)) (goodIn_sub (fun _ h => List.mem_cons_of_mem _ (List.mem_append_right _ h)) (by decide +kernel))
set_option maxRecDepth 20000 in
theorem gX4_level_X4_refersOf : GoodIn wsX4_level (wsV RX4 76 RX4 yX4_refersOf wsX4_refersOf) := goodIn_app (goodIn_of _ (by decide +kernel)) ggX4_level_X4_refersOf
theorem dX4_level_0 : decode cX4_level 0 = .ok (.aload_n 0, 1) := by decide +kernel
theorem dX4_level_1 : decode cX4_level 1 = .ok (.iload_n 1, 1) := by decide +kernel
theorem dX4_level_2 : decode cX4_level 2 = .ok (.invokestatic 62, 3) := by decide +kernel
theorem dX4_level_5 : decode cX4_level 5 = .ok (.ifCond .eq 7, 3) := by decide +kernel
theorem dX4_level_8 : decode cX4_level 8 = .ok (.iconst 0, 1) := by decide +kernel
theorem dX4_level_9 : decode cX4_level 9 = .ok (.goto 4, 3) := by decide +kernel
theorem dX4_level_12 : decode cX4_level 12 = .ok (.iconst 1, 1) := by decide +kernel
theorem dX4_level_13 : decode cX4_level 13 = .ok (.invokevirtual 54, 3) := by decide +kernel
theorem dX4_level_16 : decode cX4_level 16 = .ok (.ifCond .ne 5, 3) := by decide +kernel
theorem dX4_level_19 : decode cX4_level 19 = .ok (.iconst 0, 1) := by decide +kernel
theorem dX4_level_20 : decode cX4_level 20 = .ok (.ireturn, 1) := by decide +kernel
theorem dX4_level_21 : decode cX4_level 21 = .ok (.iconst 0, 1) := by decide +kernel
theorem dX4_level_22 : decode cX4_level 22 = .ok (.istore_n 2, 1) := by decide +kernel
theorem dX4_level_23 : decode cX4_level 23 = .ok (.aload_n 0, 1) := by decide +kernel
theorem dX4_level_24 : decode cX4_level 24 = .ok (.iload_n 1, 1) := by decide +kernel
theorem dX4_level_25 : decode cX4_level 25 = .ok (.invokevirtual 76, 3) := by decide +kernel
theorem dX4_level_28 : decode cX4_level 28 = .ok (.istore_n 3, 1) := by decide +kernel
theorem dX4_level_29 : decode cX4_level 29 = .ok (.iload_n 3, 1) := by decide +kernel
theorem dX4_level_30 : decode cX4_level 30 = .ok (.ifCond .eq 56, 3) := by decide +kernel
theorem dX4_level_33 : decode cX4_level 33 = .ok (.iinc 2 1, 3) := by decide +kernel
theorem dX4_level_36 : decode cX4_level 36 = .ok (.iconst 0, 1) := by decide +kernel
theorem dX4_level_37 : decode cX4_level 37 = .ok (.istore 4, 2) := by decide +kernel
theorem dX4_level_39 : decode cX4_level 39 = .ok (.iconst 0, 1) := by decide +kernel
theorem dX4_level_40 : decode cX4_level 40 = .ok (.istore 5, 2) := by decide +kernel
theorem dX4_level_42 : decode cX4_level 42 = .ok (.iload 5, 2) := by decide +kernel
theorem dX4_level_44 : decode cX4_level 44 = .ok (.bipush 30, 2) := by decide +kernel
theorem dX4_level_46 : decode cX4_level 46 = .ok (.if_icmp .ge 34, 3) := by decide +kernel
theorem dX4_level_49 : decode cX4_level 49 = .ok (.iload 4, 2) := by decide +kernel
theorem dX4_level_51 : decode cX4_level 51 = .ok (.iload_n 3, 1) := by decide +kernel
theorem dX4_level_52 : decode cX4_level 52 = .ok (.iload 5, 2) := by decide +kernel
theorem dX4_level_54 : decode cX4_level 54 = .ok (.ishr, 1) := by decide +kernel
theorem dX4_level_55 : decode cX4_level 55 = .ok (.iconst 1, 1) := by decide +kernel
theorem dX4_level_56 : decode cX4_level 56 = .ok (.iand, 1) := by decide +kernel
theorem dX4_level_57 : decode cX4_level 57 = .ok (.iconst 1, 1) := by decide +kernel
theorem dX4_level_58 : decode cX4_level 58 = .ok (.if_icmp .ne 12, 3) := by decide +kernel
theorem dX4_level_61 : decode cX4_level 61 = .ok (.aload_n 0, 1) := by decide +kernel
theorem dX4_level_62 : decode cX4_level 62 = .ok (.iload 5, 2) := by decide +kernel
theorem dX4_level_64 : decode cX4_level 64 = .ok (.invokevirtual 76, 3) := by decide +kernel
theorem dX4_level_67 : decode cX4_level 67 = .ok (.goto 4, 3) := by decide +kernel
theorem dX4_level_70 : decode cX4_level 70 = .ok (.iconst 0, 1) := by decide +kernel
theorem dX4_level_71 : decode cX4_level 71 = .ok (.ior, 1) := by decide +kernel
theorem dX4_level_72 : decode cX4_level 72 = .ok (.istore 4, 2) := by decide +kernel
theorem dX4_level_74 : decode cX4_level 74 = .ok (.iinc 5 1, 3) := by decide +kernel
theorem dX4_level_77 : decode cX4_level 77 = .ok (.goto (-35), 3) := by decide +kernel
theorem dX4_level_80 : decode cX4_level 80 = .ok (.iload 4, 2) := by decide +kernel
theorem dX4_level_82 : decode cX4_level 82 = .ok (.istore_n 3, 1) := by decide +kernel
theorem dX4_level_83 : decode cX4_level 83 = .ok (.goto (-54), 3) := by decide +kernel
theorem dX4_level_86 : decode cX4_level 86 = .ok (.iload_n 2, 1) := by decide +kernel
theorem dX4_level_87 : decode cX4_level 87 = .ok (.ireturn, 1) := by decide +kernel
set_option maxRecDepth 20000 in
theorem ggX4_depends_X4_isCell : GoodIn wsX4_depends wsX4_isCell := goodIn_r _ [4, 5, 6, 3, 7] (by decide +kernel) (by decide +kernel)
set_option maxRecDepth 20000 in
theorem gX4_depends_X4_isCell : GoodIn wsX4_depends (va_wsS RX4 62 yX4_isCell wsX4_isCell) := goodIn_app (goodIn_of _ (by decide +kernel)) ggX4_depends_X4_isCell
set_option maxRecDepth 20000 in
theorem ggX4_depends_X4_holds : GoodIn wsX4_depends wsX4_holds := goodIn_r _ [11, 12, 32, 33, 34, 35, 36, 37, 38, 39, 40, 41, 42, 43, 44, 45, 46, 47] (by decide +kernel) (by decide +kernel)
set_option maxRecDepth 20000 in
theorem gX4_depends_X4_holds : GoodIn wsX4_depends (wsV RX4 54 RX4 yX4_holds wsX4_holds) := goodIn_app (goodIn_of _ (by decide +kernel)) ggX4_depends_X4_holds
set_option maxRecDepth 20000 in
theorem ggX4_depends_X4_doesDepend : GoodIn wsX4_depends wsX4_doesDepend := goodIn_ca (goodIn_r _ [16, 17, 18, 19, 3, 20, 21, 22, 23, 24, 25, 26, 27, 5, 6, 7, 28, 29, 30, 31, 32, 33, 34, 35, 36, 37, 38, 39, 40, 41, 42, 43, 44, 45, 46, 47] (by decide +kernel) (by decide +kernel)) (goodIn_sub (fun _ h => List.mem_cons_of_mem _ (List.mem_append_right _ h)) (by decide +kernel))
set_option maxRecDepth 20000 in
theorem gX4_depends_X4_doesDepend : GoodIn wsX4_depends (wsV RX4 148 RX4 yX4_doesDepend wsX4_doesDepend) := goodIn_app (goodIn_of _ (by decide +kernel)) ggX4_depends_X4_doesDepend
theorem dX4_depends_0 : decode cX4_depends 0 = .ok (.aload_n 0, 1) := by decide +kernel
theorem dX4_depends_1 : decode cX4_depends 1 = .ok (.iload_n 1, 1) := by decide +kernel
theorem dX4_depends_2 : decode cX4_depends 2 = .ok (.invokestatic 62, 3) := by decide +kernel
theorem dX4_depends_5 : decode cX4_depends 5 = .ok (.ifCond .eq 14, 3) := by decide +kernel
theorem dX4_depends_8 : decode cX4_depends 8 = .ok (.iload_n 2, 1) := by decide +kernel
theorem dX4_depends_9 : decode cX4_depends 9 = .ok (.invokestatic 62, 3) := by decide +kernel
theorem dX4_depends_12 : decode cX4_depends 12 = .ok (.ifCond .eq 7, 3) := by decide +kernel
theorem dX4_depends_15 : decode cX4_depends 15 = .ok (.iconst 0, 1) := by decide +kernel
theorem dX4_depends_16 : decode cX4_depends 16 = .ok (.goto 4, 3) := by decide +kernel
theorem dX4_depends_19 : decode cX4_depends 19 = .ok (.iconst 1, 1) := by decide +kernel
theorem dX4_depends_20 : decode cX4_depends 20 = .ok (.invokevirtual 54, 3) := by decide +kernel
theorem dX4_depends_23 : decode cX4_depends 23 = .ok (.ifCond .eq 16, 3) := by decide +kernel
theorem dX4_depends_26 : decode cX4_depends 26 = .ok (.aload_n 0, 1) := by decide +kernel
theorem dX4_depends_27 : decode cX4_depends 27 = .ok (.iload_n 1, 1) := by decide +kernel
theorem dX4_depends_28 : decode cX4_depends 28 = .ok (.iload_n 2, 1) := by decide +kernel
theorem dX4_depends_29 : decode cX4_depends 29 = .ok (.invokevirtual 148, 3) := by decide +kernel
theorem dX4_depends_32 : decode cX4_depends 32 = .ok (.ifCond .eq 7, 3) := by decide +kernel
theorem dX4_depends_35 : decode cX4_depends 35 = .ok (.iconst 1, 1) := by decide +kernel
theorem dX4_depends_36 : decode cX4_depends 36 = .ok (.goto 4, 3) := by decide +kernel
theorem dX4_depends_39 : decode cX4_depends 39 = .ok (.iconst 0, 1) := by decide +kernel
theorem dX4_depends_40 : decode cX4_depends 40 = .ok (.ireturn, 1) := by decide +kernel
set_option maxRecDepth 20000 in
theorem ggX4_faulty_X4_worksAll : GoodIn wsX4_faulty wsX4_worksAll := goodIn_ca (goodIn_ca (goodIn_r _ [7, 2, 8, 9, 10, 6, 11, 12, 13, 14, 15, 16, 17, 18, 19, 20, 21, 22, 23, 24, 25, 26, 27, 28, 29, 30, 31, 32, 33, 34, 35, 36, 37, 38, 39, 40, 41, 42, 43, 44, 45, 46, 47, 48, 49, 50, 51, 52, 53, 54, 55, 56, 57, 58, 59, 60, 61, 62, 63, 64, 65, 66, 67, 68, 69, 70, 71, 72, 73, 74, 75] (by decide +kernel) (by decide +kernel)) (goodIn_sub (fun _ h => List.mem_cons_of_mem _ (List.mem_append_left _ (List.mem_append_right _ h))) (by decide +kernel))) (goodIn_sub (fun _ h => List.mem_cons_of_mem _ (List.mem_append_right _ h)) (by decide +kernel))
set_option maxRecDepth 20000 in
theorem gX4_faulty_X4_worksAll : GoodIn wsX4_faulty (wsV RX4 142 RX4 yX4_worksAll wsX4_worksAll) := goodIn_app (goodIn_of _ (by decide +kernel)) ggX4_faulty_X4_worksAll
theorem dX4_faulty_0 : decode cX4_faulty 0 = .ok (.aload_n 0, 1) := by decide +kernel
theorem dX4_faulty_1 : decode cX4_faulty 1 = .ok (.iconst 0, 1) := by decide +kernel
theorem dX4_faulty_2 : decode cX4_faulty 2 = .ok (.putfield 38, 3) := by decide +kernel
theorem dX4_faulty_5 : decode cX4_faulty 5 = .ok (.aload_n 0, 1) := by decide +kernel
theorem dX4_faulty_6 : decode cX4_faulty 6 = .ok (.invokevirtual 142, 3) := by decide +kernel
theorem dX4_faulty_9 : decode cX4_faulty 9 = .ok (.iconst 0, 1) := by decide +kernel
theorem dX4_faulty_10 : decode cX4_faulty 10 = .ok (.istore_n 1, 1) := by decide +kernel
theorem dX4_faulty_11 : decode cX4_faulty 11 = .ok (.iconst 0, 1) := by decide +kernel
theorem dX4_faulty_12 : decode cX4_faulty 12 = .ok (.istore_n 2, 1) := by decide +kernel
theorem dX4_faulty_13 : decode cX4_faulty 13 = .ok (.iload_n 2, 1) := by decide +kernel
theorem dX4_faulty_14 : decode cX4_faulty 14 = .ok (.bipush 30, 2) := by decide +kernel
theorem dX4_faulty_16 : decode cX4_faulty 16 = .ok (.if_icmp .ge 27, 3) := by decide +kernel
theorem dX4_faulty_19 : decode cX4_faulty 19 = .ok (.iload_n 1, 1) := by decide +kernel
theorem dX4_faulty_20 : decode cX4_faulty 20 = .ok (.aload_n 0, 1) := by decide +kernel
theorem dX4_faulty_21 : decode cX4_faulty 21 = .ok (.getfield 29, 3) := by decide +kernel
theorem dX4_faulty_24 : decode cX4_faulty 24 = .ok (.iload_n 2, 1) := by decide +kernel
theorem dX4_faulty_25 : decode cX4_faulty 25 = .ok (.iaload, 1) := by decide +kernel
theorem dX4_faulty_26 : decode cX4_faulty 26 = .ok (.iconst 2, 1) := by decide +kernel
theorem dX4_faulty_27 : decode cX4_faulty 27 = .ok (.if_icmp .ne 7, 3) := by decide +kernel
theorem dX4_faulty_30 : decode cX4_faulty 30 = .ok (.iconst 1, 1) := by decide +kernel
theorem dX4_faulty_31 : decode cX4_faulty 31 = .ok (.goto 4, 3) := by decide +kernel
theorem dX4_faulty_34 : decode cX4_faulty 34 = .ok (.iconst 0, 1) := by decide +kernel
theorem dX4_faulty_35 : decode cX4_faulty 35 = .ok (.iadd, 1) := by decide +kernel
theorem dX4_faulty_36 : decode cX4_faulty 36 = .ok (.istore_n 1, 1) := by decide +kernel
theorem dX4_faulty_37 : decode cX4_faulty 37 = .ok (.iinc 2 1, 3) := by decide +kernel
theorem dX4_faulty_40 : decode cX4_faulty 40 = .ok (.goto (-27), 3) := by decide +kernel
theorem dX4_faulty_43 : decode cX4_faulty 43 = .ok (.iload_n 1, 1) := by decide +kernel
theorem dX4_faulty_44 : decode cX4_faulty 44 = .ok (.ireturn, 1) := by decide +kernel
theorem dX4_foundAnew_0 : decode cX4_foundAnew 0 = .ok (.aload_n 0, 1) := by decide +kernel
theorem dX4_foundAnew_1 : decode cX4_foundAnew 1 = .ok (.iconst 0, 1) := by decide +kernel
theorem dX4_foundAnew_2 : decode cX4_foundAnew 2 = .ok (.putfield 38, 3) := by decide +kernel
theorem dX4_foundAnew_5 : decode cX4_foundAnew 5 = .ok (.aload_n 0, 1) := by decide +kernel
theorem dX4_foundAnew_6 : decode cX4_foundAnew 6 = .ok (.getfield 129, 3) := by decide +kernel
theorem dX4_foundAnew_9 : decode cX4_foundAnew 9 = .ok (.ireturn, 1) := by decide +kernel
set_option maxRecDepth 20000 in
theorem ggX4_side_X4_worksAll : GoodIn wsX4_side wsX4_worksAll := goodIn_ca (goodIn_ca (goodIn_r _ [9, 3, 10, 11, 12, 8, 13, 2, 1, 14, 15, 16, 17, 18, 19, 20, 21, 22, 23, 24, 25, 26, 27, 28, 29, 30, 31, 32, 33, 4, 34, 35, 36, 37, 38, 39, 40, 41, 42, 43, 44, 45, 46, 47, 48, 49, 50, 51, 52, 53, 54, 55, 56, 57, 58, 59, 60, 61, 62, 63, 64, 65, 66, 67, 68, 69, 70, 71, 72, 73, 74] (by decide +kernel) (by decide +kernel)) (goodIn_sub (fun _ h => List.mem_cons_of_mem _ (List.mem_append_left _ (List.mem_append_right _ h))) (by decide +kernel))) (goodIn_sub (fun _ h => List.mem_cons_of_mem _ (List.mem_append_right _ h)) (by decide +kernel))
set_option maxRecDepth 20000 in
theorem gX4_side_X4_worksAll : GoodIn wsX4_side (wsV RX4 142 RX4 yX4_worksAll wsX4_worksAll) := goodIn_app (goodIn_of _ (by decide +kernel)) ggX4_side_X4_worksAll
theorem dX4_side_0 : decode cX4_side 0 = .ok (.aload_n 0, 1) := by decide +kernel
theorem dX4_side_1 : decode cX4_side 1 = .ok (.getfield 16, 3) := by decide +kernel
theorem dX4_side_4 : decode cX4_side 4 = .ok (.iload_n 3, 1) := by decide +kernel
theorem dX4_side_5 : decode cX4_side 5 = .ok (.iaload, 1) := by decide +kernel
theorem dX4_side_6 : decode cX4_side 6 = .ok (.istore 5, 2) := by decide +kernel
theorem dX4_side_8 : decode cX4_side 8 = .ok (.aload_n 0, 1) := by decide +kernel
theorem dX4_side_9 : decode cX4_side 9 = .ok (.getfield 13, 3) := by decide +kernel
theorem dX4_side_12 : decode cX4_side 12 = .ok (.bipush 15, 2) := by decide +kernel
theorem dX4_side_14 : decode cX4_side 14 = .ok (.iload_n 3, 1) := by decide +kernel
theorem dX4_side_15 : decode cX4_side 15 = .ok (.imul, 1) := by decide +kernel
theorem dX4_side_16 : decode cX4_side 16 = .ok (.iaload, 1) := by decide +kernel
theorem dX4_side_17 : decode cX4_side 17 = .ok (.istore 6, 2) := by decide +kernel
theorem dX4_side_19 : decode cX4_side 19 = .ok (.aload_n 0, 1) := by decide +kernel
theorem dX4_side_20 : decode cX4_side 20 = .ok (.getfield 13, 3) := by decide +kernel
theorem dX4_side_23 : decode cX4_side 23 = .ok (.bipush 15, 2) := by decide +kernel
theorem dX4_side_25 : decode cX4_side 25 = .ok (.iload_n 3, 1) := by decide +kernel
theorem dX4_side_26 : decode cX4_side 26 = .ok (.imul, 1) := by decide +kernel
theorem dX4_side_27 : decode cX4_side 27 = .ok (.iload 4, 2) := by decide +kernel
theorem dX4_side_29 : decode cX4_side 29 = .ok (.iastore, 1) := by decide +kernel
theorem dX4_side_30 : decode cX4_side 30 = .ok (.aload_n 0, 1) := by decide +kernel
theorem dX4_side_31 : decode cX4_side 31 = .ok (.getfield 16, 3) := by decide +kernel
theorem dX4_side_34 : decode cX4_side 34 = .ok (.iload_n 3, 1) := by decide +kernel
theorem dX4_side_35 : decode cX4_side 35 = .ok (.iconst 1, 1) := by decide +kernel
theorem dX4_side_36 : decode cX4_side 36 = .ok (.iastore, 1) := by decide +kernel
theorem dX4_side_37 : decode cX4_side 37 = .ok (.aload_n 0, 1) := by decide +kernel
theorem dX4_side_38 : decode cX4_side 38 = .ok (.invokevirtual 142, 3) := by decide +kernel
theorem dX4_side_41 : decode cX4_side 41 = .ok (.aload_n 0, 1) := by decide +kernel
theorem dX4_side_42 : decode cX4_side 42 = .ok (.getfield 13, 3) := by decide +kernel
theorem dX4_side_45 : decode cX4_side 45 = .ok (.bipush 15, 2) := by decide +kernel
theorem dX4_side_47 : decode cX4_side 47 = .ok (.iload_n 3, 1) := by decide +kernel
theorem dX4_side_48 : decode cX4_side 48 = .ok (.imul, 1) := by decide +kernel
theorem dX4_side_49 : decode cX4_side 49 = .ok (.iload 6, 2) := by decide +kernel
theorem dX4_side_51 : decode cX4_side 51 = .ok (.iastore, 1) := by decide +kernel
theorem dX4_side_52 : decode cX4_side 52 = .ok (.aload_n 0, 1) := by decide +kernel
theorem dX4_side_53 : decode cX4_side 53 = .ok (.getfield 16, 3) := by decide +kernel
theorem dX4_side_56 : decode cX4_side 56 = .ok (.iload_n 3, 1) := by decide +kernel
theorem dX4_side_57 : decode cX4_side 57 = .ok (.iload 5, 2) := by decide +kernel
theorem dX4_side_59 : decode cX4_side 59 = .ok (.iastore, 1) := by decide +kernel
theorem dX4_side_60 : decode cX4_side 60 = .ok (.aload_n 0, 1) := by decide +kernel
theorem dX4_side_61 : decode cX4_side 61 = .ok (.getfield 29, 3) := by decide +kernel
theorem dX4_side_64 : decode cX4_side 64 = .ok (.iload_n 1, 1) := by decide +kernel
theorem dX4_side_65 : decode cX4_side 65 = .ok (.iaload, 1) := by decide +kernel
theorem dX4_side_66 : decode cX4_side 66 = .ok (.iconst 2, 1) := by decide +kernel
theorem dX4_side_67 : decode cX4_side 67 = .ok (.if_icmp .ne 7, 3) := by decide +kernel
theorem dX4_side_70 : decode cX4_side 70 = .ok (.iconst 2, 1) := by decide +kernel
theorem dX4_side_71 : decode cX4_side 71 = .ok (.goto 36, 3) := by decide +kernel
theorem dX4_side_74 : decode cX4_side 74 = .ok (.aload_n 0, 1) := by decide +kernel
theorem dX4_side_75 : decode cX4_side 75 = .ok (.getfield 25, 3) := by decide +kernel
theorem dX4_side_78 : decode cX4_side 78 = .ok (.iload_n 1, 1) := by decide +kernel
theorem dX4_side_79 : decode cX4_side 79 = .ok (.laload, 1) := by decide +kernel
theorem dX4_side_80 : decode cX4_side 80 = .ok (.iload_n 2, 1) := by decide +kernel
theorem dX4_side_81 : decode cX4_side 81 = .ok (.i2l, 1) := by decide +kernel
theorem dX4_side_82 : decode cX4_side 82 = .ok (.lcmp, 1) := by decide +kernel
theorem dX4_side_83 : decode cX4_side 83 = .ok (.ifCond .ge 7, 3) := by decide +kernel
theorem dX4_side_86 : decode cX4_side 86 = .ok (.iconst (-1), 1) := by decide +kernel
theorem dX4_side_87 : decode cX4_side 87 = .ok (.goto 20, 3) := by decide +kernel
theorem dX4_side_90 : decode cX4_side 90 = .ok (.aload_n 0, 1) := by decide +kernel
theorem dX4_side_91 : decode cX4_side 91 = .ok (.getfield 25, 3) := by decide +kernel
theorem dX4_side_94 : decode cX4_side 94 = .ok (.iload_n 1, 1) := by decide +kernel
theorem dX4_side_95 : decode cX4_side 95 = .ok (.laload, 1) := by decide +kernel
theorem dX4_side_96 : decode cX4_side 96 = .ok (.iload_n 2, 1) := by decide +kernel
theorem dX4_side_97 : decode cX4_side 97 = .ok (.i2l, 1) := by decide +kernel
theorem dX4_side_98 : decode cX4_side 98 = .ok (.lcmp, 1) := by decide +kernel
theorem dX4_side_99 : decode cX4_side 99 = .ok (.ifCond .le 7, 3) := by decide +kernel
theorem dX4_side_102 : decode cX4_side 102 = .ok (.iconst 1, 1) := by decide +kernel
theorem dX4_side_103 : decode cX4_side 103 = .ok (.goto 4, 3) := by decide +kernel
theorem dX4_side_106 : decode cX4_side 106 = .ok (.iconst 0, 1) := by decide +kernel
theorem dX4_side_107 : decode cX4_side 107 = .ok (.ireturn, 1) := by decide +kernel
set_option maxRecDepth 20000 in
theorem ggX4_sought_X4_side : GoodIn wsX4_sought wsX4_side := goodIn_ca (goodIn_ca (goodIn_r _ [5, 6, 7, 8, 9, 10, 11, 12, 4, 13, 14, 15, 16, 17, 18, 19, 20, 21, 22, 23, 24, 25, 26, 27, 28, 29, 30, 31, 32, 33, 34, 35, 36, 37, 38, 39, 40, 41, 42, 43, 44, 45, 46, 47, 48, 49, 50, 51, 52, 53, 54, 55, 56, 57, 58, 59, 60, 61, 62, 63, 64, 65, 66, 67, 68, 69, 70, 71, 72, 73, 74, 75, 76, 77, 78] (by decide +kernel) (by decide +kernel)) (goodIn_sub (fun _ h => List.mem_cons_of_mem _ (List.mem_append_left _ (List.mem_append_right _ h))) (by decide +kernel))) (goodIn_sub (fun _ h => List.mem_cons_of_mem _ (List.mem_append_right _ h)) (by decide +kernel))
set_option maxRecDepth 20000 in
theorem gX4_sought_X4_side : GoodIn wsX4_sought (wsV RX4 152 RX4 yX4_side wsX4_side) := goodIn_app (goodIn_of _ (by decide +kernel)) ggX4_sought_X4_side
theorem dX4_sought_0 : decode cX4_sought 0 = .ok (.iload 4, 2) := by decide +kernel
theorem dX4_sought_2 : decode cX4_sought 2 = .ok (.istore 6, 2) := by decide +kernel
theorem dX4_sought_4 : decode cX4_sought 4 = .ok (.iload 5, 2) := by decide +kernel
theorem dX4_sought_6 : decode cX4_sought 6 = .ok (.istore 7, 2) := by decide +kernel
theorem dX4_sought_8 : decode cX4_sought 8 = .ok (.aload_n 0, 1) := by decide +kernel
theorem dX4_sought_9 : decode cX4_sought 9 = .ok (.iload_n 1, 1) := by decide +kernel
theorem dX4_sought_10 : decode cX4_sought 10 = .ok (.iload_n 2, 1) := by decide +kernel
theorem dX4_sought_11 : decode cX4_sought 11 = .ok (.iload_n 3, 1) := by decide +kernel
theorem dX4_sought_12 : decode cX4_sought 12 = .ok (.iload 6, 2) := by decide +kernel
theorem dX4_sought_14 : decode cX4_sought 14 = .ok (.invokevirtual 152, 3) := by decide +kernel
theorem dX4_sought_17 : decode cX4_sought 17 = .ok (.istore 8, 2) := by decide +kernel
theorem dX4_sought_19 : decode cX4_sought 19 = .ok (.aload_n 0, 1) := by decide +kernel
theorem dX4_sought_20 : decode cX4_sought 20 = .ok (.iload_n 1, 1) := by decide +kernel
theorem dX4_sought_21 : decode cX4_sought 21 = .ok (.iload_n 2, 1) := by decide +kernel
theorem dX4_sought_22 : decode cX4_sought 22 = .ok (.iload_n 3, 1) := by decide +kernel
theorem dX4_sought_23 : decode cX4_sought 23 = .ok (.iload 7, 2) := by decide +kernel
theorem dX4_sought_25 : decode cX4_sought 25 = .ok (.invokevirtual 152, 3) := by decide +kernel
theorem dX4_sought_28 : decode cX4_sought 28 = .ok (.istore 9, 2) := by decide +kernel
theorem dX4_sought_30 : decode cX4_sought 30 = .ok (.iload 8, 2) := by decide +kernel
theorem dX4_sought_32 : decode cX4_sought 32 = .ok (.iconst 2, 1) := by decide +kernel
theorem dX4_sought_33 : decode cX4_sought 33 = .ok (.if_icmp .eq 21, 3) := by decide +kernel
theorem dX4_sought_36 : decode cX4_sought 36 = .ok (.iload 9, 2) := by decide +kernel
theorem dX4_sought_38 : decode cX4_sought 38 = .ok (.iconst 2, 1) := by decide +kernel
theorem dX4_sought_39 : decode cX4_sought 39 = .ok (.if_icmp .eq 15, 3) := by decide +kernel
theorem dX4_sought_42 : decode cX4_sought 42 = .ok (.iload 8, 2) := by decide +kernel
theorem dX4_sought_44 : decode cX4_sought 44 = .ok (.iload 9, 2) := by decide +kernel
theorem dX4_sought_46 : decode cX4_sought 46 = .ok (.if_icmp .ne 10, 3) := by decide +kernel
theorem dX4_sought_49 : decode cX4_sought 49 = .ok (.iload 8, 2) := by decide +kernel
theorem dX4_sought_51 : decode cX4_sought 51 = .ok (.ifCond .eq 5, 3) := by decide +kernel
theorem dX4_sought_54 : decode cX4_sought 54 = .ok (.iconst (-1), 1) := by decide +kernel
theorem dX4_sought_55 : decode cX4_sought 55 = .ok (.ireturn, 1) := by decide +kernel
theorem dX4_sought_56 : decode cX4_sought 56 = .ok (.iload 7, 2) := by decide +kernel
theorem dX4_sought_58 : decode cX4_sought 58 = .ok (.iload 6, 2) := by decide +kernel
theorem dX4_sought_60 : decode cX4_sought 60 = .ok (.iconst 1, 1) := by decide +kernel
theorem dX4_sought_61 : decode cX4_sought 61 = .ok (.iadd, 1) := by decide +kernel
theorem dX4_sought_62 : decode cX4_sought 62 = .ok (.if_icmp .le 57, 3) := by decide +kernel
theorem dX4_sought_65 : decode cX4_sought 65 = .ok (.iload 6, 2) := by decide +kernel
theorem dX4_sought_67 : decode cX4_sought 67 = .ok (.iload 7, 2) := by decide +kernel
theorem dX4_sought_69 : decode cX4_sought 69 = .ok (.iadd, 1) := by decide +kernel
theorem dX4_sought_70 : decode cX4_sought 70 = .ok (.iconst 2, 1) := by decide +kernel
theorem dX4_sought_71 : decode cX4_sought 71 = .ok (.idiv, 1) := by decide +kernel
theorem dX4_sought_72 : decode cX4_sought 72 = .ok (.istore 10, 2) := by decide +kernel
theorem dX4_sought_74 : decode cX4_sought 74 = .ok (.aload_n 0, 1) := by decide +kernel
theorem dX4_sought_75 : decode cX4_sought 75 = .ok (.iload_n 1, 1) := by decide +kernel
theorem dX4_sought_76 : decode cX4_sought 76 = .ok (.iload_n 2, 1) := by decide +kernel
theorem dX4_sought_77 : decode cX4_sought 77 = .ok (.iload_n 3, 1) := by decide +kernel
theorem dX4_sought_78 : decode cX4_sought 78 = .ok (.iload 10, 2) := by decide +kernel
theorem dX4_sought_80 : decode cX4_sought 80 = .ok (.invokevirtual 152, 3) := by decide +kernel
theorem dX4_sought_83 : decode cX4_sought 83 = .ok (.istore 11, 2) := by decide +kernel
theorem dX4_sought_85 : decode cX4_sought 85 = .ok (.iload 11, 2) := by decide +kernel
theorem dX4_sought_87 : decode cX4_sought 87 = .ok (.iconst 2, 1) := by decide +kernel
theorem dX4_sought_88 : decode cX4_sought 88 = .ok (.if_icmp .ne 5, 3) := by decide +kernel
theorem dX4_sought_91 : decode cX4_sought 91 = .ok (.iconst (-1), 1) := by decide +kernel
theorem dX4_sought_92 : decode cX4_sought 92 = .ok (.ireturn, 1) := by decide +kernel
theorem dX4_sought_93 : decode cX4_sought 93 = .ok (.iload 11, 2) := by decide +kernel
theorem dX4_sought_95 : decode cX4_sought 95 = .ok (.iload 8, 2) := by decide +kernel
theorem dX4_sought_97 : decode cX4_sought 97 = .ok (.if_icmp .ne 15, 3) := by decide +kernel
theorem dX4_sought_100 : decode cX4_sought 100 = .ok (.iload 11, 2) := by decide +kernel
theorem dX4_sought_102 : decode cX4_sought 102 = .ok (.ifCond .eq 10, 3) := by decide +kernel
theorem dX4_sought_105 : decode cX4_sought 105 = .ok (.iload 10, 2) := by decide +kernel
theorem dX4_sought_107 : decode cX4_sought 107 = .ok (.istore 6, 2) := by decide +kernel
theorem dX4_sought_109 : decode cX4_sought 109 = .ok (.goto 7, 3) := by decide +kernel
theorem dX4_sought_112 : decode cX4_sought 112 = .ok (.iload 10, 2) := by decide +kernel
theorem dX4_sought_114 : decode cX4_sought 114 = .ok (.istore 7, 2) := by decide +kernel
theorem dX4_sought_116 : decode cX4_sought 116 = .ok (.goto (-60), 3) := by decide +kernel
theorem dX4_sought_119 : decode cX4_sought 119 = .ok (.iload 8, 2) := by decide +kernel
theorem dX4_sought_121 : decode cX4_sought 121 = .ok (.ifCond .ne 8, 3) := by decide +kernel
theorem dX4_sought_124 : decode cX4_sought 124 = .ok (.iload 6, 2) := by decide +kernel
theorem dX4_sought_126 : decode cX4_sought 126 = .ok (.goto 5, 3) := by decide +kernel
theorem dX4_sought_129 : decode cX4_sought 129 = .ok (.iload 7, 2) := by decide +kernel
theorem dX4_sought_131 : decode cX4_sought 131 = .ok (.ireturn, 1) := by decide +kernel
set_option maxRecDepth 20000 in
theorem ggX4_errorOfSeek_X4_isCell : GoodIn wsX4_errorOfSeek wsX4_isCell := goodIn_r _ [10, 11, 12, 9, 13] (by decide +kernel) (by decide +kernel)
set_option maxRecDepth 20000 in
theorem gX4_errorOfSeek_X4_isCell : GoodIn wsX4_errorOfSeek (va_wsS RX4 62 yX4_isCell wsX4_isCell) := goodIn_app (goodIn_of _ (by decide +kernel)) ggX4_errorOfSeek_X4_isCell
set_option maxRecDepth 20000 in
theorem ggX4_errorOfSeek_X4_in : GoodIn wsX4_errorOfSeek wsX4_in := goodIn_r _ [13] (by decide +kernel) (by decide +kernel)
set_option maxRecDepth 20000 in
theorem gX4_errorOfSeek_X4_in : GoodIn wsX4_errorOfSeek (va_wsS RX4 42 yX4_in wsX4_in) := goodIn_app (goodIn_of _ (by decide +kernel)) ggX4_errorOfSeek_X4_in
set_option maxRecDepth 20000 in
theorem ggX4_errorOfSeek_X4_doesDepend : GoodIn wsX4_errorOfSeek wsX4_doesDepend := goodIn_ca (goodIn_r _ [17, 18, 19, 20, 9, 21, 5, 4, 22, 23, 24, 6, 25, 11, 12, 13, 26, 27, 28, 29, 30, 31, 32, 33, 34, 35, 36, 37, 38, 39, 40, 41, 42, 43, 44, 45] (by decide +kernel) (by decide +kernel)) (goodIn_sub (fun _ h => List.mem_cons_of_mem _ (List.mem_append_right _ h)) (by decide +kernel))
set_option maxRecDepth 20000 in
theorem gX4_errorOfSeek_X4_doesDepend : GoodIn wsX4_errorOfSeek (wsV RX4 148 RX4 yX4_doesDepend wsX4_doesDepend) := goodIn_app (goodIn_of _ (by decide +kernel)) ggX4_errorOfSeek_X4_doesDepend
theorem dX4_errorOfSeek_0 : decode cX4_errorOfSeek 0 = .ok (.iload_n 1, 1) := by decide +kernel
theorem dX4_errorOfSeek_1 : decode cX4_errorOfSeek 1 = .ok (.invokestatic 62, 3) := by decide +kernel
theorem dX4_errorOfSeek_4 : decode cX4_errorOfSeek 4 = .ok (.ifCond .eq 10, 3) := by decide +kernel
theorem dX4_errorOfSeek_7 : decode cX4_errorOfSeek 7 = .ok (.iload_n 3, 1) := by decide +kernel
theorem dX4_errorOfSeek_8 : decode cX4_errorOfSeek 8 = .ok (.invokestatic 62, 3) := by decide +kernel
theorem dX4_errorOfSeek_11 : decode cX4_errorOfSeek 11 = .ok (.ifCond .ne 5, 3) := by decide +kernel
theorem dX4_errorOfSeek_14 : decode cX4_errorOfSeek 14 = .ok (.iconst 1, 1) := by decide +kernel
theorem dX4_errorOfSeek_15 : decode cX4_errorOfSeek 15 = .ok (.ireturn, 1) := by decide +kernel
theorem dX4_errorOfSeek_16 : decode cX4_errorOfSeek 16 = .ok (.iload_n 2, 1) := by decide +kernel
theorem dX4_errorOfSeek_17 : decode cX4_errorOfSeek 17 = .ok (.ldc 156, 2) := by decide +kernel
theorem dX4_errorOfSeek_19 : decode cX4_errorOfSeek 19 = .ok (.ldc 157, 2) := by decide +kernel
theorem dX4_errorOfSeek_21 : decode cX4_errorOfSeek 21 = .ok (.invokestatic 42, 3) := by decide +kernel
theorem dX4_errorOfSeek_24 : decode cX4_errorOfSeek 24 = .ok (.ifCond .eq 26, 3) := by decide +kernel
theorem dX4_errorOfSeek_27 : decode cX4_errorOfSeek 27 = .ok (.iload 4, 2) := by decide +kernel
theorem dX4_errorOfSeek_29 : decode cX4_errorOfSeek 29 = .ok (.iconst 0, 1) := by decide +kernel
theorem dX4_errorOfSeek_30 : decode cX4_errorOfSeek 30 = .ok (.ldc 49, 2) := by decide +kernel
theorem dX4_errorOfSeek_32 : decode cX4_errorOfSeek 32 = .ok (.invokestatic 42, 3) := by decide +kernel
theorem dX4_errorOfSeek_35 : decode cX4_errorOfSeek 35 = .ok (.ifCond .eq 15, 3) := by decide +kernel
theorem dX4_errorOfSeek_38 : decode cX4_errorOfSeek 38 = .ok (.iload 5, 2) := by decide +kernel
theorem dX4_errorOfSeek_40 : decode cX4_errorOfSeek 40 = .ok (.iload 4, 2) := by decide +kernel
theorem dX4_errorOfSeek_42 : decode cX4_errorOfSeek 42 = .ok (.ldc 49, 2) := by decide +kernel
theorem dX4_errorOfSeek_44 : decode cX4_errorOfSeek 44 = .ok (.invokestatic 42, 3) := by decide +kernel
theorem dX4_errorOfSeek_47 : decode cX4_errorOfSeek 47 = .ok (.ifCond .ne 5, 3) := by decide +kernel
theorem dX4_errorOfSeek_50 : decode cX4_errorOfSeek 50 = .ok (.iconst 2, 1) := by decide +kernel
theorem dX4_errorOfSeek_51 : decode cX4_errorOfSeek 51 = .ok (.ireturn, 1) := by decide +kernel
theorem dX4_errorOfSeek_52 : decode cX4_errorOfSeek 52 = .ok (.aload_n 0, 1) := by decide +kernel
theorem dX4_errorOfSeek_53 : decode cX4_errorOfSeek 53 = .ok (.getfield 16, 3) := by decide +kernel
theorem dX4_errorOfSeek_56 : decode cX4_errorOfSeek 56 = .ok (.iload_n 3, 1) := by decide +kernel
theorem dX4_errorOfSeek_57 : decode cX4_errorOfSeek 57 = .ok (.iaload, 1) := by decide +kernel
theorem dX4_errorOfSeek_58 : decode cX4_errorOfSeek 58 = .ok (.ifCond .eq 27, 3) := by decide +kernel
theorem dX4_errorOfSeek_61 : decode cX4_errorOfSeek 61 = .ok (.aload_n 0, 1) := by decide +kernel
theorem dX4_errorOfSeek_62 : decode cX4_errorOfSeek 62 = .ok (.getfield 16, 3) := by decide +kernel
theorem dX4_errorOfSeek_65 : decode cX4_errorOfSeek 65 = .ok (.iload_n 3, 1) := by decide +kernel
theorem dX4_errorOfSeek_66 : decode cX4_errorOfSeek 66 = .ok (.iaload, 1) := by decide +kernel
theorem dX4_errorOfSeek_67 : decode cX4_errorOfSeek 67 = .ok (.iconst 1, 1) := by decide +kernel
theorem dX4_errorOfSeek_68 : decode cX4_errorOfSeek 68 = .ok (.if_icmp .ne 21, 3) := by decide +kernel
theorem dX4_errorOfSeek_71 : decode cX4_errorOfSeek 71 = .ok (.aload_n 0, 1) := by decide +kernel
theorem dX4_errorOfSeek_72 : decode cX4_errorOfSeek 72 = .ok (.getfield 13, 3) := by decide +kernel
theorem dX4_errorOfSeek_75 : decode cX4_errorOfSeek 75 = .ok (.bipush 15, 2) := by decide +kernel
theorem dX4_errorOfSeek_77 : decode cX4_errorOfSeek 77 = .ok (.iload_n 3, 1) := by decide +kernel
theorem dX4_errorOfSeek_78 : decode cX4_errorOfSeek 78 = .ok (.imul, 1) := by decide +kernel
theorem dX4_errorOfSeek_79 : decode cX4_errorOfSeek 79 = .ok (.iaload, 1) := by decide +kernel
theorem dX4_errorOfSeek_80 : decode cX4_errorOfSeek 80 = .ok (.ldc 65, 2) := by decide +kernel
theorem dX4_errorOfSeek_82 : decode cX4_errorOfSeek 82 = .ok (.if_icmp .ge 7, 3) := by decide +kernel
theorem dX4_errorOfSeek_85 : decode cX4_errorOfSeek 85 = .ok (.iconst 1, 1) := by decide +kernel
theorem dX4_errorOfSeek_86 : decode cX4_errorOfSeek 86 = .ok (.goto 4, 3) := by decide +kernel
theorem dX4_errorOfSeek_89 : decode cX4_errorOfSeek 89 = .ok (.iconst 0, 1) := by decide +kernel
theorem dX4_errorOfSeek_90 : decode cX4_errorOfSeek 90 = .ok (.istore 6, 2) := by decide +kernel
theorem dX4_errorOfSeek_92 : decode cX4_errorOfSeek 92 = .ok (.iload 6, 2) := by decide +kernel
theorem dX4_errorOfSeek_94 : decode cX4_errorOfSeek 94 = .ok (.ifCond .eq 16, 3) := by decide +kernel
theorem dX4_errorOfSeek_97 : decode cX4_errorOfSeek 97 = .ok (.aload_n 0, 1) := by decide +kernel
theorem dX4_errorOfSeek_98 : decode cX4_errorOfSeek 98 = .ok (.iload_n 1, 1) := by decide +kernel
theorem dX4_errorOfSeek_99 : decode cX4_errorOfSeek 99 = .ok (.iload_n 3, 1) := by decide +kernel
theorem dX4_errorOfSeek_100 : decode cX4_errorOfSeek 100 = .ok (.invokevirtual 148, 3) := by decide +kernel
theorem dX4_errorOfSeek_103 : decode cX4_errorOfSeek 103 = .ok (.ifCond .eq 7, 3) := by decide +kernel
theorem dX4_errorOfSeek_106 : decode cX4_errorOfSeek 106 = .ok (.iconst 0, 1) := by decide +kernel
theorem dX4_errorOfSeek_107 : decode cX4_errorOfSeek 107 = .ok (.goto 4, 3) := by decide +kernel
theorem dX4_errorOfSeek_110 : decode cX4_errorOfSeek 110 = .ok (.iconst 3, 1) := by decide +kernel
theorem dX4_errorOfSeek_111 : decode cX4_errorOfSeek 111 = .ok (.ireturn, 1) := by decide +kernel
set_option maxRecDepth 20000 in
theorem ggX4_seek_X4_errorOfSeek : GoodIn wsX4_seek wsX4_errorOfSeek := goodIn_ca (goodIn_r _ [5, 6, 7, 8, 9, 10, 11, 12, 13, 4, 14, 15, 16, 17, 18, 19, 20, 21, 22, 23, 24, 25, 26, 27, 28, 29, 30, 31, 32, 33, 99, 100, 101, 102, 103, 104, 105, 106, 107, 108, 109, 110, 111, 112, 113, 114] (by decide +kernel) (by decide +kernel)) (goodIn_sub (fun _ h => List.mem_cons_of_mem _ (List.mem_append_left _ (List.mem_append_right _ h))) (by decide +kernel))
set_option maxRecDepth 20000 in
theorem gX4_seek_X4_errorOfSeek : GoodIn wsX4_seek (wsV RX4 158 RX4 yX4_errorOfSeek wsX4_errorOfSeek) := goodIn_app (goodIn_of _ (by decide +kernel)) ggX4_seek_X4_errorOfSeek
set_option maxRecDepth 20000 in
theorem ggX4_seek_X4_sought : GoodIn wsX4_seek wsX4_sought := goodIn_ca (goodIn_ca (goodIn_r _ [37, 38, 39, 40, 4, 41, 9, 10, 42, 43, 44, 45, 46, 47, 22, 23, 24, 25, 26, 27, 28, 11, 29, 15, 16, 17, 48, 49, 50, 51, 52, 53, 54, 55, 56, 57, 58, 59, 60, 61, 62, 63, 64, 65, 66, 67, 68, 69, 70, 71, 72, 73, 74, 75, 76, 77, 78, 79, 80, 81, 82, 83, 84, 99, 100, 101, 102, 103, 104, 105, 106, 107, 108, 109, 110, 111, 112, 113, 114] (by decide +kernel) (by decide +kernel)) (goodIn_sub (fun _ h => List.mem_cons_of_mem _ (List.mem_append_left _ (List.mem_append_right _ h))) (by decide +kernel))) (goodIn_sub (fun _ h => List.mem_cons_of_mem _ (List.mem_append_right _ h)) (by decide +kernel))
set_option maxRecDepth 20000 in
theorem gX4_seek_X4_sought : GoodIn wsX4_seek (wsV RX4 162 RX4 yX4_sought wsX4_sought) := goodIn_app (goodIn_of _ (by decide +kernel)) ggX4_seek_X4_sought
set_option maxRecDepth 20000 in
theorem ggX4_seek_X4_holds : GoodIn wsX4_seek wsX4_holds := goodIn_r _ [88, 89, 99, 100, 101, 102, 103, 104, 105, 106, 107, 108, 109, 110, 111, 112, 113, 114] (by decide +kernel) (by decide +kernel)
set_option maxRecDepth 20000 in
theorem gX4_seek_X4_holds : GoodIn wsX4_seek (wsV RX4 54 RX4 yX4_holds wsX4_holds) := goodIn_app (goodIn_of _ (by decide +kernel)) ggX4_seek_X4_holds
set_option maxRecDepth 20000 in
theorem ggX4_seek_X4_puts : GoodIn wsX4_seek wsX4_puts := goodIn_ca (goodIn_r _ [93, 10, 9, 94, 95, 96, 97, 4, 98, 30, 31, 32, 33, 22, 23, 24, 25, 26, 27, 28, 11, 29, 15, 16, 17, 99, 100, 101, 102, 103, 104, 105, 106, 107, 108, 109, 110, 111, 112, 113, 114] (by decide +kernel) (by decide +kernel)) (goodIn_sub (fun _ h => List.mem_cons_of_mem _ (List.mem_append_left _ (List.mem_append_right _ h))) (by decide +kernel))
set_option maxRecDepth 20000 in
theorem gX4_seek_X4_puts : GoodIn wsX4_seek (wsV RX4 132 RX4 yX4_puts wsX4_puts) := goodIn_app (goodIn_of _ (by decide +kernel)) ggX4_seek_X4_puts
theorem dX4_seek_0 : decode cX4_seek 0 = .ok (.aload_n 0, 1) := by decide +kernel
theorem dX4_seek_1 : decode cX4_seek 1 = .ok (.iload_n 1, 1) := by decide +kernel
theorem dX4_seek_2 : decode cX4_seek 2 = .ok (.iload_n 2, 1) := by decide +kernel
theorem dX4_seek_3 : decode cX4_seek 3 = .ok (.iload_n 3, 1) := by decide +kernel
theorem dX4_seek_4 : decode cX4_seek 4 = .ok (.iload 4, 2) := by decide +kernel
theorem dX4_seek_6 : decode cX4_seek 6 = .ok (.iload 5, 2) := by decide +kernel
theorem dX4_seek_8 : decode cX4_seek 8 = .ok (.invokevirtual 158, 3) := by decide +kernel
theorem dX4_seek_11 : decode cX4_seek 11 = .ok (.istore 6, 2) := by decide +kernel
theorem dX4_seek_13 : decode cX4_seek 13 = .ok (.iload 6, 2) := by decide +kernel
theorem dX4_seek_15 : decode cX4_seek 15 = .ok (.ifCond .ne 17, 3) := by decide +kernel
theorem dX4_seek_18 : decode cX4_seek 18 = .ok (.aload_n 0, 1) := by decide +kernel
theorem dX4_seek_19 : decode cX4_seek 19 = .ok (.iload_n 1, 1) := by decide +kernel
theorem dX4_seek_20 : decode cX4_seek 20 = .ok (.iload_n 2, 1) := by decide +kernel
theorem dX4_seek_21 : decode cX4_seek 21 = .ok (.iload_n 3, 1) := by decide +kernel
theorem dX4_seek_22 : decode cX4_seek 22 = .ok (.iload 4, 2) := by decide +kernel
theorem dX4_seek_24 : decode cX4_seek 24 = .ok (.iload 5, 2) := by decide +kernel
theorem dX4_seek_26 : decode cX4_seek 26 = .ok (.invokevirtual 162, 3) := by decide +kernel
theorem dX4_seek_29 : decode cX4_seek 29 = .ok (.goto 4, 3) := by decide +kernel
theorem dX4_seek_32 : decode cX4_seek 32 = .ok (.iconst (-1), 1) := by decide +kernel
theorem dX4_seek_33 : decode cX4_seek 33 = .ok (.istore 7, 2) := by decide +kernel
theorem dX4_seek_35 : decode cX4_seek 35 = .ok (.aload_n 0, 1) := by decide +kernel
theorem dX4_seek_36 : decode cX4_seek 36 = .ok (.iload 6, 2) := by decide +kernel
theorem dX4_seek_38 : decode cX4_seek 38 = .ok (.ifCond .le 8, 3) := by decide +kernel
theorem dX4_seek_41 : decode cX4_seek 41 = .ok (.iload 6, 2) := by decide +kernel
theorem dX4_seek_43 : decode cX4_seek 43 = .ok (.goto 14, 3) := by decide +kernel
theorem dX4_seek_46 : decode cX4_seek 46 = .ok (.iload 7, 2) := by decide +kernel
theorem dX4_seek_48 : decode cX4_seek 48 = .ok (.iconst (-1), 1) := by decide +kernel
theorem dX4_seek_49 : decode cX4_seek 49 = .ok (.if_icmp .ne 7, 3) := by decide +kernel
theorem dX4_seek_52 : decode cX4_seek 52 = .ok (.iconst 4, 1) := by decide +kernel
theorem dX4_seek_53 : decode cX4_seek 53 = .ok (.goto 4, 3) := by decide +kernel
theorem dX4_seek_56 : decode cX4_seek 56 = .ok (.iconst 0, 1) := by decide +kernel
theorem dX4_seek_57 : decode cX4_seek 57 = .ok (.invokevirtual 54, 3) := by decide +kernel
theorem dX4_seek_60 : decode cX4_seek 60 = .ok (.ifCond .ne 5, 3) := by decide +kernel
theorem dX4_seek_63 : decode cX4_seek 63 = .ok (.iconst 0, 1) := by decide +kernel
theorem dX4_seek_64 : decode cX4_seek 64 = .ok (.ireturn, 1) := by decide +kernel
theorem dX4_seek_65 : decode cX4_seek 65 = .ok (.aload_n 0, 1) := by decide +kernel
theorem dX4_seek_66 : decode cX4_seek 66 = .ok (.iload_n 3, 1) := by decide +kernel
theorem dX4_seek_67 : decode cX4_seek 67 = .ok (.iload 7, 2) := by decide +kernel
theorem dX4_seek_69 : decode cX4_seek 69 = .ok (.invokevirtual 132, 3) := by decide +kernel
theorem dX4_seek_72 : decode cX4_seek 72 = .ok (.pop, 1) := by decide +kernel
theorem dX4_seek_73 : decode cX4_seek 73 = .ok (.iload 7, 2) := by decide +kernel
theorem dX4_seek_75 : decode cX4_seek 75 = .ok (.ireturn, 1) := by decide +kernel
