theorem dX0_init_0 : decode cX0_init 0 = .ok (.aload_n 0, 1) := by decide +kernel
theorem dX0_init_1 : decode cX0_init 1 = .ok (.invokespecial 3, 3) := by decide +kernel
theorem dX0_init_4 : decode cX0_init 4 = .ok (.aload_n 0, 1) := by decide +kernel
theorem dX0_init_5 : decode cX0_init 5 = .ok (.bipush 15, 2) := by decide +kernel
theorem dX0_init_7 : decode cX0_init 7 = .ok (.newarray .int, 2) := by decide +kernel
theorem dX0_init_9 : decode cX0_init 9 = .ok (.putfield 9, 3) := by decide +kernel
theorem dX0_init_12 : decode cX0_init 12 = .ok (.return_, 1) := by decide +kernel
theorem dX0_write_0 : decode cX0_write 0 = .ok (.aload_n 0, 1) := by decide +kernel
theorem dX0_write_1 : decode cX0_write 1 = .ok (.getfield 15, 3) := by decide +kernel
theorem dX0_write_4 : decode cX0_write 4 = .ok (.aload_n 0, 1) := by decide +kernel
theorem dX0_write_5 : decode cX0_write 5 = .ok (.getfield 9, 3) := by decide +kernel
theorem dX0_write_8 : decode cX0_write 8 = .ok (.arraylength, 1) := by decide +kernel
theorem dX0_write_9 : decode cX0_write 9 = .ok (.if_icmp .ge 23, 3) := by decide +kernel
theorem dX0_write_12 : decode cX0_write 12 = .ok (.aload_n 0, 1) := by decide +kernel
theorem dX0_write_13 : decode cX0_write 13 = .ok (.getfield 9, 3) := by decide +kernel
theorem dX0_write_16 : decode cX0_write 16 = .ok (.aload_n 0, 1) := by decide +kernel
theorem dX0_write_17 : decode cX0_write 17 = .ok (.getfield 15, 3) := by decide +kernel
theorem dX0_write_20 : decode cX0_write 20 = .ok (.iload_n 1, 1) := by decide +kernel
theorem dX0_write_21 : decode cX0_write 21 = .ok (.iastore, 1) := by decide +kernel
theorem dX0_write_22 : decode cX0_write 22 = .ok (.aload_n 0, 1) := by decide +kernel
theorem dX0_write_23 : decode cX0_write 23 = .ok (.dup, 1) := by decide +kernel
theorem dX0_write_24 : decode cX0_write 24 = .ok (.getfield 15, 3) := by decide +kernel
theorem dX0_write_27 : decode cX0_write 27 = .ok (.iconst 1, 1) := by decide +kernel
theorem dX0_write_28 : decode cX0_write 28 = .ok (.iadd, 1) := by decide +kernel
theorem dX0_write_29 : decode cX0_write 29 = .ok (.putfield 15, 3) := by decide +kernel
theorem dX0_write_32 : decode cX0_write 32 = .ok (.aload_n 0, 1) := by decide +kernel
theorem dX0_write_33 : decode cX0_write 33 = .ok (.getfield 15, 3) := by decide +kernel
theorem dX0_write_36 : decode cX0_write 36 = .ok (.ireturn, 1) := by decide +kernel
theorem dX0_faultPlace_0 : decode cX0_faultPlace 0 = .ok (.iconst 0, 1) := by decide +kernel
theorem dX0_faultPlace_1 : decode cX0_faultPlace 1 = .ok (.istore_n 1, 1) := by decide +kernel
theorem dX0_faultPlace_2 : decode cX0_faultPlace 2 = .ok (.iconst 1, 1) := by decide +kernel
theorem dX0_faultPlace_3 : decode cX0_faultPlace 3 = .ok (.istore_n 2, 1) := by decide +kernel
theorem dX0_faultPlace_4 : decode cX0_faultPlace 4 = .ok (.iconst 0, 1) := by decide +kernel
theorem dX0_faultPlace_5 : decode cX0_faultPlace 5 = .ok (.istore_n 3, 1) := by decide +kernel
theorem dX0_faultPlace_6 : decode cX0_faultPlace 6 = .ok (.iload_n 3, 1) := by decide +kernel
theorem dX0_faultPlace_7 : decode cX0_faultPlace 7 = .ok (.aload_n 0, 1) := by decide +kernel
theorem dX0_faultPlace_8 : decode cX0_faultPlace 8 = .ok (.getfield 15, 3) := by decide +kernel
theorem dX0_faultPlace_11 : decode cX0_faultPlace 11 = .ok (.if_icmp .ge 91, 3) := by decide +kernel
theorem dX0_faultPlace_14 : decode cX0_faultPlace 14 = .ok (.iload_n 3, 1) := by decide +kernel
theorem dX0_faultPlace_15 : decode cX0_faultPlace 15 = .ok (.aload_n 0, 1) := by decide +kernel
theorem dX0_faultPlace_16 : decode cX0_faultPlace 16 = .ok (.getfield 9, 3) := by decide +kernel
theorem dX0_faultPlace_19 : decode cX0_faultPlace 19 = .ok (.arraylength, 1) := by decide +kernel
theorem dX0_faultPlace_20 : decode cX0_faultPlace 20 = .ok (.if_icmp .ge 82, 3) := by decide +kernel
theorem dX0_faultPlace_23 : decode cX0_faultPlace 23 = .ok (.aload_n 0, 1) := by decide +kernel
theorem dX0_faultPlace_24 : decode cX0_faultPlace 24 = .ok (.getfield 9, 3) := by decide +kernel
theorem dX0_faultPlace_27 : decode cX0_faultPlace 27 = .ok (.iload_n 3, 1) := by decide +kernel
theorem dX0_faultPlace_28 : decode cX0_faultPlace 28 = .ok (.iaload, 1) := by decide +kernel
theorem dX0_faultPlace_29 : decode cX0_faultPlace 29 = .ok (.istore 4, 2) := by decide +kernel
theorem dX0_faultPlace_31 : decode cX0_faultPlace 31 = .ok (.iload_n 2, 1) := by decide +kernel
theorem dX0_faultPlace_32 : decode cX0_faultPlace 32 = .ok (.ifCond .eq 35, 3) := by decide +kernel
theorem dX0_faultPlace_35 : decode cX0_faultPlace 35 = .ok (.iload 4, 2) := by decide +kernel
theorem dX0_faultPlace_37 : decode cX0_faultPlace 37 = .ok (.iconst 4, 1) := by decide +kernel
theorem dX0_faultPlace_38 : decode cX0_faultPlace 38 = .ok (.if_icmp .ne 9, 3) := by decide +kernel
theorem dX0_faultPlace_41 : decode cX0_faultPlace 41 = .ok (.iinc 1 1, 3) := by decide +kernel
theorem dX0_faultPlace_44 : decode cX0_faultPlace 44 = .ok (.goto 52, 3) := by decide +kernel
theorem dX0_faultPlace_47 : decode cX0_faultPlace 47 = .ok (.iload 4, 2) := by decide +kernel
theorem dX0_faultPlace_49 : decode cX0_faultPlace 49 = .ok (.bipush 6, 2) := by decide +kernel
theorem dX0_faultPlace_51 : decode cX0_faultPlace 51 = .ok (.if_icmp .lt 8, 3) := by decide +kernel
theorem dX0_faultPlace_54 : decode cX0_faultPlace 54 = .ok (.iconst 0, 1) := by decide +kernel
theorem dX0_faultPlace_55 : decode cX0_faultPlace 55 = .ok (.istore_n 2, 1) := by decide +kernel
theorem dX0_faultPlace_56 : decode cX0_faultPlace 56 = .ok (.goto 40, 3) := by decide +kernel
theorem dX0_faultPlace_59 : decode cX0_faultPlace 59 = .ok (.iload 4, 2) := by decide +kernel
theorem dX0_faultPlace_61 : decode cX0_faultPlace 61 = .ok (.iconst 1, 1) := by decide +kernel
theorem dX0_faultPlace_62 : decode cX0_faultPlace 62 = .ok (.if_icmp .eq 34, 3) := by decide +kernel
theorem dX0_faultPlace_65 : decode cX0_faultPlace 65 = .ok (.iload_n 3, 1) := by decide +kernel
theorem dX0_faultPlace_66 : decode cX0_faultPlace 66 = .ok (.ireturn, 1) := by decide +kernel
theorem dX0_faultPlace_67 : decode cX0_faultPlace 67 = .ok (.iload 4, 2) := by decide +kernel
theorem dX0_faultPlace_69 : decode cX0_faultPlace 69 = .ok (.iconst 3, 1) := by decide +kernel
theorem dX0_faultPlace_70 : decode cX0_faultPlace 70 = .ok (.if_icmp .gt 8, 3) := by decide +kernel
theorem dX0_faultPlace_73 : decode cX0_faultPlace 73 = .ok (.iconst 1, 1) := by decide +kernel
theorem dX0_faultPlace_74 : decode cX0_faultPlace 74 = .ok (.istore_n 2, 1) := by decide +kernel
theorem dX0_faultPlace_75 : decode cX0_faultPlace 75 = .ok (.goto 21, 3) := by decide +kernel
theorem dX0_faultPlace_78 : decode cX0_faultPlace 78 = .ok (.iload 4, 2) := by decide +kernel
theorem dX0_faultPlace_80 : decode cX0_faultPlace 80 = .ok (.iconst 5, 1) := by decide +kernel
theorem dX0_faultPlace_81 : decode cX0_faultPlace 81 = .ok (.if_icmp .ne 13, 3) := by decide +kernel
theorem dX0_faultPlace_84 : decode cX0_faultPlace 84 = .ok (.iload_n 1, 1) := by decide +kernel
theorem dX0_faultPlace_85 : decode cX0_faultPlace 85 = .ok (.ifCond .le 9, 3) := by decide +kernel
theorem dX0_faultPlace_88 : decode cX0_faultPlace 88 = .ok (.iinc 1 (-1), 3) := by decide +kernel
theorem dX0_faultPlace_91 : decode cX0_faultPlace 91 = .ok (.goto 5, 3) := by decide +kernel
theorem dX0_faultPlace_94 : decode cX0_faultPlace 94 = .ok (.iload_n 3, 1) := by decide +kernel
theorem dX0_faultPlace_95 : decode cX0_faultPlace 95 = .ok (.ireturn, 1) := by decide +kernel
theorem dX0_faultPlace_96 : decode cX0_faultPlace 96 = .ok (.iinc 3 1, 3) := by decide +kernel
theorem dX0_faultPlace_99 : decode cX0_faultPlace 99 = .ok (.goto (-93), 3) := by decide +kernel
theorem dX0_faultPlace_102 : decode cX0_faultPlace 102 = .ok (.iload_n 2, 1) := by decide +kernel
theorem dX0_faultPlace_103 : decode cX0_faultPlace 103 = .ok (.ifCond .ne 7, 3) := by decide +kernel
theorem dX0_faultPlace_106 : decode cX0_faultPlace 106 = .ok (.iload_n 1, 1) := by decide +kernel
theorem dX0_faultPlace_107 : decode cX0_faultPlace 107 = .ok (.ifCond .le 10, 3) := by decide +kernel
theorem dX0_faultPlace_110 : decode cX0_faultPlace 110 = .ok (.aload_n 0, 1) := by decide +kernel
theorem dX0_faultPlace_111 : decode cX0_faultPlace 111 = .ok (.getfield 15, 3) := by decide +kernel
theorem dX0_faultPlace_114 : decode cX0_faultPlace 114 = .ok (.goto 4, 3) := by decide +kernel
theorem dX0_faultPlace_117 : decode cX0_faultPlace 117 = .ok (.iconst (-1), 1) := by decide +kernel
theorem dX0_faultPlace_118 : decode cX0_faultPlace 118 = .ok (.ireturn, 1) := by decide +kernel
set_option maxRecDepth 20000 in
theorem ggX0_toFormula_J7_copyOf_59c91 : GoodIn wsX0_toFormula wsJ7_copyOf_59c91 := goodIn_r _ [9, 10, 11, 12, 13, 14, 15, 16, 17, 18, 19, 20, 21, 22, 23, 24] (by decide +kernel) (by decide +kernel)
set_option maxRecDepth 20000 in
theorem gX0_toFormula_J7_copyOf_59c91 : GoodIn wsX0_toFormula (va_wsS RX0 21 yJ7_copyOf_59c91 wsJ7_copyOf_59c91) := goodIn_app (goodIn_of _ (by decide +kernel)) ggX0_toFormula_J7_copyOf_59c91
set_option maxRecDepth 20000 in
theorem ggX0_toFormula_X1_init : GoodIn wsX0_toFormula wsX1_init := goodIn_ca (goodIn_r _ [26, 27, 28, 29, 30, 31, 32, 33, 34, 35, 36] (by decide +kernel) (by decide +kernel)) (goodIn_sub (fun _ h => List.mem_cons_of_mem _ (List.mem_append_right _ h)) (by decide +kernel))
set_option maxRecDepth 20000 in
theorem gX0_toFormula_X1_init_n27 : GoodIn wsX0_toFormula (wsX1_init) := ggX0_toFormula_X1_init
theorem dX0_toFormula_0 : decode cX0_toFormula 0 = .ok (.new 19, 3) := by decide +kernel
theorem dX0_toFormula_3 : decode cX0_toFormula 3 = .ok (.dup, 1) := by decide +kernel
theorem dX0_toFormula_4 : decode cX0_toFormula 4 = .ok (.aload_n 0, 1) := by decide +kernel
theorem dX0_toFormula_5 : decode cX0_toFormula 5 = .ok (.getfield 9, 3) := by decide +kernel
theorem dX0_toFormula_8 : decode cX0_toFormula 8 = .ok (.aload_n 0, 1) := by decide +kernel
theorem dX0_toFormula_9 : decode cX0_toFormula 9 = .ok (.getfield 15, 3) := by decide +kernel
theorem dX0_toFormula_12 : decode cX0_toFormula 12 = .ok (.invokestatic 21, 3) := by decide +kernel
theorem dX0_toFormula_15 : decode cX0_toFormula 15 = .ok (.invokespecial 27, 3) := by decide +kernel
theorem dX0_toFormula_18 : decode cX0_toFormula 18 = .ok (.areturn, 1) := by decide +kernel
set_option maxRecDepth 20000 in
theorem ggX1_init_X3_only : GoodIn wsX1_init wsX3_only := goodIn_r _ [8] (by decide +kernel) (by decide +kernel)
set_option maxRecDepth 20000 in
theorem gX1_init_X3_only_n15 : GoodIn wsX1_init (wsX3_only) := ggX1_init_X3_only
theorem dX1_init_0 : decode cX1_init 0 = .ok (.aload_n 0, 1) := by decide +kernel
theorem dX1_init_1 : decode cX1_init 1 = .ok (.invokespecial 3, 3) := by decide +kernel
theorem dX1_init_4 : decode cX1_init 4 = .ok (.aload_n 0, 1) := by decide +kernel
theorem dX1_init_5 : decode cX1_init 5 = .ok (.aload_n 1, 1) := by decide +kernel
theorem dX1_init_6 : decode cX1_init 6 = .ok (.putfield 9, 3) := by decide +kernel
theorem dX1_init_9 : decode cX1_init 9 = .ok (.iconst 0, 1) := by decide +kernel
theorem dX1_init_10 : decode cX1_init 10 = .ok (.istore_n 2, 1) := by decide +kernel
theorem dX1_init_11 : decode cX1_init 11 = .ok (.iconst 0, 1) := by decide +kernel
theorem dX1_init_12 : decode cX1_init 12 = .ok (.istore_n 3, 1) := by decide +kernel
theorem dX1_init_13 : decode cX1_init 13 = .ok (.iload_n 3, 1) := by decide +kernel
theorem dX1_init_14 : decode cX1_init 14 = .ok (.aload_n 1, 1) := by decide +kernel
theorem dX1_init_15 : decode cX1_init 15 = .ok (.arraylength, 1) := by decide +kernel
theorem dX1_init_16 : decode cX1_init 16 = .ok (.if_icmp .ge 37, 3) := by decide +kernel
theorem dX1_init_19 : decode cX1_init 19 = .ok (.aload_n 1, 1) := by decide +kernel
theorem dX1_init_20 : decode cX1_init 20 = .ok (.iload_n 3, 1) := by decide +kernel
theorem dX1_init_21 : decode cX1_init 21 = .ok (.iaload, 1) := by decide +kernel
theorem dX1_init_22 : decode cX1_init 22 = .ok (.bipush 6, 2) := by decide +kernel
theorem dX1_init_24 : decode cX1_init 24 = .ok (.if_icmp .lt 23, 3) := by decide +kernel
theorem dX1_init_27 : decode cX1_init 27 = .ok (.aload_n 1, 1) := by decide +kernel
theorem dX1_init_28 : decode cX1_init 28 = .ok (.iload_n 3, 1) := by decide +kernel
theorem dX1_init_29 : decode cX1_init 29 = .ok (.iaload, 1) := by decide +kernel
theorem dX1_init_30 : decode cX1_init 30 = .ok (.bipush 36, 2) := by decide +kernel
theorem dX1_init_32 : decode cX1_init 32 = .ok (.if_icmp .ge 15, 3) := by decide +kernel
theorem dX1_init_35 : decode cX1_init 35 = .ok (.iload_n 2, 1) := by decide +kernel
theorem dX1_init_36 : decode cX1_init 36 = .ok (.aload_n 1, 1) := by decide +kernel
theorem dX1_init_37 : decode cX1_init 37 = .ok (.iload_n 3, 1) := by decide +kernel
theorem dX1_init_38 : decode cX1_init 38 = .ok (.iaload, 1) := by decide +kernel
theorem dX1_init_39 : decode cX1_init 39 = .ok (.bipush 6, 2) := by decide +kernel
theorem dX1_init_41 : decode cX1_init 41 = .ok (.isub, 1) := by decide +kernel
theorem dX1_init_42 : decode cX1_init 42 = .ok (.invokestatic 15, 3) := by decide +kernel
theorem dX1_init_45 : decode cX1_init 45 = .ok (.ior, 1) := by decide +kernel
theorem dX1_init_46 : decode cX1_init 46 = .ok (.istore_n 2, 1) := by decide +kernel
theorem dX1_init_47 : decode cX1_init 47 = .ok (.iinc 3 1, 3) := by decide +kernel
theorem dX1_init_50 : decode cX1_init 50 = .ok (.goto (-37), 3) := by decide +kernel
theorem dX1_init_53 : decode cX1_init 53 = .ok (.aload_n 0, 1) := by decide +kernel
theorem dX1_init_54 : decode cX1_init 54 = .ok (.iload_n 2, 1) := by decide +kernel
theorem dX1_init_55 : decode cX1_init 55 = .ok (.putfield 19, 3) := by decide +kernel
theorem dX1_init_58 : decode cX1_init 58 = .ok (.return_, 1) := by decide +kernel
theorem dX1_isEmpty_0 : decode cX1_isEmpty 0 = .ok (.aload_n 0, 1) := by decide +kernel
theorem dX1_isEmpty_1 : decode cX1_isEmpty 1 = .ok (.getfield 9, 3) := by decide +kernel
theorem dX1_isEmpty_4 : decode cX1_isEmpty 4 = .ok (.arraylength, 1) := by decide +kernel
theorem dX1_isEmpty_5 : decode cX1_isEmpty 5 = .ok (.ifCond .ne 7, 3) := by decide +kernel
theorem dX1_isEmpty_8 : decode cX1_isEmpty 8 = .ok (.iconst 1, 1) := by decide +kernel
theorem dX1_isEmpty_9 : decode cX1_isEmpty 9 = .ok (.goto 4, 3) := by decide +kernel
theorem dX1_isEmpty_12 : decode cX1_isEmpty 12 = .ok (.iconst 0, 1) := by decide +kernel
theorem dX1_isEmpty_13 : decode cX1_isEmpty 13 = .ok (.ireturn, 1) := by decide +kernel
theorem dX1_canBeInput_0 : decode cX1_canBeInput 0 = .ok (.aload_n 0, 1) := by decide +kernel
theorem dX1_canBeInput_1 : decode cX1_canBeInput 1 = .ok (.getfield 9, 3) := by decide +kernel
theorem dX1_canBeInput_4 : decode cX1_canBeInput 4 = .ok (.arraylength, 1) := by decide +kernel
theorem dX1_canBeInput_5 : decode cX1_canBeInput 5 = .ok (.ifCond .eq 23, 3) := by decide +kernel
theorem dX1_canBeInput_8 : decode cX1_canBeInput 8 = .ok (.aload_n 0, 1) := by decide +kernel
theorem dX1_canBeInput_9 : decode cX1_canBeInput 9 = .ok (.getfield 9, 3) := by decide +kernel
theorem dX1_canBeInput_12 : decode cX1_canBeInput 12 = .ok (.arraylength, 1) := by decide +kernel
theorem dX1_canBeInput_13 : decode cX1_canBeInput 13 = .ok (.iconst 1, 1) := by decide +kernel
theorem dX1_canBeInput_14 : decode cX1_canBeInput 14 = .ok (.if_icmp .ne 18, 3) := by decide +kernel
theorem dX1_canBeInput_17 : decode cX1_canBeInput 17 = .ok (.aload_n 0, 1) := by decide +kernel
theorem dX1_canBeInput_18 : decode cX1_canBeInput 18 = .ok (.getfield 9, 3) := by decide +kernel
theorem dX1_canBeInput_21 : decode cX1_canBeInput 21 = .ok (.iconst 0, 1) := by decide +kernel
theorem dX1_canBeInput_22 : decode cX1_canBeInput 22 = .ok (.iaload, 1) := by decide +kernel
theorem dX1_canBeInput_23 : decode cX1_canBeInput 23 = .ok (.bipush 36, 2) := by decide +kernel
theorem dX1_canBeInput_25 : decode cX1_canBeInput 25 = .ok (.if_icmp .lt 7, 3) := by decide +kernel
theorem dX1_canBeInput_28 : decode cX1_canBeInput 28 = .ok (.iconst 1, 1) := by decide +kernel
theorem dX1_canBeInput_29 : decode cX1_canBeInput 29 = .ok (.goto 4, 3) := by decide +kernel
theorem dX1_canBeInput_32 : decode cX1_canBeInput 32 = .ok (.iconst 0, 1) := by decide +kernel
theorem dX1_canBeInput_33 : decode cX1_canBeInput 33 = .ok (.ireturn, 1) := by decide +kernel
theorem dX1_sameAs_0 : decode cX1_sameAs 0 = .ok (.aload_n 0, 1) := by decide +kernel
theorem dX1_sameAs_1 : decode cX1_sameAs 1 = .ok (.getfield 9, 3) := by decide +kernel
theorem dX1_sameAs_4 : decode cX1_sameAs 4 = .ok (.arraylength, 1) := by decide +kernel
theorem dX1_sameAs_5 : decode cX1_sameAs 5 = .ok (.aload_n 1, 1) := by decide +kernel
theorem dX1_sameAs_6 : decode cX1_sameAs 6 = .ok (.getfield 9, 3) := by decide +kernel
theorem dX1_sameAs_9 : decode cX1_sameAs 9 = .ok (.arraylength, 1) := by decide +kernel
theorem dX1_sameAs_10 : decode cX1_sameAs 10 = .ok (.if_icmp .eq 5, 3) := by decide +kernel
theorem dX1_sameAs_13 : decode cX1_sameAs 13 = .ok (.iconst 0, 1) := by decide +kernel
theorem dX1_sameAs_14 : decode cX1_sameAs 14 = .ok (.ireturn, 1) := by decide +kernel
theorem dX1_sameAs_15 : decode cX1_sameAs 15 = .ok (.iconst 0, 1) := by decide +kernel
theorem dX1_sameAs_16 : decode cX1_sameAs 16 = .ok (.istore_n 2, 1) := by decide +kernel
theorem dX1_sameAs_17 : decode cX1_sameAs 17 = .ok (.iload_n 2, 1) := by decide +kernel
theorem dX1_sameAs_18 : decode cX1_sameAs 18 = .ok (.aload_n 0, 1) := by decide +kernel
theorem dX1_sameAs_19 : decode cX1_sameAs 19 = .ok (.getfield 9, 3) := by decide +kernel
theorem dX1_sameAs_22 : decode cX1_sameAs 22 = .ok (.arraylength, 1) := by decide +kernel
theorem dX1_sameAs_23 : decode cX1_sameAs 23 = .ok (.if_icmp .ge 26, 3) := by decide +kernel
theorem dX1_sameAs_26 : decode cX1_sameAs 26 = .ok (.aload_n 0, 1) := by decide +kernel
theorem dX1_sameAs_27 : decode cX1_sameAs 27 = .ok (.getfield 9, 3) := by decide +kernel
theorem dX1_sameAs_30 : decode cX1_sameAs 30 = .ok (.iload_n 2, 1) := by decide +kernel
theorem dX1_sameAs_31 : decode cX1_sameAs 31 = .ok (.iaload, 1) := by decide +kernel
theorem dX1_sameAs_32 : decode cX1_sameAs 32 = .ok (.aload_n 1, 1) := by decide +kernel
theorem dX1_sameAs_33 : decode cX1_sameAs 33 = .ok (.getfield 9, 3) := by decide +kernel
theorem dX1_sameAs_36 : decode cX1_sameAs 36 = .ok (.iload_n 2, 1) := by decide +kernel
theorem dX1_sameAs_37 : decode cX1_sameAs 37 = .ok (.iaload, 1) := by decide +kernel
theorem dX1_sameAs_38 : decode cX1_sameAs 38 = .ok (.if_icmp .eq 5, 3) := by decide +kernel
theorem dX1_sameAs_41 : decode cX1_sameAs 41 = .ok (.iconst 0, 1) := by decide +kernel
theorem dX1_sameAs_42 : decode cX1_sameAs 42 = .ok (.ireturn, 1) := by decide +kernel
theorem dX1_sameAs_43 : decode cX1_sameAs 43 = .ok (.iinc 2 1, 3) := by decide +kernel
theorem dX1_sameAs_46 : decode cX1_sameAs 46 = .ok (.goto (-29), 3) := by decide +kernel
theorem dX1_sameAs_49 : decode cX1_sameAs 49 = .ok (.iconst 1, 1) := by decide +kernel
theorem dX1_sameAs_50 : decode cX1_sameAs 50 = .ok (.ireturn, 1) := by decide +kernel
theorem dX2_init_0 : decode cX2_init 0 = .ok (.aload_n 0, 1) := by decide +kernel
theorem dX2_init_1 : decode cX2_init 1 = .ok (.invokespecial 3, 3) := by decide +kernel
theorem dX2_init_4 : decode cX2_init 4 = .ok (.aload_n 0, 1) := by decide +kernel
theorem dX2_init_5 : decode cX2_init 5 = .ok (.iconst 0, 1) := by decide +kernel
theorem dX2_init_6 : decode cX2_init 6 = .ok (.newarray .int, 2) := by decide +kernel
theorem dX2_init_8 : decode cX2_init 8 = .ok (.putfield 9, 3) := by decide +kernel
theorem dX2_init_11 : decode cX2_init 11 = .ok (.aload_n 0, 1) := by decide +kernel
theorem dX2_init_12 : decode cX2_init 12 = .ok (.iconst 0, 1) := by decide +kernel
theorem dX2_init_13 : decode cX2_init 13 = .ok (.newarray .long, 2) := by decide +kernel
theorem dX2_init_15 : decode cX2_init 15 = .ok (.putfield 15, 3) := by decide +kernel
theorem dX2_init_18 : decode cX2_init 18 = .ok (.return_, 1) := by decide +kernel
theorem dX2_take_0 : decode cX2_take 0 = .ok (.aload_n 0, 1) := by decide +kernel
theorem dX2_take_1 : decode cX2_take 1 = .ok (.aload_n 1, 1) := by decide +kernel
theorem dX2_take_2 : decode cX2_take 2 = .ok (.getfield 19, 3) := by decide +kernel
theorem dX2_take_5 : decode cX2_take 5 = .ok (.putfield 9, 3) := by decide +kernel
theorem dX2_take_8 : decode cX2_take 8 = .ok (.aload_n 0, 1) := by decide +kernel
theorem dX2_take_9 : decode cX2_take 9 = .ok (.aload_n 2, 1) := by decide +kernel
theorem dX2_take_10 : decode cX2_take 10 = .ok (.putfield 15, 3) := by decide +kernel
theorem dX2_take_13 : decode cX2_take 13 = .ok (.aload_n 0, 1) := by decide +kernel
theorem dX2_take_14 : decode cX2_take 14 = .ok (.iconst 0, 1) := by decide +kernel
theorem dX2_take_15 : decode cX2_take 15 = .ok (.putfield 22, 3) := by decide +kernel
theorem dX2_take_18 : decode cX2_take 18 = .ok (.return_, 1) := by decide +kernel
set_option maxRecDepth 20000 in
theorem ggX2_sum_X2_product : GoodIn wsX2_sum wsX2_product := goodIn_ca (goodIn_ca (goodIn_r _ [26, 1, 2, 27, 28, 29, 6, 7, 8, 9, 10, 11, 12, 13, 14, 15, 16, 17, 18, 19, 20, 21, 22, 23, 24, 25, 0, 3, 4, 5, 30, 31, 32] (by decide +kernel) (by decide +kernel)) (goodIn_sub (fun _ h => List.mem_cons_of_mem _ (List.mem_append_left _ (List.mem_append_right _ h))) (by decide +kernel))) (goodIn_sub (fun _ h => List.mem_cons_of_mem _ (List.mem_append_right _ h)) (by decide +kernel))
set_option maxRecDepth 20000 in
theorem gX2_sum_X2_product : GoodIn wsX2_sum (wsV RX2 26 RX2 yX2_product wsX2_product) := goodIn_app (goodIn_of _ (by decide +kernel)) ggX2_sum_X2_product
set_option maxRecDepth 20000 in
theorem ggX2_sum_X2_combine : GoodIn wsX2_sum wsX2_combine := goodIn_ca (goodIn_r _ [9, 10, 11, 12, 13, 14, 15, 16, 17, 18, 19, 20] (by decide +kernel) (by decide +kernel)) (goodIn_sub (fun _ h => List.mem_cons_of_mem _ (List.mem_append_right _ h)) (by decide +kernel))
set_option maxRecDepth 20000 in
theorem gX2_sum_X2_combine : GoodIn wsX2_sum (va_wsS RX2 30 yX2_combine wsX2_combine) := goodIn_app (goodIn_of _ (by decide +kernel)) ggX2_sum_X2_combine
theorem dX2_sum_0 : decode cX2_sum 0 = .ok (.aload_n 0, 1) := by decide +kernel
theorem dX2_sum_1 : decode cX2_sum 1 = .ok (.iload_n 1, 1) := by decide +kernel
theorem dX2_sum_2 : decode cX2_sum 2 = .ok (.invokevirtual 26, 3) := by decide +kernel
theorem dX2_sum_5 : decode cX2_sum 5 = .ok (.lstore_n 2, 1) := by decide +kernel
theorem dX2_sum_6 : decode cX2_sum 6 = .ok (.aload_n 0, 1) := by decide +kernel
theorem dX2_sum_7 : decode cX2_sum 7 = .ok (.getfield 22, 3) := by decide +kernel
theorem dX2_sum_10 : decode cX2_sum 10 = .ok (.aload_n 0, 1) := by decide +kernel
theorem dX2_sum_11 : decode cX2_sum 11 = .ok (.getfield 9, 3) := by decide +kernel
theorem dX2_sum_14 : decode cX2_sum 14 = .ok (.arraylength, 1) := by decide +kernel
theorem dX2_sum_15 : decode cX2_sum 15 = .ok (.if_icmp .ge 64, 3) := by decide +kernel
theorem dX2_sum_18 : decode cX2_sum 18 = .ok (.aload_n 0, 1) := by decide +kernel
theorem dX2_sum_19 : decode cX2_sum 19 = .ok (.getfield 9, 3) := by decide +kernel
theorem dX2_sum_22 : decode cX2_sum 22 = .ok (.aload_n 0, 1) := by decide +kernel
theorem dX2_sum_23 : decode cX2_sum 23 = .ok (.getfield 22, 3) := by decide +kernel
theorem dX2_sum_26 : decode cX2_sum 26 = .ok (.iaload, 1) := by decide +kernel
theorem dX2_sum_27 : decode cX2_sum 27 = .ok (.ifCond .eq 16, 3) := by decide +kernel
theorem dX2_sum_30 : decode cX2_sum 30 = .ok (.aload_n 0, 1) := by decide +kernel
theorem dX2_sum_31 : decode cX2_sum 31 = .ok (.getfield 9, 3) := by decide +kernel
theorem dX2_sum_34 : decode cX2_sum 34 = .ok (.aload_n 0, 1) := by decide +kernel
theorem dX2_sum_35 : decode cX2_sum 35 = .ok (.getfield 22, 3) := by decide +kernel
theorem dX2_sum_38 : decode cX2_sum 38 = .ok (.iaload, 1) := by decide +kernel
theorem dX2_sum_39 : decode cX2_sum 39 = .ok (.iconst 1, 1) := by decide +kernel
theorem dX2_sum_40 : decode cX2_sum 40 = .ok (.if_icmp .ne 39, 3) := by decide +kernel
theorem dX2_sum_43 : decode cX2_sum 43 = .ok (.aload_n 0, 1) := by decide +kernel
theorem dX2_sum_44 : decode cX2_sum 44 = .ok (.getfield 9, 3) := by decide +kernel
theorem dX2_sum_47 : decode cX2_sum 47 = .ok (.aload_n 0, 1) := by decide +kernel
theorem dX2_sum_48 : decode cX2_sum 48 = .ok (.getfield 22, 3) := by decide +kernel
theorem dX2_sum_51 : decode cX2_sum 51 = .ok (.iaload, 1) := by decide +kernel
theorem dX2_sum_52 : decode cX2_sum 52 = .ok (.istore 4, 2) := by decide +kernel
theorem dX2_sum_54 : decode cX2_sum 54 = .ok (.aload_n 0, 1) := by decide +kernel
theorem dX2_sum_55 : decode cX2_sum 55 = .ok (.dup, 1) := by decide +kernel
theorem dX2_sum_56 : decode cX2_sum 56 = .ok (.getfield 22, 3) := by decide +kernel
theorem dX2_sum_59 : decode cX2_sum 59 = .ok (.iconst 1, 1) := by decide +kernel
theorem dX2_sum_60 : decode cX2_sum 60 = .ok (.iadd, 1) := by decide +kernel
theorem dX2_sum_61 : decode cX2_sum 61 = .ok (.putfield 22, 3) := by decide +kernel
theorem dX2_sum_64 : decode cX2_sum 64 = .ok (.iload 4, 2) := by decide +kernel
theorem dX2_sum_66 : decode cX2_sum 66 = .ok (.lload_n 2, 1) := by decide +kernel
theorem dX2_sum_67 : decode cX2_sum 67 = .ok (.aload_n 0, 1) := by decide +kernel
theorem dX2_sum_68 : decode cX2_sum 68 = .ok (.iload_n 1, 1) := by decide +kernel
theorem dX2_sum_69 : decode cX2_sum 69 = .ok (.invokevirtual 26, 3) := by decide +kernel
theorem dX2_sum_72 : decode cX2_sum 72 = .ok (.invokestatic 30, 3) := by decide +kernel
theorem dX2_sum_75 : decode cX2_sum 75 = .ok (.lstore_n 2, 1) := by decide +kernel
theorem dX2_sum_76 : decode cX2_sum 76 = .ok (.goto (-70), 3) := by decide +kernel
theorem dX2_sum_79 : decode cX2_sum 79 = .ok (.lload_n 2, 1) := by decide +kernel
theorem dX2_sum_80 : decode cX2_sum 80 = .ok (.lreturn, 1) := by decide +kernel
set_option maxRecDepth 20000 in
theorem ggX2_product_X2_factor : GoodIn wsX2_product wsX2_factor := goodIn_ca (goodIn_r _ [21, 1, 2, 10, 22, 23, 24, 25, 6, 0, 3, 4, 5, 7, 8, 9, 11, 12, 13, 14, 15, 16, 17, 18, 19, 20, 26, 27, 28, 29, 30, 31, 32] (by decide +kernel) (by decide +kernel)) (goodIn_sub (fun _ h => List.mem_cons_of_mem _ (List.mem_append_left _ (List.mem_append_right _ h))) (by decide +kernel))
set_option maxRecDepth 20000 in
theorem gX2_product_X2_factor : GoodIn wsX2_product (wsV RX2 34 RX2 yX2_factor wsX2_factor) := goodIn_app (goodIn_of _ (by decide +kernel)) ggX2_product_X2_factor
set_option maxRecDepth 20000 in
theorem ggX2_product_X2_combine : GoodIn wsX2_product wsX2_combine := goodIn_ca (goodIn_r _ [9, 10, 11, 12, 13, 14, 15, 16, 17, 18, 19, 20] (by decide +kernel) (by decide +kernel)) (goodIn_sub (fun _ h => List.mem_cons_of_mem _ (List.mem_append_right _ h)) (by decide +kernel))
set_option maxRecDepth 20000 in
theorem gX2_product_X2_combine : GoodIn wsX2_product (va_wsS RX2 30 yX2_combine wsX2_combine) := goodIn_app (goodIn_of _ (by decide +kernel)) ggX2_product_X2_combine
theorem dX2_product_0 : decode cX2_product 0 = .ok (.aload_n 0, 1) := by decide +kernel
theorem dX2_product_1 : decode cX2_product 1 = .ok (.iload_n 1, 1) := by decide +kernel
theorem dX2_product_2 : decode cX2_product 2 = .ok (.invokevirtual 34, 3) := by decide +kernel
theorem dX2_product_5 : decode cX2_product 5 = .ok (.lstore_n 2, 1) := by decide +kernel
theorem dX2_product_6 : decode cX2_product 6 = .ok (.aload_n 0, 1) := by decide +kernel
theorem dX2_product_7 : decode cX2_product 7 = .ok (.getfield 22, 3) := by decide +kernel
theorem dX2_product_10 : decode cX2_product 10 = .ok (.aload_n 0, 1) := by decide +kernel
theorem dX2_product_11 : decode cX2_product 11 = .ok (.getfield 9, 3) := by decide +kernel
theorem dX2_product_14 : decode cX2_product 14 = .ok (.arraylength, 1) := by decide +kernel
theorem dX2_product_15 : decode cX2_product 15 = .ok (.if_icmp .ge 65, 3) := by decide +kernel
theorem dX2_product_18 : decode cX2_product 18 = .ok (.aload_n 0, 1) := by decide +kernel
theorem dX2_product_19 : decode cX2_product 19 = .ok (.getfield 9, 3) := by decide +kernel
theorem dX2_product_22 : decode cX2_product 22 = .ok (.aload_n 0, 1) := by decide +kernel
theorem dX2_product_23 : decode cX2_product 23 = .ok (.getfield 22, 3) := by decide +kernel
theorem dX2_product_26 : decode cX2_product 26 = .ok (.iaload, 1) := by decide +kernel
theorem dX2_product_27 : decode cX2_product 27 = .ok (.iconst 2, 1) := by decide +kernel
theorem dX2_product_28 : decode cX2_product 28 = .ok (.if_icmp .eq 16, 3) := by decide +kernel
theorem dX2_product_31 : decode cX2_product 31 = .ok (.aload_n 0, 1) := by decide +kernel
theorem dX2_product_32 : decode cX2_product 32 = .ok (.getfield 9, 3) := by decide +kernel
theorem dX2_product_35 : decode cX2_product 35 = .ok (.aload_n 0, 1) := by decide +kernel
theorem dX2_product_36 : decode cX2_product 36 = .ok (.getfield 22, 3) := by decide +kernel
theorem dX2_product_39 : decode cX2_product 39 = .ok (.iaload, 1) := by decide +kernel
theorem dX2_product_40 : decode cX2_product 40 = .ok (.iconst 3, 1) := by decide +kernel
theorem dX2_product_41 : decode cX2_product 41 = .ok (.if_icmp .ne 39, 3) := by decide +kernel
theorem dX2_product_44 : decode cX2_product 44 = .ok (.aload_n 0, 1) := by decide +kernel
theorem dX2_product_45 : decode cX2_product 45 = .ok (.getfield 9, 3) := by decide +kernel
theorem dX2_product_48 : decode cX2_product 48 = .ok (.aload_n 0, 1) := by decide +kernel
theorem dX2_product_49 : decode cX2_product 49 = .ok (.getfield 22, 3) := by decide +kernel
theorem dX2_product_52 : decode cX2_product 52 = .ok (.iaload, 1) := by decide +kernel
theorem dX2_product_53 : decode cX2_product 53 = .ok (.istore 4, 2) := by decide +kernel
theorem dX2_product_55 : decode cX2_product 55 = .ok (.aload_n 0, 1) := by decide +kernel
theorem dX2_product_56 : decode cX2_product 56 = .ok (.dup, 1) := by decide +kernel
theorem dX2_product_57 : decode cX2_product 57 = .ok (.getfield 22, 3) := by decide +kernel
theorem dX2_product_60 : decode cX2_product 60 = .ok (.iconst 1, 1) := by decide +kernel
theorem dX2_product_61 : decode cX2_product 61 = .ok (.iadd, 1) := by decide +kernel
theorem dX2_product_62 : decode cX2_product 62 = .ok (.putfield 22, 3) := by decide +kernel
theorem dX2_product_65 : decode cX2_product 65 = .ok (.iload 4, 2) := by decide +kernel
theorem dX2_product_67 : decode cX2_product 67 = .ok (.lload_n 2, 1) := by decide +kernel
theorem dX2_product_68 : decode cX2_product 68 = .ok (.aload_n 0, 1) := by decide +kernel
theorem dX2_product_69 : decode cX2_product 69 = .ok (.iload_n 1, 1) := by decide +kernel
theorem dX2_product_70 : decode cX2_product 70 = .ok (.invokevirtual 34, 3) := by decide +kernel
theorem dX2_product_73 : decode cX2_product 73 = .ok (.invokestatic 30, 3) := by decide +kernel
theorem dX2_product_76 : decode cX2_product 76 = .ok (.lstore_n 2, 1) := by decide +kernel
theorem dX2_product_77 : decode cX2_product 77 = .ok (.goto (-71), 3) := by decide +kernel
theorem dX2_product_80 : decode cX2_product 80 = .ok (.lload_n 2, 1) := by decide +kernel
theorem dX2_product_81 : decode cX2_product 81 = .ok (.lreturn, 1) := by decide +kernel
theorem dX2_factor_0 : decode cX2_factor 0 = .ok (.iconst 0, 1) := by decide +kernel
theorem dX2_factor_1 : decode cX2_factor 1 = .ok (.istore_n 2, 1) := by decide +kernel
theorem dX2_factor_2 : decode cX2_factor 2 = .ok (.aload_n 0, 1) := by decide +kernel
theorem dX2_factor_3 : decode cX2_factor 3 = .ok (.getfield 22, 3) := by decide +kernel
theorem dX2_factor_6 : decode cX2_factor 6 = .ok (.aload_n 0, 1) := by decide +kernel
theorem dX2_factor_7 : decode cX2_factor 7 = .ok (.getfield 9, 3) := by decide +kernel
theorem dX2_factor_10 : decode cX2_factor 10 = .ok (.arraylength, 1) := by decide +kernel
theorem dX2_factor_11 : decode cX2_factor 11 = .ok (.if_icmp .ge 39, 3) := by decide +kernel
theorem dX2_factor_14 : decode cX2_factor 14 = .ok (.aload_n 0, 1) := by decide +kernel
theorem dX2_factor_15 : decode cX2_factor 15 = .ok (.getfield 9, 3) := by decide +kernel
theorem dX2_factor_18 : decode cX2_factor 18 = .ok (.aload_n 0, 1) := by decide +kernel
theorem dX2_factor_19 : decode cX2_factor 19 = .ok (.getfield 22, 3) := by decide +kernel
theorem dX2_factor_22 : decode cX2_factor 22 = .ok (.iaload, 1) := by decide +kernel
theorem dX2_factor_23 : decode cX2_factor 23 = .ok (.iconst 1, 1) := by decide +kernel
theorem dX2_factor_24 : decode cX2_factor 24 = .ok (.if_icmp .ne 26, 3) := by decide +kernel
theorem dX2_factor_27 : decode cX2_factor 27 = .ok (.iload_n 2, 1) := by decide +kernel
theorem dX2_factor_28 : decode cX2_factor 28 = .ok (.ifCond .ne 7, 3) := by decide +kernel
theorem dX2_factor_31 : decode cX2_factor 31 = .ok (.iconst 1, 1) := by decide +kernel
theorem dX2_factor_32 : decode cX2_factor 32 = .ok (.goto 4, 3) := by decide +kernel
theorem dX2_factor_35 : decode cX2_factor 35 = .ok (.iconst 0, 1) := by decide +kernel
theorem dX2_factor_36 : decode cX2_factor 36 = .ok (.istore_n 2, 1) := by decide +kernel
theorem dX2_factor_37 : decode cX2_factor 37 = .ok (.aload_n 0, 1) := by decide +kernel
theorem dX2_factor_38 : decode cX2_factor 38 = .ok (.dup, 1) := by decide +kernel
theorem dX2_factor_39 : decode cX2_factor 39 = .ok (.getfield 22, 3) := by decide +kernel
theorem dX2_factor_42 : decode cX2_factor 42 = .ok (.iconst 1, 1) := by decide +kernel
theorem dX2_factor_43 : decode cX2_factor 43 = .ok (.iadd, 1) := by decide +kernel
theorem dX2_factor_44 : decode cX2_factor 44 = .ok (.putfield 22, 3) := by decide +kernel
theorem dX2_factor_47 : decode cX2_factor 47 = .ok (.goto (-45), 3) := by decide +kernel
theorem dX2_factor_50 : decode cX2_factor 50 = .ok (.aload_n 0, 1) := by decide +kernel
theorem dX2_factor_51 : decode cX2_factor 51 = .ok (.getfield 22, 3) := by decide +kernel
theorem dX2_factor_54 : decode cX2_factor 54 = .ok (.aload_n 0, 1) := by decide +kernel
theorem dX2_factor_55 : decode cX2_factor 55 = .ok (.getfield 9, 3) := by decide +kernel
theorem dX2_factor_58 : decode cX2_factor 58 = .ok (.arraylength, 1) := by decide +kernel
theorem dX2_factor_59 : decode cX2_factor 59 = .ok (.if_icmp .ge 9, 3) := by decide +kernel
theorem dX2_factor_62 : decode cX2_factor 62 = .ok (.iload_n 1, 1) := by decide +kernel
theorem dX2_factor_63 : decode cX2_factor 63 = .ok (.bipush 15, 2) := by decide +kernel
theorem dX2_factor_65 : decode cX2_factor 65 = .ok (.if_icmp .le 7, 3) := by decide +kernel
theorem dX2_factor_68 : decode cX2_factor 68 = .ok (.ldc2_w 37, 3) := by decide +kernel
theorem dX2_factor_71 : decode cX2_factor 71 = .ok (.lreturn, 1) := by decide +kernel
theorem dX2_factor_72 : decode cX2_factor 72 = .ok (.aload_n 0, 1) := by decide +kernel
theorem dX2_factor_73 : decode cX2_factor 73 = .ok (.getfield 9, 3) := by decide +kernel
theorem dX2_factor_76 : decode cX2_factor 76 = .ok (.aload_n 0, 1) := by decide +kernel
theorem dX2_factor_77 : decode cX2_factor 77 = .ok (.getfield 22, 3) := by decide +kernel
theorem dX2_factor_80 : decode cX2_factor 80 = .ok (.iaload, 1) := by decide +kernel
theorem dX2_factor_81 : decode cX2_factor 81 = .ok (.istore_n 3, 1) := by decide +kernel
theorem dX2_factor_82 : decode cX2_factor 82 = .ok (.aload_n 0, 1) := by decide +kernel
theorem dX2_factor_83 : decode cX2_factor 83 = .ok (.dup, 1) := by decide +kernel
theorem dX2_factor_84 : decode cX2_factor 84 = .ok (.getfield 22, 3) := by decide +kernel
theorem dX2_factor_87 : decode cX2_factor 87 = .ok (.iconst 1, 1) := by decide +kernel
theorem dX2_factor_88 : decode cX2_factor 88 = .ok (.iadd, 1) := by decide +kernel
theorem dX2_factor_89 : decode cX2_factor 89 = .ok (.putfield 22, 3) := by decide +kernel
theorem dX2_factor_92 : decode cX2_factor 92 = .ok (.ldc2_w 37, 3) := by decide +kernel
theorem dX2_factor_95 : decode cX2_factor 95 = .ok (.lstore 4, 2) := by decide +kernel
theorem dX2_factor_97 : decode cX2_factor 97 = .ok (.iload_n 3, 1) := by decide +kernel
theorem dX2_factor_98 : decode cX2_factor 98 = .ok (.bipush 36, 2) := by decide +kernel
theorem dX2_factor_100 : decode cX2_factor 100 = .ok (.if_icmp .lt 13, 3) := by decide +kernel
theorem dX2_factor_103 : decode cX2_factor 103 = .ok (.iload_n 3, 1) := by decide +kernel
theorem dX2_factor_104 : decode cX2_factor 104 = .ok (.bipush 36, 2) := by decide +kernel
theorem dX2_factor_106 : decode cX2_factor 106 = .ok (.isub, 1) := by decide +kernel
theorem dX2_factor_107 : decode cX2_factor 107 = .ok (.i2l, 1) := by decide +kernel
theorem dX2_factor_108 : decode cX2_factor 108 = .ok (.lstore 4, 2) := by decide +kernel
theorem dX2_factor_110 : decode cX2_factor 110 = .ok (.goto 59, 3) := by decide +kernel
theorem dX2_factor_113 : decode cX2_factor 113 = .ok (.iload_n 3, 1) := by decide +kernel
theorem dX2_factor_114 : decode cX2_factor 114 = .ok (.bipush 6, 2) := by decide +kernel
theorem dX2_factor_116 : decode cX2_factor 116 = .ok (.if_icmp .lt 29, 3) := by decide +kernel
theorem dX2_factor_119 : decode cX2_factor 119 = .ok (.iload_n 3, 1) := by decide +kernel
theorem dX2_factor_120 : decode cX2_factor 120 = .ok (.bipush 6, 2) := by decide +kernel
theorem dX2_factor_122 : decode cX2_factor 122 = .ok (.isub, 1) := by decide +kernel
theorem dX2_factor_123 : decode cX2_factor 123 = .ok (.aload_n 0, 1) := by decide +kernel
theorem dX2_factor_124 : decode cX2_factor 124 = .ok (.getfield 15, 3) := by decide +kernel
theorem dX2_factor_127 : decode cX2_factor 127 = .ok (.arraylength, 1) := by decide +kernel
theorem dX2_factor_128 : decode cX2_factor 128 = .ok (.if_icmp .ge 17, 3) := by decide +kernel
theorem dX2_factor_131 : decode cX2_factor 131 = .ok (.aload_n 0, 1) := by decide +kernel
theorem dX2_factor_132 : decode cX2_factor 132 = .ok (.getfield 15, 3) := by decide +kernel
theorem dX2_factor_135 : decode cX2_factor 135 = .ok (.iload_n 3, 1) := by decide +kernel
theorem dX2_factor_136 : decode cX2_factor 136 = .ok (.bipush 6, 2) := by decide +kernel
theorem dX2_factor_138 : decode cX2_factor 138 = .ok (.isub, 1) := by decide +kernel
theorem dX2_factor_139 : decode cX2_factor 139 = .ok (.laload, 1) := by decide +kernel
theorem dX2_factor_140 : decode cX2_factor 140 = .ok (.lstore 4, 2) := by decide +kernel
theorem dX2_factor_142 : decode cX2_factor 142 = .ok (.goto 27, 3) := by decide +kernel
theorem dX2_factor_145 : decode cX2_factor 145 = .ok (.iload_n 3, 1) := by decide +kernel
theorem dX2_factor_146 : decode cX2_factor 146 = .ok (.iconst 4, 1) := by decide +kernel
theorem dX2_factor_147 : decode cX2_factor 147 = .ok (.if_icmp .ne 22, 3) := by decide +kernel
theorem dX2_factor_150 : decode cX2_factor 150 = .ok (.aload_n 0, 1) := by decide +kernel
theorem dX2_factor_151 : decode cX2_factor 151 = .ok (.iload_n 1, 1) := by decide +kernel
theorem dX2_factor_152 : decode cX2_factor 152 = .ok (.iconst 1, 1) := by decide +kernel
theorem dX2_factor_153 : decode cX2_factor 153 = .ok (.iadd, 1) := by decide +kernel
theorem dX2_factor_154 : decode cX2_factor 154 = .ok (.invokevirtual 39, 3) := by decide +kernel
theorem dX2_factor_157 : decode cX2_factor 157 = .ok (.lstore 4, 2) := by decide +kernel
theorem dX2_factor_159 : decode cX2_factor 159 = .ok (.aload_n 0, 1) := by decide +kernel
theorem dX2_factor_160 : decode cX2_factor 160 = .ok (.dup, 1) := by decide +kernel
theorem dX2_factor_161 : decode cX2_factor 161 = .ok (.getfield 22, 3) := by decide +kernel
theorem dX2_factor_164 : decode cX2_factor 164 = .ok (.iconst 1, 1) := by decide +kernel
theorem dX2_factor_165 : decode cX2_factor 165 = .ok (.iadd, 1) := by decide +kernel
theorem dX2_factor_166 : decode cX2_factor 166 = .ok (.putfield 22, 3) := by decide +kernel
theorem dX2_factor_169 : decode cX2_factor 169 = .ok (.iload_n 2, 1) := by decide +kernel
theorem dX2_factor_170 : decode cX2_factor 170 = .ok (.ifCond .eq 18, 3) := by decide +kernel
theorem dX2_factor_173 : decode cX2_factor 173 = .ok (.lload 4, 2) := by decide +kernel
theorem dX2_factor_175 : decode cX2_factor 175 = .ok (.ldc2_w 37, 3) := by decide +kernel
theorem dX2_factor_178 : decode cX2_factor 178 = .ok (.lcmp, 1) := by decide +kernel
theorem dX2_factor_179 : decode cX2_factor 179 = .ok (.ifCond .eq 9, 3) := by decide +kernel
theorem dX2_factor_182 : decode cX2_factor 182 = .ok (.lload 4, 2) := by decide +kernel
theorem dX2_factor_184 : decode cX2_factor 184 = .ok (.lneg, 1) := by decide +kernel
theorem dX2_factor_185 : decode cX2_factor 185 = .ok (.goto 5, 3) := by decide +kernel
theorem dX2_factor_188 : decode cX2_factor 188 = .ok (.lload 4, 2) := by decide +kernel
theorem dX2_factor_190 : decode cX2_factor 190 = .ok (.lreturn, 1) := by decide +kernel
set_option maxRecDepth 20000 in
theorem ggX2_combine_J9_floorDiv_f86c9 : GoodIn wsX2_combine wsJ9_floorDiv_f86c9 := goodIn_r _ [11] (by decide +kernel) (by decide +kernel)
set_option maxRecDepth 20000 in
theorem gX2_combine_J9_floorDiv_f86c9 : GoodIn wsX2_combine (va_wsS RX2 50 yJ9_floorDiv_f86c9 wsJ9_floorDiv_f86c9) := goodIn_app (goodIn_of _ (by decide +kernel)) ggX2_combine_J9_floorDiv_f86c9
theorem dX2_combine_0 : decode cX2_combine 0 = .ok (.lload_n 1, 1) := by decide +kernel
theorem dX2_combine_1 : decode cX2_combine 1 = .ok (.ldc2_w 37, 3) := by decide +kernel
theorem dX2_combine_4 : decode cX2_combine 4 = .ok (.lcmp, 1) := by decide +kernel
theorem dX2_combine_5 : decode cX2_combine 5 = .ok (.ifCond .eq 11, 3) := by decide +kernel
theorem dX2_combine_8 : decode cX2_combine 8 = .ok (.lload_n 3, 1) := by decide +kernel
theorem dX2_combine_9 : decode cX2_combine 9 = .ok (.ldc2_w 37, 3) := by decide +kernel
theorem dX2_combine_12 : decode cX2_combine 12 = .ok (.lcmp, 1) := by decide +kernel
theorem dX2_combine_13 : decode cX2_combine 13 = .ok (.ifCond .ne 7, 3) := by decide +kernel
theorem dX2_combine_16 : decode cX2_combine 16 = .ok (.ldc2_w 37, 3) := by decide +kernel
theorem dX2_combine_19 : decode cX2_combine 19 = .ok (.lreturn, 1) := by decide +kernel
theorem dX2_combine_20 : decode cX2_combine 20 = .ok (.iload_n 0, 1) := by decide +kernel
theorem dX2_combine_21 : decode cX2_combine 21 = .ok (.ifCond .ne 11, 3) := by decide +kernel
theorem dX2_combine_24 : decode cX2_combine 24 = .ok (.lload_n 1, 1) := by decide +kernel
theorem dX2_combine_25 : decode cX2_combine 25 = .ok (.lload_n 3, 1) := by decide +kernel
theorem dX2_combine_26 : decode cX2_combine 26 = .ok (.ladd, 1) := by decide +kernel
theorem dX2_combine_27 : decode cX2_combine 27 = .ok (.lstore 5, 2) := by decide +kernel
theorem dX2_combine_29 : decode cX2_combine 29 = .ok (.goto 72, 3) := by decide +kernel
theorem dX2_combine_32 : decode cX2_combine 32 = .ok (.iload_n 0, 1) := by decide +kernel
theorem dX2_combine_33 : decode cX2_combine 33 = .ok (.iconst 1, 1) := by decide +kernel
theorem dX2_combine_34 : decode cX2_combine 34 = .ok (.if_icmp .ne 11, 3) := by decide +kernel
theorem dX2_combine_37 : decode cX2_combine 37 = .ok (.lload_n 1, 1) := by decide +kernel
theorem dX2_combine_38 : decode cX2_combine 38 = .ok (.lload_n 3, 1) := by decide +kernel
theorem dX2_combine_39 : decode cX2_combine 39 = .ok (.lsub, 1) := by decide +kernel
theorem dX2_combine_40 : decode cX2_combine 40 = .ok (.lstore 5, 2) := by decide +kernel
theorem dX2_combine_42 : decode cX2_combine 42 = .ok (.goto 59, 3) := by decide +kernel
theorem dX2_combine_45 : decode cX2_combine 45 = .ok (.iload_n 0, 1) := by decide +kernel
theorem dX2_combine_46 : decode cX2_combine 46 = .ok (.iconst 2, 1) := by decide +kernel
theorem dX2_combine_47 : decode cX2_combine 47 = .ok (.if_icmp .ne 37, 3) := by decide +kernel
theorem dX2_combine_50 : decode cX2_combine 50 = .ok (.lload_n 1, 1) := by decide +kernel
theorem dX2_combine_51 : decode cX2_combine 51 = .ok (.lconst 0, 1) := by decide +kernel
theorem dX2_combine_52 : decode cX2_combine 52 = .ok (.lcmp, 1) := by decide +kernel
theorem dX2_combine_53 : decode cX2_combine 53 = .ok (.ifCond .eq 23, 3) := by decide +kernel
theorem dX2_combine_56 : decode cX2_combine 56 = .ok (.lload_n 3, 1) := by decide +kernel
theorem dX2_combine_57 : decode cX2_combine 57 = .ok (.invokestatic 42, 3) := by decide +kernel
theorem dX2_combine_60 : decode cX2_combine 60 = .ok (.ldc2_w 48, 3) := by decide +kernel
theorem dX2_combine_63 : decode cX2_combine 63 = .ok (.lload_n 1, 1) := by decide +kernel
theorem dX2_combine_64 : decode cX2_combine 64 = .ok (.invokestatic 42, 3) := by decide +kernel
theorem dX2_combine_67 : decode cX2_combine 67 = .ok (.ldiv, 1) := by decide +kernel
theorem dX2_combine_68 : decode cX2_combine 68 = .ok (.lcmp, 1) := by decide +kernel
theorem dX2_combine_69 : decode cX2_combine 69 = .ok (.ifCond .le 7, 3) := by decide +kernel
theorem dX2_combine_72 : decode cX2_combine 72 = .ok (.ldc2_w 37, 3) := by decide +kernel
theorem dX2_combine_75 : decode cX2_combine 75 = .ok (.lreturn, 1) := by decide +kernel
theorem dX2_combine_76 : decode cX2_combine 76 = .ok (.lload_n 1, 1) := by decide +kernel
theorem dX2_combine_77 : decode cX2_combine 77 = .ok (.lload_n 3, 1) := by decide +kernel
theorem dX2_combine_78 : decode cX2_combine 78 = .ok (.lmul, 1) := by decide +kernel
theorem dX2_combine_79 : decode cX2_combine 79 = .ok (.lstore 5, 2) := by decide +kernel
theorem dX2_combine_81 : decode cX2_combine 81 = .ok (.goto 20, 3) := by decide +kernel
theorem dX2_combine_84 : decode cX2_combine 84 = .ok (.lload_n 3, 1) := by decide +kernel
theorem dX2_combine_85 : decode cX2_combine 85 = .ok (.lconst 0, 1) := by decide +kernel
theorem dX2_combine_86 : decode cX2_combine 86 = .ok (.lcmp, 1) := by decide +kernel
theorem dX2_combine_87 : decode cX2_combine 87 = .ok (.ifCond .ne 7, 3) := by decide +kernel
theorem dX2_combine_90 : decode cX2_combine 90 = .ok (.ldc2_w 37, 3) := by decide +kernel
theorem dX2_combine_93 : decode cX2_combine 93 = .ok (.lreturn, 1) := by decide +kernel
theorem dX2_combine_94 : decode cX2_combine 94 = .ok (.lload_n 1, 1) := by decide +kernel
theorem dX2_combine_95 : decode cX2_combine 95 = .ok (.lload_n 3, 1) := by decide +kernel
theorem dX2_combine_96 : decode cX2_combine 96 = .ok (.invokestatic 50, 3) := by decide +kernel
theorem dX2_combine_99 : decode cX2_combine 99 = .ok (.lstore 5, 2) := by decide +kernel
theorem dX2_combine_101 : decode cX2_combine 101 = .ok (.lload 5, 2) := by decide +kernel
theorem dX2_combine_103 : decode cX2_combine 103 = .ok (.ldc2_w 54, 3) := by decide +kernel
theorem dX2_combine_106 : decode cX2_combine 106 = .ok (.lcmp, 1) := by decide +kernel
theorem dX2_combine_107 : decode cX2_combine 107 = .ok (.ifCond .lt 12, 3) := by decide +kernel
theorem dX2_combine_110 : decode cX2_combine 110 = .ok (.lload 5, 2) := by decide +kernel
theorem dX2_combine_112 : decode cX2_combine 112 = .ok (.ldc2_w 48, 3) := by decide +kernel
theorem dX2_combine_115 : decode cX2_combine 115 = .ok (.lcmp, 1) := by decide +kernel
theorem dX2_combine_116 : decode cX2_combine 116 = .ok (.ifCond .le 9, 3) := by decide +kernel
theorem dX2_combine_119 : decode cX2_combine 119 = .ok (.ldc2_w 37, 3) := by decide +kernel
theorem dX2_combine_122 : decode cX2_combine 122 = .ok (.goto 5, 3) := by decide +kernel
