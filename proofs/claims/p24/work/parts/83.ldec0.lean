/-! decode rows (printed) -/
theorem dL_cell_0 : decode cL_cell 0 = .ok (.iload_n 1, 1) := by decide +kernel
theorem dL_cell_1 : decode cL_cell 1 = .ok (.aload_n 0, 1) := by decide +kernel
theorem dL_cell_2 : decode cL_cell 2 = .ok (.arraylength, 1) := by decide +kernel
theorem dL_cell_3 : decode cL_cell 3 = .ok (.if_icmp .ge 9, 3) := by decide +kernel
theorem dL_cell_6 : decode cL_cell 6 = .ok (.aload_n 0, 1) := by decide +kernel
theorem dL_cell_7 : decode cL_cell 7 = .ok (.iload_n 1, 1) := by decide +kernel
theorem dL_cell_8 : decode cL_cell 8 = .ok (.iaload, 1) := by decide +kernel
theorem dL_cell_9 : decode cL_cell 9 = .ok (.goto 18, 3) := by decide +kernel
theorem dL_cell_12 : decode cL_cell 12 = .ok (.sipush 7919, 3) := by decide +kernel
theorem dL_cell_15 : decode cL_cell 15 = .ok (.iload_n 1, 1) := by decide +kernel
theorem dL_cell_16 : decode cL_cell 16 = .ok (.sipush 307, 3) := by decide +kernel
theorem dL_cell_19 : decode cL_cell 19 = .ok (.iadd, 1) := by decide +kernel
theorem dL_cell_20 : decode cL_cell 20 = .ok (.imul, 1) := by decide +kernel
theorem dL_cell_21 : decode cL_cell 21 = .ok (.iload_n 1, 1) := by decide +kernel
theorem dL_cell_22 : decode cL_cell 22 = .ok (.sipush 2557, 3) := by decide +kernel
theorem dL_cell_25 : decode cL_cell 25 = .ok (.iadd, 1) := by decide +kernel
theorem dL_cell_26 : decode cL_cell 26 = .ok (.imul, 1) := by decide +kernel
theorem dL_cell_27 : decode cL_cell 27 = .ok (.ireturn, 1) := by decide +kernel
theorem dL_low_0 : decode cL_low 0 = .ok (.iload_n 0, 1) := by decide +kernel
theorem dL_low_1 : decode cL_low 1 = .ok (.ldc 7, 2) := by decide +kernel
theorem dL_low_3 : decode cL_low 3 = .ok (.iand, 1) := by decide +kernel
theorem dL_low_4 : decode cL_low 4 = .ok (.iload_n 1, 1) := by decide +kernel
theorem dL_low_5 : decode cL_low 5 = .ok (.irem, 1) := by decide +kernel
theorem dL_low_6 : decode cL_low 6 = .ok (.ireturn, 1) := by decide +kernel
theorem dL_does_0 : decode cL_does 0 = .ok (.iload_n 1, 1) := by decide +kernel
theorem dL_does_1 : decode cL_does 1 = .ok (.ifCond .ne 11, 3) := by decide +kernel
theorem dL_does_4 : decode cL_does 4 = .ok (.aload_n 0, 1) := by decide +kernel
theorem dL_does_5 : decode cL_does 5 = .ok (.iload_n 2, 1) := by decide +kernel
theorem dL_does_6 : decode cL_does 6 = .ok (.invokevirtual 8, 3) := by decide +kernel
theorem dL_does_9 : decode cL_does 9 = .ok (.goto 84, 3) := by decide +kernel
theorem dL_does_12 : decode cL_does 12 = .ok (.iload_n 1, 1) := by decide +kernel
theorem dL_does_13 : decode cL_does 13 = .ok (.iconst 1, 1) := by decide +kernel
theorem dL_does_14 : decode cL_does 14 = .ok (.if_icmp .ne 11, 3) := by decide +kernel
theorem dL_does_17 : decode cL_does 17 = .ok (.aload_n 0, 1) := by decide +kernel
theorem dL_does_18 : decode cL_does 18 = .ok (.iload_n 2, 1) := by decide +kernel
theorem dL_does_19 : decode cL_does 19 = .ok (.invokevirtual 14, 3) := by decide +kernel
theorem dL_does_22 : decode cL_does 22 = .ok (.goto 71, 3) := by decide +kernel
theorem dL_does_25 : decode cL_does 25 = .ok (.iload_n 1, 1) := by decide +kernel
theorem dL_does_26 : decode cL_does 26 = .ok (.iconst 2, 1) := by decide +kernel
theorem dL_does_27 : decode cL_does 27 = .ok (.if_icmp .ne 11, 3) := by decide +kernel
theorem dL_does_30 : decode cL_does 30 = .ok (.aload_n 0, 1) := by decide +kernel
theorem dL_does_31 : decode cL_does 31 = .ok (.iload_n 2, 1) := by decide +kernel
theorem dL_does_32 : decode cL_does 32 = .ok (.invokevirtual 17, 3) := by decide +kernel
theorem dL_does_35 : decode cL_does 35 = .ok (.goto 58, 3) := by decide +kernel
theorem dL_does_38 : decode cL_does 38 = .ok (.iload_n 1, 1) := by decide +kernel
theorem dL_does_39 : decode cL_does 39 = .ok (.iconst 3, 1) := by decide +kernel
theorem dL_does_40 : decode cL_does 40 = .ok (.if_icmp .ne 11, 3) := by decide +kernel
theorem dL_does_43 : decode cL_does 43 = .ok (.aload_n 0, 1) := by decide +kernel
theorem dL_does_44 : decode cL_does 44 = .ok (.iload_n 2, 1) := by decide +kernel
theorem dL_does_45 : decode cL_does 45 = .ok (.invokevirtual 20, 3) := by decide +kernel
theorem dL_does_48 : decode cL_does 48 = .ok (.goto 45, 3) := by decide +kernel
theorem dL_does_51 : decode cL_does 51 = .ok (.iload_n 1, 1) := by decide +kernel
theorem dL_does_52 : decode cL_does 52 = .ok (.iconst 4, 1) := by decide +kernel
theorem dL_does_53 : decode cL_does 53 = .ok (.if_icmp .ne 11, 3) := by decide +kernel
theorem dL_does_56 : decode cL_does 56 = .ok (.aload_n 0, 1) := by decide +kernel
theorem dL_does_57 : decode cL_does 57 = .ok (.iload_n 2, 1) := by decide +kernel
theorem dL_does_58 : decode cL_does 58 = .ok (.invokevirtual 23, 3) := by decide +kernel
theorem dL_does_61 : decode cL_does 61 = .ok (.goto 32, 3) := by decide +kernel
theorem dL_does_64 : decode cL_does 64 = .ok (.iload_n 1, 1) := by decide +kernel
theorem dL_does_65 : decode cL_does 65 = .ok (.iconst 5, 1) := by decide +kernel
theorem dL_does_66 : decode cL_does 66 = .ok (.if_icmp .ne 10, 3) := by decide +kernel
theorem dL_does_69 : decode cL_does 69 = .ok (.aload_n 0, 1) := by decide +kernel
theorem dL_does_70 : decode cL_does 70 = .ok (.invokevirtual 26, 3) := by decide +kernel
theorem dL_does_73 : decode cL_does 73 = .ok (.goto 20, 3) := by decide +kernel
theorem dL_does_76 : decode cL_does 76 = .ok (.iload_n 1, 1) := by decide +kernel
theorem dL_does_77 : decode cL_does 77 = .ok (.bipush 6, 2) := by decide +kernel
theorem dL_does_79 : decode cL_does 79 = .ok (.if_icmp .ne 10, 3) := by decide +kernel
theorem dL_does_82 : decode cL_does 82 = .ok (.aload_n 0, 1) := by decide +kernel
theorem dL_does_83 : decode cL_does 83 = .ok (.invokevirtual 30, 3) := by decide +kernel
theorem dL_does_86 : decode cL_does 86 = .ok (.goto 7, 3) := by decide +kernel
theorem dL_does_89 : decode cL_does 89 = .ok (.aload_n 0, 1) := by decide +kernel
theorem dL_does_90 : decode cL_does 90 = .ok (.invokevirtual 33, 3) := by decide +kernel
theorem dL_does_93 : decode cL_does 93 = .ok (.ireturn, 1) := by decide +kernel
theorem dL_does_94 : decode cL_does 94 = .ok (.astore_n 3, 1) := by decide +kernel
theorem dL_does_95 : decode cL_does 95 = .ok (.ldc 38, 2) := by decide +kernel
theorem dL_does_97 : decode cL_does 97 = .ok (.ireturn, 1) := by decide +kernel
theorem dL_does_98 : decode cL_does 98 = .ok (.astore_n 3, 1) := by decide +kernel
theorem dL_does_99 : decode cL_does 99 = .ok (.ldc 38, 2) := by decide +kernel
theorem dL_does_101 : decode cL_does 101 = .ok (.ireturn, 1) := by decide +kernel
theorem dL_does_102 : decode cL_does 102 = .ok (.astore_n 3, 1) := by decide +kernel
theorem dL_does_103 : decode cL_does 103 = .ok (.ldc 38, 2) := by decide +kernel
theorem dL_does_105 : decode cL_does 105 = .ok (.ireturn, 1) := by decide +kernel
theorem dL_put_0 : decode cL_put 0 = .ok (.aload_n 0, 1) := by decide +kernel
theorem dL_put_1 : decode cL_put 1 = .ok (.iload_n 1, 1) := by decide +kernel
theorem dL_put_2 : decode cL_put 2 = .ok (.iload_n 2, 1) := by decide +kernel
theorem dL_put_3 : decode cL_put 3 = .ok (.invokevirtual 43, 3) := by decide +kernel
theorem dL_put_6 : decode cL_put 6 = .ok (.ireturn, 1) := by decide +kernel
theorem dL_put_7 : decode cL_put 7 = .ok (.astore_n 3, 1) := by decide +kernel
theorem dL_put_8 : decode cL_put 8 = .ok (.ldc 38, 2) := by decide +kernel
theorem dL_put_10 : decode cL_put 10 = .ok (.ireturn, 1) := by decide +kernel
theorem dL_put_11 : decode cL_put 11 = .ok (.astore_n 3, 1) := by decide +kernel
theorem dL_put_12 : decode cL_put 12 = .ok (.ldc 38, 2) := by decide +kernel
theorem dL_put_14 : decode cL_put 14 = .ok (.ireturn, 1) := by decide +kernel
theorem dL_seek_0 : decode cL_seek 0 = .ok (.aload_n 0, 1) := by decide +kernel
theorem dL_seek_1 : decode cL_seek 1 = .ok (.iload_n 1, 1) := by decide +kernel
theorem dL_seek_2 : decode cL_seek 2 = .ok (.iload_n 2, 1) := by decide +kernel
theorem dL_seek_3 : decode cL_seek 3 = .ok (.iload_n 3, 1) := by decide +kernel
theorem dL_seek_4 : decode cL_seek 4 = .ok (.iload 4, 2) := by decide +kernel
theorem dL_seek_6 : decode cL_seek 6 = .ok (.iload 5, 2) := by decide +kernel
theorem dL_seek_8 : decode cL_seek 8 = .ok (.invokevirtual 47, 3) := by decide +kernel
theorem dL_seek_11 : decode cL_seek 11 = .ok (.ireturn, 1) := by decide +kernel
theorem dL_seek_12 : decode cL_seek 12 = .ok (.astore 6, 2) := by decide +kernel
theorem dL_seek_14 : decode cL_seek 14 = .ok (.ldc 38, 2) := by decide +kernel
theorem dL_seek_16 : decode cL_seek 16 = .ok (.ireturn, 1) := by decide +kernel
theorem dL_seek_17 : decode cL_seek 17 = .ok (.astore 6, 2) := by decide +kernel
theorem dL_seek_19 : decode cL_seek 19 = .ok (.ldc 38, 2) := by decide +kernel
theorem dL_seek_21 : decode cL_seek 21 = .ok (.ireturn, 1) := by decide +kernel
theorem dL_seek_22 : decode cL_seek 22 = .ok (.astore 6, 2) := by decide +kernel
theorem dL_seek_24 : decode cL_seek 24 = .ok (.ldc 38, 2) := by decide +kernel
theorem dL_seek_26 : decode cL_seek 26 = .ok (.ireturn, 1) := by decide +kernel
theorem dL_seek_27 : decode cL_seek 27 = .ok (.astore 6, 2) := by decide +kernel
theorem dL_seek_29 : decode cL_seek 29 = .ok (.ldc 38, 2) := by decide +kernel
theorem dL_seek_31 : decode cL_seek 31 = .ok (.ireturn, 1) := by decide +kernel
theorem dL_value_0 : decode cL_value 0 = .ok (.iload_n 2, 1) := by decide +kernel
theorem dL_value_1 : decode cL_value 1 = .ok (.ifCond .eq 11, 3) := by decide +kernel
theorem dL_value_4 : decode cL_value 4 = .ok (.aload_n 0, 1) := by decide +kernel
theorem dL_value_5 : decode cL_value 5 = .ok (.iload_n 1, 1) := by decide +kernel
theorem dL_value_6 : decode cL_value 6 = .ok (.invokevirtual 53, 3) := by decide +kernel
theorem dL_value_9 : decode cL_value 9 = .ok (.goto 8, 3) := by decide +kernel
theorem dL_value_12 : decode cL_value 12 = .ok (.aload_n 0, 1) := by decide +kernel
theorem dL_value_13 : decode cL_value 13 = .ok (.iload_n 1, 1) := by decide +kernel
theorem dL_value_14 : decode cL_value 14 = .ok (.invokevirtual 57, 3) := by decide +kernel
theorem dL_value_17 : decode cL_value 17 = .ok (.lreturn, 1) := by decide +kernel
theorem dL_value_18 : decode cL_value 18 = .ok (.astore_n 3, 1) := by decide +kernel
theorem dL_value_19 : decode cL_value 19 = .ok (.ldc2_w 62, 3) := by decide +kernel
theorem dL_value_22 : decode cL_value 22 = .ok (.lreturn, 1) := by decide +kernel
