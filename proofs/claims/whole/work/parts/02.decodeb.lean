theorem dP_threshold_0 : decode bP_threshold 0 = .ok (.aload_n 0, 1) := by decide +kernel
theorem dP_threshold_1 : decode bP_threshold 1 = .ok (.iload_n 1, 1) := by decide +kernel
theorem dP_threshold_2 : decode bP_threshold 2 = .ok (.invokevirtual 56, 3) := by decide +kernel
theorem dP_threshold_5 : decode bP_threshold 5 = .ok (.astore_n 2, 1) := by decide +kernel
theorem dP_threshold_6 : decode bP_threshold 6 = .ok (.aload_n 2, 1) := by decide +kernel
theorem dP_threshold_7 : decode bP_threshold 7 = .ok (.ifnonnull 7, 3) := by decide +kernel
theorem dP_threshold_10 : decode bP_threshold 10 = .ok (.ldc2_w 134, 3) := by decide +kernel
theorem dP_threshold_13 : decode bP_threshold 13 = .ok (.dreturn, 1) := by decide +kernel
theorem dP_threshold_14 : decode bP_threshold 14 = .ok (.iconst (-1), 1) := by decide +kernel
theorem dP_threshold_15 : decode bP_threshold 15 = .ok (.istore_n 3, 1) := by decide +kernel
theorem dP_threshold_16 : decode bP_threshold 16 = .ok (.bipush 15, 2) := by decide +kernel
theorem dP_threshold_18 : decode bP_threshold 18 = .ok (.istore 4, 2) := by decide +kernel
theorem dP_threshold_20 : decode bP_threshold 20 = .ok (.iload 4, 2) := by decide +kernel
theorem dP_threshold_22 : decode bP_threshold 22 = .ok (.ifCond .lt 74, 3) := by decide +kernel
theorem dP_threshold_25 : decode bP_threshold 25 = .ok (.aload_n 2, 1) := by decide +kernel
theorem dP_threshold_26 : decode bP_threshold 26 = .ok (.getfield 136, 3) := by decide +kernel
theorem dP_threshold_29 : decode bP_threshold 29 = .ok (.iload 4, 2) := by decide +kernel
theorem dP_threshold_31 : decode bP_threshold 31 = .ok (.baload, 1) := by decide +kernel
theorem dP_threshold_32 : decode bP_threshold 32 = .ok (.ifCond .eq 45, 3) := by decide +kernel
theorem dP_threshold_35 : decode bP_threshold 35 = .ok (.aload_n 2, 1) := by decide +kernel
theorem dP_threshold_36 : decode bP_threshold 36 = .ok (.getfield 139, 3) := by decide +kernel
theorem dP_threshold_39 : decode bP_threshold 39 = .ok (.iload 4, 2) := by decide +kernel
theorem dP_threshold_41 : decode bP_threshold 41 = .ok (.baload, 1) := by decide +kernel
theorem dP_threshold_42 : decode bP_threshold 42 = .ok (.ifCond .ne 35, 3) := by decide +kernel
theorem dP_threshold_45 : decode bP_threshold 45 = .ok (.iload_n 3, 1) := by decide +kernel
theorem dP_threshold_46 : decode bP_threshold 46 = .ok (.iconst (-1), 1) := by decide +kernel
theorem dP_threshold_47 : decode bP_threshold 47 = .ok (.if_icmp .ne 15, 3) := by decide +kernel
theorem dP_threshold_50 : decode bP_threshold 50 = .ok (.iload 4, 2) := by decide +kernel
theorem dP_threshold_52 : decode bP_threshold 52 = .ok (.invokestatic 142, 3) := by decide +kernel
theorem dP_threshold_55 : decode bP_threshold 55 = .ok (.ldc2_w 146, 3) := by decide +kernel
theorem dP_threshold_58 : decode bP_threshold 58 = .ok (.dmul, 1) := by decide +kernel
theorem dP_threshold_59 : decode bP_threshold 59 = .ok (.goto 17, 3) := by decide +kernel
theorem dP_threshold_62 : decode bP_threshold 62 = .ok (.iload_n 3, 1) := by decide +kernel
theorem dP_threshold_63 : decode bP_threshold 63 = .ok (.invokestatic 142, 3) := by decide +kernel
theorem dP_threshold_66 : decode bP_threshold 66 = .ok (.iload 4, 2) := by decide +kernel
theorem dP_threshold_68 : decode bP_threshold 68 = .ok (.invokestatic 142, 3) := by decide +kernel
theorem dP_threshold_71 : decode bP_threshold 71 = .ok (.dadd, 1) := by decide +kernel
theorem dP_threshold_72 : decode bP_threshold 72 = .ok (.ldc2_w 146, 3) := by decide +kernel
theorem dP_threshold_75 : decode bP_threshold 75 = .ok (.ddiv, 1) := by decide +kernel
theorem dP_threshold_76 : decode bP_threshold 76 = .ok (.dreturn, 1) := by decide +kernel
theorem dP_threshold_77 : decode bP_threshold 77 = .ok (.aload_n 2, 1) := by decide +kernel
theorem dP_threshold_78 : decode bP_threshold 78 = .ok (.getfield 136, 3) := by decide +kernel
theorem dP_threshold_81 : decode bP_threshold 81 = .ok (.iload 4, 2) := by decide +kernel
theorem dP_threshold_83 : decode bP_threshold 83 = .ok (.baload, 1) := by decide +kernel
theorem dP_threshold_84 : decode bP_threshold 84 = .ok (.ifCond .eq 6, 3) := by decide +kernel
theorem dP_threshold_87 : decode bP_threshold 87 = .ok (.iload 4, 2) := by decide +kernel
theorem dP_threshold_89 : decode bP_threshold 89 = .ok (.istore_n 3, 1) := by decide +kernel
theorem dP_threshold_90 : decode bP_threshold 90 = .ok (.iinc 4 (-1), 3) := by decide +kernel
theorem dP_threshold_93 : decode bP_threshold 93 = .ok (.goto (-73), 3) := by decide +kernel
theorem dP_threshold_96 : decode bP_threshold 96 = .ok (.iload_n 3, 1) := by decide +kernel
theorem dP_threshold_97 : decode bP_threshold 97 = .ok (.iconst (-1), 1) := by decide +kernel
theorem dP_threshold_98 : decode bP_threshold 98 = .ok (.if_icmp .ne 7, 3) := by decide +kernel
theorem dP_threshold_101 : decode bP_threshold 101 = .ok (.dconst 0, 1) := by decide +kernel
theorem dP_threshold_102 : decode bP_threshold 102 = .ok (.goto 11, 3) := by decide +kernel
theorem dP_threshold_105 : decode bP_threshold 105 = .ok (.iload_n 3, 1) := by decide +kernel
theorem dP_threshold_106 : decode bP_threshold 106 = .ok (.invokestatic 142, 3) := by decide +kernel
theorem dP_threshold_109 : decode bP_threshold 109 = .ok (.ldc2_w 146, 3) := by decide +kernel
theorem dP_threshold_112 : decode bP_threshold 112 = .ok (.ddiv, 1) := by decide +kernel
theorem dP_threshold_113 : decode bP_threshold 113 = .ok (.dreturn, 1) := by decide +kernel
theorem dP_strength_0 : decode bP_strength 0 = .ok (.iconst 1, 1) := by decide +kernel
theorem dP_strength_1 : decode bP_strength 1 = .ok (.iload_n 0, 1) := by decide +kernel
theorem dP_strength_2 : decode bP_strength 2 = .ok (.ishl, 1) := by decide +kernel
theorem dP_strength_3 : decode bP_strength 3 = .ok (.i2d, 1) := by decide +kernel
theorem dP_strength_4 : decode bP_strength 4 = .ok (.ldc2_w 209, 3) := by decide +kernel
theorem dP_strength_7 : decode bP_strength 7 = .ok (.ddiv, 1) := by decide +kernel
theorem dP_strength_8 : decode bP_strength 8 = .ok (.dreturn, 1) := by decide +kernel
theorem dP_level_0 : decode bP_level 0 = .ok (.aload_n 0, 1) := by decide +kernel
theorem dP_level_1 : decode bP_level 1 = .ok (.iload_n 1, 1) := by decide +kernel
theorem dP_level_2 : decode bP_level 2 = .ok (.invokevirtual 56, 3) := by decide +kernel
theorem dP_level_5 : decode bP_level 5 = .ok (.astore 4, 2) := by decide +kernel
theorem dP_level_7 : decode bP_level 7 = .ok (.aload 4, 2) := by decide +kernel
theorem dP_level_9 : decode bP_level 9 = .ok (.ifnull 13, 3) := by decide +kernel
theorem dP_level_12 : decode bP_level 12 = .ok (.iload_n 2, 1) := by decide +kernel
theorem dP_level_13 : decode bP_level 13 = .ok (.ifCond .lt 9, 3) := by decide +kernel
theorem dP_level_16 : decode bP_level 16 = .ok (.iload_n 2, 1) := by decide +kernel
theorem dP_level_17 : decode bP_level 17 = .ok (.bipush 16, 2) := by decide +kernel
theorem dP_level_19 : decode bP_level 19 = .ok (.if_icmp .lt 5, 3) := by decide +kernel
theorem dP_level_22 : decode bP_level 22 = .ok (.iconst 0, 1) := by decide +kernel
theorem dP_level_23 : decode bP_level 23 = .ok (.ireturn, 1) := by decide +kernel
theorem dP_level_24 : decode bP_level 24 = .ok (.aload 4, 2) := by decide +kernel
theorem dP_level_26 : decode bP_level 26 = .ok (.getfield 136, 3) := by decide +kernel
theorem dP_level_29 : decode bP_level 29 = .ok (.iload_n 2, 1) := by decide +kernel
theorem dP_level_30 : decode bP_level 30 = .ok (.iconst 1, 1) := by decide +kernel
theorem dP_level_31 : decode bP_level 31 = .ok (.bastore, 1) := by decide +kernel
theorem dP_level_32 : decode bP_level 32 = .ok (.aload 4, 2) := by decide +kernel
theorem dP_level_34 : decode bP_level 34 = .ok (.getfield 139, 3) := by decide +kernel
theorem dP_level_37 : decode bP_level 37 = .ok (.iload_n 2, 1) := by decide +kernel
theorem dP_level_38 : decode bP_level 38 = .ok (.iload_n 3, 1) := by decide +kernel
theorem dP_level_39 : decode bP_level 39 = .ok (.bastore, 1) := by decide +kernel
theorem dP_level_40 : decode bP_level 40 = .ok (.iconst 1, 1) := by decide +kernel
theorem dP_level_41 : decode bP_level 41 = .ok (.ireturn, 1) := by decide +kernel
theorem dP_out_0 : decode bP_out 0 = .ok (.aload_n 0, 1) := by decide +kernel
theorem dP_out_1 : decode bP_out 1 = .ok (.iload_n 1, 1) := by decide +kernel
theorem dP_out_2 : decode bP_out 2 = .ok (.invokevirtual 56, 3) := by decide +kernel
theorem dP_out_5 : decode bP_out 5 = .ok (.astore_n 2, 1) := by decide +kernel
theorem dP_out_6 : decode bP_out 6 = .ok (.aload_n 2, 1) := by decide +kernel
theorem dP_out_7 : decode bP_out 7 = .ok (.ifnull 28, 3) := by decide +kernel
theorem dP_out_10 : decode bP_out 10 = .ok (.aload_n 2, 1) := by decide +kernel
theorem dP_out_11 : decode bP_out 11 = .ok (.getfield 84, 3) := by decide +kernel
theorem dP_out_14 : decode bP_out 14 = .ok (.iconst 5, 1) := by decide +kernel
theorem dP_out_15 : decode bP_out 15 = .ok (.if_icmp .lt 20, 3) := by decide +kernel
theorem dP_out_18 : decode bP_out 18 = .ok (.iconst 3, 1) := by decide +kernel
theorem dP_out_19 : decode bP_out 19 = .ok (.aload_n 2, 1) := by decide +kernel
theorem dP_out_20 : decode bP_out 20 = .ok (.getfield 95, 3) := by decide +kernel
theorem dP_out_23 : decode bP_out 23 = .ok (.imul, 1) := by decide +kernel
theorem dP_out_24 : decode bP_out 24 = .ok (.aload_n 2, 1) := by decide +kernel
theorem dP_out_25 : decode bP_out 25 = .ok (.getfield 84, 3) := by decide +kernel
theorem dP_out_28 : decode bP_out 28 = .ok (.if_icmp .ge 7, 3) := by decide +kernel
theorem dP_out_31 : decode bP_out 31 = .ok (.iconst 1, 1) := by decide +kernel
theorem dP_out_32 : decode bP_out 32 = .ok (.goto 4, 3) := by decide +kernel
theorem dP_out_35 : decode bP_out 35 = .ok (.iconst 0, 1) := by decide +kernel
theorem dP_out_36 : decode bP_out 36 = .ok (.ireturn, 1) := by decide +kernel
theorem dP_size_0 : decode bP_size 0 = .ok (.iload_n 1, 1) := by decide +kernel
theorem dP_size_1 : decode bP_size 1 = .ok (.ifCond .lt 21, 3) := by decide +kernel
theorem dP_size_4 : decode bP_size 4 = .ok (.iload_n 1, 1) := by decide +kernel
theorem dP_size_5 : decode bP_size 5 = .ok (.iconst 2, 1) := by decide +kernel
theorem dP_size_6 : decode bP_size 6 = .ok (.if_icmp .gt 16, 3) := by decide +kernel
theorem dP_size_9 : decode bP_size 9 = .ok (.lload_n 2, 1) := by decide +kernel
theorem dP_size_10 : decode bP_size 10 = .ok (.lconst 1, 1) := by decide +kernel
theorem dP_size_11 : decode bP_size 11 = .ok (.lcmp, 1) := by decide +kernel
theorem dP_size_12 : decode bP_size 12 = .ok (.ifCond .lt 10, 3) := by decide +kernel
theorem dP_size_15 : decode bP_size 15 = .ok (.lload 4, 2) := by decide +kernel
theorem dP_size_17 : decode bP_size 17 = .ok (.lconst 1, 1) := by decide +kernel
theorem dP_size_18 : decode bP_size 18 = .ok (.lcmp, 1) := by decide +kernel
theorem dP_size_19 : decode bP_size 19 = .ok (.ifCond .ge 5, 3) := by decide +kernel
theorem dP_size_22 : decode bP_size 22 = .ok (.iconst (-1), 1) := by decide +kernel
theorem dP_size_23 : decode bP_size 23 = .ok (.ireturn, 1) := by decide +kernel
theorem dP_size_24 : decode bP_size 24 = .ok (.lload 4, 2) := by decide +kernel
theorem dP_size_26 : decode bP_size 26 = .ok (.lconst 1, 1) := by decide +kernel
theorem dP_size_27 : decode bP_size 27 = .ok (.lsub, 1) := by decide +kernel
theorem dP_size_28 : decode bP_size 28 = .ok (.lload_n 2, 1) := by decide +kernel
theorem dP_size_29 : decode bP_size 29 = .ok (.ldiv, 1) := by decide +kernel
theorem dP_size_30 : decode bP_size 30 = .ok (.lconst 1, 1) := by decide +kernel
theorem dP_size_31 : decode bP_size 31 = .ok (.ladd, 1) := by decide +kernel
theorem dP_size_32 : decode bP_size 32 = .ok (.lstore 6, 2) := by decide +kernel
theorem dP_size_34 : decode bP_size 34 = .ok (.iload_n 1, 1) := by decide +kernel
theorem dP_size_35 : decode bP_size 35 = .ok (.ifCond .ne 7, 3) := by decide +kernel
theorem dP_size_38 : decode bP_size 38 = .ok (.iconst 3, 1) := by decide +kernel
theorem dP_size_39 : decode bP_size 39 = .ok (.goto 4, 3) := by decide +kernel
theorem dP_size_42 : decode bP_size 42 = .ok (.iconst 2, 1) := by decide +kernel
theorem dP_size_43 : decode bP_size 43 = .ok (.istore 8, 2) := by decide +kernel
theorem dP_size_45 : decode bP_size 45 = .ok (.iconst 1, 1) := by decide +kernel
theorem dP_size_46 : decode bP_size 46 = .ok (.istore 9, 2) := by decide +kernel
theorem dP_size_48 : decode bP_size 48 = .ok (.iload 9, 2) := by decide +kernel
theorem dP_size_50 : decode bP_size 50 = .ok (.bipush 26, 2) := by decide +kernel
theorem dP_size_52 : decode bP_size 52 = .ok (.if_icmp .gt 25, 3) := by decide +kernel
theorem dP_size_55 : decode bP_size 55 = .ok (.iload 8, 2) := by decide +kernel
theorem dP_size_57 : decode bP_size 57 = .ok (.iload 9, 2) := by decide +kernel
theorem dP_size_59 : decode bP_size 59 = .ok (.invokestatic 106, 3) := by decide +kernel
theorem dP_size_62 : decode bP_size 62 = .ok (.lload 6, 2) := by decide +kernel
theorem dP_size_64 : decode bP_size 64 = .ok (.lcmp, 1) := by decide +kernel
theorem dP_size_65 : decode bP_size 65 = .ok (.ifCond .lt 6, 3) := by decide +kernel
theorem dP_size_68 : decode bP_size 68 = .ok (.iload 9, 2) := by decide +kernel
theorem dP_size_70 : decode bP_size 70 = .ok (.ireturn, 1) := by decide +kernel
theorem dP_size_71 : decode bP_size 71 = .ok (.iinc 9 1, 3) := by decide +kernel
theorem dP_size_74 : decode bP_size 74 = .ok (.goto (-26), 3) := by decide +kernel
theorem dP_size_77 : decode bP_size 77 = .ok (.iconst (-1), 1) := by decide +kernel
theorem dP_size_78 : decode bP_size 78 = .ok (.ireturn, 1) := by decide +kernel
theorem dL_cell_0 : decode bL_cell 0 = .ok (.iload_n 1, 1) := by decide +kernel
theorem dL_cell_1 : decode bL_cell 1 = .ok (.aload_n 0, 1) := by decide +kernel
theorem dL_cell_2 : decode bL_cell 2 = .ok (.arraylength, 1) := by decide +kernel
theorem dL_cell_3 : decode bL_cell 3 = .ok (.if_icmp .ge 9, 3) := by decide +kernel
theorem dL_cell_6 : decode bL_cell 6 = .ok (.aload_n 0, 1) := by decide +kernel
theorem dL_cell_7 : decode bL_cell 7 = .ok (.iload_n 1, 1) := by decide +kernel
theorem dL_cell_8 : decode bL_cell 8 = .ok (.iaload, 1) := by decide +kernel
theorem dL_cell_9 : decode bL_cell 9 = .ok (.goto 4, 3) := by decide +kernel
theorem dL_cell_12 : decode bL_cell 12 = .ok (.iconst 0, 1) := by decide +kernel
theorem dL_cell_13 : decode bL_cell 13 = .ok (.ireturn, 1) := by decide +kernel
theorem dL_row_0 : decode bL_row 0 = .ok (.aload_n 2, 1) := by decide +kernel
theorem dL_row_1 : decode bL_row 1 = .ok (.iconst 0, 1) := by decide +kernel
theorem dL_row_2 : decode bL_row 2 = .ok (.aload_n 0, 1) := by decide +kernel
theorem dL_row_3 : decode bL_row 3 = .ok (.iload_n 1, 1) := by decide +kernel
theorem dL_row_4 : decode bL_row 4 = .ok (.invokevirtual 7, 3) := by decide +kernel
theorem dL_row_7 : decode bL_row 7 = .ok (.i2l, 1) := by decide +kernel
theorem dL_row_8 : decode bL_row 8 = .ok (.lastore, 1) := by decide +kernel
theorem dL_row_9 : decode bL_row 9 = .ok (.goto 6, 3) := by decide +kernel
theorem dL_row_12 : decode bL_row 12 = .ok (.astore_n 3, 1) := by decide +kernel
theorem dL_row_13 : decode bL_row 13 = .ok (.iconst 1, 1) := by decide +kernel
theorem dL_row_14 : decode bL_row 14 = .ok (.ireturn, 1) := by decide +kernel
theorem dL_row_15 : decode bL_row 15 = .ok (.iconst 0, 1) := by decide +kernel
theorem dL_row_16 : decode bL_row 16 = .ok (.ireturn, 1) := by decide +kernel
theorem dP_row_0 : decode bP_row 0 = .ok (.iload_n 1, 1) := by decide +kernel
theorem dP_row_1 : decode bP_row 1 = .ok (.iconst 1, 1) := by decide +kernel
theorem dP_row_2 : decode bP_row 2 = .ok (.if_icmp .lt 9, 3) := by decide +kernel
theorem dP_row_5 : decode bP_row 5 = .ok (.iload_n 1, 1) := by decide +kernel
theorem dP_row_6 : decode bP_row 6 = .ok (.bipush 26, 2) := by decide +kernel
theorem dP_row_8 : decode bP_row 8 = .ok (.if_icmp .le 13, 3) := by decide +kernel
theorem dP_row_11 : decode bP_row 11 = .ok (.new 148, 3) := by decide +kernel
theorem dP_row_14 : decode bP_row 14 = .ok (.dup, 1) := by decide +kernel
theorem dP_row_15 : decode bP_row 15 = .ok (.ldc 150, 2) := by decide +kernel
theorem dP_row_17 : decode bP_row 17 = .ok (.invokespecial 152, 3) := by decide +kernel
theorem dP_row_20 : decode bP_row 20 = .ok (.athrow, 1) := by decide +kernel
theorem dP_row_21 : decode bP_row 21 = .ok (.iconst 3, 1) := by decide +kernel
theorem dP_row_22 : decode bP_row 22 = .ok (.iload_n 1, 1) := by decide +kernel
theorem dP_row_23 : decode bP_row 23 = .ok (.invokestatic 106, 3) := by decide +kernel
theorem dP_row_26 : decode bP_row 26 = .ok (.lstore_n 2, 1) := by decide +kernel
theorem dP_row_27 : decode bP_row 27 = .ok (.iconst 0, 1) := by decide +kernel
theorem dP_row_28 : decode bP_row 28 = .ok (.istore 4, 2) := by decide +kernel
theorem dP_row_30 : decode bP_row 30 = .ok (.iload 4, 2) := by decide +kernel
theorem dP_row_32 : decode bP_row 32 = .ok (.iload_n 1, 1) := by decide +kernel
theorem dP_row_33 : decode bP_row 33 = .ok (.if_icmp .gt 28, 3) := by decide +kernel
theorem dP_row_36 : decode bP_row 36 = .ok (.ldc2_w 155, 3) := by decide +kernel
theorem dP_row_39 : decode bP_row 39 = .ok (.iload 4, 2) := by decide +kernel
theorem dP_row_41 : decode bP_row 41 = .ok (.iload_n 1, 1) := by decide +kernel
theorem dP_row_42 : decode bP_row 42 = .ok (.iconst 3, 1) := by decide +kernel
theorem dP_row_43 : decode bP_row 43 = .ok (.invokestatic 102, 3) := by decide +kernel
theorem dP_row_46 : decode bP_row 46 = .ok (.lmul, 1) := by decide +kernel
theorem dP_row_47 : decode bP_row 47 = .ok (.lload_n 2, 1) := by decide +kernel
theorem dP_row_48 : decode bP_row 48 = .ok (.lcmp, 1) := by decide +kernel
theorem dP_row_49 : decode bP_row 49 = .ok (.ifCond .gt 6, 3) := by decide +kernel
theorem dP_row_52 : decode bP_row 52 = .ok (.iload 4, 2) := by decide +kernel
theorem dP_row_54 : decode bP_row 54 = .ok (.ireturn, 1) := by decide +kernel
theorem dP_row_55 : decode bP_row 55 = .ok (.iinc 4 1, 3) := by decide +kernel
theorem dP_row_58 : decode bP_row 58 = .ok (.goto (-28), 3) := by decide +kernel
theorem dP_row_61 : decode bP_row 61 = .ok (.iload_n 1, 1) := by decide +kernel
theorem dP_row_62 : decode bP_row 62 = .ok (.iconst 1, 1) := by decide +kernel
theorem dP_row_63 : decode bP_row 63 = .ok (.iadd, 1) := by decide +kernel
theorem dP_row_64 : decode bP_row 64 = .ok (.ireturn, 1) := by decide +kernel
theorem dM_init_0 : decode bM_init 0 = .ok (.aload_n 0, 1) := by decide +kernel
theorem dM_init_1 : decode bM_init 1 = .ok (.invokespecial 1, 3) := by decide +kernel
theorem dM_init_4 : decode bM_init 4 = .ok (.aload_n 0, 1) := by decide +kernel
theorem dM_init_5 : decode bM_init 5 = .ok (.bipush 40, 2) := by decide +kernel
theorem dM_init_7 : decode bM_init 7 = .ok (.newarray .int, 2) := by decide +kernel
theorem dM_init_9 : decode bM_init 9 = .ok (.putfield 9, 3) := by decide +kernel
theorem dM_init_12 : decode bM_init 12 = .ok (.aload_n 0, 1) := by decide +kernel
theorem dM_init_13 : decode bM_init 13 = .ok (.bipush 40, 2) := by decide +kernel
theorem dM_init_15 : decode bM_init 15 = .ok (.newarray .int, 2) := by decide +kernel
theorem dM_init_17 : decode bM_init 17 = .ok (.putfield 13, 3) := by decide +kernel
theorem dM_init_20 : decode bM_init 20 = .ok (.aload_n 0, 1) := by decide +kernel
theorem dM_init_21 : decode bM_init 21 = .ok (.sipush 1040, 3) := by decide +kernel
theorem dM_init_24 : decode bM_init 24 = .ok (.newarray .int, 2) := by decide +kernel
theorem dM_init_26 : decode bM_init 26 = .ok (.putfield 16, 3) := by decide +kernel
theorem dM_init_29 : decode bM_init 29 = .ok (.aload_n 0, 1) := by decide +kernel
theorem dM_init_30 : decode bM_init 30 = .ok (.sipush 5200, 3) := by decide +kernel
theorem dM_init_33 : decode bM_init 33 = .ok (.newarray .int, 2) := by decide +kernel
theorem dM_init_35 : decode bM_init 35 = .ok (.putfield 19, 3) := by decide +kernel
theorem dM_init_38 : decode bM_init 38 = .ok (.aload_n 0, 1) := by decide +kernel
theorem dM_init_39 : decode bM_init 39 = .ok (.sipush 416, 3) := by decide +kernel
theorem dM_init_42 : decode bM_init 42 = .ok (.newarray .int, 2) := by decide +kernel
theorem dM_init_44 : decode bM_init 44 = .ok (.putfield 22, 3) := by decide +kernel
theorem dM_init_47 : decode bM_init 47 = .ok (.aload_n 0, 1) := by decide +kernel
theorem dM_init_48 : decode bM_init 48 = .ok (.bipush 120, 2) := by decide +kernel
theorem dM_init_50 : decode bM_init 50 = .ok (.newarray .int, 2) := by decide +kernel
theorem dM_init_52 : decode bM_init 52 = .ok (.putfield 25, 3) := by decide +kernel
theorem dM_init_55 : decode bM_init 55 = .ok (.aload_n 0, 1) := by decide +kernel
theorem dM_init_56 : decode bM_init 56 = .ok (.sipush 140, 3) := by decide +kernel
theorem dM_init_59 : decode bM_init 59 = .ok (.newarray .long, 2) := by decide +kernel
theorem dM_init_61 : decode bM_init 61 = .ok (.putfield 28, 3) := by decide +kernel
theorem dM_init_64 : decode bM_init 64 = .ok (.aload_n 0, 1) := by decide +kernel
theorem dM_init_65 : decode bM_init 65 = .ok (.sipush 140, 3) := by decide +kernel
theorem dM_init_68 : decode bM_init 68 = .ok (.newarray .long, 2) := by decide +kernel
theorem dM_init_70 : decode bM_init 70 = .ok (.putfield 32, 3) := by decide +kernel
theorem dM_init_73 : decode bM_init 73 = .ok (.aload_n 0, 1) := by decide +kernel
theorem dM_init_74 : decode bM_init 74 = .ok (.lload_n 1, 1) := by decide +kernel
theorem dM_init_75 : decode bM_init 75 = .ok (.putfield 35, 3) := by decide +kernel
theorem dM_init_78 : decode bM_init 78 = .ok (.return_, 1) := by decide +kernel
theorem dM_thrown_0 : decode bM_thrown 0 = .ok (.aload_n 0, 1) := by decide +kernel
theorem dM_thrown_1 : decode bM_thrown 1 = .ok (.getfield 39, 3) := by decide +kernel
theorem dM_thrown_4 : decode bM_thrown 4 = .ok (.ireturn, 1) := by decide +kernel
theorem dM_taster_0 : decode bM_taster 0 = .ok (.aload_n 0, 1) := by decide +kernel
theorem dM_taster_1 : decode bM_taster 1 = .ok (.iconst 0, 1) := by decide +kernel
theorem dM_taster_2 : decode bM_taster 2 = .ok (.putfield 39, 3) := by decide +kernel
theorem dM_taster_5 : decode bM_taster 5 = .ok (.aload_n 0, 1) := by decide +kernel
theorem dM_taster_6 : decode bM_taster 6 = .ok (.getfield 43, 3) := by decide +kernel
theorem dM_taster_9 : decode bM_taster 9 = .ok (.bipush 26, 2) := by decide +kernel
theorem dM_taster_11 : decode bM_taster 11 = .ok (.if_icmp .ne 6, 3) := by decide +kernel
theorem dM_taster_14 : decode bM_taster 14 = .ok (.bipush (-2), 2) := by decide +kernel
theorem dM_taster_16 : decode bM_taster 16 = .ok (.ireturn, 1) := by decide +kernel
theorem dM_taster_17 : decode bM_taster 17 = .ok (.aload_n 0, 1) := by decide +kernel
theorem dM_taster_18 : decode bM_taster 18 = .ok (.dup, 1) := by decide +kernel
theorem dM_taster_19 : decode bM_taster 19 = .ok (.getfield 43, 3) := by decide +kernel
theorem dM_taster_22 : decode bM_taster 22 = .ok (.iconst 1, 1) := by decide +kernel
theorem dM_taster_23 : decode bM_taster 23 = .ok (.iadd, 1) := by decide +kernel
theorem dM_taster_24 : decode bM_taster 24 = .ok (.putfield 43, 3) := by decide +kernel
theorem dM_taster_27 : decode bM_taster 27 = .ok (.aload_n 0, 1) := by decide +kernel
theorem dM_taster_28 : decode bM_taster 28 = .ok (.getfield 43, 3) := by decide +kernel
theorem dM_taster_31 : decode bM_taster 31 = .ok (.iconst 1, 1) := by decide +kernel
theorem dM_taster_32 : decode bM_taster 32 = .ok (.isub, 1) := by decide +kernel
theorem dM_taster_33 : decode bM_taster 33 = .ok (.ireturn, 1) := by decide +kernel
theorem dM_test_0 : decode bM_test 0 = .ok (.aload_n 0, 1) := by decide +kernel
theorem dM_test_1 : decode bM_test 1 = .ok (.iconst 0, 1) := by decide +kernel
theorem dM_test_2 : decode bM_test 2 = .ok (.putfield 39, 3) := by decide +kernel
theorem dM_test_5 : decode bM_test 5 = .ok (.iload_n 1, 1) := by decide +kernel
theorem dM_test_6 : decode bM_test 6 = .ok (.ifCond .ne 8, 3) := by decide +kernel
theorem dM_test_9 : decode bM_test 9 = .ok (.iload_n 2, 1) := by decide +kernel
theorem dM_test_10 : decode bM_test 10 = .ok (.iconst 3, 1) := by decide +kernel
theorem dM_test_11 : decode bM_test 11 = .ok (.if_icmp .eq 33, 3) := by decide +kernel
theorem dM_test_14 : decode bM_test 14 = .ok (.iload_n 1, 1) := by decide +kernel
theorem dM_test_15 : decode bM_test 15 = .ok (.iconst 1, 1) := by decide +kernel
theorem dM_test_16 : decode bM_test 16 = .ok (.if_icmp .eq 8, 3) := by decide +kernel
theorem dM_test_19 : decode bM_test 19 = .ok (.iload_n 1, 1) := by decide +kernel
theorem dM_test_20 : decode bM_test 20 = .ok (.iconst 2, 1) := by decide +kernel
theorem dM_test_21 : decode bM_test 21 = .ok (.if_icmp .ne 8, 3) := by decide +kernel
theorem dM_test_24 : decode bM_test 24 = .ok (.iload_n 2, 1) := by decide +kernel
theorem dM_test_25 : decode bM_test 25 = .ok (.iconst 2, 1) := by decide +kernel
theorem dM_test_26 : decode bM_test 26 = .ok (.if_icmp .eq 18, 3) := by decide +kernel
theorem dM_test_29 : decode bM_test 29 = .ok (.iload_n 1, 1) := by decide +kernel
theorem dM_test_30 : decode bM_test 30 = .ok (.iconst 3, 1) := by decide +kernel
theorem dM_test_31 : decode bM_test 31 = .ok (.if_icmp .ne 17, 3) := by decide +kernel
theorem dM_test_34 : decode bM_test 34 = .ok (.iload_n 2, 1) := by decide +kernel
theorem dM_test_35 : decode bM_test 35 = .ok (.iconst 2, 1) := by decide +kernel
theorem dM_test_36 : decode bM_test 36 = .ok (.if_icmp .lt 12, 3) := by decide +kernel
theorem dM_test_39 : decode bM_test 39 = .ok (.iload_n 2, 1) := by decide +kernel
theorem dM_test_40 : decode bM_test 40 = .ok (.iconst 5, 1) := by decide +kernel
theorem dM_test_41 : decode bM_test 41 = .ok (.if_icmp .gt 7, 3) := by decide +kernel
theorem dM_test_44 : decode bM_test 44 = .ok (.iconst 1, 1) := by decide +kernel
theorem dM_test_45 : decode bM_test 45 = .ok (.goto 4, 3) := by decide +kernel
theorem dM_test_48 : decode bM_test 48 = .ok (.iconst 0, 1) := by decide +kernel
theorem dM_test_49 : decode bM_test 49 = .ok (.istore_n 3, 1) := by decide +kernel
theorem dM_test_50 : decode bM_test 50 = .ok (.iload_n 3, 1) := by decide +kernel
theorem dM_test_51 : decode bM_test 51 = .ok (.ifCond .ne 5, 3) := by decide +kernel
theorem dM_test_54 : decode bM_test 54 = .ok (.iconst (-1), 1) := by decide +kernel
theorem dM_test_55 : decode bM_test 55 = .ok (.ireturn, 1) := by decide +kernel
theorem dM_test_56 : decode bM_test 56 = .ok (.aload_n 0, 1) := by decide +kernel
theorem dM_test_57 : decode bM_test 57 = .ok (.getfield 46, 3) := by decide +kernel
theorem dM_test_60 : decode bM_test 60 = .ok (.bipush 40, 2) := by decide +kernel
theorem dM_test_62 : decode bM_test 62 = .ok (.if_icmp .ne 6, 3) := by decide +kernel
theorem dM_test_65 : decode bM_test 65 = .ok (.bipush (-2), 2) := by decide +kernel
theorem dM_test_67 : decode bM_test 67 = .ok (.ireturn, 1) := by decide +kernel
theorem dM_test_68 : decode bM_test 68 = .ok (.aload_n 0, 1) := by decide +kernel
theorem dM_test_69 : decode bM_test 69 = .ok (.getfield 9, 3) := by decide +kernel
theorem dM_test_72 : decode bM_test 72 = .ok (.aload_n 0, 1) := by decide +kernel
theorem dM_test_73 : decode bM_test 73 = .ok (.getfield 46, 3) := by decide +kernel
theorem dM_test_76 : decode bM_test 76 = .ok (.iload_n 1, 1) := by decide +kernel
theorem dM_test_77 : decode bM_test 77 = .ok (.iastore, 1) := by decide +kernel
theorem dM_test_78 : decode bM_test 78 = .ok (.aload_n 0, 1) := by decide +kernel
theorem dM_test_79 : decode bM_test 79 = .ok (.getfield 13, 3) := by decide +kernel
theorem dM_test_82 : decode bM_test 82 = .ok (.aload_n 0, 1) := by decide +kernel
theorem dM_test_83 : decode bM_test 83 = .ok (.getfield 46, 3) := by decide +kernel
theorem dM_test_86 : decode bM_test 86 = .ok (.iload_n 2, 1) := by decide +kernel
theorem dM_test_87 : decode bM_test 87 = .ok (.iastore, 1) := by decide +kernel
theorem dM_test_88 : decode bM_test 88 = .ok (.aload_n 0, 1) := by decide +kernel
theorem dM_test_89 : decode bM_test 89 = .ok (.dup, 1) := by decide +kernel
theorem dM_test_90 : decode bM_test 90 = .ok (.getfield 46, 3) := by decide +kernel
theorem dM_test_93 : decode bM_test 93 = .ok (.iconst 1, 1) := by decide +kernel
theorem dM_test_94 : decode bM_test 94 = .ok (.iadd, 1) := by decide +kernel
theorem dM_test_95 : decode bM_test 95 = .ok (.putfield 46, 3) := by decide +kernel
theorem dM_test_98 : decode bM_test 98 = .ok (.aload_n 0, 1) := by decide +kernel
theorem dM_test_99 : decode bM_test 99 = .ok (.getfield 46, 3) := by decide +kernel
theorem dM_test_102 : decode bM_test 102 = .ok (.iconst 1, 1) := by decide +kernel
theorem dM_test_103 : decode bM_test 103 = .ok (.isub, 1) := by decide +kernel
theorem dM_test_104 : decode bM_test 104 = .ok (.ireturn, 1) := by decide +kernel
theorem dM_order_0 : decode bM_order 0 = .ok (.aload_n 0, 1) := by decide +kernel
theorem dM_order_1 : decode bM_order 1 = .ok (.iconst 0, 1) := by decide +kernel
theorem dM_order_2 : decode bM_order 2 = .ok (.putfield 39, 3) := by decide +kernel
theorem dM_order_5 : decode bM_order 5 = .ok (.aload_n 0, 1) := by decide +kernel
theorem dM_order_6 : decode bM_order 6 = .ok (.iload_n 1, 1) := by decide +kernel
theorem dM_order_7 : decode bM_order 7 = .ok (.invokevirtual 61, 3) := by decide +kernel
theorem dM_order_10 : decode bM_order 10 = .ok (.ifCond .eq 24, 3) := by decide +kernel
theorem dM_order_13 : decode bM_order 13 = .ok (.aload_n 0, 1) := by decide +kernel
theorem dM_order_14 : decode bM_order 14 = .ok (.iload_n 2, 1) := by decide +kernel
theorem dM_order_15 : decode bM_order 15 = .ok (.invokevirtual 65, 3) := by decide +kernel
theorem dM_order_18 : decode bM_order 18 = .ok (.ifCond .eq 16, 3) := by decide +kernel
theorem dM_order_21 : decode bM_order 21 = .ok (.iload_n 3, 1) := by decide +kernel
theorem dM_order_22 : decode bM_order 22 = .ok (.ifCond .lt 12, 3) := by decide +kernel
theorem dM_order_25 : decode bM_order 25 = .ok (.iload_n 3, 1) := by decide +kernel
theorem dM_order_26 : decode bM_order 26 = .ok (.aload_n 0, 1) := by decide +kernel
theorem dM_order_27 : decode bM_order 27 = .ok (.iload_n 1, 1) := by decide +kernel
theorem dM_order_28 : decode bM_order 28 = .ok (.invokevirtual 68, 3) := by decide +kernel
theorem dM_order_31 : decode bM_order 31 = .ok (.if_icmp .lt 5, 3) := by decide +kernel
theorem dM_order_34 : decode bM_order 34 = .ok (.iconst (-1), 1) := by decide +kernel
theorem dM_order_35 : decode bM_order 35 = .ok (.ireturn, 1) := by decide +kernel
theorem dM_order_36 : decode bM_order 36 = .ok (.aload_n 0, 1) := by decide +kernel
theorem dM_order_37 : decode bM_order 37 = .ok (.iload_n 1, 1) := by decide +kernel
theorem dM_order_38 : decode bM_order 38 = .ok (.iload_n 2, 1) := by decide +kernel
theorem dM_order_39 : decode bM_order 39 = .ok (.invokevirtual 71, 3) := by decide +kernel
theorem dM_order_42 : decode bM_order 42 = .ok (.istore 4, 2) := by decide +kernel
theorem dM_order_44 : decode bM_order 44 = .ok (.aload_n 0, 1) := by decide +kernel
theorem dM_order_45 : decode bM_order 45 = .ok (.getfield 9, 3) := by decide +kernel
theorem dM_order_48 : decode bM_order 48 = .ok (.iload_n 1, 1) := by decide +kernel
theorem dM_order_49 : decode bM_order 49 = .ok (.iaload, 1) := by decide +kernel
theorem dM_order_50 : decode bM_order 50 = .ok (.iconst 3, 1) := by decide +kernel
theorem dM_order_51 : decode bM_order 51 = .ok (.if_icmp .ne 18, 3) := by decide +kernel
theorem dM_order_54 : decode bM_order 54 = .ok (.aload_n 0, 1) := by decide +kernel
theorem dM_order_55 : decode bM_order 55 = .ok (.getfield 13, 3) := by decide +kernel
theorem dM_order_58 : decode bM_order 58 = .ok (.iload_n 1, 1) := by decide +kernel
theorem dM_order_59 : decode bM_order 59 = .ok (.iaload, 1) := by decide +kernel
theorem dM_order_60 : decode bM_order 60 = .ok (.iload 4, 2) := by decide +kernel
theorem dM_order_62 : decode bM_order 62 = .ok (.iload_n 3, 1) := by decide +kernel
theorem dM_order_63 : decode bM_order 63 = .ok (.invokestatic 75, 3) := by decide +kernel
theorem dM_order_66 : decode bM_order 66 = .ok (.goto 19, 3) := by decide +kernel
theorem dM_order_69 : decode bM_order 69 = .ok (.getstatic 79, 3) := by decide +kernel
theorem dM_order_72 : decode bM_order 72 = .ok (.iconst 3, 1) := by decide +kernel
theorem dM_order_73 : decode bM_order 73 = .ok (.aload_n 0, 1) := by decide +kernel
theorem dM_order_74 : decode bM_order 74 = .ok (.iload_n 1, 1) := by decide +kernel
theorem dM_order_75 : decode bM_order 75 = .ok (.invokevirtual 82, 3) := by decide +kernel
theorem dM_order_78 : decode bM_order 78 = .ok (.iload 4, 2) := by decide +kernel
theorem dM_order_80 : decode bM_order 80 = .ok (.iadd, 1) := by decide +kernel
theorem dM_order_81 : decode bM_order 81 = .ok (.imul, 1) := by decide +kernel
theorem dM_order_82 : decode bM_order 82 = .ok (.iload_n 3, 1) := by decide +kernel
theorem dM_order_83 : decode bM_order 83 = .ok (.iadd, 1) := by decide +kernel
theorem dM_order_84 : decode bM_order 84 = .ok (.iaload, 1) := by decide +kernel
theorem dM_order_85 : decode bM_order 85 = .ok (.ireturn, 1) := by decide +kernel
theorem dM_isTest_0 : decode bM_isTest 0 = .ok (.iload_n 1, 1) := by decide +kernel
theorem dM_isTest_1 : decode bM_isTest 1 = .ok (.ifCond .lt 15, 3) := by decide +kernel
theorem dM_isTest_4 : decode bM_isTest 4 = .ok (.iload_n 1, 1) := by decide +kernel
theorem dM_isTest_5 : decode bM_isTest 5 = .ok (.aload_n 0, 1) := by decide +kernel
theorem dM_isTest_6 : decode bM_isTest 6 = .ok (.getfield 46, 3) := by decide +kernel
theorem dM_isTest_9 : decode bM_isTest 9 = .ok (.if_icmp .ge 7, 3) := by decide +kernel
theorem dM_isTest_12 : decode bM_isTest 12 = .ok (.iconst 1, 1) := by decide +kernel
theorem dM_isTest_13 : decode bM_isTest 13 = .ok (.goto 4, 3) := by decide +kernel
theorem dM_isTest_16 : decode bM_isTest 16 = .ok (.iconst 0, 1) := by decide +kernel
theorem dM_isTest_17 : decode bM_isTest 17 = .ok (.ireturn, 1) := by decide +kernel
theorem dM_isTaster_0 : decode bM_isTaster 0 = .ok (.iload_n 1, 1) := by decide +kernel
theorem dM_isTaster_1 : decode bM_isTaster 1 = .ok (.ifCond .lt 15, 3) := by decide +kernel
theorem dM_isTaster_4 : decode bM_isTaster 4 = .ok (.iload_n 1, 1) := by decide +kernel
theorem dM_isTaster_5 : decode bM_isTaster 5 = .ok (.aload_n 0, 1) := by decide +kernel
theorem dM_isTaster_6 : decode bM_isTaster 6 = .ok (.getfield 43, 3) := by decide +kernel
theorem dM_isTaster_9 : decode bM_isTaster 9 = .ok (.if_icmp .ge 7, 3) := by decide +kernel
theorem dM_isTaster_12 : decode bM_isTaster 12 = .ok (.iconst 1, 1) := by decide +kernel
theorem dM_isTaster_13 : decode bM_isTaster 13 = .ok (.goto 4, 3) := by decide +kernel
theorem dM_isTaster_16 : decode bM_isTaster 16 = .ok (.iconst 0, 1) := by decide +kernel
theorem dM_isTaster_17 : decode bM_isTaster 17 = .ok (.ireturn, 1) := by decide +kernel
theorem dM_served_0 : decode bM_served 0 = .ok (.aload_n 0, 1) := by decide +kernel
theorem dM_served_1 : decode bM_served 1 = .ok (.getfield 9, 3) := by decide +kernel
theorem dM_served_4 : decode bM_served 4 = .ok (.iload_n 1, 1) := by decide +kernel
theorem dM_served_5 : decode bM_served 5 = .ok (.iaload, 1) := by decide +kernel
theorem dM_served_6 : decode bM_served 6 = .ok (.iconst 1, 1) := by decide +kernel
theorem dM_served_7 : decode bM_served 7 = .ok (.if_icmp .ne 7, 3) := by decide +kernel
theorem dM_served_10 : decode bM_served 10 = .ok (.iconst 2, 1) := by decide +kernel
theorem dM_served_11 : decode bM_served 11 = .ok (.goto 23, 3) := by decide +kernel
theorem dM_served_14 : decode bM_served 14 = .ok (.aload_n 0, 1) := by decide +kernel
theorem dM_served_15 : decode bM_served 15 = .ok (.getfield 9, 3) := by decide +kernel
theorem dM_served_18 : decode bM_served 18 = .ok (.iload_n 1, 1) := by decide +kernel
theorem dM_served_19 : decode bM_served 19 = .ok (.iaload, 1) := by decide +kernel
theorem dM_served_20 : decode bM_served 20 = .ok (.iconst 3, 1) := by decide +kernel
theorem dM_served_21 : decode bM_served 21 = .ok (.if_icmp .ne 12, 3) := by decide +kernel
theorem dM_served_24 : decode bM_served 24 = .ok (.aload_n 0, 1) := by decide +kernel
theorem dM_served_25 : decode bM_served 25 = .ok (.getfield 13, 3) := by decide +kernel
theorem dM_served_28 : decode bM_served 28 = .ok (.iload_n 1, 1) := by decide +kernel
theorem dM_served_29 : decode bM_served 29 = .ok (.iaload, 1) := by decide +kernel
theorem dM_served_30 : decode bM_served 30 = .ok (.goto 4, 3) := by decide +kernel
theorem dM_served_33 : decode bM_served 33 = .ok (.iconst 3, 1) := by decide +kernel
theorem dM_served_34 : decode bM_served 34 = .ok (.ireturn, 1) := by decide +kernel
theorem dM_orderOf_0 : decode bM_orderOf 0 = .ok (.aload_n 0, 1) := by decide +kernel
theorem dM_orderOf_1 : decode bM_orderOf 1 = .ok (.iload_n 1, 1) := by decide +kernel
theorem dM_orderOf_2 : decode bM_orderOf 2 = .ok (.invokevirtual 49, 3) := by decide +kernel
theorem dM_orderOf_5 : decode bM_orderOf 5 = .ok (.istore_n 3, 1) := by decide +kernel
theorem dM_orderOf_6 : decode bM_orderOf 6 = .ok (.iload_n 2, 1) := by decide +kernel
theorem dM_orderOf_7 : decode bM_orderOf 7 = .ok (.iload_n 3, 1) := by decide +kernel
theorem dM_orderOf_8 : decode bM_orderOf 8 = .ok (.idiv, 1) := by decide +kernel
theorem dM_orderOf_9 : decode bM_orderOf 9 = .ok (.istore 4, 2) := by decide +kernel
theorem dM_orderOf_11 : decode bM_orderOf 11 = .ok (.iconst 0, 1) := by decide +kernel
theorem dM_orderOf_12 : decode bM_orderOf 12 = .ok (.istore 5, 2) := by decide +kernel
theorem dM_orderOf_14 : decode bM_orderOf 14 = .ok (.iload 5, 2) := by decide +kernel
theorem dM_orderOf_16 : decode bM_orderOf 16 = .ok (.iload_n 3, 1) := by decide +kernel
theorem dM_orderOf_17 : decode bM_orderOf 17 = .ok (.if_icmp .ge 18, 3) := by decide +kernel
theorem dM_orderOf_20 : decode bM_orderOf 20 = .ok (.aload_n 0, 1) := by decide +kernel
theorem dM_orderOf_21 : decode bM_orderOf 21 = .ok (.getfield 25, 3) := by decide +kernel
theorem dM_orderOf_24 : decode bM_orderOf 24 = .ok (.iload 5, 2) := by decide +kernel
theorem dM_orderOf_26 : decode bM_orderOf 26 = .ok (.iload 5, 2) := by decide +kernel
theorem dM_orderOf_28 : decode bM_orderOf 28 = .ok (.iastore, 1) := by decide +kernel
theorem dM_orderOf_29 : decode bM_orderOf 29 = .ok (.iinc 5 1, 3) := by decide +kernel
theorem dM_orderOf_32 : decode bM_orderOf 32 = .ok (.goto (-18), 3) := by decide +kernel
theorem dM_orderOf_35 : decode bM_orderOf 35 = .ok (.aload_n 0, 1) := by decide +kernel
theorem dM_orderOf_36 : decode bM_orderOf 36 = .ok (.getfield 35, 3) := by decide +kernel
theorem dM_orderOf_39 : decode bM_orderOf 39 = .ok (.ldc2_w 53, 3) := by decide +kernel
theorem dM_orderOf_42 : decode bM_orderOf 42 = .ok (.iload_n 1, 1) := by decide +kernel
theorem dM_orderOf_43 : decode bM_orderOf 43 = .ok (.i2l, 1) := by decide +kernel
theorem dM_orderOf_44 : decode bM_orderOf 44 = .ok (.lmul, 1) := by decide +kernel
theorem dM_orderOf_45 : decode bM_orderOf 45 = .ok (.ladd, 1) := by decide +kernel
theorem dM_orderOf_46 : decode bM_orderOf 46 = .ok (.ldc2_w 55, 3) := by decide +kernel
theorem dM_orderOf_49 : decode bM_orderOf 49 = .ok (.iload 4, 2) := by decide +kernel
theorem dM_orderOf_51 : decode bM_orderOf 51 = .ok (.i2l, 1) := by decide +kernel
theorem dM_orderOf_52 : decode bM_orderOf 52 = .ok (.lmul, 1) := by decide +kernel
theorem dM_orderOf_53 : decode bM_orderOf 53 = .ok (.ladd, 1) := by decide +kernel
theorem dM_orderOf_54 : decode bM_orderOf 54 = .ok (.lstore 5, 2) := by decide +kernel
theorem dM_orderOf_56 : decode bM_orderOf 56 = .ok (.iload_n 3, 1) := by decide +kernel
theorem dM_orderOf_57 : decode bM_orderOf 57 = .ok (.iconst 1, 1) := by decide +kernel
theorem dM_orderOf_58 : decode bM_orderOf 58 = .ok (.isub, 1) := by decide +kernel
theorem dM_orderOf_59 : decode bM_orderOf 59 = .ok (.istore 7, 2) := by decide +kernel
theorem dM_orderOf_61 : decode bM_orderOf 61 = .ok (.iload 7, 2) := by decide +kernel
theorem dM_orderOf_63 : decode bM_orderOf 63 = .ok (.ifCond .le 67, 3) := by decide +kernel
theorem dM_orderOf_66 : decode bM_orderOf 66 = .ok (.lload 5, 2) := by decide +kernel
theorem dM_orderOf_68 : decode bM_orderOf 68 = .ok (.ldc2_w 57, 3) := by decide +kernel
theorem dM_orderOf_71 : decode bM_orderOf 71 = .ok (.lmul, 1) := by decide +kernel
theorem dM_orderOf_72 : decode bM_orderOf 72 = .ok (.ldc2_w 59, 3) := by decide +kernel
theorem dM_orderOf_75 : decode bM_orderOf 75 = .ok (.ladd, 1) := by decide +kernel
theorem dM_orderOf_76 : decode bM_orderOf 76 = .ok (.lstore 5, 2) := by decide +kernel
theorem dM_orderOf_78 : decode bM_orderOf 78 = .ok (.lload 5, 2) := by decide +kernel
theorem dM_orderOf_80 : decode bM_orderOf 80 = .ok (.bipush 33, 2) := by decide +kernel
theorem dM_orderOf_82 : decode bM_orderOf 82 = .ok (.lushr, 1) := by decide +kernel
theorem dM_orderOf_83 : decode bM_orderOf 83 = .ok (.iload 7, 2) := by decide +kernel
theorem dM_orderOf_85 : decode bM_orderOf 85 = .ok (.iconst 1, 1) := by decide +kernel
theorem dM_orderOf_86 : decode bM_orderOf 86 = .ok (.iadd, 1) := by decide +kernel
theorem dM_orderOf_87 : decode bM_orderOf 87 = .ok (.i2l, 1) := by decide +kernel
theorem dM_orderOf_88 : decode bM_orderOf 88 = .ok (.lrem, 1) := by decide +kernel
theorem dM_orderOf_89 : decode bM_orderOf 89 = .ok (.l2i, 1) := by decide +kernel
theorem dM_orderOf_90 : decode bM_orderOf 90 = .ok (.istore 8, 2) := by decide +kernel
theorem dM_orderOf_92 : decode bM_orderOf 92 = .ok (.aload_n 0, 1) := by decide +kernel
theorem dM_orderOf_93 : decode bM_orderOf 93 = .ok (.getfield 25, 3) := by decide +kernel
theorem dM_orderOf_96 : decode bM_orderOf 96 = .ok (.iload 7, 2) := by decide +kernel
theorem dM_orderOf_98 : decode bM_orderOf 98 = .ok (.iaload, 1) := by decide +kernel
theorem dM_orderOf_99 : decode bM_orderOf 99 = .ok (.istore 9, 2) := by decide +kernel
theorem dM_orderOf_101 : decode bM_orderOf 101 = .ok (.aload_n 0, 1) := by decide +kernel
theorem dM_orderOf_102 : decode bM_orderOf 102 = .ok (.getfield 25, 3) := by decide +kernel
theorem dM_orderOf_105 : decode bM_orderOf 105 = .ok (.iload 7, 2) := by decide +kernel
theorem dM_orderOf_107 : decode bM_orderOf 107 = .ok (.aload_n 0, 1) := by decide +kernel
theorem dM_orderOf_108 : decode bM_orderOf 108 = .ok (.getfield 25, 3) := by decide +kernel
theorem dM_orderOf_111 : decode bM_orderOf 111 = .ok (.iload 8, 2) := by decide +kernel
theorem dM_orderOf_113 : decode bM_orderOf 113 = .ok (.iaload, 1) := by decide +kernel
theorem dM_orderOf_114 : decode bM_orderOf 114 = .ok (.iastore, 1) := by decide +kernel
theorem dM_orderOf_115 : decode bM_orderOf 115 = .ok (.aload_n 0, 1) := by decide +kernel
theorem dM_orderOf_116 : decode bM_orderOf 116 = .ok (.getfield 25, 3) := by decide +kernel
theorem dM_orderOf_119 : decode bM_orderOf 119 = .ok (.iload 8, 2) := by decide +kernel
theorem dM_orderOf_121 : decode bM_orderOf 121 = .ok (.iload 9, 2) := by decide +kernel
theorem dM_orderOf_123 : decode bM_orderOf 123 = .ok (.iastore, 1) := by decide +kernel
theorem dM_orderOf_124 : decode bM_orderOf 124 = .ok (.iinc 7 (-1), 3) := by decide +kernel
theorem dM_orderOf_127 : decode bM_orderOf 127 = .ok (.goto (-66), 3) := by decide +kernel
theorem dM_orderOf_130 : decode bM_orderOf 130 = .ok (.aload_n 0, 1) := by decide +kernel
theorem dM_orderOf_131 : decode bM_orderOf 131 = .ok (.getfield 25, 3) := by decide +kernel
theorem dM_orderOf_134 : decode bM_orderOf 134 = .ok (.iload_n 2, 1) := by decide +kernel
theorem dM_orderOf_135 : decode bM_orderOf 135 = .ok (.iload_n 3, 1) := by decide +kernel
theorem dM_orderOf_136 : decode bM_orderOf 136 = .ok (.irem, 1) := by decide +kernel
theorem dM_orderOf_137 : decode bM_orderOf 137 = .ok (.iaload, 1) := by decide +kernel
theorem dM_orderOf_138 : decode bM_orderOf 138 = .ok (.ireturn, 1) := by decide +kernel
theorem dM_orders_0 : decode bM_orders 0 = .ok (.iconst 1, 1) := by decide +kernel
theorem dM_orders_1 : decode bM_orders 1 = .ok (.istore_n 2, 1) := by decide +kernel
theorem dM_orders_2 : decode bM_orders 2 = .ok (.iconst 2, 1) := by decide +kernel
theorem dM_orders_3 : decode bM_orders 3 = .ok (.istore_n 3, 1) := by decide +kernel
theorem dM_orders_4 : decode bM_orders 4 = .ok (.iload_n 3, 1) := by decide +kernel
theorem dM_orders_5 : decode bM_orders 5 = .ok (.aload_n 0, 1) := by decide +kernel
theorem dM_orders_6 : decode bM_orders 6 = .ok (.getfield 13, 3) := by decide +kernel
theorem dM_orders_9 : decode bM_orders 9 = .ok (.iload_n 1, 1) := by decide +kernel
theorem dM_orders_10 : decode bM_orders 10 = .ok (.iaload, 1) := by decide +kernel
theorem dM_orders_11 : decode bM_orders 11 = .ok (.if_icmp .gt 13, 3) := by decide +kernel
theorem dM_orders_14 : decode bM_orders 14 = .ok (.iload_n 2, 1) := by decide +kernel
theorem dM_orders_15 : decode bM_orders 15 = .ok (.iload_n 3, 1) := by decide +kernel
theorem dM_orders_16 : decode bM_orders 16 = .ok (.imul, 1) := by decide +kernel
theorem dM_orders_17 : decode bM_orders 17 = .ok (.istore_n 2, 1) := by decide +kernel
theorem dM_orders_18 : decode bM_orders 18 = .ok (.iinc 3 1, 3) := by decide +kernel
theorem dM_orders_21 : decode bM_orders 21 = .ok (.goto (-17), 3) := by decide +kernel
theorem dM_orders_24 : decode bM_orders 24 = .ok (.aload_n 0, 1) := by decide +kernel
theorem dM_orders_25 : decode bM_orders 25 = .ok (.getfield 9, 3) := by decide +kernel
theorem dM_orders_28 : decode bM_orders 28 = .ok (.iload_n 1, 1) := by decide +kernel
theorem dM_orders_29 : decode bM_orders 29 = .ok (.iaload, 1) := by decide +kernel
theorem dM_orders_30 : decode bM_orders 30 = .ok (.ifCond .ne 8, 3) := by decide +kernel
theorem dM_orders_33 : decode bM_orders 33 = .ok (.bipush 6, 2) := by decide +kernel
theorem dM_orders_35 : decode bM_orders 35 = .ok (.goto 32, 3) := by decide +kernel
theorem dM_orders_38 : decode bM_orders 38 = .ok (.aload_n 0, 1) := by decide +kernel
theorem dM_orders_39 : decode bM_orders 39 = .ok (.getfield 9, 3) := by decide +kernel
theorem dM_orders_42 : decode bM_orders 42 = .ok (.iload_n 1, 1) := by decide +kernel
theorem dM_orders_43 : decode bM_orders 43 = .ok (.iaload, 1) := by decide +kernel
theorem dM_orders_44 : decode bM_orders 44 = .ok (.iconst 1, 1) := by decide +kernel
theorem dM_orders_45 : decode bM_orders 45 = .ok (.if_icmp .ne 7, 3) := by decide +kernel
theorem dM_orders_48 : decode bM_orders 48 = .ok (.iconst 2, 1) := by decide +kernel
theorem dM_orders_49 : decode bM_orders 49 = .ok (.goto 18, 3) := by decide +kernel
theorem dM_orders_52 : decode bM_orders 52 = .ok (.aload_n 0, 1) := by decide +kernel
theorem dM_orders_53 : decode bM_orders 53 = .ok (.getfield 9, 3) := by decide +kernel
theorem dM_orders_56 : decode bM_orders 56 = .ok (.iload_n 1, 1) := by decide +kernel
theorem dM_orders_57 : decode bM_orders 57 = .ok (.iaload, 1) := by decide +kernel
theorem dM_orders_58 : decode bM_orders 58 = .ok (.iconst 2, 1) := by decide +kernel
theorem dM_orders_59 : decode bM_orders 59 = .ok (.if_icmp .ne 7, 3) := by decide +kernel
theorem dM_orders_62 : decode bM_orders 62 = .ok (.iconst 4, 1) := by decide +kernel
theorem dM_orders_63 : decode bM_orders 63 = .ok (.goto 4, 3) := by decide +kernel
theorem dM_orders_66 : decode bM_orders 66 = .ok (.iload_n 2, 1) := by decide +kernel
theorem dM_orders_67 : decode bM_orders 67 = .ok (.ireturn, 1) := by decide +kernel
theorem dM_item_0 : decode bM_item 0 = .ok (.iconst 0, 1) := by decide +kernel
theorem dM_item_1 : decode bM_item 1 = .ok (.istore_n 3, 1) := by decide +kernel
theorem dM_item_2 : decode bM_item 2 = .ok (.iload_n 1, 1) := by decide +kernel
theorem dM_item_3 : decode bM_item 3 = .ok (.istore 4, 2) := by decide +kernel
theorem dM_item_5 : decode bM_item 5 = .ok (.iconst 0, 1) := by decide +kernel
theorem dM_item_6 : decode bM_item 6 = .ok (.istore 5, 2) := by decide +kernel
theorem dM_item_8 : decode bM_item 8 = .ok (.iconst 0, 1) := by decide +kernel
theorem dM_item_9 : decode bM_item 9 = .ok (.istore 6, 2) := by decide +kernel
theorem dM_item_11 : decode bM_item 11 = .ok (.iload 6, 2) := by decide +kernel
theorem dM_item_13 : decode bM_item 13 = .ok (.iload_n 2, 1) := by decide +kernel
theorem dM_item_14 : decode bM_item 14 = .ok (.if_icmp .gt 91, 3) := by decide +kernel
theorem dM_item_17 : decode bM_item 17 = .ok (.iconst 1, 1) := by decide +kernel
theorem dM_item_18 : decode bM_item 18 = .ok (.istore 7, 2) := by decide +kernel
theorem dM_item_20 : decode bM_item 20 = .ok (.iconst 2, 1) := by decide +kernel
theorem dM_item_21 : decode bM_item 21 = .ok (.istore 8, 2) := by decide +kernel
theorem dM_item_23 : decode bM_item 23 = .ok (.iload 8, 2) := by decide +kernel
theorem dM_item_25 : decode bM_item 25 = .ok (.iload_n 0, 1) := by decide +kernel
theorem dM_item_26 : decode bM_item 26 = .ok (.iload 6, 2) := by decide +kernel
theorem dM_item_28 : decode bM_item 28 = .ok (.isub, 1) := by decide +kernel
theorem dM_item_29 : decode bM_item 29 = .ok (.if_icmp .ge 16, 3) := by decide +kernel
theorem dM_item_32 : decode bM_item 32 = .ok (.iload 7, 2) := by decide +kernel
theorem dM_item_34 : decode bM_item 34 = .ok (.iload 8, 2) := by decide +kernel
theorem dM_item_36 : decode bM_item 36 = .ok (.imul, 1) := by decide +kernel
theorem dM_item_37 : decode bM_item 37 = .ok (.istore 7, 2) := by decide +kernel
theorem dM_item_39 : decode bM_item 39 = .ok (.iinc 8 1, 3) := by decide +kernel
theorem dM_item_42 : decode bM_item 42 = .ok (.goto (-19), 3) := by decide +kernel
theorem dM_item_45 : decode bM_item 45 = .ok (.iload 4, 2) := by decide +kernel
theorem dM_item_47 : decode bM_item 47 = .ok (.iload 7, 2) := by decide +kernel
theorem dM_item_49 : decode bM_item 49 = .ok (.idiv, 1) := by decide +kernel
theorem dM_item_50 : decode bM_item 50 = .ok (.istore 8, 2) := by decide +kernel
theorem dM_item_52 : decode bM_item 52 = .ok (.iload 4, 2) := by decide +kernel
theorem dM_item_54 : decode bM_item 54 = .ok (.iload 7, 2) := by decide +kernel
theorem dM_item_56 : decode bM_item 56 = .ok (.irem, 1) := by decide +kernel
theorem dM_item_57 : decode bM_item 57 = .ok (.istore 4, 2) := by decide +kernel
theorem dM_item_59 : decode bM_item 59 = .ok (.iconst (-1), 1) := by decide +kernel
theorem dM_item_60 : decode bM_item 60 = .ok (.istore 5, 2) := by decide +kernel
theorem dM_item_62 : decode bM_item 62 = .ok (.iload 8, 2) := by decide +kernel
theorem dM_item_64 : decode bM_item 64 = .ok (.ifCond .lt 28, 3) := by decide +kernel
theorem dM_item_67 : decode bM_item 67 = .ok (.iinc 5 1, 3) := by decide +kernel
theorem dM_item_70 : decode bM_item 70 = .ok (.iload 8, 2) := by decide +kernel
theorem dM_item_72 : decode bM_item 72 = .ok (.iload_n 3, 1) := by decide +kernel
theorem dM_item_73 : decode bM_item 73 = .ok (.iload 5, 2) := by decide +kernel
theorem dM_item_75 : decode bM_item 75 = .ok (.ishr, 1) := by decide +kernel
theorem dM_item_76 : decode bM_item 76 = .ok (.iconst 1, 1) := by decide +kernel
theorem dM_item_77 : decode bM_item 77 = .ok (.iand, 1) := by decide +kernel
theorem dM_item_78 : decode bM_item 78 = .ok (.ifCond .ne 7, 3) := by decide +kernel
theorem dM_item_81 : decode bM_item 81 = .ok (.iconst 1, 1) := by decide +kernel
theorem dM_item_82 : decode bM_item 82 = .ok (.goto 4, 3) := by decide +kernel
theorem dM_item_85 : decode bM_item 85 = .ok (.iconst 0, 1) := by decide +kernel
theorem dM_item_86 : decode bM_item 86 = .ok (.isub, 1) := by decide +kernel
theorem dM_item_87 : decode bM_item 87 = .ok (.istore 8, 2) := by decide +kernel
theorem dM_item_89 : decode bM_item 89 = .ok (.goto (-27), 3) := by decide +kernel
theorem dM_item_92 : decode bM_item 92 = .ok (.iload_n 3, 1) := by decide +kernel
theorem dM_item_93 : decode bM_item 93 = .ok (.iconst 1, 1) := by decide +kernel
theorem dM_item_94 : decode bM_item 94 = .ok (.iload 5, 2) := by decide +kernel
theorem dM_item_96 : decode bM_item 96 = .ok (.ishl, 1) := by decide +kernel
theorem dM_item_97 : decode bM_item 97 = .ok (.ior, 1) := by decide +kernel
theorem dM_item_98 : decode bM_item 98 = .ok (.istore_n 3, 1) := by decide +kernel
theorem dM_item_99 : decode bM_item 99 = .ok (.iinc 6 1, 3) := by decide +kernel
theorem dM_item_102 : decode bM_item 102 = .ok (.goto (-91), 3) := by decide +kernel
theorem dM_item_105 : decode bM_item 105 = .ok (.iload 5, 2) := by decide +kernel
theorem dM_item_107 : decode bM_item 107 = .ok (.ireturn, 1) := by decide +kernel
theorem dM_first_0 : decode bM_first 0 = .ok (.aload_n 0, 1) := by decide +kernel
theorem dM_first_1 : decode bM_first 1 = .ok (.getfield 9, 3) := by decide +kernel
theorem dM_first_4 : decode bM_first 4 = .ok (.iload_n 1, 1) := by decide +kernel
theorem dM_first_5 : decode bM_first 5 = .ok (.iaload, 1) := by decide +kernel
theorem dM_first_6 : decode bM_first 6 = .ok (.ifCond .ne 7, 3) := by decide +kernel
theorem dM_first_9 : decode bM_first 9 = .ok (.iconst 0, 1) := by decide +kernel
theorem dM_first_10 : decode bM_first 10 = .ok (.goto 20, 3) := by decide +kernel
theorem dM_first_13 : decode bM_first 13 = .ok (.aload_n 0, 1) := by decide +kernel
theorem dM_first_14 : decode bM_first 14 = .ok (.getfield 9, 3) := by decide +kernel
theorem dM_first_17 : decode bM_first 17 = .ok (.iload_n 1, 1) := by decide +kernel
theorem dM_first_18 : decode bM_first 18 = .ok (.iaload, 1) := by decide +kernel
theorem dM_first_19 : decode bM_first 19 = .ok (.iconst 1, 1) := by decide +kernel
theorem dM_first_20 : decode bM_first 20 = .ok (.if_icmp .ne 8, 3) := by decide +kernel
theorem dM_first_23 : decode bM_first 23 = .ok (.bipush 6, 2) := by decide +kernel
theorem dM_first_25 : decode bM_first 25 = .ok (.goto 5, 3) := by decide +kernel
theorem dM_first_28 : decode bM_first 28 = .ok (.bipush 8, 2) := by decide +kernel
theorem dM_first_30 : decode bM_first 30 = .ok (.ireturn, 1) := by decide +kernel
theorem dM_answer_0 : decode bM_answer 0 = .ok (.aload_n 0, 1) := by decide +kernel
theorem dM_answer_1 : decode bM_answer 1 = .ok (.iconst 0, 1) := by decide +kernel
theorem dM_answer_2 : decode bM_answer 2 = .ok (.putfield 39, 3) := by decide +kernel
theorem dM_answer_5 : decode bM_answer 5 = .ok (.aload_n 0, 1) := by decide +kernel
theorem dM_answer_6 : decode bM_answer 6 = .ok (.iload_n 1, 1) := by decide +kernel
theorem dM_answer_7 : decode bM_answer 7 = .ok (.invokevirtual 61, 3) := by decide +kernel
theorem dM_answer_10 : decode bM_answer 10 = .ok (.ifCond .eq 49, 3) := by decide +kernel
theorem dM_answer_13 : decode bM_answer 13 = .ok (.aload_n 0, 1) := by decide +kernel
theorem dM_answer_14 : decode bM_answer 14 = .ok (.iload_n 2, 1) := by decide +kernel
theorem dM_answer_15 : decode bM_answer 15 = .ok (.invokevirtual 65, 3) := by decide +kernel
theorem dM_answer_18 : decode bM_answer 18 = .ok (.ifCond .eq 41, 3) := by decide +kernel
theorem dM_answer_21 : decode bM_answer 21 = .ok (.aload_n 0, 1) := by decide +kernel
theorem dM_answer_22 : decode bM_answer 22 = .ok (.getfield 9, 3) := by decide +kernel
theorem dM_answer_25 : decode bM_answer 25 = .ok (.iload_n 1, 1) := by decide +kernel
theorem dM_answer_26 : decode bM_answer 26 = .ok (.iaload, 1) := by decide +kernel
theorem dM_answer_27 : decode bM_answer 27 = .ok (.iconst 3, 1) := by decide +kernel
theorem dM_answer_28 : decode bM_answer 28 = .ok (.if_icmp .eq 31, 3) := by decide +kernel
theorem dM_answer_31 : decode bM_answer 31 = .ok (.iload_n 3, 1) := by decide +kernel
theorem dM_answer_32 : decode bM_answer 32 = .ok (.ifCond .lt 27, 3) := by decide +kernel
theorem dM_answer_35 : decode bM_answer 35 = .ok (.iload_n 3, 1) := by decide +kernel
theorem dM_answer_36 : decode bM_answer 36 = .ok (.aload_n 0, 1) := by decide +kernel
theorem dM_answer_37 : decode bM_answer 37 = .ok (.getfield 13, 3) := by decide +kernel
theorem dM_answer_40 : decode bM_answer 40 = .ok (.iload_n 1, 1) := by decide +kernel
theorem dM_answer_41 : decode bM_answer 41 = .ok (.iaload, 1) := by decide +kernel
theorem dM_answer_42 : decode bM_answer 42 = .ok (.if_icmp .ge 17, 3) := by decide +kernel
theorem dM_answer_45 : decode bM_answer 45 = .ok (.aload_n 0, 1) := by decide +kernel
theorem dM_answer_46 : decode bM_answer 46 = .ok (.getfield 16, 3) := by decide +kernel
theorem dM_answer_49 : decode bM_answer 49 = .ok (.bipush 26, 2) := by decide +kernel
theorem dM_answer_51 : decode bM_answer 51 = .ok (.iload_n 1, 1) := by decide +kernel
theorem dM_answer_52 : decode bM_answer 52 = .ok (.imul, 1) := by decide +kernel
theorem dM_answer_53 : decode bM_answer 53 = .ok (.iload_n 2, 1) := by decide +kernel
theorem dM_answer_54 : decode bM_answer 54 = .ok (.iadd, 1) := by decide +kernel
theorem dM_answer_55 : decode bM_answer 55 = .ok (.iaload, 1) := by decide +kernel
theorem dM_answer_56 : decode bM_answer 56 = .ok (.ifCond .le 5, 3) := by decide +kernel
theorem dM_answer_59 : decode bM_answer 59 = .ok (.iconst 0, 1) := by decide +kernel
theorem dM_answer_60 : decode bM_answer 60 = .ok (.ireturn, 1) := by decide +kernel
theorem dM_answer_61 : decode bM_answer 61 = .ok (.aload_n 0, 1) := by decide +kernel
theorem dM_answer_62 : decode bM_answer 62 = .ok (.getfield 16, 3) := by decide +kernel
theorem dM_answer_65 : decode bM_answer 65 = .ok (.bipush 26, 2) := by decide +kernel
theorem dM_answer_67 : decode bM_answer 67 = .ok (.iload_n 1, 1) := by decide +kernel
theorem dM_answer_68 : decode bM_answer 68 = .ok (.imul, 1) := by decide +kernel
theorem dM_answer_69 : decode bM_answer 69 = .ok (.iload_n 2, 1) := by decide +kernel
theorem dM_answer_70 : decode bM_answer 70 = .ok (.iadd, 1) := by decide +kernel
theorem dM_answer_71 : decode bM_answer 71 = .ok (.iload_n 3, 1) := by decide +kernel
theorem dM_answer_72 : decode bM_answer 72 = .ok (.iconst 1, 1) := by decide +kernel
theorem dM_answer_73 : decode bM_answer 73 = .ok (.iadd, 1) := by decide +kernel
theorem dM_answer_74 : decode bM_answer 74 = .ok (.iastore, 1) := by decide +kernel
theorem dM_answer_75 : decode bM_answer 75 = .ok (.iconst 1, 1) := by decide +kernel
theorem dM_answer_76 : decode bM_answer 76 = .ok (.ireturn, 1) := by decide +kernel
theorem dM_right_0 : decode bM_right 0 = .ok (.aload_n 0, 1) := by decide +kernel
theorem dM_right_1 : decode bM_right 1 = .ok (.iconst 0, 1) := by decide +kernel
theorem dM_right_2 : decode bM_right 2 = .ok (.putfield 39, 3) := by decide +kernel
theorem dM_right_5 : decode bM_right 5 = .ok (.aload_n 0, 1) := by decide +kernel
theorem dM_right_6 : decode bM_right 6 = .ok (.iload_n 1, 1) := by decide +kernel
theorem dM_right_7 : decode bM_right 7 = .ok (.invokevirtual 61, 3) := by decide +kernel
theorem dM_right_10 : decode bM_right 10 = .ok (.ifCond .eq 13, 3) := by decide +kernel
theorem dM_right_13 : decode bM_right 13 = .ok (.aload_n 0, 1) := by decide +kernel
theorem dM_right_14 : decode bM_right 14 = .ok (.getfield 9, 3) := by decide +kernel
theorem dM_right_17 : decode bM_right 17 = .ok (.iload_n 1, 1) := by decide +kernel
theorem dM_right_18 : decode bM_right 18 = .ok (.iaload, 1) := by decide +kernel
theorem dM_right_19 : decode bM_right 19 = .ok (.iconst 3, 1) := by decide +kernel
theorem dM_right_20 : decode bM_right 20 = .ok (.if_icmp .ne 7, 3) := by decide +kernel
theorem dM_right_23 : decode bM_right 23 = .ok (.iconst (-1), 1) := by decide +kernel
theorem dM_right_24 : decode bM_right 24 = .ok (.goto 8, 3) := by decide +kernel
theorem dM_right_27 : decode bM_right 27 = .ok (.aload_n 0, 1) := by decide +kernel
theorem dM_right_28 : decode bM_right 28 = .ok (.iload_n 1, 1) := by decide +kernel
theorem dM_right_29 : decode bM_right 29 = .ok (.invokevirtual 92, 3) := by decide +kernel
theorem dM_right_32 : decode bM_right 32 = .ok (.ireturn, 1) := by decide +kernel
theorem dM_rightOnes_0 : decode bM_rightOnes 0 = .ok (.iconst 0, 1) := by decide +kernel
theorem dM_rightOnes_1 : decode bM_rightOnes 1 = .ok (.istore_n 2, 1) := by decide +kernel
theorem dM_rightOnes_2 : decode bM_rightOnes 2 = .ok (.iconst 0, 1) := by decide +kernel
theorem dM_rightOnes_3 : decode bM_rightOnes 3 = .ok (.istore_n 3, 1) := by decide +kernel
theorem dM_rightOnes_4 : decode bM_rightOnes 4 = .ok (.iload_n 3, 1) := by decide +kernel
theorem dM_rightOnes_5 : decode bM_rightOnes 5 = .ok (.aload_n 0, 1) := by decide +kernel
theorem dM_rightOnes_6 : decode bM_rightOnes 6 = .ok (.getfield 43, 3) := by decide +kernel
theorem dM_rightOnes_9 : decode bM_rightOnes 9 = .ok (.if_icmp .ge 40, 3) := by decide +kernel
theorem dM_rightOnes_12 : decode bM_rightOnes 12 = .ok (.iload_n 2, 1) := by decide +kernel
theorem dM_rightOnes_13 : decode bM_rightOnes 13 = .ok (.aload_n 0, 1) := by decide +kernel
theorem dM_rightOnes_14 : decode bM_rightOnes 14 = .ok (.getfield 16, 3) := by decide +kernel
theorem dM_rightOnes_17 : decode bM_rightOnes 17 = .ok (.bipush 26, 2) := by decide +kernel
theorem dM_rightOnes_19 : decode bM_rightOnes 19 = .ok (.iload_n 1, 1) := by decide +kernel
theorem dM_rightOnes_20 : decode bM_rightOnes 20 = .ok (.imul, 1) := by decide +kernel
theorem dM_rightOnes_21 : decode bM_rightOnes 21 = .ok (.iload_n 3, 1) := by decide +kernel
theorem dM_rightOnes_22 : decode bM_rightOnes 22 = .ok (.iadd, 1) := by decide +kernel
theorem dM_rightOnes_23 : decode bM_rightOnes 23 = .ok (.iaload, 1) := by decide +kernel
theorem dM_rightOnes_24 : decode bM_rightOnes 24 = .ok (.ifCond .le 16, 3) := by decide +kernel
theorem dM_rightOnes_27 : decode bM_rightOnes 27 = .ok (.aload_n 0, 1) := by decide +kernel
theorem dM_rightOnes_28 : decode bM_rightOnes 28 = .ok (.iload_n 1, 1) := by decide +kernel
theorem dM_rightOnes_29 : decode bM_rightOnes 29 = .ok (.iload_n 3, 1) := by decide +kernel
theorem dM_rightOnes_30 : decode bM_rightOnes 30 = .ok (.invokevirtual 88, 3) := by decide +kernel
theorem dM_rightOnes_33 : decode bM_rightOnes 33 = .ok (.ifCond .eq 7, 3) := by decide +kernel
theorem dM_rightOnes_36 : decode bM_rightOnes 36 = .ok (.iconst 1, 1) := by decide +kernel
theorem dM_rightOnes_37 : decode bM_rightOnes 37 = .ok (.goto 4, 3) := by decide +kernel
theorem dM_rightOnes_40 : decode bM_rightOnes 40 = .ok (.iconst 0, 1) := by decide +kernel
theorem dM_rightOnes_41 : decode bM_rightOnes 41 = .ok (.iadd, 1) := by decide +kernel
theorem dM_rightOnes_42 : decode bM_rightOnes 42 = .ok (.istore_n 2, 1) := by decide +kernel
theorem dM_rightOnes_43 : decode bM_rightOnes 43 = .ok (.iinc 3 1, 3) := by decide +kernel
theorem dM_rightOnes_46 : decode bM_rightOnes 46 = .ok (.goto (-42), 3) := by decide +kernel
theorem dM_rightOnes_49 : decode bM_rightOnes 49 = .ok (.iload_n 2, 1) := by decide +kernel
theorem dM_rightOnes_50 : decode bM_rightOnes 50 = .ok (.ireturn, 1) := by decide +kernel
theorem dM_isRight_0 : decode bM_isRight 0 = .ok (.aload_n 0, 1) := by decide +kernel
theorem dM_isRight_1 : decode bM_isRight 1 = .ok (.getfield 16, 3) := by decide +kernel
theorem dM_isRight_4 : decode bM_isRight 4 = .ok (.bipush 26, 2) := by decide +kernel
theorem dM_isRight_6 : decode bM_isRight 6 = .ok (.iload_n 1, 1) := by decide +kernel
theorem dM_isRight_7 : decode bM_isRight 7 = .ok (.imul, 1) := by decide +kernel
theorem dM_isRight_8 : decode bM_isRight 8 = .ok (.iload_n 2, 1) := by decide +kernel
theorem dM_isRight_9 : decode bM_isRight 9 = .ok (.iadd, 1) := by decide +kernel
theorem dM_isRight_10 : decode bM_isRight 10 = .ok (.iaload, 1) := by decide +kernel
theorem dM_isRight_11 : decode bM_isRight 11 = .ok (.iconst 1, 1) := by decide +kernel
theorem dM_isRight_12 : decode bM_isRight 12 = .ok (.getstatic 85, 3) := by decide +kernel
theorem dM_isRight_15 : decode bM_isRight 15 = .ok (.aload_n 0, 1) := by decide +kernel
theorem dM_isRight_16 : decode bM_isRight 16 = .ok (.iload_n 1, 1) := by decide +kernel
theorem dM_isRight_17 : decode bM_isRight 17 = .ok (.invokevirtual 82, 3) := by decide +kernel
theorem dM_isRight_20 : decode bM_isRight 20 = .ok (.aload_n 0, 1) := by decide +kernel
theorem dM_isRight_21 : decode bM_isRight 21 = .ok (.iload_n 1, 1) := by decide +kernel
theorem dM_isRight_22 : decode bM_isRight 22 = .ok (.iload_n 2, 1) := by decide +kernel
theorem dM_isRight_23 : decode bM_isRight 23 = .ok (.invokevirtual 71, 3) := by decide +kernel
theorem dM_isRight_26 : decode bM_isRight 26 = .ok (.iadd, 1) := by decide +kernel
theorem dM_isRight_27 : decode bM_isRight 27 = .ok (.iaload, 1) := by decide +kernel
theorem dM_isRight_28 : decode bM_isRight 28 = .ok (.iadd, 1) := by decide +kernel
theorem dM_isRight_29 : decode bM_isRight 29 = .ok (.if_icmp .ne 7, 3) := by decide +kernel
theorem dM_isRight_32 : decode bM_isRight 32 = .ok (.iconst 1, 1) := by decide +kernel
theorem dM_isRight_33 : decode bM_isRight 33 = .ok (.goto 4, 3) := by decide +kernel
theorem dM_isRight_36 : decode bM_isRight 36 = .ok (.iconst 0, 1) := by decide +kernel
theorem dM_isRight_37 : decode bM_isRight 37 = .ok (.ireturn, 1) := by decide +kernel
theorem dM_chance_0 : decode bM_chance 0 = .ok (.aload_n 0, 1) := by decide +kernel
theorem dM_chance_1 : decode bM_chance 1 = .ok (.iconst 0, 1) := by decide +kernel
theorem dM_chance_2 : decode bM_chance 2 = .ok (.putfield 39, 3) := by decide +kernel
theorem dM_chance_5 : decode bM_chance 5 = .ok (.aload_n 0, 1) := by decide +kernel
theorem dM_chance_6 : decode bM_chance 6 = .ok (.iload_n 1, 1) := by decide +kernel
theorem dM_chance_7 : decode bM_chance 7 = .ok (.invokevirtual 61, 3) := by decide +kernel
theorem dM_chance_10 : decode bM_chance 10 = .ok (.ifCond .eq 30, 3) := by decide +kernel
theorem dM_chance_13 : decode bM_chance 13 = .ok (.aload_n 0, 1) := by decide +kernel
theorem dM_chance_14 : decode bM_chance 14 = .ok (.getfield 9, 3) := by decide +kernel
theorem dM_chance_17 : decode bM_chance 17 = .ok (.iload_n 1, 1) := by decide +kernel
theorem dM_chance_18 : decode bM_chance 18 = .ok (.iaload, 1) := by decide +kernel
theorem dM_chance_19 : decode bM_chance 19 = .ok (.iconst 3, 1) := by decide +kernel
theorem dM_chance_20 : decode bM_chance 20 = .ok (.if_icmp .eq 20, 3) := by decide +kernel
theorem dM_chance_23 : decode bM_chance 23 = .ok (.aload_n 0, 1) := by decide +kernel
theorem dM_chance_24 : decode bM_chance 24 = .ok (.iload_n 1, 1) := by decide +kernel
theorem dM_chance_25 : decode bM_chance 25 = .ok (.invokevirtual 95, 3) := by decide +kernel
theorem dM_chance_28 : decode bM_chance 28 = .ok (.ifCond .eq 12, 3) := by decide +kernel
theorem dM_chance_31 : decode bM_chance 31 = .ok (.iload_n 2, 1) := by decide +kernel
theorem dM_chance_32 : decode bM_chance 32 = .ok (.ifCond .lt 8, 3) := by decide +kernel
theorem dM_chance_35 : decode bM_chance 35 = .ok (.iload_n 2, 1) := by decide +kernel
theorem dM_chance_36 : decode bM_chance 36 = .ok (.iconst 1, 1) := by decide +kernel
theorem dM_chance_37 : decode bM_chance 37 = .ok (.if_icmp .le 7, 3) := by decide +kernel
theorem dM_chance_40 : decode bM_chance 40 = .ok (.ldc2_w 98, 3) := by decide +kernel
theorem dM_chance_43 : decode bM_chance 43 = .ok (.lreturn, 1) := by decide +kernel
theorem dM_chance_44 : decode bM_chance 44 = .ok (.aload_n 0, 1) := by decide +kernel
theorem dM_chance_45 : decode bM_chance 45 = .ok (.iload_n 1, 1) := by decide +kernel
theorem dM_chance_46 : decode bM_chance 46 = .ok (.invokevirtual 95, 3) := by decide +kernel
theorem dM_chance_49 : decode bM_chance 49 = .ok (.istore_n 3, 1) := by decide +kernel
theorem dM_chance_50 : decode bM_chance 50 = .ok (.aload_n 0, 1) := by decide +kernel
theorem dM_chance_51 : decode bM_chance 51 = .ok (.getfield 9, 3) := by decide +kernel
theorem dM_chance_54 : decode bM_chance 54 = .ok (.iload_n 1, 1) := by decide +kernel
theorem dM_chance_55 : decode bM_chance 55 = .ok (.iaload, 1) := by decide +kernel
theorem dM_chance_56 : decode bM_chance 56 = .ok (.ifCond .ne 7, 3) := by decide +kernel
theorem dM_chance_59 : decode bM_chance 59 = .ok (.iconst 3, 1) := by decide +kernel
theorem dM_chance_60 : decode bM_chance 60 = .ok (.goto 4, 3) := by decide +kernel
theorem dM_chance_63 : decode bM_chance 63 = .ok (.iconst 2, 1) := by decide +kernel
theorem dM_chance_64 : decode bM_chance 64 = .ok (.istore 4, 2) := by decide +kernel
theorem dM_chance_66 : decode bM_chance 66 = .ok (.aload_n 0, 1) := by decide +kernel
theorem dM_chance_67 : decode bM_chance 67 = .ok (.iload_n 3, 1) := by decide +kernel
theorem dM_chance_68 : decode bM_chance 68 = .ok (.aload_n 0, 1) := by decide +kernel
theorem dM_chance_69 : decode bM_chance 69 = .ok (.iload_n 1, 1) := by decide +kernel
theorem dM_chance_70 : decode bM_chance 70 = .ok (.invokevirtual 92, 3) := by decide +kernel
theorem dM_chance_73 : decode bM_chance 73 = .ok (.iload 4, 2) := by decide +kernel
theorem dM_chance_75 : decode bM_chance 75 = .ok (.invokevirtual 100, 3) := by decide +kernel
theorem dM_chance_78 : decode bM_chance 78 = .ok (.iload 4, 2) := by decide +kernel
theorem dM_chance_80 : decode bM_chance 80 = .ok (.i2l, 1) := by decide +kernel
theorem dM_chance_81 : decode bM_chance 81 = .ok (.iload_n 3, 1) := by decide +kernel
theorem dM_chance_82 : decode bM_chance 82 = .ok (.invokestatic 104, 3) := by decide +kernel
theorem dM_chance_85 : decode bM_chance 85 = .ok (.iload_n 2, 1) := by decide +kernel
theorem dM_chance_86 : decode bM_chance 86 = .ok (.invokestatic 108, 3) := by decide +kernel
theorem dM_chance_89 : decode bM_chance 89 = .ok (.lreturn, 1) := by decide +kernel
theorem dM_answered_0 : decode bM_answered 0 = .ok (.iconst 0, 1) := by decide +kernel
theorem dM_answered_1 : decode bM_answered 1 = .ok (.istore_n 2, 1) := by decide +kernel
theorem dM_answered_2 : decode bM_answered 2 = .ok (.iconst 0, 1) := by decide +kernel
theorem dM_answered_3 : decode bM_answered 3 = .ok (.istore_n 3, 1) := by decide +kernel
theorem dM_answered_4 : decode bM_answered 4 = .ok (.iload_n 3, 1) := by decide +kernel
theorem dM_answered_5 : decode bM_answered 5 = .ok (.aload_n 0, 1) := by decide +kernel
theorem dM_answered_6 : decode bM_answered 6 = .ok (.getfield 43, 3) := by decide +kernel
theorem dM_answered_9 : decode bM_answered 9 = .ok (.if_icmp .ge 31, 3) := by decide +kernel
theorem dM_answered_12 : decode bM_answered 12 = .ok (.iload_n 2, 1) := by decide +kernel
theorem dM_answered_13 : decode bM_answered 13 = .ok (.aload_n 0, 1) := by decide +kernel
theorem dM_answered_14 : decode bM_answered 14 = .ok (.getfield 16, 3) := by decide +kernel
theorem dM_answered_17 : decode bM_answered 17 = .ok (.bipush 26, 2) := by decide +kernel
theorem dM_answered_19 : decode bM_answered 19 = .ok (.iload_n 1, 1) := by decide +kernel
theorem dM_answered_20 : decode bM_answered 20 = .ok (.imul, 1) := by decide +kernel
theorem dM_answered_21 : decode bM_answered 21 = .ok (.iload_n 3, 1) := by decide +kernel
theorem dM_answered_22 : decode bM_answered 22 = .ok (.iadd, 1) := by decide +kernel
theorem dM_answered_23 : decode bM_answered 23 = .ok (.iaload, 1) := by decide +kernel
theorem dM_answered_24 : decode bM_answered 24 = .ok (.ifCond .le 7, 3) := by decide +kernel
theorem dM_answered_27 : decode bM_answered 27 = .ok (.iconst 1, 1) := by decide +kernel
theorem dM_answered_28 : decode bM_answered 28 = .ok (.goto 4, 3) := by decide +kernel
theorem dM_answered_31 : decode bM_answered 31 = .ok (.iconst 0, 1) := by decide +kernel
theorem dM_answered_32 : decode bM_answered 32 = .ok (.iadd, 1) := by decide +kernel
theorem dM_answered_33 : decode bM_answered 33 = .ok (.istore_n 2, 1) := by decide +kernel
theorem dM_answered_34 : decode bM_answered 34 = .ok (.iinc 3 1, 3) := by decide +kernel
theorem dM_answered_37 : decode bM_answered 37 = .ok (.goto (-33), 3) := by decide +kernel
theorem dM_answered_40 : decode bM_answered 40 = .ok (.iload_n 2, 1) := by decide +kernel
theorem dM_answered_41 : decode bM_answered 41 = .ok (.ireturn, 1) := by decide +kernel
theorem dM_atLeast_0 : decode bM_atLeast 0 = .ok (.iconst 0, 1) := by decide +kernel
theorem dM_atLeast_1 : decode bM_atLeast 1 = .ok (.istore 4, 2) := by decide +kernel
theorem dM_atLeast_3 : decode bM_atLeast 3 = .ok (.iload 4, 2) := by decide +kernel
theorem dM_atLeast_5 : decode bM_atLeast 5 = .ok (.iload_n 1, 1) := by decide +kernel
theorem dM_atLeast_6 : decode bM_atLeast 6 = .ok (.if_icmp .gt 26, 3) := by decide +kernel
theorem dM_atLeast_9 : decode bM_atLeast 9 = .ok (.aload_n 0, 1) := by decide +kernel
theorem dM_atLeast_10 : decode bM_atLeast 10 = .ok (.getfield 28, 3) := by decide +kernel
theorem dM_atLeast_13 : decode bM_atLeast 13 = .ok (.iload 4, 2) := by decide +kernel
theorem dM_atLeast_15 : decode bM_atLeast 15 = .ok (.iload 4, 2) := by decide +kernel
theorem dM_atLeast_17 : decode bM_atLeast 17 = .ok (.ifCond .ne 7, 3) := by decide +kernel
theorem dM_atLeast_20 : decode bM_atLeast 20 = .ok (.lconst 1, 1) := by decide +kernel
theorem dM_atLeast_21 : decode bM_atLeast 21 = .ok (.goto 4, 3) := by decide +kernel
theorem dM_atLeast_24 : decode bM_atLeast 24 = .ok (.lconst 0, 1) := by decide +kernel
theorem dM_atLeast_25 : decode bM_atLeast 25 = .ok (.lastore, 1) := by decide +kernel
theorem dM_atLeast_26 : decode bM_atLeast 26 = .ok (.iinc 4 1, 3) := by decide +kernel
theorem dM_atLeast_29 : decode bM_atLeast 29 = .ok (.goto (-26), 3) := by decide +kernel
theorem dM_atLeast_32 : decode bM_atLeast 32 = .ok (.iconst 0, 1) := by decide +kernel
theorem dM_atLeast_33 : decode bM_atLeast 33 = .ok (.istore 4, 2) := by decide +kernel
theorem dM_atLeast_35 : decode bM_atLeast 35 = .ok (.iload 4, 2) := by decide +kernel
theorem dM_atLeast_37 : decode bM_atLeast 37 = .ok (.iload_n 1, 1) := by decide +kernel
theorem dM_atLeast_38 : decode bM_atLeast 38 = .ok (.if_icmp .ge 61, 3) := by decide +kernel
theorem dM_atLeast_41 : decode bM_atLeast 41 = .ok (.iload_n 1, 1) := by decide +kernel
theorem dM_atLeast_42 : decode bM_atLeast 42 = .ok (.istore 5, 2) := by decide +kernel
theorem dM_atLeast_44 : decode bM_atLeast 44 = .ok (.iload 5, 2) := by decide +kernel
theorem dM_atLeast_46 : decode bM_atLeast 46 = .ok (.ifCond .lt 47, 3) := by decide +kernel
theorem dM_atLeast_49 : decode bM_atLeast 49 = .ok (.aload_n 0, 1) := by decide +kernel
theorem dM_atLeast_50 : decode bM_atLeast 50 = .ok (.getfield 28, 3) := by decide +kernel
theorem dM_atLeast_53 : decode bM_atLeast 53 = .ok (.iload 5, 2) := by decide +kernel
theorem dM_atLeast_55 : decode bM_atLeast 55 = .ok (.aload_n 0, 1) := by decide +kernel
theorem dM_atLeast_56 : decode bM_atLeast 56 = .ok (.getfield 28, 3) := by decide +kernel
theorem dM_atLeast_59 : decode bM_atLeast 59 = .ok (.iload 5, 2) := by decide +kernel
theorem dM_atLeast_61 : decode bM_atLeast 61 = .ok (.laload, 1) := by decide +kernel
theorem dM_atLeast_62 : decode bM_atLeast 62 = .ok (.iload_n 3, 1) := by decide +kernel
theorem dM_atLeast_63 : decode bM_atLeast 63 = .ok (.iconst 1, 1) := by decide +kernel
theorem dM_atLeast_64 : decode bM_atLeast 64 = .ok (.isub, 1) := by decide +kernel
theorem dM_atLeast_65 : decode bM_atLeast 65 = .ok (.i2l, 1) := by decide +kernel
theorem dM_atLeast_66 : decode bM_atLeast 66 = .ok (.lmul, 1) := by decide +kernel
theorem dM_atLeast_67 : decode bM_atLeast 67 = .ok (.iload 5, 2) := by decide +kernel
theorem dM_atLeast_69 : decode bM_atLeast 69 = .ok (.ifCond .le 15, 3) := by decide +kernel
theorem dM_atLeast_72 : decode bM_atLeast 72 = .ok (.aload_n 0, 1) := by decide +kernel
theorem dM_atLeast_73 : decode bM_atLeast 73 = .ok (.getfield 28, 3) := by decide +kernel
theorem dM_atLeast_76 : decode bM_atLeast 76 = .ok (.iload 5, 2) := by decide +kernel
theorem dM_atLeast_78 : decode bM_atLeast 78 = .ok (.iconst 1, 1) := by decide +kernel
theorem dM_atLeast_79 : decode bM_atLeast 79 = .ok (.isub, 1) := by decide +kernel
theorem dM_atLeast_80 : decode bM_atLeast 80 = .ok (.laload, 1) := by decide +kernel
theorem dM_atLeast_81 : decode bM_atLeast 81 = .ok (.goto 4, 3) := by decide +kernel
theorem dM_atLeast_84 : decode bM_atLeast 84 = .ok (.lconst 0, 1) := by decide +kernel
theorem dM_atLeast_85 : decode bM_atLeast 85 = .ok (.ladd, 1) := by decide +kernel
theorem dM_atLeast_86 : decode bM_atLeast 86 = .ok (.lastore, 1) := by decide +kernel
theorem dM_atLeast_87 : decode bM_atLeast 87 = .ok (.iinc 5 (-1), 3) := by decide +kernel
theorem dM_atLeast_90 : decode bM_atLeast 90 = .ok (.goto (-46), 3) := by decide +kernel
theorem dM_atLeast_93 : decode bM_atLeast 93 = .ok (.iinc 4 1, 3) := by decide +kernel
theorem dM_atLeast_96 : decode bM_atLeast 96 = .ok (.goto (-61), 3) := by decide +kernel
theorem dM_atLeast_99 : decode bM_atLeast 99 = .ok (.lconst 0, 1) := by decide +kernel
theorem dM_atLeast_100 : decode bM_atLeast 100 = .ok (.lstore 4, 2) := by decide +kernel
theorem dM_atLeast_102 : decode bM_atLeast 102 = .ok (.iload_n 2, 1) := by decide +kernel
theorem dM_atLeast_103 : decode bM_atLeast 103 = .ok (.istore 6, 2) := by decide +kernel
theorem dM_atLeast_105 : decode bM_atLeast 105 = .ok (.iload 6, 2) := by decide +kernel
theorem dM_atLeast_107 : decode bM_atLeast 107 = .ok (.iload_n 1, 1) := by decide +kernel
theorem dM_atLeast_108 : decode bM_atLeast 108 = .ok (.if_icmp .gt 21, 3) := by decide +kernel
theorem dM_atLeast_111 : decode bM_atLeast 111 = .ok (.lload 4, 2) := by decide +kernel
theorem dM_atLeast_113 : decode bM_atLeast 113 = .ok (.aload_n 0, 1) := by decide +kernel
theorem dM_atLeast_114 : decode bM_atLeast 114 = .ok (.getfield 28, 3) := by decide +kernel
theorem dM_atLeast_117 : decode bM_atLeast 117 = .ok (.iload 6, 2) := by decide +kernel
theorem dM_atLeast_119 : decode bM_atLeast 119 = .ok (.laload, 1) := by decide +kernel
theorem dM_atLeast_120 : decode bM_atLeast 120 = .ok (.ladd, 1) := by decide +kernel
theorem dM_atLeast_121 : decode bM_atLeast 121 = .ok (.lstore 4, 2) := by decide +kernel
theorem dM_atLeast_123 : decode bM_atLeast 123 = .ok (.iinc 6 1, 3) := by decide +kernel
theorem dM_atLeast_126 : decode bM_atLeast 126 = .ok (.goto (-21), 3) := by decide +kernel
theorem dM_atLeast_129 : decode bM_atLeast 129 = .ok (.lload 4, 2) := by decide +kernel
theorem dM_atLeast_131 : decode bM_atLeast 131 = .ok (.lreturn, 1) := by decide +kernel
