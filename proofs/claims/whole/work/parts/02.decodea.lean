theorem dP_init_0 : decode bP_init 0 = .ok (.aload_n 0, 1) := by decide +kernel
theorem dP_init_1 : decode bP_init 1 = .ok (.invokespecial 1, 3) := by decide +kernel
theorem dP_init_4 : decode bP_init 4 = .ok (.aload_n 0, 1) := by decide +kernel
theorem dP_init_5 : decode bP_init 5 = .ok (.bipush 26, 2) := by decide +kernel
theorem dP_init_7 : decode bP_init 7 = .ok (.anewarray 9, 3) := by decide +kernel
theorem dP_init_10 : decode bP_init 10 = .ok (.putfield 11, 3) := by decide +kernel
theorem dP_init_13 : decode bP_init 13 = .ok (.aload_n 0, 1) := by decide +kernel
theorem dP_init_14 : decode bP_init 14 = .ok (.bipush 40, 2) := by decide +kernel
theorem dP_init_16 : decode bP_init 16 = .ok (.anewarray 15, 3) := by decide +kernel
theorem dP_init_19 : decode bP_init 19 = .ok (.putfield 17, 3) := by decide +kernel
theorem dP_init_22 : decode bP_init 22 = .ok (.aload_n 0, 1) := by decide +kernel
theorem dP_init_23 : decode bP_init 23 = .ok (.bipush 120, 2) := by decide +kernel
theorem dP_init_25 : decode bP_init 25 = .ok (.newarray .int, 2) := by decide +kernel
theorem dP_init_27 : decode bP_init 27 = .ok (.putfield 21, 3) := by decide +kernel
theorem dP_init_30 : decode bP_init 30 = .ok (.aload_n 0, 1) := by decide +kernel
theorem dP_init_31 : decode bP_init 31 = .ok (.sipush 131, 3) := by decide +kernel
theorem dP_init_34 : decode bP_init 34 = .ok (.newarray .long, 2) := by decide +kernel
theorem dP_init_36 : decode bP_init 36 = .ok (.putfield 25, 3) := by decide +kernel
theorem dP_init_39 : decode bP_init 39 = .ok (.aload_n 0, 1) := by decide +kernel
theorem dP_init_40 : decode bP_init 40 = .ok (.lload_n 1, 1) := by decide +kernel
theorem dP_init_41 : decode bP_init 41 = .ok (.putfield 29, 3) := by decide +kernel
theorem dP_init_44 : decode bP_init 44 = .ok (.return_, 1) := by decide +kernel
theorem dP_taster_0 : decode bP_taster 0 = .ok (.aload_n 0, 1) := by decide +kernel
theorem dP_taster_1 : decode bP_taster 1 = .ok (.getfield 33, 3) := by decide +kernel
theorem dP_taster_4 : decode bP_taster 4 = .ok (.bipush 26, 2) := by decide +kernel
theorem dP_taster_6 : decode bP_taster 6 = .ok (.if_icmp .lt 6, 3) := by decide +kernel
theorem dP_taster_9 : decode bP_taster 9 = .ok (.bipush (-2), 2) := by decide +kernel
theorem dP_taster_11 : decode bP_taster 11 = .ok (.ireturn, 1) := by decide +kernel
theorem dP_taster_12 : decode bP_taster 12 = .ok (.aload_n 0, 1) := by decide +kernel
theorem dP_taster_13 : decode bP_taster 13 = .ok (.getfield 11, 3) := by decide +kernel
theorem dP_taster_16 : decode bP_taster 16 = .ok (.aload_n 0, 1) := by decide +kernel
theorem dP_taster_17 : decode bP_taster 17 = .ok (.getfield 33, 3) := by decide +kernel
theorem dP_taster_20 : decode bP_taster 20 = .ok (.new 9, 3) := by decide +kernel
theorem dP_taster_23 : decode bP_taster 23 = .ok (.dup, 1) := by decide +kernel
theorem dP_taster_24 : decode bP_taster 24 = .ok (.invokespecial 37, 3) := by decide +kernel
theorem dP_taster_27 : decode bP_taster 27 = .ok (.aastore, 1) := by decide +kernel
theorem dP_taster_28 : decode bP_taster 28 = .ok (.aload_n 0, 1) := by decide +kernel
theorem dP_taster_29 : decode bP_taster 29 = .ok (.dup, 1) := by decide +kernel
theorem dP_taster_30 : decode bP_taster 30 = .ok (.getfield 33, 3) := by decide +kernel
theorem dP_taster_33 : decode bP_taster 33 = .ok (.dup_x1, 1) := by decide +kernel
theorem dP_taster_34 : decode bP_taster 34 = .ok (.iconst 1, 1) := by decide +kernel
theorem dP_taster_35 : decode bP_taster 35 = .ok (.iadd, 1) := by decide +kernel
theorem dP_taster_36 : decode bP_taster 36 = .ok (.putfield 33, 3) := by decide +kernel
theorem dP_taster_39 : decode bP_taster 39 = .ok (.ireturn, 1) := by decide +kernel
theorem dT_init_0 : decode bT_init 0 = .ok (.aload_n 0, 1) := by decide +kernel
theorem dT_init_1 : decode bT_init 1 = .ok (.invokespecial 3, 3) := by decide +kernel
theorem dT_init_4 : decode bT_init 4 = .ok (.aload_n 0, 1) := by decide +kernel
theorem dT_init_5 : decode bT_init 5 = .ok (.bipush 16, 2) := by decide +kernel
theorem dT_init_7 : decode bT_init 7 = .ok (.newarray .boolean, 2) := by decide +kernel
theorem dT_init_9 : decode bT_init 9 = .ok (.putfield 9, 3) := by decide +kernel
theorem dT_init_12 : decode bT_init 12 = .ok (.aload_n 0, 1) := by decide +kernel
theorem dT_init_13 : decode bT_init 13 = .ok (.bipush 16, 2) := by decide +kernel
theorem dT_init_15 : decode bT_init 15 = .ok (.newarray .boolean, 2) := by decide +kernel
theorem dT_init_17 : decode bT_init 17 = .ok (.putfield 15, 3) := by decide +kernel
theorem dT_init_20 : decode bT_init 20 = .ok (.return_, 1) := by decide +kernel
theorem dP_test_0 : decode bP_test 0 = .ok (.iload_n 1, 1) := by decide +kernel
theorem dP_test_1 : decode bP_test 1 = .ok (.iload_n 2, 1) := by decide +kernel
theorem dP_test_2 : decode bP_test 2 = .ok (.invokestatic 38, 3) := by decide +kernel
theorem dP_test_5 : decode bP_test 5 = .ok (.ifCond .ne 5, 3) := by decide +kernel
theorem dP_test_8 : decode bP_test 8 = .ok (.iconst (-1), 1) := by decide +kernel
theorem dP_test_9 : decode bP_test 9 = .ok (.ireturn, 1) := by decide +kernel
theorem dP_test_10 : decode bP_test 10 = .ok (.aload_n 0, 1) := by decide +kernel
theorem dP_test_11 : decode bP_test 11 = .ok (.getfield 42, 3) := by decide +kernel
theorem dP_test_14 : decode bP_test 14 = .ok (.bipush 40, 2) := by decide +kernel
theorem dP_test_16 : decode bP_test 16 = .ok (.if_icmp .lt 6, 3) := by decide +kernel
theorem dP_test_19 : decode bP_test 19 = .ok (.bipush (-2), 2) := by decide +kernel
theorem dP_test_21 : decode bP_test 21 = .ok (.ireturn, 1) := by decide +kernel
theorem dP_test_22 : decode bP_test 22 = .ok (.new 15, 3) := by decide +kernel
theorem dP_test_25 : decode bP_test 25 = .ok (.dup, 1) := by decide +kernel
theorem dP_test_26 : decode bP_test 26 = .ok (.iload_n 1, 1) := by decide +kernel
theorem dP_test_27 : decode bP_test 27 = .ok (.iload_n 2, 1) := by decide +kernel
theorem dP_test_28 : decode bP_test 28 = .ok (.invokespecial 45, 3) := by decide +kernel
theorem dP_test_31 : decode bP_test 31 = .ok (.astore_n 3, 1) := by decide +kernel
theorem dP_test_32 : decode bP_test 32 = .ok (.aload_n 0, 1) := by decide +kernel
theorem dP_test_33 : decode bP_test 33 = .ok (.aload_n 3, 1) := by decide +kernel
theorem dP_test_34 : decode bP_test 34 = .ok (.aload_n 0, 1) := by decide +kernel
theorem dP_test_35 : decode bP_test 35 = .ok (.getfield 42, 3) := by decide +kernel
theorem dP_test_38 : decode bP_test 38 = .ok (.invokevirtual 48, 3) := by decide +kernel
theorem dP_test_41 : decode bP_test 41 = .ok (.aload_n 0, 1) := by decide +kernel
theorem dP_test_42 : decode bP_test 42 = .ok (.getfield 17, 3) := by decide +kernel
theorem dP_test_45 : decode bP_test 45 = .ok (.aload_n 0, 1) := by decide +kernel
theorem dP_test_46 : decode bP_test 46 = .ok (.getfield 42, 3) := by decide +kernel
theorem dP_test_49 : decode bP_test 49 = .ok (.aload_n 3, 1) := by decide +kernel
theorem dP_test_50 : decode bP_test 50 = .ok (.aastore, 1) := by decide +kernel
theorem dP_test_51 : decode bP_test 51 = .ok (.aload_n 0, 1) := by decide +kernel
theorem dP_test_52 : decode bP_test 52 = .ok (.dup, 1) := by decide +kernel
theorem dP_test_53 : decode bP_test 53 = .ok (.getfield 42, 3) := by decide +kernel
theorem dP_test_56 : decode bP_test 56 = .ok (.dup_x1, 1) := by decide +kernel
theorem dP_test_57 : decode bP_test 57 = .ok (.iconst 1, 1) := by decide +kernel
theorem dP_test_58 : decode bP_test 58 = .ok (.iadd, 1) := by decide +kernel
theorem dP_test_59 : decode bP_test 59 = .ok (.putfield 42, 3) := by decide +kernel
theorem dP_test_62 : decode bP_test 62 = .ok (.ireturn, 1) := by decide +kernel
theorem dP_isKindOf_0 : decode bP_isKindOf 0 = .ok (.iload_n 0, 1) := by decide +kernel
theorem dP_isKindOf_1 : decode bP_isKindOf 1 = .ok (.tableswitch 69 0 3 #[31, 42, 42, 53], 31) := by decide +kernel
theorem dP_isKindOf_32 : decode bP_isKindOf 32 = .ok (.iload_n 1, 1) := by decide +kernel
theorem dP_isKindOf_33 : decode bP_isKindOf 33 = .ok (.iconst 3, 1) := by decide +kernel
theorem dP_isKindOf_34 : decode bP_isKindOf 34 = .ok (.if_icmp .ne 7, 3) := by decide +kernel
theorem dP_isKindOf_37 : decode bP_isKindOf 37 = .ok (.iconst 1, 1) := by decide +kernel
theorem dP_isKindOf_38 : decode bP_isKindOf 38 = .ok (.goto 4, 3) := by decide +kernel
theorem dP_isKindOf_41 : decode bP_isKindOf 41 = .ok (.iconst 0, 1) := by decide +kernel
theorem dP_isKindOf_42 : decode bP_isKindOf 42 = .ok (.ireturn, 1) := by decide +kernel
theorem dP_isKindOf_43 : decode bP_isKindOf 43 = .ok (.iload_n 1, 1) := by decide +kernel
theorem dP_isKindOf_44 : decode bP_isKindOf 44 = .ok (.iconst 2, 1) := by decide +kernel
theorem dP_isKindOf_45 : decode bP_isKindOf 45 = .ok (.if_icmp .ne 7, 3) := by decide +kernel
theorem dP_isKindOf_48 : decode bP_isKindOf 48 = .ok (.iconst 1, 1) := by decide +kernel
theorem dP_isKindOf_49 : decode bP_isKindOf 49 = .ok (.goto 4, 3) := by decide +kernel
theorem dP_isKindOf_52 : decode bP_isKindOf 52 = .ok (.iconst 0, 1) := by decide +kernel
theorem dP_isKindOf_53 : decode bP_isKindOf 53 = .ok (.ireturn, 1) := by decide +kernel
theorem dP_isKindOf_54 : decode bP_isKindOf 54 = .ok (.iload_n 1, 1) := by decide +kernel
theorem dP_isKindOf_55 : decode bP_isKindOf 55 = .ok (.iconst 2, 1) := by decide +kernel
theorem dP_isKindOf_56 : decode bP_isKindOf 56 = .ok (.if_icmp .lt 12, 3) := by decide +kernel
theorem dP_isKindOf_59 : decode bP_isKindOf 59 = .ok (.iload_n 1, 1) := by decide +kernel
theorem dP_isKindOf_60 : decode bP_isKindOf 60 = .ok (.iconst 5, 1) := by decide +kernel
theorem dP_isKindOf_61 : decode bP_isKindOf 61 = .ok (.if_icmp .gt 7, 3) := by decide +kernel
theorem dP_isKindOf_64 : decode bP_isKindOf 64 = .ok (.iconst 1, 1) := by decide +kernel
theorem dP_isKindOf_65 : decode bP_isKindOf 65 = .ok (.goto 4, 3) := by decide +kernel
theorem dP_isKindOf_68 : decode bP_isKindOf 68 = .ok (.iconst 0, 1) := by decide +kernel
theorem dP_isKindOf_69 : decode bP_isKindOf 69 = .ok (.ireturn, 1) := by decide +kernel
theorem dP_isKindOf_70 : decode bP_isKindOf 70 = .ok (.iconst 0, 1) := by decide +kernel
theorem dP_isKindOf_71 : decode bP_isKindOf 71 = .ok (.ireturn, 1) := by decide +kernel
theorem dS_init_0 : decode bS_init 0 = .ok (.aload_n 0, 1) := by decide +kernel
theorem dS_init_1 : decode bS_init 1 = .ok (.invokespecial 3, 3) := by decide +kernel
theorem dS_init_4 : decode bS_init 4 = .ok (.aload_n 0, 1) := by decide +kernel
theorem dS_init_5 : decode bS_init 5 = .ok (.bipush 26, 2) := by decide +kernel
theorem dS_init_7 : decode bS_init 7 = .ok (.newarray .int, 2) := by decide +kernel
theorem dS_init_9 : decode bS_init 9 = .ok (.putfield 9, 3) := by decide +kernel
theorem dS_init_12 : decode bS_init 12 = .ok (.aload_n 0, 1) := by decide +kernel
theorem dS_init_13 : decode bS_init 13 = .ok (.bipush 26, 2) := by decide +kernel
theorem dS_init_15 : decode bS_init 15 = .ok (.newarray .boolean, 2) := by decide +kernel
theorem dS_init_17 : decode bS_init 17 = .ok (.putfield 15, 3) := by decide +kernel
theorem dS_init_20 : decode bS_init 20 = .ok (.aload_n 0, 1) := by decide +kernel
theorem dS_init_21 : decode bS_init 21 = .ok (.sipush 130, 3) := by decide +kernel
theorem dS_init_24 : decode bS_init 24 = .ok (.newarray .int, 2) := by decide +kernel
theorem dS_init_26 : decode bS_init 26 = .ok (.putfield 19, 3) := by decide +kernel
theorem dS_init_29 : decode bS_init 29 = .ok (.aload_n 0, 1) := by decide +kernel
theorem dS_init_30 : decode bS_init 30 = .ok (.iload_n 1, 1) := by decide +kernel
theorem dS_init_31 : decode bS_init 31 = .ok (.putfield 22, 3) := by decide +kernel
theorem dS_init_34 : decode bS_init 34 = .ok (.aload_n 0, 1) := by decide +kernel
theorem dS_init_35 : decode bS_init 35 = .ok (.iload_n 2, 1) := by decide +kernel
theorem dS_init_36 : decode bS_init 36 = .ok (.putfield 26, 3) := by decide +kernel
theorem dS_init_39 : decode bS_init 39 = .ok (.return_, 1) := by decide +kernel
theorem dP_giveOrders_0 : decode bP_giveOrders 0 = .ok (.aload_n 1, 1) := by decide +kernel
theorem dP_giveOrders_1 : decode bP_giveOrders 1 = .ok (.invokestatic 160, 3) := by decide +kernel
theorem dP_giveOrders_4 : decode bP_giveOrders 4 = .ok (.istore_n 3, 1) := by decide +kernel
theorem dP_giveOrders_5 : decode bP_giveOrders 5 = .ok (.iconst 0, 1) := by decide +kernel
theorem dP_giveOrders_6 : decode bP_giveOrders 6 = .ok (.istore 4, 2) := by decide +kernel
theorem dP_giveOrders_8 : decode bP_giveOrders 8 = .ok (.iconst 0, 1) := by decide +kernel
theorem dP_giveOrders_9 : decode bP_giveOrders 9 = .ok (.istore 5, 2) := by decide +kernel
theorem dP_giveOrders_11 : decode bP_giveOrders 11 = .ok (.aload_n 0, 1) := by decide +kernel
theorem dP_giveOrders_12 : decode bP_giveOrders 12 = .ok (.iload_n 3, 1) := by decide +kernel
theorem dP_giveOrders_13 : decode bP_giveOrders 13 = .ok (.iload_n 2, 1) := by decide +kernel
theorem dP_giveOrders_14 : decode bP_giveOrders 14 = .ok (.iload 4, 2) := by decide +kernel
theorem dP_giveOrders_16 : decode bP_giveOrders 16 = .ok (.invokevirtual 163, 3) := by decide +kernel
theorem dP_giveOrders_19 : decode bP_giveOrders 19 = .ok (.iconst 0, 1) := by decide +kernel
theorem dP_giveOrders_20 : decode bP_giveOrders 20 = .ok (.istore 6, 2) := by decide +kernel
theorem dP_giveOrders_22 : decode bP_giveOrders 22 = .ok (.iload 6, 2) := by decide +kernel
theorem dP_giveOrders_24 : decode bP_giveOrders 24 = .ok (.bipush 26, 2) := by decide +kernel
theorem dP_giveOrders_26 : decode bP_giveOrders 26 = .ok (.if_icmp .ge 46, 3) := by decide +kernel
theorem dP_giveOrders_29 : decode bP_giveOrders 29 = .ok (.iload 5, 2) := by decide +kernel
theorem dP_giveOrders_31 : decode bP_giveOrders 31 = .ok (.iload_n 3, 1) := by decide +kernel
theorem dP_giveOrders_32 : decode bP_giveOrders 32 = .ok (.if_icmp .lt 17, 3) := by decide +kernel
theorem dP_giveOrders_35 : decode bP_giveOrders 35 = .ok (.iinc 4 1, 3) := by decide +kernel
theorem dP_giveOrders_38 : decode bP_giveOrders 38 = .ok (.iconst 0, 1) := by decide +kernel
theorem dP_giveOrders_39 : decode bP_giveOrders 39 = .ok (.istore 5, 2) := by decide +kernel
theorem dP_giveOrders_41 : decode bP_giveOrders 41 = .ok (.aload_n 0, 1) := by decide +kernel
theorem dP_giveOrders_42 : decode bP_giveOrders 42 = .ok (.iload_n 3, 1) := by decide +kernel
theorem dP_giveOrders_43 : decode bP_giveOrders 43 = .ok (.iload_n 2, 1) := by decide +kernel
theorem dP_giveOrders_44 : decode bP_giveOrders 44 = .ok (.iload 4, 2) := by decide +kernel
theorem dP_giveOrders_46 : decode bP_giveOrders 46 = .ok (.invokevirtual 163, 3) := by decide +kernel
theorem dP_giveOrders_49 : decode bP_giveOrders 49 = .ok (.aload_n 1, 1) := by decide +kernel
theorem dP_giveOrders_50 : decode bP_giveOrders 50 = .ok (.getfield 64, 3) := by decide +kernel
theorem dP_giveOrders_53 : decode bP_giveOrders 53 = .ok (.iload 6, 2) := by decide +kernel
theorem dP_giveOrders_55 : decode bP_giveOrders 55 = .ok (.aload_n 0, 1) := by decide +kernel
theorem dP_giveOrders_56 : decode bP_giveOrders 56 = .ok (.getfield 21, 3) := by decide +kernel
theorem dP_giveOrders_59 : decode bP_giveOrders 59 = .ok (.iload 5, 2) := by decide +kernel
theorem dP_giveOrders_61 : decode bP_giveOrders 61 = .ok (.iaload, 1) := by decide +kernel
theorem dP_giveOrders_62 : decode bP_giveOrders 62 = .ok (.iastore, 1) := by decide +kernel
theorem dP_giveOrders_63 : decode bP_giveOrders 63 = .ok (.iinc 5 1, 3) := by decide +kernel
theorem dP_giveOrders_66 : decode bP_giveOrders 66 = .ok (.iinc 6 1, 3) := by decide +kernel
theorem dP_giveOrders_69 : decode bP_giveOrders 69 = .ok (.goto (-47), 3) := by decide +kernel
theorem dP_giveOrders_72 : decode bP_giveOrders 72 = .ok (.return_, 1) := by decide +kernel
theorem dP_orderCount_0 : decode bP_orderCount 0 = .ok (.aload_n 0, 1) := by decide +kernel
theorem dP_orderCount_1 : decode bP_orderCount 1 = .ok (.getfield 85, 3) := by decide +kernel
theorem dP_orderCount_4 : decode bP_orderCount 4 = .ok (.tableswitch 35 0 2 #[28, 31, 33], 28) := by decide +kernel
theorem dP_orderCount_32 : decode bP_orderCount 32 = .ok (.bipush 6, 2) := by decide +kernel
theorem dP_orderCount_34 : decode bP_orderCount 34 = .ok (.ireturn, 1) := by decide +kernel
theorem dP_orderCount_35 : decode bP_orderCount 35 = .ok (.iconst 2, 1) := by decide +kernel
theorem dP_orderCount_36 : decode bP_orderCount 36 = .ok (.ireturn, 1) := by decide +kernel
theorem dP_orderCount_37 : decode bP_orderCount 37 = .ok (.iconst 4, 1) := by decide +kernel
theorem dP_orderCount_38 : decode bP_orderCount 38 = .ok (.ireturn, 1) := by decide +kernel
theorem dP_orderCount_39 : decode bP_orderCount 39 = .ok (.getstatic 157, 3) := by decide +kernel
theorem dP_orderCount_42 : decode bP_orderCount 42 = .ok (.aload_n 0, 1) := by decide +kernel
theorem dP_orderCount_43 : decode bP_orderCount 43 = .ok (.getfield 74, 3) := by decide +kernel
theorem dP_orderCount_46 : decode bP_orderCount 46 = .ok (.iaload, 1) := by decide +kernel
theorem dP_orderCount_47 : decode bP_orderCount 47 = .ok (.ireturn, 1) := by decide +kernel
theorem dP_mixOrders_0 : decode bP_mixOrders 0 = .ok (.iconst 0, 1) := by decide +kernel
theorem dP_mixOrders_1 : decode bP_mixOrders 1 = .ok (.istore 4, 2) := by decide +kernel
theorem dP_mixOrders_3 : decode bP_mixOrders 3 = .ok (.iload 4, 2) := by decide +kernel
theorem dP_mixOrders_5 : decode bP_mixOrders 5 = .ok (.iload_n 1, 1) := by decide +kernel
theorem dP_mixOrders_6 : decode bP_mixOrders 6 = .ok (.if_icmp .ge 18, 3) := by decide +kernel
theorem dP_mixOrders_9 : decode bP_mixOrders 9 = .ok (.aload_n 0, 1) := by decide +kernel
theorem dP_mixOrders_10 : decode bP_mixOrders 10 = .ok (.getfield 21, 3) := by decide +kernel
theorem dP_mixOrders_13 : decode bP_mixOrders 13 = .ok (.iload 4, 2) := by decide +kernel
theorem dP_mixOrders_15 : decode bP_mixOrders 15 = .ok (.iload 4, 2) := by decide +kernel
theorem dP_mixOrders_17 : decode bP_mixOrders 17 = .ok (.iastore, 1) := by decide +kernel
theorem dP_mixOrders_18 : decode bP_mixOrders 18 = .ok (.iinc 4 1, 3) := by decide +kernel
theorem dP_mixOrders_21 : decode bP_mixOrders 21 = .ok (.goto (-18), 3) := by decide +kernel
theorem dP_mixOrders_24 : decode bP_mixOrders 24 = .ok (.aload_n 0, 1) := by decide +kernel
theorem dP_mixOrders_25 : decode bP_mixOrders 25 = .ok (.getfield 29, 3) := by decide +kernel
theorem dP_mixOrders_28 : decode bP_mixOrders 28 = .ok (.ldc2_w 167, 3) := by decide +kernel
theorem dP_mixOrders_31 : decode bP_mixOrders 31 = .ok (.iload_n 2, 1) := by decide +kernel
theorem dP_mixOrders_32 : decode bP_mixOrders 32 = .ok (.i2l, 1) := by decide +kernel
theorem dP_mixOrders_33 : decode bP_mixOrders 33 = .ok (.lmul, 1) := by decide +kernel
theorem dP_mixOrders_34 : decode bP_mixOrders 34 = .ok (.ladd, 1) := by decide +kernel
theorem dP_mixOrders_35 : decode bP_mixOrders 35 = .ok (.ldc2_w 169, 3) := by decide +kernel
theorem dP_mixOrders_38 : decode bP_mixOrders 38 = .ok (.iload_n 3, 1) := by decide +kernel
theorem dP_mixOrders_39 : decode bP_mixOrders 39 = .ok (.i2l, 1) := by decide +kernel
theorem dP_mixOrders_40 : decode bP_mixOrders 40 = .ok (.lmul, 1) := by decide +kernel
theorem dP_mixOrders_41 : decode bP_mixOrders 41 = .ok (.ladd, 1) := by decide +kernel
theorem dP_mixOrders_42 : decode bP_mixOrders 42 = .ok (.lstore 4, 2) := by decide +kernel
theorem dP_mixOrders_44 : decode bP_mixOrders 44 = .ok (.iload_n 1, 1) := by decide +kernel
theorem dP_mixOrders_45 : decode bP_mixOrders 45 = .ok (.iconst 1, 1) := by decide +kernel
theorem dP_mixOrders_46 : decode bP_mixOrders 46 = .ok (.isub, 1) := by decide +kernel
theorem dP_mixOrders_47 : decode bP_mixOrders 47 = .ok (.istore 6, 2) := by decide +kernel
theorem dP_mixOrders_49 : decode bP_mixOrders 49 = .ok (.iload 6, 2) := by decide +kernel
theorem dP_mixOrders_51 : decode bP_mixOrders 51 = .ok (.iconst 1, 1) := by decide +kernel
theorem dP_mixOrders_52 : decode bP_mixOrders 52 = .ok (.if_icmp .lt 67, 3) := by decide +kernel
theorem dP_mixOrders_55 : decode bP_mixOrders 55 = .ok (.lload 4, 2) := by decide +kernel
theorem dP_mixOrders_57 : decode bP_mixOrders 57 = .ok (.ldc2_w 171, 3) := by decide +kernel
theorem dP_mixOrders_60 : decode bP_mixOrders 60 = .ok (.lmul, 1) := by decide +kernel
theorem dP_mixOrders_61 : decode bP_mixOrders 61 = .ok (.ldc2_w 173, 3) := by decide +kernel
theorem dP_mixOrders_64 : decode bP_mixOrders 64 = .ok (.ladd, 1) := by decide +kernel
theorem dP_mixOrders_65 : decode bP_mixOrders 65 = .ok (.lstore 4, 2) := by decide +kernel
theorem dP_mixOrders_67 : decode bP_mixOrders 67 = .ok (.lload 4, 2) := by decide +kernel
theorem dP_mixOrders_69 : decode bP_mixOrders 69 = .ok (.bipush 33, 2) := by decide +kernel
theorem dP_mixOrders_71 : decode bP_mixOrders 71 = .ok (.lushr, 1) := by decide +kernel
theorem dP_mixOrders_72 : decode bP_mixOrders 72 = .ok (.iload 6, 2) := by decide +kernel
theorem dP_mixOrders_74 : decode bP_mixOrders 74 = .ok (.iconst 1, 1) := by decide +kernel
theorem dP_mixOrders_75 : decode bP_mixOrders 75 = .ok (.iadd, 1) := by decide +kernel
theorem dP_mixOrders_76 : decode bP_mixOrders 76 = .ok (.i2l, 1) := by decide +kernel
theorem dP_mixOrders_77 : decode bP_mixOrders 77 = .ok (.lrem, 1) := by decide +kernel
theorem dP_mixOrders_78 : decode bP_mixOrders 78 = .ok (.l2i, 1) := by decide +kernel
theorem dP_mixOrders_79 : decode bP_mixOrders 79 = .ok (.istore 7, 2) := by decide +kernel
theorem dP_mixOrders_81 : decode bP_mixOrders 81 = .ok (.aload_n 0, 1) := by decide +kernel
theorem dP_mixOrders_82 : decode bP_mixOrders 82 = .ok (.getfield 21, 3) := by decide +kernel
theorem dP_mixOrders_85 : decode bP_mixOrders 85 = .ok (.iload 6, 2) := by decide +kernel
theorem dP_mixOrders_87 : decode bP_mixOrders 87 = .ok (.iaload, 1) := by decide +kernel
theorem dP_mixOrders_88 : decode bP_mixOrders 88 = .ok (.istore 8, 2) := by decide +kernel
theorem dP_mixOrders_90 : decode bP_mixOrders 90 = .ok (.aload_n 0, 1) := by decide +kernel
theorem dP_mixOrders_91 : decode bP_mixOrders 91 = .ok (.getfield 21, 3) := by decide +kernel
theorem dP_mixOrders_94 : decode bP_mixOrders 94 = .ok (.iload 6, 2) := by decide +kernel
theorem dP_mixOrders_96 : decode bP_mixOrders 96 = .ok (.aload_n 0, 1) := by decide +kernel
theorem dP_mixOrders_97 : decode bP_mixOrders 97 = .ok (.getfield 21, 3) := by decide +kernel
theorem dP_mixOrders_100 : decode bP_mixOrders 100 = .ok (.iload 7, 2) := by decide +kernel
theorem dP_mixOrders_102 : decode bP_mixOrders 102 = .ok (.iaload, 1) := by decide +kernel
theorem dP_mixOrders_103 : decode bP_mixOrders 103 = .ok (.iastore, 1) := by decide +kernel
theorem dP_mixOrders_104 : decode bP_mixOrders 104 = .ok (.aload_n 0, 1) := by decide +kernel
theorem dP_mixOrders_105 : decode bP_mixOrders 105 = .ok (.getfield 21, 3) := by decide +kernel
theorem dP_mixOrders_108 : decode bP_mixOrders 108 = .ok (.iload 7, 2) := by decide +kernel
theorem dP_mixOrders_110 : decode bP_mixOrders 110 = .ok (.iload 8, 2) := by decide +kernel
theorem dP_mixOrders_112 : decode bP_mixOrders 112 = .ok (.iastore, 1) := by decide +kernel
theorem dP_mixOrders_113 : decode bP_mixOrders 113 = .ok (.iinc 6 (-1), 3) := by decide +kernel
theorem dP_mixOrders_116 : decode bP_mixOrders 116 = .ok (.goto (-67), 3) := by decide +kernel
theorem dP_mixOrders_119 : decode bP_mixOrders 119 = .ok (.return_, 1) := by decide +kernel
theorem dP_order_0 : decode bP_order 0 = .ok (.aload_n 0, 1) := by decide +kernel
theorem dP_order_1 : decode bP_order 1 = .ok (.iload_n 1, 1) := by decide +kernel
theorem dP_order_2 : decode bP_order 2 = .ok (.invokevirtual 52, 3) := by decide +kernel
theorem dP_order_5 : decode bP_order 5 = .ok (.astore 4, 2) := by decide +kernel
theorem dP_order_7 : decode bP_order 7 = .ok (.aload 4, 2) := by decide +kernel
theorem dP_order_9 : decode bP_order 9 = .ok (.ifnull 24, 3) := by decide +kernel
theorem dP_order_12 : decode bP_order 12 = .ok (.aload_n 0, 1) := by decide +kernel
theorem dP_order_13 : decode bP_order 13 = .ok (.iload_n 2, 1) := by decide +kernel
theorem dP_order_14 : decode bP_order 14 = .ok (.invokevirtual 56, 3) := by decide +kernel
theorem dP_order_17 : decode bP_order 17 = .ok (.ifnull 16, 3) := by decide +kernel
theorem dP_order_20 : decode bP_order 20 = .ok (.iload_n 3, 1) := by decide +kernel
theorem dP_order_21 : decode bP_order 21 = .ok (.ifCond .lt 12, 3) := by decide +kernel
theorem dP_order_24 : decode bP_order 24 = .ok (.iload_n 3, 1) := by decide +kernel
theorem dP_order_25 : decode bP_order 25 = .ok (.aload 4, 2) := by decide +kernel
theorem dP_order_27 : decode bP_order 27 = .ok (.invokestatic 60, 3) := by decide +kernel
theorem dP_order_30 : decode bP_order 30 = .ok (.if_icmp .lt 5, 3) := by decide +kernel
theorem dP_order_33 : decode bP_order 33 = .ok (.iconst (-1), 1) := by decide +kernel
theorem dP_order_34 : decode bP_order 34 = .ok (.ireturn, 1) := by decide +kernel
theorem dP_order_35 : decode bP_order 35 = .ok (.aload 4, 2) := by decide +kernel
theorem dP_order_37 : decode bP_order 37 = .ok (.aload 4, 2) := by decide +kernel
theorem dP_order_39 : decode bP_order 39 = .ok (.getfield 64, 3) := by decide +kernel
theorem dP_order_42 : decode bP_order 42 = .ok (.iload_n 2, 1) := by decide +kernel
theorem dP_order_43 : decode bP_order 43 = .ok (.iaload, 1) := by decide +kernel
theorem dP_order_44 : decode bP_order 44 = .ok (.iload_n 3, 1) := by decide +kernel
theorem dP_order_45 : decode bP_order 45 = .ok (.invokestatic 67, 3) := by decide +kernel
theorem dP_order_48 : decode bP_order 48 = .ok (.ireturn, 1) := by decide +kernel
theorem dP_testAt_0 : decode bP_testAt 0 = .ok (.iload_n 1, 1) := by decide +kernel
theorem dP_testAt_1 : decode bP_testAt 1 = .ok (.ifCond .lt 9, 3) := by decide +kernel
theorem dP_testAt_4 : decode bP_testAt 4 = .ok (.iload_n 1, 1) := by decide +kernel
theorem dP_testAt_5 : decode bP_testAt 5 = .ok (.bipush 40, 2) := by decide +kernel
theorem dP_testAt_7 : decode bP_testAt 7 = .ok (.if_icmp .lt 7, 3) := by decide +kernel
theorem dP_testAt_10 : decode bP_testAt 10 = .ok (.aconst_null, 1) := by decide +kernel
theorem dP_testAt_11 : decode bP_testAt 11 = .ok (.goto 9, 3) := by decide +kernel
theorem dP_testAt_14 : decode bP_testAt 14 = .ok (.aload_n 0, 1) := by decide +kernel
theorem dP_testAt_15 : decode bP_testAt 15 = .ok (.getfield 17, 3) := by decide +kernel
theorem dP_testAt_18 : decode bP_testAt 18 = .ok (.iload_n 1, 1) := by decide +kernel
theorem dP_testAt_19 : decode bP_testAt 19 = .ok (.aaload, 1) := by decide +kernel
theorem dP_testAt_20 : decode bP_testAt 20 = .ok (.areturn, 1) := by decide +kernel
theorem dP_tasterAt_0 : decode bP_tasterAt 0 = .ok (.iload_n 1, 1) := by decide +kernel
theorem dP_tasterAt_1 : decode bP_tasterAt 1 = .ok (.ifCond .lt 9, 3) := by decide +kernel
theorem dP_tasterAt_4 : decode bP_tasterAt 4 = .ok (.iload_n 1, 1) := by decide +kernel
theorem dP_tasterAt_5 : decode bP_tasterAt 5 = .ok (.bipush 26, 2) := by decide +kernel
theorem dP_tasterAt_7 : decode bP_tasterAt 7 = .ok (.if_icmp .lt 7, 3) := by decide +kernel
theorem dP_tasterAt_10 : decode bP_tasterAt 10 = .ok (.aconst_null, 1) := by decide +kernel
theorem dP_tasterAt_11 : decode bP_tasterAt 11 = .ok (.goto 9, 3) := by decide +kernel
theorem dP_tasterAt_14 : decode bP_tasterAt 14 = .ok (.aload_n 0, 1) := by decide +kernel
theorem dP_tasterAt_15 : decode bP_tasterAt 15 = .ok (.getfield 11, 3) := by decide +kernel
theorem dP_tasterAt_18 : decode bP_tasterAt 18 = .ok (.iload_n 1, 1) := by decide +kernel
theorem dP_tasterAt_19 : decode bP_tasterAt 19 = .ok (.aaload, 1) := by decide +kernel
theorem dP_tasterAt_20 : decode bP_tasterAt 20 = .ok (.areturn, 1) := by decide +kernel
theorem dP_servings_0 : decode bP_servings 0 = .ok (.aload_n 0, 1) := by decide +kernel
theorem dP_servings_1 : decode bP_servings 1 = .ok (.getfield 85, 3) := by decide +kernel
theorem dP_servings_4 : decode bP_servings 4 = .ok (.iconst 2, 1) := by decide +kernel
theorem dP_servings_5 : decode bP_servings 5 = .ok (.if_icmp .ne 7, 3) := by decide +kernel
theorem dP_servings_8 : decode bP_servings 8 = .ok (.iconst 3, 1) := by decide +kernel
theorem dP_servings_9 : decode bP_servings 9 = .ok (.goto 7, 3) := by decide +kernel
theorem dP_servings_12 : decode bP_servings 12 = .ok (.aload_n 0, 1) := by decide +kernel
theorem dP_servings_13 : decode bP_servings 13 = .ok (.getfield 74, 3) := by decide +kernel
theorem dP_servings_16 : decode bP_servings 16 = .ok (.ireturn, 1) := by decide +kernel
theorem dP_served_0 : decode bP_served 0 = .ok (.aload_n 0, 1) := by decide +kernel
theorem dP_served_1 : decode bP_served 1 = .ok (.getfield 85, 3) := by decide +kernel
theorem dP_served_4 : decode bP_served 4 = .ok (.tableswitch 58 0 2 #[28, 38, 48], 28) := by decide +kernel
theorem dP_served_32 : decode bP_served 32 = .ok (.getstatic 175, 3) := by decide +kernel
theorem dP_served_35 : decode bP_served 35 = .ok (.iload_n 1, 1) := by decide +kernel
theorem dP_served_36 : decode bP_served 36 = .ok (.iconst 3, 1) := by decide +kernel
theorem dP_served_37 : decode bP_served 37 = .ok (.imul, 1) := by decide +kernel
theorem dP_served_38 : decode bP_served 38 = .ok (.iload_n 2, 1) := by decide +kernel
theorem dP_served_39 : decode bP_served 39 = .ok (.iadd, 1) := by decide +kernel
theorem dP_served_40 : decode bP_served 40 = .ok (.iaload, 1) := by decide +kernel
theorem dP_served_41 : decode bP_served 41 = .ok (.ireturn, 1) := by decide +kernel
theorem dP_served_42 : decode bP_served 42 = .ok (.getstatic 178, 3) := by decide +kernel
theorem dP_served_45 : decode bP_served 45 = .ok (.iload_n 1, 1) := by decide +kernel
theorem dP_served_46 : decode bP_served 46 = .ok (.iconst 2, 1) := by decide +kernel
theorem dP_served_47 : decode bP_served 47 = .ok (.imul, 1) := by decide +kernel
theorem dP_served_48 : decode bP_served 48 = .ok (.iload_n 2, 1) := by decide +kernel
theorem dP_served_49 : decode bP_served 49 = .ok (.iadd, 1) := by decide +kernel
theorem dP_served_50 : decode bP_served 50 = .ok (.iaload, 1) := by decide +kernel
theorem dP_served_51 : decode bP_served 51 = .ok (.ireturn, 1) := by decide +kernel
theorem dP_served_52 : decode bP_served 52 = .ok (.getstatic 181, 3) := by decide +kernel
theorem dP_served_55 : decode bP_served 55 = .ok (.iload_n 1, 1) := by decide +kernel
theorem dP_served_56 : decode bP_served 56 = .ok (.iconst 3, 1) := by decide +kernel
theorem dP_served_57 : decode bP_served 57 = .ok (.imul, 1) := by decide +kernel
theorem dP_served_58 : decode bP_served 58 = .ok (.iload_n 2, 1) := by decide +kernel
theorem dP_served_59 : decode bP_served 59 = .ok (.iadd, 1) := by decide +kernel
theorem dP_served_60 : decode bP_served 60 = .ok (.iaload, 1) := by decide +kernel
theorem dP_served_61 : decode bP_served 61 = .ok (.ireturn, 1) := by decide +kernel
theorem dP_served_62 : decode bP_served 62 = .ok (.aload_n 0, 1) := by decide +kernel
theorem dP_served_63 : decode bP_served 63 = .ok (.getfield 74, 3) := by decide +kernel
theorem dP_served_66 : decode bP_served 66 = .ok (.iload_n 1, 1) := by decide +kernel
theorem dP_served_67 : decode bP_served 67 = .ok (.iload_n 2, 1) := by decide +kernel
theorem dP_served_68 : decode bP_served 68 = .ok (.invokestatic 184, 3) := by decide +kernel
theorem dP_served_71 : decode bP_served 71 = .ok (.ireturn, 1) := by decide +kernel
theorem dP_sampleInRow_0 : decode bP_sampleInRow 0 = .ok (.iconst 0, 1) := by decide +kernel
theorem dP_sampleInRow_1 : decode bP_sampleInRow 1 = .ok (.istore_n 3, 1) := by decide +kernel
theorem dP_sampleInRow_2 : decode bP_sampleInRow 2 = .ok (.iload_n 1, 1) := by decide +kernel
theorem dP_sampleInRow_3 : decode bP_sampleInRow 3 = .ok (.istore 4, 2) := by decide +kernel
theorem dP_sampleInRow_5 : decode bP_sampleInRow 5 = .ok (.iconst (-1), 1) := by decide +kernel
theorem dP_sampleInRow_6 : decode bP_sampleInRow 6 = .ok (.istore 5, 2) := by decide +kernel
theorem dP_sampleInRow_8 : decode bP_sampleInRow 8 = .ok (.iconst 0, 1) := by decide +kernel
theorem dP_sampleInRow_9 : decode bP_sampleInRow 9 = .ok (.istore 6, 2) := by decide +kernel
theorem dP_sampleInRow_11 : decode bP_sampleInRow 11 = .ok (.iload 6, 2) := by decide +kernel
theorem dP_sampleInRow_13 : decode bP_sampleInRow 13 = .ok (.iload_n 2, 1) := by decide +kernel
theorem dP_sampleInRow_14 : decode bP_sampleInRow 14 = .ok (.if_icmp .gt 52, 3) := by decide +kernel
theorem dP_sampleInRow_17 : decode bP_sampleInRow 17 = .ok (.iload 6, 2) := by decide +kernel
theorem dP_sampleInRow_19 : decode bP_sampleInRow 19 = .ok (.iload_n 0, 1) := by decide +kernel
theorem dP_sampleInRow_20 : decode bP_sampleInRow 20 = .ok (.if_icmp .ge 46, 3) := by decide +kernel
theorem dP_sampleInRow_23 : decode bP_sampleInRow 23 = .ok (.getstatic 157, 3) := by decide +kernel
theorem dP_sampleInRow_26 : decode bP_sampleInRow 26 = .ok (.iload_n 0, 1) := by decide +kernel
theorem dP_sampleInRow_27 : decode bP_sampleInRow 27 = .ok (.iconst 1, 1) := by decide +kernel
theorem dP_sampleInRow_28 : decode bP_sampleInRow 28 = .ok (.isub, 1) := by decide +kernel
theorem dP_sampleInRow_29 : decode bP_sampleInRow 29 = .ok (.iload 6, 2) := by decide +kernel
theorem dP_sampleInRow_31 : decode bP_sampleInRow 31 = .ok (.isub, 1) := by decide +kernel
theorem dP_sampleInRow_32 : decode bP_sampleInRow 32 = .ok (.iaload, 1) := by decide +kernel
theorem dP_sampleInRow_33 : decode bP_sampleInRow 33 = .ok (.istore 7, 2) := by decide +kernel
theorem dP_sampleInRow_35 : decode bP_sampleInRow 35 = .ok (.iload_n 3, 1) := by decide +kernel
theorem dP_sampleInRow_36 : decode bP_sampleInRow 36 = .ok (.iload 4, 2) := by decide +kernel
theorem dP_sampleInRow_38 : decode bP_sampleInRow 38 = .ok (.iload 7, 2) := by decide +kernel
theorem dP_sampleInRow_40 : decode bP_sampleInRow 40 = .ok (.idiv, 1) := by decide +kernel
theorem dP_sampleInRow_41 : decode bP_sampleInRow 41 = .ok (.invokestatic 188, 3) := by decide +kernel
theorem dP_sampleInRow_44 : decode bP_sampleInRow 44 = .ok (.istore 5, 2) := by decide +kernel
theorem dP_sampleInRow_46 : decode bP_sampleInRow 46 = .ok (.iload_n 3, 1) := by decide +kernel
theorem dP_sampleInRow_47 : decode bP_sampleInRow 47 = .ok (.iconst 1, 1) := by decide +kernel
theorem dP_sampleInRow_48 : decode bP_sampleInRow 48 = .ok (.iload 5, 2) := by decide +kernel
theorem dP_sampleInRow_50 : decode bP_sampleInRow 50 = .ok (.ishl, 1) := by decide +kernel
theorem dP_sampleInRow_51 : decode bP_sampleInRow 51 = .ok (.ior, 1) := by decide +kernel
theorem dP_sampleInRow_52 : decode bP_sampleInRow 52 = .ok (.istore_n 3, 1) := by decide +kernel
theorem dP_sampleInRow_53 : decode bP_sampleInRow 53 = .ok (.iload 4, 2) := by decide +kernel
theorem dP_sampleInRow_55 : decode bP_sampleInRow 55 = .ok (.iload 7, 2) := by decide +kernel
theorem dP_sampleInRow_57 : decode bP_sampleInRow 57 = .ok (.irem, 1) := by decide +kernel
theorem dP_sampleInRow_58 : decode bP_sampleInRow 58 = .ok (.istore 4, 2) := by decide +kernel
theorem dP_sampleInRow_60 : decode bP_sampleInRow 60 = .ok (.iinc 6 1, 3) := by decide +kernel
theorem dP_sampleInRow_63 : decode bP_sampleInRow 63 = .ok (.goto (-52), 3) := by decide +kernel
theorem dP_sampleInRow_66 : decode bP_sampleInRow 66 = .ok (.iload 5, 2) := by decide +kernel
theorem dP_sampleInRow_68 : decode bP_sampleInRow 68 = .ok (.ireturn, 1) := by decide +kernel
theorem dP_unusedSample_0 : decode bP_unusedSample 0 = .ok (.iload_n 1, 1) := by decide +kernel
theorem dP_unusedSample_1 : decode bP_unusedSample 1 = .ok (.istore_n 2, 1) := by decide +kernel
theorem dP_unusedSample_2 : decode bP_unusedSample 2 = .ok (.iconst 0, 1) := by decide +kernel
theorem dP_unusedSample_3 : decode bP_unusedSample 3 = .ok (.istore_n 3, 1) := by decide +kernel
theorem dP_unusedSample_4 : decode bP_unusedSample 4 = .ok (.iload_n 3, 1) := by decide +kernel
theorem dP_unusedSample_5 : decode bP_unusedSample 5 = .ok (.iconst 5, 1) := by decide +kernel
theorem dP_unusedSample_6 : decode bP_unusedSample 6 = .ok (.if_icmp .ge 26, 3) := by decide +kernel
theorem dP_unusedSample_9 : decode bP_unusedSample 9 = .ok (.iload_n 0, 1) := by decide +kernel
theorem dP_unusedSample_10 : decode bP_unusedSample 10 = .ok (.iload_n 3, 1) := by decide +kernel
theorem dP_unusedSample_11 : decode bP_unusedSample 11 = .ok (.ishr, 1) := by decide +kernel
theorem dP_unusedSample_12 : decode bP_unusedSample 12 = .ok (.iconst 1, 1) := by decide +kernel
theorem dP_unusedSample_13 : decode bP_unusedSample 13 = .ok (.iand, 1) := by decide +kernel
theorem dP_unusedSample_14 : decode bP_unusedSample 14 = .ok (.ifCond .ne 12, 3) := by decide +kernel
theorem dP_unusedSample_17 : decode bP_unusedSample 17 = .ok (.iload_n 2, 1) := by decide +kernel
theorem dP_unusedSample_18 : decode bP_unusedSample 18 = .ok (.ifCond .ne 5, 3) := by decide +kernel
theorem dP_unusedSample_21 : decode bP_unusedSample 21 = .ok (.iload_n 3, 1) := by decide +kernel
theorem dP_unusedSample_22 : decode bP_unusedSample 22 = .ok (.ireturn, 1) := by decide +kernel
theorem dP_unusedSample_23 : decode bP_unusedSample 23 = .ok (.iinc 2 (-1), 3) := by decide +kernel
theorem dP_unusedSample_26 : decode bP_unusedSample 26 = .ok (.iinc 3 1, 3) := by decide +kernel
theorem dP_unusedSample_29 : decode bP_unusedSample 29 = .ok (.goto (-25), 3) := by decide +kernel
theorem dP_unusedSample_32 : decode bP_unusedSample 32 = .ok (.iconst (-1), 1) := by decide +kernel
theorem dP_unusedSample_33 : decode bP_unusedSample 33 = .ok (.ireturn, 1) := by decide +kernel
theorem dP_answer_0 : decode bP_answer 0 = .ok (.aload_n 0, 1) := by decide +kernel
theorem dP_answer_1 : decode bP_answer 1 = .ok (.iload_n 1, 1) := by decide +kernel
theorem dP_answer_2 : decode bP_answer 2 = .ok (.invokevirtual 71, 3) := by decide +kernel
theorem dP_answer_5 : decode bP_answer 5 = .ok (.astore 4, 2) := by decide +kernel
theorem dP_answer_7 : decode bP_answer 7 = .ok (.aload_n 0, 1) := by decide +kernel
theorem dP_answer_8 : decode bP_answer 8 = .ok (.iload_n 2, 1) := by decide +kernel
theorem dP_answer_9 : decode bP_answer 9 = .ok (.invokevirtual 56, 3) := by decide +kernel
theorem dP_answer_12 : decode bP_answer 12 = .ok (.astore 5, 2) := by decide +kernel
theorem dP_answer_14 : decode bP_answer 14 = .ok (.aload 4, 2) := by decide +kernel
theorem dP_answer_16 : decode bP_answer 16 = .ok (.ifnull 31, 3) := by decide +kernel
theorem dP_answer_19 : decode bP_answer 19 = .ok (.aload 5, 2) := by decide +kernel
theorem dP_answer_21 : decode bP_answer 21 = .ok (.ifnull 26, 3) := by decide +kernel
theorem dP_answer_24 : decode bP_answer 24 = .ok (.iload_n 3, 1) := by decide +kernel
theorem dP_answer_25 : decode bP_answer 25 = .ok (.ifCond .lt 22, 3) := by decide +kernel
theorem dP_answer_28 : decode bP_answer 28 = .ok (.iload_n 3, 1) := by decide +kernel
theorem dP_answer_29 : decode bP_answer 29 = .ok (.aload 4, 2) := by decide +kernel
theorem dP_answer_31 : decode bP_answer 31 = .ok (.getfield 74, 3) := by decide +kernel
theorem dP_answer_34 : decode bP_answer 34 = .ok (.if_icmp .ge 13, 3) := by decide +kernel
theorem dP_answer_37 : decode bP_answer 37 = .ok (.aload 4, 2) := by decide +kernel
theorem dP_answer_39 : decode bP_answer 39 = .ok (.getfield 77, 3) := by decide +kernel
theorem dP_answer_42 : decode bP_answer 42 = .ok (.iload_n 2, 1) := by decide +kernel
theorem dP_answer_43 : decode bP_answer 43 = .ok (.baload, 1) := by decide +kernel
theorem dP_answer_44 : decode bP_answer 44 = .ok (.ifCond .eq 5, 3) := by decide +kernel
theorem dP_answer_47 : decode bP_answer 47 = .ok (.iconst 0, 1) := by decide +kernel
theorem dP_answer_48 : decode bP_answer 48 = .ok (.ireturn, 1) := by decide +kernel
theorem dP_answer_49 : decode bP_answer 49 = .ok (.aload 4, 2) := by decide +kernel
theorem dP_answer_51 : decode bP_answer 51 = .ok (.getfield 77, 3) := by decide +kernel
theorem dP_answer_54 : decode bP_answer 54 = .ok (.iload_n 2, 1) := by decide +kernel
theorem dP_answer_55 : decode bP_answer 55 = .ok (.iconst 1, 1) := by decide +kernel
theorem dP_answer_56 : decode bP_answer 56 = .ok (.bastore, 1) := by decide +kernel
theorem dP_answer_57 : decode bP_answer 57 = .ok (.aload 4, 2) := by decide +kernel
theorem dP_answer_59 : decode bP_answer 59 = .ok (.dup, 1) := by decide +kernel
theorem dP_answer_60 : decode bP_answer 60 = .ok (.getfield 81, 3) := by decide +kernel
theorem dP_answer_63 : decode bP_answer 63 = .ok (.iconst 1, 1) := by decide +kernel
theorem dP_answer_64 : decode bP_answer 64 = .ok (.iadd, 1) := by decide +kernel
theorem dP_answer_65 : decode bP_answer 65 = .ok (.putfield 81, 3) := by decide +kernel
theorem dP_answer_68 : decode bP_answer 68 = .ok (.aload 5, 2) := by decide +kernel
theorem dP_answer_70 : decode bP_answer 70 = .ok (.dup, 1) := by decide +kernel
theorem dP_answer_71 : decode bP_answer 71 = .ok (.getfield 84, 3) := by decide +kernel
theorem dP_answer_74 : decode bP_answer 74 = .ok (.iconst 1, 1) := by decide +kernel
theorem dP_answer_75 : decode bP_answer 75 = .ok (.iadd, 1) := by decide +kernel
theorem dP_answer_76 : decode bP_answer 76 = .ok (.putfield 84, 3) := by decide +kernel
theorem dP_answer_79 : decode bP_answer 79 = .ok (.iload_n 3, 1) := by decide +kernel
theorem dP_answer_80 : decode bP_answer 80 = .ok (.aload 4, 2) := by decide +kernel
theorem dP_answer_82 : decode bP_answer 82 = .ok (.getfield 85, 3) := by decide +kernel
theorem dP_answer_85 : decode bP_answer 85 = .ok (.aload 4, 2) := by decide +kernel
theorem dP_answer_87 : decode bP_answer 87 = .ok (.getfield 64, 3) := by decide +kernel
theorem dP_answer_90 : decode bP_answer 90 = .ok (.iload_n 2, 1) := by decide +kernel
theorem dP_answer_91 : decode bP_answer 91 = .ok (.iaload, 1) := by decide +kernel
theorem dP_answer_92 : decode bP_answer 92 = .ok (.invokestatic 88, 3) := by decide +kernel
theorem dP_answer_95 : decode bP_answer 95 = .ok (.if_icmp .ne 25, 3) := by decide +kernel
theorem dP_answer_98 : decode bP_answer 98 = .ok (.aload 4, 2) := by decide +kernel
theorem dP_answer_100 : decode bP_answer 100 = .ok (.dup, 1) := by decide +kernel
theorem dP_answer_101 : decode bP_answer 101 = .ok (.getfield 92, 3) := by decide +kernel
theorem dP_answer_104 : decode bP_answer 104 = .ok (.iconst 1, 1) := by decide +kernel
theorem dP_answer_105 : decode bP_answer 105 = .ok (.iadd, 1) := by decide +kernel
theorem dP_answer_106 : decode bP_answer 106 = .ok (.putfield 92, 3) := by decide +kernel
theorem dP_answer_109 : decode bP_answer 109 = .ok (.aload 5, 2) := by decide +kernel
theorem dP_answer_111 : decode bP_answer 111 = .ok (.dup, 1) := by decide +kernel
theorem dP_answer_112 : decode bP_answer 112 = .ok (.getfield 95, 3) := by decide +kernel
theorem dP_answer_115 : decode bP_answer 115 = .ok (.iconst 1, 1) := by decide +kernel
theorem dP_answer_116 : decode bP_answer 116 = .ok (.iadd, 1) := by decide +kernel
theorem dP_answer_117 : decode bP_answer 117 = .ok (.putfield 95, 3) := by decide +kernel
theorem dP_answer_120 : decode bP_answer 120 = .ok (.iconst 1, 1) := by decide +kernel
theorem dP_answer_121 : decode bP_answer 121 = .ok (.ireturn, 1) := by decide +kernel
theorem dP_differenceAt_0 : decode bP_differenceAt 0 = .ok (.aload_n 0, 1) := by decide +kernel
theorem dP_differenceAt_1 : decode bP_differenceAt 1 = .ok (.iload_n 1, 1) := by decide +kernel
theorem dP_differenceAt_2 : decode bP_differenceAt 2 = .ok (.invokevirtual 52, 3) := by decide +kernel
theorem dP_differenceAt_5 : decode bP_differenceAt 5 = .ok (.astore_n 2, 1) := by decide +kernel
theorem dP_differenceAt_6 : decode bP_differenceAt 6 = .ok (.aload_n 2, 1) := by decide +kernel
theorem dP_differenceAt_7 : decode bP_differenceAt 7 = .ok (.ifnull 11, 3) := by decide +kernel
theorem dP_differenceAt_10 : decode bP_differenceAt 10 = .ok (.aload_n 2, 1) := by decide +kernel
theorem dP_differenceAt_11 : decode bP_differenceAt 11 = .ok (.getfield 85, 3) := by decide +kernel
theorem dP_differenceAt_14 : decode bP_differenceAt 14 = .ok (.iconst 3, 1) := by decide +kernel
theorem dP_differenceAt_15 : decode bP_differenceAt 15 = .ok (.if_icmp .ne 7, 3) := by decide +kernel
theorem dP_differenceAt_18 : decode bP_differenceAt 18 = .ok (.aconst_null, 1) := by decide +kernel
theorem dP_differenceAt_19 : decode bP_differenceAt 19 = .ok (.goto 4, 3) := by decide +kernel
theorem dP_differenceAt_22 : decode bP_differenceAt 22 = .ok (.aload_n 2, 1) := by decide +kernel
theorem dP_differenceAt_23 : decode bP_differenceAt 23 = .ok (.areturn, 1) := by decide +kernel
theorem dP_rightPlace_0 : decode bP_rightPlace 0 = .ok (.iload_n 0, 1) := by decide +kernel
theorem dP_rightPlace_1 : decode bP_rightPlace 1 = .ok (.lookupswitch 39 #[(0, 27), (1, 33)], 27) := by decide +kernel
theorem dP_rightPlace_28 : decode bP_rightPlace 28 = .ok (.getstatic 191, 3) := by decide +kernel
theorem dP_rightPlace_31 : decode bP_rightPlace 31 = .ok (.iload_n 1, 1) := by decide +kernel
theorem dP_rightPlace_32 : decode bP_rightPlace 32 = .ok (.iaload, 1) := by decide +kernel
theorem dP_rightPlace_33 : decode bP_rightPlace 33 = .ok (.ireturn, 1) := by decide +kernel
theorem dP_rightPlace_34 : decode bP_rightPlace 34 = .ok (.getstatic 194, 3) := by decide +kernel
theorem dP_rightPlace_37 : decode bP_rightPlace 37 = .ok (.iload_n 1, 1) := by decide +kernel
theorem dP_rightPlace_38 : decode bP_rightPlace 38 = .ok (.iaload, 1) := by decide +kernel
theorem dP_rightPlace_39 : decode bP_rightPlace 39 = .ok (.ireturn, 1) := by decide +kernel
theorem dP_rightPlace_40 : decode bP_rightPlace 40 = .ok (.getstatic 197, 3) := by decide +kernel
theorem dP_rightPlace_43 : decode bP_rightPlace 43 = .ok (.iload_n 1, 1) := by decide +kernel
theorem dP_rightPlace_44 : decode bP_rightPlace 44 = .ok (.iaload, 1) := by decide +kernel
theorem dP_rightPlace_45 : decode bP_rightPlace 45 = .ok (.ireturn, 1) := by decide +kernel
theorem dP_chance_0 : decode bP_chance 0 = .ok (.aload_n 0, 1) := by decide +kernel
theorem dP_chance_1 : decode bP_chance 1 = .ok (.iload_n 1, 1) := by decide +kernel
theorem dP_chance_2 : decode bP_chance 2 = .ok (.invokevirtual 71, 3) := by decide +kernel
theorem dP_chance_5 : decode bP_chance 5 = .ok (.astore_n 3, 1) := by decide +kernel
theorem dP_chance_6 : decode bP_chance 6 = .ok (.aload_n 3, 1) := by decide +kernel
theorem dP_chance_7 : decode bP_chance 7 = .ok (.ifnull 17, 3) := by decide +kernel
theorem dP_chance_10 : decode bP_chance 10 = .ok (.aload_n 3, 1) := by decide +kernel
theorem dP_chance_11 : decode bP_chance 11 = .ok (.getfield 81, 3) := by decide +kernel
theorem dP_chance_14 : decode bP_chance 14 = .ok (.ifCond .eq 10, 3) := by decide +kernel
theorem dP_chance_17 : decode bP_chance 17 = .ok (.iload_n 2, 1) := by decide +kernel
theorem dP_chance_18 : decode bP_chance 18 = .ok (.invokestatic 96, 3) := by decide +kernel
theorem dP_chance_21 : decode bP_chance 21 = .ok (.ifCond .ne 7, 3) := by decide +kernel
theorem dP_chance_24 : decode bP_chance 24 = .ok (.ldc2_w 100, 3) := by decide +kernel
theorem dP_chance_27 : decode bP_chance 27 = .ok (.lreturn, 1) := by decide +kernel
theorem dP_chance_28 : decode bP_chance 28 = .ok (.aload_n 3, 1) := by decide +kernel
theorem dP_chance_29 : decode bP_chance 29 = .ok (.getfield 92, 3) := by decide +kernel
theorem dP_chance_32 : decode bP_chance 32 = .ok (.aload_n 3, 1) := by decide +kernel
theorem dP_chance_33 : decode bP_chance 33 = .ok (.getfield 81, 3) := by decide +kernel
theorem dP_chance_36 : decode bP_chance 36 = .ok (.aload_n 3, 1) := by decide +kernel
theorem dP_chance_37 : decode bP_chance 37 = .ok (.getfield 74, 3) := by decide +kernel
theorem dP_chance_40 : decode bP_chance 40 = .ok (.invokestatic 102, 3) := by decide +kernel
theorem dP_chance_43 : decode bP_chance 43 = .ok (.lstore 4, 2) := by decide +kernel
theorem dP_chance_45 : decode bP_chance 45 = .ok (.lload 4, 2) := by decide +kernel
theorem dP_chance_47 : decode bP_chance 47 = .ok (.aload_n 3, 1) := by decide +kernel
theorem dP_chance_48 : decode bP_chance 48 = .ok (.getfield 74, 3) := by decide +kernel
theorem dP_chance_51 : decode bP_chance 51 = .ok (.aload_n 3, 1) := by decide +kernel
theorem dP_chance_52 : decode bP_chance 52 = .ok (.getfield 81, 3) := by decide +kernel
theorem dP_chance_55 : decode bP_chance 55 = .ok (.invokestatic 106, 3) := by decide +kernel
theorem dP_chance_58 : decode bP_chance 58 = .ok (.iload_n 2, 1) := by decide +kernel
theorem dP_chance_59 : decode bP_chance 59 = .ok (.invokestatic 110, 3) := by decide +kernel
theorem dP_chance_62 : decode bP_chance 62 = .ok (.lreturn, 1) := by decide +kernel
theorem dP_isPart_0 : decode bP_isPart 0 = .ok (.iload_n 0, 1) := by decide +kernel
theorem dP_isPart_1 : decode bP_isPart 1 = .ok (.ifCond .eq 8, 3) := by decide +kernel
theorem dP_isPart_4 : decode bP_isPart 4 = .ok (.iload_n 0, 1) := by decide +kernel
theorem dP_isPart_5 : decode bP_isPart 5 = .ok (.iconst 1, 1) := by decide +kernel
theorem dP_isPart_6 : decode bP_isPart 6 = .ok (.if_icmp .ne 7, 3) := by decide +kernel
theorem dP_isPart_9 : decode bP_isPart 9 = .ok (.iconst 1, 1) := by decide +kernel
theorem dP_isPart_10 : decode bP_isPart 10 = .ok (.goto 4, 3) := by decide +kernel
theorem dP_isPart_13 : decode bP_isPart 13 = .ok (.iconst 0, 1) := by decide +kernel
theorem dP_isPart_14 : decode bP_isPart 14 = .ok (.ireturn, 1) := by decide +kernel
theorem dP_waysOfAtLeast_0 : decode bP_waysOfAtLeast 0 = .ok (.lconst 0, 1) := by decide +kernel
theorem dP_waysOfAtLeast_1 : decode bP_waysOfAtLeast 1 = .ok (.lstore_n 3, 1) := by decide +kernel
theorem dP_waysOfAtLeast_2 : decode bP_waysOfAtLeast 2 = .ok (.lconst 1, 1) := by decide +kernel
theorem dP_waysOfAtLeast_3 : decode bP_waysOfAtLeast 3 = .ok (.lstore 5, 2) := by decide +kernel
theorem dP_waysOfAtLeast_5 : decode bP_waysOfAtLeast 5 = .ok (.iload_n 1, 1) := by decide +kernel
theorem dP_waysOfAtLeast_6 : decode bP_waysOfAtLeast 6 = .ok (.istore 7, 2) := by decide +kernel
theorem dP_waysOfAtLeast_8 : decode bP_waysOfAtLeast 8 = .ok (.iload 7, 2) := by decide +kernel
theorem dP_waysOfAtLeast_10 : decode bP_waysOfAtLeast 10 = .ok (.iload_n 0, 1) := by decide +kernel
theorem dP_waysOfAtLeast_11 : decode bP_waysOfAtLeast 11 = .ok (.if_icmp .lt 35, 3) := by decide +kernel
theorem dP_waysOfAtLeast_14 : decode bP_waysOfAtLeast 14 = .ok (.lload_n 3, 1) := by decide +kernel
theorem dP_waysOfAtLeast_15 : decode bP_waysOfAtLeast 15 = .ok (.lload 5, 2) := by decide +kernel
theorem dP_waysOfAtLeast_17 : decode bP_waysOfAtLeast 17 = .ok (.ladd, 1) := by decide +kernel
theorem dP_waysOfAtLeast_18 : decode bP_waysOfAtLeast 18 = .ok (.lstore_n 3, 1) := by decide +kernel
theorem dP_waysOfAtLeast_19 : decode bP_waysOfAtLeast 19 = .ok (.lload 5, 2) := by decide +kernel
theorem dP_waysOfAtLeast_21 : decode bP_waysOfAtLeast 21 = .ok (.iload 7, 2) := by decide +kernel
theorem dP_waysOfAtLeast_23 : decode bP_waysOfAtLeast 23 = .ok (.i2l, 1) := by decide +kernel
theorem dP_waysOfAtLeast_24 : decode bP_waysOfAtLeast 24 = .ok (.lmul, 1) := by decide +kernel
theorem dP_waysOfAtLeast_25 : decode bP_waysOfAtLeast 25 = .ok (.iload_n 1, 1) := by decide +kernel
theorem dP_waysOfAtLeast_26 : decode bP_waysOfAtLeast 26 = .ok (.iload 7, 2) := by decide +kernel
theorem dP_waysOfAtLeast_28 : decode bP_waysOfAtLeast 28 = .ok (.isub, 1) := by decide +kernel
theorem dP_waysOfAtLeast_29 : decode bP_waysOfAtLeast 29 = .ok (.iconst 1, 1) := by decide +kernel
theorem dP_waysOfAtLeast_30 : decode bP_waysOfAtLeast 30 = .ok (.iadd, 1) := by decide +kernel
theorem dP_waysOfAtLeast_31 : decode bP_waysOfAtLeast 31 = .ok (.i2l, 1) := by decide +kernel
theorem dP_waysOfAtLeast_32 : decode bP_waysOfAtLeast 32 = .ok (.ldiv, 1) := by decide +kernel
theorem dP_waysOfAtLeast_33 : decode bP_waysOfAtLeast 33 = .ok (.iload_n 2, 1) := by decide +kernel
theorem dP_waysOfAtLeast_34 : decode bP_waysOfAtLeast 34 = .ok (.iconst 1, 1) := by decide +kernel
theorem dP_waysOfAtLeast_35 : decode bP_waysOfAtLeast 35 = .ok (.isub, 1) := by decide +kernel
theorem dP_waysOfAtLeast_36 : decode bP_waysOfAtLeast 36 = .ok (.i2l, 1) := by decide +kernel
theorem dP_waysOfAtLeast_37 : decode bP_waysOfAtLeast 37 = .ok (.lmul, 1) := by decide +kernel
theorem dP_waysOfAtLeast_38 : decode bP_waysOfAtLeast 38 = .ok (.lstore 5, 2) := by decide +kernel
theorem dP_waysOfAtLeast_40 : decode bP_waysOfAtLeast 40 = .ok (.iinc 7 (-1), 3) := by decide +kernel
theorem dP_waysOfAtLeast_43 : decode bP_waysOfAtLeast 43 = .ok (.goto (-35), 3) := by decide +kernel
theorem dP_waysOfAtLeast_46 : decode bP_waysOfAtLeast 46 = .ok (.lload_n 3, 1) := by decide +kernel
theorem dP_waysOfAtLeast_47 : decode bP_waysOfAtLeast 47 = .ok (.lreturn, 1) := by decide +kernel
theorem dP_power_0 : decode bP_power 0 = .ok (.lconst 1, 1) := by decide +kernel
theorem dP_power_1 : decode bP_power 1 = .ok (.lstore_n 2, 1) := by decide +kernel
theorem dP_power_2 : decode bP_power 2 = .ok (.iconst 0, 1) := by decide +kernel
theorem dP_power_3 : decode bP_power 3 = .ok (.istore 4, 2) := by decide +kernel
theorem dP_power_5 : decode bP_power 5 = .ok (.iload 4, 2) := by decide +kernel
theorem dP_power_7 : decode bP_power 7 = .ok (.iload_n 1, 1) := by decide +kernel
theorem dP_power_8 : decode bP_power 8 = .ok (.if_icmp .ge 14, 3) := by decide +kernel
theorem dP_power_11 : decode bP_power 11 = .ok (.lload_n 2, 1) := by decide +kernel
theorem dP_power_12 : decode bP_power 12 = .ok (.iload_n 0, 1) := by decide +kernel
theorem dP_power_13 : decode bP_power 13 = .ok (.i2l, 1) := by decide +kernel
theorem dP_power_14 : decode bP_power 14 = .ok (.lmul, 1) := by decide +kernel
theorem dP_power_15 : decode bP_power 15 = .ok (.lstore_n 2, 1) := by decide +kernel
theorem dP_power_16 : decode bP_power 16 = .ok (.iinc 4 1, 3) := by decide +kernel
theorem dP_power_19 : decode bP_power 19 = .ok (.goto (-14), 3) := by decide +kernel
theorem dP_power_22 : decode bP_power 22 = .ok (.lload_n 2, 1) := by decide +kernel
theorem dP_power_23 : decode bP_power 23 = .ok (.lreturn, 1) := by decide +kernel
theorem dP_reducedPart_0 : decode bP_reducedPart 0 = .ok (.lload_n 0, 1) := by decide +kernel
theorem dP_reducedPart_1 : decode bP_reducedPart 1 = .ok (.lload_n 2, 1) := by decide +kernel
theorem dP_reducedPart_2 : decode bP_reducedPart 2 = .ok (.invokestatic 211, 3) := by decide +kernel
theorem dP_reducedPart_5 : decode bP_reducedPart 5 = .ok (.lstore 5, 2) := by decide +kernel
theorem dP_reducedPart_7 : decode bP_reducedPart 7 = .ok (.iload 4, 2) := by decide +kernel
theorem dP_reducedPart_9 : decode bP_reducedPart 9 = .ok (.ifCond .ne 7, 3) := by decide +kernel
theorem dP_reducedPart_12 : decode bP_reducedPart 12 = .ok (.lload_n 0, 1) := by decide +kernel
theorem dP_reducedPart_13 : decode bP_reducedPart 13 = .ok (.goto 4, 3) := by decide +kernel
theorem dP_reducedPart_16 : decode bP_reducedPart 16 = .ok (.lload_n 2, 1) := by decide +kernel
theorem dP_reducedPart_17 : decode bP_reducedPart 17 = .ok (.lload 5, 2) := by decide +kernel
theorem dP_reducedPart_19 : decode bP_reducedPart 19 = .ok (.ldiv, 1) := by decide +kernel
theorem dP_reducedPart_20 : decode bP_reducedPart 20 = .ok (.lreturn, 1) := by decide +kernel
theorem dP_commonDivisor_0 : decode bP_commonDivisor 0 = .ok (.lload_n 2, 1) := by decide +kernel
theorem dP_commonDivisor_1 : decode bP_commonDivisor 1 = .ok (.lstore 4, 2) := by decide +kernel
theorem dP_commonDivisor_3 : decode bP_commonDivisor 3 = .ok (.lload_n 0, 1) := by decide +kernel
theorem dP_commonDivisor_4 : decode bP_commonDivisor 4 = .ok (.lstore 6, 2) := by decide +kernel
theorem dP_commonDivisor_6 : decode bP_commonDivisor 6 = .ok (.iconst 0, 1) := by decide +kernel
theorem dP_commonDivisor_7 : decode bP_commonDivisor 7 = .ok (.istore 8, 2) := by decide +kernel
theorem dP_commonDivisor_9 : decode bP_commonDivisor 9 = .ok (.iload 8, 2) := by decide +kernel
theorem dP_commonDivisor_11 : decode bP_commonDivisor 11 = .ok (.bipush 100, 2) := by decide +kernel
theorem dP_commonDivisor_13 : decode bP_commonDivisor 13 = .ok (.if_icmp .ge 31, 3) := by decide +kernel
theorem dP_commonDivisor_16 : decode bP_commonDivisor 16 = .ok (.lload 6, 2) := by decide +kernel
theorem dP_commonDivisor_18 : decode bP_commonDivisor 18 = .ok (.lconst 0, 1) := by decide +kernel
theorem dP_commonDivisor_19 : decode bP_commonDivisor 19 = .ok (.lcmp, 1) := by decide +kernel
theorem dP_commonDivisor_20 : decode bP_commonDivisor 20 = .ok (.ifCond .eq 24, 3) := by decide +kernel
theorem dP_commonDivisor_23 : decode bP_commonDivisor 23 = .ok (.lload 4, 2) := by decide +kernel
theorem dP_commonDivisor_25 : decode bP_commonDivisor 25 = .ok (.lload 6, 2) := by decide +kernel
theorem dP_commonDivisor_27 : decode bP_commonDivisor 27 = .ok (.lrem, 1) := by decide +kernel
theorem dP_commonDivisor_28 : decode bP_commonDivisor 28 = .ok (.lstore 9, 2) := by decide +kernel
theorem dP_commonDivisor_30 : decode bP_commonDivisor 30 = .ok (.lload 6, 2) := by decide +kernel
theorem dP_commonDivisor_32 : decode bP_commonDivisor 32 = .ok (.lstore 4, 2) := by decide +kernel
theorem dP_commonDivisor_34 : decode bP_commonDivisor 34 = .ok (.lload 9, 2) := by decide +kernel
theorem dP_commonDivisor_36 : decode bP_commonDivisor 36 = .ok (.lstore 6, 2) := by decide +kernel
theorem dP_commonDivisor_38 : decode bP_commonDivisor 38 = .ok (.iinc 8 1, 3) := by decide +kernel
theorem dP_commonDivisor_41 : decode bP_commonDivisor 41 = .ok (.goto (-32), 3) := by decide +kernel
theorem dP_commonDivisor_44 : decode bP_commonDivisor 44 = .ok (.lload 4, 2) := by decide +kernel
theorem dP_commonDivisor_46 : decode bP_commonDivisor 46 = .ok (.lreturn, 1) := by decide +kernel
theorem dP_right_0 : decode bP_right 0 = .ok (.aload_n 0, 1) := by decide +kernel
theorem dP_right_1 : decode bP_right 1 = .ok (.iload_n 1, 1) := by decide +kernel
theorem dP_right_2 : decode bP_right 2 = .ok (.invokevirtual 71, 3) := by decide +kernel
theorem dP_right_5 : decode bP_right 5 = .ok (.astore_n 2, 1) := by decide +kernel
theorem dP_right_6 : decode bP_right 6 = .ok (.aload_n 2, 1) := by decide +kernel
theorem dP_right_7 : decode bP_right 7 = .ok (.ifnonnull 7, 3) := by decide +kernel
theorem dP_right_10 : decode bP_right 10 = .ok (.iconst (-1), 1) := by decide +kernel
theorem dP_right_11 : decode bP_right 11 = .ok (.goto 7, 3) := by decide +kernel
theorem dP_right_14 : decode bP_right 14 = .ok (.aload_n 2, 1) := by decide +kernel
theorem dP_right_15 : decode bP_right 15 = .ok (.getfield 92, 3) := by decide +kernel
theorem dP_right_18 : decode bP_right 18 = .ok (.ireturn, 1) := by decide +kernel
theorem dP_rank_0 : decode bP_rank 0 = .ok (.aload_n 0, 1) := by decide +kernel
theorem dP_rank_1 : decode bP_rank 1 = .ok (.iload_n 1, 1) := by decide +kernel
theorem dP_rank_2 : decode bP_rank 2 = .ok (.invokevirtual 114, 3) := by decide +kernel
theorem dP_rank_5 : decode bP_rank 5 = .ok (.astore 5, 2) := by decide +kernel
theorem dP_rank_7 : decode bP_rank 7 = .ok (.aload 5, 2) := by decide +kernel
theorem dP_rank_9 : decode bP_rank 9 = .ok (.ifnull 24, 3) := by decide +kernel
theorem dP_rank_12 : decode bP_rank 12 = .ok (.aload_n 0, 1) := by decide +kernel
theorem dP_rank_13 : decode bP_rank 13 = .ok (.iload_n 2, 1) := by decide +kernel
theorem dP_rank_14 : decode bP_rank 14 = .ok (.invokevirtual 56, 3) := by decide +kernel
theorem dP_rank_17 : decode bP_rank 17 = .ok (.ifnull 16, 3) := by decide +kernel
theorem dP_rank_20 : decode bP_rank 20 = .ok (.iload_n 3, 1) := by decide +kernel
theorem dP_rank_21 : decode bP_rank 21 = .ok (.ifCond .lt 12, 3) := by decide +kernel
theorem dP_rank_24 : decode bP_rank 24 = .ok (.iload_n 3, 1) := by decide +kernel
theorem dP_rank_25 : decode bP_rank 25 = .ok (.aload 5, 2) := by decide +kernel
theorem dP_rank_27 : decode bP_rank 27 = .ok (.getfield 74, 3) := by decide +kernel
theorem dP_rank_30 : decode bP_rank 30 = .ok (.if_icmp .lt 5, 3) := by decide +kernel
theorem dP_rank_33 : decode bP_rank 33 = .ok (.iconst 0, 1) := by decide +kernel
theorem dP_rank_34 : decode bP_rank 34 = .ok (.ireturn, 1) := by decide +kernel
theorem dP_rank_35 : decode bP_rank 35 = .ok (.iload 4, 2) := by decide +kernel
theorem dP_rank_37 : decode bP_rank 37 = .ok (.iconst 1, 1) := by decide +kernel
theorem dP_rank_38 : decode bP_rank 38 = .ok (.if_icmp .lt 34, 3) := by decide +kernel
theorem dP_rank_41 : decode bP_rank 41 = .ok (.iload 4, 2) := by decide +kernel
theorem dP_rank_43 : decode bP_rank 43 = .ok (.aload 5, 2) := by decide +kernel
theorem dP_rank_45 : decode bP_rank 45 = .ok (.getfield 74, 3) := by decide +kernel
theorem dP_rank_48 : decode bP_rank 48 = .ok (.if_icmp .gt 24, 3) := by decide +kernel
theorem dP_rank_51 : decode bP_rank 51 = .ok (.aload 5, 2) := by decide +kernel
theorem dP_rank_53 : decode bP_rank 53 = .ok (.iload_n 2, 1) := by decide +kernel
theorem dP_rank_54 : decode bP_rank 54 = .ok (.iload_n 3, 1) := by decide +kernel
theorem dP_rank_55 : decode bP_rank 55 = .ok (.invokestatic 117, 3) := by decide +kernel
theorem dP_rank_58 : decode bP_rank 58 = .ok (.ifCond .ne 14, 3) := by decide +kernel
theorem dP_rank_61 : decode bP_rank 61 = .ok (.aload 5, 2) := by decide +kernel
theorem dP_rank_63 : decode bP_rank 63 = .ok (.iload_n 2, 1) := by decide +kernel
theorem dP_rank_64 : decode bP_rank 64 = .ok (.iload 4, 2) := by decide +kernel
theorem dP_rank_66 : decode bP_rank 66 = .ok (.invokestatic 120, 3) := by decide +kernel
theorem dP_rank_69 : decode bP_rank 69 = .ok (.ifCond .eq 5, 3) := by decide +kernel
theorem dP_rank_72 : decode bP_rank 72 = .ok (.iconst 0, 1) := by decide +kernel
theorem dP_rank_73 : decode bP_rank 73 = .ok (.ireturn, 1) := by decide +kernel
theorem dP_rank_74 : decode bP_rank 74 = .ok (.aload 5, 2) := by decide +kernel
theorem dP_rank_76 : decode bP_rank 76 = .ok (.getfield 124, 3) := by decide +kernel
theorem dP_rank_79 : decode bP_rank 79 = .ok (.iload_n 2, 1) := by decide +kernel
theorem dP_rank_80 : decode bP_rank 80 = .ok (.iconst 5, 1) := by decide +kernel
theorem dP_rank_81 : decode bP_rank 81 = .ok (.imul, 1) := by decide +kernel
theorem dP_rank_82 : decode bP_rank 82 = .ok (.iload_n 3, 1) := by decide +kernel
theorem dP_rank_83 : decode bP_rank 83 = .ok (.iadd, 1) := by decide +kernel
theorem dP_rank_84 : decode bP_rank 84 = .ok (.iload 4, 2) := by decide +kernel
theorem dP_rank_86 : decode bP_rank 86 = .ok (.iastore, 1) := by decide +kernel
theorem dP_rank_87 : decode bP_rank 87 = .ok (.iconst 1, 1) := by decide +kernel
theorem dP_rank_88 : decode bP_rank 88 = .ok (.ireturn, 1) := by decide +kernel
theorem dP_rankingAt_0 : decode bP_rankingAt 0 = .ok (.aload_n 0, 1) := by decide +kernel
theorem dP_rankingAt_1 : decode bP_rankingAt 1 = .ok (.iload_n 1, 1) := by decide +kernel
theorem dP_rankingAt_2 : decode bP_rankingAt 2 = .ok (.invokevirtual 52, 3) := by decide +kernel
theorem dP_rankingAt_5 : decode bP_rankingAt 5 = .ok (.astore_n 2, 1) := by decide +kernel
theorem dP_rankingAt_6 : decode bP_rankingAt 6 = .ok (.aload_n 2, 1) := by decide +kernel
theorem dP_rankingAt_7 : decode bP_rankingAt 7 = .ok (.ifnull 11, 3) := by decide +kernel
theorem dP_rankingAt_10 : decode bP_rankingAt 10 = .ok (.aload_n 2, 1) := by decide +kernel
theorem dP_rankingAt_11 : decode bP_rankingAt 11 = .ok (.getfield 85, 3) := by decide +kernel
theorem dP_rankingAt_14 : decode bP_rankingAt 14 = .ok (.iconst 3, 1) := by decide +kernel
theorem dP_rankingAt_15 : decode bP_rankingAt 15 = .ok (.if_icmp .eq 7, 3) := by decide +kernel
theorem dP_rankingAt_18 : decode bP_rankingAt 18 = .ok (.aconst_null, 1) := by decide +kernel
theorem dP_rankingAt_19 : decode bP_rankingAt 19 = .ok (.goto 4, 3) := by decide +kernel
theorem dP_rankingAt_22 : decode bP_rankingAt 22 = .ok (.aload_n 2, 1) := by decide +kernel
theorem dP_rankingAt_23 : decode bP_rankingAt 23 = .ok (.areturn, 1) := by decide +kernel
theorem dP_rankOf_0 : decode bP_rankOf 0 = .ok (.aload_n 0, 1) := by decide +kernel
theorem dP_rankOf_1 : decode bP_rankOf 1 = .ok (.getfield 124, 3) := by decide +kernel
theorem dP_rankOf_4 : decode bP_rankOf 4 = .ok (.iload_n 1, 1) := by decide +kernel
theorem dP_rankOf_5 : decode bP_rankOf 5 = .ok (.iconst 5, 1) := by decide +kernel
theorem dP_rankOf_6 : decode bP_rankOf 6 = .ok (.imul, 1) := by decide +kernel
theorem dP_rankOf_7 : decode bP_rankOf 7 = .ok (.iload_n 2, 1) := by decide +kernel
theorem dP_rankOf_8 : decode bP_rankOf 8 = .ok (.iadd, 1) := by decide +kernel
theorem dP_rankOf_9 : decode bP_rankOf 9 = .ok (.iaload, 1) := by decide +kernel
theorem dP_rankOf_10 : decode bP_rankOf 10 = .ok (.ireturn, 1) := by decide +kernel
theorem dP_hasGiven_0 : decode bP_hasGiven 0 = .ok (.iconst 0, 1) := by decide +kernel
theorem dP_hasGiven_1 : decode bP_hasGiven 1 = .ok (.istore_n 3, 1) := by decide +kernel
theorem dP_hasGiven_2 : decode bP_hasGiven 2 = .ok (.iload_n 3, 1) := by decide +kernel
theorem dP_hasGiven_3 : decode bP_hasGiven 3 = .ok (.aload_n 0, 1) := by decide +kernel
theorem dP_hasGiven_4 : decode bP_hasGiven 4 = .ok (.getfield 74, 3) := by decide +kernel
theorem dP_hasGiven_7 : decode bP_hasGiven 7 = .ok (.if_icmp .ge 21, 3) := by decide +kernel
theorem dP_hasGiven_10 : decode bP_hasGiven 10 = .ok (.aload_n 0, 1) := by decide +kernel
theorem dP_hasGiven_11 : decode bP_hasGiven 11 = .ok (.iload_n 1, 1) := by decide +kernel
theorem dP_hasGiven_12 : decode bP_hasGiven 12 = .ok (.iload_n 3, 1) := by decide +kernel
theorem dP_hasGiven_13 : decode bP_hasGiven 13 = .ok (.invokestatic 117, 3) := by decide +kernel
theorem dP_hasGiven_16 : decode bP_hasGiven 16 = .ok (.iload_n 2, 1) := by decide +kernel
theorem dP_hasGiven_17 : decode bP_hasGiven 17 = .ok (.if_icmp .ne 5, 3) := by decide +kernel
theorem dP_hasGiven_20 : decode bP_hasGiven 20 = .ok (.iconst 1, 1) := by decide +kernel
theorem dP_hasGiven_21 : decode bP_hasGiven 21 = .ok (.ireturn, 1) := by decide +kernel
theorem dP_hasGiven_22 : decode bP_hasGiven 22 = .ok (.iinc 3 1, 3) := by decide +kernel
theorem dP_hasGiven_25 : decode bP_hasGiven 25 = .ok (.goto (-23), 3) := by decide +kernel
theorem dP_hasGiven_28 : decode bP_hasGiven 28 = .ok (.iconst 0, 1) := by decide +kernel
theorem dP_hasGiven_29 : decode bP_hasGiven 29 = .ok (.ireturn, 1) := by decide +kernel
theorem dP_permuted_0 : decode bP_permuted 0 = .ok (.aload_n 0, 1) := by decide +kernel
theorem dP_permuted_1 : decode bP_permuted 1 = .ok (.iload_n 1, 1) := by decide +kernel
theorem dP_permuted_2 : decode bP_permuted 2 = .ok (.invokevirtual 114, 3) := by decide +kernel
theorem dP_permuted_5 : decode bP_permuted 5 = .ok (.astore_n 3, 1) := by decide +kernel
theorem dP_permuted_6 : decode bP_permuted 6 = .ok (.aload_n 3, 1) := by decide +kernel
theorem dP_permuted_7 : decode bP_permuted 7 = .ok (.ifnull 10, 3) := by decide +kernel
theorem dP_permuted_10 : decode bP_permuted 10 = .ok (.iload_n 2, 1) := by decide +kernel
theorem dP_permuted_11 : decode bP_permuted 11 = .ok (.invokestatic 96, 3) := by decide +kernel
theorem dP_permuted_14 : decode bP_permuted 14 = .ok (.ifCond .ne 7, 3) := by decide +kernel
theorem dP_permuted_17 : decode bP_permuted 17 = .ok (.ldc2_w 100, 3) := by decide +kernel
theorem dP_permuted_20 : decode bP_permuted 20 = .ok (.lreturn, 1) := by decide +kernel
theorem dP_permuted_21 : decode bP_permuted 21 = .ok (.iconst 0, 1) := by decide +kernel
theorem dP_permuted_22 : decode bP_permuted 22 = .ok (.istore 4, 2) := by decide +kernel
theorem dP_permuted_24 : decode bP_permuted 24 = .ok (.iconst 0, 1) := by decide +kernel
theorem dP_permuted_25 : decode bP_permuted 25 = .ok (.istore 5, 2) := by decide +kernel
theorem dP_permuted_27 : decode bP_permuted 27 = .ok (.iconst 0, 1) := by decide +kernel
theorem dP_permuted_28 : decode bP_permuted 28 = .ok (.istore 6, 2) := by decide +kernel
theorem dP_permuted_30 : decode bP_permuted 30 = .ok (.iload 6, 2) := by decide +kernel
theorem dP_permuted_32 : decode bP_permuted 32 = .ok (.bipush 26, 2) := by decide +kernel
theorem dP_permuted_34 : decode bP_permuted 34 = .ok (.if_icmp .ge 33, 3) := by decide +kernel
theorem dP_permuted_37 : decode bP_permuted 37 = .ok (.aload_n 3, 1) := by decide +kernel
theorem dP_permuted_38 : decode bP_permuted 38 = .ok (.iload 6, 2) := by decide +kernel
theorem dP_permuted_40 : decode bP_permuted 40 = .ok (.invokestatic 127, 3) := by decide +kernel
theorem dP_permuted_43 : decode bP_permuted 43 = .ok (.ifCond .eq 18, 3) := by decide +kernel
theorem dP_permuted_46 : decode bP_permuted 46 = .ok (.iinc 4 1, 3) := by decide +kernel
theorem dP_permuted_49 : decode bP_permuted 49 = .ok (.iload 5, 2) := by decide +kernel
theorem dP_permuted_51 : decode bP_permuted 51 = .ok (.aload_n 3, 1) := by decide +kernel
theorem dP_permuted_52 : decode bP_permuted 52 = .ok (.iload 6, 2) := by decide +kernel
theorem dP_permuted_54 : decode bP_permuted 54 = .ok (.iconst 0, 1) := by decide +kernel
theorem dP_permuted_55 : decode bP_permuted 55 = .ok (.invokestatic 117, 3) := by decide +kernel
theorem dP_permuted_58 : decode bP_permuted 58 = .ok (.iadd, 1) := by decide +kernel
theorem dP_permuted_59 : decode bP_permuted 59 = .ok (.istore 5, 2) := by decide +kernel
theorem dP_permuted_61 : decode bP_permuted 61 = .ok (.iinc 6 1, 3) := by decide +kernel
theorem dP_permuted_64 : decode bP_permuted 64 = .ok (.goto (-34), 3) := by decide +kernel
theorem dP_permuted_67 : decode bP_permuted 67 = .ok (.iload 4, 2) := by decide +kernel
theorem dP_permuted_69 : decode bP_permuted 69 = .ok (.ifCond .ne 7, 3) := by decide +kernel
theorem dP_permuted_72 : decode bP_permuted 72 = .ok (.ldc2_w 100, 3) := by decide +kernel
theorem dP_permuted_75 : decode bP_permuted 75 = .ok (.lreturn, 1) := by decide +kernel
theorem dP_permuted_76 : decode bP_permuted 76 = .ok (.aload_n 0, 1) := by decide +kernel
theorem dP_permuted_77 : decode bP_permuted 77 = .ok (.iload 5, 2) := by decide +kernel
theorem dP_permuted_79 : decode bP_permuted 79 = .ok (.iload 4, 2) := by decide +kernel
theorem dP_permuted_81 : decode bP_permuted 81 = .ok (.aload_n 3, 1) := by decide +kernel
theorem dP_permuted_82 : decode bP_permuted 82 = .ok (.getfield 74, 3) := by decide +kernel
theorem dP_permuted_85 : decode bP_permuted 85 = .ok (.invokevirtual 131, 3) := by decide +kernel
theorem dP_permuted_88 : decode bP_permuted 88 = .ok (.lstore 6, 2) := by decide +kernel
theorem dP_permuted_90 : decode bP_permuted 90 = .ok (.lload 6, 2) := by decide +kernel
theorem dP_permuted_92 : decode bP_permuted 92 = .ok (.aload_n 3, 1) := by decide +kernel
theorem dP_permuted_93 : decode bP_permuted 93 = .ok (.getfield 74, 3) := by decide +kernel
theorem dP_permuted_96 : decode bP_permuted 96 = .ok (.iload 4, 2) := by decide +kernel
theorem dP_permuted_98 : decode bP_permuted 98 = .ok (.invokestatic 106, 3) := by decide +kernel
theorem dP_permuted_101 : decode bP_permuted 101 = .ok (.iload_n 2, 1) := by decide +kernel
theorem dP_permuted_102 : decode bP_permuted 102 = .ok (.invokestatic 110, 3) := by decide +kernel
theorem dP_permuted_105 : decode bP_permuted 105 = .ok (.lreturn, 1) := by decide +kernel
theorem dP_hasRankedAll_0 : decode bP_hasRankedAll 0 = .ok (.iconst 0, 1) := by decide +kernel
theorem dP_hasRankedAll_1 : decode bP_hasRankedAll 1 = .ok (.istore_n 2, 1) := by decide +kernel
theorem dP_hasRankedAll_2 : decode bP_hasRankedAll 2 = .ok (.iload_n 2, 1) := by decide +kernel
theorem dP_hasRankedAll_3 : decode bP_hasRankedAll 3 = .ok (.aload_n 0, 1) := by decide +kernel
theorem dP_hasRankedAll_4 : decode bP_hasRankedAll 4 = .ok (.getfield 74, 3) := by decide +kernel
theorem dP_hasRankedAll_7 : decode bP_hasRankedAll 7 = .ok (.if_icmp .ge 20, 3) := by decide +kernel
theorem dP_hasRankedAll_10 : decode bP_hasRankedAll 10 = .ok (.aload_n 0, 1) := by decide +kernel
theorem dP_hasRankedAll_11 : decode bP_hasRankedAll 11 = .ok (.iload_n 1, 1) := by decide +kernel
theorem dP_hasRankedAll_12 : decode bP_hasRankedAll 12 = .ok (.iload_n 2, 1) := by decide +kernel
theorem dP_hasRankedAll_13 : decode bP_hasRankedAll 13 = .ok (.invokestatic 117, 3) := by decide +kernel
theorem dP_hasRankedAll_16 : decode bP_hasRankedAll 16 = .ok (.ifCond .ne 5, 3) := by decide +kernel
theorem dP_hasRankedAll_19 : decode bP_hasRankedAll 19 = .ok (.iconst 0, 1) := by decide +kernel
theorem dP_hasRankedAll_20 : decode bP_hasRankedAll 20 = .ok (.ireturn, 1) := by decide +kernel
theorem dP_hasRankedAll_21 : decode bP_hasRankedAll 21 = .ok (.iinc 2 1, 3) := by decide +kernel
theorem dP_hasRankedAll_24 : decode bP_hasRankedAll 24 = .ok (.goto (-22), 3) := by decide +kernel
theorem dP_hasRankedAll_27 : decode bP_hasRankedAll 27 = .ok (.iconst 1, 1) := by decide +kernel
theorem dP_hasRankedAll_28 : decode bP_hasRankedAll 28 = .ok (.ireturn, 1) := by decide +kernel
theorem dP_waysAsFarAs_0 : decode bP_waysAsFarAs 0 = .ok (.aload_n 0, 1) := by decide +kernel
theorem dP_waysAsFarAs_1 : decode bP_waysAsFarAs 1 = .ok (.iload_n 2, 1) := by decide +kernel
theorem dP_waysAsFarAs_2 : decode bP_waysAsFarAs 2 = .ok (.iload_n 3, 1) := by decide +kernel
theorem dP_waysAsFarAs_3 : decode bP_waysAsFarAs 3 = .ok (.invokevirtual 200, 3) := by decide +kernel
theorem dP_waysAsFarAs_6 : decode bP_waysAsFarAs 6 = .ok (.iload_n 2, 1) := by decide +kernel
theorem dP_waysAsFarAs_7 : decode bP_waysAsFarAs 7 = .ok (.iload_n 3, 1) := by decide +kernel
theorem dP_waysAsFarAs_8 : decode bP_waysAsFarAs 8 = .ok (.iconst 1, 1) := by decide +kernel
theorem dP_waysAsFarAs_9 : decode bP_waysAsFarAs 9 = .ok (.iadd, 1) := by decide +kernel
theorem dP_waysAsFarAs_10 : decode bP_waysAsFarAs 10 = .ok (.imul, 1) := by decide +kernel
theorem dP_waysAsFarAs_11 : decode bP_waysAsFarAs 11 = .ok (.istore 4, 2) := by decide +kernel
theorem dP_waysAsFarAs_13 : decode bP_waysAsFarAs 13 = .ok (.iconst 2, 1) := by decide +kernel
theorem dP_waysAsFarAs_14 : decode bP_waysAsFarAs 14 = .ok (.iload_n 1, 1) := by decide +kernel
theorem dP_waysAsFarAs_15 : decode bP_waysAsFarAs 15 = .ok (.imul, 1) := by decide +kernel
theorem dP_waysAsFarAs_16 : decode bP_waysAsFarAs 16 = .ok (.iload 4, 2) := by decide +kernel
theorem dP_waysAsFarAs_18 : decode bP_waysAsFarAs 18 = .ok (.isub, 1) := by decide +kernel
theorem dP_waysAsFarAs_19 : decode bP_waysAsFarAs 19 = .ok (.invokestatic 203, 3) := by decide +kernel
theorem dP_waysAsFarAs_22 : decode bP_waysAsFarAs 22 = .ok (.istore 5, 2) := by decide +kernel
theorem dP_waysAsFarAs_24 : decode bP_waysAsFarAs 24 = .ok (.lconst 0, 1) := by decide +kernel
theorem dP_waysAsFarAs_25 : decode bP_waysAsFarAs 25 = .ok (.lstore 6, 2) := by decide +kernel
theorem dP_waysAsFarAs_27 : decode bP_waysAsFarAs 27 = .ok (.iload_n 2, 1) := by decide +kernel
theorem dP_waysAsFarAs_28 : decode bP_waysAsFarAs 28 = .ok (.istore 8, 2) := by decide +kernel
theorem dP_waysAsFarAs_30 : decode bP_waysAsFarAs 30 = .ok (.iload 8, 2) := by decide +kernel
theorem dP_waysAsFarAs_32 : decode bP_waysAsFarAs 32 = .ok (.iload_n 2, 1) := by decide +kernel
theorem dP_waysAsFarAs_33 : decode bP_waysAsFarAs 33 = .ok (.iload_n 3, 1) := by decide +kernel
theorem dP_waysAsFarAs_34 : decode bP_waysAsFarAs 34 = .ok (.imul, 1) := by decide +kernel
theorem dP_waysAsFarAs_35 : decode bP_waysAsFarAs 35 = .ok (.if_icmp .gt 36, 3) := by decide +kernel
theorem dP_waysAsFarAs_38 : decode bP_waysAsFarAs 38 = .ok (.iconst 2, 1) := by decide +kernel
theorem dP_waysAsFarAs_39 : decode bP_waysAsFarAs 39 = .ok (.iload 8, 2) := by decide +kernel
theorem dP_waysAsFarAs_41 : decode bP_waysAsFarAs 41 = .ok (.imul, 1) := by decide +kernel
theorem dP_waysAsFarAs_42 : decode bP_waysAsFarAs 42 = .ok (.iload 4, 2) := by decide +kernel
theorem dP_waysAsFarAs_44 : decode bP_waysAsFarAs 44 = .ok (.isub, 1) := by decide +kernel
theorem dP_waysAsFarAs_45 : decode bP_waysAsFarAs 45 = .ok (.invokestatic 203, 3) := by decide +kernel
theorem dP_waysAsFarAs_48 : decode bP_waysAsFarAs 48 = .ok (.iload 5, 2) := by decide +kernel
theorem dP_waysAsFarAs_50 : decode bP_waysAsFarAs 50 = .ok (.if_icmp .lt 15, 3) := by decide +kernel
theorem dP_waysAsFarAs_53 : decode bP_waysAsFarAs 53 = .ok (.lload 6, 2) := by decide +kernel
theorem dP_waysAsFarAs_55 : decode bP_waysAsFarAs 55 = .ok (.aload_n 0, 1) := by decide +kernel
theorem dP_waysAsFarAs_56 : decode bP_waysAsFarAs 56 = .ok (.getfield 25, 3) := by decide +kernel
theorem dP_waysAsFarAs_59 : decode bP_waysAsFarAs 59 = .ok (.iload 8, 2) := by decide +kernel
theorem dP_waysAsFarAs_61 : decode bP_waysAsFarAs 61 = .ok (.laload, 1) := by decide +kernel
theorem dP_waysAsFarAs_62 : decode bP_waysAsFarAs 62 = .ok (.ladd, 1) := by decide +kernel
theorem dP_waysAsFarAs_63 : decode bP_waysAsFarAs 63 = .ok (.lstore 6, 2) := by decide +kernel
theorem dP_waysAsFarAs_65 : decode bP_waysAsFarAs 65 = .ok (.iinc 8 1, 3) := by decide +kernel
theorem dP_waysAsFarAs_68 : decode bP_waysAsFarAs 68 = .ok (.goto (-38), 3) := by decide +kernel
theorem dP_waysAsFarAs_71 : decode bP_waysAsFarAs 71 = .ok (.lload 6, 2) := by decide +kernel
theorem dP_waysAsFarAs_73 : decode bP_waysAsFarAs 73 = .ok (.lreturn, 1) := by decide +kernel
theorem dP_countSums_0 : decode bP_countSums 0 = .ok (.iconst 0, 1) := by decide +kernel
theorem dP_countSums_1 : decode bP_countSums 1 = .ok (.istore_n 3, 1) := by decide +kernel
theorem dP_countSums_2 : decode bP_countSums 2 = .ok (.iload_n 3, 1) := by decide +kernel
theorem dP_countSums_3 : decode bP_countSums 3 = .ok (.aload_n 0, 1) := by decide +kernel
theorem dP_countSums_4 : decode bP_countSums 4 = .ok (.getfield 25, 3) := by decide +kernel
theorem dP_countSums_7 : decode bP_countSums 7 = .ok (.arraylength, 1) := by decide +kernel
theorem dP_countSums_8 : decode bP_countSums 8 = .ok (.if_icmp .ge 16, 3) := by decide +kernel
theorem dP_countSums_11 : decode bP_countSums 11 = .ok (.aload_n 0, 1) := by decide +kernel
theorem dP_countSums_12 : decode bP_countSums 12 = .ok (.getfield 25, 3) := by decide +kernel
theorem dP_countSums_15 : decode bP_countSums 15 = .ok (.iload_n 3, 1) := by decide +kernel
theorem dP_countSums_16 : decode bP_countSums 16 = .ok (.lconst 0, 1) := by decide +kernel
theorem dP_countSums_17 : decode bP_countSums 17 = .ok (.lastore, 1) := by decide +kernel
theorem dP_countSums_18 : decode bP_countSums 18 = .ok (.iinc 3 1, 3) := by decide +kernel
theorem dP_countSums_21 : decode bP_countSums 21 = .ok (.goto (-19), 3) := by decide +kernel
theorem dP_countSums_24 : decode bP_countSums 24 = .ok (.aload_n 0, 1) := by decide +kernel
theorem dP_countSums_25 : decode bP_countSums 25 = .ok (.getfield 25, 3) := by decide +kernel
theorem dP_countSums_28 : decode bP_countSums 28 = .ok (.iconst 0, 1) := by decide +kernel
theorem dP_countSums_29 : decode bP_countSums 29 = .ok (.lconst 1, 1) := by decide +kernel
theorem dP_countSums_30 : decode bP_countSums 30 = .ok (.lastore, 1) := by decide +kernel
theorem dP_countSums_31 : decode bP_countSums 31 = .ok (.iconst 1, 1) := by decide +kernel
theorem dP_countSums_32 : decode bP_countSums 32 = .ok (.istore_n 3, 1) := by decide +kernel
theorem dP_countSums_33 : decode bP_countSums 33 = .ok (.iload_n 3, 1) := by decide +kernel
theorem dP_countSums_34 : decode bP_countSums 34 = .ok (.iload_n 1, 1) := by decide +kernel
theorem dP_countSums_35 : decode bP_countSums 35 = .ok (.if_icmp .gt 74, 3) := by decide +kernel
theorem dP_countSums_38 : decode bP_countSums 38 = .ok (.iload_n 3, 1) := by decide +kernel
theorem dP_countSums_39 : decode bP_countSums 39 = .ok (.iload_n 2, 1) := by decide +kernel
theorem dP_countSums_40 : decode bP_countSums 40 = .ok (.imul, 1) := by decide +kernel
theorem dP_countSums_41 : decode bP_countSums 41 = .ok (.istore 4, 2) := by decide +kernel
theorem dP_countSums_43 : decode bP_countSums 43 = .ok (.iload 4, 2) := by decide +kernel
theorem dP_countSums_45 : decode bP_countSums 45 = .ok (.ifCond .lt 58, 3) := by decide +kernel
theorem dP_countSums_48 : decode bP_countSums 48 = .ok (.lconst 0, 1) := by decide +kernel
theorem dP_countSums_49 : decode bP_countSums 49 = .ok (.lstore 5, 2) := by decide +kernel
theorem dP_countSums_51 : decode bP_countSums 51 = .ok (.iconst 1, 1) := by decide +kernel
theorem dP_countSums_52 : decode bP_countSums 52 = .ok (.istore 7, 2) := by decide +kernel
theorem dP_countSums_54 : decode bP_countSums 54 = .ok (.iload 7, 2) := by decide +kernel
theorem dP_countSums_56 : decode bP_countSums 56 = .ok (.iload_n 2, 1) := by decide +kernel
theorem dP_countSums_57 : decode bP_countSums 57 = .ok (.if_icmp .gt 31, 3) := by decide +kernel
theorem dP_countSums_60 : decode bP_countSums 60 = .ok (.iload 7, 2) := by decide +kernel
theorem dP_countSums_62 : decode bP_countSums 62 = .ok (.iload 4, 2) := by decide +kernel
theorem dP_countSums_64 : decode bP_countSums 64 = .ok (.if_icmp .gt 24, 3) := by decide +kernel
theorem dP_countSums_67 : decode bP_countSums 67 = .ok (.lload 5, 2) := by decide +kernel
theorem dP_countSums_69 : decode bP_countSums 69 = .ok (.aload_n 0, 1) := by decide +kernel
theorem dP_countSums_70 : decode bP_countSums 70 = .ok (.getfield 25, 3) := by decide +kernel
theorem dP_countSums_73 : decode bP_countSums 73 = .ok (.iload 4, 2) := by decide +kernel
theorem dP_countSums_75 : decode bP_countSums 75 = .ok (.iload 7, 2) := by decide +kernel
theorem dP_countSums_77 : decode bP_countSums 77 = .ok (.isub, 1) := by decide +kernel
theorem dP_countSums_78 : decode bP_countSums 78 = .ok (.laload, 1) := by decide +kernel
theorem dP_countSums_79 : decode bP_countSums 79 = .ok (.ladd, 1) := by decide +kernel
theorem dP_countSums_80 : decode bP_countSums 80 = .ok (.lstore 5, 2) := by decide +kernel
theorem dP_countSums_82 : decode bP_countSums 82 = .ok (.iinc 7 1, 3) := by decide +kernel
theorem dP_countSums_85 : decode bP_countSums 85 = .ok (.goto (-31), 3) := by decide +kernel
theorem dP_countSums_88 : decode bP_countSums 88 = .ok (.aload_n 0, 1) := by decide +kernel
theorem dP_countSums_89 : decode bP_countSums 89 = .ok (.getfield 25, 3) := by decide +kernel
theorem dP_countSums_92 : decode bP_countSums 92 = .ok (.iload 4, 2) := by decide +kernel
theorem dP_countSums_94 : decode bP_countSums 94 = .ok (.lload 5, 2) := by decide +kernel
theorem dP_countSums_96 : decode bP_countSums 96 = .ok (.lastore, 1) := by decide +kernel
theorem dP_countSums_97 : decode bP_countSums 97 = .ok (.iinc 4 (-1), 3) := by decide +kernel
theorem dP_countSums_100 : decode bP_countSums 100 = .ok (.goto (-57), 3) := by decide +kernel
theorem dP_countSums_103 : decode bP_countSums 103 = .ok (.iinc 3 1, 3) := by decide +kernel
theorem dP_countSums_106 : decode bP_countSums 106 = .ok (.goto (-73), 3) := by decide +kernel
theorem dP_countSums_109 : decode bP_countSums 109 = .ok (.return_, 1) := by decide +kernel
