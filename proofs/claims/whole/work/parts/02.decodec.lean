theorem dM_power_0 : decode bM_power 0 = .ok (.lconst 1, 1) := by decide +kernel
theorem dM_power_1 : decode bM_power 1 = .ok (.lstore_n 3, 1) := by decide +kernel
theorem dM_power_2 : decode bM_power 2 = .ok (.iconst 0, 1) := by decide +kernel
theorem dM_power_3 : decode bM_power 3 = .ok (.istore 5, 2) := by decide +kernel
theorem dM_power_5 : decode bM_power 5 = .ok (.iload 5, 2) := by decide +kernel
theorem dM_power_7 : decode bM_power 7 = .ok (.iload_n 2, 1) := by decide +kernel
theorem dM_power_8 : decode bM_power 8 = .ok (.if_icmp .ge 13, 3) := by decide +kernel
theorem dM_power_11 : decode bM_power 11 = .ok (.lload_n 3, 1) := by decide +kernel
theorem dM_power_12 : decode bM_power 12 = .ok (.lload_n 0, 1) := by decide +kernel
theorem dM_power_13 : decode bM_power 13 = .ok (.lmul, 1) := by decide +kernel
theorem dM_power_14 : decode bM_power 14 = .ok (.lstore_n 3, 1) := by decide +kernel
theorem dM_power_15 : decode bM_power 15 = .ok (.iinc 5 1, 3) := by decide +kernel
theorem dM_power_18 : decode bM_power 18 = .ok (.goto (-13), 3) := by decide +kernel
theorem dM_power_21 : decode bM_power 21 = .ok (.lload_n 3, 1) := by decide +kernel
theorem dM_power_22 : decode bM_power 22 = .ok (.lreturn, 1) := by decide +kernel
theorem dM_reduced_0 : decode bM_reduced 0 = .ok (.lload_n 2, 1) := by decide +kernel
theorem dM_reduced_1 : decode bM_reduced 1 = .ok (.lstore 5, 2) := by decide +kernel
theorem dM_reduced_3 : decode bM_reduced 3 = .ok (.lload_n 0, 1) := by decide +kernel
theorem dM_reduced_4 : decode bM_reduced 4 = .ok (.lstore 7, 2) := by decide +kernel
theorem dM_reduced_6 : decode bM_reduced 6 = .ok (.lload 7, 2) := by decide +kernel
theorem dM_reduced_8 : decode bM_reduced 8 = .ok (.lconst 0, 1) := by decide +kernel
theorem dM_reduced_9 : decode bM_reduced 9 = .ok (.lcmp, 1) := by decide +kernel
theorem dM_reduced_10 : decode bM_reduced 10 = .ok (.ifCond .le 21, 3) := by decide +kernel
theorem dM_reduced_13 : decode bM_reduced 13 = .ok (.lload 5, 2) := by decide +kernel
theorem dM_reduced_15 : decode bM_reduced 15 = .ok (.lload 7, 2) := by decide +kernel
theorem dM_reduced_17 : decode bM_reduced 17 = .ok (.lrem, 1) := by decide +kernel
theorem dM_reduced_18 : decode bM_reduced 18 = .ok (.lstore 9, 2) := by decide +kernel
theorem dM_reduced_20 : decode bM_reduced 20 = .ok (.lload 7, 2) := by decide +kernel
theorem dM_reduced_22 : decode bM_reduced 22 = .ok (.lstore 5, 2) := by decide +kernel
theorem dM_reduced_24 : decode bM_reduced 24 = .ok (.lload 9, 2) := by decide +kernel
theorem dM_reduced_26 : decode bM_reduced 26 = .ok (.lstore 7, 2) := by decide +kernel
theorem dM_reduced_28 : decode bM_reduced 28 = .ok (.goto (-22), 3) := by decide +kernel
theorem dM_reduced_31 : decode bM_reduced 31 = .ok (.iload 4, 2) := by decide +kernel
theorem dM_reduced_33 : decode bM_reduced 33 = .ok (.ifCond .ne 10, 3) := by decide +kernel
theorem dM_reduced_36 : decode bM_reduced 36 = .ok (.lload_n 0, 1) := by decide +kernel
theorem dM_reduced_37 : decode bM_reduced 37 = .ok (.lload 5, 2) := by decide +kernel
theorem dM_reduced_39 : decode bM_reduced 39 = .ok (.ldiv, 1) := by decide +kernel
theorem dM_reduced_40 : decode bM_reduced 40 = .ok (.goto 7, 3) := by decide +kernel
theorem dM_reduced_43 : decode bM_reduced 43 = .ok (.lload_n 2, 1) := by decide +kernel
theorem dM_reduced_44 : decode bM_reduced 44 = .ok (.lload 5, 2) := by decide +kernel
theorem dM_reduced_46 : decode bM_reduced 46 = .ok (.ldiv, 1) := by decide +kernel
theorem dM_reduced_47 : decode bM_reduced 47 = .ok (.lreturn, 1) := by decide +kernel
theorem dM_rank_0 : decode bM_rank 0 = .ok (.aload_n 0, 1) := by decide +kernel
theorem dM_rank_1 : decode bM_rank 1 = .ok (.iconst 0, 1) := by decide +kernel
theorem dM_rank_2 : decode bM_rank 2 = .ok (.putfield 39, 3) := by decide +kernel
theorem dM_rank_5 : decode bM_rank 5 = .ok (.aload_n 0, 1) := by decide +kernel
theorem dM_rank_6 : decode bM_rank 6 = .ok (.iload_n 1, 1) := by decide +kernel
theorem dM_rank_7 : decode bM_rank 7 = .ok (.invokevirtual 61, 3) := by decide +kernel
theorem dM_rank_10 : decode bM_rank 10 = .ok (.ifCond .eq 52, 3) := by decide +kernel
theorem dM_rank_13 : decode bM_rank 13 = .ok (.aload_n 0, 1) := by decide +kernel
theorem dM_rank_14 : decode bM_rank 14 = .ok (.getfield 9, 3) := by decide +kernel
theorem dM_rank_17 : decode bM_rank 17 = .ok (.iload_n 1, 1) := by decide +kernel
theorem dM_rank_18 : decode bM_rank 18 = .ok (.iaload, 1) := by decide +kernel
theorem dM_rank_19 : decode bM_rank 19 = .ok (.iconst 3, 1) := by decide +kernel
theorem dM_rank_20 : decode bM_rank 20 = .ok (.if_icmp .ne 42, 3) := by decide +kernel
theorem dM_rank_23 : decode bM_rank 23 = .ok (.aload_n 0, 1) := by decide +kernel
theorem dM_rank_24 : decode bM_rank 24 = .ok (.iload_n 2, 1) := by decide +kernel
theorem dM_rank_25 : decode bM_rank 25 = .ok (.invokevirtual 65, 3) := by decide +kernel
theorem dM_rank_28 : decode bM_rank 28 = .ok (.ifCond .eq 34, 3) := by decide +kernel
theorem dM_rank_31 : decode bM_rank 31 = .ok (.iload_n 3, 1) := by decide +kernel
theorem dM_rank_32 : decode bM_rank 32 = .ok (.ifCond .lt 30, 3) := by decide +kernel
theorem dM_rank_35 : decode bM_rank 35 = .ok (.iload_n 3, 1) := by decide +kernel
theorem dM_rank_36 : decode bM_rank 36 = .ok (.aload_n 0, 1) := by decide +kernel
theorem dM_rank_37 : decode bM_rank 37 = .ok (.getfield 13, 3) := by decide +kernel
theorem dM_rank_40 : decode bM_rank 40 = .ok (.iload_n 1, 1) := by decide +kernel
theorem dM_rank_41 : decode bM_rank 41 = .ok (.iaload, 1) := by decide +kernel
theorem dM_rank_42 : decode bM_rank 42 = .ok (.if_icmp .ge 20, 3) := by decide +kernel
theorem dM_rank_45 : decode bM_rank 45 = .ok (.iload 4, 2) := by decide +kernel
theorem dM_rank_47 : decode bM_rank 47 = .ok (.iconst 1, 1) := by decide +kernel
theorem dM_rank_48 : decode bM_rank 48 = .ok (.if_icmp .lt 14, 3) := by decide +kernel
theorem dM_rank_51 : decode bM_rank 51 = .ok (.iload 4, 2) := by decide +kernel
theorem dM_rank_53 : decode bM_rank 53 = .ok (.aload_n 0, 1) := by decide +kernel
theorem dM_rank_54 : decode bM_rank 54 = .ok (.getfield 13, 3) := by decide +kernel
theorem dM_rank_57 : decode bM_rank 57 = .ok (.iload_n 1, 1) := by decide +kernel
theorem dM_rank_58 : decode bM_rank 58 = .ok (.iaload, 1) := by decide +kernel
theorem dM_rank_59 : decode bM_rank 59 = .ok (.if_icmp .le 5, 3) := by decide +kernel
theorem dM_rank_62 : decode bM_rank 62 = .ok (.iconst 0, 1) := by decide +kernel
theorem dM_rank_63 : decode bM_rank 63 = .ok (.ireturn, 1) := by decide +kernel
theorem dM_rank_64 : decode bM_rank 64 = .ok (.iconst 5, 1) := by decide +kernel
theorem dM_rank_65 : decode bM_rank 65 = .ok (.bipush 26, 2) := by decide +kernel
theorem dM_rank_67 : decode bM_rank 67 = .ok (.iload_n 1, 1) := by decide +kernel
theorem dM_rank_68 : decode bM_rank 68 = .ok (.imul, 1) := by decide +kernel
theorem dM_rank_69 : decode bM_rank 69 = .ok (.iload_n 2, 1) := by decide +kernel
theorem dM_rank_70 : decode bM_rank 70 = .ok (.iadd, 1) := by decide +kernel
theorem dM_rank_71 : decode bM_rank 71 = .ok (.imul, 1) := by decide +kernel
theorem dM_rank_72 : decode bM_rank 72 = .ok (.istore 5, 2) := by decide +kernel
theorem dM_rank_74 : decode bM_rank 74 = .ok (.aload_n 0, 1) := by decide +kernel
theorem dM_rank_75 : decode bM_rank 75 = .ok (.getfield 19, 3) := by decide +kernel
theorem dM_rank_78 : decode bM_rank 78 = .ok (.iload 5, 2) := by decide +kernel
theorem dM_rank_80 : decode bM_rank 80 = .ok (.iload_n 3, 1) := by decide +kernel
theorem dM_rank_81 : decode bM_rank 81 = .ok (.iadd, 1) := by decide +kernel
theorem dM_rank_82 : decode bM_rank 82 = .ok (.iaload, 1) := by decide +kernel
theorem dM_rank_83 : decode bM_rank 83 = .ok (.ifCond .ne 7, 3) := by decide +kernel
theorem dM_rank_86 : decode bM_rank 86 = .ok (.iconst 1, 1) := by decide +kernel
theorem dM_rank_87 : decode bM_rank 87 = .ok (.goto 4, 3) := by decide +kernel
theorem dM_rank_90 : decode bM_rank 90 = .ok (.iconst 0, 1) := by decide +kernel
theorem dM_rank_91 : decode bM_rank 91 = .ok (.istore 6, 2) := by decide +kernel
theorem dM_rank_93 : decode bM_rank 93 = .ok (.iconst 0, 1) := by decide +kernel
theorem dM_rank_94 : decode bM_rank 94 = .ok (.istore 7, 2) := by decide +kernel
theorem dM_rank_96 : decode bM_rank 96 = .ok (.iload 7, 2) := by decide +kernel
theorem dM_rank_98 : decode bM_rank 98 = .ok (.iconst 5, 1) := by decide +kernel
theorem dM_rank_99 : decode bM_rank 99 = .ok (.if_icmp .ge 36, 3) := by decide +kernel
theorem dM_rank_102 : decode bM_rank 102 = .ok (.iload 6, 2) := by decide +kernel
theorem dM_rank_104 : decode bM_rank 104 = .ok (.ifCond .eq 22, 3) := by decide +kernel
theorem dM_rank_107 : decode bM_rank 107 = .ok (.aload_n 0, 1) := by decide +kernel
theorem dM_rank_108 : decode bM_rank 108 = .ok (.getfield 19, 3) := by decide +kernel
theorem dM_rank_111 : decode bM_rank 111 = .ok (.iload 5, 2) := by decide +kernel
theorem dM_rank_113 : decode bM_rank 113 = .ok (.iload 7, 2) := by decide +kernel
theorem dM_rank_115 : decode bM_rank 115 = .ok (.iadd, 1) := by decide +kernel
theorem dM_rank_116 : decode bM_rank 116 = .ok (.iaload, 1) := by decide +kernel
theorem dM_rank_117 : decode bM_rank 117 = .ok (.iload 4, 2) := by decide +kernel
theorem dM_rank_119 : decode bM_rank 119 = .ok (.if_icmp .eq 7, 3) := by decide +kernel
theorem dM_rank_122 : decode bM_rank 122 = .ok (.iconst 1, 1) := by decide +kernel
theorem dM_rank_123 : decode bM_rank 123 = .ok (.goto 4, 3) := by decide +kernel
theorem dM_rank_126 : decode bM_rank 126 = .ok (.iconst 0, 1) := by decide +kernel
theorem dM_rank_127 : decode bM_rank 127 = .ok (.istore 6, 2) := by decide +kernel
theorem dM_rank_129 : decode bM_rank 129 = .ok (.iinc 7 1, 3) := by decide +kernel
theorem dM_rank_132 : decode bM_rank 132 = .ok (.goto (-36), 3) := by decide +kernel
theorem dM_rank_135 : decode bM_rank 135 = .ok (.iload 6, 2) := by decide +kernel
theorem dM_rank_137 : decode bM_rank 137 = .ok (.ifCond .eq 14, 3) := by decide +kernel
theorem dM_rank_140 : decode bM_rank 140 = .ok (.aload_n 0, 1) := by decide +kernel
theorem dM_rank_141 : decode bM_rank 141 = .ok (.getfield 19, 3) := by decide +kernel
theorem dM_rank_144 : decode bM_rank 144 = .ok (.iload 5, 2) := by decide +kernel
theorem dM_rank_146 : decode bM_rank 146 = .ok (.iload_n 3, 1) := by decide +kernel
theorem dM_rank_147 : decode bM_rank 147 = .ok (.iadd, 1) := by decide +kernel
theorem dM_rank_148 : decode bM_rank 148 = .ok (.iload 4, 2) := by decide +kernel
theorem dM_rank_150 : decode bM_rank 150 = .ok (.iastore, 1) := by decide +kernel
theorem dM_rank_151 : decode bM_rank 151 = .ok (.iload 6, 2) := by decide +kernel
theorem dM_rank_153 : decode bM_rank 153 = .ok (.ireturn, 1) := by decide +kernel
theorem dM_permuted_0 : decode bM_permuted 0 = .ok (.aload_n 0, 1) := by decide +kernel
theorem dM_permuted_1 : decode bM_permuted 1 = .ok (.iconst 0, 1) := by decide +kernel
theorem dM_permuted_2 : decode bM_permuted 2 = .ok (.putfield 39, 3) := by decide +kernel
theorem dM_permuted_5 : decode bM_permuted 5 = .ok (.aload_n 0, 1) := by decide +kernel
theorem dM_permuted_6 : decode bM_permuted 6 = .ok (.iload_n 1, 1) := by decide +kernel
theorem dM_permuted_7 : decode bM_permuted 7 = .ok (.invokevirtual 61, 3) := by decide +kernel
theorem dM_permuted_10 : decode bM_permuted 10 = .ok (.ifCond .eq 22, 3) := by decide +kernel
theorem dM_permuted_13 : decode bM_permuted 13 = .ok (.aload_n 0, 1) := by decide +kernel
theorem dM_permuted_14 : decode bM_permuted 14 = .ok (.getfield 9, 3) := by decide +kernel
theorem dM_permuted_17 : decode bM_permuted 17 = .ok (.iload_n 1, 1) := by decide +kernel
theorem dM_permuted_18 : decode bM_permuted 18 = .ok (.iaload, 1) := by decide +kernel
theorem dM_permuted_19 : decode bM_permuted 19 = .ok (.iconst 3, 1) := by decide +kernel
theorem dM_permuted_20 : decode bM_permuted 20 = .ok (.if_icmp .ne 12, 3) := by decide +kernel
theorem dM_permuted_23 : decode bM_permuted 23 = .ok (.iload_n 2, 1) := by decide +kernel
theorem dM_permuted_24 : decode bM_permuted 24 = .ok (.ifCond .lt 8, 3) := by decide +kernel
theorem dM_permuted_27 : decode bM_permuted 27 = .ok (.iload_n 2, 1) := by decide +kernel
theorem dM_permuted_28 : decode bM_permuted 28 = .ok (.iconst 1, 1) := by decide +kernel
theorem dM_permuted_29 : decode bM_permuted 29 = .ok (.if_icmp .le 7, 3) := by decide +kernel
theorem dM_permuted_32 : decode bM_permuted 32 = .ok (.ldc2_w 98, 3) := by decide +kernel
theorem dM_permuted_35 : decode bM_permuted 35 = .ok (.lreturn, 1) := by decide +kernel
theorem dM_permuted_36 : decode bM_permuted 36 = .ok (.aload_n 0, 1) := by decide +kernel
theorem dM_permuted_37 : decode bM_permuted 37 = .ok (.getfield 13, 3) := by decide +kernel
theorem dM_permuted_40 : decode bM_permuted 40 = .ok (.iload_n 1, 1) := by decide +kernel
theorem dM_permuted_41 : decode bM_permuted 41 = .ok (.iaload, 1) := by decide +kernel
theorem dM_permuted_42 : decode bM_permuted 42 = .ok (.istore_n 3, 1) := by decide +kernel
theorem dM_permuted_43 : decode bM_permuted 43 = .ok (.iconst 0, 1) := by decide +kernel
theorem dM_permuted_44 : decode bM_permuted 44 = .ok (.istore 4, 2) := by decide +kernel
theorem dM_permuted_46 : decode bM_permuted 46 = .ok (.iconst 0, 1) := by decide +kernel
theorem dM_permuted_47 : decode bM_permuted 47 = .ok (.istore 5, 2) := by decide +kernel
theorem dM_permuted_49 : decode bM_permuted 49 = .ok (.iconst 0, 1) := by decide +kernel
theorem dM_permuted_50 : decode bM_permuted 50 = .ok (.istore 6, 2) := by decide +kernel
theorem dM_permuted_52 : decode bM_permuted 52 = .ok (.iload 6, 2) := by decide +kernel
theorem dM_permuted_54 : decode bM_permuted 54 = .ok (.aload_n 0, 1) := by decide +kernel
theorem dM_permuted_55 : decode bM_permuted 55 = .ok (.getfield 43, 3) := by decide +kernel
theorem dM_permuted_58 : decode bM_permuted 58 = .ok (.if_icmp .ge 99, 3) := by decide +kernel
theorem dM_permuted_61 : decode bM_permuted 61 = .ok (.iconst 5, 1) := by decide +kernel
theorem dM_permuted_62 : decode bM_permuted 62 = .ok (.bipush 26, 2) := by decide +kernel
theorem dM_permuted_64 : decode bM_permuted 64 = .ok (.iload_n 1, 1) := by decide +kernel
theorem dM_permuted_65 : decode bM_permuted 65 = .ok (.imul, 1) := by decide +kernel
theorem dM_permuted_66 : decode bM_permuted 66 = .ok (.iload 6, 2) := by decide +kernel
theorem dM_permuted_68 : decode bM_permuted 68 = .ok (.iadd, 1) := by decide +kernel
theorem dM_permuted_69 : decode bM_permuted 69 = .ok (.imul, 1) := by decide +kernel
theorem dM_permuted_70 : decode bM_permuted 70 = .ok (.istore 7, 2) := by decide +kernel
theorem dM_permuted_72 : decode bM_permuted 72 = .ok (.iconst 1, 1) := by decide +kernel
theorem dM_permuted_73 : decode bM_permuted 73 = .ok (.istore 8, 2) := by decide +kernel
theorem dM_permuted_75 : decode bM_permuted 75 = .ok (.iconst 0, 1) := by decide +kernel
theorem dM_permuted_76 : decode bM_permuted 76 = .ok (.istore 9, 2) := by decide +kernel
theorem dM_permuted_78 : decode bM_permuted 78 = .ok (.iload 9, 2) := by decide +kernel
theorem dM_permuted_80 : decode bM_permuted 80 = .ok (.iload_n 3, 1) := by decide +kernel
theorem dM_permuted_81 : decode bM_permuted 81 = .ok (.if_icmp .ge 34, 3) := by decide +kernel
theorem dM_permuted_84 : decode bM_permuted 84 = .ok (.iload 8, 2) := by decide +kernel
theorem dM_permuted_86 : decode bM_permuted 86 = .ok (.ifCond .eq 20, 3) := by decide +kernel
theorem dM_permuted_89 : decode bM_permuted 89 = .ok (.aload_n 0, 1) := by decide +kernel
theorem dM_permuted_90 : decode bM_permuted 90 = .ok (.getfield 19, 3) := by decide +kernel
theorem dM_permuted_93 : decode bM_permuted 93 = .ok (.iload 7, 2) := by decide +kernel
theorem dM_permuted_95 : decode bM_permuted 95 = .ok (.iload 9, 2) := by decide +kernel
theorem dM_permuted_97 : decode bM_permuted 97 = .ok (.iadd, 1) := by decide +kernel
theorem dM_permuted_98 : decode bM_permuted 98 = .ok (.iaload, 1) := by decide +kernel
theorem dM_permuted_99 : decode bM_permuted 99 = .ok (.ifCond .le 7, 3) := by decide +kernel
theorem dM_permuted_102 : decode bM_permuted 102 = .ok (.iconst 1, 1) := by decide +kernel
theorem dM_permuted_103 : decode bM_permuted 103 = .ok (.goto 4, 3) := by decide +kernel
theorem dM_permuted_106 : decode bM_permuted 106 = .ok (.iconst 0, 1) := by decide +kernel
theorem dM_permuted_107 : decode bM_permuted 107 = .ok (.istore 8, 2) := by decide +kernel
theorem dM_permuted_109 : decode bM_permuted 109 = .ok (.iinc 9 1, 3) := by decide +kernel
theorem dM_permuted_112 : decode bM_permuted 112 = .ok (.goto (-34), 3) := by decide +kernel
theorem dM_permuted_115 : decode bM_permuted 115 = .ok (.iload 4, 2) := by decide +kernel
theorem dM_permuted_117 : decode bM_permuted 117 = .ok (.iload 8, 2) := by decide +kernel
theorem dM_permuted_119 : decode bM_permuted 119 = .ok (.ifCond .eq 7, 3) := by decide +kernel
theorem dM_permuted_122 : decode bM_permuted 122 = .ok (.iconst 1, 1) := by decide +kernel
theorem dM_permuted_123 : decode bM_permuted 123 = .ok (.goto 4, 3) := by decide +kernel
theorem dM_permuted_126 : decode bM_permuted 126 = .ok (.iconst 0, 1) := by decide +kernel
theorem dM_permuted_127 : decode bM_permuted 127 = .ok (.iadd, 1) := by decide +kernel
theorem dM_permuted_128 : decode bM_permuted 128 = .ok (.istore 4, 2) := by decide +kernel
theorem dM_permuted_130 : decode bM_permuted 130 = .ok (.iload 5, 2) := by decide +kernel
theorem dM_permuted_132 : decode bM_permuted 132 = .ok (.iload 8, 2) := by decide +kernel
theorem dM_permuted_134 : decode bM_permuted 134 = .ok (.ifCond .eq 13, 3) := by decide +kernel
theorem dM_permuted_137 : decode bM_permuted 137 = .ok (.aload_n 0, 1) := by decide +kernel
theorem dM_permuted_138 : decode bM_permuted 138 = .ok (.getfield 19, 3) := by decide +kernel
theorem dM_permuted_141 : decode bM_permuted 141 = .ok (.iload 7, 2) := by decide +kernel
theorem dM_permuted_143 : decode bM_permuted 143 = .ok (.iaload, 1) := by decide +kernel
theorem dM_permuted_144 : decode bM_permuted 144 = .ok (.goto 4, 3) := by decide +kernel
theorem dM_permuted_147 : decode bM_permuted 147 = .ok (.iconst 0, 1) := by decide +kernel
theorem dM_permuted_148 : decode bM_permuted 148 = .ok (.iadd, 1) := by decide +kernel
theorem dM_permuted_149 : decode bM_permuted 149 = .ok (.istore 5, 2) := by decide +kernel
theorem dM_permuted_151 : decode bM_permuted 151 = .ok (.iinc 6 1, 3) := by decide +kernel
theorem dM_permuted_154 : decode bM_permuted 154 = .ok (.goto (-102), 3) := by decide +kernel
theorem dM_permuted_157 : decode bM_permuted 157 = .ok (.iload 4, 2) := by decide +kernel
theorem dM_permuted_159 : decode bM_permuted 159 = .ok (.ifCond .ne 7, 3) := by decide +kernel
theorem dM_permuted_162 : decode bM_permuted 162 = .ok (.ldc2_w 98, 3) := by decide +kernel
theorem dM_permuted_165 : decode bM_permuted 165 = .ok (.lreturn, 1) := by decide +kernel
theorem dM_permuted_166 : decode bM_permuted 166 = .ok (.iconst 0, 1) := by decide +kernel
theorem dM_permuted_167 : decode bM_permuted 167 = .ok (.istore 6, 2) := by decide +kernel
theorem dM_permuted_169 : decode bM_permuted 169 = .ok (.iload 6, 2) := by decide +kernel
theorem dM_permuted_171 : decode bM_permuted 171 = .ok (.iconst 5, 1) := by decide +kernel
theorem dM_permuted_172 : decode bM_permuted 172 = .ok (.iload 4, 2) := by decide +kernel
theorem dM_permuted_174 : decode bM_permuted 174 = .ok (.imul, 1) := by decide +kernel
theorem dM_permuted_175 : decode bM_permuted 175 = .ok (.if_icmp .gt 26, 3) := by decide +kernel
theorem dM_permuted_178 : decode bM_permuted 178 = .ok (.aload_n 0, 1) := by decide +kernel
theorem dM_permuted_179 : decode bM_permuted 179 = .ok (.getfield 28, 3) := by decide +kernel
theorem dM_permuted_182 : decode bM_permuted 182 = .ok (.iload 6, 2) := by decide +kernel
theorem dM_permuted_184 : decode bM_permuted 184 = .ok (.iload 6, 2) := by decide +kernel
theorem dM_permuted_186 : decode bM_permuted 186 = .ok (.ifCond .ne 7, 3) := by decide +kernel
theorem dM_permuted_189 : decode bM_permuted 189 = .ok (.lconst 1, 1) := by decide +kernel
theorem dM_permuted_190 : decode bM_permuted 190 = .ok (.goto 4, 3) := by decide +kernel
theorem dM_permuted_193 : decode bM_permuted 193 = .ok (.lconst 0, 1) := by decide +kernel
theorem dM_permuted_194 : decode bM_permuted 194 = .ok (.lastore, 1) := by decide +kernel
theorem dM_permuted_195 : decode bM_permuted 195 = .ok (.iinc 6 1, 3) := by decide +kernel
theorem dM_permuted_198 : decode bM_permuted 198 = .ok (.goto (-29), 3) := by decide +kernel
theorem dM_permuted_201 : decode bM_permuted 201 = .ok (.iconst 0, 1) := by decide +kernel
theorem dM_permuted_202 : decode bM_permuted 202 = .ok (.istore 6, 2) := by decide +kernel
theorem dM_permuted_204 : decode bM_permuted 204 = .ok (.iload 6, 2) := by decide +kernel
theorem dM_permuted_206 : decode bM_permuted 206 = .ok (.iload 4, 2) := by decide +kernel
theorem dM_permuted_208 : decode bM_permuted 208 = .ok (.if_icmp .ge 96, 3) := by decide +kernel
theorem dM_permuted_211 : decode bM_permuted 211 = .ok (.iconst 0, 1) := by decide +kernel
theorem dM_permuted_212 : decode bM_permuted 212 = .ok (.istore 7, 2) := by decide +kernel
theorem dM_permuted_214 : decode bM_permuted 214 = .ok (.iload 7, 2) := by decide +kernel
theorem dM_permuted_216 : decode bM_permuted 216 = .ok (.iconst 5, 1) := by decide +kernel
theorem dM_permuted_217 : decode bM_permuted 217 = .ok (.iload 4, 2) := by decide +kernel
theorem dM_permuted_219 : decode bM_permuted 219 = .ok (.imul, 1) := by decide +kernel
theorem dM_permuted_220 : decode bM_permuted 220 = .ok (.if_icmp .gt 59, 3) := by decide +kernel
theorem dM_permuted_223 : decode bM_permuted 223 = .ok (.aload_n 0, 1) := by decide +kernel
theorem dM_permuted_224 : decode bM_permuted 224 = .ok (.getfield 32, 3) := by decide +kernel
theorem dM_permuted_227 : decode bM_permuted 227 = .ok (.iload 7, 2) := by decide +kernel
theorem dM_permuted_229 : decode bM_permuted 229 = .ok (.lconst 0, 1) := by decide +kernel
theorem dM_permuted_230 : decode bM_permuted 230 = .ok (.lastore, 1) := by decide +kernel
theorem dM_permuted_231 : decode bM_permuted 231 = .ok (.iconst 1, 1) := by decide +kernel
theorem dM_permuted_232 : decode bM_permuted 232 = .ok (.istore 8, 2) := by decide +kernel
theorem dM_permuted_234 : decode bM_permuted 234 = .ok (.iload 8, 2) := by decide +kernel
theorem dM_permuted_236 : decode bM_permuted 236 = .ok (.iload_n 3, 1) := by decide +kernel
theorem dM_permuted_237 : decode bM_permuted 237 = .ok (.if_icmp .gt 36, 3) := by decide +kernel
theorem dM_permuted_240 : decode bM_permuted 240 = .ok (.iload 8, 2) := by decide +kernel
theorem dM_permuted_242 : decode bM_permuted 242 = .ok (.iload 7, 2) := by decide +kernel
theorem dM_permuted_244 : decode bM_permuted 244 = .ok (.if_icmp .gt 29, 3) := by decide +kernel
theorem dM_permuted_247 : decode bM_permuted 247 = .ok (.aload_n 0, 1) := by decide +kernel
theorem dM_permuted_248 : decode bM_permuted 248 = .ok (.getfield 32, 3) := by decide +kernel
theorem dM_permuted_251 : decode bM_permuted 251 = .ok (.iload 7, 2) := by decide +kernel
theorem dM_permuted_253 : decode bM_permuted 253 = .ok (.dup2, 1) := by decide +kernel
theorem dM_permuted_254 : decode bM_permuted 254 = .ok (.laload, 1) := by decide +kernel
theorem dM_permuted_255 : decode bM_permuted 255 = .ok (.aload_n 0, 1) := by decide +kernel
theorem dM_permuted_256 : decode bM_permuted 256 = .ok (.getfield 28, 3) := by decide +kernel
theorem dM_permuted_259 : decode bM_permuted 259 = .ok (.iload 7, 2) := by decide +kernel
theorem dM_permuted_261 : decode bM_permuted 261 = .ok (.iload 8, 2) := by decide +kernel
theorem dM_permuted_263 : decode bM_permuted 263 = .ok (.isub, 1) := by decide +kernel
theorem dM_permuted_264 : decode bM_permuted 264 = .ok (.laload, 1) := by decide +kernel
theorem dM_permuted_265 : decode bM_permuted 265 = .ok (.ladd, 1) := by decide +kernel
theorem dM_permuted_266 : decode bM_permuted 266 = .ok (.lastore, 1) := by decide +kernel
theorem dM_permuted_267 : decode bM_permuted 267 = .ok (.iinc 8 1, 3) := by decide +kernel
theorem dM_permuted_270 : decode bM_permuted 270 = .ok (.goto (-36), 3) := by decide +kernel
theorem dM_permuted_273 : decode bM_permuted 273 = .ok (.iinc 7 1, 3) := by decide +kernel
theorem dM_permuted_276 : decode bM_permuted 276 = .ok (.goto (-62), 3) := by decide +kernel
theorem dM_permuted_279 : decode bM_permuted 279 = .ok (.aload_n 0, 1) := by decide +kernel
theorem dM_permuted_280 : decode bM_permuted 280 = .ok (.getfield 32, 3) := by decide +kernel
theorem dM_permuted_283 : decode bM_permuted 283 = .ok (.iconst 0, 1) := by decide +kernel
theorem dM_permuted_284 : decode bM_permuted 284 = .ok (.aload_n 0, 1) := by decide +kernel
theorem dM_permuted_285 : decode bM_permuted 285 = .ok (.getfield 28, 3) := by decide +kernel
theorem dM_permuted_288 : decode bM_permuted 288 = .ok (.iconst 0, 1) := by decide +kernel
theorem dM_permuted_289 : decode bM_permuted 289 = .ok (.iconst 5, 1) := by decide +kernel
theorem dM_permuted_290 : decode bM_permuted 290 = .ok (.iload 4, 2) := by decide +kernel
theorem dM_permuted_292 : decode bM_permuted 292 = .ok (.imul, 1) := by decide +kernel
theorem dM_permuted_293 : decode bM_permuted 293 = .ok (.iconst 1, 1) := by decide +kernel
theorem dM_permuted_294 : decode bM_permuted 294 = .ok (.iadd, 1) := by decide +kernel
theorem dM_permuted_295 : decode bM_permuted 295 = .ok (.invokestatic 112, 3) := by decide +kernel
theorem dM_permuted_298 : decode bM_permuted 298 = .ok (.iinc 6 1, 3) := by decide +kernel
theorem dM_permuted_301 : decode bM_permuted 301 = .ok (.goto (-97), 3) := by decide +kernel
theorem dM_permuted_304 : decode bM_permuted 304 = .ok (.iconst 2, 1) := by decide +kernel
theorem dM_permuted_305 : decode bM_permuted 305 = .ok (.iload 5, 2) := by decide +kernel
theorem dM_permuted_307 : decode bM_permuted 307 = .ok (.imul, 1) := by decide +kernel
theorem dM_permuted_308 : decode bM_permuted 308 = .ok (.iload 4, 2) := by decide +kernel
theorem dM_permuted_310 : decode bM_permuted 310 = .ok (.iload_n 3, 1) := by decide +kernel
theorem dM_permuted_311 : decode bM_permuted 311 = .ok (.iconst 1, 1) := by decide +kernel
theorem dM_permuted_312 : decode bM_permuted 312 = .ok (.iadd, 1) := by decide +kernel
theorem dM_permuted_313 : decode bM_permuted 313 = .ok (.imul, 1) := by decide +kernel
theorem dM_permuted_314 : decode bM_permuted 314 = .ok (.isub, 1) := by decide +kernel
theorem dM_permuted_315 : decode bM_permuted 315 = .ok (.invokestatic 118, 3) := by decide +kernel
theorem dM_permuted_318 : decode bM_permuted 318 = .ok (.istore 6, 2) := by decide +kernel
theorem dM_permuted_320 : decode bM_permuted 320 = .ok (.lconst 0, 1) := by decide +kernel
theorem dM_permuted_321 : decode bM_permuted 321 = .ok (.lstore 7, 2) := by decide +kernel
theorem dM_permuted_323 : decode bM_permuted 323 = .ok (.iconst 0, 1) := by decide +kernel
theorem dM_permuted_324 : decode bM_permuted 324 = .ok (.istore 9, 2) := by decide +kernel
theorem dM_permuted_326 : decode bM_permuted 326 = .ok (.iload 9, 2) := by decide +kernel
theorem dM_permuted_328 : decode bM_permuted 328 = .ok (.iconst 5, 1) := by decide +kernel
theorem dM_permuted_329 : decode bM_permuted 329 = .ok (.iload 4, 2) := by decide +kernel
theorem dM_permuted_331 : decode bM_permuted 331 = .ok (.imul, 1) := by decide +kernel
theorem dM_permuted_332 : decode bM_permuted 332 = .ok (.if_icmp .gt 44, 3) := by decide +kernel
theorem dM_permuted_335 : decode bM_permuted 335 = .ok (.lload 7, 2) := by decide +kernel
theorem dM_permuted_337 : decode bM_permuted 337 = .ok (.iconst 2, 1) := by decide +kernel
theorem dM_permuted_338 : decode bM_permuted 338 = .ok (.iload 9, 2) := by decide +kernel
theorem dM_permuted_340 : decode bM_permuted 340 = .ok (.imul, 1) := by decide +kernel
theorem dM_permuted_341 : decode bM_permuted 341 = .ok (.iload 4, 2) := by decide +kernel
theorem dM_permuted_343 : decode bM_permuted 343 = .ok (.iload_n 3, 1) := by decide +kernel
theorem dM_permuted_344 : decode bM_permuted 344 = .ok (.iconst 1, 1) := by decide +kernel
theorem dM_permuted_345 : decode bM_permuted 345 = .ok (.iadd, 1) := by decide +kernel
theorem dM_permuted_346 : decode bM_permuted 346 = .ok (.imul, 1) := by decide +kernel
theorem dM_permuted_347 : decode bM_permuted 347 = .ok (.isub, 1) := by decide +kernel
theorem dM_permuted_348 : decode bM_permuted 348 = .ok (.invokestatic 118, 3) := by decide +kernel
theorem dM_permuted_351 : decode bM_permuted 351 = .ok (.iload 6, 2) := by decide +kernel
theorem dM_permuted_353 : decode bM_permuted 353 = .ok (.if_icmp .lt 13, 3) := by decide +kernel
theorem dM_permuted_356 : decode bM_permuted 356 = .ok (.aload_n 0, 1) := by decide +kernel
theorem dM_permuted_357 : decode bM_permuted 357 = .ok (.getfield 28, 3) := by decide +kernel
theorem dM_permuted_360 : decode bM_permuted 360 = .ok (.iload 9, 2) := by decide +kernel
theorem dM_permuted_362 : decode bM_permuted 362 = .ok (.laload, 1) := by decide +kernel
theorem dM_permuted_363 : decode bM_permuted 363 = .ok (.goto 4, 3) := by decide +kernel
theorem dM_permuted_366 : decode bM_permuted 366 = .ok (.lconst 0, 1) := by decide +kernel
theorem dM_permuted_367 : decode bM_permuted 367 = .ok (.ladd, 1) := by decide +kernel
theorem dM_permuted_368 : decode bM_permuted 368 = .ok (.lstore 7, 2) := by decide +kernel
theorem dM_permuted_370 : decode bM_permuted 370 = .ok (.iinc 9 1, 3) := by decide +kernel
theorem dM_permuted_373 : decode bM_permuted 373 = .ok (.goto (-47), 3) := by decide +kernel
theorem dM_permuted_376 : decode bM_permuted 376 = .ok (.lload 7, 2) := by decide +kernel
theorem dM_permuted_378 : decode bM_permuted 378 = .ok (.iload_n 3, 1) := by decide +kernel
theorem dM_permuted_379 : decode bM_permuted 379 = .ok (.i2l, 1) := by decide +kernel
theorem dM_permuted_380 : decode bM_permuted 380 = .ok (.iload 4, 2) := by decide +kernel
theorem dM_permuted_382 : decode bM_permuted 382 = .ok (.invokestatic 104, 3) := by decide +kernel
theorem dM_permuted_385 : decode bM_permuted 385 = .ok (.iload_n 2, 1) := by decide +kernel
theorem dM_permuted_386 : decode bM_permuted 386 = .ok (.invokestatic 108, 3) := by decide +kernel
theorem dM_permuted_389 : decode bM_permuted 389 = .ok (.lreturn, 1) := by decide +kernel
theorem dM_threshold_0 : decode bM_threshold 0 = .ok (.aload_n 0, 1) := by decide +kernel
theorem dM_threshold_1 : decode bM_threshold 1 = .ok (.iconst 0, 1) := by decide +kernel
theorem dM_threshold_2 : decode bM_threshold 2 = .ok (.putfield 39, 3) := by decide +kernel
theorem dM_threshold_5 : decode bM_threshold 5 = .ok (.aload_n 0, 1) := by decide +kernel
theorem dM_threshold_6 : decode bM_threshold 6 = .ok (.iload_n 1, 1) := by decide +kernel
theorem dM_threshold_7 : decode bM_threshold 7 = .ok (.invokevirtual 65, 3) := by decide +kernel
theorem dM_threshold_10 : decode bM_threshold 10 = .ok (.ifCond .ne 7, 3) := by decide +kernel
theorem dM_threshold_13 : decode bM_threshold 13 = .ok (.ldc2_w 125, 3) := by decide +kernel
theorem dM_threshold_16 : decode bM_threshold 16 = .ok (.dreturn, 1) := by decide +kernel
theorem dM_threshold_17 : decode bM_threshold 17 = .ok (.bipush 16, 2) := by decide +kernel
theorem dM_threshold_19 : decode bM_threshold 19 = .ok (.istore_n 2, 1) := by decide +kernel
theorem dM_threshold_20 : decode bM_threshold 20 = .ok (.iconst (-1), 1) := by decide +kernel
theorem dM_threshold_21 : decode bM_threshold 21 = .ok (.istore_n 3, 1) := by decide +kernel
theorem dM_threshold_22 : decode bM_threshold 22 = .ok (.iconst (-1), 1) := by decide +kernel
theorem dM_threshold_23 : decode bM_threshold 23 = .ok (.istore 4, 2) := by decide +kernel
theorem dM_threshold_25 : decode bM_threshold 25 = .ok (.bipush 15, 2) := by decide +kernel
theorem dM_threshold_27 : decode bM_threshold 27 = .ok (.istore 5, 2) := by decide +kernel
theorem dM_threshold_29 : decode bM_threshold 29 = .ok (.iload 5, 2) := by decide +kernel
theorem dM_threshold_31 : decode bM_threshold 31 = .ok (.ifCond .lt 77, 3) := by decide +kernel
theorem dM_threshold_34 : decode bM_threshold 34 = .ok (.aload_n 0, 1) := by decide +kernel
theorem dM_threshold_35 : decode bM_threshold 35 = .ok (.getfield 22, 3) := by decide +kernel
theorem dM_threshold_38 : decode bM_threshold 38 = .ok (.bipush 16, 2) := by decide +kernel
theorem dM_threshold_40 : decode bM_threshold 40 = .ok (.iload_n 1, 1) := by decide +kernel
theorem dM_threshold_41 : decode bM_threshold 41 = .ok (.imul, 1) := by decide +kernel
theorem dM_threshold_42 : decode bM_threshold 42 = .ok (.iload 5, 2) := by decide +kernel
theorem dM_threshold_44 : decode bM_threshold 44 = .ok (.iadd, 1) := by decide +kernel
theorem dM_threshold_45 : decode bM_threshold 45 = .ok (.iaload, 1) := by decide +kernel
theorem dM_threshold_46 : decode bM_threshold 46 = .ok (.istore 6, 2) := by decide +kernel
theorem dM_threshold_48 : decode bM_threshold 48 = .ok (.iload 6, 2) := by decide +kernel
theorem dM_threshold_50 : decode bM_threshold 50 = .ok (.ifCond .le 13, 3) := by decide +kernel
theorem dM_threshold_53 : decode bM_threshold 53 = .ok (.iload 4, 2) := by decide +kernel
theorem dM_threshold_55 : decode bM_threshold 55 = .ok (.ifCond .ge 8, 3) := by decide +kernel
theorem dM_threshold_58 : decode bM_threshold 58 = .ok (.iload 5, 2) := by decide +kernel
theorem dM_threshold_60 : decode bM_threshold 60 = .ok (.goto 5, 3) := by decide +kernel
theorem dM_threshold_63 : decode bM_threshold 63 = .ok (.iload 4, 2) := by decide +kernel
theorem dM_threshold_65 : decode bM_threshold 65 = .ok (.istore 4, 2) := by decide +kernel
theorem dM_threshold_67 : decode bM_threshold 67 = .ok (.iload 6, 2) := by decide +kernel
theorem dM_threshold_69 : decode bM_threshold 69 = .ok (.ifCond .le 33, 3) := by decide +kernel
theorem dM_threshold_72 : decode bM_threshold 72 = .ok (.iload_n 3, 1) := by decide +kernel
theorem dM_threshold_73 : decode bM_threshold 73 = .ok (.ifCond .ge 29, 3) := by decide +kernel
theorem dM_threshold_76 : decode bM_threshold 76 = .ok (.iload 6, 2) := by decide +kernel
theorem dM_threshold_78 : decode bM_threshold 78 = .ok (.iconst 2, 1) := by decide +kernel
theorem dM_threshold_79 : decode bM_threshold 79 = .ok (.if_icmp .ne 8, 3) := by decide +kernel
theorem dM_threshold_82 : decode bM_threshold 82 = .ok (.iload 5, 2) := by decide +kernel
theorem dM_threshold_84 : decode bM_threshold 84 = .ok (.goto 4, 3) := by decide +kernel
theorem dM_threshold_87 : decode bM_threshold 87 = .ok (.iload_n 2, 1) := by decide +kernel
theorem dM_threshold_88 : decode bM_threshold 88 = .ok (.istore_n 2, 1) := by decide +kernel
theorem dM_threshold_89 : decode bM_threshold 89 = .ok (.iload 6, 2) := by decide +kernel
theorem dM_threshold_91 : decode bM_threshold 91 = .ok (.iconst 1, 1) := by decide +kernel
theorem dM_threshold_92 : decode bM_threshold 92 = .ok (.if_icmp .ne 8, 3) := by decide +kernel
theorem dM_threshold_95 : decode bM_threshold 95 = .ok (.iload 5, 2) := by decide +kernel
theorem dM_threshold_97 : decode bM_threshold 97 = .ok (.goto 4, 3) := by decide +kernel
theorem dM_threshold_100 : decode bM_threshold 100 = .ok (.iconst (-1), 1) := by decide +kernel
theorem dM_threshold_101 : decode bM_threshold 101 = .ok (.istore_n 3, 1) := by decide +kernel
theorem dM_threshold_102 : decode bM_threshold 102 = .ok (.iinc 5 (-1), 3) := by decide +kernel
theorem dM_threshold_105 : decode bM_threshold 105 = .ok (.goto (-76), 3) := by decide +kernel
theorem dM_threshold_108 : decode bM_threshold 108 = .ok (.iload 4, 2) := by decide +kernel
theorem dM_threshold_110 : decode bM_threshold 110 = .ok (.ifCond .ge 5, 3) := by decide +kernel
theorem dM_threshold_113 : decode bM_threshold 113 = .ok (.dconst 0, 1) := by decide +kernel
theorem dM_threshold_114 : decode bM_threshold 114 = .ok (.dreturn, 1) := by decide +kernel
theorem dM_threshold_115 : decode bM_threshold 115 = .ok (.iload_n 2, 1) := by decide +kernel
theorem dM_threshold_116 : decode bM_threshold 116 = .ok (.bipush 16, 2) := by decide +kernel
theorem dM_threshold_118 : decode bM_threshold 118 = .ok (.if_icmp .ne 13, 3) := by decide +kernel
theorem dM_threshold_121 : decode bM_threshold 121 = .ok (.ldc2_w 127, 3) := by decide +kernel
theorem dM_threshold_124 : decode bM_threshold 124 = .ok (.iload 4, 2) := by decide +kernel
theorem dM_threshold_126 : decode bM_threshold 126 = .ok (.invokestatic 129, 3) := by decide +kernel
theorem dM_threshold_129 : decode bM_threshold 129 = .ok (.dmul, 1) := by decide +kernel
theorem dM_threshold_130 : decode bM_threshold 130 = .ok (.dreturn, 1) := by decide +kernel
theorem dM_threshold_131 : decode bM_threshold 131 = .ok (.iload_n 3, 1) := by decide +kernel
theorem dM_threshold_132 : decode bM_threshold 132 = .ok (.ifCond .ge 14, 3) := by decide +kernel
theorem dM_threshold_135 : decode bM_threshold 135 = .ok (.iload_n 2, 1) := by decide +kernel
theorem dM_threshold_136 : decode bM_threshold 136 = .ok (.invokestatic 129, 3) := by decide +kernel
theorem dM_threshold_139 : decode bM_threshold 139 = .ok (.ldc2_w 127, 3) := by decide +kernel
theorem dM_threshold_142 : decode bM_threshold 142 = .ok (.ddiv, 1) := by decide +kernel
theorem dM_threshold_143 : decode bM_threshold 143 = .ok (.goto 16, 3) := by decide +kernel
theorem dM_threshold_146 : decode bM_threshold 146 = .ok (.iload_n 2, 1) := by decide +kernel
theorem dM_threshold_147 : decode bM_threshold 147 = .ok (.invokestatic 129, 3) := by decide +kernel
theorem dM_threshold_150 : decode bM_threshold 150 = .ok (.iload_n 3, 1) := by decide +kernel
theorem dM_threshold_151 : decode bM_threshold 151 = .ok (.invokestatic 129, 3) := by decide +kernel
theorem dM_threshold_154 : decode bM_threshold 154 = .ok (.dadd, 1) := by decide +kernel
theorem dM_threshold_155 : decode bM_threshold 155 = .ok (.ldc2_w 127, 3) := by decide +kernel
theorem dM_threshold_158 : decode bM_threshold 158 = .ok (.ddiv, 1) := by decide +kernel
theorem dM_threshold_159 : decode bM_threshold 159 = .ok (.dreturn, 1) := by decide +kernel
theorem dM_strength_0 : decode bM_strength 0 = .ok (.iconst 1, 1) := by decide +kernel
theorem dM_strength_1 : decode bM_strength 1 = .ok (.iload_n 0, 1) := by decide +kernel
theorem dM_strength_2 : decode bM_strength 2 = .ok (.ishl, 1) := by decide +kernel
theorem dM_strength_3 : decode bM_strength 3 = .ok (.i2d, 1) := by decide +kernel
theorem dM_strength_4 : decode bM_strength 4 = .ok (.ldc2_w 123, 3) := by decide +kernel
theorem dM_strength_7 : decode bM_strength 7 = .ok (.ddiv, 1) := by decide +kernel
theorem dM_strength_8 : decode bM_strength 8 = .ok (.dreturn, 1) := by decide +kernel
theorem dM_level_0 : decode bM_level 0 = .ok (.aload_n 0, 1) := by decide +kernel
theorem dM_level_1 : decode bM_level 1 = .ok (.iconst 0, 1) := by decide +kernel
theorem dM_level_2 : decode bM_level 2 = .ok (.putfield 39, 3) := by decide +kernel
theorem dM_level_5 : decode bM_level 5 = .ok (.aload_n 0, 1) := by decide +kernel
theorem dM_level_6 : decode bM_level 6 = .ok (.iload_n 1, 1) := by decide +kernel
theorem dM_level_7 : decode bM_level 7 = .ok (.invokevirtual 65, 3) := by decide +kernel
theorem dM_level_10 : decode bM_level 10 = .ok (.ifCond .eq 13, 3) := by decide +kernel
theorem dM_level_13 : decode bM_level 13 = .ok (.iload_n 2, 1) := by decide +kernel
theorem dM_level_14 : decode bM_level 14 = .ok (.ifCond .lt 9, 3) := by decide +kernel
theorem dM_level_17 : decode bM_level 17 = .ok (.iload_n 2, 1) := by decide +kernel
theorem dM_level_18 : decode bM_level 18 = .ok (.bipush 16, 2) := by decide +kernel
theorem dM_level_20 : decode bM_level 20 = .ok (.if_icmp .lt 5, 3) := by decide +kernel
theorem dM_level_23 : decode bM_level 23 = .ok (.iconst 0, 1) := by decide +kernel
theorem dM_level_24 : decode bM_level 24 = .ok (.ireturn, 1) := by decide +kernel
theorem dM_level_25 : decode bM_level 25 = .ok (.aload_n 0, 1) := by decide +kernel
theorem dM_level_26 : decode bM_level 26 = .ok (.getfield 22, 3) := by decide +kernel
theorem dM_level_29 : decode bM_level 29 = .ok (.bipush 16, 2) := by decide +kernel
theorem dM_level_31 : decode bM_level 31 = .ok (.iload_n 1, 1) := by decide +kernel
theorem dM_level_32 : decode bM_level 32 = .ok (.imul, 1) := by decide +kernel
theorem dM_level_33 : decode bM_level 33 = .ok (.iload_n 2, 1) := by decide +kernel
theorem dM_level_34 : decode bM_level 34 = .ok (.iadd, 1) := by decide +kernel
theorem dM_level_35 : decode bM_level 35 = .ok (.iload_n 3, 1) := by decide +kernel
theorem dM_level_36 : decode bM_level 36 = .ok (.ifCond .eq 7, 3) := by decide +kernel
theorem dM_level_39 : decode bM_level 39 = .ok (.iconst 2, 1) := by decide +kernel
theorem dM_level_40 : decode bM_level 40 = .ok (.goto 4, 3) := by decide +kernel
theorem dM_level_43 : decode bM_level 43 = .ok (.iconst 1, 1) := by decide +kernel
theorem dM_level_44 : decode bM_level 44 = .ok (.iastore, 1) := by decide +kernel
theorem dM_level_45 : decode bM_level 45 = .ok (.iconst 1, 1) := by decide +kernel
theorem dM_level_46 : decode bM_level 46 = .ok (.ireturn, 1) := by decide +kernel
theorem dM_out_0 : decode bM_out 0 = .ok (.aload_n 0, 1) := by decide +kernel
theorem dM_out_1 : decode bM_out 1 = .ok (.iconst 0, 1) := by decide +kernel
theorem dM_out_2 : decode bM_out 2 = .ok (.putfield 39, 3) := by decide +kernel
theorem dM_out_5 : decode bM_out 5 = .ok (.aload_n 0, 1) := by decide +kernel
theorem dM_out_6 : decode bM_out 6 = .ok (.iload_n 1, 1) := by decide +kernel
theorem dM_out_7 : decode bM_out 7 = .ok (.invokevirtual 65, 3) := by decide +kernel
theorem dM_out_10 : decode bM_out 10 = .ok (.ifCond .ne 5, 3) := by decide +kernel
theorem dM_out_13 : decode bM_out 13 = .ok (.iconst 0, 1) := by decide +kernel
theorem dM_out_14 : decode bM_out 14 = .ok (.ireturn, 1) := by decide +kernel
theorem dM_out_15 : decode bM_out 15 = .ok (.iconst 0, 1) := by decide +kernel
theorem dM_out_16 : decode bM_out 16 = .ok (.istore_n 2, 1) := by decide +kernel
theorem dM_out_17 : decode bM_out 17 = .ok (.iconst 0, 1) := by decide +kernel
theorem dM_out_18 : decode bM_out 18 = .ok (.istore_n 3, 1) := by decide +kernel
theorem dM_out_19 : decode bM_out 19 = .ok (.iconst 0, 1) := by decide +kernel
theorem dM_out_20 : decode bM_out 20 = .ok (.istore 4, 2) := by decide +kernel
theorem dM_out_22 : decode bM_out 22 = .ok (.iload 4, 2) := by decide +kernel
theorem dM_out_24 : decode bM_out 24 = .ok (.aload_n 0, 1) := by decide +kernel
theorem dM_out_25 : decode bM_out 25 = .ok (.getfield 46, 3) := by decide +kernel
theorem dM_out_28 : decode bM_out 28 = .ok (.if_icmp .ge 78, 3) := by decide +kernel
theorem dM_out_31 : decode bM_out 31 = .ok (.aload_n 0, 1) := by decide +kernel
theorem dM_out_32 : decode bM_out 32 = .ok (.getfield 9, 3) := by decide +kernel
theorem dM_out_35 : decode bM_out 35 = .ok (.iload 4, 2) := by decide +kernel
theorem dM_out_37 : decode bM_out 37 = .ok (.iaload, 1) := by decide +kernel
theorem dM_out_38 : decode bM_out 38 = .ok (.iconst 3, 1) := by decide +kernel
theorem dM_out_39 : decode bM_out 39 = .ok (.if_icmp .eq 22, 3) := by decide +kernel
theorem dM_out_42 : decode bM_out 42 = .ok (.aload_n 0, 1) := by decide +kernel
theorem dM_out_43 : decode bM_out 43 = .ok (.getfield 16, 3) := by decide +kernel
theorem dM_out_46 : decode bM_out 46 = .ok (.bipush 26, 2) := by decide +kernel
theorem dM_out_48 : decode bM_out 48 = .ok (.iload 4, 2) := by decide +kernel
theorem dM_out_50 : decode bM_out 50 = .ok (.imul, 1) := by decide +kernel
theorem dM_out_51 : decode bM_out 51 = .ok (.iload_n 1, 1) := by decide +kernel
theorem dM_out_52 : decode bM_out 52 = .ok (.iadd, 1) := by decide +kernel
theorem dM_out_53 : decode bM_out 53 = .ok (.iaload, 1) := by decide +kernel
theorem dM_out_54 : decode bM_out 54 = .ok (.ifCond .le 7, 3) := by decide +kernel
theorem dM_out_57 : decode bM_out 57 = .ok (.iconst 1, 1) := by decide +kernel
theorem dM_out_58 : decode bM_out 58 = .ok (.goto 4, 3) := by decide +kernel
theorem dM_out_61 : decode bM_out 61 = .ok (.iconst 0, 1) := by decide +kernel
theorem dM_out_62 : decode bM_out 62 = .ok (.istore 5, 2) := by decide +kernel
theorem dM_out_64 : decode bM_out 64 = .ok (.iload_n 2, 1) := by decide +kernel
theorem dM_out_65 : decode bM_out 65 = .ok (.iload 5, 2) := by decide +kernel
theorem dM_out_67 : decode bM_out 67 = .ok (.ifCond .eq 7, 3) := by decide +kernel
theorem dM_out_70 : decode bM_out 70 = .ok (.iconst 1, 1) := by decide +kernel
theorem dM_out_71 : decode bM_out 71 = .ok (.goto 4, 3) := by decide +kernel
theorem dM_out_74 : decode bM_out 74 = .ok (.iconst 0, 1) := by decide +kernel
theorem dM_out_75 : decode bM_out 75 = .ok (.iadd, 1) := by decide +kernel
theorem dM_out_76 : decode bM_out 76 = .ok (.istore_n 2, 1) := by decide +kernel
theorem dM_out_77 : decode bM_out 77 = .ok (.iload_n 3, 1) := by decide +kernel
theorem dM_out_78 : decode bM_out 78 = .ok (.iload 5, 2) := by decide +kernel
theorem dM_out_80 : decode bM_out 80 = .ok (.ifCond .eq 17, 3) := by decide +kernel
theorem dM_out_83 : decode bM_out 83 = .ok (.aload_n 0, 1) := by decide +kernel
theorem dM_out_84 : decode bM_out 84 = .ok (.iload 4, 2) := by decide +kernel
theorem dM_out_86 : decode bM_out 86 = .ok (.iload_n 1, 1) := by decide +kernel
theorem dM_out_87 : decode bM_out 87 = .ok (.invokevirtual 88, 3) := by decide +kernel
theorem dM_out_90 : decode bM_out 90 = .ok (.ifCond .eq 7, 3) := by decide +kernel
theorem dM_out_93 : decode bM_out 93 = .ok (.iconst 1, 1) := by decide +kernel
theorem dM_out_94 : decode bM_out 94 = .ok (.goto 4, 3) := by decide +kernel
theorem dM_out_97 : decode bM_out 97 = .ok (.iconst 0, 1) := by decide +kernel
theorem dM_out_98 : decode bM_out 98 = .ok (.iadd, 1) := by decide +kernel
theorem dM_out_99 : decode bM_out 99 = .ok (.istore_n 3, 1) := by decide +kernel
theorem dM_out_100 : decode bM_out 100 = .ok (.iinc 4 1, 3) := by decide +kernel
theorem dM_out_103 : decode bM_out 103 = .ok (.goto (-81), 3) := by decide +kernel
theorem dM_out_106 : decode bM_out 106 = .ok (.iload_n 2, 1) := by decide +kernel
theorem dM_out_107 : decode bM_out 107 = .ok (.iconst 5, 1) := by decide +kernel
theorem dM_out_108 : decode bM_out 108 = .ok (.if_icmp .lt 14, 3) := by decide +kernel
theorem dM_out_111 : decode bM_out 111 = .ok (.iconst 3, 1) := by decide +kernel
theorem dM_out_112 : decode bM_out 112 = .ok (.iload_n 3, 1) := by decide +kernel
theorem dM_out_113 : decode bM_out 113 = .ok (.imul, 1) := by decide +kernel
theorem dM_out_114 : decode bM_out 114 = .ok (.iload_n 2, 1) := by decide +kernel
theorem dM_out_115 : decode bM_out 115 = .ok (.if_icmp .ge 7, 3) := by decide +kernel
theorem dM_out_118 : decode bM_out 118 = .ok (.iconst 1, 1) := by decide +kernel
theorem dM_out_119 : decode bM_out 119 = .ok (.goto 4, 3) := by decide +kernel
theorem dM_out_122 : decode bM_out 122 = .ok (.iconst 0, 1) := by decide +kernel
theorem dM_out_123 : decode bM_out 123 = .ok (.ireturn, 1) := by decide +kernel
theorem dM_size_0 : decode bM_size 0 = .ok (.aload_n 0, 1) := by decide +kernel
theorem dM_size_1 : decode bM_size 1 = .ok (.iconst 0, 1) := by decide +kernel
theorem dM_size_2 : decode bM_size 2 = .ok (.putfield 39, 3) := by decide +kernel
theorem dM_size_5 : decode bM_size 5 = .ok (.iload_n 1, 1) := by decide +kernel
theorem dM_size_6 : decode bM_size 6 = .ok (.ifCond .lt 21, 3) := by decide +kernel
theorem dM_size_9 : decode bM_size 9 = .ok (.iload_n 1, 1) := by decide +kernel
theorem dM_size_10 : decode bM_size 10 = .ok (.iconst 2, 1) := by decide +kernel
theorem dM_size_11 : decode bM_size 11 = .ok (.if_icmp .gt 16, 3) := by decide +kernel
theorem dM_size_14 : decode bM_size 14 = .ok (.lload_n 2, 1) := by decide +kernel
theorem dM_size_15 : decode bM_size 15 = .ok (.lconst 1, 1) := by decide +kernel
theorem dM_size_16 : decode bM_size 16 = .ok (.lcmp, 1) := by decide +kernel
theorem dM_size_17 : decode bM_size 17 = .ok (.ifCond .lt 10, 3) := by decide +kernel
theorem dM_size_20 : decode bM_size 20 = .ok (.lload 4, 2) := by decide +kernel
theorem dM_size_22 : decode bM_size 22 = .ok (.lconst 1, 1) := by decide +kernel
theorem dM_size_23 : decode bM_size 23 = .ok (.lcmp, 1) := by decide +kernel
theorem dM_size_24 : decode bM_size 24 = .ok (.ifCond .ge 5, 3) := by decide +kernel
theorem dM_size_27 : decode bM_size 27 = .ok (.iconst (-1), 1) := by decide +kernel
theorem dM_size_28 : decode bM_size 28 = .ok (.ireturn, 1) := by decide +kernel
theorem dM_size_29 : decode bM_size 29 = .ok (.lload 4, 2) := by decide +kernel
theorem dM_size_31 : decode bM_size 31 = .ok (.lload_n 2, 1) := by decide +kernel
theorem dM_size_32 : decode bM_size 32 = .ok (.ldiv, 1) := by decide +kernel
theorem dM_size_33 : decode bM_size 33 = .ok (.lload 4, 2) := by decide +kernel
theorem dM_size_35 : decode bM_size 35 = .ok (.lload_n 2, 1) := by decide +kernel
theorem dM_size_36 : decode bM_size 36 = .ok (.lrem, 1) := by decide +kernel
theorem dM_size_37 : decode bM_size 37 = .ok (.lconst 0, 1) := by decide +kernel
theorem dM_size_38 : decode bM_size 38 = .ok (.lcmp, 1) := by decide +kernel
theorem dM_size_39 : decode bM_size 39 = .ok (.ifCond .le 7, 3) := by decide +kernel
theorem dM_size_42 : decode bM_size 42 = .ok (.lconst 1, 1) := by decide +kernel
theorem dM_size_43 : decode bM_size 43 = .ok (.goto 4, 3) := by decide +kernel
theorem dM_size_46 : decode bM_size 46 = .ok (.lconst 0, 1) := by decide +kernel
theorem dM_size_47 : decode bM_size 47 = .ok (.ladd, 1) := by decide +kernel
theorem dM_size_48 : decode bM_size 48 = .ok (.lstore 6, 2) := by decide +kernel
theorem dM_size_50 : decode bM_size 50 = .ok (.iconst 1, 1) := by decide +kernel
theorem dM_size_51 : decode bM_size 51 = .ok (.istore 8, 2) := by decide +kernel
theorem dM_size_53 : decode bM_size 53 = .ok (.iload 8, 2) := by decide +kernel
theorem dM_size_55 : decode bM_size 55 = .ok (.bipush 26, 2) := by decide +kernel
theorem dM_size_57 : decode bM_size 57 = .ok (.if_icmp .gt 36, 3) := by decide +kernel
theorem dM_size_60 : decode bM_size 60 = .ok (.iload_n 1, 1) := by decide +kernel
theorem dM_size_61 : decode bM_size 61 = .ok (.ifCond .ne 9, 3) := by decide +kernel
theorem dM_size_64 : decode bM_size 64 = .ok (.ldc2_w 133, 3) := by decide +kernel
theorem dM_size_67 : decode bM_size 67 = .ok (.goto 6, 3) := by decide +kernel
theorem dM_size_70 : decode bM_size 70 = .ok (.ldc2_w 135, 3) := by decide +kernel
theorem dM_size_73 : decode bM_size 73 = .ok (.iload 8, 2) := by decide +kernel
theorem dM_size_75 : decode bM_size 75 = .ok (.invokestatic 104, 3) := by decide +kernel
theorem dM_size_78 : decode bM_size 78 = .ok (.lload 6, 2) := by decide +kernel
theorem dM_size_80 : decode bM_size 80 = .ok (.lcmp, 1) := by decide +kernel
theorem dM_size_81 : decode bM_size 81 = .ok (.ifCond .lt 6, 3) := by decide +kernel
theorem dM_size_84 : decode bM_size 84 = .ok (.iload 8, 2) := by decide +kernel
theorem dM_size_86 : decode bM_size 86 = .ok (.ireturn, 1) := by decide +kernel
theorem dM_size_87 : decode bM_size 87 = .ok (.iinc 8 1, 3) := by decide +kernel
theorem dM_size_90 : decode bM_size 90 = .ok (.goto (-37), 3) := by decide +kernel
theorem dM_size_93 : decode bM_size 93 = .ok (.iconst (-1), 1) := by decide +kernel
theorem dM_size_94 : decode bM_size 94 = .ok (.ireturn, 1) := by decide +kernel
theorem dM_row_0 : decode bM_row 0 = .ok (.aload_n 0, 1) := by decide +kernel
theorem dM_row_1 : decode bM_row 1 = .ok (.iload_n 1, 1) := by decide +kernel
theorem dM_row_2 : decode bM_row 2 = .ok (.iconst 1, 1) := by decide +kernel
theorem dM_row_3 : decode bM_row 3 = .ok (.if_icmp .lt 9, 3) := by decide +kernel
theorem dM_row_6 : decode bM_row 6 = .ok (.iload_n 1, 1) := by decide +kernel
theorem dM_row_7 : decode bM_row 7 = .ok (.bipush 26, 2) := by decide +kernel
theorem dM_row_9 : decode bM_row 9 = .ok (.if_icmp .le 7, 3) := by decide +kernel
theorem dM_row_12 : decode bM_row 12 = .ok (.iconst 1, 1) := by decide +kernel
theorem dM_row_13 : decode bM_row 13 = .ok (.goto 4, 3) := by decide +kernel
theorem dM_row_16 : decode bM_row 16 = .ok (.iconst 0, 1) := by decide +kernel
theorem dM_row_17 : decode bM_row 17 = .ok (.putfield 39, 3) := by decide +kernel
theorem dM_row_20 : decode bM_row 20 = .ok (.aload_n 0, 1) := by decide +kernel
theorem dM_row_21 : decode bM_row 21 = .ok (.getfield 39, 3) := by decide +kernel
theorem dM_row_24 : decode bM_row 24 = .ok (.ifCond .le 5, 3) := by decide +kernel
theorem dM_row_27 : decode bM_row 27 = .ok (.iconst 0, 1) := by decide +kernel
theorem dM_row_28 : decode bM_row 28 = .ok (.ireturn, 1) := by decide +kernel
theorem dM_row_29 : decode bM_row 29 = .ok (.iconst 0, 1) := by decide +kernel
theorem dM_row_30 : decode bM_row 30 = .ok (.istore_n 2, 1) := by decide +kernel
theorem dM_row_31 : decode bM_row 31 = .ok (.iload_n 2, 1) := by decide +kernel
theorem dM_row_32 : decode bM_row 32 = .ok (.iload_n 1, 1) := by decide +kernel
theorem dM_row_33 : decode bM_row 33 = .ok (.if_icmp .gt 31, 3) := by decide +kernel
theorem dM_row_36 : decode bM_row 36 = .ok (.aload_n 0, 1) := by decide +kernel
theorem dM_row_37 : decode bM_row 37 = .ok (.iload_n 1, 1) := by decide +kernel
theorem dM_row_38 : decode bM_row 38 = .ok (.iload_n 2, 1) := by decide +kernel
theorem dM_row_39 : decode bM_row 39 = .ok (.iconst 3, 1) := by decide +kernel
theorem dM_row_40 : decode bM_row 40 = .ok (.invokevirtual 100, 3) := by decide +kernel
theorem dM_row_43 : decode bM_row 43 = .ok (.ldc2_w 133, 3) := by decide +kernel
theorem dM_row_46 : decode bM_row 46 = .ok (.iload_n 1, 1) := by decide +kernel
theorem dM_row_47 : decode bM_row 47 = .ok (.invokestatic 104, 3) := by decide +kernel
theorem dM_row_50 : decode bM_row 50 = .ok (.ldc2_w 137, 3) := by decide +kernel
theorem dM_row_53 : decode bM_row 53 = .ok (.ldiv, 1) := by decide +kernel
theorem dM_row_54 : decode bM_row 54 = .ok (.lcmp, 1) := by decide +kernel
theorem dM_row_55 : decode bM_row 55 = .ok (.ifCond .le 9, 3) := by decide +kernel
theorem dM_row_58 : decode bM_row 58 = .ok (.iinc 2 1, 3) := by decide +kernel
theorem dM_row_61 : decode bM_row 61 = .ok (.goto (-30), 3) := by decide +kernel
theorem dM_row_64 : decode bM_row 64 = .ok (.iload_n 2, 1) := by decide +kernel
theorem dM_row_65 : decode bM_row 65 = .ok (.ireturn, 1) := by decide +kernel
