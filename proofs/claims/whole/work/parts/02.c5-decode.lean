theorem dX10_teas_49 : decode cX10_teas 49 = .ok (.iconst 0, 1) := by decide +kernel
theorem dX10_teas_50 : decode cX10_teas 50 = .ok (.istore_n 3, 1) := by decide +kernel
theorem dX10_teas_51 : decode cX10_teas 51 = .ok (.iconst 0, 1) := by decide +kernel
theorem dX10_teas_52 : decode cX10_teas 52 = .ok (.istore 4, 2) := by decide +kernel
theorem dX10_teas_54 : decode cX10_teas 54 = .ok (.iconst 0, 1) := by decide +kernel
theorem dX10_teas_55 : decode cX10_teas 55 = .ok (.istore 5, 2) := by decide +kernel
theorem dX10_teas_57 : decode cX10_teas 57 = .ok (.iload 5, 2) := by decide +kernel
theorem dX10_teas_59 : decode cX10_teas 59 = .ok (.aload_n 0, 1) := by decide +kernel
theorem dX10_teas_60 : decode cX10_teas 60 = .ok (.getfield 7, 3) := by decide +kernel
theorem dX10_teas_63 : decode cX10_teas 63 = .ok (.if_icmp .ge 58, 3) := by decide +kernel
theorem dX10_teas_66 : decode cX10_teas 66 = .ok (.iload_n 2, 1) := by decide +kernel
theorem dX10_teas_67 : decode cX10_teas 67 = .ok (.iload 5, 2) := by decide +kernel
theorem dX10_teas_69 : decode cX10_teas 69 = .ok (.invokestatic 91, 3) := by decide +kernel
theorem dX10_teas_72 : decode cX10_teas 72 = .ok (.ifCond .eq 43, 3) := by decide +kernel
theorem dX10_teas_75 : decode cX10_teas 75 = .ok (.aload_n 0, 1) := by decide +kernel
theorem dX10_teas_76 : decode cX10_teas 76 = .ok (.getfield 44, 3) := by decide +kernel
theorem dX10_teas_79 : decode cX10_teas 79 = .ok (.iload_n 2, 1) := by decide +kernel
theorem dX10_teas_80 : decode cX10_teas 80 = .ok (.iconst 1, 1) := by decide +kernel
theorem dX10_teas_81 : decode cX10_teas 81 = .ok (.iload 5, 2) := by decide +kernel
theorem dX10_teas_83 : decode cX10_teas 83 = .ok (.ishl, 1) := by decide +kernel
theorem dX10_teas_84 : decode cX10_teas 84 = .ok (.iconst (-1), 1) := by decide +kernel
theorem dX10_teas_85 : decode cX10_teas 85 = .ok (.ixor, 1) := by decide +kernel
theorem dX10_teas_86 : decode cX10_teas 86 = .ok (.iand, 1) := by decide +kernel
theorem dX10_teas_87 : decode cX10_teas 87 = .ok (.iaload, 1) := by decide +kernel
theorem dX10_teas_88 : decode cX10_teas 88 = .ok (.istore 6, 2) := by decide +kernel
theorem dX10_teas_90 : decode cX10_teas 90 = .ok (.iload 6, 2) := by decide +kernel
theorem dX10_teas_92 : decode cX10_teas 92 = .ok (.iload_n 3, 1) := by decide +kernel
theorem dX10_teas_93 : decode cX10_teas 93 = .ok (.if_icmp .le 8, 3) := by decide +kernel
theorem dX10_teas_96 : decode cX10_teas 96 = .ok (.iload 6, 2) := by decide +kernel
theorem dX10_teas_98 : decode cX10_teas 98 = .ok (.goto 4, 3) := by decide +kernel
theorem dX10_teas_101 : decode cX10_teas 101 = .ok (.iload_n 3, 1) := by decide +kernel
theorem dX10_teas_102 : decode cX10_teas 102 = .ok (.istore_n 3, 1) := by decide +kernel
theorem dX10_teas_103 : decode cX10_teas 103 = .ok (.iload 4, 2) := by decide +kernel
theorem dX10_teas_105 : decode cX10_teas 105 = .ok (.aload_n 0, 1) := by decide +kernel
theorem dX10_teas_106 : decode cX10_teas 106 = .ok (.getfield 26, 3) := by decide +kernel
theorem dX10_teas_109 : decode cX10_teas 109 = .ok (.iload 5, 2) := by decide +kernel
theorem dX10_teas_111 : decode cX10_teas 111 = .ok (.iaload, 1) := by decide +kernel
theorem dX10_teas_112 : decode cX10_teas 112 = .ok (.iadd, 1) := by decide +kernel
theorem dX10_teas_113 : decode cX10_teas 113 = .ok (.istore 4, 2) := by decide +kernel
theorem dX10_teas_115 : decode cX10_teas 115 = .ok (.iinc 5 1, 3) := by decide +kernel
theorem dX10_teas_118 : decode cX10_teas 118 = .ok (.goto (-61), 3) := by decide +kernel
theorem dX10_teas_121 : decode cX10_teas 121 = .ok (.aload_n 0, 1) := by decide +kernel
theorem dX10_teas_122 : decode cX10_teas 122 = .ok (.getfield 44, 3) := by decide +kernel
theorem dX10_teas_125 : decode cX10_teas 125 = .ok (.iload_n 2, 1) := by decide +kernel
theorem dX10_teas_126 : decode cX10_teas 126 = .ok (.iload_n 3, 1) := by decide +kernel
theorem dX10_teas_127 : decode cX10_teas 127 = .ok (.iload_n 2, 1) := by decide +kernel
theorem dX10_teas_128 : decode cX10_teas 128 = .ok (.ifCond .eq 20, 3) := by decide +kernel
theorem dX10_teas_131 : decode cX10_teas 131 = .ok (.iload_n 2, 1) := by decide +kernel
theorem dX10_teas_132 : decode cX10_teas 132 = .ok (.iload_n 1, 1) := by decide +kernel
theorem dX10_teas_133 : decode cX10_teas 133 = .ok (.iconst (-1), 1) := by decide +kernel
theorem dX10_teas_134 : decode cX10_teas 134 = .ok (.ixor, 1) := by decide +kernel
theorem dX10_teas_135 : decode cX10_teas 135 = .ok (.iand, 1) := by decide +kernel
theorem dX10_teas_136 : decode cX10_teas 136 = .ok (.ifCond .ne 12, 3) := by decide +kernel
theorem dX10_teas_139 : decode cX10_teas 139 = .ok (.iload 4, 2) := by decide +kernel
theorem dX10_teas_141 : decode cX10_teas 141 = .ok (.ifCond .ne 7, 3) := by decide +kernel
theorem dX10_teas_144 : decode cX10_teas 144 = .ok (.iconst 1, 1) := by decide +kernel
theorem dX10_teas_145 : decode cX10_teas 145 = .ok (.goto 4, 3) := by decide +kernel
theorem dX10_teas_148 : decode cX10_teas 148 = .ok (.iconst 0, 1) := by decide +kernel
theorem dX10_teas_149 : decode cX10_teas 149 = .ok (.iadd, 1) := by decide +kernel
theorem dX10_teas_150 : decode cX10_teas 150 = .ok (.iastore, 1) := by decide +kernel
theorem dX10_teas_151 : decode cX10_teas 151 = .ok (.iinc 2 1, 3) := by decide +kernel
theorem dX10_teas_154 : decode cX10_teas 154 = .ok (.goto (-115), 3) := by decide +kernel
theorem dX10_teas_157 : decode cX10_teas 157 = .ok (.iload_n 1, 1) := by decide +kernel
theorem dX10_teas_158 : decode cX10_teas 158 = .ok (.invokestatic 112, 3) := by decide +kernel
theorem dX10_teas_161 : decode cX10_teas 161 = .ok (.aload_n 0, 1) := by decide +kernel
theorem dX10_teas_162 : decode cX10_teas 162 = .ok (.getfield 44, 3) := by decide +kernel
theorem dX10_teas_165 : decode cX10_teas 165 = .ok (.iload_n 1, 1) := by decide +kernel
theorem dX10_teas_166 : decode cX10_teas 166 = .ok (.iaload, 1) := by decide +kernel
theorem dX10_teas_167 : decode cX10_teas 167 = .ok (.isub, 1) := by decide +kernel
theorem dX10_teas_168 : decode cX10_teas 168 = .ok (.ireturn, 1) := by decide +kernel
theorem dX10_worth_0 : decode cX10_worth 0 = .ok (.aload_n 0, 1) := by decide +kernel
theorem dX10_worth_1 : decode cX10_worth 1 = .ok (.iload_n 1, 1) := by decide +kernel
theorem dX10_worth_2 : decode cX10_worth 2 = .ok (.iload_n 2, 1) := by decide +kernel
theorem dX10_worth_3 : decode cX10_worth 3 = .ok (.aload_n 0, 1) := by decide +kernel
theorem dX10_worth_4 : decode cX10_worth 4 = .ok (.getfield 60, 3) := by decide +kernel
theorem dX10_worth_7 : decode cX10_worth 7 = .ok (.invokevirtual 99, 3) := by decide +kernel
theorem dX10_worth_10 : decode cX10_worth 10 = .ok (.istore_n 3, 1) := by decide +kernel
theorem dX10_worth_11 : decode cX10_worth 11 = .ok (.bipush 10, 2) := by decide +kernel
theorem dX10_worth_13 : decode cX10_worth 13 = .ok (.iload_n 3, 1) := by decide +kernel
theorem dX10_worth_14 : decode cX10_worth 14 = .ok (.bipush 10, 2) := by decide +kernel
theorem dX10_worth_16 : decode cX10_worth 16 = .ok (.idiv, 1) := by decide +kernel
theorem dX10_worth_17 : decode cX10_worth 17 = .ok (.imul, 1) := by decide +kernel
theorem dX10_worth_18 : decode cX10_worth 18 = .ok (.aload_n 0, 1) := by decide +kernel
theorem dX10_worth_19 : decode cX10_worth 19 = .ok (.getfield 23, 3) := by decide +kernel
theorem dX10_worth_22 : decode cX10_worth 22 = .ok (.iload_n 3, 1) := by decide +kernel
theorem dX10_worth_23 : decode cX10_worth 23 = .ok (.imul, 1) := by decide +kernel
theorem dX10_worth_24 : decode cX10_worth 24 = .ok (.isub, 1) := by decide +kernel
theorem dX10_worth_25 : decode cX10_worth 25 = .ok (.ireturn, 1) := by decide +kernel
theorem dX10_feet_0 : decode cX10_feet 0 = .ok (.iconst 0, 1) := by decide +kernel
theorem dX10_feet_1 : decode cX10_feet 1 = .ok (.istore_n 1, 1) := by decide +kernel
theorem dX10_feet_2 : decode cX10_feet 2 = .ok (.iconst 0, 1) := by decide +kernel
theorem dX10_feet_3 : decode cX10_feet 3 = .ok (.istore_n 2, 1) := by decide +kernel
theorem dX10_feet_4 : decode cX10_feet 4 = .ok (.iload_n 2, 1) := by decide +kernel
theorem dX10_feet_5 : decode cX10_feet 5 = .ok (.aload_n 0, 1) := by decide +kernel
theorem dX10_feet_6 : decode cX10_feet 6 = .ok (.getfield 7, 3) := by decide +kernel
theorem dX10_feet_9 : decode cX10_feet 9 = .ok (.if_icmp .ge 54, 3) := by decide +kernel
theorem dX10_feet_12 : decode cX10_feet 12 = .ok (.aload_n 0, 1) := by decide +kernel
theorem dX10_feet_13 : decode cX10_feet 13 = .ok (.getfield 63, 3) := by decide +kernel
theorem dX10_feet_16 : decode cX10_feet 16 = .ok (.iconst 1, 1) := by decide +kernel
theorem dX10_feet_17 : decode cX10_feet 17 = .ok (.iload_n 2, 1) := by decide +kernel
theorem dX10_feet_18 : decode cX10_feet 18 = .ok (.ishl, 1) := by decide +kernel
theorem dX10_feet_19 : decode cX10_feet 19 = .ok (.ixor, 1) := by decide +kernel
theorem dX10_feet_20 : decode cX10_feet 20 = .ok (.istore_n 3, 1) := by decide +kernel
theorem dX10_feet_21 : decode cX10_feet 21 = .ok (.iload_n 1, 1) := by decide +kernel
theorem dX10_feet_22 : decode cX10_feet 22 = .ok (.aload_n 0, 1) := by decide +kernel
theorem dX10_feet_23 : decode cX10_feet 23 = .ok (.iload_n 3, 1) := by decide +kernel
theorem dX10_feet_24 : decode cX10_feet 24 = .ok (.invokevirtual 153, 3) := by decide +kernel
theorem dX10_feet_27 : decode cX10_feet 27 = .ok (.ifCond .eq 27, 3) := by decide +kernel
theorem dX10_feet_30 : decode cX10_feet 30 = .ok (.aload_n 0, 1) := by decide +kernel
theorem dX10_feet_31 : decode cX10_feet 31 = .ok (.iload_n 2, 1) := by decide +kernel
theorem dX10_feet_32 : decode cX10_feet 32 = .ok (.iload_n 3, 1) := by decide +kernel
theorem dX10_feet_33 : decode cX10_feet 33 = .ok (.invokevirtual 167, 3) := by decide +kernel
theorem dX10_feet_36 : decode cX10_feet 36 = .ok (.aload_n 0, 1) := by decide +kernel
theorem dX10_feet_37 : decode cX10_feet 37 = .ok (.iload_n 2, 1) := by decide +kernel
theorem dX10_feet_38 : decode cX10_feet 38 = .ok (.aload_n 0, 1) := by decide +kernel
theorem dX10_feet_39 : decode cX10_feet 39 = .ok (.getfield 63, 3) := by decide +kernel
theorem dX10_feet_42 : decode cX10_feet 42 = .ok (.invokevirtual 167, 3) := by decide +kernel
theorem dX10_feet_45 : decode cX10_feet 45 = .ok (.if_icmp .le 9, 3) := by decide +kernel
theorem dX10_feet_48 : decode cX10_feet 48 = .ok (.iconst 1, 1) := by decide +kernel
theorem dX10_feet_49 : decode cX10_feet 49 = .ok (.iload_n 2, 1) := by decide +kernel
theorem dX10_feet_50 : decode cX10_feet 50 = .ok (.ishl, 1) := by decide +kernel
theorem dX10_feet_51 : decode cX10_feet 51 = .ok (.goto 4, 3) := by decide +kernel
theorem dX10_feet_54 : decode cX10_feet 54 = .ok (.iconst 0, 1) := by decide +kernel
theorem dX10_feet_55 : decode cX10_feet 55 = .ok (.ior, 1) := by decide +kernel
theorem dX10_feet_56 : decode cX10_feet 56 = .ok (.istore_n 1, 1) := by decide +kernel
theorem dX10_feet_57 : decode cX10_feet 57 = .ok (.iinc 2 1, 3) := by decide +kernel
theorem dX10_feet_60 : decode cX10_feet 60 = .ok (.goto (-56), 3) := by decide +kernel
theorem dX10_feet_63 : decode cX10_feet 63 = .ok (.iload_n 1, 1) := by decide +kernel
theorem dX10_feet_64 : decode cX10_feet 64 = .ok (.ireturn, 1) := by decide +kernel
theorem dX10_had_0 : decode cX10_had 0 = .ok (.iconst 0, 1) := by decide +kernel
theorem dX10_had_1 : decode cX10_had 1 = .ok (.istore_n 1, 1) := by decide +kernel
theorem dX10_had_2 : decode cX10_had 2 = .ok (.iconst 0, 1) := by decide +kernel
theorem dX10_had_3 : decode cX10_had 3 = .ok (.istore_n 2, 1) := by decide +kernel
theorem dX10_had_4 : decode cX10_had 4 = .ok (.iload_n 2, 1) := by decide +kernel
theorem dX10_had_5 : decode cX10_had 5 = .ok (.bipush 17, 2) := by decide +kernel
theorem dX10_had_7 : decode cX10_had 7 = .ok (.if_icmp .ge 53, 3) := by decide +kernel
theorem dX10_had_10 : decode cX10_had 10 = .ok (.iload_n 2, 1) := by decide +kernel
theorem dX10_had_11 : decode cX10_had 11 = .ok (.iconst 1, 1) := by decide +kernel
theorem dX10_had_12 : decode cX10_had 12 = .ok (.iadd, 1) := by decide +kernel
theorem dX10_had_13 : decode cX10_had 13 = .ok (.istore_n 3, 1) := by decide +kernel
theorem dX10_had_14 : decode cX10_had 14 = .ok (.iload_n 3, 1) := by decide +kernel
theorem dX10_had_15 : decode cX10_had 15 = .ok (.bipush 17, 2) := by decide +kernel
theorem dX10_had_17 : decode cX10_had 17 = .ok (.if_icmp .ge 37, 3) := by decide +kernel
theorem dX10_had_20 : decode cX10_had 20 = .ok (.iload_n 1, 1) := by decide +kernel
theorem dX10_had_21 : decode cX10_had 21 = .ok (.iload_n 0, 1) := by decide +kernel
theorem dX10_had_22 : decode cX10_had 22 = .ok (.iload_n 2, 1) := by decide +kernel
theorem dX10_had_23 : decode cX10_had 23 = .ok (.invokestatic 91, 3) := by decide +kernel
theorem dX10_had_26 : decode cX10_had 26 = .ok (.ifCond .eq 19, 3) := by decide +kernel
theorem dX10_had_29 : decode cX10_had 29 = .ok (.iload_n 0, 1) := by decide +kernel
theorem dX10_had_30 : decode cX10_had 30 = .ok (.iload_n 3, 1) := by decide +kernel
theorem dX10_had_31 : decode cX10_had 31 = .ok (.invokestatic 91, 3) := by decide +kernel
theorem dX10_had_34 : decode cX10_had 34 = .ok (.ifCond .eq 11, 3) := by decide +kernel
theorem dX10_had_37 : decode cX10_had 37 = .ok (.iconst 1, 1) := by decide +kernel
theorem dX10_had_38 : decode cX10_had 38 = .ok (.iload_n 3, 1) := by decide +kernel
theorem dX10_had_39 : decode cX10_had 39 = .ok (.iload_n 2, 1) := by decide +kernel
theorem dX10_had_40 : decode cX10_had 40 = .ok (.isub, 1) := by decide +kernel
theorem dX10_had_41 : decode cX10_had 41 = .ok (.ishl, 1) := by decide +kernel
theorem dX10_had_42 : decode cX10_had 42 = .ok (.goto 4, 3) := by decide +kernel
theorem dX10_had_45 : decode cX10_had 45 = .ok (.iconst 0, 1) := by decide +kernel
theorem dX10_had_46 : decode cX10_had 46 = .ok (.ior, 1) := by decide +kernel
theorem dX10_had_47 : decode cX10_had 47 = .ok (.istore_n 1, 1) := by decide +kernel
theorem dX10_had_48 : decode cX10_had 48 = .ok (.iinc 3 1, 3) := by decide +kernel
theorem dX10_had_51 : decode cX10_had 51 = .ok (.goto (-37), 3) := by decide +kernel
theorem dX10_had_54 : decode cX10_had 54 = .ok (.iinc 2 1, 3) := by decide +kernel
theorem dX10_had_57 : decode cX10_had 57 = .ok (.goto (-53), 3) := by decide +kernel
theorem dX10_had_60 : decode cX10_had 60 = .ok (.iload_n 1, 1) := by decide +kernel
theorem dX10_had_61 : decode cX10_had 61 = .ok (.ireturn, 1) := by decide +kernel
theorem dX10_hooks_0 : decode cX10_hooks 0 = .ok (.iload_n 1, 1) := by decide +kernel
theorem dX10_hooks_1 : decode cX10_hooks 1 = .ok (.iconst 2, 1) := by decide +kernel
theorem dX10_hooks_2 : decode cX10_hooks 2 = .ok (.bipush 16, 2) := by decide +kernel
theorem dX10_hooks_4 : decode cX10_hooks 4 = .ok (.invokestatic 69, 3) := by decide +kernel
theorem dX10_hooks_7 : decode cX10_hooks 7 = .ok (.ifCond .eq 29, 3) := by decide +kernel
theorem dX10_hooks_10 : decode cX10_hooks 10 = .ok (.iload_n 2, 1) := by decide +kernel
theorem dX10_hooks_11 : decode cX10_hooks 11 = .ok (.iconst 0, 1) := by decide +kernel
theorem dX10_hooks_12 : decode cX10_hooks 12 = .ok (.ldc 170, 2) := by decide +kernel
theorem dX10_hooks_14 : decode cX10_hooks 14 = .ok (.invokestatic 69, 3) := by decide +kernel
theorem dX10_hooks_17 : decode cX10_hooks 17 = .ok (.ifCond .eq 19, 3) := by decide +kernel
theorem dX10_hooks_20 : decode cX10_hooks 20 = .ok (.iload_n 2, 1) := by decide +kernel
theorem dX10_hooks_21 : decode cX10_hooks 21 = .ok (.iconst 2, 1) := by decide +kernel
theorem dX10_hooks_22 : decode cX10_hooks 22 = .ok (.irem, 1) := by decide +kernel
theorem dX10_hooks_23 : decode cX10_hooks 23 = .ok (.iconst 1, 1) := by decide +kernel
theorem dX10_hooks_24 : decode cX10_hooks 24 = .ok (.if_icmp .eq 12, 3) := by decide +kernel
theorem dX10_hooks_27 : decode cX10_hooks 27 = .ok (.iload_n 3, 1) := by decide +kernel
theorem dX10_hooks_28 : decode cX10_hooks 28 = .ok (.iconst 0, 1) := by decide +kernel
theorem dX10_hooks_29 : decode cX10_hooks 29 = .ok (.iconst 1, 1) := by decide +kernel
theorem dX10_hooks_30 : decode cX10_hooks 30 = .ok (.invokestatic 69, 3) := by decide +kernel
theorem dX10_hooks_33 : decode cX10_hooks 33 = .ok (.ifCond .ne 6, 3) := by decide +kernel
theorem dX10_hooks_36 : decode cX10_hooks 36 = .ok (.bipush (-2), 2) := by decide +kernel
theorem dX10_hooks_38 : decode cX10_hooks 38 = .ok (.ireturn, 1) := by decide +kernel
theorem dX10_hooks_39 : decode cX10_hooks 39 = .ok (.bipush (-6), 2) := by decide +kernel
theorem dX10_hooks_41 : decode cX10_hooks 41 = .ok (.istore 4, 2) := by decide +kernel
theorem dX10_hooks_43 : decode cX10_hooks 43 = .ok (.iconst 0, 1) := by decide +kernel
theorem dX10_hooks_44 : decode cX10_hooks 44 = .ok (.istore 5, 2) := by decide +kernel
theorem dX10_hooks_46 : decode cX10_hooks 46 = .ok (.iload 5, 2) := by decide +kernel
theorem dX10_hooks_48 : decode cX10_hooks 48 = .ok (.iconst 1, 1) := by decide +kernel
theorem dX10_hooks_49 : decode cX10_hooks 49 = .ok (.iload_n 1, 1) := by decide +kernel
theorem dX10_hooks_50 : decode cX10_hooks 50 = .ok (.ishl, 1) := by decide +kernel
theorem dX10_hooks_51 : decode cX10_hooks 51 = .ok (.if_icmp .ge 76, 3) := by decide +kernel
theorem dX10_hooks_54 : decode cX10_hooks 54 = .ok (.iload 5, 2) := by decide +kernel
theorem dX10_hooks_56 : decode cX10_hooks 56 = .ok (.invokestatic 112, 3) := by decide +kernel
theorem dX10_hooks_59 : decode cX10_hooks 59 = .ok (.bipush 6, 2) := by decide +kernel
theorem dX10_hooks_61 : decode cX10_hooks 61 = .ok (.if_icmp .gt 25, 3) := by decide +kernel
theorem dX10_hooks_64 : decode cX10_hooks 64 = .ok (.iload 4, 2) := by decide +kernel
theorem dX10_hooks_66 : decode cX10_hooks 66 = .ok (.ifCond .lt 16, 3) := by decide +kernel
theorem dX10_hooks_69 : decode cX10_hooks 69 = .ok (.iload 5, 2) := by decide +kernel
theorem dX10_hooks_71 : decode cX10_hooks 71 = .ok (.invokestatic 112, 3) := by decide +kernel
theorem dX10_hooks_74 : decode cX10_hooks 74 = .ok (.iload 4, 2) := by decide +kernel
theorem dX10_hooks_76 : decode cX10_hooks 76 = .ok (.invokestatic 112, 3) := by decide +kernel
theorem dX10_hooks_79 : decode cX10_hooks 79 = .ok (.if_icmp .ge 7, 3) := by decide +kernel
theorem dX10_hooks_82 : decode cX10_hooks 82 = .ok (.iconst 1, 1) := by decide +kernel
theorem dX10_hooks_83 : decode cX10_hooks 83 = .ok (.goto 4, 3) := by decide +kernel
theorem dX10_hooks_86 : decode cX10_hooks 86 = .ok (.iconst 0, 1) := by decide +kernel
theorem dX10_hooks_87 : decode cX10_hooks 87 = .ok (.istore 6, 2) := by decide +kernel
theorem dX10_hooks_89 : decode cX10_hooks 89 = .ok (.iload 6, 2) := by decide +kernel
theorem dX10_hooks_91 : decode cX10_hooks 91 = .ok (.ifCond .eq 26, 3) := by decide +kernel
theorem dX10_hooks_94 : decode cX10_hooks 94 = .ok (.iload_n 2, 1) := by decide +kernel
theorem dX10_hooks_95 : decode cX10_hooks 95 = .ok (.iload 5, 2) := by decide +kernel
theorem dX10_hooks_97 : decode cX10_hooks 97 = .ok (.iconst 1, 1) := by decide +kernel
theorem dX10_hooks_98 : decode cX10_hooks 98 = .ok (.ior, 1) := by decide +kernel
theorem dX10_hooks_99 : decode cX10_hooks 99 = .ok (.iconst 1, 1) := by decide +kernel
theorem dX10_hooks_100 : decode cX10_hooks 100 = .ok (.iload_n 1, 1) := by decide +kernel
theorem dX10_hooks_101 : decode cX10_hooks 101 = .ok (.ishl, 1) := by decide +kernel
theorem dX10_hooks_102 : decode cX10_hooks 102 = .ok (.ior, 1) := by decide +kernel
theorem dX10_hooks_103 : decode cX10_hooks 103 = .ok (.invokestatic 171, 3) := by decide +kernel
theorem dX10_hooks_106 : decode cX10_hooks 106 = .ok (.iconst (-1), 1) := by decide +kernel
theorem dX10_hooks_107 : decode cX10_hooks 107 = .ok (.ixor, 1) := by decide +kernel
theorem dX10_hooks_108 : decode cX10_hooks 108 = .ok (.iand, 1) := by decide +kernel
theorem dX10_hooks_109 : decode cX10_hooks 109 = .ok (.ifCond .ne 8, 3) := by decide +kernel
theorem dX10_hooks_112 : decode cX10_hooks 112 = .ok (.iload 5, 2) := by decide +kernel
theorem dX10_hooks_114 : decode cX10_hooks 114 = .ok (.goto 5, 3) := by decide +kernel
theorem dX10_hooks_117 : decode cX10_hooks 117 = .ok (.iload 4, 2) := by decide +kernel
theorem dX10_hooks_119 : decode cX10_hooks 119 = .ok (.istore 4, 2) := by decide +kernel
theorem dX10_hooks_121 : decode cX10_hooks 121 = .ok (.iinc 5 2, 3) := by decide +kernel
theorem dX10_hooks_124 : decode cX10_hooks 124 = .ok (.goto (-78), 3) := by decide +kernel
theorem dX10_hooks_127 : decode cX10_hooks 127 = .ok (.iload 4, 2) := by decide +kernel
theorem dX10_hooks_129 : decode cX10_hooks 129 = .ok (.ifCond .lt 8, 3) := by decide +kernel
theorem dX10_hooks_132 : decode cX10_hooks 132 = .ok (.iload_n 3, 1) := by decide +kernel
theorem dX10_hooks_133 : decode cX10_hooks 133 = .ok (.iconst 1, 1) := by decide +kernel
theorem dX10_hooks_134 : decode cX10_hooks 134 = .ok (.if_icmp .ne 8, 3) := by decide +kernel
theorem dX10_hooks_137 : decode cX10_hooks 137 = .ok (.iload 4, 2) := by decide +kernel
theorem dX10_hooks_139 : decode cX10_hooks 139 = .ok (.goto 8, 3) := by decide +kernel
theorem dX10_hooks_142 : decode cX10_hooks 142 = .ok (.iload 4, 2) := by decide +kernel
theorem dX10_hooks_144 : decode cX10_hooks 144 = .ok (.invokestatic 112, 3) := by decide +kernel
theorem dX10_hooks_147 : decode cX10_hooks 147 = .ok (.ireturn, 1) := by decide +kernel
theorem dX10_canPut_0 : decode cX10_canPut 0 = .ok (.iload_n 1, 1) := by decide +kernel
theorem dX10_canPut_1 : decode cX10_canPut 1 = .ok (.iconst 1, 1) := by decide +kernel
theorem dX10_canPut_2 : decode cX10_canPut 2 = .ok (.iload_n 2, 1) := by decide +kernel
theorem dX10_canPut_3 : decode cX10_canPut 3 = .ok (.ishl, 1) := by decide +kernel
theorem dX10_canPut_4 : decode cX10_canPut 4 = .ok (.ior, 1) := by decide +kernel
theorem dX10_canPut_5 : decode cX10_canPut 5 = .ok (.istore_n 3, 1) := by decide +kernel
theorem dX10_canPut_6 : decode cX10_canPut 6 = .ok (.iload_n 1, 1) := by decide +kernel
theorem dX10_canPut_7 : decode cX10_canPut 7 = .ok (.iload_n 2, 1) := by decide +kernel
theorem dX10_canPut_8 : decode cX10_canPut 8 = .ok (.invokestatic 91, 3) := by decide +kernel
theorem dX10_canPut_11 : decode cX10_canPut 11 = .ok (.ifCond .ne 27, 3) := by decide +kernel
theorem dX10_canPut_14 : decode cX10_canPut 14 = .ok (.aload_n 0, 1) := by decide +kernel
theorem dX10_canPut_15 : decode cX10_canPut 15 = .ok (.iload_n 3, 1) := by decide +kernel
theorem dX10_canPut_16 : decode cX10_canPut 16 = .ok (.invokevirtual 153, 3) := by decide +kernel
theorem dX10_canPut_19 : decode cX10_canPut 19 = .ok (.ifCond .eq 19, 3) := by decide +kernel
theorem dX10_canPut_22 : decode cX10_canPut 22 = .ok (.aload_n 0, 1) := by decide +kernel
theorem dX10_canPut_23 : decode cX10_canPut 23 = .ok (.iload_n 3, 1) := by decide +kernel
theorem dX10_canPut_24 : decode cX10_canPut 24 = .ok (.aload_n 0, 1) := by decide +kernel
theorem dX10_canPut_25 : decode cX10_canPut 25 = .ok (.getfield 60, 3) := by decide +kernel
theorem dX10_canPut_28 : decode cX10_canPut 28 = .ok (.invokevirtual 137, 3) := by decide +kernel
theorem dX10_canPut_31 : decode cX10_canPut 31 = .ok (.ifCond .ne 7, 3) := by decide +kernel
theorem dX10_canPut_34 : decode cX10_canPut 34 = .ok (.iconst 1, 1) := by decide +kernel
theorem dX10_canPut_35 : decode cX10_canPut 35 = .ok (.goto 4, 3) := by decide +kernel
theorem dX10_canPut_38 : decode cX10_canPut 38 = .ok (.iconst 0, 1) := by decide +kernel
theorem dX10_canPut_39 : decode cX10_canPut 39 = .ok (.ireturn, 1) := by decide +kernel
theorem dX10_turns_0 : decode cX10_turns 0 = .ok (.iload_n 1, 1) := by decide +kernel
theorem dX10_turns_1 : decode cX10_turns 1 = .ok (.iconst 0, 1) := by decide +kernel
theorem dX10_turns_2 : decode cX10_turns 2 = .ok (.iconst 1, 1) := by decide +kernel
theorem dX10_turns_3 : decode cX10_turns 3 = .ok (.invokestatic 69, 3) := by decide +kernel
theorem dX10_turns_6 : decode cX10_turns 6 = .ok (.ifCond .ne 6, 3) := by decide +kernel
theorem dX10_turns_9 : decode cX10_turns 9 = .ok (.bipush (-2), 2) := by decide +kernel
theorem dX10_turns_11 : decode cX10_turns 11 = .ok (.ireturn, 1) := by decide +kernel
theorem dX10_turns_12 : decode cX10_turns 12 = .ok (.bipush (-6), 2) := by decide +kernel
theorem dX10_turns_14 : decode cX10_turns 14 = .ok (.istore_n 2, 1) := by decide +kernel
theorem dX10_turns_15 : decode cX10_turns 15 = .ok (.iconst 1, 1) := by decide +kernel
theorem dX10_turns_16 : decode cX10_turns 16 = .ok (.aload_n 0, 1) := by decide +kernel
theorem dX10_turns_17 : decode cX10_turns 17 = .ok (.getfield 7, 3) := by decide +kernel
theorem dX10_turns_20 : decode cX10_turns 20 = .ok (.ishl, 1) := by decide +kernel
theorem dX10_turns_21 : decode cX10_turns 21 = .ok (.iconst 1, 1) := by decide +kernel
theorem dX10_turns_22 : decode cX10_turns 22 = .ok (.isub, 1) := by decide +kernel
theorem dX10_turns_23 : decode cX10_turns 23 = .ok (.istore_n 3, 1) := by decide +kernel
theorem dX10_turns_24 : decode cX10_turns 24 = .ok (.iload_n 3, 1) := by decide +kernel
theorem dX10_turns_25 : decode cX10_turns 25 = .ok (.ifCond .lt 111, 3) := by decide +kernel
theorem dX10_turns_28 : decode cX10_turns 28 = .ok (.aload_n 0, 1) := by decide +kernel
theorem dX10_turns_29 : decode cX10_turns 29 = .ok (.getfield 47, 3) := by decide +kernel
theorem dX10_turns_32 : decode cX10_turns 32 = .ok (.iload_n 3, 1) := by decide +kernel
theorem dX10_turns_33 : decode cX10_turns 33 = .ok (.iconst 0, 1) := by decide +kernel
theorem dX10_turns_34 : decode cX10_turns 34 = .ok (.bastore, 1) := by decide +kernel
theorem dX10_turns_35 : decode cX10_turns 35 = .ok (.aload_n 0, 1) := by decide +kernel
theorem dX10_turns_36 : decode cX10_turns 36 = .ok (.getfield 7, 3) := by decide +kernel
theorem dX10_turns_39 : decode cX10_turns 39 = .ok (.iconst 1, 1) := by decide +kernel
theorem dX10_turns_40 : decode cX10_turns 40 = .ok (.isub, 1) := by decide +kernel
theorem dX10_turns_41 : decode cX10_turns 41 = .ok (.istore 4, 2) := by decide +kernel
theorem dX10_turns_43 : decode cX10_turns 43 = .ok (.iload 4, 2) := by decide +kernel
theorem dX10_turns_45 : decode cX10_turns 45 = .ok (.ifCond .lt 85, 3) := by decide +kernel
theorem dX10_turns_48 : decode cX10_turns 48 = .ok (.aload_n 0, 1) := by decide +kernel
theorem dX10_turns_49 : decode cX10_turns 49 = .ok (.iload_n 3, 1) := by decide +kernel
theorem dX10_turns_50 : decode cX10_turns 50 = .ok (.iload 4, 2) := by decide +kernel
theorem dX10_turns_52 : decode cX10_turns 52 = .ok (.invokevirtual 174, 3) := by decide +kernel
theorem dX10_turns_55 : decode cX10_turns 55 = .ok (.ifCond .eq 21, 3) := by decide +kernel
theorem dX10_turns_58 : decode cX10_turns 58 = .ok (.aload_n 0, 1) := by decide +kernel
theorem dX10_turns_59 : decode cX10_turns 59 = .ok (.getfield 47, 3) := by decide +kernel
theorem dX10_turns_62 : decode cX10_turns 62 = .ok (.iload_n 3, 1) := by decide +kernel
theorem dX10_turns_63 : decode cX10_turns 63 = .ok (.iconst 1, 1) := by decide +kernel
theorem dX10_turns_64 : decode cX10_turns 64 = .ok (.iload 4, 2) := by decide +kernel
theorem dX10_turns_66 : decode cX10_turns 66 = .ok (.ishl, 1) := by decide +kernel
theorem dX10_turns_67 : decode cX10_turns 67 = .ok (.ior, 1) := by decide +kernel
theorem dX10_turns_68 : decode cX10_turns 68 = .ok (.baload, 1) := by decide +kernel
theorem dX10_turns_69 : decode cX10_turns 69 = .ok (.ifCond .ne 7, 3) := by decide +kernel
theorem dX10_turns_72 : decode cX10_turns 72 = .ok (.iconst 1, 1) := by decide +kernel
theorem dX10_turns_73 : decode cX10_turns 73 = .ok (.goto 4, 3) := by decide +kernel
theorem dX10_turns_76 : decode cX10_turns 76 = .ok (.iconst 0, 1) := by decide +kernel
theorem dX10_turns_77 : decode cX10_turns 77 = .ok (.istore 5, 2) := by decide +kernel
theorem dX10_turns_79 : decode cX10_turns 79 = .ok (.aload_n 0, 1) := by decide +kernel
theorem dX10_turns_80 : decode cX10_turns 80 = .ok (.getfield 47, 3) := by decide +kernel
theorem dX10_turns_83 : decode cX10_turns 83 = .ok (.iload_n 3, 1) := by decide +kernel
theorem dX10_turns_84 : decode cX10_turns 84 = .ok (.aload_n 0, 1) := by decide +kernel
theorem dX10_turns_85 : decode cX10_turns 85 = .ok (.getfield 47, 3) := by decide +kernel
theorem dX10_turns_88 : decode cX10_turns 88 = .ok (.iload_n 3, 1) := by decide +kernel
theorem dX10_turns_89 : decode cX10_turns 89 = .ok (.baload, 1) := by decide +kernel
theorem dX10_turns_90 : decode cX10_turns 90 = .ok (.ifCond .ne 8, 3) := by decide +kernel
theorem dX10_turns_93 : decode cX10_turns 93 = .ok (.iload 5, 2) := by decide +kernel
theorem dX10_turns_95 : decode cX10_turns 95 = .ok (.ifCond .eq 7, 3) := by decide +kernel
theorem dX10_turns_98 : decode cX10_turns 98 = .ok (.iconst 1, 1) := by decide +kernel
theorem dX10_turns_99 : decode cX10_turns 99 = .ok (.goto 4, 3) := by decide +kernel
theorem dX10_turns_102 : decode cX10_turns 102 = .ok (.iconst 0, 1) := by decide +kernel
theorem dX10_turns_103 : decode cX10_turns 103 = .ok (.bastore, 1) := by decide +kernel
theorem dX10_turns_104 : decode cX10_turns 104 = .ok (.iload 5, 2) := by decide +kernel
theorem dX10_turns_106 : decode cX10_turns 106 = .ok (.ifCond .eq 16, 3) := by decide +kernel
theorem dX10_turns_109 : decode cX10_turns 109 = .ok (.iload_n 3, 1) := by decide +kernel
theorem dX10_turns_110 : decode cX10_turns 110 = .ok (.aload_n 0, 1) := by decide +kernel
theorem dX10_turns_111 : decode cX10_turns 111 = .ok (.getfield 63, 3) := by decide +kernel
theorem dX10_turns_114 : decode cX10_turns 114 = .ok (.if_icmp .ne 8, 3) := by decide +kernel
theorem dX10_turns_117 : decode cX10_turns 117 = .ok (.iload 4, 2) := by decide +kernel
theorem dX10_turns_119 : decode cX10_turns 119 = .ok (.goto 4, 3) := by decide +kernel
theorem dX10_turns_122 : decode cX10_turns 122 = .ok (.iload_n 2, 1) := by decide +kernel
theorem dX10_turns_123 : decode cX10_turns 123 = .ok (.istore_n 2, 1) := by decide +kernel
theorem dX10_turns_124 : decode cX10_turns 124 = .ok (.iinc 4 (-1), 3) := by decide +kernel
theorem dX10_turns_127 : decode cX10_turns 127 = .ok (.goto (-84), 3) := by decide +kernel
theorem dX10_turns_130 : decode cX10_turns 130 = .ok (.iinc 3 (-1), 3) := by decide +kernel
theorem dX10_turns_133 : decode cX10_turns 133 = .ok (.goto (-109), 3) := by decide +kernel
theorem dX10_turns_136 : decode cX10_turns 136 = .ok (.iload_n 1, 1) := by decide +kernel
theorem dX10_turns_137 : decode cX10_turns 137 = .ok (.iconst 1, 1) := by decide +kernel
theorem dX10_turns_138 : decode cX10_turns 138 = .ok (.if_icmp .ne 7, 3) := by decide +kernel
theorem dX10_turns_141 : decode cX10_turns 141 = .ok (.iload_n 2, 1) := by decide +kernel
theorem dX10_turns_142 : decode cX10_turns 142 = .ok (.goto 20, 3) := by decide +kernel
theorem dX10_turns_145 : decode cX10_turns 145 = .ok (.aload_n 0, 1) := by decide +kernel
theorem dX10_turns_146 : decode cX10_turns 146 = .ok (.getfield 47, 3) := by decide +kernel
theorem dX10_turns_149 : decode cX10_turns 149 = .ok (.aload_n 0, 1) := by decide +kernel
theorem dX10_turns_150 : decode cX10_turns 150 = .ok (.getfield 63, 3) := by decide +kernel
theorem dX10_turns_153 : decode cX10_turns 153 = .ok (.baload, 1) := by decide +kernel
theorem dX10_turns_154 : decode cX10_turns 154 = .ok (.ifCond .eq 7, 3) := by decide +kernel
theorem dX10_turns_157 : decode cX10_turns 157 = .ok (.iconst 0, 1) := by decide +kernel
theorem dX10_turns_158 : decode cX10_turns 158 = .ok (.goto 4, 3) := by decide +kernel
theorem dX10_turns_161 : decode cX10_turns 161 = .ok (.iconst 1, 1) := by decide +kernel
theorem dX10_turns_162 : decode cX10_turns 162 = .ok (.ireturn, 1) := by decide +kernel
theorem dX10_likely_0 : decode cX10_likely 0 = .ok (.lconst 0, 1) := by decide +kernel
theorem dX10_likely_1 : decode cX10_likely 1 = .ok (.lstore 4, 2) := by decide +kernel
theorem dX10_likely_3 : decode cX10_likely 3 = .ok (.iconst 0, 1) := by decide +kernel
theorem dX10_likely_4 : decode cX10_likely 4 = .ok (.istore 6, 2) := by decide +kernel
theorem dX10_likely_6 : decode cX10_likely 6 = .ok (.iload 6, 2) := by decide +kernel
theorem dX10_likely_8 : decode cX10_likely 8 = .ok (.iconst 1, 1) := by decide +kernel
theorem dX10_likely_9 : decode cX10_likely 9 = .ok (.aload_n 0, 1) := by decide +kernel
theorem dX10_likely_10 : decode cX10_likely 10 = .ok (.getfield 7, 3) := by decide +kernel
theorem dX10_likely_13 : decode cX10_likely 13 = .ok (.ishl, 1) := by decide +kernel
theorem dX10_likely_14 : decode cX10_likely 14 = .ok (.if_icmp .ge 146, 3) := by decide +kernel
theorem dX10_likely_17 : decode cX10_likely 17 = .ok (.iload 6, 2) := by decide +kernel
theorem dX10_likely_19 : decode cX10_likely 19 = .ok (.aload_n 0, 1) := by decide +kernel
theorem dX10_likely_20 : decode cX10_likely 20 = .ok (.getfield 63, 3) := by decide +kernel
theorem dX10_likely_23 : decode cX10_likely 23 = .ok (.iconst (-1), 1) := by decide +kernel
theorem dX10_likely_24 : decode cX10_likely 24 = .ok (.ixor, 1) := by decide +kernel
theorem dX10_likely_25 : decode cX10_likely 25 = .ok (.iand, 1) := by decide +kernel
theorem dX10_likely_26 : decode cX10_likely 26 = .ok (.ifCond .ne 128, 3) := by decide +kernel
theorem dX10_likely_29 : decode cX10_likely 29 = .ok (.lconst 1, 1) := by decide +kernel
theorem dX10_likely_30 : decode cX10_likely 30 = .ok (.lstore 7, 2) := by decide +kernel
theorem dX10_likely_32 : decode cX10_likely 32 = .ok (.iconst 0, 1) := by decide +kernel
theorem dX10_likely_33 : decode cX10_likely 33 = .ok (.istore 9, 2) := by decide +kernel
theorem dX10_likely_35 : decode cX10_likely 35 = .ok (.iload 9, 2) := by decide +kernel
theorem dX10_likely_37 : decode cX10_likely 37 = .ok (.aload_n 0, 1) := by decide +kernel
theorem dX10_likely_38 : decode cX10_likely 38 = .ok (.getfield 7, 3) := by decide +kernel
theorem dX10_likely_41 : decode cX10_likely 41 = .ok (.if_icmp .ge 50, 3) := by decide +kernel
theorem dX10_likely_44 : decode cX10_likely 44 = .ok (.lload 7, 2) := by decide +kernel
theorem dX10_likely_46 : decode cX10_likely 46 = .ok (.aload_n 0, 1) := by decide +kernel
theorem dX10_likely_47 : decode cX10_likely 47 = .ok (.getfield 63, 3) := by decide +kernel
theorem dX10_likely_50 : decode cX10_likely 50 = .ok (.iload 9, 2) := by decide +kernel
theorem dX10_likely_52 : decode cX10_likely 52 = .ok (.invokestatic 91, 3) := by decide +kernel
theorem dX10_likely_55 : decode cX10_likely 55 = .ok (.ifCond .ne 7, 3) := by decide +kernel
theorem dX10_likely_58 : decode cX10_likely 58 = .ok (.lconst 1, 1) := by decide +kernel
theorem dX10_likely_59 : decode cX10_likely 59 = .ok (.goto 23, 3) := by decide +kernel
theorem dX10_likely_62 : decode cX10_likely 62 = .ok (.iload 6, 2) := by decide +kernel
theorem dX10_likely_64 : decode cX10_likely 64 = .ok (.iload 9, 2) := by decide +kernel
theorem dX10_likely_66 : decode cX10_likely 66 = .ok (.invokestatic 91, 3) := by decide +kernel
theorem dX10_likely_69 : decode cX10_likely 69 = .ok (.ifCond .eq 11, 3) := by decide +kernel
theorem dX10_likely_72 : decode cX10_likely 72 = .ok (.bipush 10, 2) := by decide +kernel
theorem dX10_likely_74 : decode cX10_likely 74 = .ok (.iload_n 3, 1) := by decide +kernel
theorem dX10_likely_75 : decode cX10_likely 75 = .ok (.isub, 1) := by decide +kernel
theorem dX10_likely_76 : decode cX10_likely 76 = .ok (.i2l, 1) := by decide +kernel
theorem dX10_likely_77 : decode cX10_likely 77 = .ok (.goto 5, 3) := by decide +kernel
theorem dX10_likely_80 : decode cX10_likely 80 = .ok (.iload_n 3, 1) := by decide +kernel
theorem dX10_likely_81 : decode cX10_likely 81 = .ok (.i2l, 1) := by decide +kernel
theorem dX10_likely_82 : decode cX10_likely 82 = .ok (.lmul, 1) := by decide +kernel
theorem dX10_likely_83 : decode cX10_likely 83 = .ok (.lstore 7, 2) := by decide +kernel
theorem dX10_likely_85 : decode cX10_likely 85 = .ok (.iinc 9 1, 3) := by decide +kernel
theorem dX10_likely_88 : decode cX10_likely 88 = .ok (.goto (-53), 3) := by decide +kernel
theorem dX10_likely_91 : decode cX10_likely 91 = .ok (.iload_n 1, 1) := by decide +kernel
theorem dX10_likely_92 : decode cX10_likely 92 = .ok (.ifCond .ge 24, 3) := by decide +kernel
theorem dX10_likely_95 : decode cX10_likely 95 = .ok (.aload_n 0, 1) := by decide +kernel
theorem dX10_likely_96 : decode cX10_likely 96 = .ok (.iload 6, 2) := by decide +kernel
theorem dX10_likely_98 : decode cX10_likely 98 = .ok (.aload_n 0, 1) := by decide +kernel
theorem dX10_likely_99 : decode cX10_likely 99 = .ok (.getfield 60, 3) := by decide +kernel
theorem dX10_likely_102 : decode cX10_likely 102 = .ok (.invokevirtual 137, 3) := by decide +kernel
theorem dX10_likely_105 : decode cX10_likely 105 = .ok (.ifCond .ne 7, 3) := by decide +kernel
theorem dX10_likely_108 : decode cX10_likely 108 = .ok (.iconst 1, 1) := by decide +kernel
theorem dX10_likely_109 : decode cX10_likely 109 = .ok (.goto 27, 3) := by decide +kernel
theorem dX10_likely_112 : decode cX10_likely 112 = .ok (.iconst 0, 1) := by decide +kernel
theorem dX10_likely_113 : decode cX10_likely 113 = .ok (.goto 23, 3) := by decide +kernel
theorem dX10_likely_116 : decode cX10_likely 116 = .ok (.aload_n 0, 1) := by decide +kernel
theorem dX10_likely_117 : decode cX10_likely 117 = .ok (.iload_n 1, 1) := by decide +kernel
theorem dX10_likely_118 : decode cX10_likely 118 = .ok (.iload 6, 2) := by decide +kernel
theorem dX10_likely_120 : decode cX10_likely 120 = .ok (.aload_n 0, 1) := by decide +kernel
theorem dX10_likely_121 : decode cX10_likely 121 = .ok (.getfield 60, 3) := by decide +kernel
theorem dX10_likely_124 : decode cX10_likely 124 = .ok (.invokevirtual 99, 3) := by decide +kernel
theorem dX10_likely_127 : decode cX10_likely 127 = .ok (.iload_n 2, 1) := by decide +kernel
theorem dX10_likely_128 : decode cX10_likely 128 = .ok (.if_icmp .ne 7, 3) := by decide +kernel
theorem dX10_likely_131 : decode cX10_likely 131 = .ok (.iconst 1, 1) := by decide +kernel
theorem dX10_likely_132 : decode cX10_likely 132 = .ok (.goto 4, 3) := by decide +kernel
theorem dX10_likely_135 : decode cX10_likely 135 = .ok (.iconst 0, 1) := by decide +kernel
theorem dX10_likely_136 : decode cX10_likely 136 = .ok (.istore 9, 2) := by decide +kernel
theorem dX10_likely_138 : decode cX10_likely 138 = .ok (.lload 4, 2) := by decide +kernel
theorem dX10_likely_140 : decode cX10_likely 140 = .ok (.iload 9, 2) := by decide +kernel
theorem dX10_likely_142 : decode cX10_likely 142 = .ok (.ifCond .eq 8, 3) := by decide +kernel
theorem dX10_likely_145 : decode cX10_likely 145 = .ok (.lload 7, 2) := by decide +kernel
theorem dX10_likely_147 : decode cX10_likely 147 = .ok (.goto 4, 3) := by decide +kernel
theorem dX10_likely_150 : decode cX10_likely 150 = .ok (.lconst 0, 1) := by decide +kernel
theorem dX10_likely_151 : decode cX10_likely 151 = .ok (.ladd, 1) := by decide +kernel
theorem dX10_likely_152 : decode cX10_likely 152 = .ok (.lstore 4, 2) := by decide +kernel
theorem dX10_likely_154 : decode cX10_likely 154 = .ok (.iinc 6 1, 3) := by decide +kernel
theorem dX10_likely_157 : decode cX10_likely 157 = .ok (.goto (-151), 3) := by decide +kernel
theorem dX10_likely_160 : decode cX10_likely 160 = .ok (.lload 4, 2) := by decide +kernel
theorem dX10_likely_162 : decode cX10_likely 162 = .ok (.lreturn, 1) := by decide +kernel
theorem dX10_part_0 : decode cX10_part 0 = .ok (.lconst 1, 1) := by decide +kernel
theorem dX10_part_1 : decode cX10_part 1 = .ok (.lstore 4, 2) := by decide +kernel
theorem dX10_part_3 : decode cX10_part 3 = .ok (.iconst 0, 1) := by decide +kernel
theorem dX10_part_4 : decode cX10_part 4 = .ok (.istore 6, 2) := by decide +kernel
theorem dX10_part_6 : decode cX10_part 6 = .ok (.iload 6, 2) := by decide +kernel
theorem dX10_part_8 : decode cX10_part 8 = .ok (.aload_n 0, 1) := by decide +kernel
theorem dX10_part_9 : decode cX10_part 9 = .ok (.getfield 63, 3) := by decide +kernel
theorem dX10_part_12 : decode cX10_part 12 = .ok (.invokestatic 112, 3) := by decide +kernel
theorem dX10_part_15 : decode cX10_part 15 = .ok (.if_icmp .ge 17, 3) := by decide +kernel
theorem dX10_part_18 : decode cX10_part 18 = .ok (.lload 4, 2) := by decide +kernel
theorem dX10_part_20 : decode cX10_part 20 = .ok (.ldc2_w 177, 3) := by decide +kernel
theorem dX10_part_23 : decode cX10_part 23 = .ok (.lmul, 1) := by decide +kernel
theorem dX10_part_24 : decode cX10_part 24 = .ok (.lstore 4, 2) := by decide +kernel
theorem dX10_part_26 : decode cX10_part 26 = .ok (.iinc 6 1, 3) := by decide +kernel
theorem dX10_part_29 : decode cX10_part 29 = .ok (.goto (-23), 3) := by decide +kernel
theorem dX10_part_32 : decode cX10_part 32 = .ok (.lload_n 1, 1) := by decide +kernel
theorem dX10_part_33 : decode cX10_part 33 = .ok (.lstore 6, 2) := by decide +kernel
theorem dX10_part_35 : decode cX10_part 35 = .ok (.lload 4, 2) := by decide +kernel
theorem dX10_part_37 : decode cX10_part 37 = .ok (.lstore 8, 2) := by decide +kernel
theorem dX10_part_39 : decode cX10_part 39 = .ok (.lload 8, 2) := by decide +kernel
theorem dX10_part_41 : decode cX10_part 41 = .ok (.lconst 0, 1) := by decide +kernel
theorem dX10_part_42 : decode cX10_part 42 = .ok (.lcmp, 1) := by decide +kernel
theorem dX10_part_43 : decode cX10_part 43 = .ok (.ifCond .eq 21, 3) := by decide +kernel
theorem dX10_part_46 : decode cX10_part 46 = .ok (.lload 6, 2) := by decide +kernel
theorem dX10_part_48 : decode cX10_part 48 = .ok (.lload 8, 2) := by decide +kernel
theorem dX10_part_50 : decode cX10_part 50 = .ok (.lrem, 1) := by decide +kernel
theorem dX10_part_51 : decode cX10_part 51 = .ok (.lstore 10, 2) := by decide +kernel
theorem dX10_part_53 : decode cX10_part 53 = .ok (.lload 8, 2) := by decide +kernel
theorem dX10_part_55 : decode cX10_part 55 = .ok (.lstore 6, 2) := by decide +kernel
theorem dX10_part_57 : decode cX10_part 57 = .ok (.lload 10, 2) := by decide +kernel
theorem dX10_part_59 : decode cX10_part 59 = .ok (.lstore 8, 2) := by decide +kernel
theorem dX10_part_61 : decode cX10_part 61 = .ok (.goto (-22), 3) := by decide +kernel
theorem dX10_part_64 : decode cX10_part 64 = .ok (.iload_n 3, 1) := by decide +kernel
theorem dX10_part_65 : decode cX10_part 65 = .ok (.ifCond .ne 10, 3) := by decide +kernel
theorem dX10_part_68 : decode cX10_part 68 = .ok (.lload_n 1, 1) := by decide +kernel
theorem dX10_part_69 : decode cX10_part 69 = .ok (.lload 6, 2) := by decide +kernel
theorem dX10_part_71 : decode cX10_part 71 = .ok (.ldiv, 1) := by decide +kernel
theorem dX10_part_72 : decode cX10_part 72 = .ok (.goto 8, 3) := by decide +kernel
theorem dX10_part_75 : decode cX10_part 75 = .ok (.lload 4, 2) := by decide +kernel
theorem dX10_part_77 : decode cX10_part 77 = .ok (.lload 6, 2) := by decide +kernel
theorem dX10_part_79 : decode cX10_part 79 = .ok (.ldiv, 1) := by decide +kernel
theorem dX10_part_80 : decode cX10_part 80 = .ok (.lreturn, 1) := by decide +kernel
theorem dX10_slips_0 : decode cX10_slips 0 = .ok (.aload_n 0, 1) := by decide +kernel
theorem dX10_slips_1 : decode cX10_slips 1 = .ok (.iload_n 1, 1) := by decide +kernel
theorem dX10_slips_2 : decode cX10_slips 2 = .ok (.invokevirtual 73, 3) := by decide +kernel
theorem dX10_slips_5 : decode cX10_slips 5 = .ok (.ifCond .ne 7, 3) := by decide +kernel
theorem dX10_slips_8 : decode cX10_slips 8 = .ok (.ldc2_w 149, 3) := by decide +kernel
theorem dX10_slips_11 : decode cX10_slips 11 = .ok (.lreturn, 1) := by decide +kernel
theorem dX10_slips_12 : decode cX10_slips 12 = .ok (.iload_n 2, 1) := by decide +kernel
theorem dX10_slips_13 : decode cX10_slips 13 = .ok (.iconst 1, 1) := by decide +kernel
theorem dX10_slips_14 : decode cX10_slips 14 = .ok (.sipush 200, 3) := by decide +kernel
theorem dX10_slips_17 : decode cX10_slips 17 = .ok (.invokestatic 69, 3) := by decide +kernel
theorem dX10_slips_20 : decode cX10_slips 20 = .ok (.ifCond .eq 23, 3) := by decide +kernel
theorem dX10_slips_23 : decode cX10_slips 23 = .ok (.iload_n 3, 1) := by decide +kernel
theorem dX10_slips_24 : decode cX10_slips 24 = .ok (.iconst 0, 1) := by decide +kernel
theorem dX10_slips_25 : decode cX10_slips 25 = .ok (.bipush 10, 2) := by decide +kernel
theorem dX10_slips_27 : decode cX10_slips 27 = .ok (.invokestatic 69, 3) := by decide +kernel
theorem dX10_slips_30 : decode cX10_slips 30 = .ok (.ifCond .eq 13, 3) := by decide +kernel
theorem dX10_slips_33 : decode cX10_slips 33 = .ok (.iload 4, 2) := by decide +kernel
theorem dX10_slips_35 : decode cX10_slips 35 = .ok (.iconst 0, 1) := by decide +kernel
theorem dX10_slips_36 : decode cX10_slips 36 = .ok (.iconst 1, 1) := by decide +kernel
theorem dX10_slips_37 : decode cX10_slips 37 = .ok (.invokestatic 69, 3) := by decide +kernel
theorem dX10_slips_40 : decode cX10_slips 40 = .ok (.ifCond .ne 7, 3) := by decide +kernel
theorem dX10_slips_43 : decode cX10_slips 43 = .ok (.ldc2_w 151, 3) := by decide +kernel
theorem dX10_slips_46 : decode cX10_slips 46 = .ok (.lreturn, 1) := by decide +kernel
theorem dX10_slips_47 : decode cX10_slips 47 = .ok (.aload_n 0, 1) := by decide +kernel
theorem dX10_slips_48 : decode cX10_slips 48 = .ok (.aload_n 0, 1) := by decide +kernel
theorem dX10_slips_49 : decode cX10_slips 49 = .ok (.iload_n 1, 1) := by decide +kernel
theorem dX10_slips_50 : decode cX10_slips 50 = .ok (.iload_n 2, 1) := by decide +kernel
theorem dX10_slips_51 : decode cX10_slips 51 = .ok (.iload_n 3, 1) := by decide +kernel
theorem dX10_slips_52 : decode cX10_slips 52 = .ok (.invokevirtual 179, 3) := by decide +kernel
theorem dX10_slips_55 : decode cX10_slips 55 = .ok (.iload 4, 2) := by decide +kernel
theorem dX10_slips_57 : decode cX10_slips 57 = .ok (.invokevirtual 183, 3) := by decide +kernel
theorem dX10_slips_60 : decode cX10_slips 60 = .ok (.lreturn, 1) := by decide +kernel
theorem dX10_calm_0 : decode cX10_calm 0 = .ok (.iload_n 1, 1) := by decide +kernel
theorem dX10_calm_1 : decode cX10_calm 1 = .ok (.iconst 0, 1) := by decide +kernel
theorem dX10_calm_2 : decode cX10_calm 2 = .ok (.bipush 10, 2) := by decide +kernel
theorem dX10_calm_4 : decode cX10_calm 4 = .ok (.invokestatic 69, 3) := by decide +kernel
theorem dX10_calm_7 : decode cX10_calm 7 = .ok (.ifCond .eq 12, 3) := by decide +kernel
theorem dX10_calm_10 : decode cX10_calm 10 = .ok (.iload_n 2, 1) := by decide +kernel
theorem dX10_calm_11 : decode cX10_calm 11 = .ok (.iconst 0, 1) := by decide +kernel
theorem dX10_calm_12 : decode cX10_calm 12 = .ok (.iconst 1, 1) := by decide +kernel
theorem dX10_calm_13 : decode cX10_calm 13 = .ok (.invokestatic 69, 3) := by decide +kernel
theorem dX10_calm_16 : decode cX10_calm 16 = .ok (.ifCond .ne 7, 3) := by decide +kernel
theorem dX10_calm_19 : decode cX10_calm 19 = .ok (.ldc2_w 151, 3) := by decide +kernel
theorem dX10_calm_22 : decode cX10_calm 22 = .ok (.lreturn, 1) := by decide +kernel
theorem dX10_calm_23 : decode cX10_calm 23 = .ok (.aload_n 0, 1) := by decide +kernel
theorem dX10_calm_24 : decode cX10_calm 24 = .ok (.aload_n 0, 1) := by decide +kernel
theorem dX10_calm_25 : decode cX10_calm 25 = .ok (.bipush (-6), 2) := by decide +kernel
theorem dX10_calm_27 : decode cX10_calm 27 = .ok (.iconst 0, 1) := by decide +kernel
theorem dX10_calm_28 : decode cX10_calm 28 = .ok (.iload_n 1, 1) := by decide +kernel
theorem dX10_calm_29 : decode cX10_calm 29 = .ok (.invokevirtual 179, 3) := by decide +kernel
theorem dX10_calm_32 : decode cX10_calm 32 = .ok (.iload_n 2, 1) := by decide +kernel
theorem dX10_calm_33 : decode cX10_calm 33 = .ok (.invokevirtual 183, 3) := by decide +kernel
theorem dX10_calm_36 : decode cX10_calm 36 = .ok (.lreturn, 1) := by decide +kernel
theorem dX10_year_0 : decode cX10_year 0 = .ok (.iload_n 1, 1) := by decide +kernel
theorem dX10_year_1 : decode cX10_year 1 = .ok (.iconst 0, 1) := by decide +kernel
theorem dX10_year_2 : decode cX10_year 2 = .ok (.sipush 9999, 3) := by decide +kernel
theorem dX10_year_5 : decode cX10_year 5 = .ok (.invokestatic 69, 3) := by decide +kernel
theorem dX10_year_8 : decode cX10_year 8 = .ok (.ifCond .eq 22, 3) := by decide +kernel
theorem dX10_year_11 : decode cX10_year 11 = .ok (.iload_n 2, 1) := by decide +kernel
theorem dX10_year_12 : decode cX10_year 12 = .ok (.iconst 1, 1) := by decide +kernel
theorem dX10_year_13 : decode cX10_year 13 = .ok (.bipush 99, 2) := by decide +kernel
theorem dX10_year_15 : decode cX10_year 15 = .ok (.invokestatic 69, 3) := by decide +kernel
theorem dX10_year_18 : decode cX10_year 18 = .ok (.ifCond .eq 12, 3) := by decide +kernel
theorem dX10_year_21 : decode cX10_year 21 = .ok (.iload_n 3, 1) := by decide +kernel
theorem dX10_year_22 : decode cX10_year 22 = .ok (.iconst 0, 1) := by decide +kernel
theorem dX10_year_23 : decode cX10_year 23 = .ok (.iconst 2, 1) := by decide +kernel
theorem dX10_year_24 : decode cX10_year 24 = .ok (.invokestatic 69, 3) := by decide +kernel
theorem dX10_year_27 : decode cX10_year 27 = .ok (.ifCond .ne 6, 3) := by decide +kernel
theorem dX10_year_30 : decode cX10_year 30 = .ok (.bipush (-2), 2) := by decide +kernel
theorem dX10_year_32 : decode cX10_year 32 = .ok (.ireturn, 1) := by decide +kernel
theorem dX10_year_33 : decode cX10_year 33 = .ok (.aload_n 0, 1) := by decide +kernel
theorem dX10_year_34 : decode cX10_year 34 = .ok (.aload_n 0, 1) := by decide +kernel
theorem dX10_year_35 : decode cX10_year 35 = .ok (.getfield 63, 3) := by decide +kernel
theorem dX10_year_38 : decode cX10_year 38 = .ok (.putfield 109, 3) := by decide +kernel
theorem dX10_year_41 : decode cX10_year 41 = .ok (.aload_n 0, 1) := by decide +kernel
theorem dX10_year_42 : decode cX10_year 42 = .ok (.aload_n 0, 1) := by decide +kernel
theorem dX10_year_43 : decode cX10_year 43 = .ok (.getfield 60, 3) := by decide +kernel
theorem dX10_year_46 : decode cX10_year 46 = .ok (.putfield 106, 3) := by decide +kernel
theorem dX10_year_49 : decode cX10_year 49 = .ok (.iload_n 1, 1) := by decide +kernel
theorem dX10_year_50 : decode cX10_year 50 = .ok (.istore 4, 2) := by decide +kernel
theorem dX10_year_52 : decode cX10_year 52 = .ok (.iconst 0, 1) := by decide +kernel
theorem dX10_year_53 : decode cX10_year 53 = .ok (.istore 5, 2) := by decide +kernel
theorem dX10_year_55 : decode cX10_year 55 = .ok (.iconst 0, 1) := by decide +kernel
theorem dX10_year_56 : decode cX10_year 56 = .ok (.istore 6, 2) := by decide +kernel
theorem dX10_year_58 : decode cX10_year 58 = .ok (.iconst 0, 1) := by decide +kernel
theorem dX10_year_59 : decode cX10_year 59 = .ok (.istore 7, 2) := by decide +kernel
theorem dX10_year_61 : decode cX10_year 61 = .ok (.iload 7, 2) := by decide +kernel
theorem dX10_year_63 : decode cX10_year 63 = .ok (.iload_n 2, 1) := by decide +kernel
theorem dX10_year_64 : decode cX10_year 64 = .ok (.if_icmp .ge 121, 3) := by decide +kernel
theorem dX10_year_67 : decode cX10_year 67 = .ok (.bipush 75, 2) := by decide +kernel
theorem dX10_year_69 : decode cX10_year 69 = .ok (.iload 4, 2) := by decide +kernel
theorem dX10_year_71 : decode cX10_year 71 = .ok (.imul, 1) := by decide +kernel
theorem dX10_year_72 : decode cX10_year 72 = .ok (.bipush 74, 2) := by decide +kernel
theorem dX10_year_74 : decode cX10_year 74 = .ok (.iadd, 1) := by decide +kernel
theorem dX10_year_75 : decode cX10_year 75 = .ok (.ldc 187, 2) := by decide +kernel
theorem dX10_year_77 : decode cX10_year 77 = .ok (.irem, 1) := by decide +kernel
theorem dX10_year_78 : decode cX10_year 78 = .ok (.istore 4, 2) := by decide +kernel
theorem dX10_year_80 : decode cX10_year 80 = .ok (.iload 4, 2) := by decide +kernel
theorem dX10_year_82 : decode cX10_year 82 = .ok (.iconst 5, 1) := by decide +kernel
theorem dX10_year_83 : decode cX10_year 83 = .ok (.irem, 1) := by decide +kernel
theorem dX10_year_84 : decode cX10_year 84 = .ok (.istore 8, 2) := by decide +kernel
theorem dX10_year_86 : decode cX10_year 86 = .ok (.iload 8, 2) := by decide +kernel
theorem dX10_year_88 : decode cX10_year 88 = .ok (.ifCond .ne 8, 3) := by decide +kernel
theorem dX10_year_91 : decode cX10_year 91 = .ok (.bipush 43, 2) := by decide +kernel
theorem dX10_year_93 : decode cX10_year 93 = .ok (.goto 26, 3) := by decide +kernel
theorem dX10_year_96 : decode cX10_year 96 = .ok (.iload 8, 2) := by decide +kernel
theorem dX10_year_98 : decode cX10_year 98 = .ok (.iconst 1, 1) := by decide +kernel
theorem dX10_year_99 : decode cX10_year 99 = .ok (.if_icmp .ne 8, 3) := by decide +kernel
theorem dX10_year_102 : decode cX10_year 102 = .ok (.bipush 45, 2) := by decide +kernel
theorem dX10_year_104 : decode cX10_year 104 = .ok (.goto 15, 3) := by decide +kernel
theorem dX10_year_107 : decode cX10_year 107 = .ok (.bipush 97, 2) := by decide +kernel
theorem dX10_year_109 : decode cX10_year 109 = .ok (.iload 4, 2) := by decide +kernel
theorem dX10_year_111 : decode cX10_year 111 = .ok (.iconst 5, 1) := by decide +kernel
theorem dX10_year_112 : decode cX10_year 112 = .ok (.idiv, 1) := by decide +kernel
theorem dX10_year_113 : decode cX10_year 113 = .ok (.aload_n 0, 1) := by decide +kernel
theorem dX10_year_114 : decode cX10_year 114 = .ok (.getfield 7, 3) := by decide +kernel
theorem dX10_year_117 : decode cX10_year 117 = .ok (.irem, 1) := by decide +kernel
theorem dX10_year_118 : decode cX10_year 118 = .ok (.iadd, 1) := by decide +kernel
theorem dX10_year_119 : decode cX10_year 119 = .ok (.istore 9, 2) := by decide +kernel
theorem dX10_year_121 : decode cX10_year 121 = .ok (.aload_n 0, 1) := by decide +kernel
theorem dX10_year_122 : decode cX10_year 122 = .ok (.iload 9, 2) := by decide +kernel
theorem dX10_year_124 : decode cX10_year 124 = .ok (.invokevirtual 127, 3) := by decide +kernel
theorem dX10_year_127 : decode cX10_year 127 = .ok (.ifCond .ne 9, 3) := by decide +kernel
theorem dX10_year_130 : decode cX10_year 130 = .ok (.aload_n 0, 1) := by decide +kernel
theorem dX10_year_131 : decode cX10_year 131 = .ok (.iload 9, 2) := by decide +kernel
theorem dX10_year_133 : decode cX10_year 133 = .ok (.invokevirtual 133, 3) := by decide +kernel
theorem dX10_year_136 : decode cX10_year 136 = .ok (.iload 5, 2) := by decide +kernel
theorem dX10_year_138 : decode cX10_year 138 = .ok (.aload_n 0, 1) := by decide +kernel
theorem dX10_year_139 : decode cX10_year 139 = .ok (.aload_n 0, 1) := by decide +kernel
theorem dX10_year_140 : decode cX10_year 140 = .ok (.getfield 109, 3) := by decide +kernel
theorem dX10_year_143 : decode cX10_year 143 = .ok (.aload_n 0, 1) := by decide +kernel
theorem dX10_year_144 : decode cX10_year 144 = .ok (.getfield 106, 3) := by decide +kernel
theorem dX10_year_147 : decode cX10_year 147 = .ok (.invokevirtual 137, 3) := by decide +kernel
theorem dX10_year_150 : decode cX10_year 150 = .ok (.ifCond .eq 7, 3) := by decide +kernel
theorem dX10_year_153 : decode cX10_year 153 = .ok (.iconst 1, 1) := by decide +kernel
theorem dX10_year_154 : decode cX10_year 154 = .ok (.goto 4, 3) := by decide +kernel
theorem dX10_year_157 : decode cX10_year 157 = .ok (.iconst 0, 1) := by decide +kernel
theorem dX10_year_158 : decode cX10_year 158 = .ok (.iadd, 1) := by decide +kernel
theorem dX10_year_159 : decode cX10_year 159 = .ok (.istore 5, 2) := by decide +kernel
theorem dX10_year_161 : decode cX10_year 161 = .ok (.iload 6, 2) := by decide +kernel
theorem dX10_year_163 : decode cX10_year 163 = .ok (.aload_n 0, 1) := by decide +kernel
theorem dX10_year_164 : decode cX10_year 164 = .ok (.iconst 0, 1) := by decide +kernel
theorem dX10_year_165 : decode cX10_year 165 = .ok (.aload_n 0, 1) := by decide +kernel
theorem dX10_year_166 : decode cX10_year 166 = .ok (.getfield 109, 3) := by decide +kernel
theorem dX10_year_169 : decode cX10_year 169 = .ok (.aload_n 0, 1) := by decide +kernel
theorem dX10_year_170 : decode cX10_year 170 = .ok (.getfield 106, 3) := by decide +kernel
theorem dX10_year_173 : decode cX10_year 173 = .ok (.invokevirtual 99, 3) := by decide +kernel
theorem dX10_year_176 : decode cX10_year 176 = .ok (.iadd, 1) := by decide +kernel
theorem dX10_year_177 : decode cX10_year 177 = .ok (.istore 6, 2) := by decide +kernel
theorem dX10_year_179 : decode cX10_year 179 = .ok (.iinc 7 1, 3) := by decide +kernel
theorem dX10_year_182 : decode cX10_year 182 = .ok (.goto (-121), 3) := by decide +kernel
theorem dX10_year_185 : decode cX10_year 185 = .ok (.iload_n 3, 1) := by decide +kernel
theorem dX10_year_186 : decode cX10_year 186 = .ok (.ifCond .ne 8, 3) := by decide +kernel
theorem dX10_year_189 : decode cX10_year 189 = .ok (.iload 5, 2) := by decide +kernel
theorem dX10_year_191 : decode cX10_year 191 = .ok (.goto 17, 3) := by decide +kernel
theorem dX10_year_194 : decode cX10_year 194 = .ok (.iload_n 3, 1) := by decide +kernel
theorem dX10_year_195 : decode cX10_year 195 = .ok (.iconst 1, 1) := by decide +kernel
theorem dX10_year_196 : decode cX10_year 196 = .ok (.if_icmp .ne 8, 3) := by decide +kernel
theorem dX10_year_199 : decode cX10_year 199 = .ok (.iload 6, 2) := by decide +kernel
theorem dX10_year_201 : decode cX10_year 201 = .ok (.goto 7, 3) := by decide +kernel
theorem dX10_year_204 : decode cX10_year 204 = .ok (.aload_n 0, 1) := by decide +kernel
theorem dX10_year_205 : decode cX10_year 205 = .ok (.getfield 109, 3) := by decide +kernel
theorem dX10_year_208 : decode cX10_year 208 = .ok (.ireturn, 1) := by decide +kernel
theorem dX10_image_0 : decode cX10_image 0 = .ok (.iload_n 1, 1) := by decide +kernel
theorem dX10_image_1 : decode cX10_image 1 = .ok (.iconst 0, 1) := by decide +kernel
theorem dX10_image_2 : decode cX10_image 2 = .ok (.iconst 1, 1) := by decide +kernel
theorem dX10_image_3 : decode cX10_image 3 = .ok (.invokestatic 69, 3) := by decide +kernel
theorem dX10_image_6 : decode cX10_image 6 = .ok (.ifCond .ne 6, 3) := by decide +kernel
theorem dX10_image_9 : decode cX10_image 9 = .ok (.bipush (-2), 2) := by decide +kernel
theorem dX10_image_11 : decode cX10_image 11 = .ok (.ireturn, 1) := by decide +kernel
theorem dX10_image_12 : decode cX10_image 12 = .ok (.bipush 50, 2) := by decide +kernel
theorem dX10_image_14 : decode cX10_image 14 = .ok (.iload_n 1, 1) := by decide +kernel
theorem dX10_image_15 : decode cX10_image 15 = .ok (.imul, 1) := by decide +kernel
theorem dX10_image_16 : decode cX10_image 16 = .ok (.istore_n 2, 1) := by decide +kernel
theorem dX10_image_17 : decode cX10_image 17 = .ok (.iconst 0, 1) := by decide +kernel
theorem dX10_image_18 : decode cX10_image 18 = .ok (.istore_n 3, 1) := by decide +kernel
theorem dX10_image_19 : decode cX10_image 19 = .ok (.iload_n 3, 1) := by decide +kernel
theorem dX10_image_20 : decode cX10_image 20 = .ok (.bipush 10, 2) := by decide +kernel
theorem dX10_image_22 : decode cX10_image 22 = .ok (.if_icmp .ge 40, 3) := by decide +kernel
theorem dX10_image_25 : decode cX10_image 25 = .ok (.aload_n 0, 1) := by decide +kernel
theorem dX10_image_26 : decode cX10_image 26 = .ok (.getfield 51, 3) := by decide +kernel
theorem dX10_image_29 : decode cX10_image 29 = .ok (.iload_n 2, 1) := by decide +kernel
theorem dX10_image_30 : decode cX10_image 30 = .ok (.iload_n 3, 1) := by decide +kernel
theorem dX10_image_31 : decode cX10_image 31 = .ok (.iadd, 1) := by decide +kernel
theorem dX10_image_32 : decode cX10_image 32 = .ok (.aload_n 0, 1) := by decide +kernel
theorem dX10_image_33 : decode cX10_image 33 = .ok (.getfield 13, 3) := by decide +kernel
theorem dX10_image_36 : decode cX10_image 36 = .ok (.iload_n 3, 1) := by decide +kernel
theorem dX10_image_37 : decode cX10_image 37 = .ok (.iaload, 1) := by decide +kernel
theorem dX10_image_38 : decode cX10_image 38 = .ok (.iastore, 1) := by decide +kernel
theorem dX10_image_39 : decode cX10_image 39 = .ok (.aload_n 0, 1) := by decide +kernel
theorem dX10_image_40 : decode cX10_image 40 = .ok (.getfield 51, 3) := by decide +kernel
theorem dX10_image_43 : decode cX10_image 43 = .ok (.iload_n 2, 1) := by decide +kernel
theorem dX10_image_44 : decode cX10_image 44 = .ok (.bipush 10, 2) := by decide +kernel
theorem dX10_image_46 : decode cX10_image 46 = .ok (.iadd, 1) := by decide +kernel
theorem dX10_image_47 : decode cX10_image 47 = .ok (.iload_n 3, 1) := by decide +kernel
theorem dX10_image_48 : decode cX10_image 48 = .ok (.iadd, 1) := by decide +kernel
theorem dX10_image_49 : decode cX10_image 49 = .ok (.aload_n 0, 1) := by decide +kernel
theorem dX10_image_50 : decode cX10_image 50 = .ok (.getfield 26, 3) := by decide +kernel
theorem dX10_image_53 : decode cX10_image 53 = .ok (.iload_n 3, 1) := by decide +kernel
theorem dX10_image_54 : decode cX10_image 54 = .ok (.iaload, 1) := by decide +kernel
theorem dX10_image_55 : decode cX10_image 55 = .ok (.iastore, 1) := by decide +kernel
theorem dX10_image_56 : decode cX10_image 56 = .ok (.iinc 3 1, 3) := by decide +kernel
theorem dX10_image_59 : decode cX10_image 59 = .ok (.goto (-40), 3) := by decide +kernel
theorem dX10_image_62 : decode cX10_image 62 = .ok (.iconst 0, 1) := by decide +kernel
theorem dX10_image_63 : decode cX10_image 63 = .ok (.istore_n 3, 1) := by decide +kernel
theorem dX10_image_64 : decode cX10_image 64 = .ok (.iload_n 3, 1) := by decide +kernel
theorem dX10_image_65 : decode cX10_image 65 = .ok (.bipush 16, 2) := by decide +kernel
theorem dX10_image_67 : decode cX10_image 67 = .ok (.if_icmp .ge 26, 3) := by decide +kernel
theorem dX10_image_70 : decode cX10_image 70 = .ok (.aload_n 0, 1) := by decide +kernel
theorem dX10_image_71 : decode cX10_image 71 = .ok (.getfield 51, 3) := by decide +kernel
theorem dX10_image_74 : decode cX10_image 74 = .ok (.iload_n 2, 1) := by decide +kernel
theorem dX10_image_75 : decode cX10_image 75 = .ok (.bipush 20, 2) := by decide +kernel
theorem dX10_image_77 : decode cX10_image 77 = .ok (.iadd, 1) := by decide +kernel
theorem dX10_image_78 : decode cX10_image 78 = .ok (.iload_n 3, 1) := by decide +kernel
theorem dX10_image_79 : decode cX10_image 79 = .ok (.iadd, 1) := by decide +kernel
theorem dX10_image_80 : decode cX10_image 80 = .ok (.aload_n 0, 1) := by decide +kernel
theorem dX10_image_81 : decode cX10_image 81 = .ok (.getfield 29, 3) := by decide +kernel
theorem dX10_image_84 : decode cX10_image 84 = .ok (.iload_n 3, 1) := by decide +kernel
theorem dX10_image_85 : decode cX10_image 85 = .ok (.iaload, 1) := by decide +kernel
theorem dX10_image_86 : decode cX10_image 86 = .ok (.iastore, 1) := by decide +kernel
theorem dX10_image_87 : decode cX10_image 87 = .ok (.iinc 3 1, 3) := by decide +kernel
theorem dX10_image_90 : decode cX10_image 90 = .ok (.goto (-26), 3) := by decide +kernel
theorem dX10_image_93 : decode cX10_image 93 = .ok (.aload_n 0, 1) := by decide +kernel
theorem dX10_image_94 : decode cX10_image 94 = .ok (.getfield 51, 3) := by decide +kernel
theorem dX10_image_97 : decode cX10_image 97 = .ok (.iload_n 2, 1) := by decide +kernel
theorem dX10_image_98 : decode cX10_image 98 = .ok (.bipush 40, 2) := by decide +kernel
theorem dX10_image_100 : decode cX10_image 100 = .ok (.iadd, 1) := by decide +kernel
theorem dX10_image_101 : decode cX10_image 101 = .ok (.aload_n 0, 1) := by decide +kernel
theorem dX10_image_102 : decode cX10_image 102 = .ok (.getfield 7, 3) := by decide +kernel
theorem dX10_image_105 : decode cX10_image 105 = .ok (.iastore, 1) := by decide +kernel
theorem dX10_image_106 : decode cX10_image 106 = .ok (.aload_n 0, 1) := by decide +kernel
theorem dX10_image_107 : decode cX10_image 107 = .ok (.getfield 51, 3) := by decide +kernel
theorem dX10_image_110 : decode cX10_image 110 = .ok (.iload_n 2, 1) := by decide +kernel
theorem dX10_image_111 : decode cX10_image 111 = .ok (.bipush 41, 2) := by decide +kernel
theorem dX10_image_113 : decode cX10_image 113 = .ok (.iadd, 1) := by decide +kernel
theorem dX10_image_114 : decode cX10_image 114 = .ok (.aload_n 0, 1) := by decide +kernel
theorem dX10_image_115 : decode cX10_image 115 = .ok (.getfield 17, 3) := by decide +kernel
theorem dX10_image_118 : decode cX10_image 118 = .ok (.iastore, 1) := by decide +kernel
theorem dX10_image_119 : decode cX10_image 119 = .ok (.aload_n 0, 1) := by decide +kernel
theorem dX10_image_120 : decode cX10_image 120 = .ok (.getfield 51, 3) := by decide +kernel
theorem dX10_image_123 : decode cX10_image 123 = .ok (.iload_n 2, 1) := by decide +kernel
theorem dX10_image_124 : decode cX10_image 124 = .ok (.bipush 42, 2) := by decide +kernel
theorem dX10_image_126 : decode cX10_image 126 = .ok (.iadd, 1) := by decide +kernel
theorem dX10_image_127 : decode cX10_image 127 = .ok (.aload_n 0, 1) := by decide +kernel
theorem dX10_image_128 : decode cX10_image 128 = .ok (.getfield 20, 3) := by decide +kernel
theorem dX10_image_131 : decode cX10_image 131 = .ok (.iastore, 1) := by decide +kernel
theorem dX10_image_132 : decode cX10_image 132 = .ok (.aload_n 0, 1) := by decide +kernel
theorem dX10_image_133 : decode cX10_image 133 = .ok (.getfield 51, 3) := by decide +kernel
theorem dX10_image_136 : decode cX10_image 136 = .ok (.iload_n 2, 1) := by decide +kernel
theorem dX10_image_137 : decode cX10_image 137 = .ok (.bipush 43, 2) := by decide +kernel
theorem dX10_image_139 : decode cX10_image 139 = .ok (.iadd, 1) := by decide +kernel
theorem dX10_image_140 : decode cX10_image 140 = .ok (.aload_n 0, 1) := by decide +kernel
theorem dX10_image_141 : decode cX10_image 141 = .ok (.getfield 23, 3) := by decide +kernel
theorem dX10_image_144 : decode cX10_image 144 = .ok (.iastore, 1) := by decide +kernel
theorem dX10_image_145 : decode cX10_image 145 = .ok (.aload_n 0, 1) := by decide +kernel
theorem dX10_image_146 : decode cX10_image 146 = .ok (.getfield 51, 3) := by decide +kernel
theorem dX10_image_149 : decode cX10_image 149 = .ok (.iload_n 2, 1) := by decide +kernel
theorem dX10_image_150 : decode cX10_image 150 = .ok (.bipush 44, 2) := by decide +kernel
theorem dX10_image_152 : decode cX10_image 152 = .ok (.iadd, 1) := by decide +kernel
theorem dX10_image_153 : decode cX10_image 153 = .ok (.aload_n 0, 1) := by decide +kernel
theorem dX10_image_154 : decode cX10_image 154 = .ok (.getfield 60, 3) := by decide +kernel
theorem dX10_image_157 : decode cX10_image 157 = .ok (.iastore, 1) := by decide +kernel
theorem dX10_image_158 : decode cX10_image 158 = .ok (.aload_n 0, 1) := by decide +kernel
theorem dX10_image_159 : decode cX10_image 159 = .ok (.getfield 51, 3) := by decide +kernel
theorem dX10_image_162 : decode cX10_image 162 = .ok (.iload_n 2, 1) := by decide +kernel
theorem dX10_image_163 : decode cX10_image 163 = .ok (.bipush 45, 2) := by decide +kernel
theorem dX10_image_165 : decode cX10_image 165 = .ok (.iadd, 1) := by decide +kernel
theorem dX10_image_166 : decode cX10_image 166 = .ok (.aload_n 0, 1) := by decide +kernel
theorem dX10_image_167 : decode cX10_image 167 = .ok (.getfield 63, 3) := by decide +kernel
theorem dX10_image_170 : decode cX10_image 170 = .ok (.iastore, 1) := by decide +kernel
theorem dX10_image_171 : decode cX10_image 171 = .ok (.aload_n 0, 1) := by decide +kernel
theorem dX10_image_172 : decode cX10_image 172 = .ok (.getfield 51, 3) := by decide +kernel
theorem dX10_image_175 : decode cX10_image 175 = .ok (.iload_n 2, 1) := by decide +kernel
theorem dX10_image_176 : decode cX10_image 176 = .ok (.bipush 46, 2) := by decide +kernel
theorem dX10_image_178 : decode cX10_image 178 = .ok (.iadd, 1) := by decide +kernel
theorem dX10_image_179 : decode cX10_image 179 = .ok (.aload_n 0, 1) := by decide +kernel
theorem dX10_image_180 : decode cX10_image 180 = .ok (.getfield 66, 3) := by decide +kernel
theorem dX10_image_183 : decode cX10_image 183 = .ok (.iastore, 1) := by decide +kernel
theorem dX10_image_184 : decode cX10_image 184 = .ok (.aload_n 0, 1) := by decide +kernel
theorem dX10_image_185 : decode cX10_image 185 = .ok (.getfield 54, 3) := by decide +kernel
theorem dX10_image_188 : decode cX10_image 188 = .ok (.iload_n 1, 1) := by decide +kernel
theorem dX10_image_189 : decode cX10_image 189 = .ok (.iconst 1, 1) := by decide +kernel
theorem dX10_image_190 : decode cX10_image 190 = .ok (.bastore, 1) := by decide +kernel
theorem dX10_image_191 : decode cX10_image 191 = .ok (.iconst 1, 1) := by decide +kernel
theorem dX10_image_192 : decode cX10_image 192 = .ok (.ireturn, 1) := by decide +kernel
theorem dX10_restore_0 : decode cX10_restore 0 = .ok (.iload_n 1, 1) := by decide +kernel
theorem dX10_restore_1 : decode cX10_restore 1 = .ok (.iconst 0, 1) := by decide +kernel
theorem dX10_restore_2 : decode cX10_restore 2 = .ok (.iconst 1, 1) := by decide +kernel
theorem dX10_restore_3 : decode cX10_restore 3 = .ok (.invokestatic 69, 3) := by decide +kernel
theorem dX10_restore_6 : decode cX10_restore 6 = .ok (.ifCond .ne 6, 3) := by decide +kernel
theorem dX10_restore_9 : decode cX10_restore 9 = .ok (.bipush (-2), 2) := by decide +kernel
theorem dX10_restore_11 : decode cX10_restore 11 = .ok (.ireturn, 1) := by decide +kernel
theorem dX10_restore_12 : decode cX10_restore 12 = .ok (.aload_n 0, 1) := by decide +kernel
theorem dX10_restore_13 : decode cX10_restore 13 = .ok (.getfield 54, 3) := by decide +kernel
theorem dX10_restore_16 : decode cX10_restore 16 = .ok (.iload_n 1, 1) := by decide +kernel
theorem dX10_restore_17 : decode cX10_restore 17 = .ok (.baload, 1) := by decide +kernel
theorem dX10_restore_18 : decode cX10_restore 18 = .ok (.ifCond .ne 6, 3) := by decide +kernel
theorem dX10_restore_21 : decode cX10_restore 21 = .ok (.bipush (-3), 2) := by decide +kernel
theorem dX10_restore_23 : decode cX10_restore 23 = .ok (.ireturn, 1) := by decide +kernel
theorem dX10_restore_24 : decode cX10_restore 24 = .ok (.bipush 50, 2) := by decide +kernel
theorem dX10_restore_26 : decode cX10_restore 26 = .ok (.iload_n 1, 1) := by decide +kernel
theorem dX10_restore_27 : decode cX10_restore 27 = .ok (.imul, 1) := by decide +kernel
theorem dX10_restore_28 : decode cX10_restore 28 = .ok (.istore_n 2, 1) := by decide +kernel
theorem dX10_restore_29 : decode cX10_restore 29 = .ok (.iconst 0, 1) := by decide +kernel
theorem dX10_restore_30 : decode cX10_restore 30 = .ok (.istore_n 3, 1) := by decide +kernel
theorem dX10_restore_31 : decode cX10_restore 31 = .ok (.iload_n 3, 1) := by decide +kernel
theorem dX10_restore_32 : decode cX10_restore 32 = .ok (.bipush 10, 2) := by decide +kernel
theorem dX10_restore_34 : decode cX10_restore 34 = .ok (.if_icmp .ge 40, 3) := by decide +kernel
theorem dX10_restore_37 : decode cX10_restore 37 = .ok (.aload_n 0, 1) := by decide +kernel
theorem dX10_restore_38 : decode cX10_restore 38 = .ok (.getfield 13, 3) := by decide +kernel
theorem dX10_restore_41 : decode cX10_restore 41 = .ok (.iload_n 3, 1) := by decide +kernel
theorem dX10_restore_42 : decode cX10_restore 42 = .ok (.aload_n 0, 1) := by decide +kernel
theorem dX10_restore_43 : decode cX10_restore 43 = .ok (.getfield 51, 3) := by decide +kernel
theorem dX10_restore_46 : decode cX10_restore 46 = .ok (.iload_n 2, 1) := by decide +kernel
theorem dX10_restore_47 : decode cX10_restore 47 = .ok (.iload_n 3, 1) := by decide +kernel
theorem dX10_restore_48 : decode cX10_restore 48 = .ok (.iadd, 1) := by decide +kernel
theorem dX10_restore_49 : decode cX10_restore 49 = .ok (.iaload, 1) := by decide +kernel
theorem dX10_restore_50 : decode cX10_restore 50 = .ok (.iastore, 1) := by decide +kernel
theorem dX10_restore_51 : decode cX10_restore 51 = .ok (.aload_n 0, 1) := by decide +kernel
theorem dX10_restore_52 : decode cX10_restore 52 = .ok (.getfield 26, 3) := by decide +kernel
theorem dX10_restore_55 : decode cX10_restore 55 = .ok (.iload_n 3, 1) := by decide +kernel
theorem dX10_restore_56 : decode cX10_restore 56 = .ok (.aload_n 0, 1) := by decide +kernel
theorem dX10_restore_57 : decode cX10_restore 57 = .ok (.getfield 51, 3) := by decide +kernel
theorem dX10_restore_60 : decode cX10_restore 60 = .ok (.iload_n 2, 1) := by decide +kernel
theorem dX10_restore_61 : decode cX10_restore 61 = .ok (.bipush 10, 2) := by decide +kernel
theorem dX10_restore_63 : decode cX10_restore 63 = .ok (.iadd, 1) := by decide +kernel
theorem dX10_restore_64 : decode cX10_restore 64 = .ok (.iload_n 3, 1) := by decide +kernel
theorem dX10_restore_65 : decode cX10_restore 65 = .ok (.iadd, 1) := by decide +kernel
theorem dX10_restore_66 : decode cX10_restore 66 = .ok (.iaload, 1) := by decide +kernel
theorem dX10_restore_67 : decode cX10_restore 67 = .ok (.iastore, 1) := by decide +kernel
theorem dX10_restore_68 : decode cX10_restore 68 = .ok (.iinc 3 1, 3) := by decide +kernel
theorem dX10_restore_71 : decode cX10_restore 71 = .ok (.goto (-40), 3) := by decide +kernel
theorem dX10_restore_74 : decode cX10_restore 74 = .ok (.iconst 0, 1) := by decide +kernel
theorem dX10_restore_75 : decode cX10_restore 75 = .ok (.istore_n 3, 1) := by decide +kernel
theorem dX10_restore_76 : decode cX10_restore 76 = .ok (.iload_n 3, 1) := by decide +kernel
theorem dX10_restore_77 : decode cX10_restore 77 = .ok (.bipush 16, 2) := by decide +kernel
theorem dX10_restore_79 : decode cX10_restore 79 = .ok (.if_icmp .ge 26, 3) := by decide +kernel
theorem dX10_restore_82 : decode cX10_restore 82 = .ok (.aload_n 0, 1) := by decide +kernel
theorem dX10_restore_83 : decode cX10_restore 83 = .ok (.getfield 29, 3) := by decide +kernel
theorem dX10_restore_86 : decode cX10_restore 86 = .ok (.iload_n 3, 1) := by decide +kernel
theorem dX10_restore_87 : decode cX10_restore 87 = .ok (.aload_n 0, 1) := by decide +kernel
theorem dX10_restore_88 : decode cX10_restore 88 = .ok (.getfield 51, 3) := by decide +kernel
theorem dX10_restore_91 : decode cX10_restore 91 = .ok (.iload_n 2, 1) := by decide +kernel
theorem dX10_restore_92 : decode cX10_restore 92 = .ok (.bipush 20, 2) := by decide +kernel
theorem dX10_restore_94 : decode cX10_restore 94 = .ok (.iadd, 1) := by decide +kernel
theorem dX10_restore_95 : decode cX10_restore 95 = .ok (.iload_n 3, 1) := by decide +kernel
theorem dX10_restore_96 : decode cX10_restore 96 = .ok (.iadd, 1) := by decide +kernel
theorem dX10_restore_97 : decode cX10_restore 97 = .ok (.iaload, 1) := by decide +kernel
theorem dX10_restore_98 : decode cX10_restore 98 = .ok (.iastore, 1) := by decide +kernel
theorem dX10_restore_99 : decode cX10_restore 99 = .ok (.iinc 3 1, 3) := by decide +kernel
theorem dX10_restore_102 : decode cX10_restore 102 = .ok (.goto (-26), 3) := by decide +kernel
theorem dX10_restore_105 : decode cX10_restore 105 = .ok (.aload_n 0, 1) := by decide +kernel
theorem dX10_restore_106 : decode cX10_restore 106 = .ok (.aload_n 0, 1) := by decide +kernel
theorem dX10_restore_107 : decode cX10_restore 107 = .ok (.getfield 51, 3) := by decide +kernel
theorem dX10_restore_110 : decode cX10_restore 110 = .ok (.iload_n 2, 1) := by decide +kernel
theorem dX10_restore_111 : decode cX10_restore 111 = .ok (.bipush 40, 2) := by decide +kernel
theorem dX10_restore_113 : decode cX10_restore 113 = .ok (.iadd, 1) := by decide +kernel
theorem dX10_restore_114 : decode cX10_restore 114 = .ok (.iaload, 1) := by decide +kernel
theorem dX10_restore_115 : decode cX10_restore 115 = .ok (.putfield 7, 3) := by decide +kernel
theorem dX10_restore_118 : decode cX10_restore 118 = .ok (.aload_n 0, 1) := by decide +kernel
theorem dX10_restore_119 : decode cX10_restore 119 = .ok (.aload_n 0, 1) := by decide +kernel
theorem dX10_restore_120 : decode cX10_restore 120 = .ok (.getfield 51, 3) := by decide +kernel
theorem dX10_restore_123 : decode cX10_restore 123 = .ok (.iload_n 2, 1) := by decide +kernel
theorem dX10_restore_124 : decode cX10_restore 124 = .ok (.bipush 41, 2) := by decide +kernel
theorem dX10_restore_126 : decode cX10_restore 126 = .ok (.iadd, 1) := by decide +kernel
theorem dX10_restore_127 : decode cX10_restore 127 = .ok (.iaload, 1) := by decide +kernel
theorem dX10_restore_128 : decode cX10_restore 128 = .ok (.putfield 17, 3) := by decide +kernel
theorem dX10_restore_131 : decode cX10_restore 131 = .ok (.aload_n 0, 1) := by decide +kernel
theorem dX10_restore_132 : decode cX10_restore 132 = .ok (.aload_n 0, 1) := by decide +kernel
theorem dX10_restore_133 : decode cX10_restore 133 = .ok (.getfield 51, 3) := by decide +kernel
theorem dX10_restore_136 : decode cX10_restore 136 = .ok (.iload_n 2, 1) := by decide +kernel
theorem dX10_restore_137 : decode cX10_restore 137 = .ok (.bipush 42, 2) := by decide +kernel
theorem dX10_restore_139 : decode cX10_restore 139 = .ok (.iadd, 1) := by decide +kernel
theorem dX10_restore_140 : decode cX10_restore 140 = .ok (.iaload, 1) := by decide +kernel
theorem dX10_restore_141 : decode cX10_restore 141 = .ok (.putfield 20, 3) := by decide +kernel
theorem dX10_restore_144 : decode cX10_restore 144 = .ok (.aload_n 0, 1) := by decide +kernel
theorem dX10_restore_145 : decode cX10_restore 145 = .ok (.aload_n 0, 1) := by decide +kernel
theorem dX10_restore_146 : decode cX10_restore 146 = .ok (.getfield 51, 3) := by decide +kernel
theorem dX10_restore_149 : decode cX10_restore 149 = .ok (.iload_n 2, 1) := by decide +kernel
theorem dX10_restore_150 : decode cX10_restore 150 = .ok (.bipush 43, 2) := by decide +kernel
theorem dX10_restore_152 : decode cX10_restore 152 = .ok (.iadd, 1) := by decide +kernel
theorem dX10_restore_153 : decode cX10_restore 153 = .ok (.iaload, 1) := by decide +kernel
theorem dX10_restore_154 : decode cX10_restore 154 = .ok (.putfield 23, 3) := by decide +kernel
theorem dX10_restore_157 : decode cX10_restore 157 = .ok (.aload_n 0, 1) := by decide +kernel
theorem dX10_restore_158 : decode cX10_restore 158 = .ok (.aload_n 0, 1) := by decide +kernel
theorem dX10_restore_159 : decode cX10_restore 159 = .ok (.getfield 51, 3) := by decide +kernel
theorem dX10_restore_162 : decode cX10_restore 162 = .ok (.iload_n 2, 1) := by decide +kernel
theorem dX10_restore_163 : decode cX10_restore 163 = .ok (.bipush 44, 2) := by decide +kernel
theorem dX10_restore_165 : decode cX10_restore 165 = .ok (.iadd, 1) := by decide +kernel
theorem dX10_restore_166 : decode cX10_restore 166 = .ok (.iaload, 1) := by decide +kernel
theorem dX10_restore_167 : decode cX10_restore 167 = .ok (.putfield 60, 3) := by decide +kernel
theorem dX10_restore_170 : decode cX10_restore 170 = .ok (.aload_n 0, 1) := by decide +kernel
theorem dX10_restore_171 : decode cX10_restore 171 = .ok (.aload_n 0, 1) := by decide +kernel
theorem dX10_restore_172 : decode cX10_restore 172 = .ok (.getfield 51, 3) := by decide +kernel
theorem dX10_restore_175 : decode cX10_restore 175 = .ok (.iload_n 2, 1) := by decide +kernel
theorem dX10_restore_176 : decode cX10_restore 176 = .ok (.bipush 45, 2) := by decide +kernel
theorem dX10_restore_178 : decode cX10_restore 178 = .ok (.iadd, 1) := by decide +kernel
theorem dX10_restore_179 : decode cX10_restore 179 = .ok (.iaload, 1) := by decide +kernel
theorem dX10_restore_180 : decode cX10_restore 180 = .ok (.putfield 63, 3) := by decide +kernel
theorem dX10_restore_183 : decode cX10_restore 183 = .ok (.aload_n 0, 1) := by decide +kernel
theorem dX10_restore_184 : decode cX10_restore 184 = .ok (.aload_n 0, 1) := by decide +kernel
theorem dX10_restore_185 : decode cX10_restore 185 = .ok (.getfield 51, 3) := by decide +kernel
theorem dX10_restore_188 : decode cX10_restore 188 = .ok (.iload_n 2, 1) := by decide +kernel
theorem dX10_restore_189 : decode cX10_restore 189 = .ok (.bipush 46, 2) := by decide +kernel
theorem dX10_restore_191 : decode cX10_restore 191 = .ok (.iadd, 1) := by decide +kernel
theorem dX10_restore_192 : decode cX10_restore 192 = .ok (.iaload, 1) := by decide +kernel
theorem dX10_restore_193 : decode cX10_restore 193 = .ok (.putfield 66, 3) := by decide +kernel
theorem dX10_restore_196 : decode cX10_restore 196 = .ok (.iconst 1, 1) := by decide +kernel
theorem dX10_restore_197 : decode cX10_restore 197 = .ok (.ireturn, 1) := by decide +kernel
theorem dX10_told_0 : decode cX10_told 0 = .ok (.iload_n 1, 1) := by decide +kernel
theorem dX10_told_1 : decode cX10_told 1 = .ok (.bipush 10, 2) := by decide +kernel
theorem dX10_told_3 : decode cX10_told 3 = .ok (.if_icmp .lt 29, 3) := by decide +kernel
theorem dX10_told_6 : decode cX10_told 6 = .ok (.aload_n 0, 1) := by decide +kernel
theorem dX10_told_7 : decode cX10_told 7 = .ok (.iload_n 1, 1) := by decide +kernel
theorem dX10_told_8 : decode cX10_told 8 = .ok (.bipush 10, 2) := by decide +kernel
theorem dX10_told_10 : decode cX10_told 10 = .ok (.isub, 1) := by decide +kernel
theorem dX10_told_11 : decode cX10_told 11 = .ok (.invokevirtual 73, 3) := by decide +kernel
theorem dX10_told_14 : decode cX10_told 14 = .ok (.ifCond .eq 15, 3) := by decide +kernel
theorem dX10_told_17 : decode cX10_told 17 = .ok (.aload_n 0, 1) := by decide +kernel
theorem dX10_told_18 : decode cX10_told 18 = .ok (.getfield 13, 3) := by decide +kernel
theorem dX10_told_21 : decode cX10_told 21 = .ok (.iload_n 1, 1) := by decide +kernel
theorem dX10_told_22 : decode cX10_told 22 = .ok (.bipush 10, 2) := by decide +kernel
theorem dX10_told_24 : decode cX10_told 24 = .ok (.isub, 1) := by decide +kernel
theorem dX10_told_25 : decode cX10_told 25 = .ok (.iaload, 1) := by decide +kernel
theorem dX10_told_26 : decode cX10_told 26 = .ok (.goto 5, 3) := by decide +kernel
theorem dX10_told_29 : decode cX10_told 29 = .ok (.bipush (-2), 2) := by decide +kernel
theorem dX10_told_31 : decode cX10_told 31 = .ok (.ireturn, 1) := by decide +kernel
theorem dX10_told_32 : decode cX10_told 32 = .ok (.iload_n 1, 1) := by decide +kernel
theorem dX10_told_33 : decode cX10_told 33 = .ok (.tableswitch 78 0 6 #[43, 48, 53, 58, 63, 68, 73], 43) := by decide +kernel
theorem dX10_told_76 : decode cX10_told 76 = .ok (.aload_n 0, 1) := by decide +kernel
theorem dX10_told_77 : decode cX10_told 77 = .ok (.getfield 77, 3) := by decide +kernel
theorem dX10_told_80 : decode cX10_told 80 = .ok (.ireturn, 1) := by decide +kernel
theorem dX10_told_81 : decode cX10_told 81 = .ok (.aload_n 0, 1) := by decide +kernel
theorem dX10_told_82 : decode cX10_told 82 = .ok (.getfield 7, 3) := by decide +kernel
theorem dX10_told_85 : decode cX10_told 85 = .ok (.ireturn, 1) := by decide +kernel
theorem dX10_told_86 : decode cX10_told 86 = .ok (.aload_n 0, 1) := by decide +kernel
theorem dX10_told_87 : decode cX10_told 87 = .ok (.getfield 17, 3) := by decide +kernel
theorem dX10_told_90 : decode cX10_told 90 = .ok (.ireturn, 1) := by decide +kernel
theorem dX10_told_91 : decode cX10_told 91 = .ok (.aload_n 0, 1) := by decide +kernel
theorem dX10_told_92 : decode cX10_told 92 = .ok (.getfield 20, 3) := by decide +kernel
theorem dX10_told_95 : decode cX10_told 95 = .ok (.ireturn, 1) := by decide +kernel
theorem dX10_told_96 : decode cX10_told 96 = .ok (.aload_n 0, 1) := by decide +kernel
theorem dX10_told_97 : decode cX10_told 97 = .ok (.getfield 23, 3) := by decide +kernel
theorem dX10_told_100 : decode cX10_told 100 = .ok (.ireturn, 1) := by decide +kernel
theorem dX10_told_101 : decode cX10_told 101 = .ok (.aload_n 0, 1) := by decide +kernel
theorem dX10_told_102 : decode cX10_told 102 = .ok (.getfield 60, 3) := by decide +kernel
theorem dX10_told_105 : decode cX10_told 105 = .ok (.ireturn, 1) := by decide +kernel
theorem dX10_told_106 : decode cX10_told 106 = .ok (.aload_n 0, 1) := by decide +kernel
theorem dX10_told_107 : decode cX10_told 107 = .ok (.getfield 63, 3) := by decide +kernel
theorem dX10_told_110 : decode cX10_told 110 = .ok (.ireturn, 1) := by decide +kernel
theorem dX10_told_111 : decode cX10_told 111 = .ok (.iload_n 1, 1) := by decide +kernel
theorem dX10_told_112 : decode cX10_told 112 = .ok (.bipush 7, 2) := by decide +kernel
theorem dX10_told_114 : decode cX10_told 114 = .ok (.if_icmp .ne 10, 3) := by decide +kernel
theorem dX10_told_117 : decode cX10_told 117 = .ok (.aload_n 0, 1) := by decide +kernel
theorem dX10_told_118 : decode cX10_told 118 = .ok (.getfield 66, 3) := by decide +kernel
theorem dX10_told_121 : decode cX10_told 121 = .ok (.goto 5, 3) := by decide +kernel
theorem dX10_told_124 : decode cX10_told 124 = .ok (.bipush (-2), 2) := by decide +kernel
theorem dX10_told_126 : decode cX10_told 126 = .ok (.ireturn, 1) := by decide +kernel
theorem dJ6_bitCount_0f7a4_0 : decode cJ6_bitCount_0f7a4 0 = .ok (.iload_n 0, 1) := by decide +kernel
theorem dJ6_bitCount_0f7a4_1 : decode cJ6_bitCount_0f7a4 1 = .ok (.iload_n 0, 1) := by decide +kernel
theorem dJ6_bitCount_0f7a4_2 : decode cJ6_bitCount_0f7a4 2 = .ok (.iconst 1, 1) := by decide +kernel
theorem dJ6_bitCount_0f7a4_3 : decode cJ6_bitCount_0f7a4 3 = .ok (.iushr, 1) := by decide +kernel
theorem dJ6_bitCount_0f7a4_4 : decode cJ6_bitCount_0f7a4 4 = .ok (.ldc_w 265, 3) := by decide +kernel
theorem dJ6_bitCount_0f7a4_7 : decode cJ6_bitCount_0f7a4 7 = .ok (.iand, 1) := by decide +kernel
theorem dJ6_bitCount_0f7a4_8 : decode cJ6_bitCount_0f7a4 8 = .ok (.isub, 1) := by decide +kernel
theorem dJ6_bitCount_0f7a4_9 : decode cJ6_bitCount_0f7a4 9 = .ok (.istore_n 0, 1) := by decide +kernel
theorem dJ6_bitCount_0f7a4_10 : decode cJ6_bitCount_0f7a4 10 = .ok (.iload_n 0, 1) := by decide +kernel
theorem dJ6_bitCount_0f7a4_11 : decode cJ6_bitCount_0f7a4 11 = .ok (.ldc_w 266, 3) := by decide +kernel
theorem dJ6_bitCount_0f7a4_14 : decode cJ6_bitCount_0f7a4 14 = .ok (.iand, 1) := by decide +kernel
theorem dJ6_bitCount_0f7a4_15 : decode cJ6_bitCount_0f7a4 15 = .ok (.iload_n 0, 1) := by decide +kernel
theorem dJ6_bitCount_0f7a4_16 : decode cJ6_bitCount_0f7a4 16 = .ok (.iconst 2, 1) := by decide +kernel
theorem dJ6_bitCount_0f7a4_17 : decode cJ6_bitCount_0f7a4 17 = .ok (.iushr, 1) := by decide +kernel
theorem dJ6_bitCount_0f7a4_18 : decode cJ6_bitCount_0f7a4 18 = .ok (.ldc_w 266, 3) := by decide +kernel
theorem dJ6_bitCount_0f7a4_21 : decode cJ6_bitCount_0f7a4 21 = .ok (.iand, 1) := by decide +kernel
theorem dJ6_bitCount_0f7a4_22 : decode cJ6_bitCount_0f7a4 22 = .ok (.iadd, 1) := by decide +kernel
theorem dJ6_bitCount_0f7a4_23 : decode cJ6_bitCount_0f7a4 23 = .ok (.istore_n 0, 1) := by decide +kernel
theorem dJ6_bitCount_0f7a4_24 : decode cJ6_bitCount_0f7a4 24 = .ok (.iload_n 0, 1) := by decide +kernel
theorem dJ6_bitCount_0f7a4_25 : decode cJ6_bitCount_0f7a4 25 = .ok (.iload_n 0, 1) := by decide +kernel
theorem dJ6_bitCount_0f7a4_26 : decode cJ6_bitCount_0f7a4 26 = .ok (.iconst 4, 1) := by decide +kernel
theorem dJ6_bitCount_0f7a4_27 : decode cJ6_bitCount_0f7a4 27 = .ok (.iushr, 1) := by decide +kernel
theorem dJ6_bitCount_0f7a4_28 : decode cJ6_bitCount_0f7a4 28 = .ok (.iadd, 1) := by decide +kernel
theorem dJ6_bitCount_0f7a4_29 : decode cJ6_bitCount_0f7a4 29 = .ok (.ldc_w 267, 3) := by decide +kernel
theorem dJ6_bitCount_0f7a4_32 : decode cJ6_bitCount_0f7a4 32 = .ok (.iand, 1) := by decide +kernel
theorem dJ6_bitCount_0f7a4_33 : decode cJ6_bitCount_0f7a4 33 = .ok (.istore_n 0, 1) := by decide +kernel
theorem dJ6_bitCount_0f7a4_34 : decode cJ6_bitCount_0f7a4 34 = .ok (.iload_n 0, 1) := by decide +kernel
theorem dJ6_bitCount_0f7a4_35 : decode cJ6_bitCount_0f7a4 35 = .ok (.iload_n 0, 1) := by decide +kernel
theorem dJ6_bitCount_0f7a4_36 : decode cJ6_bitCount_0f7a4 36 = .ok (.bipush 8, 2) := by decide +kernel
theorem dJ6_bitCount_0f7a4_38 : decode cJ6_bitCount_0f7a4 38 = .ok (.iushr, 1) := by decide +kernel
theorem dJ6_bitCount_0f7a4_39 : decode cJ6_bitCount_0f7a4 39 = .ok (.iadd, 1) := by decide +kernel
theorem dJ6_bitCount_0f7a4_40 : decode cJ6_bitCount_0f7a4 40 = .ok (.istore_n 0, 1) := by decide +kernel
theorem dJ6_bitCount_0f7a4_41 : decode cJ6_bitCount_0f7a4 41 = .ok (.iload_n 0, 1) := by decide +kernel
theorem dJ6_bitCount_0f7a4_42 : decode cJ6_bitCount_0f7a4 42 = .ok (.iload_n 0, 1) := by decide +kernel
theorem dJ6_bitCount_0f7a4_43 : decode cJ6_bitCount_0f7a4 43 = .ok (.bipush 16, 2) := by decide +kernel
theorem dJ6_bitCount_0f7a4_45 : decode cJ6_bitCount_0f7a4 45 = .ok (.iushr, 1) := by decide +kernel
theorem dJ6_bitCount_0f7a4_46 : decode cJ6_bitCount_0f7a4 46 = .ok (.iadd, 1) := by decide +kernel
theorem dJ6_bitCount_0f7a4_47 : decode cJ6_bitCount_0f7a4 47 = .ok (.istore_n 0, 1) := by decide +kernel
theorem dJ6_bitCount_0f7a4_48 : decode cJ6_bitCount_0f7a4 48 = .ok (.iload_n 0, 1) := by decide +kernel
theorem dJ6_bitCount_0f7a4_49 : decode cJ6_bitCount_0f7a4 49 = .ok (.bipush 63, 2) := by decide +kernel
theorem dJ6_bitCount_0f7a4_51 : decode cJ6_bitCount_0f7a4 51 = .ok (.iand, 1) := by decide +kernel
theorem dJ6_bitCount_0f7a4_52 : decode cJ6_bitCount_0f7a4 52 = .ok (.ireturn, 1) := by decide +kernel
theorem dJ9_max_7cf53_0 : decode cJ9_max_7cf53 0 = .ok (.iload_n 0, 1) := by decide +kernel
theorem dJ9_max_7cf53_1 : decode cJ9_max_7cf53 1 = .ok (.iload_n 1, 1) := by decide +kernel
theorem dJ9_max_7cf53_2 : decode cJ9_max_7cf53 2 = .ok (.if_icmp .lt 7, 3) := by decide +kernel
theorem dJ9_max_7cf53_5 : decode cJ9_max_7cf53 5 = .ok (.iload_n 0, 1) := by decide +kernel
theorem dJ9_max_7cf53_6 : decode cJ9_max_7cf53 6 = .ok (.goto 4, 3) := by decide +kernel
theorem dJ9_max_7cf53_9 : decode cJ9_max_7cf53 9 = .ok (.iload_n 1, 1) := by decide +kernel
theorem dJ9_max_7cf53_10 : decode cJ9_max_7cf53 10 = .ok (.ireturn, 1) := by decide +kernel
theorem dJ9_min_7cf53_0 : decode cJ9_min_7cf53 0 = .ok (.iload_n 0, 1) := by decide +kernel
theorem dJ9_min_7cf53_1 : decode cJ9_min_7cf53 1 = .ok (.iload_n 1, 1) := by decide +kernel
theorem dJ9_min_7cf53_2 : decode cJ9_min_7cf53 2 = .ok (.if_icmp .gt 7, 3) := by decide +kernel
theorem dJ9_min_7cf53_5 : decode cJ9_min_7cf53 5 = .ok (.iload_n 0, 1) := by decide +kernel
theorem dJ9_min_7cf53_6 : decode cJ9_min_7cf53 6 = .ok (.goto 4, 3) := by decide +kernel
theorem dJ9_min_7cf53_9 : decode cJ9_min_7cf53 9 = .ok (.iload_n 1, 1) := by decide +kernel
theorem dJ9_min_7cf53_10 : decode cJ9_min_7cf53 10 = .ok (.ireturn, 1) := by decide +kernel
