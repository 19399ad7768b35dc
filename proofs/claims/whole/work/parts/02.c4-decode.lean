theorem dX10_clashed_11 : decode cX10_clashed 11 = .ok (.ireturn, 1) := by decide +kernel
theorem dX10_clashed_12 : decode cX10_clashed 12 = .ok (.aload_n 0, 1) := by decide +kernel
theorem dX10_clashed_13 : decode cX10_clashed 13 = .ok (.invokevirtual 143, 3) := by decide +kernel
theorem dX10_clashed_16 : decode cX10_clashed 16 = .ok (.ifCond .ge 6, 3) := by decide +kernel
theorem dX10_clashed_19 : decode cX10_clashed 19 = .ok (.bipush (-5), 2) := by decide +kernel
theorem dX10_clashed_21 : decode cX10_clashed 21 = .ok (.ireturn, 1) := by decide +kernel
theorem dX10_clashed_22 : decode cX10_clashed 22 = .ok (.iload_n 1, 1) := by decide +kernel
theorem dX10_clashed_23 : decode cX10_clashed 23 = .ok (.ifCond .ne 10, 3) := by decide +kernel
theorem dX10_clashed_26 : decode cX10_clashed 26 = .ok (.aload_n 0, 1) := by decide +kernel
theorem dX10_clashed_27 : decode cX10_clashed 27 = .ok (.getfield 121, 3) := by decide +kernel
theorem dX10_clashed_30 : decode cX10_clashed 30 = .ok (.goto 7, 3) := by decide +kernel
theorem dX10_clashed_33 : decode cX10_clashed 33 = .ok (.aload_n 0, 1) := by decide +kernel
theorem dX10_clashed_34 : decode cX10_clashed 34 = .ok (.getfield 118, 3) := by decide +kernel
theorem dX10_clashed_37 : decode cX10_clashed 37 = .ok (.ireturn, 1) := by decide +kernel
theorem dX10_areTwo_0 : decode cX10_areTwo 0 = .ok (.aload_n 0, 1) := by decide +kernel
theorem dX10_areTwo_1 : decode cX10_areTwo 1 = .ok (.iload_n 1, 1) := by decide +kernel
theorem dX10_areTwo_2 : decode cX10_areTwo 2 = .ok (.invokevirtual 73, 3) := by decide +kernel
theorem dX10_areTwo_5 : decode cX10_areTwo 5 = .ok (.ifCond .eq 20, 3) := by decide +kernel
theorem dX10_areTwo_8 : decode cX10_areTwo 8 = .ok (.aload_n 0, 1) := by decide +kernel
theorem dX10_areTwo_9 : decode cX10_areTwo 9 = .ok (.iload_n 2, 1) := by decide +kernel
theorem dX10_areTwo_10 : decode cX10_areTwo 10 = .ok (.invokevirtual 73, 3) := by decide +kernel
theorem dX10_areTwo_13 : decode cX10_areTwo 13 = .ok (.ifCond .eq 12, 3) := by decide +kernel
theorem dX10_areTwo_16 : decode cX10_areTwo 16 = .ok (.iload_n 1, 1) := by decide +kernel
theorem dX10_areTwo_17 : decode cX10_areTwo 17 = .ok (.iload_n 2, 1) := by decide +kernel
theorem dX10_areTwo_18 : decode cX10_areTwo 18 = .ok (.if_icmp .eq 7, 3) := by decide +kernel
theorem dX10_areTwo_21 : decode cX10_areTwo 21 = .ok (.iconst 1, 1) := by decide +kernel
theorem dX10_areTwo_22 : decode cX10_areTwo 22 = .ok (.goto 4, 3) := by decide +kernel
theorem dX10_areTwo_25 : decode cX10_areTwo 25 = .ok (.iconst 0, 1) := by decide +kernel
theorem dX10_areTwo_26 : decode cX10_areTwo 26 = .ok (.ireturn, 1) := by decide +kernel
theorem dX10_interval_0 : decode cX10_interval 0 = .ok (.aload_n 0, 1) := by decide +kernel
theorem dX10_interval_1 : decode cX10_interval 1 = .ok (.iload_n 1, 1) := by decide +kernel
theorem dX10_interval_2 : decode cX10_interval 2 = .ok (.iload_n 2, 1) := by decide +kernel
theorem dX10_interval_3 : decode cX10_interval 3 = .ok (.invokevirtual 146, 3) := by decide +kernel
theorem dX10_interval_6 : decode cX10_interval 6 = .ok (.ifCond .ne 7, 3) := by decide +kernel
theorem dX10_interval_9 : decode cX10_interval 9 = .ok (.ldc2_w 149, 3) := by decide +kernel
theorem dX10_interval_12 : decode cX10_interval 12 = .ok (.lreturn, 1) := by decide +kernel
theorem dX10_interval_13 : decode cX10_interval 13 = .ok (.iload_n 3, 1) := by decide +kernel
theorem dX10_interval_14 : decode cX10_interval 14 = .ok (.iconst 0, 1) := by decide +kernel
theorem dX10_interval_15 : decode cX10_interval 15 = .ok (.iconst 1, 1) := by decide +kernel
theorem dX10_interval_16 : decode cX10_interval 16 = .ok (.invokestatic 69, 3) := by decide +kernel
theorem dX10_interval_19 : decode cX10_interval 19 = .ok (.ifCond .ne 7, 3) := by decide +kernel
theorem dX10_interval_22 : decode cX10_interval 22 = .ok (.ldc2_w 151, 3) := by decide +kernel
theorem dX10_interval_25 : decode cX10_interval 25 = .ok (.lreturn, 1) := by decide +kernel
theorem dX10_interval_26 : decode cX10_interval 26 = .ok (.aload_n 0, 1) := by decide +kernel
theorem dX10_interval_27 : decode cX10_interval 27 = .ok (.iload_n 1, 1) := by decide +kernel
theorem dX10_interval_28 : decode cX10_interval 28 = .ok (.aload_n 0, 1) := by decide +kernel
theorem dX10_interval_29 : decode cX10_interval 29 = .ok (.getfield 63, 3) := by decide +kernel
theorem dX10_interval_32 : decode cX10_interval 32 = .ok (.aload_n 0, 1) := by decide +kernel
theorem dX10_interval_33 : decode cX10_interval 33 = .ok (.getfield 60, 3) := by decide +kernel
theorem dX10_interval_36 : decode cX10_interval 36 = .ok (.invokevirtual 99, 3) := by decide +kernel
theorem dX10_interval_39 : decode cX10_interval 39 = .ok (.istore 4, 2) := by decide +kernel
theorem dX10_interval_41 : decode cX10_interval 41 = .ok (.aload_n 0, 1) := by decide +kernel
theorem dX10_interval_42 : decode cX10_interval 42 = .ok (.iload_n 2, 1) := by decide +kernel
theorem dX10_interval_43 : decode cX10_interval 43 = .ok (.aload_n 0, 1) := by decide +kernel
theorem dX10_interval_44 : decode cX10_interval 44 = .ok (.getfield 63, 3) := by decide +kernel
theorem dX10_interval_47 : decode cX10_interval 47 = .ok (.aload_n 0, 1) := by decide +kernel
theorem dX10_interval_48 : decode cX10_interval 48 = .ok (.getfield 60, 3) := by decide +kernel
theorem dX10_interval_51 : decode cX10_interval 51 = .ok (.invokevirtual 99, 3) := by decide +kernel
theorem dX10_interval_54 : decode cX10_interval 54 = .ok (.istore 5, 2) := by decide +kernel
theorem dX10_interval_56 : decode cX10_interval 56 = .ok (.iload 4, 2) := by decide +kernel
theorem dX10_interval_58 : decode cX10_interval 58 = .ok (.iload 5, 2) := by decide +kernel
theorem dX10_interval_60 : decode cX10_interval 60 = .ok (.invokestatic 95, 3) := by decide +kernel
theorem dX10_interval_63 : decode cX10_interval 63 = .ok (.istore 6, 2) := by decide +kernel
theorem dX10_interval_65 : decode cX10_interval 65 = .ok (.iload 4, 2) := by decide +kernel
theorem dX10_interval_67 : decode cX10_interval 67 = .ok (.iload 5, 2) := by decide +kernel
theorem dX10_interval_69 : decode cX10_interval 69 = .ok (.if_icmp .le 8, 3) := by decide +kernel
theorem dX10_interval_72 : decode cX10_interval 72 = .ok (.iload 4, 2) := by decide +kernel
theorem dX10_interval_74 : decode cX10_interval 74 = .ok (.goto 5, 3) := by decide +kernel
theorem dX10_interval_77 : decode cX10_interval 77 = .ok (.iload 5, 2) := by decide +kernel
theorem dX10_interval_79 : decode cX10_interval 79 = .ok (.istore 7, 2) := by decide +kernel
theorem dX10_interval_81 : decode cX10_interval 81 = .ok (.iload_n 3, 1) := by decide +kernel
theorem dX10_interval_82 : decode cX10_interval 82 = .ok (.ifCond .ne 12, 3) := by decide +kernel
theorem dX10_interval_85 : decode cX10_interval 85 = .ok (.iload 7, 2) := by decide +kernel
theorem dX10_interval_87 : decode cX10_interval 87 = .ok (.iload 6, 2) := by decide +kernel
theorem dX10_interval_89 : decode cX10_interval 89 = .ok (.idiv, 1) := by decide +kernel
theorem dX10_interval_90 : decode cX10_interval 90 = .ok (.i2l, 1) := by decide +kernel
theorem dX10_interval_91 : decode cX10_interval 91 = .ok (.goto 15, 3) := by decide +kernel
theorem dX10_interval_94 : decode cX10_interval 94 = .ok (.iload 4, 2) := by decide +kernel
theorem dX10_interval_96 : decode cX10_interval 96 = .ok (.iload 5, 2) := by decide +kernel
theorem dX10_interval_98 : decode cX10_interval 98 = .ok (.iadd, 1) := by decide +kernel
theorem dX10_interval_99 : decode cX10_interval 99 = .ok (.iload 7, 2) := by decide +kernel
theorem dX10_interval_101 : decode cX10_interval 101 = .ok (.isub, 1) := by decide +kernel
theorem dX10_interval_102 : decode cX10_interval 102 = .ok (.iload 6, 2) := by decide +kernel
theorem dX10_interval_104 : decode cX10_interval 104 = .ok (.idiv, 1) := by decide +kernel
theorem dX10_interval_105 : decode cX10_interval 105 = .ok (.i2l, 1) := by decide +kernel
theorem dX10_interval_106 : decode cX10_interval 106 = .ok (.lreturn, 1) := by decide +kernel
theorem dX10_heard_0 : decode cX10_heard 0 = .ok (.iload_n 1, 1) := by decide +kernel
theorem dX10_heard_1 : decode cX10_heard 1 = .ok (.iconst 0, 1) := by decide +kernel
theorem dX10_heard_2 : decode cX10_heard 2 = .ok (.iconst 1, 1) := by decide +kernel
theorem dX10_heard_3 : decode cX10_heard 3 = .ok (.invokestatic 69, 3) := by decide +kernel
theorem dX10_heard_6 : decode cX10_heard 6 = .ok (.ifCond .ne 6, 3) := by decide +kernel
theorem dX10_heard_9 : decode cX10_heard 9 = .ok (.bipush (-2), 2) := by decide +kernel
theorem dX10_heard_11 : decode cX10_heard 11 = .ok (.ireturn, 1) := by decide +kernel
theorem dX10_heard_12 : decode cX10_heard 12 = .ok (.iconst 0, 1) := by decide +kernel
theorem dX10_heard_13 : decode cX10_heard 13 = .ok (.istore_n 2, 1) := by decide +kernel
theorem dX10_heard_14 : decode cX10_heard 14 = .ok (.iconst 0, 1) := by decide +kernel
theorem dX10_heard_15 : decode cX10_heard 15 = .ok (.istore_n 3, 1) := by decide +kernel
theorem dX10_heard_16 : decode cX10_heard 16 = .ok (.iconst 0, 1) := by decide +kernel
theorem dX10_heard_17 : decode cX10_heard 17 = .ok (.istore 4, 2) := by decide +kernel
theorem dX10_heard_19 : decode cX10_heard 19 = .ok (.iconst 0, 1) := by decide +kernel
theorem dX10_heard_20 : decode cX10_heard 20 = .ok (.istore 5, 2) := by decide +kernel
theorem dX10_heard_22 : decode cX10_heard 22 = .ok (.iload 5, 2) := by decide +kernel
theorem dX10_heard_24 : decode cX10_heard 24 = .ok (.aload_n 0, 1) := by decide +kernel
theorem dX10_heard_25 : decode cX10_heard 25 = .ok (.getfield 7, 3) := by decide +kernel
theorem dX10_heard_28 : decode cX10_heard 28 = .ok (.if_icmp .ge 128, 3) := by decide +kernel
theorem dX10_heard_31 : decode cX10_heard 31 = .ok (.aload_n 0, 1) := by decide +kernel
theorem dX10_heard_32 : decode cX10_heard 32 = .ok (.iload 5, 2) := by decide +kernel
theorem dX10_heard_34 : decode cX10_heard 34 = .ok (.aload_n 0, 1) := by decide +kernel
theorem dX10_heard_35 : decode cX10_heard 35 = .ok (.getfield 63, 3) := by decide +kernel
theorem dX10_heard_38 : decode cX10_heard 38 = .ok (.aload_n 0, 1) := by decide +kernel
theorem dX10_heard_39 : decode cX10_heard 39 = .ok (.getfield 60, 3) := by decide +kernel
theorem dX10_heard_42 : decode cX10_heard 42 = .ok (.invokevirtual 99, 3) := by decide +kernel
theorem dX10_heard_45 : decode cX10_heard 45 = .ok (.istore 6, 2) := by decide +kernel
theorem dX10_heard_47 : decode cX10_heard 47 = .ok (.iconst 1, 1) := by decide +kernel
theorem dX10_heard_48 : decode cX10_heard 48 = .ok (.istore 7, 2) := by decide +kernel
theorem dX10_heard_50 : decode cX10_heard 50 = .ok (.iconst 0, 1) := by decide +kernel
theorem dX10_heard_51 : decode cX10_heard 51 = .ok (.istore 8, 2) := by decide +kernel
theorem dX10_heard_53 : decode cX10_heard 53 = .ok (.iload 8, 2) := by decide +kernel
theorem dX10_heard_55 : decode cX10_heard 55 = .ok (.iload 5, 2) := by decide +kernel
theorem dX10_heard_57 : decode cX10_heard 57 = .ok (.if_icmp .ge 40, 3) := by decide +kernel
theorem dX10_heard_60 : decode cX10_heard 60 = .ok (.iload 7, 2) := by decide +kernel
theorem dX10_heard_62 : decode cX10_heard 62 = .ok (.ifCond .eq 26, 3) := by decide +kernel
theorem dX10_heard_65 : decode cX10_heard 65 = .ok (.aload_n 0, 1) := by decide +kernel
theorem dX10_heard_66 : decode cX10_heard 66 = .ok (.iload 8, 2) := by decide +kernel
theorem dX10_heard_68 : decode cX10_heard 68 = .ok (.aload_n 0, 1) := by decide +kernel
theorem dX10_heard_69 : decode cX10_heard 69 = .ok (.getfield 63, 3) := by decide +kernel
theorem dX10_heard_72 : decode cX10_heard 72 = .ok (.aload_n 0, 1) := by decide +kernel
theorem dX10_heard_73 : decode cX10_heard 73 = .ok (.getfield 60, 3) := by decide +kernel
theorem dX10_heard_76 : decode cX10_heard 76 = .ok (.invokevirtual 99, 3) := by decide +kernel
theorem dX10_heard_79 : decode cX10_heard 79 = .ok (.iload 6, 2) := by decide +kernel
theorem dX10_heard_81 : decode cX10_heard 81 = .ok (.if_icmp .eq 7, 3) := by decide +kernel
theorem dX10_heard_84 : decode cX10_heard 84 = .ok (.iconst 1, 1) := by decide +kernel
theorem dX10_heard_85 : decode cX10_heard 85 = .ok (.goto 4, 3) := by decide +kernel
theorem dX10_heard_88 : decode cX10_heard 88 = .ok (.iconst 0, 1) := by decide +kernel
theorem dX10_heard_89 : decode cX10_heard 89 = .ok (.istore 7, 2) := by decide +kernel
theorem dX10_heard_91 : decode cX10_heard 91 = .ok (.iinc 8 1, 3) := by decide +kernel
theorem dX10_heard_94 : decode cX10_heard 94 = .ok (.goto (-41), 3) := by decide +kernel
theorem dX10_heard_97 : decode cX10_heard 97 = .ok (.iload_n 2, 1) := by decide +kernel
theorem dX10_heard_98 : decode cX10_heard 98 = .ok (.iload 7, 2) := by decide +kernel
theorem dX10_heard_100 : decode cX10_heard 100 = .ok (.ifCond .eq 7, 3) := by decide +kernel
theorem dX10_heard_103 : decode cX10_heard 103 = .ok (.iconst 1, 1) := by decide +kernel
theorem dX10_heard_104 : decode cX10_heard 104 = .ok (.goto 4, 3) := by decide +kernel
theorem dX10_heard_107 : decode cX10_heard 107 = .ok (.iconst 0, 1) := by decide +kernel
theorem dX10_heard_108 : decode cX10_heard 108 = .ok (.iadd, 1) := by decide +kernel
theorem dX10_heard_109 : decode cX10_heard 109 = .ok (.istore_n 2, 1) := by decide +kernel
theorem dX10_heard_110 : decode cX10_heard 110 = .ok (.iload 6, 2) := by decide +kernel
theorem dX10_heard_112 : decode cX10_heard 112 = .ok (.iload_n 3, 1) := by decide +kernel
theorem dX10_heard_113 : decode cX10_heard 113 = .ok (.if_icmp .le 7, 3) := by decide +kernel
theorem dX10_heard_116 : decode cX10_heard 116 = .ok (.iconst 1, 1) := by decide +kernel
theorem dX10_heard_117 : decode cX10_heard 117 = .ok (.goto 18, 3) := by decide +kernel
theorem dX10_heard_120 : decode cX10_heard 120 = .ok (.iload 6, 2) := by decide +kernel
theorem dX10_heard_122 : decode cX10_heard 122 = .ok (.iload_n 3, 1) := by decide +kernel
theorem dX10_heard_123 : decode cX10_heard 123 = .ok (.if_icmp .ne 10, 3) := by decide +kernel
theorem dX10_heard_126 : decode cX10_heard 126 = .ok (.iload 4, 2) := by decide +kernel
theorem dX10_heard_128 : decode cX10_heard 128 = .ok (.iconst 1, 1) := by decide +kernel
theorem dX10_heard_129 : decode cX10_heard 129 = .ok (.iadd, 1) := by decide +kernel
theorem dX10_heard_130 : decode cX10_heard 130 = .ok (.goto 5, 3) := by decide +kernel
theorem dX10_heard_133 : decode cX10_heard 133 = .ok (.iload 4, 2) := by decide +kernel
theorem dX10_heard_135 : decode cX10_heard 135 = .ok (.istore 4, 2) := by decide +kernel
theorem dX10_heard_137 : decode cX10_heard 137 = .ok (.iload 6, 2) := by decide +kernel
theorem dX10_heard_139 : decode cX10_heard 139 = .ok (.iload_n 3, 1) := by decide +kernel
theorem dX10_heard_140 : decode cX10_heard 140 = .ok (.if_icmp .le 8, 3) := by decide +kernel
theorem dX10_heard_143 : decode cX10_heard 143 = .ok (.iload 6, 2) := by decide +kernel
theorem dX10_heard_145 : decode cX10_heard 145 = .ok (.goto 4, 3) := by decide +kernel
theorem dX10_heard_148 : decode cX10_heard 148 = .ok (.iload_n 3, 1) := by decide +kernel
theorem dX10_heard_149 : decode cX10_heard 149 = .ok (.istore_n 3, 1) := by decide +kernel
theorem dX10_heard_150 : decode cX10_heard 150 = .ok (.iinc 5 1, 3) := by decide +kernel
theorem dX10_heard_153 : decode cX10_heard 153 = .ok (.goto (-131), 3) := by decide +kernel
theorem dX10_heard_156 : decode cX10_heard 156 = .ok (.iload_n 1, 1) := by decide +kernel
theorem dX10_heard_157 : decode cX10_heard 157 = .ok (.ifCond .ne 7, 3) := by decide +kernel
theorem dX10_heard_160 : decode cX10_heard 160 = .ok (.iload_n 2, 1) := by decide +kernel
theorem dX10_heard_161 : decode cX10_heard 161 = .ok (.goto 5, 3) := by decide +kernel
theorem dX10_heard_164 : decode cX10_heard 164 = .ok (.iload 4, 2) := by decide +kernel
theorem dX10_heard_166 : decode cX10_heard 166 = .ok (.ireturn, 1) := by decide +kernel
theorem dX10_canBe_0 : decode cX10_canBe 0 = .ok (.iload_n 1, 1) := by decide +kernel
theorem dX10_canBe_1 : decode cX10_canBe 1 = .ok (.invokestatic 112, 3) := by decide +kernel
theorem dX10_canBe_4 : decode cX10_canBe 4 = .ok (.aload_n 0, 1) := by decide +kernel
theorem dX10_canBe_5 : decode cX10_canBe 5 = .ok (.invokevirtual 115, 3) := by decide +kernel
theorem dX10_canBe_8 : decode cX10_canBe 8 = .ok (.if_icmp .gt 7, 3) := by decide +kernel
theorem dX10_canBe_11 : decode cX10_canBe 11 = .ok (.iconst 1, 1) := by decide +kernel
theorem dX10_canBe_12 : decode cX10_canBe 12 = .ok (.goto 4, 3) := by decide +kernel
theorem dX10_canBe_15 : decode cX10_canBe 15 = .ok (.iconst 0, 1) := by decide +kernel
theorem dX10_canBe_16 : decode cX10_canBe 16 = .ok (.ireturn, 1) := by decide +kernel
theorem dX10_fewestFor_0 : decode cX10_fewestFor 0 = .ok (.bipush (-6), 2) := by decide +kernel
theorem dX10_fewestFor_2 : decode cX10_fewestFor 2 = .ok (.istore 5, 2) := by decide +kernel
theorem dX10_fewestFor_4 : decode cX10_fewestFor 4 = .ok (.iconst 0, 1) := by decide +kernel
theorem dX10_fewestFor_5 : decode cX10_fewestFor 5 = .ok (.istore 6, 2) := by decide +kernel
theorem dX10_fewestFor_7 : decode cX10_fewestFor 7 = .ok (.iload 6, 2) := by decide +kernel
theorem dX10_fewestFor_9 : decode cX10_fewestFor 9 = .ok (.iconst 1, 1) := by decide +kernel
theorem dX10_fewestFor_10 : decode cX10_fewestFor 10 = .ok (.aload_n 0, 1) := by decide +kernel
theorem dX10_fewestFor_11 : decode cX10_fewestFor 11 = .ok (.getfield 7, 3) := by decide +kernel
theorem dX10_fewestFor_14 : decode cX10_fewestFor 14 = .ok (.ishl, 1) := by decide +kernel
theorem dX10_fewestFor_15 : decode cX10_fewestFor 15 = .ok (.if_icmp .ge 104, 3) := by decide +kernel
theorem dX10_fewestFor_18 : decode cX10_fewestFor 18 = .ok (.aload_n 0, 1) := by decide +kernel
theorem dX10_fewestFor_19 : decode cX10_fewestFor 19 = .ok (.iload 6, 2) := by decide +kernel
theorem dX10_fewestFor_21 : decode cX10_fewestFor 21 = .ok (.invokevirtual 153, 3) := by decide +kernel
theorem dX10_fewestFor_24 : decode cX10_fewestFor 24 = .ok (.ifCond .eq 25, 3) := by decide +kernel
theorem dX10_fewestFor_27 : decode cX10_fewestFor 27 = .ok (.iload 5, 2) := by decide +kernel
theorem dX10_fewestFor_29 : decode cX10_fewestFor 29 = .ok (.ifCond .lt 16, 3) := by decide +kernel
theorem dX10_fewestFor_32 : decode cX10_fewestFor 32 = .ok (.iload 6, 2) := by decide +kernel
theorem dX10_fewestFor_34 : decode cX10_fewestFor 34 = .ok (.invokestatic 112, 3) := by decide +kernel
theorem dX10_fewestFor_37 : decode cX10_fewestFor 37 = .ok (.iload 5, 2) := by decide +kernel
theorem dX10_fewestFor_39 : decode cX10_fewestFor 39 = .ok (.invokestatic 112, 3) := by decide +kernel
theorem dX10_fewestFor_42 : decode cX10_fewestFor 42 = .ok (.if_icmp .ge 7, 3) := by decide +kernel
theorem dX10_fewestFor_45 : decode cX10_fewestFor 45 = .ok (.iconst 1, 1) := by decide +kernel
theorem dX10_fewestFor_46 : decode cX10_fewestFor 46 = .ok (.goto 4, 3) := by decide +kernel
theorem dX10_fewestFor_49 : decode cX10_fewestFor 49 = .ok (.iconst 0, 1) := by decide +kernel
theorem dX10_fewestFor_50 : decode cX10_fewestFor 50 = .ok (.istore 7, 2) := by decide +kernel
theorem dX10_fewestFor_52 : decode cX10_fewestFor 52 = .ok (.iload 7, 2) := by decide +kernel
theorem dX10_fewestFor_54 : decode cX10_fewestFor 54 = .ok (.ifCond .eq 42, 3) := by decide +kernel
theorem dX10_fewestFor_57 : decode cX10_fewestFor 57 = .ok (.aload_n 0, 1) := by decide +kernel
theorem dX10_fewestFor_58 : decode cX10_fewestFor 58 = .ok (.iload_n 1, 1) := by decide +kernel
theorem dX10_fewestFor_59 : decode cX10_fewestFor 59 = .ok (.iload 6, 2) := by decide +kernel
theorem dX10_fewestFor_61 : decode cX10_fewestFor 61 = .ok (.aload_n 0, 1) := by decide +kernel
theorem dX10_fewestFor_62 : decode cX10_fewestFor 62 = .ok (.getfield 60, 3) := by decide +kernel
theorem dX10_fewestFor_65 : decode cX10_fewestFor 65 = .ok (.invokevirtual 99, 3) := by decide +kernel
theorem dX10_fewestFor_68 : decode cX10_fewestFor 68 = .ok (.iload_n 2, 1) := by decide +kernel
theorem dX10_fewestFor_69 : decode cX10_fewestFor 69 = .ok (.if_icmp .ne 27, 3) := by decide +kernel
theorem dX10_fewestFor_72 : decode cX10_fewestFor 72 = .ok (.iload_n 3, 1) := by decide +kernel
theorem dX10_fewestFor_73 : decode cX10_fewestFor 73 = .ok (.ifCond .lt 19, 3) := by decide +kernel
theorem dX10_fewestFor_76 : decode cX10_fewestFor 76 = .ok (.aload_n 0, 1) := by decide +kernel
theorem dX10_fewestFor_77 : decode cX10_fewestFor 77 = .ok (.iload_n 3, 1) := by decide +kernel
theorem dX10_fewestFor_78 : decode cX10_fewestFor 78 = .ok (.iload 6, 2) := by decide +kernel
theorem dX10_fewestFor_80 : decode cX10_fewestFor 80 = .ok (.aload_n 0, 1) := by decide +kernel
theorem dX10_fewestFor_81 : decode cX10_fewestFor 81 = .ok (.getfield 60, 3) := by decide +kernel
theorem dX10_fewestFor_84 : decode cX10_fewestFor 84 = .ok (.invokevirtual 99, 3) := by decide +kernel
theorem dX10_fewestFor_87 : decode cX10_fewestFor 87 = .ok (.iload 4, 2) := by decide +kernel
theorem dX10_fewestFor_89 : decode cX10_fewestFor 89 = .ok (.if_icmp .ne 7, 3) := by decide +kernel
theorem dX10_fewestFor_92 : decode cX10_fewestFor 92 = .ok (.iconst 1, 1) := by decide +kernel
theorem dX10_fewestFor_93 : decode cX10_fewestFor 93 = .ok (.goto 4, 3) := by decide +kernel
theorem dX10_fewestFor_96 : decode cX10_fewestFor 96 = .ok (.iconst 0, 1) := by decide +kernel
theorem dX10_fewestFor_97 : decode cX10_fewestFor 97 = .ok (.istore 8, 2) := by decide +kernel
theorem dX10_fewestFor_99 : decode cX10_fewestFor 99 = .ok (.iload 8, 2) := by decide +kernel
theorem dX10_fewestFor_101 : decode cX10_fewestFor 101 = .ok (.ifCond .eq 8, 3) := by decide +kernel
theorem dX10_fewestFor_104 : decode cX10_fewestFor 104 = .ok (.iload 6, 2) := by decide +kernel
theorem dX10_fewestFor_106 : decode cX10_fewestFor 106 = .ok (.goto 5, 3) := by decide +kernel
theorem dX10_fewestFor_109 : decode cX10_fewestFor 109 = .ok (.iload 5, 2) := by decide +kernel
theorem dX10_fewestFor_111 : decode cX10_fewestFor 111 = .ok (.istore 5, 2) := by decide +kernel
theorem dX10_fewestFor_113 : decode cX10_fewestFor 113 = .ok (.iinc 6 1, 3) := by decide +kernel
theorem dX10_fewestFor_116 : decode cX10_fewestFor 116 = .ok (.goto (-109), 3) := by decide +kernel
theorem dX10_fewestFor_119 : decode cX10_fewestFor 119 = .ok (.iload 5, 2) := by decide +kernel
theorem dX10_fewestFor_121 : decode cX10_fewestFor 121 = .ok (.ireturn, 1) := by decide +kernel
theorem dX10_stopped_0 : decode cX10_stopped 0 = .ok (.aload_n 0, 1) := by decide +kernel
theorem dX10_stopped_1 : decode cX10_stopped 1 = .ok (.iload_n 1, 1) := by decide +kernel
theorem dX10_stopped_2 : decode cX10_stopped 2 = .ok (.invokevirtual 73, 3) := by decide +kernel
theorem dX10_stopped_5 : decode cX10_stopped 5 = .ok (.ifCond .ne 5, 3) := by decide +kernel
theorem dX10_stopped_8 : decode cX10_stopped 8 = .ok (.iconst (-1), 1) := by decide +kernel
theorem dX10_stopped_9 : decode cX10_stopped 9 = .ok (.ireturn, 1) := by decide +kernel
theorem dX10_stopped_10 : decode cX10_stopped 10 = .ok (.iload_n 2, 1) := by decide +kernel
theorem dX10_stopped_11 : decode cX10_stopped 11 = .ok (.iconst 1, 1) := by decide +kernel
theorem dX10_stopped_12 : decode cX10_stopped 12 = .ok (.sipush 200, 3) := by decide +kernel
theorem dX10_stopped_15 : decode cX10_stopped 15 = .ok (.invokestatic 69, 3) := by decide +kernel
theorem dX10_stopped_18 : decode cX10_stopped 18 = .ok (.ifCond .eq 12, 3) := by decide +kernel
theorem dX10_stopped_21 : decode cX10_stopped 21 = .ok (.iload_n 3, 1) := by decide +kernel
theorem dX10_stopped_22 : decode cX10_stopped 22 = .ok (.iconst 0, 1) := by decide +kernel
theorem dX10_stopped_23 : decode cX10_stopped 23 = .ok (.iconst 1, 1) := by decide +kernel
theorem dX10_stopped_24 : decode cX10_stopped 24 = .ok (.invokestatic 69, 3) := by decide +kernel
theorem dX10_stopped_27 : decode cX10_stopped 27 = .ok (.ifCond .ne 6, 3) := by decide +kernel
theorem dX10_stopped_30 : decode cX10_stopped 30 = .ok (.bipush (-2), 2) := by decide +kernel
theorem dX10_stopped_32 : decode cX10_stopped 32 = .ok (.ireturn, 1) := by decide +kernel
theorem dX10_stopped_33 : decode cX10_stopped 33 = .ok (.aload_n 0, 1) := by decide +kernel
theorem dX10_stopped_34 : decode cX10_stopped 34 = .ok (.iload_n 1, 1) := by decide +kernel
theorem dX10_stopped_35 : decode cX10_stopped 35 = .ok (.iload_n 2, 1) := by decide +kernel
theorem dX10_stopped_36 : decode cX10_stopped 36 = .ok (.bipush (-6), 2) := by decide +kernel
theorem dX10_stopped_38 : decode cX10_stopped 38 = .ok (.iconst 0, 1) := by decide +kernel
theorem dX10_stopped_39 : decode cX10_stopped 39 = .ok (.invokevirtual 156, 3) := by decide +kernel
theorem dX10_stopped_42 : decode cX10_stopped 42 = .ok (.istore 4, 2) := by decide +kernel
theorem dX10_stopped_44 : decode cX10_stopped 44 = .ok (.iload 4, 2) := by decide +kernel
theorem dX10_stopped_46 : decode cX10_stopped 46 = .ok (.ifCond .lt 8, 3) := by decide +kernel
theorem dX10_stopped_49 : decode cX10_stopped 49 = .ok (.iload_n 3, 1) := by decide +kernel
theorem dX10_stopped_50 : decode cX10_stopped 50 = .ok (.iconst 1, 1) := by decide +kernel
theorem dX10_stopped_51 : decode cX10_stopped 51 = .ok (.if_icmp .ne 8, 3) := by decide +kernel
theorem dX10_stopped_54 : decode cX10_stopped 54 = .ok (.iload 4, 2) := by decide +kernel
theorem dX10_stopped_56 : decode cX10_stopped 56 = .ok (.goto 8, 3) := by decide +kernel
theorem dX10_stopped_59 : decode cX10_stopped 59 = .ok (.iload 4, 2) := by decide +kernel
theorem dX10_stopped_61 : decode cX10_stopped 61 = .ok (.invokestatic 112, 3) := by decide +kernel
theorem dX10_stopped_64 : decode cX10_stopped 64 = .ok (.ireturn, 1) := by decide +kernel
theorem dX10_friends_0 : decode cX10_friends 0 = .ok (.aload_n 0, 1) := by decide +kernel
theorem dX10_friends_1 : decode cX10_friends 1 = .ok (.iload_n 1, 1) := by decide +kernel
theorem dX10_friends_2 : decode cX10_friends 2 = .ok (.iload_n 3, 1) := by decide +kernel
theorem dX10_friends_3 : decode cX10_friends 3 = .ok (.invokevirtual 146, 3) := by decide +kernel
theorem dX10_friends_6 : decode cX10_friends 6 = .ok (.ifCond .ne 5, 3) := by decide +kernel
theorem dX10_friends_9 : decode cX10_friends 9 = .ok (.iconst (-1), 1) := by decide +kernel
theorem dX10_friends_10 : decode cX10_friends 10 = .ok (.ireturn, 1) := by decide +kernel
theorem dX10_friends_11 : decode cX10_friends 11 = .ok (.iload_n 2, 1) := by decide +kernel
theorem dX10_friends_12 : decode cX10_friends 12 = .ok (.iconst 1, 1) := by decide +kernel
theorem dX10_friends_13 : decode cX10_friends 13 = .ok (.sipush 200, 3) := by decide +kernel
theorem dX10_friends_16 : decode cX10_friends 16 = .ok (.invokestatic 69, 3) := by decide +kernel
theorem dX10_friends_19 : decode cX10_friends 19 = .ok (.ifCond .eq 25, 3) := by decide +kernel
theorem dX10_friends_22 : decode cX10_friends 22 = .ok (.iload 4, 2) := by decide +kernel
theorem dX10_friends_24 : decode cX10_friends 24 = .ok (.iconst 1, 1) := by decide +kernel
theorem dX10_friends_25 : decode cX10_friends 25 = .ok (.sipush 200, 3) := by decide +kernel
theorem dX10_friends_28 : decode cX10_friends 28 = .ok (.invokestatic 69, 3) := by decide +kernel
theorem dX10_friends_31 : decode cX10_friends 31 = .ok (.ifCond .eq 13, 3) := by decide +kernel
theorem dX10_friends_34 : decode cX10_friends 34 = .ok (.iload 5, 2) := by decide +kernel
theorem dX10_friends_36 : decode cX10_friends 36 = .ok (.iconst 0, 1) := by decide +kernel
theorem dX10_friends_37 : decode cX10_friends 37 = .ok (.iconst 1, 1) := by decide +kernel
theorem dX10_friends_38 : decode cX10_friends 38 = .ok (.invokestatic 69, 3) := by decide +kernel
theorem dX10_friends_41 : decode cX10_friends 41 = .ok (.ifCond .ne 6, 3) := by decide +kernel
theorem dX10_friends_44 : decode cX10_friends 44 = .ok (.bipush (-2), 2) := by decide +kernel
theorem dX10_friends_46 : decode cX10_friends 46 = .ok (.ireturn, 1) := by decide +kernel
theorem dX10_friends_47 : decode cX10_friends 47 = .ok (.aload_n 0, 1) := by decide +kernel
theorem dX10_friends_48 : decode cX10_friends 48 = .ok (.iload_n 1, 1) := by decide +kernel
theorem dX10_friends_49 : decode cX10_friends 49 = .ok (.iload_n 2, 1) := by decide +kernel
theorem dX10_friends_50 : decode cX10_friends 50 = .ok (.iload_n 3, 1) := by decide +kernel
theorem dX10_friends_51 : decode cX10_friends 51 = .ok (.iload 4, 2) := by decide +kernel
theorem dX10_friends_53 : decode cX10_friends 53 = .ok (.invokevirtual 156, 3) := by decide +kernel
theorem dX10_friends_56 : decode cX10_friends 56 = .ok (.istore 6, 2) := by decide +kernel
theorem dX10_friends_58 : decode cX10_friends 58 = .ok (.iload 6, 2) := by decide +kernel
theorem dX10_friends_60 : decode cX10_friends 60 = .ok (.ifCond .lt 9, 3) := by decide +kernel
theorem dX10_friends_63 : decode cX10_friends 63 = .ok (.iload 5, 2) := by decide +kernel
theorem dX10_friends_65 : decode cX10_friends 65 = .ok (.iconst 1, 1) := by decide +kernel
theorem dX10_friends_66 : decode cX10_friends 66 = .ok (.if_icmp .ne 8, 3) := by decide +kernel
theorem dX10_friends_69 : decode cX10_friends 69 = .ok (.iload 6, 2) := by decide +kernel
theorem dX10_friends_71 : decode cX10_friends 71 = .ok (.goto 8, 3) := by decide +kernel
theorem dX10_friends_74 : decode cX10_friends 74 = .ok (.iload 6, 2) := by decide +kernel
theorem dX10_friends_76 : decode cX10_friends 76 = .ok (.invokestatic 112, 3) := by decide +kernel
theorem dX10_friends_79 : decode cX10_friends 79 = .ok (.ireturn, 1) := by decide +kernel
theorem dX10_note_0 : decode cX10_note 0 = .ok (.bipush 10, 2) := by decide +kernel
theorem dX10_note_2 : decode cX10_note 2 = .ok (.aload_n 0, 1) := by decide +kernel
theorem dX10_note_3 : decode cX10_note 3 = .ok (.getfield 32, 3) := by decide +kernel
theorem dX10_note_6 : decode cX10_note 6 = .ok (.iconst 2, 1) := by decide +kernel
theorem dX10_note_7 : decode cX10_note 7 = .ok (.iload_n 1, 1) := by decide +kernel
theorem dX10_note_8 : decode cX10_note 8 = .ok (.imul, 1) := by decide +kernel
theorem dX10_note_9 : decode cX10_note 9 = .ok (.iaload, 1) := by decide +kernel
theorem dX10_note_10 : decode cX10_note 10 = .ok (.bipush 48, 2) := by decide +kernel
theorem dX10_note_12 : decode cX10_note 12 = .ok (.isub, 1) := by decide +kernel
theorem dX10_note_13 : decode cX10_note 13 = .ok (.imul, 1) := by decide +kernel
theorem dX10_note_14 : decode cX10_note 14 = .ok (.aload_n 0, 1) := by decide +kernel
theorem dX10_note_15 : decode cX10_note 15 = .ok (.getfield 32, 3) := by decide +kernel
theorem dX10_note_18 : decode cX10_note 18 = .ok (.iconst 2, 1) := by decide +kernel
theorem dX10_note_19 : decode cX10_note 19 = .ok (.iload_n 1, 1) := by decide +kernel
theorem dX10_note_20 : decode cX10_note 20 = .ok (.imul, 1) := by decide +kernel
theorem dX10_note_21 : decode cX10_note 21 = .ok (.iconst 1, 1) := by decide +kernel
theorem dX10_note_22 : decode cX10_note 22 = .ok (.iadd, 1) := by decide +kernel
theorem dX10_note_23 : decode cX10_note 23 = .ok (.iaload, 1) := by decide +kernel
theorem dX10_note_24 : decode cX10_note 24 = .ok (.iadd, 1) := by decide +kernel
theorem dX10_note_25 : decode cX10_note 25 = .ok (.bipush 48, 2) := by decide +kernel
theorem dX10_note_27 : decode cX10_note 27 = .ok (.isub, 1) := by decide +kernel
theorem dX10_note_28 : decode cX10_note 28 = .ok (.ireturn, 1) := by decide +kernel
theorem dX10_changes_0 : decode cX10_changes 0 = .ok (.aload_n 0, 1) := by decide +kernel
theorem dX10_changes_1 : decode cX10_changes 1 = .ok (.iload_n 1, 1) := by decide +kernel
theorem dX10_changes_2 : decode cX10_changes 2 = .ok (.invokevirtual 73, 3) := by decide +kernel
theorem dX10_changes_5 : decode cX10_changes 5 = .ok (.ifCond .ne 5, 3) := by decide +kernel
theorem dX10_changes_8 : decode cX10_changes 8 = .ok (.iconst (-1), 1) := by decide +kernel
theorem dX10_changes_9 : decode cX10_changes 9 = .ok (.ireturn, 1) := by decide +kernel
theorem dX10_changes_10 : decode cX10_changes 10 = .ok (.iload_n 2, 1) := by decide +kernel
theorem dX10_changes_11 : decode cX10_changes 11 = .ok (.iconst 0, 1) := by decide +kernel
theorem dX10_changes_12 : decode cX10_changes 12 = .ok (.iconst 1, 1) := by decide +kernel
theorem dX10_changes_13 : decode cX10_changes 13 = .ok (.invokestatic 69, 3) := by decide +kernel
theorem dX10_changes_16 : decode cX10_changes 16 = .ok (.ifCond .ne 6, 3) := by decide +kernel
theorem dX10_changes_19 : decode cX10_changes 19 = .ok (.bipush (-2), 2) := by decide +kernel
theorem dX10_changes_21 : decode cX10_changes 21 = .ok (.ireturn, 1) := by decide +kernel
theorem dX10_changes_22 : decode cX10_changes 22 = .ok (.aload_n 0, 1) := by decide +kernel
theorem dX10_changes_23 : decode cX10_changes 23 = .ok (.invokevirtual 84, 3) := by decide +kernel
theorem dX10_changes_26 : decode cX10_changes 26 = .ok (.ifCond .lt 6, 3) := by decide +kernel
theorem dX10_changes_29 : decode cX10_changes 29 = .ok (.bipush (-5), 2) := by decide +kernel
theorem dX10_changes_31 : decode cX10_changes 31 = .ok (.ireturn, 1) := by decide +kernel
theorem dX10_changes_32 : decode cX10_changes 32 = .ok (.iconst 1, 1) := by decide +kernel
theorem dX10_changes_33 : decode cX10_changes 33 = .ok (.aload_n 0, 1) := by decide +kernel
theorem dX10_changes_34 : decode cX10_changes 34 = .ok (.getfield 7, 3) := by decide +kernel
theorem dX10_changes_37 : decode cX10_changes 37 = .ok (.ishl, 1) := by decide +kernel
theorem dX10_changes_38 : decode cX10_changes 38 = .ok (.istore_n 3, 1) := by decide +kernel
theorem dX10_changes_39 : decode cX10_changes 39 = .ok (.iconst 0, 1) := by decide +kernel
theorem dX10_changes_40 : decode cX10_changes 40 = .ok (.istore 4, 2) := by decide +kernel
theorem dX10_changes_42 : decode cX10_changes 42 = .ok (.iload 4, 2) := by decide +kernel
theorem dX10_changes_44 : decode cX10_changes 44 = .ok (.iload_n 3, 1) := by decide +kernel
theorem dX10_changes_45 : decode cX10_changes 45 = .ok (.if_icmp .ge 31, 3) := by decide +kernel
theorem dX10_changes_48 : decode cX10_changes 48 = .ok (.aload_n 0, 1) := by decide +kernel
theorem dX10_changes_49 : decode cX10_changes 49 = .ok (.getfield 35, 3) := by decide +kernel
theorem dX10_changes_52 : decode cX10_changes 52 = .ok (.iload 4, 2) := by decide +kernel
theorem dX10_changes_54 : decode cX10_changes 54 = .ok (.iload 4, 2) := by decide +kernel
theorem dX10_changes_56 : decode cX10_changes 56 = .ok (.aload_n 0, 1) := by decide +kernel
theorem dX10_changes_57 : decode cX10_changes 57 = .ok (.getfield 63, 3) := by decide +kernel
theorem dX10_changes_60 : decode cX10_changes 60 = .ok (.if_icmp .ne 7, 3) := by decide +kernel
theorem dX10_changes_63 : decode cX10_changes 63 = .ok (.iconst 0, 1) := by decide +kernel
theorem dX10_changes_64 : decode cX10_changes 64 = .ok (.goto 5, 3) := by decide +kernel
theorem dX10_changes_67 : decode cX10_changes 67 = .ok (.ldc 160, 2) := by decide +kernel
theorem dX10_changes_69 : decode cX10_changes 69 = .ok (.iastore, 1) := by decide +kernel
theorem dX10_changes_70 : decode cX10_changes 70 = .ok (.iinc 4 1, 3) := by decide +kernel
theorem dX10_changes_73 : decode cX10_changes 73 = .ok (.goto (-31), 3) := by decide +kernel
theorem dX10_changes_76 : decode cX10_changes 76 = .ok (.iconst 0, 1) := by decide +kernel
theorem dX10_changes_77 : decode cX10_changes 77 = .ok (.istore 4, 2) := by decide +kernel
theorem dX10_changes_79 : decode cX10_changes 79 = .ok (.iload 4, 2) := by decide +kernel
theorem dX10_changes_81 : decode cX10_changes 81 = .ok (.aload_n 0, 1) := by decide +kernel
theorem dX10_changes_82 : decode cX10_changes 82 = .ok (.getfield 77, 3) := by decide +kernel
theorem dX10_changes_85 : decode cX10_changes 85 = .ok (.iconst 2, 1) := by decide +kernel
theorem dX10_changes_86 : decode cX10_changes 86 = .ok (.idiv, 1) := by decide +kernel
theorem dX10_changes_87 : decode cX10_changes 87 = .ok (.if_icmp .ge 176, 3) := by decide +kernel
theorem dX10_changes_90 : decode cX10_changes 90 = .ok (.aload_n 0, 1) := by decide +kernel
theorem dX10_changes_91 : decode cX10_changes 91 = .ok (.iload 4, 2) := by decide +kernel
theorem dX10_changes_93 : decode cX10_changes 93 = .ok (.invokevirtual 161, 3) := by decide +kernel
theorem dX10_changes_96 : decode cX10_changes 96 = .ok (.istore 5, 2) := by decide +kernel
theorem dX10_changes_98 : decode cX10_changes 98 = .ok (.iconst 0, 1) := by decide +kernel
theorem dX10_changes_99 : decode cX10_changes 99 = .ok (.istore 6, 2) := by decide +kernel
theorem dX10_changes_101 : decode cX10_changes 101 = .ok (.iload 6, 2) := by decide +kernel
theorem dX10_changes_103 : decode cX10_changes 103 = .ok (.iload_n 3, 1) := by decide +kernel
theorem dX10_changes_104 : decode cX10_changes 104 = .ok (.if_icmp .ge 124, 3) := by decide +kernel
theorem dX10_changes_107 : decode cX10_changes 107 = .ok (.aload_n 0, 1) := by decide +kernel
theorem dX10_changes_108 : decode cX10_changes 108 = .ok (.getfield 38, 3) := by decide +kernel
theorem dX10_changes_111 : decode cX10_changes 111 = .ok (.iload 6, 2) := by decide +kernel
theorem dX10_changes_113 : decode cX10_changes 113 = .ok (.ldc 160, 2) := by decide +kernel
theorem dX10_changes_115 : decode cX10_changes 115 = .ok (.iastore, 1) := by decide +kernel
theorem dX10_changes_116 : decode cX10_changes 116 = .ok (.aload_n 0, 1) := by decide +kernel
theorem dX10_changes_117 : decode cX10_changes 117 = .ok (.iload 6, 2) := by decide +kernel
theorem dX10_changes_119 : decode cX10_changes 119 = .ok (.invokevirtual 153, 3) := by decide +kernel
theorem dX10_changes_122 : decode cX10_changes 122 = .ok (.ifCond .eq 100, 3) := by decide +kernel
theorem dX10_changes_125 : decode cX10_changes 125 = .ok (.aload_n 0, 1) := by decide +kernel
theorem dX10_changes_126 : decode cX10_changes 126 = .ok (.iload_n 1, 1) := by decide +kernel
theorem dX10_changes_127 : decode cX10_changes 127 = .ok (.iload 6, 2) := by decide +kernel
theorem dX10_changes_129 : decode cX10_changes 129 = .ok (.aload_n 0, 1) := by decide +kernel
theorem dX10_changes_130 : decode cX10_changes 130 = .ok (.getfield 60, 3) := by decide +kernel
theorem dX10_changes_133 : decode cX10_changes 133 = .ok (.invokevirtual 99, 3) := by decide +kernel
theorem dX10_changes_136 : decode cX10_changes 136 = .ok (.iload 5, 2) := by decide +kernel
theorem dX10_changes_138 : decode cX10_changes 138 = .ok (.if_icmp .ne 84, 3) := by decide +kernel
theorem dX10_changes_141 : decode cX10_changes 141 = .ok (.iconst 0, 1) := by decide +kernel
theorem dX10_changes_142 : decode cX10_changes 142 = .ok (.istore 7, 2) := by decide +kernel
theorem dX10_changes_144 : decode cX10_changes 144 = .ok (.iload 7, 2) := by decide +kernel
theorem dX10_changes_146 : decode cX10_changes 146 = .ok (.iload_n 3, 1) := by decide +kernel
theorem dX10_changes_147 : decode cX10_changes 147 = .ok (.if_icmp .ge 75, 3) := by decide +kernel
theorem dX10_changes_150 : decode cX10_changes 150 = .ok (.aload_n 0, 1) := by decide +kernel
theorem dX10_changes_151 : decode cX10_changes 151 = .ok (.getfield 35, 3) := by decide +kernel
theorem dX10_changes_154 : decode cX10_changes 154 = .ok (.iload 7, 2) := by decide +kernel
theorem dX10_changes_156 : decode cX10_changes 156 = .ok (.iaload, 1) := by decide +kernel
theorem dX10_changes_157 : decode cX10_changes 157 = .ok (.ldc 160, 2) := by decide +kernel
theorem dX10_changes_159 : decode cX10_changes 159 = .ok (.if_icmp .ne 8, 3) := by decide +kernel
theorem dX10_changes_162 : decode cX10_changes 162 = .ok (.ldc 160, 2) := by decide +kernel
theorem dX10_changes_164 : decode cX10_changes 164 = .ok (.goto 19, 3) := by decide +kernel
theorem dX10_changes_167 : decode cX10_changes 167 = .ok (.aload_n 0, 1) := by decide +kernel
theorem dX10_changes_168 : decode cX10_changes 168 = .ok (.getfield 35, 3) := by decide +kernel
theorem dX10_changes_171 : decode cX10_changes 171 = .ok (.iload 7, 2) := by decide +kernel
theorem dX10_changes_173 : decode cX10_changes 173 = .ok (.iaload, 1) := by decide +kernel
theorem dX10_changes_174 : decode cX10_changes 174 = .ok (.iload 7, 2) := by decide +kernel
theorem dX10_changes_176 : decode cX10_changes 176 = .ok (.iload 6, 2) := by decide +kernel
theorem dX10_changes_178 : decode cX10_changes 178 = .ok (.ixor, 1) := by decide +kernel
theorem dX10_changes_179 : decode cX10_changes 179 = .ok (.invokestatic 112, 3) := by decide +kernel
theorem dX10_changes_182 : decode cX10_changes 182 = .ok (.iadd, 1) := by decide +kernel
theorem dX10_changes_183 : decode cX10_changes 183 = .ok (.istore 8, 2) := by decide +kernel
theorem dX10_changes_185 : decode cX10_changes 185 = .ok (.aload_n 0, 1) := by decide +kernel
theorem dX10_changes_186 : decode cX10_changes 186 = .ok (.getfield 38, 3) := by decide +kernel
theorem dX10_changes_189 : decode cX10_changes 189 = .ok (.iload 6, 2) := by decide +kernel
theorem dX10_changes_191 : decode cX10_changes 191 = .ok (.iload 8, 2) := by decide +kernel
theorem dX10_changes_193 : decode cX10_changes 193 = .ok (.aload_n 0, 1) := by decide +kernel
theorem dX10_changes_194 : decode cX10_changes 194 = .ok (.getfield 38, 3) := by decide +kernel
theorem dX10_changes_197 : decode cX10_changes 197 = .ok (.iload 6, 2) := by decide +kernel
theorem dX10_changes_199 : decode cX10_changes 199 = .ok (.iaload, 1) := by decide +kernel
theorem dX10_changes_200 : decode cX10_changes 200 = .ok (.if_icmp .ge 8, 3) := by decide +kernel
theorem dX10_changes_203 : decode cX10_changes 203 = .ok (.iload 8, 2) := by decide +kernel
theorem dX10_changes_205 : decode cX10_changes 205 = .ok (.goto 10, 3) := by decide +kernel
theorem dX10_changes_208 : decode cX10_changes 208 = .ok (.aload_n 0, 1) := by decide +kernel
theorem dX10_changes_209 : decode cX10_changes 209 = .ok (.getfield 38, 3) := by decide +kernel
theorem dX10_changes_212 : decode cX10_changes 212 = .ok (.iload 6, 2) := by decide +kernel
theorem dX10_changes_214 : decode cX10_changes 214 = .ok (.iaload, 1) := by decide +kernel
theorem dX10_changes_215 : decode cX10_changes 215 = .ok (.iastore, 1) := by decide +kernel
theorem dX10_changes_216 : decode cX10_changes 216 = .ok (.iinc 7 1, 3) := by decide +kernel
theorem dX10_changes_219 : decode cX10_changes 219 = .ok (.goto (-75), 3) := by decide +kernel
theorem dX10_changes_222 : decode cX10_changes 222 = .ok (.iinc 6 1, 3) := by decide +kernel
theorem dX10_changes_225 : decode cX10_changes 225 = .ok (.goto (-124), 3) := by decide +kernel
theorem dX10_changes_228 : decode cX10_changes 228 = .ok (.iconst 0, 1) := by decide +kernel
theorem dX10_changes_229 : decode cX10_changes 229 = .ok (.istore 6, 2) := by decide +kernel
theorem dX10_changes_231 : decode cX10_changes 231 = .ok (.iload 6, 2) := by decide +kernel
theorem dX10_changes_233 : decode cX10_changes 233 = .ok (.iload_n 3, 1) := by decide +kernel
theorem dX10_changes_234 : decode cX10_changes 234 = .ok (.if_icmp .ge 23, 3) := by decide +kernel
theorem dX10_changes_237 : decode cX10_changes 237 = .ok (.aload_n 0, 1) := by decide +kernel
theorem dX10_changes_238 : decode cX10_changes 238 = .ok (.getfield 35, 3) := by decide +kernel
theorem dX10_changes_241 : decode cX10_changes 241 = .ok (.iload 6, 2) := by decide +kernel
theorem dX10_changes_243 : decode cX10_changes 243 = .ok (.aload_n 0, 1) := by decide +kernel
theorem dX10_changes_244 : decode cX10_changes 244 = .ok (.getfield 38, 3) := by decide +kernel
theorem dX10_changes_247 : decode cX10_changes 247 = .ok (.iload 6, 2) := by decide +kernel
theorem dX10_changes_249 : decode cX10_changes 249 = .ok (.iaload, 1) := by decide +kernel
theorem dX10_changes_250 : decode cX10_changes 250 = .ok (.iastore, 1) := by decide +kernel
theorem dX10_changes_251 : decode cX10_changes 251 = .ok (.iinc 6 1, 3) := by decide +kernel
theorem dX10_changes_254 : decode cX10_changes 254 = .ok (.goto (-23), 3) := by decide +kernel
theorem dX10_changes_257 : decode cX10_changes 257 = .ok (.iinc 4 1, 3) := by decide +kernel
theorem dX10_changes_260 : decode cX10_changes 260 = .ok (.goto (-181), 3) := by decide +kernel
theorem dX10_changes_263 : decode cX10_changes 263 = .ok (.bipush (-6), 2) := by decide +kernel
theorem dX10_changes_265 : decode cX10_changes 265 = .ok (.istore 4, 2) := by decide +kernel
theorem dX10_changes_267 : decode cX10_changes 267 = .ok (.ldc 160, 2) := by decide +kernel
theorem dX10_changes_269 : decode cX10_changes 269 = .ok (.istore 5, 2) := by decide +kernel
theorem dX10_changes_271 : decode cX10_changes 271 = .ok (.iconst 0, 1) := by decide +kernel
theorem dX10_changes_272 : decode cX10_changes 272 = .ok (.istore 6, 2) := by decide +kernel
theorem dX10_changes_274 : decode cX10_changes 274 = .ok (.iload 6, 2) := by decide +kernel
theorem dX10_changes_276 : decode cX10_changes 276 = .ok (.iload_n 3, 1) := by decide +kernel
theorem dX10_changes_277 : decode cX10_changes 277 = .ok (.if_icmp .ge 56, 3) := by decide +kernel
theorem dX10_changes_280 : decode cX10_changes 280 = .ok (.aload_n 0, 1) := by decide +kernel
theorem dX10_changes_281 : decode cX10_changes 281 = .ok (.getfield 35, 3) := by decide +kernel
theorem dX10_changes_284 : decode cX10_changes 284 = .ok (.iload 6, 2) := by decide +kernel
theorem dX10_changes_286 : decode cX10_changes 286 = .ok (.iaload, 1) := by decide +kernel
theorem dX10_changes_287 : decode cX10_changes 287 = .ok (.iload 5, 2) := by decide +kernel
theorem dX10_changes_289 : decode cX10_changes 289 = .ok (.if_icmp .ge 8, 3) := by decide +kernel
theorem dX10_changes_292 : decode cX10_changes 292 = .ok (.iload 6, 2) := by decide +kernel
theorem dX10_changes_294 : decode cX10_changes 294 = .ok (.goto 5, 3) := by decide +kernel
theorem dX10_changes_297 : decode cX10_changes 297 = .ok (.iload 4, 2) := by decide +kernel
theorem dX10_changes_299 : decode cX10_changes 299 = .ok (.istore 4, 2) := by decide +kernel
theorem dX10_changes_301 : decode cX10_changes 301 = .ok (.aload_n 0, 1) := by decide +kernel
theorem dX10_changes_302 : decode cX10_changes 302 = .ok (.getfield 35, 3) := by decide +kernel
theorem dX10_changes_305 : decode cX10_changes 305 = .ok (.iload 6, 2) := by decide +kernel
theorem dX10_changes_307 : decode cX10_changes 307 = .ok (.iaload, 1) := by decide +kernel
theorem dX10_changes_308 : decode cX10_changes 308 = .ok (.iload 5, 2) := by decide +kernel
theorem dX10_changes_310 : decode cX10_changes 310 = .ok (.if_icmp .ge 13, 3) := by decide +kernel
theorem dX10_changes_313 : decode cX10_changes 313 = .ok (.aload_n 0, 1) := by decide +kernel
theorem dX10_changes_314 : decode cX10_changes 314 = .ok (.getfield 35, 3) := by decide +kernel
theorem dX10_changes_317 : decode cX10_changes 317 = .ok (.iload 6, 2) := by decide +kernel
theorem dX10_changes_319 : decode cX10_changes 319 = .ok (.iaload, 1) := by decide +kernel
theorem dX10_changes_320 : decode cX10_changes 320 = .ok (.goto 5, 3) := by decide +kernel
theorem dX10_changes_323 : decode cX10_changes 323 = .ok (.iload 5, 2) := by decide +kernel
theorem dX10_changes_325 : decode cX10_changes 325 = .ok (.istore 5, 2) := by decide +kernel
theorem dX10_changes_327 : decode cX10_changes 327 = .ok (.iinc 6 1, 3) := by decide +kernel
theorem dX10_changes_330 : decode cX10_changes 330 = .ok (.goto (-56), 3) := by decide +kernel
theorem dX10_changes_333 : decode cX10_changes 333 = .ok (.iload 4, 2) := by decide +kernel
theorem dX10_changes_335 : decode cX10_changes 335 = .ok (.ifCond .lt 8, 3) := by decide +kernel
theorem dX10_changes_338 : decode cX10_changes 338 = .ok (.iload_n 2, 1) := by decide +kernel
theorem dX10_changes_339 : decode cX10_changes 339 = .ok (.iconst 1, 1) := by decide +kernel
theorem dX10_changes_340 : decode cX10_changes 340 = .ok (.if_icmp .ne 8, 3) := by decide +kernel
theorem dX10_changes_343 : decode cX10_changes 343 = .ok (.iload 4, 2) := by decide +kernel
theorem dX10_changes_345 : decode cX10_changes 345 = .ok (.goto 5, 3) := by decide +kernel
theorem dX10_changes_348 : decode cX10_changes 348 = .ok (.iload 5, 2) := by decide +kernel
theorem dX10_changes_350 : decode cX10_changes 350 = .ok (.ireturn, 1) := by decide +kernel
theorem dX10_shifts_0 : decode cX10_shifts 0 = .ok (.aload_n 0, 1) := by decide +kernel
theorem dX10_shifts_1 : decode cX10_shifts 1 = .ok (.iload_n 1, 1) := by decide +kernel
theorem dX10_shifts_2 : decode cX10_shifts 2 = .ok (.iload_n 2, 1) := by decide +kernel
theorem dX10_shifts_3 : decode cX10_shifts 3 = .ok (.invokevirtual 146, 3) := by decide +kernel
theorem dX10_shifts_6 : decode cX10_shifts 6 = .ok (.ifCond .ne 5, 3) := by decide +kernel
theorem dX10_shifts_9 : decode cX10_shifts 9 = .ok (.iconst (-1), 1) := by decide +kernel
theorem dX10_shifts_10 : decode cX10_shifts 10 = .ok (.ireturn, 1) := by decide +kernel
theorem dX10_shifts_11 : decode cX10_shifts 11 = .ok (.aload_n 0, 1) := by decide +kernel
theorem dX10_shifts_12 : decode cX10_shifts 12 = .ok (.invokevirtual 84, 3) := by decide +kernel
theorem dX10_shifts_15 : decode cX10_shifts 15 = .ok (.ifCond .lt 6, 3) := by decide +kernel
theorem dX10_shifts_18 : decode cX10_shifts 18 = .ok (.bipush (-5), 2) := by decide +kernel
theorem dX10_shifts_20 : decode cX10_shifts 20 = .ok (.ireturn, 1) := by decide +kernel
theorem dX10_shifts_21 : decode cX10_shifts 21 = .ok (.aload_n 0, 1) := by decide +kernel
theorem dX10_shifts_22 : decode cX10_shifts 22 = .ok (.getfield 77, 3) := by decide +kernel
theorem dX10_shifts_25 : decode cX10_shifts 25 = .ok (.iconst 2, 1) := by decide +kernel
theorem dX10_shifts_26 : decode cX10_shifts 26 = .ok (.idiv, 1) := by decide +kernel
theorem dX10_shifts_27 : decode cX10_shifts 27 = .ok (.istore_n 3, 1) := by decide +kernel
theorem dX10_shifts_28 : decode cX10_shifts 28 = .ok (.iconst 0, 1) := by decide +kernel
theorem dX10_shifts_29 : decode cX10_shifts 29 = .ok (.istore 4, 2) := by decide +kernel
theorem dX10_shifts_31 : decode cX10_shifts 31 = .ok (.iconst 0, 1) := by decide +kernel
theorem dX10_shifts_32 : decode cX10_shifts 32 = .ok (.istore 5, 2) := by decide +kernel
theorem dX10_shifts_34 : decode cX10_shifts 34 = .ok (.iload 5, 2) := by decide +kernel
theorem dX10_shifts_36 : decode cX10_shifts 36 = .ok (.iload_n 3, 1) := by decide +kernel
theorem dX10_shifts_37 : decode cX10_shifts 37 = .ok (.if_icmp .ge 150, 3) := by decide +kernel
theorem dX10_shifts_40 : decode cX10_shifts 40 = .ok (.iconst 1, 1) := by decide +kernel
theorem dX10_shifts_41 : decode cX10_shifts 41 = .ok (.istore 6, 2) := by decide +kernel
theorem dX10_shifts_43 : decode cX10_shifts 43 = .ok (.iconst 0, 1) := by decide +kernel
theorem dX10_shifts_44 : decode cX10_shifts 44 = .ok (.istore 7, 2) := by decide +kernel
theorem dX10_shifts_46 : decode cX10_shifts 46 = .ok (.iload 7, 2) := by decide +kernel
theorem dX10_shifts_48 : decode cX10_shifts 48 = .ok (.iload_n 3, 1) := by decide +kernel
theorem dX10_shifts_49 : decode cX10_shifts 49 = .ok (.iload 5, 2) := by decide +kernel
theorem dX10_shifts_51 : decode cX10_shifts 51 = .ok (.iadd, 1) := by decide +kernel
theorem dX10_shifts_52 : decode cX10_shifts 52 = .ok (.if_icmp .ge 111, 3) := by decide +kernel
theorem dX10_shifts_55 : decode cX10_shifts 55 = .ok (.iload 6, 2) := by decide +kernel
theorem dX10_shifts_57 : decode cX10_shifts 57 = .ok (.ifCond .eq 106, 3) := by decide +kernel
theorem dX10_shifts_60 : decode cX10_shifts 60 = .ok (.iload 7, 2) := by decide +kernel
theorem dX10_shifts_62 : decode cX10_shifts 62 = .ok (.iload_n 3, 1) := by decide +kernel
theorem dX10_shifts_63 : decode cX10_shifts 63 = .ok (.if_icmp .ge 44, 3) := by decide +kernel
theorem dX10_shifts_66 : decode cX10_shifts 66 = .ok (.iload 7, 2) := by decide +kernel
theorem dX10_shifts_68 : decode cX10_shifts 68 = .ok (.iload 5, 2) := by decide +kernel
theorem dX10_shifts_70 : decode cX10_shifts 70 = .ok (.if_icmp .lt 37, 3) := by decide +kernel
theorem dX10_shifts_73 : decode cX10_shifts 73 = .ok (.aload_n 0, 1) := by decide +kernel
theorem dX10_shifts_74 : decode cX10_shifts 74 = .ok (.iload_n 1, 1) := by decide +kernel
theorem dX10_shifts_75 : decode cX10_shifts 75 = .ok (.aload_n 0, 1) := by decide +kernel
theorem dX10_shifts_76 : decode cX10_shifts 76 = .ok (.iload 7, 2) := by decide +kernel
theorem dX10_shifts_78 : decode cX10_shifts 78 = .ok (.invokevirtual 161, 3) := by decide +kernel
theorem dX10_shifts_81 : decode cX10_shifts 81 = .ok (.iload_n 2, 1) := by decide +kernel
theorem dX10_shifts_82 : decode cX10_shifts 82 = .ok (.aload_n 0, 1) := by decide +kernel
theorem dX10_shifts_83 : decode cX10_shifts 83 = .ok (.iload 7, 2) := by decide +kernel
theorem dX10_shifts_85 : decode cX10_shifts 85 = .ok (.iload 5, 2) := by decide +kernel
theorem dX10_shifts_87 : decode cX10_shifts 87 = .ok (.isub, 1) := by decide +kernel
theorem dX10_shifts_88 : decode cX10_shifts 88 = .ok (.invokevirtual 161, 3) := by decide +kernel
theorem dX10_shifts_91 : decode cX10_shifts 91 = .ok (.invokevirtual 156, 3) := by decide +kernel
theorem dX10_shifts_94 : decode cX10_shifts 94 = .ok (.ifCond .lt 7, 3) := by decide +kernel
theorem dX10_shifts_97 : decode cX10_shifts 97 = .ok (.iconst 1, 1) := by decide +kernel
theorem dX10_shifts_98 : decode cX10_shifts 98 = .ok (.goto 4, 3) := by decide +kernel
theorem dX10_shifts_101 : decode cX10_shifts 101 = .ok (.iconst 0, 1) := by decide +kernel
theorem dX10_shifts_102 : decode cX10_shifts 102 = .ok (.istore 6, 2) := by decide +kernel
theorem dX10_shifts_104 : decode cX10_shifts 104 = .ok (.goto 53, 3) := by decide +kernel
theorem dX10_shifts_107 : decode cX10_shifts 107 = .ok (.iload 7, 2) := by decide +kernel
theorem dX10_shifts_109 : decode cX10_shifts 109 = .ok (.iload_n 3, 1) := by decide +kernel
theorem dX10_shifts_110 : decode cX10_shifts 110 = .ok (.if_icmp .ge 20, 3) := by decide +kernel
theorem dX10_shifts_113 : decode cX10_shifts 113 = .ok (.aload_n 0, 1) := by decide +kernel
theorem dX10_shifts_114 : decode cX10_shifts 114 = .ok (.iload_n 1, 1) := by decide +kernel
theorem dX10_shifts_115 : decode cX10_shifts 115 = .ok (.aload_n 0, 1) := by decide +kernel
theorem dX10_shifts_116 : decode cX10_shifts 116 = .ok (.iload 7, 2) := by decide +kernel
theorem dX10_shifts_118 : decode cX10_shifts 118 = .ok (.invokevirtual 161, 3) := by decide +kernel
theorem dX10_shifts_121 : decode cX10_shifts 121 = .ok (.bipush (-6), 2) := by decide +kernel
theorem dX10_shifts_123 : decode cX10_shifts 123 = .ok (.iconst 0, 1) := by decide +kernel
theorem dX10_shifts_124 : decode cX10_shifts 124 = .ok (.invokevirtual 156, 3) := by decide +kernel
theorem dX10_shifts_127 : decode cX10_shifts 127 = .ok (.goto 20, 3) := by decide +kernel
theorem dX10_shifts_130 : decode cX10_shifts 130 = .ok (.aload_n 0, 1) := by decide +kernel
theorem dX10_shifts_131 : decode cX10_shifts 131 = .ok (.iload_n 2, 1) := by decide +kernel
theorem dX10_shifts_132 : decode cX10_shifts 132 = .ok (.aload_n 0, 1) := by decide +kernel
theorem dX10_shifts_133 : decode cX10_shifts 133 = .ok (.iload 7, 2) := by decide +kernel
theorem dX10_shifts_135 : decode cX10_shifts 135 = .ok (.iload 5, 2) := by decide +kernel
theorem dX10_shifts_137 : decode cX10_shifts 137 = .ok (.isub, 1) := by decide +kernel
theorem dX10_shifts_138 : decode cX10_shifts 138 = .ok (.invokevirtual 161, 3) := by decide +kernel
theorem dX10_shifts_141 : decode cX10_shifts 141 = .ok (.bipush (-6), 2) := by decide +kernel
theorem dX10_shifts_143 : decode cX10_shifts 143 = .ok (.iconst 0, 1) := by decide +kernel
theorem dX10_shifts_144 : decode cX10_shifts 144 = .ok (.invokevirtual 156, 3) := by decide +kernel
theorem dX10_shifts_147 : decode cX10_shifts 147 = .ok (.ifCond .lt 7, 3) := by decide +kernel
theorem dX10_shifts_150 : decode cX10_shifts 150 = .ok (.iconst 1, 1) := by decide +kernel
theorem dX10_shifts_151 : decode cX10_shifts 151 = .ok (.goto 4, 3) := by decide +kernel
theorem dX10_shifts_154 : decode cX10_shifts 154 = .ok (.iconst 0, 1) := by decide +kernel
theorem dX10_shifts_155 : decode cX10_shifts 155 = .ok (.istore 6, 2) := by decide +kernel
theorem dX10_shifts_157 : decode cX10_shifts 157 = .ok (.iinc 7 1, 3) := by decide +kernel
theorem dX10_shifts_160 : decode cX10_shifts 160 = .ok (.goto (-114), 3) := by decide +kernel
theorem dX10_shifts_163 : decode cX10_shifts 163 = .ok (.iload 4, 2) := by decide +kernel
theorem dX10_shifts_165 : decode cX10_shifts 165 = .ok (.iload 6, 2) := by decide +kernel
theorem dX10_shifts_167 : decode cX10_shifts 167 = .ok (.ifCond .eq 10, 3) := by decide +kernel
theorem dX10_shifts_170 : decode cX10_shifts 170 = .ok (.iconst 1, 1) := by decide +kernel
theorem dX10_shifts_171 : decode cX10_shifts 171 = .ok (.iload 5, 2) := by decide +kernel
theorem dX10_shifts_173 : decode cX10_shifts 173 = .ok (.ishl, 1) := by decide +kernel
theorem dX10_shifts_174 : decode cX10_shifts 174 = .ok (.goto 4, 3) := by decide +kernel
theorem dX10_shifts_177 : decode cX10_shifts 177 = .ok (.iconst 0, 1) := by decide +kernel
theorem dX10_shifts_178 : decode cX10_shifts 178 = .ok (.ior, 1) := by decide +kernel
theorem dX10_shifts_179 : decode cX10_shifts 179 = .ok (.istore 4, 2) := by decide +kernel
theorem dX10_shifts_181 : decode cX10_shifts 181 = .ok (.iinc 5 1, 3) := by decide +kernel
theorem dX10_shifts_184 : decode cX10_shifts 184 = .ok (.goto (-150), 3) := by decide +kernel
theorem dX10_shifts_187 : decode cX10_shifts 187 = .ok (.iload 4, 2) := by decide +kernel
theorem dX10_shifts_189 : decode cX10_shifts 189 = .ok (.ireturn, 1) := by decide +kernel
theorem dX10_seen_0 : decode cX10_seen 0 = .ok (.aload_n 0, 1) := by decide +kernel
theorem dX10_seen_1 : decode cX10_seen 1 = .ok (.iload_n 1, 1) := by decide +kernel
theorem dX10_seen_2 : decode cX10_seen 2 = .ok (.invokevirtual 73, 3) := by decide +kernel
theorem dX10_seen_5 : decode cX10_seen 5 = .ok (.ifCond .ne 5, 3) := by decide +kernel
theorem dX10_seen_8 : decode cX10_seen 8 = .ok (.iconst (-1), 1) := by decide +kernel
theorem dX10_seen_9 : decode cX10_seen 9 = .ok (.ireturn, 1) := by decide +kernel
theorem dX10_seen_10 : decode cX10_seen 10 = .ok (.iload_n 2, 1) := by decide +kernel
theorem dX10_seen_11 : decode cX10_seen 11 = .ok (.iconst 1, 1) := by decide +kernel
theorem dX10_seen_12 : decode cX10_seen 12 = .ok (.sipush 200, 3) := by decide +kernel
theorem dX10_seen_15 : decode cX10_seen 15 = .ok (.invokestatic 69, 3) := by decide +kernel
theorem dX10_seen_18 : decode cX10_seen 18 = .ok (.ifCond .ne 6, 3) := by decide +kernel
theorem dX10_seen_21 : decode cX10_seen 21 = .ok (.bipush (-2), 2) := by decide +kernel
theorem dX10_seen_23 : decode cX10_seen 23 = .ok (.ireturn, 1) := by decide +kernel
theorem dX10_seen_24 : decode cX10_seen 24 = .ok (.aload_n 0, 1) := by decide +kernel
theorem dX10_seen_25 : decode cX10_seen 25 = .ok (.getfield 66, 3) := by decide +kernel
theorem dX10_seen_28 : decode cX10_seen 28 = .ok (.bipush 8, 2) := by decide +kernel
theorem dX10_seen_30 : decode cX10_seen 30 = .ok (.if_icmp .ne 6, 3) := by decide +kernel
theorem dX10_seen_33 : decode cX10_seen 33 = .ok (.bipush (-4), 2) := by decide +kernel
theorem dX10_seen_35 : decode cX10_seen 35 = .ok (.ireturn, 1) := by decide +kernel
theorem dX10_seen_36 : decode cX10_seen 36 = .ok (.aload_n 0, 1) := by decide +kernel
theorem dX10_seen_37 : decode cX10_seen 37 = .ok (.getfield 29, 3) := by decide +kernel
theorem dX10_seen_40 : decode cX10_seen 40 = .ok (.iconst 2, 1) := by decide +kernel
theorem dX10_seen_41 : decode cX10_seen 41 = .ok (.aload_n 0, 1) := by decide +kernel
theorem dX10_seen_42 : decode cX10_seen 42 = .ok (.getfield 66, 3) := by decide +kernel
theorem dX10_seen_45 : decode cX10_seen 45 = .ok (.imul, 1) := by decide +kernel
theorem dX10_seen_46 : decode cX10_seen 46 = .ok (.iload_n 1, 1) := by decide +kernel
theorem dX10_seen_47 : decode cX10_seen 47 = .ok (.iastore, 1) := by decide +kernel
theorem dX10_seen_48 : decode cX10_seen 48 = .ok (.aload_n 0, 1) := by decide +kernel
theorem dX10_seen_49 : decode cX10_seen 49 = .ok (.getfield 29, 3) := by decide +kernel
theorem dX10_seen_52 : decode cX10_seen 52 = .ok (.iconst 2, 1) := by decide +kernel
theorem dX10_seen_53 : decode cX10_seen 53 = .ok (.aload_n 0, 1) := by decide +kernel
theorem dX10_seen_54 : decode cX10_seen 54 = .ok (.getfield 66, 3) := by decide +kernel
theorem dX10_seen_57 : decode cX10_seen 57 = .ok (.imul, 1) := by decide +kernel
theorem dX10_seen_58 : decode cX10_seen 58 = .ok (.iconst 1, 1) := by decide +kernel
theorem dX10_seen_59 : decode cX10_seen 59 = .ok (.iadd, 1) := by decide +kernel
theorem dX10_seen_60 : decode cX10_seen 60 = .ok (.iload_n 2, 1) := by decide +kernel
theorem dX10_seen_61 : decode cX10_seen 61 = .ok (.iastore, 1) := by decide +kernel
theorem dX10_seen_62 : decode cX10_seen 62 = .ok (.aload_n 0, 1) := by decide +kernel
theorem dX10_seen_63 : decode cX10_seen 63 = .ok (.dup, 1) := by decide +kernel
theorem dX10_seen_64 : decode cX10_seen 64 = .ok (.getfield 66, 3) := by decide +kernel
theorem dX10_seen_67 : decode cX10_seen 67 = .ok (.iconst 1, 1) := by decide +kernel
theorem dX10_seen_68 : decode cX10_seen 68 = .ok (.iadd, 1) := by decide +kernel
theorem dX10_seen_69 : decode cX10_seen 69 = .ok (.putfield 66, 3) := by decide +kernel
theorem dX10_seen_72 : decode cX10_seen 72 = .ok (.aload_n 0, 1) := by decide +kernel
theorem dX10_seen_73 : decode cX10_seen 73 = .ok (.getfield 66, 3) := by decide +kernel
theorem dX10_seen_76 : decode cX10_seen 76 = .ok (.ireturn, 1) := by decide +kernel
theorem dX10_forget_0 : decode cX10_forget 0 = .ok (.aload_n 0, 1) := by decide +kernel
theorem dX10_forget_1 : decode cX10_forget 1 = .ok (.getfield 66, 3) := by decide +kernel
theorem dX10_forget_4 : decode cX10_forget 4 = .ok (.istore_n 1, 1) := by decide +kernel
theorem dX10_forget_5 : decode cX10_forget 5 = .ok (.aload_n 0, 1) := by decide +kernel
theorem dX10_forget_6 : decode cX10_forget 6 = .ok (.iconst 0, 1) := by decide +kernel
theorem dX10_forget_7 : decode cX10_forget 7 = .ok (.putfield 66, 3) := by decide +kernel
theorem dX10_forget_10 : decode cX10_forget 10 = .ok (.iload_n 1, 1) := by decide +kernel
theorem dX10_forget_11 : decode cX10_forget 11 = .ok (.ireturn, 1) := by decide +kernel
theorem dX10_fits_0 : decode cX10_fits 0 = .ok (.aload_n 0, 1) := by decide +kernel
theorem dX10_fits_1 : decode cX10_fits 1 = .ok (.iload_n 1, 1) := by decide +kernel
theorem dX10_fits_2 : decode cX10_fits 2 = .ok (.invokevirtual 153, 3) := by decide +kernel
theorem dX10_fits_5 : decode cX10_fits 5 = .ok (.istore_n 2, 1) := by decide +kernel
theorem dX10_fits_6 : decode cX10_fits 6 = .ok (.iconst 0, 1) := by decide +kernel
theorem dX10_fits_7 : decode cX10_fits 7 = .ok (.istore_n 3, 1) := by decide +kernel
theorem dX10_fits_8 : decode cX10_fits 8 = .ok (.iload_n 3, 1) := by decide +kernel
theorem dX10_fits_9 : decode cX10_fits 9 = .ok (.aload_n 0, 1) := by decide +kernel
theorem dX10_fits_10 : decode cX10_fits 10 = .ok (.getfield 66, 3) := by decide +kernel
theorem dX10_fits_13 : decode cX10_fits 13 = .ok (.if_icmp .ge 49, 3) := by decide +kernel
theorem dX10_fits_16 : decode cX10_fits 16 = .ok (.iload_n 2, 1) := by decide +kernel
theorem dX10_fits_17 : decode cX10_fits 17 = .ok (.ifCond .eq 45, 3) := by decide +kernel
theorem dX10_fits_20 : decode cX10_fits 20 = .ok (.aload_n 0, 1) := by decide +kernel
theorem dX10_fits_21 : decode cX10_fits 21 = .ok (.aload_n 0, 1) := by decide +kernel
theorem dX10_fits_22 : decode cX10_fits 22 = .ok (.getfield 29, 3) := by decide +kernel
theorem dX10_fits_25 : decode cX10_fits 25 = .ok (.iconst 2, 1) := by decide +kernel
theorem dX10_fits_26 : decode cX10_fits 26 = .ok (.iload_n 3, 1) := by decide +kernel
theorem dX10_fits_27 : decode cX10_fits 27 = .ok (.imul, 1) := by decide +kernel
theorem dX10_fits_28 : decode cX10_fits 28 = .ok (.iaload, 1) := by decide +kernel
theorem dX10_fits_29 : decode cX10_fits 29 = .ok (.iload_n 1, 1) := by decide +kernel
theorem dX10_fits_30 : decode cX10_fits 30 = .ok (.aload_n 0, 1) := by decide +kernel
theorem dX10_fits_31 : decode cX10_fits 31 = .ok (.getfield 60, 3) := by decide +kernel
theorem dX10_fits_34 : decode cX10_fits 34 = .ok (.invokevirtual 99, 3) := by decide +kernel
theorem dX10_fits_37 : decode cX10_fits 37 = .ok (.aload_n 0, 1) := by decide +kernel
theorem dX10_fits_38 : decode cX10_fits 38 = .ok (.getfield 29, 3) := by decide +kernel
theorem dX10_fits_41 : decode cX10_fits 41 = .ok (.iconst 2, 1) := by decide +kernel
theorem dX10_fits_42 : decode cX10_fits 42 = .ok (.iload_n 3, 1) := by decide +kernel
theorem dX10_fits_43 : decode cX10_fits 43 = .ok (.imul, 1) := by decide +kernel
theorem dX10_fits_44 : decode cX10_fits 44 = .ok (.iconst 1, 1) := by decide +kernel
theorem dX10_fits_45 : decode cX10_fits 45 = .ok (.iadd, 1) := by decide +kernel
theorem dX10_fits_46 : decode cX10_fits 46 = .ok (.iaload, 1) := by decide +kernel
theorem dX10_fits_47 : decode cX10_fits 47 = .ok (.if_icmp .ne 7, 3) := by decide +kernel
theorem dX10_fits_50 : decode cX10_fits 50 = .ok (.iconst 1, 1) := by decide +kernel
theorem dX10_fits_51 : decode cX10_fits 51 = .ok (.goto 4, 3) := by decide +kernel
theorem dX10_fits_54 : decode cX10_fits 54 = .ok (.iconst 0, 1) := by decide +kernel
theorem dX10_fits_55 : decode cX10_fits 55 = .ok (.istore_n 2, 1) := by decide +kernel
theorem dX10_fits_56 : decode cX10_fits 56 = .ok (.iinc 3 1, 3) := by decide +kernel
theorem dX10_fits_59 : decode cX10_fits 59 = .ok (.goto (-51), 3) := by decide +kernel
theorem dX10_fits_62 : decode cX10_fits 62 = .ok (.iload_n 2, 1) := by decide +kernel
theorem dX10_fits_63 : decode cX10_fits 63 = .ok (.ireturn, 1) := by decide +kernel
theorem dX10_fit_0 : decode cX10_fit 0 = .ok (.iload_n 1, 1) := by decide +kernel
theorem dX10_fit_1 : decode cX10_fit 1 = .ok (.iconst 0, 1) := by decide +kernel
theorem dX10_fit_2 : decode cX10_fit 2 = .ok (.iconst 3, 1) := by decide +kernel
theorem dX10_fit_3 : decode cX10_fit 3 = .ok (.invokestatic 69, 3) := by decide +kernel
theorem dX10_fit_6 : decode cX10_fit 6 = .ok (.ifCond .ne 6, 3) := by decide +kernel
theorem dX10_fit_9 : decode cX10_fit 9 = .ok (.bipush (-2), 2) := by decide +kernel
theorem dX10_fit_11 : decode cX10_fit 11 = .ok (.ireturn, 1) := by decide +kernel
theorem dX10_fit_12 : decode cX10_fit 12 = .ok (.iconst 0, 1) := by decide +kernel
theorem dX10_fit_13 : decode cX10_fit 13 = .ok (.istore_n 2, 1) := by decide +kernel
theorem dX10_fit_14 : decode cX10_fit 14 = .ok (.iconst 0, 1) := by decide +kernel
theorem dX10_fit_15 : decode cX10_fit 15 = .ok (.istore_n 3, 1) := by decide +kernel
theorem dX10_fit_16 : decode cX10_fit 16 = .ok (.iconst 1, 1) := by decide +kernel
theorem dX10_fit_17 : decode cX10_fit 17 = .ok (.aload_n 0, 1) := by decide +kernel
theorem dX10_fit_18 : decode cX10_fit 18 = .ok (.getfield 7, 3) := by decide +kernel
theorem dX10_fit_21 : decode cX10_fit 21 = .ok (.ishl, 1) := by decide +kernel
theorem dX10_fit_22 : decode cX10_fit 22 = .ok (.iconst 1, 1) := by decide +kernel
theorem dX10_fit_23 : decode cX10_fit 23 = .ok (.isub, 1) := by decide +kernel
theorem dX10_fit_24 : decode cX10_fit 24 = .ok (.istore 4, 2) := by decide +kernel
theorem dX10_fit_26 : decode cX10_fit 26 = .ok (.bipush (-6), 2) := by decide +kernel
theorem dX10_fit_28 : decode cX10_fit 28 = .ok (.istore 5, 2) := by decide +kernel
theorem dX10_fit_30 : decode cX10_fit 30 = .ok (.iconst 0, 1) := by decide +kernel
theorem dX10_fit_31 : decode cX10_fit 31 = .ok (.istore 6, 2) := by decide +kernel
theorem dX10_fit_33 : decode cX10_fit 33 = .ok (.iload 6, 2) := by decide +kernel
theorem dX10_fit_35 : decode cX10_fit 35 = .ok (.iconst 1, 1) := by decide +kernel
theorem dX10_fit_36 : decode cX10_fit 36 = .ok (.aload_n 0, 1) := by decide +kernel
theorem dX10_fit_37 : decode cX10_fit 37 = .ok (.getfield 7, 3) := by decide +kernel
theorem dX10_fit_40 : decode cX10_fit 40 = .ok (.ishl, 1) := by decide +kernel
theorem dX10_fit_41 : decode cX10_fit 41 = .ok (.if_icmp .ge 46, 3) := by decide +kernel
theorem dX10_fit_44 : decode cX10_fit 44 = .ok (.aload_n 0, 1) := by decide +kernel
theorem dX10_fit_45 : decode cX10_fit 45 = .ok (.iload 6, 2) := by decide +kernel
theorem dX10_fit_47 : decode cX10_fit 47 = .ok (.invokevirtual 164, 3) := by decide +kernel
theorem dX10_fit_50 : decode cX10_fit 50 = .ok (.ifCond .eq 31, 3) := by decide +kernel
theorem dX10_fit_53 : decode cX10_fit 53 = .ok (.iload_n 2, 1) := by decide +kernel
theorem dX10_fit_54 : decode cX10_fit 54 = .ok (.ifCond .ne 8, 3) := by decide +kernel
theorem dX10_fit_57 : decode cX10_fit 57 = .ok (.iload 6, 2) := by decide +kernel
theorem dX10_fit_59 : decode cX10_fit 59 = .ok (.goto 5, 3) := by decide +kernel
theorem dX10_fit_62 : decode cX10_fit 62 = .ok (.iload 5, 2) := by decide +kernel
theorem dX10_fit_64 : decode cX10_fit 64 = .ok (.istore 5, 2) := by decide +kernel
theorem dX10_fit_66 : decode cX10_fit 66 = .ok (.iinc 2 1, 3) := by decide +kernel
theorem dX10_fit_69 : decode cX10_fit 69 = .ok (.iload_n 3, 1) := by decide +kernel
theorem dX10_fit_70 : decode cX10_fit 70 = .ok (.iload 6, 2) := by decide +kernel
theorem dX10_fit_72 : decode cX10_fit 72 = .ok (.ior, 1) := by decide +kernel
theorem dX10_fit_73 : decode cX10_fit 73 = .ok (.istore_n 3, 1) := by decide +kernel
theorem dX10_fit_74 : decode cX10_fit 74 = .ok (.iload 4, 2) := by decide +kernel
theorem dX10_fit_76 : decode cX10_fit 76 = .ok (.iload 6, 2) := by decide +kernel
theorem dX10_fit_78 : decode cX10_fit 78 = .ok (.iand, 1) := by decide +kernel
theorem dX10_fit_79 : decode cX10_fit 79 = .ok (.istore 4, 2) := by decide +kernel
theorem dX10_fit_81 : decode cX10_fit 81 = .ok (.iinc 6 1, 3) := by decide +kernel
theorem dX10_fit_84 : decode cX10_fit 84 = .ok (.goto (-51), 3) := by decide +kernel
theorem dX10_fit_87 : decode cX10_fit 87 = .ok (.iload_n 1, 1) := by decide +kernel
theorem dX10_fit_88 : decode cX10_fit 88 = .ok (.ifCond .ne 7, 3) := by decide +kernel
theorem dX10_fit_91 : decode cX10_fit 91 = .ok (.iload_n 2, 1) := by decide +kernel
theorem dX10_fit_92 : decode cX10_fit 92 = .ok (.goto 32, 3) := by decide +kernel
theorem dX10_fit_95 : decode cX10_fit 95 = .ok (.iload_n 1, 1) := by decide +kernel
theorem dX10_fit_96 : decode cX10_fit 96 = .ok (.iconst 1, 1) := by decide +kernel
theorem dX10_fit_97 : decode cX10_fit 97 = .ok (.if_icmp .ne 7, 3) := by decide +kernel
theorem dX10_fit_100 : decode cX10_fit 100 = .ok (.iload_n 3, 1) := by decide +kernel
theorem dX10_fit_101 : decode cX10_fit 101 = .ok (.goto 23, 3) := by decide +kernel
theorem dX10_fit_104 : decode cX10_fit 104 = .ok (.iload_n 1, 1) := by decide +kernel
theorem dX10_fit_105 : decode cX10_fit 105 = .ok (.iconst 2, 1) := by decide +kernel
theorem dX10_fit_106 : decode cX10_fit 106 = .ok (.if_icmp .ne 16, 3) := by decide +kernel
theorem dX10_fit_109 : decode cX10_fit 109 = .ok (.iload_n 2, 1) := by decide +kernel
theorem dX10_fit_110 : decode cX10_fit 110 = .ok (.ifCond .ne 7, 3) := by decide +kernel
theorem dX10_fit_113 : decode cX10_fit 113 = .ok (.iconst 0, 1) := by decide +kernel
theorem dX10_fit_114 : decode cX10_fit 114 = .ok (.goto 10, 3) := by decide +kernel
theorem dX10_fit_117 : decode cX10_fit 117 = .ok (.iload 4, 2) := by decide +kernel
theorem dX10_fit_119 : decode cX10_fit 119 = .ok (.goto 5, 3) := by decide +kernel
theorem dX10_fit_122 : decode cX10_fit 122 = .ok (.iload 5, 2) := by decide +kernel
theorem dX10_fit_124 : decode cX10_fit 124 = .ok (.ireturn, 1) := by decide +kernel
theorem dX10_ask_0 : decode cX10_ask 0 = .ok (.iload_n 1, 1) := by decide +kernel
theorem dX10_ask_1 : decode cX10_ask 1 = .ok (.iconst 0, 1) := by decide +kernel
theorem dX10_ask_2 : decode cX10_ask 2 = .ok (.iconst 1, 1) := by decide +kernel
theorem dX10_ask_3 : decode cX10_ask 3 = .ok (.invokestatic 69, 3) := by decide +kernel
theorem dX10_ask_6 : decode cX10_ask 6 = .ok (.ifCond .ne 6, 3) := by decide +kernel
theorem dX10_ask_9 : decode cX10_ask 9 = .ok (.bipush (-2), 2) := by decide +kernel
theorem dX10_ask_11 : decode cX10_ask 11 = .ok (.ireturn, 1) := by decide +kernel
theorem dX10_ask_12 : decode cX10_ask 12 = .ok (.bipush (-6), 2) := by decide +kernel
theorem dX10_ask_14 : decode cX10_ask 14 = .ok (.istore_n 2, 1) := by decide +kernel
theorem dX10_ask_15 : decode cX10_ask 15 = .ok (.ldc 160, 2) := by decide +kernel
theorem dX10_ask_17 : decode cX10_ask 17 = .ok (.istore_n 3, 1) := by decide +kernel
theorem dX10_ask_18 : decode cX10_ask 18 = .ok (.iconst 0, 1) := by decide +kernel
theorem dX10_ask_19 : decode cX10_ask 19 = .ok (.istore 4, 2) := by decide +kernel
theorem dX10_ask_21 : decode cX10_ask 21 = .ok (.iload 4, 2) := by decide +kernel
theorem dX10_ask_23 : decode cX10_ask 23 = .ok (.aload_n 0, 1) := by decide +kernel
theorem dX10_ask_24 : decode cX10_ask 24 = .ok (.getfield 7, 3) := by decide +kernel
theorem dX10_ask_27 : decode cX10_ask 27 = .ok (.if_icmp .ge 211, 3) := by decide +kernel
theorem dX10_ask_30 : decode cX10_ask 30 = .ok (.iconst 0, 1) := by decide +kernel
theorem dX10_ask_31 : decode cX10_ask 31 = .ok (.istore 5, 2) := by decide +kernel
theorem dX10_ask_33 : decode cX10_ask 33 = .ok (.iconst 0, 1) := by decide +kernel
theorem dX10_ask_34 : decode cX10_ask 34 = .ok (.istore 6, 2) := by decide +kernel
theorem dX10_ask_36 : decode cX10_ask 36 = .ok (.iload 6, 2) := by decide +kernel
theorem dX10_ask_38 : decode cX10_ask 38 = .ok (.aload_n 0, 1) := by decide +kernel
theorem dX10_ask_39 : decode cX10_ask 39 = .ok (.getfield 66, 3) := by decide +kernel
theorem dX10_ask_42 : decode cX10_ask 42 = .ok (.if_icmp .ge 35, 3) := by decide +kernel
theorem dX10_ask_45 : decode cX10_ask 45 = .ok (.iload 5, 2) := by decide +kernel
theorem dX10_ask_47 : decode cX10_ask 47 = .ok (.ifCond .ne 17, 3) := by decide +kernel
theorem dX10_ask_50 : decode cX10_ask 50 = .ok (.aload_n 0, 1) := by decide +kernel
theorem dX10_ask_51 : decode cX10_ask 51 = .ok (.getfield 29, 3) := by decide +kernel
theorem dX10_ask_54 : decode cX10_ask 54 = .ok (.iconst 2, 1) := by decide +kernel
theorem dX10_ask_55 : decode cX10_ask 55 = .ok (.iload 6, 2) := by decide +kernel
theorem dX10_ask_57 : decode cX10_ask 57 = .ok (.imul, 1) := by decide +kernel
theorem dX10_ask_58 : decode cX10_ask 58 = .ok (.iaload, 1) := by decide +kernel
theorem dX10_ask_59 : decode cX10_ask 59 = .ok (.iload 4, 2) := by decide +kernel
theorem dX10_ask_61 : decode cX10_ask 61 = .ok (.if_icmp .ne 7, 3) := by decide +kernel
theorem dX10_ask_64 : decode cX10_ask 64 = .ok (.iconst 1, 1) := by decide +kernel
theorem dX10_ask_65 : decode cX10_ask 65 = .ok (.goto 4, 3) := by decide +kernel
theorem dX10_ask_68 : decode cX10_ask 68 = .ok (.iconst 0, 1) := by decide +kernel
theorem dX10_ask_69 : decode cX10_ask 69 = .ok (.istore 5, 2) := by decide +kernel
theorem dX10_ask_71 : decode cX10_ask 71 = .ok (.iinc 6 1, 3) := by decide +kernel
theorem dX10_ask_74 : decode cX10_ask 74 = .ok (.goto (-38), 3) := by decide +kernel
theorem dX10_ask_77 : decode cX10_ask 77 = .ok (.iconst 0, 1) := by decide +kernel
theorem dX10_ask_78 : decode cX10_ask 78 = .ok (.istore 6, 2) := by decide +kernel
theorem dX10_ask_80 : decode cX10_ask 80 = .ok (.iconst 0, 1) := by decide +kernel
theorem dX10_ask_81 : decode cX10_ask 81 = .ok (.istore 7, 2) := by decide +kernel
theorem dX10_ask_83 : decode cX10_ask 83 = .ok (.iload 7, 2) := by decide +kernel
theorem dX10_ask_85 : decode cX10_ask 85 = .ok (.sipush 200, 3) := by decide +kernel
theorem dX10_ask_88 : decode cX10_ask 88 = .ok (.if_icmp .ge 17, 3) := by decide +kernel
theorem dX10_ask_91 : decode cX10_ask 91 = .ok (.aload_n 0, 1) := by decide +kernel
theorem dX10_ask_92 : decode cX10_ask 92 = .ok (.getfield 41, 3) := by decide +kernel
theorem dX10_ask_95 : decode cX10_ask 95 = .ok (.iload 7, 2) := by decide +kernel
theorem dX10_ask_97 : decode cX10_ask 97 = .ok (.iconst 0, 1) := by decide +kernel
theorem dX10_ask_98 : decode cX10_ask 98 = .ok (.iastore, 1) := by decide +kernel
theorem dX10_ask_99 : decode cX10_ask 99 = .ok (.iinc 7 1, 3) := by decide +kernel
theorem dX10_ask_102 : decode cX10_ask 102 = .ok (.goto (-19), 3) := by decide +kernel
theorem dX10_ask_105 : decode cX10_ask 105 = .ok (.iconst 0, 1) := by decide +kernel
theorem dX10_ask_106 : decode cX10_ask 106 = .ok (.istore 7, 2) := by decide +kernel
theorem dX10_ask_108 : decode cX10_ask 108 = .ok (.iload 7, 2) := by decide +kernel
theorem dX10_ask_110 : decode cX10_ask 110 = .ok (.iconst 1, 1) := by decide +kernel
theorem dX10_ask_111 : decode cX10_ask 111 = .ok (.aload_n 0, 1) := by decide +kernel
theorem dX10_ask_112 : decode cX10_ask 112 = .ok (.getfield 7, 3) := by decide +kernel
theorem dX10_ask_115 : decode cX10_ask 115 = .ok (.ishl, 1) := by decide +kernel
theorem dX10_ask_116 : decode cX10_ask 116 = .ok (.if_icmp .ge 74, 3) := by decide +kernel
theorem dX10_ask_119 : decode cX10_ask 119 = .ok (.iload 5, 2) := by decide +kernel
theorem dX10_ask_121 : decode cX10_ask 121 = .ok (.ifCond .ne 69, 3) := by decide +kernel
theorem dX10_ask_124 : decode cX10_ask 124 = .ok (.aload_n 0, 1) := by decide +kernel
theorem dX10_ask_125 : decode cX10_ask 125 = .ok (.iload 7, 2) := by decide +kernel
theorem dX10_ask_127 : decode cX10_ask 127 = .ok (.invokevirtual 164, 3) := by decide +kernel
theorem dX10_ask_130 : decode cX10_ask 130 = .ok (.ifCond .eq 54, 3) := by decide +kernel
theorem dX10_ask_133 : decode cX10_ask 133 = .ok (.aload_n 0, 1) := by decide +kernel
theorem dX10_ask_134 : decode cX10_ask 134 = .ok (.iload 4, 2) := by decide +kernel
theorem dX10_ask_136 : decode cX10_ask 136 = .ok (.iload 7, 2) := by decide +kernel
theorem dX10_ask_138 : decode cX10_ask 138 = .ok (.aload_n 0, 1) := by decide +kernel
theorem dX10_ask_139 : decode cX10_ask 139 = .ok (.getfield 60, 3) := by decide +kernel
theorem dX10_ask_142 : decode cX10_ask 142 = .ok (.invokevirtual 99, 3) := by decide +kernel
theorem dX10_ask_145 : decode cX10_ask 145 = .ok (.istore 8, 2) := by decide +kernel
theorem dX10_ask_147 : decode cX10_ask 147 = .ok (.aload_n 0, 1) := by decide +kernel
theorem dX10_ask_148 : decode cX10_ask 148 = .ok (.getfield 41, 3) := by decide +kernel
theorem dX10_ask_151 : decode cX10_ask 151 = .ok (.iload 8, 2) := by decide +kernel
theorem dX10_ask_153 : decode cX10_ask 153 = .ok (.dup2, 1) := by decide +kernel
theorem dX10_ask_154 : decode cX10_ask 154 = .ok (.iaload, 1) := by decide +kernel
theorem dX10_ask_155 : decode cX10_ask 155 = .ok (.iconst 1, 1) := by decide +kernel
theorem dX10_ask_156 : decode cX10_ask 156 = .ok (.iadd, 1) := by decide +kernel
theorem dX10_ask_157 : decode cX10_ask 157 = .ok (.iastore, 1) := by decide +kernel
theorem dX10_ask_158 : decode cX10_ask 158 = .ok (.aload_n 0, 1) := by decide +kernel
theorem dX10_ask_159 : decode cX10_ask 159 = .ok (.getfield 41, 3) := by decide +kernel
theorem dX10_ask_162 : decode cX10_ask 162 = .ok (.iload 8, 2) := by decide +kernel
theorem dX10_ask_164 : decode cX10_ask 164 = .ok (.iaload, 1) := by decide +kernel
theorem dX10_ask_165 : decode cX10_ask 165 = .ok (.iload 6, 2) := by decide +kernel
theorem dX10_ask_167 : decode cX10_ask 167 = .ok (.if_icmp .le 13, 3) := by decide +kernel
theorem dX10_ask_170 : decode cX10_ask 170 = .ok (.aload_n 0, 1) := by decide +kernel
theorem dX10_ask_171 : decode cX10_ask 171 = .ok (.getfield 41, 3) := by decide +kernel
theorem dX10_ask_174 : decode cX10_ask 174 = .ok (.iload 8, 2) := by decide +kernel
theorem dX10_ask_176 : decode cX10_ask 176 = .ok (.iaload, 1) := by decide +kernel
theorem dX10_ask_177 : decode cX10_ask 177 = .ok (.goto 5, 3) := by decide +kernel
theorem dX10_ask_180 : decode cX10_ask 180 = .ok (.iload 6, 2) := by decide +kernel
theorem dX10_ask_182 : decode cX10_ask 182 = .ok (.istore 6, 2) := by decide +kernel
theorem dX10_ask_184 : decode cX10_ask 184 = .ok (.iinc 7 1, 3) := by decide +kernel
theorem dX10_ask_187 : decode cX10_ask 187 = .ok (.goto (-79), 3) := by decide +kernel
theorem dX10_ask_190 : decode cX10_ask 190 = .ok (.iload 6, 2) := by decide +kernel
theorem dX10_ask_192 : decode cX10_ask 192 = .ok (.ifCond .le 13, 3) := by decide +kernel
theorem dX10_ask_195 : decode cX10_ask 195 = .ok (.iload 6, 2) := by decide +kernel
theorem dX10_ask_197 : decode cX10_ask 197 = .ok (.iload_n 3, 1) := by decide +kernel
theorem dX10_ask_198 : decode cX10_ask 198 = .ok (.if_icmp .ge 7, 3) := by decide +kernel
theorem dX10_ask_201 : decode cX10_ask 201 = .ok (.iconst 1, 1) := by decide +kernel
theorem dX10_ask_202 : decode cX10_ask 202 = .ok (.goto 4, 3) := by decide +kernel
theorem dX10_ask_205 : decode cX10_ask 205 = .ok (.iconst 0, 1) := by decide +kernel
theorem dX10_ask_206 : decode cX10_ask 206 = .ok (.istore 7, 2) := by decide +kernel
theorem dX10_ask_208 : decode cX10_ask 208 = .ok (.iload 7, 2) := by decide +kernel
theorem dX10_ask_210 : decode cX10_ask 210 = .ok (.ifCond .eq 8, 3) := by decide +kernel
theorem dX10_ask_213 : decode cX10_ask 213 = .ok (.iload 4, 2) := by decide +kernel
theorem dX10_ask_215 : decode cX10_ask 215 = .ok (.goto 4, 3) := by decide +kernel
theorem dX10_ask_218 : decode cX10_ask 218 = .ok (.iload_n 2, 1) := by decide +kernel
theorem dX10_ask_219 : decode cX10_ask 219 = .ok (.istore_n 2, 1) := by decide +kernel
theorem dX10_ask_220 : decode cX10_ask 220 = .ok (.iload 7, 2) := by decide +kernel
theorem dX10_ask_222 : decode cX10_ask 222 = .ok (.ifCond .eq 8, 3) := by decide +kernel
theorem dX10_ask_225 : decode cX10_ask 225 = .ok (.iload 6, 2) := by decide +kernel
theorem dX10_ask_227 : decode cX10_ask 227 = .ok (.goto 4, 3) := by decide +kernel
theorem dX10_ask_230 : decode cX10_ask 230 = .ok (.iload_n 3, 1) := by decide +kernel
theorem dX10_ask_231 : decode cX10_ask 231 = .ok (.istore_n 3, 1) := by decide +kernel
theorem dX10_ask_232 : decode cX10_ask 232 = .ok (.iinc 4 1, 3) := by decide +kernel
theorem dX10_ask_235 : decode cX10_ask 235 = .ok (.goto (-214), 3) := by decide +kernel
theorem dX10_ask_238 : decode cX10_ask 238 = .ok (.iload_n 2, 1) := by decide +kernel
theorem dX10_ask_239 : decode cX10_ask 239 = .ok (.ifCond .lt 7, 3) := by decide +kernel
theorem dX10_ask_242 : decode cX10_ask 242 = .ok (.iload_n 1, 1) := by decide +kernel
theorem dX10_ask_243 : decode cX10_ask 243 = .ok (.ifCond .ne 7, 3) := by decide +kernel
theorem dX10_ask_246 : decode cX10_ask 246 = .ok (.iload_n 2, 1) := by decide +kernel
theorem dX10_ask_247 : decode cX10_ask 247 = .ok (.goto 4, 3) := by decide +kernel
theorem dX10_ask_250 : decode cX10_ask 250 = .ok (.iload_n 3, 1) := by decide +kernel
theorem dX10_ask_251 : decode cX10_ask 251 = .ok (.ireturn, 1) := by decide +kernel
theorem dX10_borrow_0 : decode cX10_borrow 0 = .ok (.aload_n 0, 1) := by decide +kernel
theorem dX10_borrow_1 : decode cX10_borrow 1 = .ok (.iload_n 1, 1) := by decide +kernel
theorem dX10_borrow_2 : decode cX10_borrow 2 = .ok (.iload_n 2, 1) := by decide +kernel
theorem dX10_borrow_3 : decode cX10_borrow 3 = .ok (.invokevirtual 146, 3) := by decide +kernel
theorem dX10_borrow_6 : decode cX10_borrow 6 = .ok (.ifCond .ne 5, 3) := by decide +kernel
theorem dX10_borrow_9 : decode cX10_borrow 9 = .ok (.iconst (-1), 1) := by decide +kernel
theorem dX10_borrow_10 : decode cX10_borrow 10 = .ok (.ireturn, 1) := by decide +kernel
theorem dX10_borrow_11 : decode cX10_borrow 11 = .ok (.iload_n 3, 1) := by decide +kernel
theorem dX10_borrow_12 : decode cX10_borrow 12 = .ok (.iconst 1, 1) := by decide +kernel
theorem dX10_borrow_13 : decode cX10_borrow 13 = .ok (.bipush 9, 2) := by decide +kernel
theorem dX10_borrow_15 : decode cX10_borrow 15 = .ok (.invokestatic 69, 3) := by decide +kernel
theorem dX10_borrow_18 : decode cX10_borrow 18 = .ok (.ifCond .ne 6, 3) := by decide +kernel
theorem dX10_borrow_21 : decode cX10_borrow 21 = .ok (.bipush (-2), 2) := by decide +kernel
theorem dX10_borrow_23 : decode cX10_borrow 23 = .ok (.ireturn, 1) := by decide +kernel
theorem dX10_borrow_24 : decode cX10_borrow 24 = .ok (.aload_n 0, 1) := by decide +kernel
theorem dX10_borrow_25 : decode cX10_borrow 25 = .ok (.getfield 26, 3) := by decide +kernel
theorem dX10_borrow_28 : decode cX10_borrow 28 = .ok (.iload_n 1, 1) := by decide +kernel
theorem dX10_borrow_29 : decode cX10_borrow 29 = .ok (.iaload, 1) := by decide +kernel
theorem dX10_borrow_30 : decode cX10_borrow 30 = .ok (.iload_n 3, 1) := by decide +kernel
theorem dX10_borrow_31 : decode cX10_borrow 31 = .ok (.iadd, 1) := by decide +kernel
theorem dX10_borrow_32 : decode cX10_borrow 32 = .ok (.sipush 1000, 3) := by decide +kernel
theorem dX10_borrow_35 : decode cX10_borrow 35 = .ok (.if_icmp .ge 17, 3) := by decide +kernel
theorem dX10_borrow_38 : decode cX10_borrow 38 = .ok (.aload_n 0, 1) := by decide +kernel
theorem dX10_borrow_39 : decode cX10_borrow 39 = .ok (.getfield 26, 3) := by decide +kernel
theorem dX10_borrow_42 : decode cX10_borrow 42 = .ok (.iload_n 2, 1) := by decide +kernel
theorem dX10_borrow_43 : decode cX10_borrow 43 = .ok (.iaload, 1) := by decide +kernel
theorem dX10_borrow_44 : decode cX10_borrow 44 = .ok (.iload_n 3, 1) := by decide +kernel
theorem dX10_borrow_45 : decode cX10_borrow 45 = .ok (.isub, 1) := by decide +kernel
theorem dX10_borrow_46 : decode cX10_borrow 46 = .ok (.sipush (-1000), 3) := by decide +kernel
theorem dX10_borrow_49 : decode cX10_borrow 49 = .ok (.if_icmp .gt 6, 3) := by decide +kernel
theorem dX10_borrow_52 : decode cX10_borrow 52 = .ok (.bipush (-3), 2) := by decide +kernel
theorem dX10_borrow_54 : decode cX10_borrow 54 = .ok (.ireturn, 1) := by decide +kernel
theorem dX10_borrow_55 : decode cX10_borrow 55 = .ok (.aload_n 0, 1) := by decide +kernel
theorem dX10_borrow_56 : decode cX10_borrow 56 = .ok (.getfield 26, 3) := by decide +kernel
theorem dX10_borrow_59 : decode cX10_borrow 59 = .ok (.iload_n 1, 1) := by decide +kernel
theorem dX10_borrow_60 : decode cX10_borrow 60 = .ok (.dup2, 1) := by decide +kernel
theorem dX10_borrow_61 : decode cX10_borrow 61 = .ok (.iaload, 1) := by decide +kernel
theorem dX10_borrow_62 : decode cX10_borrow 62 = .ok (.iload_n 3, 1) := by decide +kernel
theorem dX10_borrow_63 : decode cX10_borrow 63 = .ok (.iadd, 1) := by decide +kernel
theorem dX10_borrow_64 : decode cX10_borrow 64 = .ok (.iastore, 1) := by decide +kernel
theorem dX10_borrow_65 : decode cX10_borrow 65 = .ok (.aload_n 0, 1) := by decide +kernel
theorem dX10_borrow_66 : decode cX10_borrow 66 = .ok (.getfield 26, 3) := by decide +kernel
theorem dX10_borrow_69 : decode cX10_borrow 69 = .ok (.iload_n 2, 1) := by decide +kernel
theorem dX10_borrow_70 : decode cX10_borrow 70 = .ok (.dup2, 1) := by decide +kernel
theorem dX10_borrow_71 : decode cX10_borrow 71 = .ok (.iaload, 1) := by decide +kernel
theorem dX10_borrow_72 : decode cX10_borrow 72 = .ok (.iload_n 3, 1) := by decide +kernel
theorem dX10_borrow_73 : decode cX10_borrow 73 = .ok (.isub, 1) := by decide +kernel
theorem dX10_borrow_74 : decode cX10_borrow 74 = .ok (.iastore, 1) := by decide +kernel
theorem dX10_borrow_75 : decode cX10_borrow 75 = .ok (.aload_n 0, 1) := by decide +kernel
theorem dX10_borrow_76 : decode cX10_borrow 76 = .ok (.getfield 26, 3) := by decide +kernel
theorem dX10_borrow_79 : decode cX10_borrow 79 = .ok (.iload_n 1, 1) := by decide +kernel
theorem dX10_borrow_80 : decode cX10_borrow 80 = .ok (.iaload, 1) := by decide +kernel
theorem dX10_borrow_81 : decode cX10_borrow 81 = .ok (.sipush 1000, 3) := by decide +kernel
theorem dX10_borrow_84 : decode cX10_borrow 84 = .ok (.iadd, 1) := by decide +kernel
theorem dX10_borrow_85 : decode cX10_borrow 85 = .ok (.ireturn, 1) := by decide +kernel
theorem dX10_teas_0 : decode cX10_teas 0 = .ok (.iconst 0, 1) := by decide +kernel
theorem dX10_teas_1 : decode cX10_teas 1 = .ok (.istore_n 1, 1) := by decide +kernel
theorem dX10_teas_2 : decode cX10_teas 2 = .ok (.iconst 0, 1) := by decide +kernel
theorem dX10_teas_3 : decode cX10_teas 3 = .ok (.istore_n 2, 1) := by decide +kernel
theorem dX10_teas_4 : decode cX10_teas 4 = .ok (.iload_n 2, 1) := by decide +kernel
theorem dX10_teas_5 : decode cX10_teas 5 = .ok (.aload_n 0, 1) := by decide +kernel
theorem dX10_teas_6 : decode cX10_teas 6 = .ok (.getfield 7, 3) := by decide +kernel
theorem dX10_teas_9 : decode cX10_teas 9 = .ok (.if_icmp .ge 28, 3) := by decide +kernel
theorem dX10_teas_12 : decode cX10_teas 12 = .ok (.iload_n 1, 1) := by decide +kernel
theorem dX10_teas_13 : decode cX10_teas 13 = .ok (.aload_n 0, 1) := by decide +kernel
theorem dX10_teas_14 : decode cX10_teas 14 = .ok (.getfield 26, 3) := by decide +kernel
theorem dX10_teas_17 : decode cX10_teas 17 = .ok (.iload_n 2, 1) := by decide +kernel
theorem dX10_teas_18 : decode cX10_teas 18 = .ok (.iaload, 1) := by decide +kernel
theorem dX10_teas_19 : decode cX10_teas 19 = .ok (.ifCond .eq 9, 3) := by decide +kernel
theorem dX10_teas_22 : decode cX10_teas 22 = .ok (.iconst 1, 1) := by decide +kernel
theorem dX10_teas_23 : decode cX10_teas 23 = .ok (.iload_n 2, 1) := by decide +kernel
theorem dX10_teas_24 : decode cX10_teas 24 = .ok (.ishl, 1) := by decide +kernel
theorem dX10_teas_25 : decode cX10_teas 25 = .ok (.goto 4, 3) := by decide +kernel
theorem dX10_teas_28 : decode cX10_teas 28 = .ok (.iconst 0, 1) := by decide +kernel
theorem dX10_teas_29 : decode cX10_teas 29 = .ok (.ior, 1) := by decide +kernel
theorem dX10_teas_30 : decode cX10_teas 30 = .ok (.istore_n 1, 1) := by decide +kernel
theorem dX10_teas_31 : decode cX10_teas 31 = .ok (.iinc 2 1, 3) := by decide +kernel
theorem dX10_teas_34 : decode cX10_teas 34 = .ok (.goto (-30), 3) := by decide +kernel
theorem dX10_teas_37 : decode cX10_teas 37 = .ok (.iconst 0, 1) := by decide +kernel
theorem dX10_teas_38 : decode cX10_teas 38 = .ok (.istore_n 2, 1) := by decide +kernel
theorem dX10_teas_39 : decode cX10_teas 39 = .ok (.iload_n 2, 1) := by decide +kernel
theorem dX10_teas_40 : decode cX10_teas 40 = .ok (.iconst 1, 1) := by decide +kernel
theorem dX10_teas_41 : decode cX10_teas 41 = .ok (.aload_n 0, 1) := by decide +kernel
theorem dX10_teas_42 : decode cX10_teas 42 = .ok (.getfield 7, 3) := by decide +kernel
theorem dX10_teas_45 : decode cX10_teas 45 = .ok (.ishl, 1) := by decide +kernel
theorem dX10_teas_46 : decode cX10_teas 46 = .ok (.if_icmp .ge 111, 3) := by decide +kernel
