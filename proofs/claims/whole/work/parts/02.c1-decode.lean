theorem dX6_nextOfSameSize_11 : decode cX6_nextOfSameSize 11 = .ok (.iload_n 0, 1) := by decide +kernel
theorem dX6_nextOfSameSize_12 : decode cX6_nextOfSameSize 12 = .ok (.iload_n 1, 1) := by decide +kernel
theorem dX6_nextOfSameSize_13 : decode cX6_nextOfSameSize 13 = .ok (.iadd, 1) := by decide +kernel
theorem dX6_nextOfSameSize_14 : decode cX6_nextOfSameSize 14 = .ok (.istore_n 2, 1) := by decide +kernel
theorem dX6_nextOfSameSize_15 : decode cX6_nextOfSameSize 15 = .ok (.iload_n 2, 1) := by decide +kernel
theorem dX6_nextOfSameSize_16 : decode cX6_nextOfSameSize 16 = .ok (.iload_n 0, 1) := by decide +kernel
theorem dX6_nextOfSameSize_17 : decode cX6_nextOfSameSize 17 = .ok (.iload_n 2, 1) := by decide +kernel
theorem dX6_nextOfSameSize_18 : decode cX6_nextOfSameSize 18 = .ok (.ixor, 1) := by decide +kernel
theorem dX6_nextOfSameSize_19 : decode cX6_nextOfSameSize 19 = .ok (.iconst 2, 1) := by decide +kernel
theorem dX6_nextOfSameSize_20 : decode cX6_nextOfSameSize 20 = .ok (.iushr, 1) := by decide +kernel
theorem dX6_nextOfSameSize_21 : decode cX6_nextOfSameSize 21 = .ok (.iload_n 1, 1) := by decide +kernel
theorem dX6_nextOfSameSize_22 : decode cX6_nextOfSameSize 22 = .ok (.idiv, 1) := by decide +kernel
theorem dX6_nextOfSameSize_23 : decode cX6_nextOfSameSize 23 = .ok (.ior, 1) := by decide +kernel
theorem dX6_nextOfSameSize_24 : decode cX6_nextOfSameSize 24 = .ok (.ireturn, 1) := by decide +kernel
theorem dX6_hasAll_0 : decode cX6_hasAll 0 = .ok (.iload_n 2, 1) := by decide +kernel
theorem dX6_hasAll_1 : decode cX6_hasAll 1 = .ok (.istore_n 3, 1) := by decide +kernel
theorem dX6_hasAll_2 : decode cX6_hasAll 2 = .ok (.iload_n 3, 1) := by decide +kernel
theorem dX6_hasAll_3 : decode cX6_hasAll 3 = .ok (.iconst 1, 1) := by decide +kernel
theorem dX6_hasAll_4 : decode cX6_hasAll 4 = .ok (.if_icmp .lt 27, 3) := by decide +kernel
theorem dX6_hasAll_7 : decode cX6_hasAll 7 = .ok (.iload_n 1, 1) := by decide +kernel
theorem dX6_hasAll_8 : decode cX6_hasAll 8 = .ok (.iload_n 3, 1) := by decide +kernel
theorem dX6_hasAll_9 : decode cX6_hasAll 9 = .ok (.iushr, 1) := by decide +kernel
theorem dX6_hasAll_10 : decode cX6_hasAll 10 = .ok (.iconst 1, 1) := by decide +kernel
theorem dX6_hasAll_11 : decode cX6_hasAll 11 = .ok (.iand, 1) := by decide +kernel
theorem dX6_hasAll_12 : decode cX6_hasAll 12 = .ok (.ifCond .eq 13, 3) := by decide +kernel
theorem dX6_hasAll_15 : decode cX6_hasAll 15 = .ok (.iload_n 0, 1) := by decide +kernel
theorem dX6_hasAll_16 : decode cX6_hasAll 16 = .ok (.iload_n 0, 1) := by decide +kernel
theorem dX6_hasAll_17 : decode cX6_hasAll 17 = .ok (.iload_n 3, 1) := by decide +kernel
theorem dX6_hasAll_18 : decode cX6_hasAll 18 = .ok (.iushr, 1) := by decide +kernel
theorem dX6_hasAll_19 : decode cX6_hasAll 19 = .ok (.iand, 1) := by decide +kernel
theorem dX6_hasAll_20 : decode cX6_hasAll 20 = .ok (.ifCond .ne 5, 3) := by decide +kernel
theorem dX6_hasAll_23 : decode cX6_hasAll 23 = .ok (.iconst 0, 1) := by decide +kernel
theorem dX6_hasAll_24 : decode cX6_hasAll 24 = .ok (.ireturn, 1) := by decide +kernel
theorem dX6_hasAll_25 : decode cX6_hasAll 25 = .ok (.iinc 3 (-1), 3) := by decide +kernel
theorem dX6_hasAll_28 : decode cX6_hasAll 28 = .ok (.goto (-26), 3) := by decide +kernel
theorem dX6_hasAll_31 : decode cX6_hasAll 31 = .ok (.iconst 1, 1) := by decide +kernel
theorem dX6_hasAll_32 : decode cX6_hasAll 32 = .ok (.ireturn, 1) := by decide +kernel
theorem dX7_init_0 : decode cX7_init 0 = .ok (.aload_n 0, 1) := by decide +kernel
theorem dX7_init_1 : decode cX7_init 1 = .ok (.invokespecial 3, 3) := by decide +kernel
theorem dX7_init_4 : decode cX7_init 4 = .ok (.aload_n 0, 1) := by decide +kernel
theorem dX7_init_5 : decode cX7_init 5 = .ok (.sipush 1024, 3) := by decide +kernel
theorem dX7_init_8 : decode cX7_init 8 = .ok (.newarray .int, 2) := by decide +kernel
theorem dX7_init_10 : decode cX7_init 10 = .ok (.putfield 9, 3) := by decide +kernel
theorem dX7_init_13 : decode cX7_init 13 = .ok (.aload_n 0, 1) := by decide +kernel
theorem dX7_init_14 : decode cX7_init 14 = .ok (.sipush 1024, 3) := by decide +kernel
theorem dX7_init_17 : decode cX7_init 17 = .ok (.newarray .int, 2) := by decide +kernel
theorem dX7_init_19 : decode cX7_init 19 = .ok (.putfield 15, 3) := by decide +kernel
theorem dX7_init_22 : decode cX7_init 22 = .ok (.aload_n 0, 1) := by decide +kernel
theorem dX7_init_23 : decode cX7_init 23 = .ok (.bipush 21, 2) := by decide +kernel
theorem dX7_init_25 : decode cX7_init 25 = .ok (.newarray .int, 2) := by decide +kernel
theorem dX7_init_27 : decode cX7_init 27 = .ok (.putfield 18, 3) := by decide +kernel
theorem dX7_init_30 : decode cX7_init 30 = .ok (.aload_n 0, 1) := by decide +kernel
theorem dX7_init_31 : decode cX7_init 31 = .ok (.bipush (-6), 2) := by decide +kernel
theorem dX7_init_33 : decode cX7_init 33 = .ok (.putfield 21, 3) := by decide +kernel
theorem dX7_init_36 : decode cX7_init 36 = .ok (.return_, 1) := by decide +kernel
theorem dX7_fewestFingers_0 : decode cX7_fewestFingers 0 = .ok (.bipush (-6), 2) := by decide +kernel
theorem dX7_fewestFingers_2 : decode cX7_fewestFingers 2 = .ok (.istore 5, 2) := by decide +kernel
theorem dX7_fewestFingers_4 : decode cX7_fewestFingers 4 = .ok (.aload_n 0, 1) := by decide +kernel
theorem dX7_fewestFingers_5 : decode cX7_fewestFingers 5 = .ok (.invokevirtual 25, 3) := by decide +kernel
theorem dX7_fewestFingers_8 : decode cX7_fewestFingers 8 = .ok (.iconst 1, 1) := by decide +kernel
theorem dX7_fewestFingers_9 : decode cX7_fewestFingers 9 = .ok (.iadd, 1) := by decide +kernel
theorem dX7_fewestFingers_10 : decode cX7_fewestFingers 10 = .ok (.istore 6, 2) := by decide +kernel
theorem dX7_fewestFingers_12 : decode cX7_fewestFingers 12 = .ok (.iconst 1, 1) := by decide +kernel
theorem dX7_fewestFingers_13 : decode cX7_fewestFingers 13 = .ok (.aload_n 0, 1) := by decide +kernel
theorem dX7_fewestFingers_14 : decode cX7_fewestFingers 14 = .ok (.getfield 31, 3) := by decide +kernel
theorem dX7_fewestFingers_17 : decode cX7_fewestFingers 17 = .ok (.ishl, 1) := by decide +kernel
theorem dX7_fewestFingers_18 : decode cX7_fewestFingers 18 = .ok (.istore 7, 2) := by decide +kernel
theorem dX7_fewestFingers_20 : decode cX7_fewestFingers 20 = .ok (.iconst 0, 1) := by decide +kernel
theorem dX7_fewestFingers_21 : decode cX7_fewestFingers 21 = .ok (.istore 8, 2) := by decide +kernel
theorem dX7_fewestFingers_23 : decode cX7_fewestFingers 23 = .ok (.iload 8, 2) := by decide +kernel
theorem dX7_fewestFingers_25 : decode cX7_fewestFingers 25 = .ok (.iload 7, 2) := by decide +kernel
theorem dX7_fewestFingers_27 : decode cX7_fewestFingers 27 = .ok (.if_icmp .ge 54, 3) := by decide +kernel
theorem dX7_fewestFingers_30 : decode cX7_fewestFingers 30 = .ok (.iload 8, 2) := by decide +kernel
theorem dX7_fewestFingers_32 : decode cX7_fewestFingers 32 = .ok (.invokestatic 34, 3) := by decide +kernel
theorem dX7_fewestFingers_35 : decode cX7_fewestFingers 35 = .ok (.istore 9, 2) := by decide +kernel
theorem dX7_fewestFingers_37 : decode cX7_fewestFingers 37 = .ok (.iload 9, 2) := by decide +kernel
theorem dX7_fewestFingers_39 : decode cX7_fewestFingers 39 = .ok (.iload 6, 2) := by decide +kernel
theorem dX7_fewestFingers_41 : decode cX7_fewestFingers 41 = .ok (.if_icmp .ge 34, 3) := by decide +kernel
theorem dX7_fewestFingers_44 : decode cX7_fewestFingers 44 = .ok (.aload_n 0, 1) := by decide +kernel
theorem dX7_fewestFingers_45 : decode cX7_fewestFingers 45 = .ok (.iload_n 1, 1) := by decide +kernel
theorem dX7_fewestFingers_46 : decode cX7_fewestFingers 46 = .ok (.iload 8, 2) := by decide +kernel
theorem dX7_fewestFingers_48 : decode cX7_fewestFingers 48 = .ok (.invokevirtual 40, 3) := by decide +kernel
theorem dX7_fewestFingers_51 : decode cX7_fewestFingers 51 = .ok (.iload_n 2, 1) := by decide +kernel
theorem dX7_fewestFingers_52 : decode cX7_fewestFingers 52 = .ok (.if_icmp .ne 23, 3) := by decide +kernel
theorem dX7_fewestFingers_55 : decode cX7_fewestFingers 55 = .ok (.aload_n 0, 1) := by decide +kernel
theorem dX7_fewestFingers_56 : decode cX7_fewestFingers 56 = .ok (.iload_n 3, 1) := by decide +kernel
theorem dX7_fewestFingers_57 : decode cX7_fewestFingers 57 = .ok (.iload 8, 2) := by decide +kernel
theorem dX7_fewestFingers_59 : decode cX7_fewestFingers 59 = .ok (.invokevirtual 40, 3) := by decide +kernel
theorem dX7_fewestFingers_62 : decode cX7_fewestFingers 62 = .ok (.iload 4, 2) := by decide +kernel
theorem dX7_fewestFingers_64 : decode cX7_fewestFingers 64 = .ok (.if_icmp .ne 11, 3) := by decide +kernel
theorem dX7_fewestFingers_67 : decode cX7_fewestFingers 67 = .ok (.iload 8, 2) := by decide +kernel
theorem dX7_fewestFingers_69 : decode cX7_fewestFingers 69 = .ok (.istore 5, 2) := by decide +kernel
theorem dX7_fewestFingers_71 : decode cX7_fewestFingers 71 = .ok (.iload 9, 2) := by decide +kernel
theorem dX7_fewestFingers_73 : decode cX7_fewestFingers 73 = .ok (.istore 6, 2) := by decide +kernel
theorem dX7_fewestFingers_75 : decode cX7_fewestFingers 75 = .ok (.iinc 8 1, 3) := by decide +kernel
theorem dX7_fewestFingers_78 : decode cX7_fewestFingers 78 = .ok (.goto (-55), 3) := by decide +kernel
theorem dX7_fewestFingers_81 : decode cX7_fewestFingers 81 = .ok (.iload 5, 2) := by decide +kernel
theorem dX7_fewestFingers_83 : decode cX7_fewestFingers 83 = .ok (.ireturn, 1) := by decide +kernel
theorem dX7_playTune_0 : decode cX7_playTune 0 = .ok (.iconst 1, 1) := by decide +kernel
theorem dX7_playTune_1 : decode cX7_playTune 1 = .ok (.aload_n 1, 1) := by decide +kernel
theorem dX7_playTune_2 : decode cX7_playTune 2 = .ok (.getfield 31, 3) := by decide +kernel
theorem dX7_playTune_5 : decode cX7_playTune 5 = .ok (.ishl, 1) := by decide +kernel
theorem dX7_playTune_6 : decode cX7_playTune 6 = .ok (.sipush 1024, 3) := by decide +kernel
theorem dX7_playTune_9 : decode cX7_playTune 9 = .ok (.invokestatic 44, 3) := by decide +kernel
theorem dX7_playTune_12 : decode cX7_playTune 12 = .ok (.istore 4, 2) := by decide +kernel
theorem dX7_playTune_14 : decode cX7_playTune 14 = .ok (.iconst 0, 1) := by decide +kernel
theorem dX7_playTune_15 : decode cX7_playTune 15 = .ok (.istore 5, 2) := by decide +kernel
theorem dX7_playTune_17 : decode cX7_playTune 17 = .ok (.iload 5, 2) := by decide +kernel
theorem dX7_playTune_19 : decode cX7_playTune 19 = .ok (.iload 4, 2) := by decide +kernel
theorem dX7_playTune_21 : decode cX7_playTune 21 = .ok (.if_icmp .ge 58, 3) := by decide +kernel
theorem dX7_playTune_24 : decode cX7_playTune 24 = .ok (.aload_n 0, 1) := by decide +kernel
theorem dX7_playTune_25 : decode cX7_playTune 25 = .ok (.getfield 9, 3) := by decide +kernel
theorem dX7_playTune_28 : decode cX7_playTune 28 = .ok (.iload 5, 2) := by decide +kernel
theorem dX7_playTune_30 : decode cX7_playTune 30 = .ok (.aload_n 1, 1) := by decide +kernel
theorem dX7_playTune_31 : decode cX7_playTune 31 = .ok (.iload 5, 2) := by decide +kernel
theorem dX7_playTune_33 : decode cX7_playTune 33 = .ok (.invokevirtual 49, 3) := by decide +kernel
theorem dX7_playTune_36 : decode cX7_playTune 36 = .ok (.ifCond .eq 13, 3) := by decide +kernel
theorem dX7_playTune_39 : decode cX7_playTune 39 = .ok (.aload_n 1, 1) := by decide +kernel
theorem dX7_playTune_40 : decode cX7_playTune 40 = .ok (.iload_n 2, 1) := by decide +kernel
theorem dX7_playTune_41 : decode cX7_playTune 41 = .ok (.iload 5, 2) := by decide +kernel
theorem dX7_playTune_43 : decode cX7_playTune 43 = .ok (.invokevirtual 40, 3) := by decide +kernel
theorem dX7_playTune_46 : decode cX7_playTune 46 = .ok (.goto 4, 3) := by decide +kernel
theorem dX7_playTune_49 : decode cX7_playTune 49 = .ok (.iconst 0, 1) := by decide +kernel
theorem dX7_playTune_50 : decode cX7_playTune 50 = .ok (.iastore, 1) := by decide +kernel
theorem dX7_playTune_51 : decode cX7_playTune 51 = .ok (.aload_n 0, 1) := by decide +kernel
theorem dX7_playTune_52 : decode cX7_playTune 52 = .ok (.getfield 15, 3) := by decide +kernel
theorem dX7_playTune_55 : decode cX7_playTune 55 = .ok (.iload 5, 2) := by decide +kernel
theorem dX7_playTune_57 : decode cX7_playTune 57 = .ok (.iload 5, 2) := by decide +kernel
theorem dX7_playTune_59 : decode cX7_playTune 59 = .ok (.aload_n 1, 1) := by decide +kernel
theorem dX7_playTune_60 : decode cX7_playTune 60 = .ok (.getfield 53, 3) := by decide +kernel
theorem dX7_playTune_63 : decode cX7_playTune 63 = .ok (.if_icmp .ne 7, 3) := by decide +kernel
theorem dX7_playTune_66 : decode cX7_playTune 66 = .ok (.iconst 0, 1) := by decide +kernel
theorem dX7_playTune_67 : decode cX7_playTune 67 = .ok (.goto 5, 3) := by decide +kernel
theorem dX7_playTune_70 : decode cX7_playTune 70 = .ok (.ldc 56, 2) := by decide +kernel
theorem dX7_playTune_72 : decode cX7_playTune 72 = .ok (.iastore, 1) := by decide +kernel
theorem dX7_playTune_73 : decode cX7_playTune 73 = .ok (.iinc 5 1, 3) := by decide +kernel
theorem dX7_playTune_76 : decode cX7_playTune 76 = .ok (.goto (-59), 3) := by decide +kernel
theorem dX7_playTune_79 : decode cX7_playTune 79 = .ok (.iconst 0, 1) := by decide +kernel
theorem dX7_playTune_80 : decode cX7_playTune 80 = .ok (.istore 5, 2) := by decide +kernel
theorem dX7_playTune_82 : decode cX7_playTune 82 = .ok (.iload 5, 2) := by decide +kernel
theorem dX7_playTune_84 : decode cX7_playTune 84 = .ok (.aload_n 3, 1) := by decide +kernel
theorem dX7_playTune_85 : decode cX7_playTune 85 = .ok (.invokevirtual 57, 3) := by decide +kernel
theorem dX7_playTune_88 : decode cX7_playTune 88 = .ok (.if_icmp .ge 31, 3) := by decide +kernel
theorem dX7_playTune_91 : decode cX7_playTune 91 = .ok (.aload_n 0, 1) := by decide +kernel
theorem dX7_playTune_92 : decode cX7_playTune 92 = .ok (.aload_n 1, 1) := by decide +kernel
theorem dX7_playTune_93 : decode cX7_playTune 93 = .ok (.getfield 31, 3) := by decide +kernel
theorem dX7_playTune_96 : decode cX7_playTune 96 = .ok (.iload 4, 2) := by decide +kernel
theorem dX7_playTune_98 : decode cX7_playTune 98 = .ok (.invokevirtual 62, 3) := by decide +kernel
theorem dX7_playTune_101 : decode cX7_playTune 101 = .ok (.aload_n 0, 1) := by decide +kernel
theorem dX7_playTune_102 : decode cX7_playTune 102 = .ok (.aload_n 3, 1) := by decide +kernel
theorem dX7_playTune_103 : decode cX7_playTune 103 = .ok (.iload 5, 2) := by decide +kernel
theorem dX7_playTune_105 : decode cX7_playTune 105 = .ok (.invokevirtual 66, 3) := by decide +kernel
theorem dX7_playTune_108 : decode cX7_playTune 108 = .ok (.iload 4, 2) := by decide +kernel
theorem dX7_playTune_110 : decode cX7_playTune 110 = .ok (.invokevirtual 69, 3) := by decide +kernel
theorem dX7_playTune_113 : decode cX7_playTune 113 = .ok (.iinc 5 1, 3) := by decide +kernel
theorem dX7_playTune_116 : decode cX7_playTune 116 = .ok (.goto (-34), 3) := by decide +kernel
theorem dX7_playTune_119 : decode cX7_playTune 119 = .ok (.aload_n 0, 1) := by decide +kernel
theorem dX7_playTune_120 : decode cX7_playTune 120 = .ok (.iload 4, 2) := by decide +kernel
theorem dX7_playTune_122 : decode cX7_playTune 122 = .ok (.invokevirtual 72, 3) := by decide +kernel
theorem dX7_playTune_125 : decode cX7_playTune 125 = .ok (.return_, 1) := by decide +kernel
theorem dX7_spreadCosts_0 : decode cX7_spreadCosts 0 = .ok (.iconst 0, 1) := by decide +kernel
theorem dX7_spreadCosts_1 : decode cX7_spreadCosts 1 = .ok (.istore_n 3, 1) := by decide +kernel
theorem dX7_spreadCosts_2 : decode cX7_spreadCosts 2 = .ok (.iload_n 3, 1) := by decide +kernel
theorem dX7_spreadCosts_3 : decode cX7_spreadCosts 3 = .ok (.iload_n 1, 1) := by decide +kernel
theorem dX7_spreadCosts_4 : decode cX7_spreadCosts 4 = .ok (.if_icmp .ge 57, 3) := by decide +kernel
theorem dX7_spreadCosts_7 : decode cX7_spreadCosts 7 = .ok (.iconst 1, 1) := by decide +kernel
theorem dX7_spreadCosts_8 : decode cX7_spreadCosts 8 = .ok (.iload_n 3, 1) := by decide +kernel
theorem dX7_spreadCosts_9 : decode cX7_spreadCosts 9 = .ok (.ishl, 1) := by decide +kernel
theorem dX7_spreadCosts_10 : decode cX7_spreadCosts 10 = .ok (.istore 4, 2) := by decide +kernel
theorem dX7_spreadCosts_12 : decode cX7_spreadCosts 12 = .ok (.iconst 0, 1) := by decide +kernel
theorem dX7_spreadCosts_13 : decode cX7_spreadCosts 13 = .ok (.istore 5, 2) := by decide +kernel
theorem dX7_spreadCosts_15 : decode cX7_spreadCosts 15 = .ok (.iload 5, 2) := by decide +kernel
theorem dX7_spreadCosts_17 : decode cX7_spreadCosts 17 = .ok (.iload_n 2, 1) := by decide +kernel
theorem dX7_spreadCosts_18 : decode cX7_spreadCosts 18 = .ok (.if_icmp .ge 37, 3) := by decide +kernel
theorem dX7_spreadCosts_21 : decode cX7_spreadCosts 21 = .ok (.iload 5, 2) := by decide +kernel
theorem dX7_spreadCosts_23 : decode cX7_spreadCosts 23 = .ok (.iload 4, 2) := by decide +kernel
theorem dX7_spreadCosts_25 : decode cX7_spreadCosts 25 = .ok (.ior, 1) := by decide +kernel
theorem dX7_spreadCosts_26 : decode cX7_spreadCosts 26 = .ok (.istore 6, 2) := by decide +kernel
theorem dX7_spreadCosts_28 : decode cX7_spreadCosts 28 = .ok (.iload 6, 2) := by decide +kernel
theorem dX7_spreadCosts_30 : decode cX7_spreadCosts 30 = .ok (.iload 5, 2) := by decide +kernel
theorem dX7_spreadCosts_32 : decode cX7_spreadCosts 32 = .ok (.if_icmp .eq 17, 3) := by decide +kernel
theorem dX7_spreadCosts_35 : decode cX7_spreadCosts 35 = .ok (.iload 6, 2) := by decide +kernel
theorem dX7_spreadCosts_37 : decode cX7_spreadCosts 37 = .ok (.iload_n 2, 1) := by decide +kernel
theorem dX7_spreadCosts_38 : decode cX7_spreadCosts 38 = .ok (.if_icmp .ge 11, 3) := by decide +kernel
theorem dX7_spreadCosts_41 : decode cX7_spreadCosts 41 = .ok (.aload_n 0, 1) := by decide +kernel
theorem dX7_spreadCosts_42 : decode cX7_spreadCosts 42 = .ok (.iload 5, 2) := by decide +kernel
theorem dX7_spreadCosts_44 : decode cX7_spreadCosts 44 = .ok (.iload 6, 2) := by decide +kernel
theorem dX7_spreadCosts_46 : decode cX7_spreadCosts 46 = .ok (.invokevirtual 76, 3) := by decide +kernel
theorem dX7_spreadCosts_49 : decode cX7_spreadCosts 49 = .ok (.iinc 5 1, 3) := by decide +kernel
theorem dX7_spreadCosts_52 : decode cX7_spreadCosts 52 = .ok (.goto (-37), 3) := by decide +kernel
theorem dX7_spreadCosts_55 : decode cX7_spreadCosts 55 = .ok (.iinc 3 1, 3) := by decide +kernel
theorem dX7_spreadCosts_58 : decode cX7_spreadCosts 58 = .ok (.goto (-56), 3) := by decide +kernel
theorem dX7_spreadCosts_61 : decode cX7_spreadCosts 61 = .ok (.return_, 1) := by decide +kernel
theorem dX7_evenOut_0 : decode cX7_evenOut 0 = .ok (.aload_n 0, 1) := by decide +kernel
theorem dX7_evenOut_1 : decode cX7_evenOut 1 = .ok (.getfield 15, 3) := by decide +kernel
theorem dX7_evenOut_4 : decode cX7_evenOut 4 = .ok (.iload_n 1, 1) := by decide +kernel
theorem dX7_evenOut_5 : decode cX7_evenOut 5 = .ok (.iaload, 1) := by decide +kernel
theorem dX7_evenOut_6 : decode cX7_evenOut 6 = .ok (.iconst 1, 1) := by decide +kernel
theorem dX7_evenOut_7 : decode cX7_evenOut 7 = .ok (.iadd, 1) := by decide +kernel
theorem dX7_evenOut_8 : decode cX7_evenOut 8 = .ok (.aload_n 0, 1) := by decide +kernel
theorem dX7_evenOut_9 : decode cX7_evenOut 9 = .ok (.getfield 15, 3) := by decide +kernel
theorem dX7_evenOut_12 : decode cX7_evenOut 12 = .ok (.iload_n 2, 1) := by decide +kernel
theorem dX7_evenOut_13 : decode cX7_evenOut 13 = .ok (.iaload, 1) := by decide +kernel
theorem dX7_evenOut_14 : decode cX7_evenOut 14 = .ok (.if_icmp .ge 20, 3) := by decide +kernel
theorem dX7_evenOut_17 : decode cX7_evenOut 17 = .ok (.aload_n 0, 1) := by decide +kernel
theorem dX7_evenOut_18 : decode cX7_evenOut 18 = .ok (.getfield 15, 3) := by decide +kernel
theorem dX7_evenOut_21 : decode cX7_evenOut 21 = .ok (.iload_n 2, 1) := by decide +kernel
theorem dX7_evenOut_22 : decode cX7_evenOut 22 = .ok (.aload_n 0, 1) := by decide +kernel
theorem dX7_evenOut_23 : decode cX7_evenOut 23 = .ok (.getfield 15, 3) := by decide +kernel
theorem dX7_evenOut_26 : decode cX7_evenOut 26 = .ok (.iload_n 1, 1) := by decide +kernel
theorem dX7_evenOut_27 : decode cX7_evenOut 27 = .ok (.iaload, 1) := by decide +kernel
theorem dX7_evenOut_28 : decode cX7_evenOut 28 = .ok (.iconst 1, 1) := by decide +kernel
theorem dX7_evenOut_29 : decode cX7_evenOut 29 = .ok (.iadd, 1) := by decide +kernel
theorem dX7_evenOut_30 : decode cX7_evenOut 30 = .ok (.iastore, 1) := by decide +kernel
theorem dX7_evenOut_31 : decode cX7_evenOut 31 = .ok (.goto 34, 3) := by decide +kernel
theorem dX7_evenOut_34 : decode cX7_evenOut 34 = .ok (.aload_n 0, 1) := by decide +kernel
theorem dX7_evenOut_35 : decode cX7_evenOut 35 = .ok (.getfield 15, 3) := by decide +kernel
theorem dX7_evenOut_38 : decode cX7_evenOut 38 = .ok (.iload_n 2, 1) := by decide +kernel
theorem dX7_evenOut_39 : decode cX7_evenOut 39 = .ok (.iaload, 1) := by decide +kernel
theorem dX7_evenOut_40 : decode cX7_evenOut 40 = .ok (.iconst 1, 1) := by decide +kernel
theorem dX7_evenOut_41 : decode cX7_evenOut 41 = .ok (.iadd, 1) := by decide +kernel
theorem dX7_evenOut_42 : decode cX7_evenOut 42 = .ok (.aload_n 0, 1) := by decide +kernel
theorem dX7_evenOut_43 : decode cX7_evenOut 43 = .ok (.getfield 15, 3) := by decide +kernel
theorem dX7_evenOut_46 : decode cX7_evenOut 46 = .ok (.iload_n 1, 1) := by decide +kernel
theorem dX7_evenOut_47 : decode cX7_evenOut 47 = .ok (.iaload, 1) := by decide +kernel
theorem dX7_evenOut_48 : decode cX7_evenOut 48 = .ok (.if_icmp .ge 17, 3) := by decide +kernel
theorem dX7_evenOut_51 : decode cX7_evenOut 51 = .ok (.aload_n 0, 1) := by decide +kernel
theorem dX7_evenOut_52 : decode cX7_evenOut 52 = .ok (.getfield 15, 3) := by decide +kernel
theorem dX7_evenOut_55 : decode cX7_evenOut 55 = .ok (.iload_n 1, 1) := by decide +kernel
theorem dX7_evenOut_56 : decode cX7_evenOut 56 = .ok (.aload_n 0, 1) := by decide +kernel
theorem dX7_evenOut_57 : decode cX7_evenOut 57 = .ok (.getfield 15, 3) := by decide +kernel
theorem dX7_evenOut_60 : decode cX7_evenOut 60 = .ok (.iload_n 2, 1) := by decide +kernel
theorem dX7_evenOut_61 : decode cX7_evenOut 61 = .ok (.iaload, 1) := by decide +kernel
theorem dX7_evenOut_62 : decode cX7_evenOut 62 = .ok (.iconst 1, 1) := by decide +kernel
theorem dX7_evenOut_63 : decode cX7_evenOut 63 = .ok (.iadd, 1) := by decide +kernel
theorem dX7_evenOut_64 : decode cX7_evenOut 64 = .ok (.iastore, 1) := by decide +kernel
theorem dX7_evenOut_65 : decode cX7_evenOut 65 = .ok (.return_, 1) := by decide +kernel
theorem dX7_keepTone_0 : decode cX7_keepTone 0 = .ok (.iconst 0, 1) := by decide +kernel
theorem dX7_keepTone_1 : decode cX7_keepTone 1 = .ok (.istore_n 3, 1) := by decide +kernel
theorem dX7_keepTone_2 : decode cX7_keepTone 2 = .ok (.iload_n 3, 1) := by decide +kernel
theorem dX7_keepTone_3 : decode cX7_keepTone 3 = .ok (.iload_n 2, 1) := by decide +kernel
theorem dX7_keepTone_4 : decode cX7_keepTone 4 = .ok (.if_icmp .ge 27, 3) := by decide +kernel
theorem dX7_keepTone_7 : decode cX7_keepTone 7 = .ok (.aload_n 0, 1) := by decide +kernel
theorem dX7_keepTone_8 : decode cX7_keepTone 8 = .ok (.getfield 9, 3) := by decide +kernel
theorem dX7_keepTone_11 : decode cX7_keepTone 11 = .ok (.iload_n 3, 1) := by decide +kernel
theorem dX7_keepTone_12 : decode cX7_keepTone 12 = .ok (.iaload, 1) := by decide +kernel
theorem dX7_keepTone_13 : decode cX7_keepTone 13 = .ok (.iload_n 1, 1) := by decide +kernel
theorem dX7_keepTone_14 : decode cX7_keepTone 14 = .ok (.if_icmp .eq 11, 3) := by decide +kernel
theorem dX7_keepTone_17 : decode cX7_keepTone 17 = .ok (.aload_n 0, 1) := by decide +kernel
theorem dX7_keepTone_18 : decode cX7_keepTone 18 = .ok (.getfield 15, 3) := by decide +kernel
theorem dX7_keepTone_21 : decode cX7_keepTone 21 = .ok (.iload_n 3, 1) := by decide +kernel
theorem dX7_keepTone_22 : decode cX7_keepTone 22 = .ok (.ldc 56, 2) := by decide +kernel
theorem dX7_keepTone_24 : decode cX7_keepTone 24 = .ok (.iastore, 1) := by decide +kernel
theorem dX7_keepTone_25 : decode cX7_keepTone 25 = .ok (.iinc 3 1, 3) := by decide +kernel
theorem dX7_keepTone_28 : decode cX7_keepTone 28 = .ok (.goto (-26), 3) := by decide +kernel
theorem dX7_keepTone_31 : decode cX7_keepTone 31 = .ok (.return_, 1) := by decide +kernel
theorem dX7_chooseLast_0 : decode cX7_chooseLast 0 = .ok (.aload_n 0, 1) := by decide +kernel
theorem dX7_chooseLast_1 : decode cX7_chooseLast 1 = .ok (.bipush (-6), 2) := by decide +kernel
theorem dX7_chooseLast_3 : decode cX7_chooseLast 3 = .ok (.putfield 21, 3) := by decide +kernel
theorem dX7_chooseLast_6 : decode cX7_chooseLast 6 = .ok (.aload_n 0, 1) := by decide +kernel
theorem dX7_chooseLast_7 : decode cX7_chooseLast 7 = .ok (.ldc 56, 2) := by decide +kernel
theorem dX7_chooseLast_9 : decode cX7_chooseLast 9 = .ok (.putfield 79, 3) := by decide +kernel
theorem dX7_chooseLast_12 : decode cX7_chooseLast 12 = .ok (.iconst 0, 1) := by decide +kernel
theorem dX7_chooseLast_13 : decode cX7_chooseLast 13 = .ok (.istore_n 2, 1) := by decide +kernel
theorem dX7_chooseLast_14 : decode cX7_chooseLast 14 = .ok (.iload_n 2, 1) := by decide +kernel
theorem dX7_chooseLast_15 : decode cX7_chooseLast 15 = .ok (.iload_n 1, 1) := by decide +kernel
theorem dX7_chooseLast_16 : decode cX7_chooseLast 16 = .ok (.if_icmp .ge 37, 3) := by decide +kernel
theorem dX7_chooseLast_19 : decode cX7_chooseLast 19 = .ok (.aload_n 0, 1) := by decide +kernel
theorem dX7_chooseLast_20 : decode cX7_chooseLast 20 = .ok (.getfield 15, 3) := by decide +kernel
theorem dX7_chooseLast_23 : decode cX7_chooseLast 23 = .ok (.iload_n 2, 1) := by decide +kernel
theorem dX7_chooseLast_24 : decode cX7_chooseLast 24 = .ok (.iaload, 1) := by decide +kernel
theorem dX7_chooseLast_25 : decode cX7_chooseLast 25 = .ok (.aload_n 0, 1) := by decide +kernel
theorem dX7_chooseLast_26 : decode cX7_chooseLast 26 = .ok (.getfield 79, 3) := by decide +kernel
theorem dX7_chooseLast_29 : decode cX7_chooseLast 29 = .ok (.if_icmp .ge 18, 3) := by decide +kernel
theorem dX7_chooseLast_32 : decode cX7_chooseLast 32 = .ok (.aload_n 0, 1) := by decide +kernel
theorem dX7_chooseLast_33 : decode cX7_chooseLast 33 = .ok (.iload_n 2, 1) := by decide +kernel
theorem dX7_chooseLast_34 : decode cX7_chooseLast 34 = .ok (.putfield 21, 3) := by decide +kernel
theorem dX7_chooseLast_37 : decode cX7_chooseLast 37 = .ok (.aload_n 0, 1) := by decide +kernel
theorem dX7_chooseLast_38 : decode cX7_chooseLast 38 = .ok (.aload_n 0, 1) := by decide +kernel
theorem dX7_chooseLast_39 : decode cX7_chooseLast 39 = .ok (.getfield 15, 3) := by decide +kernel
theorem dX7_chooseLast_42 : decode cX7_chooseLast 42 = .ok (.iload_n 2, 1) := by decide +kernel
theorem dX7_chooseLast_43 : decode cX7_chooseLast 43 = .ok (.iaload, 1) := by decide +kernel
theorem dX7_chooseLast_44 : decode cX7_chooseLast 44 = .ok (.putfield 79, 3) := by decide +kernel
theorem dX7_chooseLast_47 : decode cX7_chooseLast 47 = .ok (.iinc 2 1, 3) := by decide +kernel
theorem dX7_chooseLast_50 : decode cX7_chooseLast 50 = .ok (.goto (-36), 3) := by decide +kernel
theorem dX7_chooseLast_53 : decode cX7_chooseLast 53 = .ok (.return_, 1) := by decide +kernel
theorem dX7_fittingShifts_0 : decode cX7_fittingShifts 0 = .ok (.aload_n 0, 1) := by decide +kernel
theorem dX7_fittingShifts_1 : decode cX7_fittingShifts 1 = .ok (.aload_n 1, 1) := by decide +kernel
theorem dX7_fittingShifts_2 : decode cX7_fittingShifts 2 = .ok (.iload_n 2, 1) := by decide +kernel
theorem dX7_fittingShifts_3 : decode cX7_fittingShifts 3 = .ok (.iload_n 3, 1) := by decide +kernel
theorem dX7_fittingShifts_4 : decode cX7_fittingShifts 4 = .ok (.invokevirtual 82, 3) := by decide +kernel
theorem dX7_fittingShifts_7 : decode cX7_fittingShifts 7 = .ok (.iconst 0, 1) := by decide +kernel
theorem dX7_fittingShifts_8 : decode cX7_fittingShifts 8 = .ok (.istore 5, 2) := by decide +kernel
theorem dX7_fittingShifts_10 : decode cX7_fittingShifts 10 = .ok (.iconst 0, 1) := by decide +kernel
theorem dX7_fittingShifts_11 : decode cX7_fittingShifts 11 = .ok (.istore 6, 2) := by decide +kernel
theorem dX7_fittingShifts_13 : decode cX7_fittingShifts 13 = .ok (.iload 6, 2) := by decide +kernel
theorem dX7_fittingShifts_15 : decode cX7_fittingShifts 15 = .ok (.aload 4, 2) := by decide +kernel
theorem dX7_fittingShifts_17 : decode cX7_fittingShifts 17 = .ok (.invokevirtual 57, 3) := by decide +kernel
theorem dX7_fittingShifts_20 : decode cX7_fittingShifts 20 = .ok (.if_icmp .ge 29, 3) := by decide +kernel
theorem dX7_fittingShifts_23 : decode cX7_fittingShifts 23 = .ok (.aload_n 0, 1) := by decide +kernel
theorem dX7_fittingShifts_24 : decode cX7_fittingShifts 24 = .ok (.aload 4, 2) := by decide +kernel
theorem dX7_fittingShifts_26 : decode cX7_fittingShifts 26 = .ok (.iload 6, 2) := by decide +kernel
theorem dX7_fittingShifts_28 : decode cX7_fittingShifts 28 = .ok (.invokevirtual 86, 3) := by decide +kernel
theorem dX7_fittingShifts_31 : decode cX7_fittingShifts 31 = .ok (.ifCond .eq 12, 3) := by decide +kernel
theorem dX7_fittingShifts_34 : decode cX7_fittingShifts 34 = .ok (.iload 5, 2) := by decide +kernel
theorem dX7_fittingShifts_36 : decode cX7_fittingShifts 36 = .ok (.iconst 1, 1) := by decide +kernel
theorem dX7_fittingShifts_37 : decode cX7_fittingShifts 37 = .ok (.iload 6, 2) := by decide +kernel
theorem dX7_fittingShifts_39 : decode cX7_fittingShifts 39 = .ok (.ishl, 1) := by decide +kernel
theorem dX7_fittingShifts_40 : decode cX7_fittingShifts 40 = .ok (.ior, 1) := by decide +kernel
theorem dX7_fittingShifts_41 : decode cX7_fittingShifts 41 = .ok (.istore 5, 2) := by decide +kernel
theorem dX7_fittingShifts_43 : decode cX7_fittingShifts 43 = .ok (.iinc 6 1, 3) := by decide +kernel
theorem dX7_fittingShifts_46 : decode cX7_fittingShifts 46 = .ok (.goto (-33), 3) := by decide +kernel
theorem dX7_fittingShifts_49 : decode cX7_fittingShifts 49 = .ok (.iload 5, 2) := by decide +kernel
theorem dX7_fittingShifts_51 : decode cX7_fittingShifts 51 = .ok (.ireturn, 1) := by decide +kernel
theorem dX7_notePartners_0 : decode cX7_notePartners 0 = .ok (.aload_n 0, 1) := by decide +kernel
theorem dX7_notePartners_1 : decode cX7_notePartners 1 = .ok (.iconst 0, 1) := by decide +kernel
theorem dX7_notePartners_2 : decode cX7_notePartners 2 = .ok (.putfield 90, 3) := by decide +kernel
theorem dX7_notePartners_5 : decode cX7_notePartners 5 = .ok (.aload_n 0, 1) := by decide +kernel
theorem dX7_notePartners_6 : decode cX7_notePartners 6 = .ok (.iconst 0, 1) := by decide +kernel
theorem dX7_notePartners_7 : decode cX7_notePartners 7 = .ok (.putfield 93, 3) := by decide +kernel
theorem dX7_notePartners_10 : decode cX7_notePartners 10 = .ok (.iconst 0, 1) := by decide +kernel
theorem dX7_notePartners_11 : decode cX7_notePartners 11 = .ok (.istore 4, 2) := by decide +kernel
theorem dX7_notePartners_13 : decode cX7_notePartners 13 = .ok (.iload 4, 2) := by decide +kernel
theorem dX7_notePartners_15 : decode cX7_notePartners 15 = .ok (.bipush 20, 2) := by decide +kernel
theorem dX7_notePartners_17 : decode cX7_notePartners 17 = .ok (.if_icmp .gt 17, 3) := by decide +kernel
theorem dX7_notePartners_20 : decode cX7_notePartners 20 = .ok (.aload_n 0, 1) := by decide +kernel
theorem dX7_notePartners_21 : decode cX7_notePartners 21 = .ok (.getfield 18, 3) := by decide +kernel
theorem dX7_notePartners_24 : decode cX7_notePartners 24 = .ok (.iload 4, 2) := by decide +kernel
theorem dX7_notePartners_26 : decode cX7_notePartners 26 = .ok (.iconst 0, 1) := by decide +kernel
theorem dX7_notePartners_27 : decode cX7_notePartners 27 = .ok (.iastore, 1) := by decide +kernel
theorem dX7_notePartners_28 : decode cX7_notePartners 28 = .ok (.iinc 4 1, 3) := by decide +kernel
theorem dX7_notePartners_31 : decode cX7_notePartners 31 = .ok (.goto (-18), 3) := by decide +kernel
theorem dX7_notePartners_34 : decode cX7_notePartners 34 = .ok (.iconst 1, 1) := by decide +kernel
theorem dX7_notePartners_35 : decode cX7_notePartners 35 = .ok (.aload_n 1, 1) := by decide +kernel
theorem dX7_notePartners_36 : decode cX7_notePartners 36 = .ok (.getfield 31, 3) := by decide +kernel
theorem dX7_notePartners_39 : decode cX7_notePartners 39 = .ok (.ishl, 1) := by decide +kernel
theorem dX7_notePartners_40 : decode cX7_notePartners 40 = .ok (.istore 4, 2) := by decide +kernel
theorem dX7_notePartners_42 : decode cX7_notePartners 42 = .ok (.iconst 0, 1) := by decide +kernel
theorem dX7_notePartners_43 : decode cX7_notePartners 43 = .ok (.istore 5, 2) := by decide +kernel
theorem dX7_notePartners_45 : decode cX7_notePartners 45 = .ok (.iload 5, 2) := by decide +kernel
theorem dX7_notePartners_47 : decode cX7_notePartners 47 = .ok (.iload 4, 2) := by decide +kernel
theorem dX7_notePartners_49 : decode cX7_notePartners 49 = .ok (.if_icmp .ge 36, 3) := by decide +kernel
theorem dX7_notePartners_52 : decode cX7_notePartners 52 = .ok (.aload_n 1, 1) := by decide +kernel
theorem dX7_notePartners_53 : decode cX7_notePartners 53 = .ok (.iload 5, 2) := by decide +kernel
theorem dX7_notePartners_55 : decode cX7_notePartners 55 = .ok (.invokevirtual 49, 3) := by decide +kernel
theorem dX7_notePartners_58 : decode cX7_notePartners 58 = .ok (.ifCond .eq 21, 3) := by decide +kernel
theorem dX7_notePartners_61 : decode cX7_notePartners 61 = .ok (.aload_n 0, 1) := by decide +kernel
theorem dX7_notePartners_62 : decode cX7_notePartners 62 = .ok (.aload_n 1, 1) := by decide +kernel
theorem dX7_notePartners_63 : decode cX7_notePartners 63 = .ok (.iload_n 2, 1) := by decide +kernel
theorem dX7_notePartners_64 : decode cX7_notePartners 64 = .ok (.iload 5, 2) := by decide +kernel
theorem dX7_notePartners_66 : decode cX7_notePartners 66 = .ok (.invokevirtual 40, 3) := by decide +kernel
theorem dX7_notePartners_69 : decode cX7_notePartners 69 = .ok (.aload_n 1, 1) := by decide +kernel
theorem dX7_notePartners_70 : decode cX7_notePartners 70 = .ok (.iload_n 3, 1) := by decide +kernel
theorem dX7_notePartners_71 : decode cX7_notePartners 71 = .ok (.iload 5, 2) := by decide +kernel
theorem dX7_notePartners_73 : decode cX7_notePartners 73 = .ok (.invokevirtual 40, 3) := by decide +kernel
theorem dX7_notePartners_76 : decode cX7_notePartners 76 = .ok (.invokevirtual 96, 3) := by decide +kernel
theorem dX7_notePartners_79 : decode cX7_notePartners 79 = .ok (.iinc 5 1, 3) := by decide +kernel
theorem dX7_notePartners_82 : decode cX7_notePartners 82 = .ok (.goto (-37), 3) := by decide +kernel
theorem dX7_notePartners_85 : decode cX7_notePartners 85 = .ok (.return_, 1) := by decide +kernel
theorem dX7_notePair_0 : decode cX7_notePair 0 = .ok (.iload_n 2, 1) := by decide +kernel
theorem dX7_notePair_1 : decode cX7_notePair 1 = .ok (.ifCond .lt 15, 3) := by decide +kernel
theorem dX7_notePair_4 : decode cX7_notePair 4 = .ok (.iload_n 2, 1) := by decide +kernel
theorem dX7_notePair_5 : decode cX7_notePair 5 = .ok (.bipush 20, 2) := by decide +kernel
theorem dX7_notePair_7 : decode cX7_notePair 7 = .ok (.if_icmp .gt 9, 3) := by decide +kernel
theorem dX7_notePair_10 : decode cX7_notePair 10 = .ok (.iconst 1, 1) := by decide +kernel
theorem dX7_notePair_11 : decode cX7_notePair 11 = .ok (.iload_n 2, 1) := by decide +kernel
theorem dX7_notePair_12 : decode cX7_notePair 12 = .ok (.ishl, 1) := by decide +kernel
theorem dX7_notePair_13 : decode cX7_notePair 13 = .ok (.goto 4, 3) := by decide +kernel
theorem dX7_notePair_16 : decode cX7_notePair 16 = .ok (.iconst 0, 1) := by decide +kernel
theorem dX7_notePair_17 : decode cX7_notePair 17 = .ok (.istore_n 3, 1) := by decide +kernel
theorem dX7_notePair_18 : decode cX7_notePair 18 = .ok (.aload_n 0, 1) := by decide +kernel
theorem dX7_notePair_19 : decode cX7_notePair 19 = .ok (.dup, 1) := by decide +kernel
theorem dX7_notePair_20 : decode cX7_notePair 20 = .ok (.getfield 93, 3) := by decide +kernel
theorem dX7_notePair_23 : decode cX7_notePair 23 = .ok (.iload_n 3, 1) := by decide +kernel
theorem dX7_notePair_24 : decode cX7_notePair 24 = .ok (.ior, 1) := by decide +kernel
theorem dX7_notePair_25 : decode cX7_notePair 25 = .ok (.putfield 93, 3) := by decide +kernel
theorem dX7_notePair_28 : decode cX7_notePair 28 = .ok (.iload_n 1, 1) := by decide +kernel
theorem dX7_notePair_29 : decode cX7_notePair 29 = .ok (.ifCond .lt 31, 3) := by decide +kernel
theorem dX7_notePair_32 : decode cX7_notePair 32 = .ok (.iload_n 1, 1) := by decide +kernel
theorem dX7_notePair_33 : decode cX7_notePair 33 = .ok (.bipush 20, 2) := by decide +kernel
theorem dX7_notePair_35 : decode cX7_notePair 35 = .ok (.if_icmp .gt 25, 3) := by decide +kernel
theorem dX7_notePair_38 : decode cX7_notePair 38 = .ok (.aload_n 0, 1) := by decide +kernel
theorem dX7_notePair_39 : decode cX7_notePair 39 = .ok (.dup, 1) := by decide +kernel
theorem dX7_notePair_40 : decode cX7_notePair 40 = .ok (.getfield 90, 3) := by decide +kernel
theorem dX7_notePair_43 : decode cX7_notePair 43 = .ok (.iconst 1, 1) := by decide +kernel
theorem dX7_notePair_44 : decode cX7_notePair 44 = .ok (.iload_n 1, 1) := by decide +kernel
theorem dX7_notePair_45 : decode cX7_notePair 45 = .ok (.ishl, 1) := by decide +kernel
theorem dX7_notePair_46 : decode cX7_notePair 46 = .ok (.ior, 1) := by decide +kernel
theorem dX7_notePair_47 : decode cX7_notePair 47 = .ok (.putfield 90, 3) := by decide +kernel
theorem dX7_notePair_50 : decode cX7_notePair 50 = .ok (.aload_n 0, 1) := by decide +kernel
theorem dX7_notePair_51 : decode cX7_notePair 51 = .ok (.getfield 18, 3) := by decide +kernel
theorem dX7_notePair_54 : decode cX7_notePair 54 = .ok (.iload_n 1, 1) := by decide +kernel
theorem dX7_notePair_55 : decode cX7_notePair 55 = .ok (.dup2, 1) := by decide +kernel
theorem dX7_notePair_56 : decode cX7_notePair 56 = .ok (.iaload, 1) := by decide +kernel
theorem dX7_notePair_57 : decode cX7_notePair 57 = .ok (.iload_n 3, 1) := by decide +kernel
theorem dX7_notePair_58 : decode cX7_notePair 58 = .ok (.ior, 1) := by decide +kernel
theorem dX7_notePair_59 : decode cX7_notePair 59 = .ok (.iastore, 1) := by decide +kernel
theorem dX7_notePair_60 : decode cX7_notePair 60 = .ok (.return_, 1) := by decide +kernel
theorem dX7_shiftFits_0 : decode cX7_shiftFits 0 = .ok (.aload_n 1, 1) := by decide +kernel
theorem dX7_shiftFits_1 : decode cX7_shiftFits 1 = .ok (.invokevirtual 57, 3) := by decide +kernel
theorem dX7_shiftFits_4 : decode cX7_shiftFits 4 = .ok (.istore_n 3, 1) := by decide +kernel
theorem dX7_shiftFits_5 : decode cX7_shiftFits 5 = .ok (.iconst 0, 1) := by decide +kernel
theorem dX7_shiftFits_6 : decode cX7_shiftFits 6 = .ok (.istore 4, 2) := by decide +kernel
theorem dX7_shiftFits_8 : decode cX7_shiftFits 8 = .ok (.iload 4, 2) := by decide +kernel
theorem dX7_shiftFits_10 : decode cX7_shiftFits 10 = .ok (.iload_n 3, 1) := by decide +kernel
theorem dX7_shiftFits_11 : decode cX7_shiftFits 11 = .ok (.iload_n 2, 1) := by decide +kernel
theorem dX7_shiftFits_12 : decode cX7_shiftFits 12 = .ok (.iadd, 1) := by decide +kernel
theorem dX7_shiftFits_13 : decode cX7_shiftFits 13 = .ok (.if_icmp .ge 89, 3) := by decide +kernel
theorem dX7_shiftFits_16 : decode cX7_shiftFits 16 = .ok (.aload_n 0, 1) := by decide +kernel
theorem dX7_shiftFits_17 : decode cX7_shiftFits 17 = .ok (.getfield 93, 3) := by decide +kernel
theorem dX7_shiftFits_20 : decode cX7_shiftFits 20 = .ok (.istore 5, 2) := by decide +kernel
theorem dX7_shiftFits_22 : decode cX7_shiftFits 22 = .ok (.iload 4, 2) := by decide +kernel
theorem dX7_shiftFits_24 : decode cX7_shiftFits 24 = .ok (.iload_n 3, 1) := by decide +kernel
theorem dX7_shiftFits_25 : decode cX7_shiftFits 25 = .ok (.if_icmp .ge 47, 3) := by decide +kernel
theorem dX7_shiftFits_28 : decode cX7_shiftFits 28 = .ok (.aload_n 1, 1) := by decide +kernel
theorem dX7_shiftFits_29 : decode cX7_shiftFits 29 = .ok (.iload 4, 2) := by decide +kernel
theorem dX7_shiftFits_31 : decode cX7_shiftFits 31 = .ok (.invokevirtual 66, 3) := by decide +kernel
theorem dX7_shiftFits_34 : decode cX7_shiftFits 34 = .ok (.istore 6, 2) := by decide +kernel
theorem dX7_shiftFits_36 : decode cX7_shiftFits 36 = .ok (.iload 6, 2) := by decide +kernel
theorem dX7_shiftFits_38 : decode cX7_shiftFits 38 = .ok (.iconst 1, 1) := by decide +kernel
theorem dX7_shiftFits_39 : decode cX7_shiftFits 39 = .ok (.if_icmp .lt 22, 3) := by decide +kernel
theorem dX7_shiftFits_42 : decode cX7_shiftFits 42 = .ok (.iload 6, 2) := by decide +kernel
theorem dX7_shiftFits_44 : decode cX7_shiftFits 44 = .ok (.bipush 20, 2) := by decide +kernel
theorem dX7_shiftFits_46 : decode cX7_shiftFits 46 = .ok (.if_icmp .gt 15, 3) := by decide +kernel
theorem dX7_shiftFits_49 : decode cX7_shiftFits 49 = .ok (.aload_n 0, 1) := by decide +kernel
theorem dX7_shiftFits_50 : decode cX7_shiftFits 50 = .ok (.getfield 90, 3) := by decide +kernel
theorem dX7_shiftFits_53 : decode cX7_shiftFits 53 = .ok (.iload 6, 2) := by decide +kernel
theorem dX7_shiftFits_55 : decode cX7_shiftFits 55 = .ok (.iushr, 1) := by decide +kernel
theorem dX7_shiftFits_56 : decode cX7_shiftFits 56 = .ok (.iconst 1, 1) := by decide +kernel
theorem dX7_shiftFits_57 : decode cX7_shiftFits 57 = .ok (.iand, 1) := by decide +kernel
theorem dX7_shiftFits_58 : decode cX7_shiftFits 58 = .ok (.ifCond .ne 5, 3) := by decide +kernel
theorem dX7_shiftFits_61 : decode cX7_shiftFits 61 = .ok (.iconst 0, 1) := by decide +kernel
theorem dX7_shiftFits_62 : decode cX7_shiftFits 62 = .ok (.ireturn, 1) := by decide +kernel
theorem dX7_shiftFits_63 : decode cX7_shiftFits 63 = .ok (.aload_n 0, 1) := by decide +kernel
theorem dX7_shiftFits_64 : decode cX7_shiftFits 64 = .ok (.getfield 18, 3) := by decide +kernel
theorem dX7_shiftFits_67 : decode cX7_shiftFits 67 = .ok (.iload 6, 2) := by decide +kernel
theorem dX7_shiftFits_69 : decode cX7_shiftFits 69 = .ok (.iaload, 1) := by decide +kernel
theorem dX7_shiftFits_70 : decode cX7_shiftFits 70 = .ok (.istore 5, 2) := by decide +kernel
theorem dX7_shiftFits_72 : decode cX7_shiftFits 72 = .ok (.iload 4, 2) := by decide +kernel
theorem dX7_shiftFits_74 : decode cX7_shiftFits 74 = .ok (.iload_n 2, 1) := by decide +kernel
theorem dX7_shiftFits_75 : decode cX7_shiftFits 75 = .ok (.if_icmp .lt 21, 3) := by decide +kernel
theorem dX7_shiftFits_78 : decode cX7_shiftFits 78 = .ok (.iload 5, 2) := by decide +kernel
theorem dX7_shiftFits_80 : decode cX7_shiftFits 80 = .ok (.aload_n 1, 1) := by decide +kernel
theorem dX7_shiftFits_81 : decode cX7_shiftFits 81 = .ok (.iload 4, 2) := by decide +kernel
theorem dX7_shiftFits_83 : decode cX7_shiftFits 83 = .ok (.iload_n 2, 1) := by decide +kernel
theorem dX7_shiftFits_84 : decode cX7_shiftFits 84 = .ok (.isub, 1) := by decide +kernel
theorem dX7_shiftFits_85 : decode cX7_shiftFits 85 = .ok (.invokevirtual 66, 3) := by decide +kernel
theorem dX7_shiftFits_88 : decode cX7_shiftFits 88 = .ok (.iushr, 1) := by decide +kernel
theorem dX7_shiftFits_89 : decode cX7_shiftFits 89 = .ok (.iconst 1, 1) := by decide +kernel
theorem dX7_shiftFits_90 : decode cX7_shiftFits 90 = .ok (.iand, 1) := by decide +kernel
theorem dX7_shiftFits_91 : decode cX7_shiftFits 91 = .ok (.ifCond .ne 5, 3) := by decide +kernel
theorem dX7_shiftFits_94 : decode cX7_shiftFits 94 = .ok (.iconst 0, 1) := by decide +kernel
theorem dX7_shiftFits_95 : decode cX7_shiftFits 95 = .ok (.ireturn, 1) := by decide +kernel
theorem dX7_shiftFits_96 : decode cX7_shiftFits 96 = .ok (.iinc 4 1, 3) := by decide +kernel
theorem dX7_shiftFits_99 : decode cX7_shiftFits 99 = .ok (.goto (-91), 3) := by decide +kernel
theorem dX7_shiftFits_102 : decode cX7_shiftFits 102 = .ok (.iconst 1, 1) := by decide +kernel
theorem dX7_shiftFits_103 : decode cX7_shiftFits 103 = .ok (.ireturn, 1) := by decide +kernel
theorem dX8_init_0 : decode cX8_init 0 = .ok (.aload_n 0, 1) := by decide +kernel
theorem dX8_init_1 : decode cX8_init 1 = .ok (.invokespecial 3, 3) := by decide +kernel
theorem dX8_init_4 : decode cX8_init 4 = .ok (.aload_n 0, 1) := by decide +kernel
theorem dX8_init_5 : decode cX8_init 5 = .ok (.iconst 4, 1) := by decide +kernel
theorem dX8_init_6 : decode cX8_init 6 = .ok (.putfield 9, 3) := by decide +kernel
theorem dX8_init_9 : decode cX8_init 9 = .ok (.aload_n 0, 1) := by decide +kernel
theorem dX8_init_10 : decode cX8_init 10 = .ok (.iconst 1, 1) := by decide +kernel
theorem dX8_init_11 : decode cX8_init 11 = .ok (.putfield 15, 3) := by decide +kernel
theorem dX8_init_14 : decode cX8_init 14 = .ok (.aload_n 0, 1) := by decide +kernel
theorem dX8_init_15 : decode cX8_init 15 = .ok (.bipush 10, 2) := by decide +kernel
theorem dX8_init_17 : decode cX8_init 17 = .ok (.newarray .int, 2) := by decide +kernel
theorem dX8_init_19 : decode cX8_init 19 = .ok (.putfield 18, 3) := by decide +kernel
theorem dX8_init_22 : decode cX8_init 22 = .ok (.aload_n 0, 1) := by decide +kernel
theorem dX8_init_23 : decode cX8_init 23 = .ok (.bipush 10, 2) := by decide +kernel
theorem dX8_init_25 : decode cX8_init 25 = .ok (.newarray .int, 2) := by decide +kernel
theorem dX8_init_27 : decode cX8_init 27 = .ok (.putfield 22, 3) := by decide +kernel
theorem dX8_init_30 : decode cX8_init 30 = .ok (.aload_n 0, 1) := by decide +kernel
theorem dX8_init_31 : decode cX8_init 31 = .ok (.bipush 8, 2) := by decide +kernel
theorem dX8_init_33 : decode cX8_init 33 = .ok (.newarray .int, 2) := by decide +kernel
theorem dX8_init_35 : decode cX8_init 35 = .ok (.putfield 25, 3) := by decide +kernel
theorem dX8_init_38 : decode cX8_init 38 = .ok (.aload_n 0, 1) := by decide +kernel
theorem dX8_init_39 : decode cX8_init 39 = .ok (.bipush 8, 2) := by decide +kernel
theorem dX8_init_41 : decode cX8_init 41 = .ok (.newarray .int, 2) := by decide +kernel
theorem dX8_init_43 : decode cX8_init 43 = .ok (.putfield 28, 3) := by decide +kernel
theorem dX8_init_46 : decode cX8_init 46 = .ok (.aload_n 0, 1) := by decide +kernel
theorem dX8_init_47 : decode cX8_init 47 = .ok (.bipush 10, 2) := by decide +kernel
theorem dX8_init_49 : decode cX8_init 49 = .ok (.newarray .int, 2) := by decide +kernel
theorem dX8_init_51 : decode cX8_init 51 = .ok (.putfield 31, 3) := by decide +kernel
theorem dX8_init_54 : decode cX8_init 54 = .ok (.aload_n 0, 1) := by decide +kernel
theorem dX8_init_55 : decode cX8_init 55 = .ok (.bipush 10, 2) := by decide +kernel
theorem dX8_init_57 : decode cX8_init 57 = .ok (.newarray .int, 2) := by decide +kernel
theorem dX8_init_59 : decode cX8_init 59 = .ok (.putfield 34, 3) := by decide +kernel
theorem dX8_init_62 : decode cX8_init 62 = .ok (.aload_n 0, 1) := by decide +kernel
theorem dX8_init_63 : decode cX8_init 63 = .ok (.bipush 6, 2) := by decide +kernel
theorem dX8_init_65 : decode cX8_init 65 = .ok (.invokevirtual 37, 3) := by decide +kernel
theorem dX8_init_68 : decode cX8_init 68 = .ok (.return_, 1) := by decide +kernel
theorem dX8_beginAnew_0 : decode cX8_beginAnew 0 = .ok (.aload_n 0, 1) := by decide +kernel
theorem dX8_beginAnew_1 : decode cX8_beginAnew 1 = .ok (.iload_n 1, 1) := by decide +kernel
theorem dX8_beginAnew_2 : decode cX8_beginAnew 2 = .ok (.putfield 41, 3) := by decide +kernel
theorem dX8_beginAnew_5 : decode cX8_beginAnew 5 = .ok (.aload_n 0, 1) := by decide +kernel
theorem dX8_beginAnew_6 : decode cX8_beginAnew 6 = .ok (.iconst 2, 1) := by decide +kernel
theorem dX8_beginAnew_7 : decode cX8_beginAnew 7 = .ok (.putfield 44, 3) := by decide +kernel
theorem dX8_beginAnew_10 : decode cX8_beginAnew 10 = .ok (.aload_n 0, 1) := by decide +kernel
theorem dX8_beginAnew_11 : decode cX8_beginAnew 11 = .ok (.iconst 0, 1) := by decide +kernel
theorem dX8_beginAnew_12 : decode cX8_beginAnew 12 = .ok (.putfield 47, 3) := by decide +kernel
theorem dX8_beginAnew_15 : decode cX8_beginAnew 15 = .ok (.aload_n 0, 1) := by decide +kernel
theorem dX8_beginAnew_16 : decode cX8_beginAnew 16 = .ok (.iconst 0, 1) := by decide +kernel
theorem dX8_beginAnew_17 : decode cX8_beginAnew 17 = .ok (.putfield 50, 3) := by decide +kernel
theorem dX8_beginAnew_20 : decode cX8_beginAnew 20 = .ok (.aload_n 0, 1) := by decide +kernel
theorem dX8_beginAnew_21 : decode cX8_beginAnew 21 = .ok (.iconst 0, 1) := by decide +kernel
theorem dX8_beginAnew_22 : decode cX8_beginAnew 22 = .ok (.putfield 53, 3) := by decide +kernel
theorem dX8_beginAnew_25 : decode cX8_beginAnew 25 = .ok (.iconst 0, 1) := by decide +kernel
theorem dX8_beginAnew_26 : decode cX8_beginAnew 26 = .ok (.istore_n 2, 1) := by decide +kernel
theorem dX8_beginAnew_27 : decode cX8_beginAnew 27 = .ok (.iload_n 2, 1) := by decide +kernel
theorem dX8_beginAnew_28 : decode cX8_beginAnew 28 = .ok (.bipush 10, 2) := by decide +kernel
theorem dX8_beginAnew_30 : decode cX8_beginAnew 30 = .ok (.if_icmp .ge 23, 3) := by decide +kernel
theorem dX8_beginAnew_33 : decode cX8_beginAnew 33 = .ok (.aload_n 0, 1) := by decide +kernel
theorem dX8_beginAnew_34 : decode cX8_beginAnew 34 = .ok (.getfield 18, 3) := by decide +kernel
theorem dX8_beginAnew_37 : decode cX8_beginAnew 37 = .ok (.iload_n 2, 1) := by decide +kernel
theorem dX8_beginAnew_38 : decode cX8_beginAnew 38 = .ok (.iconst 2, 1) := by decide +kernel
theorem dX8_beginAnew_39 : decode cX8_beginAnew 39 = .ok (.iastore, 1) := by decide +kernel
theorem dX8_beginAnew_40 : decode cX8_beginAnew 40 = .ok (.aload_n 0, 1) := by decide +kernel
theorem dX8_beginAnew_41 : decode cX8_beginAnew 41 = .ok (.getfield 31, 3) := by decide +kernel
theorem dX8_beginAnew_44 : decode cX8_beginAnew 44 = .ok (.iload_n 2, 1) := by decide +kernel
theorem dX8_beginAnew_45 : decode cX8_beginAnew 45 = .ok (.iconst 0, 1) := by decide +kernel
theorem dX8_beginAnew_46 : decode cX8_beginAnew 46 = .ok (.iastore, 1) := by decide +kernel
theorem dX8_beginAnew_47 : decode cX8_beginAnew 47 = .ok (.iinc 2 1, 3) := by decide +kernel
theorem dX8_beginAnew_50 : decode cX8_beginAnew 50 = .ok (.goto (-23), 3) := by decide +kernel
theorem dX8_beginAnew_53 : decode cX8_beginAnew 53 = .ok (.aload_n 0, 1) := by decide +kernel
theorem dX8_beginAnew_54 : decode cX8_beginAnew 54 = .ok (.invokevirtual 56, 3) := by decide +kernel
theorem dX8_beginAnew_57 : decode cX8_beginAnew 57 = .ok (.return_, 1) := by decide +kernel
theorem dX8_copyFrom_0 : decode cX8_copyFrom 0 = .ok (.aload_n 0, 1) := by decide +kernel
theorem dX8_copyFrom_1 : decode cX8_copyFrom 1 = .ok (.aload_n 1, 1) := by decide +kernel
theorem dX8_copyFrom_2 : decode cX8_copyFrom 2 = .ok (.getfield 41, 3) := by decide +kernel
theorem dX8_copyFrom_5 : decode cX8_copyFrom 5 = .ok (.putfield 41, 3) := by decide +kernel
theorem dX8_copyFrom_8 : decode cX8_copyFrom 8 = .ok (.aload_n 0, 1) := by decide +kernel
theorem dX8_copyFrom_9 : decode cX8_copyFrom 9 = .ok (.aload_n 1, 1) := by decide +kernel
theorem dX8_copyFrom_10 : decode cX8_copyFrom 10 = .ok (.getfield 44, 3) := by decide +kernel
theorem dX8_copyFrom_13 : decode cX8_copyFrom 13 = .ok (.putfield 44, 3) := by decide +kernel
theorem dX8_copyFrom_16 : decode cX8_copyFrom 16 = .ok (.aload_n 0, 1) := by decide +kernel
theorem dX8_copyFrom_17 : decode cX8_copyFrom 17 = .ok (.aload_n 1, 1) := by decide +kernel
theorem dX8_copyFrom_18 : decode cX8_copyFrom 18 = .ok (.getfield 9, 3) := by decide +kernel
theorem dX8_copyFrom_21 : decode cX8_copyFrom 21 = .ok (.putfield 9, 3) := by decide +kernel
theorem dX8_copyFrom_24 : decode cX8_copyFrom 24 = .ok (.aload_n 0, 1) := by decide +kernel
theorem dX8_copyFrom_25 : decode cX8_copyFrom 25 = .ok (.aload_n 1, 1) := by decide +kernel
theorem dX8_copyFrom_26 : decode cX8_copyFrom 26 = .ok (.getfield 15, 3) := by decide +kernel
theorem dX8_copyFrom_29 : decode cX8_copyFrom 29 = .ok (.putfield 15, 3) := by decide +kernel
theorem dX8_copyFrom_32 : decode cX8_copyFrom 32 = .ok (.aload_n 0, 1) := by decide +kernel
theorem dX8_copyFrom_33 : decode cX8_copyFrom 33 = .ok (.aload_n 1, 1) := by decide +kernel
theorem dX8_copyFrom_34 : decode cX8_copyFrom 34 = .ok (.getfield 47, 3) := by decide +kernel
theorem dX8_copyFrom_37 : decode cX8_copyFrom 37 = .ok (.putfield 47, 3) := by decide +kernel
theorem dX8_copyFrom_40 : decode cX8_copyFrom 40 = .ok (.aload_n 0, 1) := by decide +kernel
theorem dX8_copyFrom_41 : decode cX8_copyFrom 41 = .ok (.aload_n 1, 1) := by decide +kernel
theorem dX8_copyFrom_42 : decode cX8_copyFrom 42 = .ok (.getfield 50, 3) := by decide +kernel
theorem dX8_copyFrom_45 : decode cX8_copyFrom 45 = .ok (.putfield 50, 3) := by decide +kernel
theorem dX8_copyFrom_48 : decode cX8_copyFrom 48 = .ok (.aload_n 0, 1) := by decide +kernel
theorem dX8_copyFrom_49 : decode cX8_copyFrom 49 = .ok (.aload_n 1, 1) := by decide +kernel
theorem dX8_copyFrom_50 : decode cX8_copyFrom 50 = .ok (.getfield 53, 3) := by decide +kernel
theorem dX8_copyFrom_53 : decode cX8_copyFrom 53 = .ok (.putfield 53, 3) := by decide +kernel
theorem dX8_copyFrom_56 : decode cX8_copyFrom 56 = .ok (.iconst 0, 1) := by decide +kernel
theorem dX8_copyFrom_57 : decode cX8_copyFrom 57 = .ok (.istore_n 2, 1) := by decide +kernel
theorem dX8_copyFrom_58 : decode cX8_copyFrom 58 = .ok (.iload_n 2, 1) := by decide +kernel
theorem dX8_copyFrom_59 : decode cX8_copyFrom 59 = .ok (.bipush 10, 2) := by decide +kernel
theorem dX8_copyFrom_61 : decode cX8_copyFrom 61 = .ok (.if_icmp .ge 33, 3) := by decide +kernel
theorem dX8_copyFrom_64 : decode cX8_copyFrom 64 = .ok (.aload_n 0, 1) := by decide +kernel
theorem dX8_copyFrom_65 : decode cX8_copyFrom 65 = .ok (.getfield 18, 3) := by decide +kernel
theorem dX8_copyFrom_68 : decode cX8_copyFrom 68 = .ok (.iload_n 2, 1) := by decide +kernel
theorem dX8_copyFrom_69 : decode cX8_copyFrom 69 = .ok (.aload_n 1, 1) := by decide +kernel
theorem dX8_copyFrom_70 : decode cX8_copyFrom 70 = .ok (.getfield 18, 3) := by decide +kernel
theorem dX8_copyFrom_73 : decode cX8_copyFrom 73 = .ok (.iload_n 2, 1) := by decide +kernel
theorem dX8_copyFrom_74 : decode cX8_copyFrom 74 = .ok (.iaload, 1) := by decide +kernel
theorem dX8_copyFrom_75 : decode cX8_copyFrom 75 = .ok (.iastore, 1) := by decide +kernel
theorem dX8_copyFrom_76 : decode cX8_copyFrom 76 = .ok (.aload_n 0, 1) := by decide +kernel
theorem dX8_copyFrom_77 : decode cX8_copyFrom 77 = .ok (.getfield 31, 3) := by decide +kernel
theorem dX8_copyFrom_80 : decode cX8_copyFrom 80 = .ok (.iload_n 2, 1) := by decide +kernel
theorem dX8_copyFrom_81 : decode cX8_copyFrom 81 = .ok (.aload_n 1, 1) := by decide +kernel
theorem dX8_copyFrom_82 : decode cX8_copyFrom 82 = .ok (.getfield 31, 3) := by decide +kernel
theorem dX8_copyFrom_85 : decode cX8_copyFrom 85 = .ok (.iload_n 2, 1) := by decide +kernel
theorem dX8_copyFrom_86 : decode cX8_copyFrom 86 = .ok (.iaload, 1) := by decide +kernel
theorem dX8_copyFrom_87 : decode cX8_copyFrom 87 = .ok (.iastore, 1) := by decide +kernel
theorem dX8_copyFrom_88 : decode cX8_copyFrom 88 = .ok (.iinc 2 1, 3) := by decide +kernel
theorem dX8_copyFrom_91 : decode cX8_copyFrom 91 = .ok (.goto (-33), 3) := by decide +kernel
theorem dX8_copyFrom_94 : decode cX8_copyFrom 94 = .ok (.iconst 0, 1) := by decide +kernel
theorem dX8_copyFrom_95 : decode cX8_copyFrom 95 = .ok (.istore_n 2, 1) := by decide +kernel
theorem dX8_copyFrom_96 : decode cX8_copyFrom 96 = .ok (.iload_n 2, 1) := by decide +kernel
theorem dX8_copyFrom_97 : decode cX8_copyFrom 97 = .ok (.bipush 8, 2) := by decide +kernel
theorem dX8_copyFrom_99 : decode cX8_copyFrom 99 = .ok (.if_icmp .ge 33, 3) := by decide +kernel
theorem dX8_copyFrom_102 : decode cX8_copyFrom 102 = .ok (.aload_n 0, 1) := by decide +kernel
theorem dX8_copyFrom_103 : decode cX8_copyFrom 103 = .ok (.getfield 25, 3) := by decide +kernel
theorem dX8_copyFrom_106 : decode cX8_copyFrom 106 = .ok (.iload_n 2, 1) := by decide +kernel
theorem dX8_copyFrom_107 : decode cX8_copyFrom 107 = .ok (.aload_n 1, 1) := by decide +kernel
theorem dX8_copyFrom_108 : decode cX8_copyFrom 108 = .ok (.getfield 25, 3) := by decide +kernel
theorem dX8_copyFrom_111 : decode cX8_copyFrom 111 = .ok (.iload_n 2, 1) := by decide +kernel
theorem dX8_copyFrom_112 : decode cX8_copyFrom 112 = .ok (.iaload, 1) := by decide +kernel
theorem dX8_copyFrom_113 : decode cX8_copyFrom 113 = .ok (.iastore, 1) := by decide +kernel
theorem dX8_copyFrom_114 : decode cX8_copyFrom 114 = .ok (.aload_n 0, 1) := by decide +kernel
theorem dX8_copyFrom_115 : decode cX8_copyFrom 115 = .ok (.getfield 28, 3) := by decide +kernel
theorem dX8_copyFrom_118 : decode cX8_copyFrom 118 = .ok (.iload_n 2, 1) := by decide +kernel
theorem dX8_copyFrom_119 : decode cX8_copyFrom 119 = .ok (.aload_n 1, 1) := by decide +kernel
theorem dX8_copyFrom_120 : decode cX8_copyFrom 120 = .ok (.getfield 28, 3) := by decide +kernel
theorem dX8_copyFrom_123 : decode cX8_copyFrom 123 = .ok (.iload_n 2, 1) := by decide +kernel
theorem dX8_copyFrom_124 : decode cX8_copyFrom 124 = .ok (.iaload, 1) := by decide +kernel
theorem dX8_copyFrom_125 : decode cX8_copyFrom 125 = .ok (.iastore, 1) := by decide +kernel
theorem dX8_copyFrom_126 : decode cX8_copyFrom 126 = .ok (.iinc 2 1, 3) := by decide +kernel
theorem dX8_copyFrom_129 : decode cX8_copyFrom 129 = .ok (.goto (-33), 3) := by decide +kernel
theorem dX8_copyFrom_132 : decode cX8_copyFrom 132 = .ok (.aload_n 0, 1) := by decide +kernel
theorem dX8_copyFrom_133 : decode cX8_copyFrom 133 = .ok (.invokevirtual 56, 3) := by decide +kernel
theorem dX8_copyFrom_136 : decode cX8_copyFrom 136 = .ok (.return_, 1) := by decide +kernel
theorem dX8_measure_0 : decode cX8_measure 0 = .ok (.iconst 0, 1) := by decide +kernel
theorem dX8_measure_1 : decode cX8_measure 1 = .ok (.istore_n 1, 1) := by decide +kernel
theorem dX8_measure_2 : decode cX8_measure 2 = .ok (.iconst 0, 1) := by decide +kernel
theorem dX8_measure_3 : decode cX8_measure 3 = .ok (.istore_n 2, 1) := by decide +kernel
theorem dX8_measure_4 : decode cX8_measure 4 = .ok (.iload_n 2, 1) := by decide +kernel
theorem dX8_measure_5 : decode cX8_measure 5 = .ok (.bipush 10, 2) := by decide +kernel
theorem dX8_measure_7 : decode cX8_measure 7 = .ok (.if_icmp .ge 25, 3) := by decide +kernel
theorem dX8_measure_10 : decode cX8_measure 10 = .ok (.iload_n 1, 1) := by decide +kernel
theorem dX8_measure_11 : decode cX8_measure 11 = .ok (.aload_n 0, 1) := by decide +kernel
theorem dX8_measure_12 : decode cX8_measure 12 = .ok (.getfield 18, 3) := by decide +kernel
theorem dX8_measure_15 : decode cX8_measure 15 = .ok (.iload_n 2, 1) := by decide +kernel
theorem dX8_measure_16 : decode cX8_measure 16 = .ok (.iaload, 1) := by decide +kernel
theorem dX8_measure_17 : decode cX8_measure 17 = .ok (.iadd, 1) := by decide +kernel
theorem dX8_measure_18 : decode cX8_measure 18 = .ok (.istore_n 1, 1) := by decide +kernel
theorem dX8_measure_19 : decode cX8_measure 19 = .ok (.aload_n 0, 1) := by decide +kernel
theorem dX8_measure_20 : decode cX8_measure 20 = .ok (.getfield 22, 3) := by decide +kernel
theorem dX8_measure_23 : decode cX8_measure 23 = .ok (.iload_n 2, 1) := by decide +kernel
theorem dX8_measure_24 : decode cX8_measure 24 = .ok (.iload_n 1, 1) := by decide +kernel
theorem dX8_measure_25 : decode cX8_measure 25 = .ok (.iastore, 1) := by decide +kernel
theorem dX8_measure_26 : decode cX8_measure 26 = .ok (.iinc 2 1, 3) := by decide +kernel
theorem dX8_measure_29 : decode cX8_measure 29 = .ok (.goto (-25), 3) := by decide +kernel
theorem dX8_measure_32 : decode cX8_measure 32 = .ok (.return_, 1) := by decide +kernel
theorem dX8_has_0 : decode cX8_has 0 = .ok (.iload_n 1, 1) := by decide +kernel
theorem dX8_has_1 : decode cX8_has 1 = .ok (.ifCond .lt 21, 3) := by decide +kernel
theorem dX8_has_4 : decode cX8_has 4 = .ok (.iload_n 1, 1) := by decide +kernel
theorem dX8_has_5 : decode cX8_has 5 = .ok (.aload_n 0, 1) := by decide +kernel
theorem dX8_has_6 : decode cX8_has 6 = .ok (.getfield 41, 3) := by decide +kernel
theorem dX8_has_9 : decode cX8_has 9 = .ok (.if_icmp .ge 13, 3) := by decide +kernel
theorem dX8_has_12 : decode cX8_has 12 = .ok (.iload_n 1, 1) := by decide +kernel
theorem dX8_has_13 : decode cX8_has 13 = .ok (.bipush 10, 2) := by decide +kernel
theorem dX8_has_15 : decode cX8_has 15 = .ok (.if_icmp .ge 7, 3) := by decide +kernel
theorem dX8_has_18 : decode cX8_has 18 = .ok (.iconst 1, 1) := by decide +kernel
theorem dX8_has_19 : decode cX8_has 19 = .ok (.goto 4, 3) := by decide +kernel
theorem dX8_has_22 : decode cX8_has 22 = .ok (.iconst 0, 1) := by decide +kernel
theorem dX8_has_23 : decode cX8_has 23 = .ok (.ireturn, 1) := by decide +kernel
theorem dX8_mostFingers_0 : decode cX8_mostFingers 0 = .ok (.aload_n 0, 1) := by decide +kernel
theorem dX8_mostFingers_1 : decode cX8_mostFingers 1 = .ok (.getfield 41, 3) := by decide +kernel
theorem dX8_mostFingers_4 : decode cX8_mostFingers 4 = .ok (.iconst 2, 1) := by decide +kernel
theorem dX8_mostFingers_5 : decode cX8_mostFingers 5 = .ok (.if_icmp .ne 7, 3) := by decide +kernel
theorem dX8_mostFingers_8 : decode cX8_mostFingers 8 = .ok (.iconst 1, 1) := by decide +kernel
theorem dX8_mostFingers_9 : decode cX8_mostFingers 9 = .ok (.goto 9, 3) := by decide +kernel
theorem dX8_mostFingers_12 : decode cX8_mostFingers 12 = .ok (.aload_n 0, 1) := by decide +kernel
theorem dX8_mostFingers_13 : decode cX8_mostFingers 13 = .ok (.getfield 41, 3) := by decide +kernel
theorem dX8_mostFingers_16 : decode cX8_mostFingers 16 = .ok (.iconst 2, 1) := by decide +kernel
theorem dX8_mostFingers_17 : decode cX8_mostFingers 17 = .ok (.isub, 1) := by decide +kernel
theorem dX8_mostFingers_18 : decode cX8_mostFingers 18 = .ok (.ireturn, 1) := by decide +kernel
theorem dX8_allows_0 : decode cX8_allows 0 = .ok (.iload_n 1, 1) := by decide +kernel
theorem dX8_allows_1 : decode cX8_allows 1 = .ok (.invokestatic 59, 3) := by decide +kernel
theorem dX8_allows_4 : decode cX8_allows 4 = .ok (.aload_n 0, 1) := by decide +kernel
theorem dX8_allows_5 : decode cX8_allows 5 = .ok (.invokevirtual 65, 3) := by decide +kernel
theorem dX8_allows_8 : decode cX8_allows 8 = .ok (.if_icmp .gt 7, 3) := by decide +kernel
theorem dX8_allows_11 : decode cX8_allows 11 = .ok (.iconst 1, 1) := by decide +kernel
theorem dX8_allows_12 : decode cX8_allows 12 = .ok (.goto 4, 3) := by decide +kernel
theorem dX8_allows_15 : decode cX8_allows 15 = .ok (.iconst 0, 1) := by decide +kernel
theorem dX8_allows_16 : decode cX8_allows 16 = .ok (.ireturn, 1) := by decide +kernel
theorem dX8_bottom_0 : decode cX8_bottom 0 = .ok (.aload_n 0, 1) := by decide +kernel
theorem dX8_bottom_1 : decode cX8_bottom 1 = .ok (.getfield 41, 3) := by decide +kernel
theorem dX8_bottom_4 : decode cX8_bottom 4 = .ok (.iconst 1, 1) := by decide +kernel
theorem dX8_bottom_5 : decode cX8_bottom 5 = .ok (.isub, 1) := by decide +kernel
theorem dX8_bottom_6 : decode cX8_bottom 6 = .ok (.istore_n 1, 1) := by decide +kernel
theorem dX8_bottom_7 : decode cX8_bottom 7 = .ok (.aload_n 0, 1) := by decide +kernel
theorem dX8_bottom_8 : decode cX8_bottom 8 = .ok (.iload_n 1, 1) := by decide +kernel
theorem dX8_bottom_9 : decode cX8_bottom 9 = .ok (.invokevirtual 69, 3) := by decide +kernel
theorem dX8_bottom_12 : decode cX8_bottom 12 = .ok (.ifCond .eq 22, 3) := by decide +kernel
theorem dX8_bottom_15 : decode cX8_bottom 15 = .ok (.aload_n 0, 1) := by decide +kernel
theorem dX8_bottom_16 : decode cX8_bottom 16 = .ok (.getfield 22, 3) := by decide +kernel
theorem dX8_bottom_19 : decode cX8_bottom 19 = .ok (.iload_n 1, 1) := by decide +kernel
theorem dX8_bottom_20 : decode cX8_bottom 20 = .ok (.iaload, 1) := by decide +kernel
theorem dX8_bottom_21 : decode cX8_bottom 21 = .ok (.aload_n 0, 1) := by decide +kernel
theorem dX8_bottom_22 : decode cX8_bottom 22 = .ok (.getfield 44, 3) := by decide +kernel
theorem dX8_bottom_25 : decode cX8_bottom 25 = .ok (.iadd, 1) := by decide +kernel
theorem dX8_bottom_26 : decode cX8_bottom 26 = .ok (.aload_n 0, 1) := by decide +kernel
theorem dX8_bottom_27 : decode cX8_bottom 27 = .ok (.getfield 47, 3) := by decide +kernel
theorem dX8_bottom_30 : decode cX8_bottom 30 = .ok (.iadd, 1) := by decide +kernel
theorem dX8_bottom_31 : decode cX8_bottom 31 = .ok (.goto 12, 3) := by decide +kernel
theorem dX8_bottom_34 : decode cX8_bottom 34 = .ok (.aload_n 0, 1) := by decide +kernel
theorem dX8_bottom_35 : decode cX8_bottom 35 = .ok (.getfield 44, 3) := by decide +kernel
theorem dX8_bottom_38 : decode cX8_bottom 38 = .ok (.aload_n 0, 1) := by decide +kernel
theorem dX8_bottom_39 : decode cX8_bottom 39 = .ok (.getfield 47, 3) := by decide +kernel
theorem dX8_bottom_42 : decode cX8_bottom 42 = .ok (.iadd, 1) := by decide +kernel
theorem dX8_bottom_43 : decode cX8_bottom 43 = .ok (.ireturn, 1) := by decide +kernel
theorem dX8_lengthAt_0 : decode cX8_lengthAt 0 = .ok (.aload_n 0, 1) := by decide +kernel
theorem dX8_lengthAt_1 : decode cX8_lengthAt 1 = .ok (.iload_n 1, 1) := by decide +kernel
theorem dX8_lengthAt_2 : decode cX8_lengthAt 2 = .ok (.invokevirtual 69, 3) := by decide +kernel
theorem dX8_lengthAt_5 : decode cX8_lengthAt 5 = .ok (.ifCond .ne 5, 3) := by decide +kernel
theorem dX8_lengthAt_8 : decode cX8_lengthAt 8 = .ok (.iconst 0, 1) := by decide +kernel
theorem dX8_lengthAt_9 : decode cX8_lengthAt 9 = .ok (.ireturn, 1) := by decide +kernel
theorem dX8_lengthAt_10 : decode cX8_lengthAt 10 = .ok (.iconst 0, 1) := by decide +kernel
theorem dX8_lengthAt_11 : decode cX8_lengthAt 11 = .ok (.istore_n 3, 1) := by decide +kernel
theorem dX8_lengthAt_12 : decode cX8_lengthAt 12 = .ok (.iload_n 1, 1) := by decide +kernel
theorem dX8_lengthAt_13 : decode cX8_lengthAt 13 = .ok (.istore 4, 2) := by decide +kernel
theorem dX8_lengthAt_15 : decode cX8_lengthAt 15 = .ok (.iload 4, 2) := by decide +kernel
theorem dX8_lengthAt_17 : decode cX8_lengthAt 17 = .ok (.ifCond .lt 29, 3) := by decide +kernel
theorem dX8_lengthAt_20 : decode cX8_lengthAt 20 = .ok (.iload_n 2, 1) := by decide +kernel
theorem dX8_lengthAt_21 : decode cX8_lengthAt 21 = .ok (.iload 4, 2) := by decide +kernel
theorem dX8_lengthAt_23 : decode cX8_lengthAt 23 = .ok (.iushr, 1) := by decide +kernel
theorem dX8_lengthAt_24 : decode cX8_lengthAt 24 = .ok (.iconst 1, 1) := by decide +kernel
theorem dX8_lengthAt_25 : decode cX8_lengthAt 25 = .ok (.iand, 1) := by decide +kernel
theorem dX8_lengthAt_26 : decode cX8_lengthAt 26 = .ok (.ifCond .eq 14, 3) := by decide +kernel
theorem dX8_lengthAt_29 : decode cX8_lengthAt 29 = .ok (.aload_n 0, 1) := by decide +kernel
theorem dX8_lengthAt_30 : decode cX8_lengthAt 30 = .ok (.getfield 22, 3) := by decide +kernel
theorem dX8_lengthAt_33 : decode cX8_lengthAt 33 = .ok (.iload 4, 2) := by decide +kernel
theorem dX8_lengthAt_35 : decode cX8_lengthAt 35 = .ok (.iaload, 1) := by decide +kernel
theorem dX8_lengthAt_36 : decode cX8_lengthAt 36 = .ok (.istore_n 3, 1) := by decide +kernel
theorem dX8_lengthAt_37 : decode cX8_lengthAt 37 = .ok (.goto 9, 3) := by decide +kernel
theorem dX8_lengthAt_40 : decode cX8_lengthAt 40 = .ok (.iinc 4 (-1), 3) := by decide +kernel
theorem dX8_lengthAt_43 : decode cX8_lengthAt 43 = .ok (.goto (-28), 3) := by decide +kernel
theorem dX8_lengthAt_46 : decode cX8_lengthAt 46 = .ok (.iload_n 1, 1) := by decide +kernel
theorem dX8_lengthAt_47 : decode cX8_lengthAt 47 = .ok (.iconst 1, 1) := by decide +kernel
theorem dX8_lengthAt_48 : decode cX8_lengthAt 48 = .ok (.iadd, 1) := by decide +kernel
theorem dX8_lengthAt_49 : decode cX8_lengthAt 49 = .ok (.istore 4, 2) := by decide +kernel
theorem dX8_lengthAt_51 : decode cX8_lengthAt 51 = .ok (.iload 4, 2) := by decide +kernel
theorem dX8_lengthAt_53 : decode cX8_lengthAt 53 = .ok (.aload_n 0, 1) := by decide +kernel
theorem dX8_lengthAt_54 : decode cX8_lengthAt 54 = .ok (.getfield 41, 3) := by decide +kernel
theorem dX8_lengthAt_57 : decode cX8_lengthAt 57 = .ok (.if_icmp .ge 28, 3) := by decide +kernel
theorem dX8_lengthAt_60 : decode cX8_lengthAt 60 = .ok (.iload_n 2, 1) := by decide +kernel
theorem dX8_lengthAt_61 : decode cX8_lengthAt 61 = .ok (.iload 4, 2) := by decide +kernel
theorem dX8_lengthAt_63 : decode cX8_lengthAt 63 = .ok (.iushr, 1) := by decide +kernel
theorem dX8_lengthAt_64 : decode cX8_lengthAt 64 = .ok (.iconst 1, 1) := by decide +kernel
theorem dX8_lengthAt_65 : decode cX8_lengthAt 65 = .ok (.iand, 1) := by decide +kernel
theorem dX8_lengthAt_66 : decode cX8_lengthAt 66 = .ok (.ifCond .eq 13, 3) := by decide +kernel
theorem dX8_lengthAt_69 : decode cX8_lengthAt 69 = .ok (.aload_n 0, 1) := by decide +kernel
theorem dX8_lengthAt_70 : decode cX8_lengthAt 70 = .ok (.getfield 22, 3) := by decide +kernel
theorem dX8_lengthAt_73 : decode cX8_lengthAt 73 = .ok (.iload 4, 2) := by decide +kernel
theorem dX8_lengthAt_75 : decode cX8_lengthAt 75 = .ok (.iaload, 1) := by decide +kernel
theorem dX8_lengthAt_76 : decode cX8_lengthAt 76 = .ok (.iload_n 3, 1) := by decide +kernel
theorem dX8_lengthAt_77 : decode cX8_lengthAt 77 = .ok (.isub, 1) := by decide +kernel
theorem dX8_lengthAt_78 : decode cX8_lengthAt 78 = .ok (.ireturn, 1) := by decide +kernel
theorem dX8_lengthAt_79 : decode cX8_lengthAt 79 = .ok (.iinc 4 1, 3) := by decide +kernel
theorem dX8_lengthAt_82 : decode cX8_lengthAt 82 = .ok (.goto (-31), 3) := by decide +kernel
theorem dX8_lengthAt_85 : decode cX8_lengthAt 85 = .ok (.aload_n 0, 1) := by decide +kernel
theorem dX8_lengthAt_86 : decode cX8_lengthAt 86 = .ok (.invokevirtual 73, 3) := by decide +kernel
theorem dX8_lengthAt_89 : decode cX8_lengthAt 89 = .ok (.iload_n 3, 1) := by decide +kernel
theorem dX8_lengthAt_90 : decode cX8_lengthAt 90 = .ok (.isub, 1) := by decide +kernel
theorem dX8_lengthAt_91 : decode cX8_lengthAt 91 = .ok (.ireturn, 1) := by decide +kernel
theorem dX8_clashesBy_0 : decode cX8_clashesBy 0 = .ok (.iload_n 1, 1) := by decide +kernel
theorem dX8_clashesBy_1 : decode cX8_clashesBy 1 = .ok (.iconst 1, 1) := by decide +kernel
theorem dX8_clashesBy_2 : decode cX8_clashesBy 2 = .ok (.iand, 1) := by decide +kernel
theorem dX8_clashesBy_3 : decode cX8_clashesBy 3 = .ok (.ifCond .eq 12, 3) := by decide +kernel
theorem dX8_clashesBy_6 : decode cX8_clashesBy 6 = .ok (.aload_n 0, 1) := by decide +kernel
theorem dX8_clashesBy_7 : decode cX8_clashesBy 7 = .ok (.getfield 22, 3) := by decide +kernel
theorem dX8_clashesBy_10 : decode cX8_clashesBy 10 = .ok (.iconst 0, 1) := by decide +kernel
theorem dX8_clashesBy_11 : decode cX8_clashesBy 11 = .ok (.iaload, 1) := by decide +kernel
theorem dX8_clashesBy_12 : decode cX8_clashesBy 12 = .ok (.goto 4, 3) := by decide +kernel
theorem dX8_clashesBy_15 : decode cX8_clashesBy 15 = .ok (.iconst 0, 1) := by decide +kernel
theorem dX8_clashesBy_16 : decode cX8_clashesBy 16 = .ok (.istore_n 2, 1) := by decide +kernel
theorem dX8_clashesBy_17 : decode cX8_clashesBy 17 = .ok (.iconst 0, 1) := by decide +kernel
theorem dX8_clashesBy_18 : decode cX8_clashesBy 18 = .ok (.istore_n 3, 1) := by decide +kernel
theorem dX8_clashesBy_19 : decode cX8_clashesBy 19 = .ok (.iconst 1, 1) := by decide +kernel
theorem dX8_clashesBy_20 : decode cX8_clashesBy 20 = .ok (.istore 4, 2) := by decide +kernel
theorem dX8_clashesBy_22 : decode cX8_clashesBy 22 = .ok (.iload 4, 2) := by decide +kernel
theorem dX8_clashesBy_24 : decode cX8_clashesBy 24 = .ok (.aload_n 0, 1) := by decide +kernel
theorem dX8_clashesBy_25 : decode cX8_clashesBy 25 = .ok (.getfield 41, 3) := by decide +kernel
theorem dX8_clashesBy_28 : decode cX8_clashesBy 28 = .ok (.if_icmp .gt 109, 3) := by decide +kernel
theorem dX8_clashesBy_31 : decode cX8_clashesBy 31 = .ok (.iload_n 3, 1) := by decide +kernel
theorem dX8_clashesBy_32 : decode cX8_clashesBy 32 = .ok (.bipush 10, 2) := by decide +kernel
theorem dX8_clashesBy_34 : decode cX8_clashesBy 34 = .ok (.if_icmp .ge 103, 3) := by decide +kernel
theorem dX8_clashesBy_37 : decode cX8_clashesBy 37 = .ok (.iload 4, 2) := by decide +kernel
theorem dX8_clashesBy_39 : decode cX8_clashesBy 39 = .ok (.aload_n 0, 1) := by decide +kernel
theorem dX8_clashesBy_40 : decode cX8_clashesBy 40 = .ok (.getfield 41, 3) := by decide +kernel
theorem dX8_clashesBy_43 : decode cX8_clashesBy 43 = .ok (.if_icmp .eq 12, 3) := by decide +kernel
theorem dX8_clashesBy_46 : decode cX8_clashesBy 46 = .ok (.iload_n 1, 1) := by decide +kernel
theorem dX8_clashesBy_47 : decode cX8_clashesBy 47 = .ok (.iload 4, 2) := by decide +kernel
theorem dX8_clashesBy_49 : decode cX8_clashesBy 49 = .ok (.iushr, 1) := by decide +kernel
theorem dX8_clashesBy_50 : decode cX8_clashesBy 50 = .ok (.iconst 1, 1) := by decide +kernel
theorem dX8_clashesBy_51 : decode cX8_clashesBy 51 = .ok (.iand, 1) := by decide +kernel
theorem dX8_clashesBy_52 : decode cX8_clashesBy 52 = .ok (.ifCond .eq 79, 3) := by decide +kernel
theorem dX8_clashesBy_55 : decode cX8_clashesBy 55 = .ok (.aload_n 0, 1) := by decide +kernel
theorem dX8_clashesBy_56 : decode cX8_clashesBy 56 = .ok (.iload 4, 2) := by decide +kernel
theorem dX8_clashesBy_58 : decode cX8_clashesBy 58 = .ok (.invokevirtual 69, 3) := by decide +kernel
theorem dX8_clashesBy_61 : decode cX8_clashesBy 61 = .ok (.ifCond .eq 13, 3) := by decide +kernel
theorem dX8_clashesBy_64 : decode cX8_clashesBy 64 = .ok (.aload_n 0, 1) := by decide +kernel
theorem dX8_clashesBy_65 : decode cX8_clashesBy 65 = .ok (.getfield 22, 3) := by decide +kernel
theorem dX8_clashesBy_68 : decode cX8_clashesBy 68 = .ok (.iload 4, 2) := by decide +kernel
theorem dX8_clashesBy_70 : decode cX8_clashesBy 70 = .ok (.iaload, 1) := by decide +kernel
theorem dX8_clashesBy_71 : decode cX8_clashesBy 71 = .ok (.goto 7, 3) := by decide +kernel
theorem dX8_clashesBy_74 : decode cX8_clashesBy 74 = .ok (.aload_n 0, 1) := by decide +kernel
theorem dX8_clashesBy_75 : decode cX8_clashesBy 75 = .ok (.invokevirtual 73, 3) := by decide +kernel
theorem dX8_clashesBy_78 : decode cX8_clashesBy 78 = .ok (.istore 5, 2) := by decide +kernel
theorem dX8_clashesBy_80 : decode cX8_clashesBy 80 = .ok (.iconst 0, 1) := by decide +kernel
theorem dX8_clashesBy_81 : decode cX8_clashesBy 81 = .ok (.istore 6, 2) := by decide +kernel
theorem dX8_clashesBy_83 : decode cX8_clashesBy 83 = .ok (.iload 6, 2) := by decide +kernel
theorem dX8_clashesBy_85 : decode cX8_clashesBy 85 = .ok (.iload_n 3, 1) := by decide +kernel
theorem dX8_clashesBy_86 : decode cX8_clashesBy 86 = .ok (.if_icmp .ge 29, 3) := by decide +kernel
theorem dX8_clashesBy_89 : decode cX8_clashesBy 89 = .ok (.aload_n 0, 1) := by decide +kernel
theorem dX8_clashesBy_90 : decode cX8_clashesBy 90 = .ok (.iload 5, 2) := by decide +kernel
theorem dX8_clashesBy_92 : decode cX8_clashesBy 92 = .ok (.iload_n 2, 1) := by decide +kernel
theorem dX8_clashesBy_93 : decode cX8_clashesBy 93 = .ok (.isub, 1) := by decide +kernel
theorem dX8_clashesBy_94 : decode cX8_clashesBy 94 = .ok (.aload_n 0, 1) := by decide +kernel
theorem dX8_clashesBy_95 : decode cX8_clashesBy 95 = .ok (.getfield 34, 3) := by decide +kernel
theorem dX8_clashesBy_98 : decode cX8_clashesBy 98 = .ok (.iload 6, 2) := by decide +kernel
theorem dX8_clashesBy_100 : decode cX8_clashesBy 100 = .ok (.iaload, 1) := by decide +kernel
theorem dX8_clashesBy_101 : decode cX8_clashesBy 101 = .ok (.invokevirtual 76, 3) := by decide +kernel
theorem dX8_clashesBy_104 : decode cX8_clashesBy 104 = .ok (.ifCond .eq 5, 3) := by decide +kernel
theorem dX8_clashesBy_107 : decode cX8_clashesBy 107 = .ok (.iconst 1, 1) := by decide +kernel
theorem dX8_clashesBy_108 : decode cX8_clashesBy 108 = .ok (.ireturn, 1) := by decide +kernel
theorem dX8_clashesBy_109 : decode cX8_clashesBy 109 = .ok (.iinc 6 1, 3) := by decide +kernel
theorem dX8_clashesBy_112 : decode cX8_clashesBy 112 = .ok (.goto (-29), 3) := by decide +kernel
theorem dX8_clashesBy_115 : decode cX8_clashesBy 115 = .ok (.aload_n 0, 1) := by decide +kernel
theorem dX8_clashesBy_116 : decode cX8_clashesBy 116 = .ok (.getfield 34, 3) := by decide +kernel
theorem dX8_clashesBy_119 : decode cX8_clashesBy 119 = .ok (.iload_n 3, 1) := by decide +kernel
theorem dX8_clashesBy_120 : decode cX8_clashesBy 120 = .ok (.iload 5, 2) := by decide +kernel
theorem dX8_clashesBy_122 : decode cX8_clashesBy 122 = .ok (.iload_n 2, 1) := by decide +kernel
theorem dX8_clashesBy_123 : decode cX8_clashesBy 123 = .ok (.isub, 1) := by decide +kernel
theorem dX8_clashesBy_124 : decode cX8_clashesBy 124 = .ok (.iastore, 1) := by decide +kernel
theorem dX8_clashesBy_125 : decode cX8_clashesBy 125 = .ok (.iinc 3 1, 3) := by decide +kernel
theorem dX8_clashesBy_128 : decode cX8_clashesBy 128 = .ok (.iload 5, 2) := by decide +kernel
theorem dX8_clashesBy_130 : decode cX8_clashesBy 130 = .ok (.istore_n 2, 1) := by decide +kernel
theorem dX8_clashesBy_131 : decode cX8_clashesBy 131 = .ok (.iinc 4 1, 3) := by decide +kernel
theorem dX8_clashesBy_134 : decode cX8_clashesBy 134 = .ok (.goto (-112), 3) := by decide +kernel
theorem dX8_clashesBy_137 : decode cX8_clashesBy 137 = .ok (.iconst 0, 1) := by decide +kernel
theorem dX8_clashesBy_138 : decode cX8_clashesBy 138 = .ok (.ireturn, 1) := by decide +kernel
theorem dX8_isClash_0 : decode cX8_isClash 0 = .ok (.iload_n 1, 1) := by decide +kernel
theorem dX8_isClash_1 : decode cX8_isClash 1 = .ok (.iload_n 2, 1) := by decide +kernel
theorem dX8_isClash_2 : decode cX8_isClash 2 = .ok (.invokestatic 80, 3) := by decide +kernel
theorem dX8_isClash_5 : decode cX8_isClash 5 = .ok (.istore_n 3, 1) := by decide +kernel
theorem dX8_isClash_6 : decode cX8_isClash 6 = .ok (.iload_n 1, 1) := by decide +kernel
theorem dX8_isClash_7 : decode cX8_isClash 7 = .ok (.iload_n 2, 1) := by decide +kernel
theorem dX8_isClash_8 : decode cX8_isClash 8 = .ok (.if_icmp .eq 11, 3) := by decide +kernel
theorem dX8_isClash_11 : decode cX8_isClash 11 = .ok (.iload_n 3, 1) := by decide +kernel
theorem dX8_isClash_12 : decode cX8_isClash 12 = .ok (.aload_n 0, 1) := by decide +kernel
theorem dX8_isClash_13 : decode cX8_isClash 13 = .ok (.getfield 9, 3) := by decide +kernel
theorem dX8_isClash_16 : decode cX8_isClash 16 = .ok (.if_icmp .gt 5, 3) := by decide +kernel
theorem dX8_isClash_19 : decode cX8_isClash 19 = .ok (.iconst 0, 1) := by decide +kernel
theorem dX8_isClash_20 : decode cX8_isClash 20 = .ok (.ireturn, 1) := by decide +kernel
theorem dX8_isClash_21 : decode cX8_isClash 21 = .ok (.iload_n 3, 1) := by decide +kernel
theorem dX8_isClash_22 : decode cX8_isClash 22 = .ok (.i2l, 1) := by decide +kernel
theorem dX8_isClash_23 : decode cX8_isClash 23 = .ok (.iload_n 1, 1) := by decide +kernel
theorem dX8_isClash_24 : decode cX8_isClash 24 = .ok (.iload_n 2, 1) := by decide +kernel
theorem dX8_isClash_25 : decode cX8_isClash 25 = .ok (.invokestatic 86, 3) := by decide +kernel
theorem dX8_isClash_28 : decode cX8_isClash 28 = .ok (.i2l, 1) := by decide +kernel
theorem dX8_isClash_29 : decode cX8_isClash 29 = .ok (.invokestatic 89, 3) := by decide +kernel
theorem dX8_isClash_32 : decode cX8_isClash 32 = .ok (.lstore 4, 2) := by decide +kernel
theorem dX8_isClash_34 : decode cX8_isClash 34 = .ok (.lload 4, 2) := by decide +kernel
theorem dX8_isClash_36 : decode cX8_isClash 36 = .ok (.lconst 0, 1) := by decide +kernel
theorem dX8_isClash_37 : decode cX8_isClash 37 = .ok (.lcmp, 1) := by decide +kernel
theorem dX8_isClash_38 : decode cX8_isClash 38 = .ok (.ifCond .le 21, 3) := by decide +kernel
theorem dX8_isClash_41 : decode cX8_isClash 41 = .ok (.iload_n 3, 1) := by decide +kernel
theorem dX8_isClash_42 : decode cX8_isClash 42 = .ok (.i2l, 1) := by decide +kernel
theorem dX8_isClash_43 : decode cX8_isClash 43 = .ok (.lload 4, 2) := by decide +kernel
theorem dX8_isClash_45 : decode cX8_isClash 45 = .ok (.ldiv, 1) := by decide +kernel
theorem dX8_isClash_46 : decode cX8_isClash 46 = .ok (.aload_n 0, 1) := by decide +kernel
theorem dX8_isClash_47 : decode cX8_isClash 47 = .ok (.getfield 9, 3) := by decide +kernel
theorem dX8_isClash_50 : decode cX8_isClash 50 = .ok (.i2l, 1) := by decide +kernel
theorem dX8_isClash_51 : decode cX8_isClash 51 = .ok (.lcmp, 1) := by decide +kernel
theorem dX8_isClash_52 : decode cX8_isClash 52 = .ok (.ifCond .le 7, 3) := by decide +kernel
theorem dX8_isClash_55 : decode cX8_isClash 55 = .ok (.iconst 1, 1) := by decide +kernel
theorem dX8_isClash_56 : decode cX8_isClash 56 = .ok (.goto 4, 3) := by decide +kernel
theorem dX8_isClash_59 : decode cX8_isClash 59 = .ok (.iconst 0, 1) := by decide +kernel
theorem dX8_isClash_60 : decode cX8_isClash 60 = .ok (.ireturn, 1) := by decide +kernel
theorem dX8_moreDamp_0 : decode cX8_moreDamp 0 = .ok (.aload_n 0, 1) := by decide +kernel
theorem dX8_moreDamp_1 : decode cX8_moreDamp 1 = .ok (.getfield 47, 3) := by decide +kernel
theorem dX8_moreDamp_4 : decode cX8_moreDamp 4 = .ok (.bipush 9, 2) := by decide +kernel
theorem dX8_moreDamp_6 : decode cX8_moreDamp 6 = .ok (.if_icmp .lt 5, 3) := by decide +kernel
theorem dX8_moreDamp_9 : decode cX8_moreDamp 9 = .ok (.iconst 1, 1) := by decide +kernel
theorem dX8_moreDamp_10 : decode cX8_moreDamp 10 = .ok (.ireturn, 1) := by decide +kernel
theorem dX8_moreDamp_11 : decode cX8_moreDamp 11 = .ok (.aload_n 0, 1) := by decide +kernel
theorem dX8_moreDamp_12 : decode cX8_moreDamp 12 = .ok (.dup, 1) := by decide +kernel
theorem dX8_moreDamp_13 : decode cX8_moreDamp 13 = .ok (.getfield 47, 3) := by decide +kernel
theorem dX8_moreDamp_16 : decode cX8_moreDamp 16 = .ok (.iconst 1, 1) := by decide +kernel
theorem dX8_moreDamp_17 : decode cX8_moreDamp 17 = .ok (.iadd, 1) := by decide +kernel
theorem dX8_moreDamp_18 : decode cX8_moreDamp 18 = .ok (.putfield 47, 3) := by decide +kernel
theorem dX8_moreDamp_21 : decode cX8_moreDamp 21 = .ok (.iconst 0, 1) := by decide +kernel
theorem dX8_moreDamp_22 : decode cX8_moreDamp 22 = .ok (.ireturn, 1) := by decide +kernel
theorem dX8_lessDamp_0 : decode cX8_lessDamp 0 = .ok (.aload_n 0, 1) := by decide +kernel
theorem dX8_lessDamp_1 : decode cX8_lessDamp 1 = .ok (.getfield 47, 3) := by decide +kernel
theorem dX8_lessDamp_4 : decode cX8_lessDamp 4 = .ok (.ifCond .gt 5, 3) := by decide +kernel
theorem dX8_lessDamp_7 : decode cX8_lessDamp 7 = .ok (.iconst 2, 1) := by decide +kernel
theorem dX8_lessDamp_8 : decode cX8_lessDamp 8 = .ok (.ireturn, 1) := by decide +kernel
theorem dX8_lessDamp_9 : decode cX8_lessDamp 9 = .ok (.aload_n 0, 1) := by decide +kernel
theorem dX8_lessDamp_10 : decode cX8_lessDamp 10 = .ok (.dup, 1) := by decide +kernel
theorem dX8_lessDamp_11 : decode cX8_lessDamp 11 = .ok (.getfield 47, 3) := by decide +kernel
theorem dX8_lessDamp_14 : decode cX8_lessDamp 14 = .ok (.iconst 1, 1) := by decide +kernel
theorem dX8_lessDamp_15 : decode cX8_lessDamp 15 = .ok (.isub, 1) := by decide +kernel
theorem dX8_lessDamp_16 : decode cX8_lessDamp 16 = .ok (.putfield 47, 3) := by decide +kernel
theorem dX8_lessDamp_19 : decode cX8_lessDamp 19 = .ok (.iconst 0, 1) := by decide +kernel
theorem dX8_lessDamp_20 : decode cX8_lessDamp 20 = .ok (.ireturn, 1) := by decide +kernel
theorem dX8_touch_0 : decode cX8_touch 0 = .ok (.aload_n 0, 1) := by decide +kernel
theorem dX8_touch_1 : decode cX8_touch 1 = .ok (.getfield 50, 3) := by decide +kernel
theorem dX8_touch_4 : decode cX8_touch 4 = .ok (.iconst 1, 1) := by decide +kernel
theorem dX8_touch_5 : decode cX8_touch 5 = .ok (.iload_n 1, 1) := by decide +kernel
theorem dX8_touch_6 : decode cX8_touch 6 = .ok (.ishl, 1) := by decide +kernel
theorem dX8_touch_7 : decode cX8_touch 7 = .ok (.ixor, 1) := by decide +kernel
theorem dX8_touch_8 : decode cX8_touch 8 = .ok (.istore_n 2, 1) := by decide +kernel
theorem dX8_touch_9 : decode cX8_touch 9 = .ok (.aload_n 0, 1) := by decide +kernel
theorem dX8_touch_10 : decode cX8_touch 10 = .ok (.iload_n 2, 1) := by decide +kernel
theorem dX8_touch_11 : decode cX8_touch 11 = .ok (.invokevirtual 93, 3) := by decide +kernel
theorem dX8_touch_14 : decode cX8_touch 14 = .ok (.ifCond .ne 5, 3) := by decide +kernel
theorem dX8_touch_17 : decode cX8_touch 17 = .ok (.iconst 3, 1) := by decide +kernel
theorem dX8_touch_18 : decode cX8_touch 18 = .ok (.ireturn, 1) := by decide +kernel
theorem dX8_touch_19 : decode cX8_touch 19 = .ok (.aload_n 0, 1) := by decide +kernel
theorem dX8_touch_20 : decode cX8_touch 20 = .ok (.iload_n 2, 1) := by decide +kernel
theorem dX8_touch_21 : decode cX8_touch 21 = .ok (.putfield 50, 3) := by decide +kernel
theorem dX8_touch_24 : decode cX8_touch 24 = .ok (.iconst 0, 1) := by decide +kernel
theorem dX8_touch_25 : decode cX8_touch 25 = .ok (.ireturn, 1) := by decide +kernel
theorem dX8_addSight_0 : decode cX8_addSight 0 = .ok (.aload_n 0, 1) := by decide +kernel
theorem dX8_addSight_1 : decode cX8_addSight 1 = .ok (.getfield 53, 3) := by decide +kernel
theorem dX8_addSight_4 : decode cX8_addSight 4 = .ok (.ifCond .lt 12, 3) := by decide +kernel
theorem dX8_addSight_7 : decode cX8_addSight 7 = .ok (.aload_n 0, 1) := by decide +kernel
theorem dX8_addSight_8 : decode cX8_addSight 8 = .ok (.getfield 53, 3) := by decide +kernel
theorem dX8_addSight_11 : decode cX8_addSight 11 = .ok (.bipush 8, 2) := by decide +kernel
theorem dX8_addSight_13 : decode cX8_addSight 13 = .ok (.if_icmp .lt 5, 3) := by decide +kernel
theorem dX8_addSight_16 : decode cX8_addSight 16 = .ok (.iconst 0, 1) := by decide +kernel
theorem dX8_addSight_17 : decode cX8_addSight 17 = .ok (.ireturn, 1) := by decide +kernel
theorem dX8_addSight_18 : decode cX8_addSight 18 = .ok (.aload_n 0, 1) := by decide +kernel
theorem dX8_addSight_19 : decode cX8_addSight 19 = .ok (.getfield 25, 3) := by decide +kernel
theorem dX8_addSight_22 : decode cX8_addSight 22 = .ok (.aload_n 0, 1) := by decide +kernel
theorem dX8_addSight_23 : decode cX8_addSight 23 = .ok (.getfield 53, 3) := by decide +kernel
theorem dX8_addSight_26 : decode cX8_addSight 26 = .ok (.iload_n 1, 1) := by decide +kernel
theorem dX8_addSight_27 : decode cX8_addSight 27 = .ok (.iastore, 1) := by decide +kernel
theorem dX8_addSight_28 : decode cX8_addSight 28 = .ok (.aload_n 0, 1) := by decide +kernel
theorem dX8_addSight_29 : decode cX8_addSight 29 = .ok (.getfield 28, 3) := by decide +kernel
theorem dX8_addSight_32 : decode cX8_addSight 32 = .ok (.aload_n 0, 1) := by decide +kernel
theorem dX8_addSight_33 : decode cX8_addSight 33 = .ok (.getfield 53, 3) := by decide +kernel
theorem dX8_addSight_36 : decode cX8_addSight 36 = .ok (.iload_n 2, 1) := by decide +kernel
theorem dX8_addSight_37 : decode cX8_addSight 37 = .ok (.iastore, 1) := by decide +kernel
theorem dX8_addSight_38 : decode cX8_addSight 38 = .ok (.aload_n 0, 1) := by decide +kernel
theorem dX8_addSight_39 : decode cX8_addSight 39 = .ok (.dup, 1) := by decide +kernel
theorem dX8_addSight_40 : decode cX8_addSight 40 = .ok (.getfield 53, 3) := by decide +kernel
theorem dX8_addSight_43 : decode cX8_addSight 43 = .ok (.iconst 1, 1) := by decide +kernel
theorem dX8_addSight_44 : decode cX8_addSight 44 = .ok (.iadd, 1) := by decide +kernel
theorem dX8_addSight_45 : decode cX8_addSight 45 = .ok (.putfield 53, 3) := by decide +kernel
theorem dX8_addSight_48 : decode cX8_addSight 48 = .ok (.iconst 1, 1) := by decide +kernel
theorem dX8_addSight_49 : decode cX8_addSight 49 = .ok (.ireturn, 1) := by decide +kernel
theorem dX8_isSeen_0 : decode cX8_isSeen 0 = .ok (.iconst 0, 1) := by decide +kernel
theorem dX8_isSeen_1 : decode cX8_isSeen 1 = .ok (.istore_n 2, 1) := by decide +kernel
theorem dX8_isSeen_2 : decode cX8_isSeen 2 = .ok (.iload_n 2, 1) := by decide +kernel
theorem dX8_isSeen_3 : decode cX8_isSeen 3 = .ok (.aload_n 0, 1) := by decide +kernel
theorem dX8_isSeen_4 : decode cX8_isSeen 4 = .ok (.getfield 53, 3) := by decide +kernel
theorem dX8_isSeen_7 : decode cX8_isSeen 7 = .ok (.if_icmp .ge 27, 3) := by decide +kernel
theorem dX8_isSeen_10 : decode cX8_isSeen 10 = .ok (.iload_n 2, 1) := by decide +kernel
theorem dX8_isSeen_11 : decode cX8_isSeen 11 = .ok (.bipush 8, 2) := by decide +kernel
theorem dX8_isSeen_13 : decode cX8_isSeen 13 = .ok (.if_icmp .ge 21, 3) := by decide +kernel
theorem dX8_isSeen_16 : decode cX8_isSeen 16 = .ok (.aload_n 0, 1) := by decide +kernel
theorem dX8_isSeen_17 : decode cX8_isSeen 17 = .ok (.getfield 25, 3) := by decide +kernel
theorem dX8_isSeen_20 : decode cX8_isSeen 20 = .ok (.iload_n 2, 1) := by decide +kernel
theorem dX8_isSeen_21 : decode cX8_isSeen 21 = .ok (.iaload, 1) := by decide +kernel
theorem dX8_isSeen_22 : decode cX8_isSeen 22 = .ok (.iload_n 1, 1) := by decide +kernel
theorem dX8_isSeen_23 : decode cX8_isSeen 23 = .ok (.if_icmp .ne 5, 3) := by decide +kernel
theorem dX8_isSeen_26 : decode cX8_isSeen 26 = .ok (.iconst 1, 1) := by decide +kernel
theorem dX8_isSeen_27 : decode cX8_isSeen 27 = .ok (.ireturn, 1) := by decide +kernel
theorem dX8_isSeen_28 : decode cX8_isSeen 28 = .ok (.iinc 2 1, 3) := by decide +kernel
theorem dX8_isSeen_31 : decode cX8_isSeen 31 = .ok (.goto (-29), 3) := by decide +kernel
theorem dX8_isSeen_34 : decode cX8_isSeen 34 = .ok (.iconst 0, 1) := by decide +kernel
theorem dX8_isSeen_35 : decode cX8_isSeen 35 = .ok (.ireturn, 1) := by decide +kernel
theorem dX8_agreesWithSights_0 : decode cX8_agreesWithSights 0 = .ok (.iconst 0, 1) := by decide +kernel
theorem dX8_agreesWithSights_1 : decode cX8_agreesWithSights 1 = .ok (.istore_n 2, 1) := by decide +kernel
theorem dX8_agreesWithSights_2 : decode cX8_agreesWithSights 2 = .ok (.iload_n 2, 1) := by decide +kernel
theorem dX8_agreesWithSights_3 : decode cX8_agreesWithSights 3 = .ok (.aload_n 0, 1) := by decide +kernel
theorem dX8_agreesWithSights_4 : decode cX8_agreesWithSights 4 = .ok (.getfield 53, 3) := by decide +kernel
theorem dX8_agreesWithSights_7 : decode cX8_agreesWithSights 7 = .ok (.if_icmp .ge 37, 3) := by decide +kernel
theorem dX8_agreesWithSights_10 : decode cX8_agreesWithSights 10 = .ok (.iload_n 2, 1) := by decide +kernel
theorem dX8_agreesWithSights_11 : decode cX8_agreesWithSights 11 = .ok (.bipush 8, 2) := by decide +kernel
theorem dX8_agreesWithSights_13 : decode cX8_agreesWithSights 13 = .ok (.if_icmp .ge 31, 3) := by decide +kernel
theorem dX8_agreesWithSights_16 : decode cX8_agreesWithSights 16 = .ok (.aload_n 0, 1) := by decide +kernel
theorem dX8_agreesWithSights_17 : decode cX8_agreesWithSights 17 = .ok (.aload_n 0, 1) := by decide +kernel
theorem dX8_agreesWithSights_18 : decode cX8_agreesWithSights 18 = .ok (.getfield 25, 3) := by decide +kernel
theorem dX8_agreesWithSights_21 : decode cX8_agreesWithSights 21 = .ok (.iload_n 2, 1) := by decide +kernel
theorem dX8_agreesWithSights_22 : decode cX8_agreesWithSights 22 = .ok (.iaload, 1) := by decide +kernel
theorem dX8_agreesWithSights_23 : decode cX8_agreesWithSights 23 = .ok (.iload_n 1, 1) := by decide +kernel
theorem dX8_agreesWithSights_24 : decode cX8_agreesWithSights 24 = .ok (.invokevirtual 96, 3) := by decide +kernel
theorem dX8_agreesWithSights_27 : decode cX8_agreesWithSights 27 = .ok (.aload_n 0, 1) := by decide +kernel
theorem dX8_agreesWithSights_28 : decode cX8_agreesWithSights 28 = .ok (.getfield 28, 3) := by decide +kernel
theorem dX8_agreesWithSights_31 : decode cX8_agreesWithSights 31 = .ok (.iload_n 2, 1) := by decide +kernel
theorem dX8_agreesWithSights_32 : decode cX8_agreesWithSights 32 = .ok (.iaload, 1) := by decide +kernel
theorem dX8_agreesWithSights_33 : decode cX8_agreesWithSights 33 = .ok (.if_icmp .eq 5, 3) := by decide +kernel
theorem dX8_agreesWithSights_36 : decode cX8_agreesWithSights 36 = .ok (.iconst 0, 1) := by decide +kernel
theorem dX8_agreesWithSights_37 : decode cX8_agreesWithSights 37 = .ok (.ireturn, 1) := by decide +kernel
theorem dX8_agreesWithSights_38 : decode cX8_agreesWithSights 38 = .ok (.iinc 2 1, 3) := by decide +kernel
theorem dX8_agreesWithSights_41 : decode cX8_agreesWithSights 41 = .ok (.goto (-39), 3) := by decide +kernel
theorem dX8_agreesWithSights_44 : decode cX8_agreesWithSights 44 = .ok (.iconst 1, 1) := by decide +kernel
theorem dX8_agreesWithSights_45 : decode cX8_agreesWithSights 45 = .ok (.ireturn, 1) := by decide +kernel
theorem dX8_worth_0 : decode cX8_worth 0 = .ok (.iload_n 1, 1) := by decide +kernel
theorem dX8_worth_1 : decode cX8_worth 1 = .ok (.bipush 10, 2) := by decide +kernel
theorem dX8_worth_3 : decode cX8_worth 3 = .ok (.idiv, 1) := by decide +kernel
theorem dX8_worth_4 : decode cX8_worth 4 = .ok (.bipush 10, 2) := by decide +kernel
theorem dX8_worth_6 : decode cX8_worth 6 = .ok (.imul, 1) := by decide +kernel
theorem dX8_worth_7 : decode cX8_worth 7 = .ok (.aload_n 0, 1) := by decide +kernel
theorem dX8_worth_8 : decode cX8_worth 8 = .ok (.getfield 15, 3) := by decide +kernel
theorem dX8_worth_11 : decode cX8_worth 11 = .ok (.iload_n 1, 1) := by decide +kernel
theorem dX8_worth_12 : decode cX8_worth 12 = .ok (.imul, 1) := by decide +kernel
theorem dX8_worth_13 : decode cX8_worth 13 = .ok (.isub, 1) := by decide +kernel
theorem dX8_worth_14 : decode cX8_worth 14 = .ok (.ireturn, 1) := by decide +kernel
theorem dX9_init_0 : decode cX9_init 0 = .ok (.aload_n 0, 1) := by decide +kernel
theorem dX9_init_1 : decode cX9_init 1 = .ok (.invokespecial 3, 3) := by decide +kernel
theorem dX9_init_4 : decode cX9_init 4 = .ok (.aload_n 0, 1) := by decide +kernel
theorem dX9_init_5 : decode cX9_init 5 = .ok (.new 9, 3) := by decide +kernel
theorem dX9_init_8 : decode cX9_init 8 = .ok (.dup, 1) := by decide +kernel
theorem dX9_init_9 : decode cX9_init 9 = .ok (.invokespecial 11, 3) := by decide +kernel
theorem dX9_init_12 : decode cX9_init 12 = .ok (.putfield 12, 3) := by decide +kernel
theorem dX9_init_15 : decode cX9_init 15 = .ok (.aload_n 0, 1) := by decide +kernel
theorem dX9_init_16 : decode cX9_init 16 = .ok (.new 9, 3) := by decide +kernel
theorem dX9_init_19 : decode cX9_init 19 = .ok (.dup, 1) := by decide +kernel
theorem dX9_init_20 : decode cX9_init 20 = .ok (.invokespecial 11, 3) := by decide +kernel
