theorem dX9_init_23 : decode cX9_init 23 = .ok (.putfield 16, 3) := by decide +kernel
theorem dX9_init_26 : decode cX9_init 26 = .ok (.aload_n 0, 1) := by decide +kernel
theorem dX9_init_27 : decode cX9_init 27 = .ok (.new 9, 3) := by decide +kernel
theorem dX9_init_30 : decode cX9_init 30 = .ok (.dup, 1) := by decide +kernel
theorem dX9_init_31 : decode cX9_init 31 = .ok (.invokespecial 11, 3) := by decide +kernel
theorem dX9_init_34 : decode cX9_init 34 = .ok (.putfield 19, 3) := by decide +kernel
theorem dX9_init_37 : decode cX9_init 37 = .ok (.aload_n 0, 1) := by decide +kernel
theorem dX9_init_38 : decode cX9_init 38 = .ok (.iconst 0, 1) := by decide +kernel
theorem dX9_init_39 : decode cX9_init 39 = .ok (.putfield 22, 3) := by decide +kernel
theorem dX9_init_42 : decode cX9_init 42 = .ok (.aload_n 0, 1) := by decide +kernel
theorem dX9_init_43 : decode cX9_init 43 = .ok (.iconst 0, 1) := by decide +kernel
theorem dX9_init_44 : decode cX9_init 44 = .ok (.putfield 26, 3) := by decide +kernel
theorem dX9_init_47 : decode cX9_init 47 = .ok (.aload_n 0, 1) := by decide +kernel
theorem dX9_init_48 : decode cX9_init 48 = .ok (.new 29, 3) := by decide +kernel
theorem dX9_init_51 : decode cX9_init 51 = .ok (.dup, 1) := by decide +kernel
theorem dX9_init_52 : decode cX9_init 52 = .ok (.invokespecial 31, 3) := by decide +kernel
theorem dX9_init_55 : decode cX9_init 55 = .ok (.putfield 32, 3) := by decide +kernel
theorem dX9_init_58 : decode cX9_init 58 = .ok (.aload_n 0, 1) := by decide +kernel
theorem dX9_init_59 : decode cX9_init 59 = .ok (.new 36, 3) := by decide +kernel
theorem dX9_init_62 : decode cX9_init 62 = .ok (.dup, 1) := by decide +kernel
theorem dX9_init_63 : decode cX9_init 63 = .ok (.invokespecial 38, 3) := by decide +kernel
theorem dX9_init_66 : decode cX9_init 66 = .ok (.putfield 39, 3) := by decide +kernel
theorem dX9_init_69 : decode cX9_init 69 = .ok (.aload_n 0, 1) := by decide +kernel
theorem dX9_init_70 : decode cX9_init 70 = .ok (.new 43, 3) := by decide +kernel
theorem dX9_init_73 : decode cX9_init 73 = .ok (.dup, 1) := by decide +kernel
theorem dX9_init_74 : decode cX9_init 74 = .ok (.invokespecial 45, 3) := by decide +kernel
theorem dX9_init_77 : decode cX9_init 77 = .ok (.putfield 46, 3) := by decide +kernel
theorem dX9_init_80 : decode cX9_init 80 = .ok (.aload_n 0, 1) := by decide +kernel
theorem dX9_init_81 : decode cX9_init 81 = .ok (.new 50, 3) := by decide +kernel
theorem dX9_init_84 : decode cX9_init 84 = .ok (.dup, 1) := by decide +kernel
theorem dX9_init_85 : decode cX9_init 85 = .ok (.invokespecial 52, 3) := by decide +kernel
theorem dX9_init_88 : decode cX9_init 88 = .ok (.putfield 53, 3) := by decide +kernel
theorem dX9_init_91 : decode cX9_init 91 = .ok (.aload_n 0, 1) := by decide +kernel
theorem dX9_init_92 : decode cX9_init 92 = .ok (.new 57, 3) := by decide +kernel
theorem dX9_init_95 : decode cX9_init 95 = .ok (.dup, 1) := by decide +kernel
theorem dX9_init_96 : decode cX9_init 96 = .ok (.invokespecial 59, 3) := by decide +kernel
theorem dX9_init_99 : decode cX9_init 99 = .ok (.putfield 60, 3) := by decide +kernel
theorem dX9_init_102 : decode cX9_init 102 = .ok (.aload_n 0, 1) := by decide +kernel
theorem dX9_init_103 : decode cX9_init 103 = .ok (.new 64, 3) := by decide +kernel
theorem dX9_init_106 : decode cX9_init 106 = .ok (.dup, 1) := by decide +kernel
theorem dX9_init_107 : decode cX9_init 107 = .ok (.invokespecial 66, 3) := by decide +kernel
theorem dX9_init_110 : decode cX9_init 110 = .ok (.putfield 67, 3) := by decide +kernel
theorem dX9_init_113 : decode cX9_init 113 = .ok (.return_, 1) := by decide +kernel
theorem dX9_windows_0 : decode cX9_windows 0 = .ok (.iload_n 1, 1) := by decide +kernel
theorem dX9_windows_1 : decode cX9_windows 1 = .ok (.iconst 2, 1) := by decide +kernel
theorem dX9_windows_2 : decode cX9_windows 2 = .ok (.bipush 10, 2) := by decide +kernel
theorem dX9_windows_4 : decode cX9_windows 4 = .ok (.invokestatic 71, 3) := by decide +kernel
theorem dX9_windows_7 : decode cX9_windows 7 = .ok (.ifCond .eq 6, 3) := by decide +kernel
theorem dX9_windows_10 : decode cX9_windows 10 = .ok (.bipush (-2), 2) := by decide +kernel
theorem dX9_windows_12 : decode cX9_windows 12 = .ok (.ireturn, 1) := by decide +kernel
theorem dX9_windows_13 : decode cX9_windows 13 = .ok (.aload_n 0, 1) := by decide +kernel
theorem dX9_windows_14 : decode cX9_windows 14 = .ok (.getfield 12, 3) := by decide +kernel
theorem dX9_windows_17 : decode cX9_windows 17 = .ok (.getfield 75, 3) := by decide +kernel
theorem dX9_windows_20 : decode cX9_windows 20 = .ok (.istore_n 2, 1) := by decide +kernel
theorem dX9_windows_21 : decode cX9_windows 21 = .ok (.aload_n 0, 1) := by decide +kernel
theorem dX9_windows_22 : decode cX9_windows 22 = .ok (.getfield 12, 3) := by decide +kernel
theorem dX9_windows_25 : decode cX9_windows 25 = .ok (.iload_n 1, 1) := by decide +kernel
theorem dX9_windows_26 : decode cX9_windows 26 = .ok (.invokevirtual 79, 3) := by decide +kernel
theorem dX9_windows_29 : decode cX9_windows 29 = .ok (.iload_n 2, 1) := by decide +kernel
theorem dX9_windows_30 : decode cX9_windows 30 = .ok (.ireturn, 1) := by decide +kernel
theorem dX9_gap_0 : decode cX9_gap 0 = .ok (.aload_n 0, 1) := by decide +kernel
theorem dX9_gap_1 : decode cX9_gap 1 = .ok (.getfield 12, 3) := by decide +kernel
theorem dX9_gap_4 : decode cX9_gap 4 = .ok (.iload_n 1, 1) := by decide +kernel
theorem dX9_gap_5 : decode cX9_gap 5 = .ok (.invokevirtual 83, 3) := by decide +kernel
theorem dX9_gap_8 : decode cX9_gap 8 = .ok (.ifCond .ne 5, 3) := by decide +kernel
theorem dX9_gap_11 : decode cX9_gap 11 = .ok (.iconst (-1), 1) := by decide +kernel
theorem dX9_gap_12 : decode cX9_gap 12 = .ok (.ireturn, 1) := by decide +kernel
theorem dX9_gap_13 : decode cX9_gap 13 = .ok (.iload_n 2, 1) := by decide +kernel
theorem dX9_gap_14 : decode cX9_gap 14 = .ok (.iconst 1, 1) := by decide +kernel
theorem dX9_gap_15 : decode cX9_gap 15 = .ok (.bipush 9, 2) := by decide +kernel
theorem dX9_gap_17 : decode cX9_gap 17 = .ok (.invokestatic 71, 3) := by decide +kernel
theorem dX9_gap_20 : decode cX9_gap 20 = .ok (.ifCond .eq 6, 3) := by decide +kernel
theorem dX9_gap_23 : decode cX9_gap 23 = .ok (.bipush (-2), 2) := by decide +kernel
theorem dX9_gap_25 : decode cX9_gap 25 = .ok (.ireturn, 1) := by decide +kernel
theorem dX9_gap_26 : decode cX9_gap 26 = .ok (.aload_n 0, 1) := by decide +kernel
theorem dX9_gap_27 : decode cX9_gap 27 = .ok (.getfield 12, 3) := by decide +kernel
theorem dX9_gap_30 : decode cX9_gap 30 = .ok (.getfield 87, 3) := by decide +kernel
theorem dX9_gap_33 : decode cX9_gap 33 = .ok (.iload_n 1, 1) := by decide +kernel
theorem dX9_gap_34 : decode cX9_gap 34 = .ok (.iaload, 1) := by decide +kernel
theorem dX9_gap_35 : decode cX9_gap 35 = .ok (.istore_n 3, 1) := by decide +kernel
theorem dX9_gap_36 : decode cX9_gap 36 = .ok (.aload_n 0, 1) := by decide +kernel
theorem dX9_gap_37 : decode cX9_gap 37 = .ok (.getfield 12, 3) := by decide +kernel
theorem dX9_gap_40 : decode cX9_gap 40 = .ok (.getfield 87, 3) := by decide +kernel
theorem dX9_gap_43 : decode cX9_gap 43 = .ok (.iload_n 1, 1) := by decide +kernel
theorem dX9_gap_44 : decode cX9_gap 44 = .ok (.iload_n 2, 1) := by decide +kernel
theorem dX9_gap_45 : decode cX9_gap 45 = .ok (.iastore, 1) := by decide +kernel
theorem dX9_gap_46 : decode cX9_gap 46 = .ok (.aload_n 0, 1) := by decide +kernel
theorem dX9_gap_47 : decode cX9_gap 47 = .ok (.getfield 12, 3) := by decide +kernel
theorem dX9_gap_50 : decode cX9_gap 50 = .ok (.invokevirtual 91, 3) := by decide +kernel
theorem dX9_gap_53 : decode cX9_gap 53 = .ok (.iload_n 3, 1) := by decide +kernel
theorem dX9_gap_54 : decode cX9_gap 54 = .ok (.ireturn, 1) := by decide +kernel
theorem dX9_set_0 : decode cX9_set 0 = .ok (.iload_n 1, 1) := by decide +kernel
theorem dX9_set_1 : decode cX9_set 1 = .ok (.tableswitch 45 0 2 #[27, 33, 39], 27) := by decide +kernel
theorem dX9_set_28 : decode cX9_set 28 = .ok (.aload_n 0, 1) := by decide +kernel
theorem dX9_set_29 : decode cX9_set 29 = .ok (.iload_n 2, 1) := by decide +kernel
theorem dX9_set_30 : decode cX9_set 30 = .ok (.invokevirtual 94, 3) := by decide +kernel
theorem dX9_set_33 : decode cX9_set 33 = .ok (.ireturn, 1) := by decide +kernel
theorem dX9_set_34 : decode cX9_set 34 = .ok (.aload_n 0, 1) := by decide +kernel
theorem dX9_set_35 : decode cX9_set 35 = .ok (.iload_n 2, 1) := by decide +kernel
theorem dX9_set_36 : decode cX9_set 36 = .ok (.invokevirtual 98, 3) := by decide +kernel
theorem dX9_set_39 : decode cX9_set 39 = .ok (.ireturn, 1) := by decide +kernel
theorem dX9_set_40 : decode cX9_set 40 = .ok (.aload_n 0, 1) := by decide +kernel
theorem dX9_set_41 : decode cX9_set 41 = .ok (.iload_n 2, 1) := by decide +kernel
theorem dX9_set_42 : decode cX9_set 42 = .ok (.invokevirtual 101, 3) := by decide +kernel
theorem dX9_set_45 : decode cX9_set 45 = .ok (.ireturn, 1) := by decide +kernel
theorem dX9_set_46 : decode cX9_set 46 = .ok (.bipush (-2), 2) := by decide +kernel
theorem dX9_set_48 : decode cX9_set 48 = .ok (.ireturn, 1) := by decide +kernel
theorem dX9_say_0 : decode cX9_say 0 = .ok (.iload_n 1, 1) := by decide +kernel
theorem dX9_say_1 : decode cX9_say 1 = .ok (.bipush 33, 2) := by decide +kernel
theorem dX9_say_3 : decode cX9_say 3 = .ok (.bipush 126, 2) := by decide +kernel
theorem dX9_say_5 : decode cX9_say 5 = .ok (.invokestatic 71, 3) := by decide +kernel
theorem dX9_say_8 : decode cX9_say 8 = .ok (.ifCond .eq 6, 3) := by decide +kernel
theorem dX9_say_11 : decode cX9_say 11 = .ok (.bipush (-2), 2) := by decide +kernel
theorem dX9_say_13 : decode cX9_say 13 = .ok (.ireturn, 1) := by decide +kernel
theorem dX9_say_14 : decode cX9_say 14 = .ok (.aload_n 0, 1) := by decide +kernel
theorem dX9_say_15 : decode cX9_say 15 = .ok (.getfield 32, 3) := by decide +kernel
theorem dX9_say_18 : decode cX9_say 18 = .ok (.iload_n 1, 1) := by decide +kernel
theorem dX9_say_19 : decode cX9_say 19 = .ok (.invokevirtual 104, 3) := by decide +kernel
theorem dX9_say_22 : decode cX9_say 22 = .ok (.ifCond .eq 13, 3) := by decide +kernel
theorem dX9_say_25 : decode cX9_say 25 = .ok (.aload_n 0, 1) := by decide +kernel
theorem dX9_say_26 : decode cX9_say 26 = .ok (.getfield 32, 3) := by decide +kernel
theorem dX9_say_29 : decode cX9_say 29 = .ok (.getfield 107, 3) := by decide +kernel
theorem dX9_say_32 : decode cX9_say 32 = .ok (.goto 5, 3) := by decide +kernel
theorem dX9_say_35 : decode cX9_say 35 = .ok (.bipush (-4), 2) := by decide +kernel
theorem dX9_say_37 : decode cX9_say 37 = .ok (.ireturn, 1) := by decide +kernel
theorem dX9_wipe_0 : decode cX9_wipe 0 = .ok (.aload_n 0, 1) := by decide +kernel
theorem dX9_wipe_1 : decode cX9_wipe 1 = .ok (.getfield 32, 3) := by decide +kernel
theorem dX9_wipe_4 : decode cX9_wipe 4 = .ok (.invokevirtual 108, 3) := by decide +kernel
theorem dX9_wipe_7 : decode cX9_wipe 7 = .ok (.ireturn, 1) := by decide +kernel
theorem dX9_fault_0 : decode cX9_fault 0 = .ok (.iload_n 1, 1) := by decide +kernel
theorem dX9_fault_1 : decode cX9_fault 1 = .ok (.iconst 0, 1) := by decide +kernel
theorem dX9_fault_2 : decode cX9_fault 2 = .ok (.iconst 1, 1) := by decide +kernel
theorem dX9_fault_3 : decode cX9_fault 3 = .ok (.invokestatic 71, 3) := by decide +kernel
theorem dX9_fault_6 : decode cX9_fault 6 = .ok (.ifCond .eq 6, 3) := by decide +kernel
theorem dX9_fault_9 : decode cX9_fault 9 = .ok (.bipush (-2), 2) := by decide +kernel
theorem dX9_fault_11 : decode cX9_fault 11 = .ok (.ireturn, 1) := by decide +kernel
theorem dX9_fault_12 : decode cX9_fault 12 = .ok (.iload_n 1, 1) := by decide +kernel
theorem dX9_fault_13 : decode cX9_fault 13 = .ok (.ifCond .ne 20, 3) := by decide +kernel
theorem dX9_fault_16 : decode cX9_fault 16 = .ok (.aload_n 0, 1) := by decide +kernel
theorem dX9_fault_17 : decode cX9_fault 17 = .ok (.getfield 32, 3) := by decide +kernel
theorem dX9_fault_20 : decode cX9_fault 20 = .ok (.aload_n 0, 1) := by decide +kernel
theorem dX9_fault_21 : decode cX9_fault 21 = .ok (.getfield 12, 3) := by decide +kernel
theorem dX9_fault_24 : decode cX9_fault 24 = .ok (.getfield 75, 3) := by decide +kernel
theorem dX9_fault_27 : decode cX9_fault 27 = .ok (.invokevirtual 112, 3) := by decide +kernel
theorem dX9_fault_30 : decode cX9_fault 30 = .ok (.goto 10, 3) := by decide +kernel
theorem dX9_fault_33 : decode cX9_fault 33 = .ok (.aload_n 0, 1) := by decide +kernel
theorem dX9_fault_34 : decode cX9_fault 34 = .ok (.getfield 32, 3) := by decide +kernel
theorem dX9_fault_37 : decode cX9_fault 37 = .ok (.invokevirtual 115, 3) := by decide +kernel
theorem dX9_fault_40 : decode cX9_fault 40 = .ok (.ireturn, 1) := by decide +kernel
theorem dX9_judge_0 : decode cX9_judge 0 = .ok (.iload_n 1, 1) := by decide +kernel
theorem dX9_judge_1 : decode cX9_judge 1 = .ok (.iconst 0, 1) := by decide +kernel
theorem dX9_judge_2 : decode cX9_judge 2 = .ok (.iconst 1, 1) := by decide +kernel
theorem dX9_judge_3 : decode cX9_judge 3 = .ok (.invokestatic 71, 3) := by decide +kernel
theorem dX9_judge_6 : decode cX9_judge 6 = .ok (.ifCond .eq 6, 3) := by decide +kernel
theorem dX9_judge_9 : decode cX9_judge 9 = .ok (.bipush (-2), 2) := by decide +kernel
theorem dX9_judge_11 : decode cX9_judge 11 = .ok (.ireturn, 1) := by decide +kernel
theorem dX9_judge_12 : decode cX9_judge 12 = .ok (.aload_n 0, 1) := by decide +kernel
theorem dX9_judge_13 : decode cX9_judge 13 = .ok (.getfield 32, 3) := by decide +kernel
theorem dX9_judge_16 : decode cX9_judge 16 = .ok (.aload_n 0, 1) := by decide +kernel
theorem dX9_judge_17 : decode cX9_judge 17 = .ok (.getfield 12, 3) := by decide +kernel
theorem dX9_judge_20 : decode cX9_judge 20 = .ok (.getfield 75, 3) := by decide +kernel
theorem dX9_judge_23 : decode cX9_judge 23 = .ok (.invokevirtual 112, 3) := by decide +kernel
theorem dX9_judge_26 : decode cX9_judge 26 = .ok (.bipush (-6), 2) := by decide +kernel
theorem dX9_judge_28 : decode cX9_judge 28 = .ok (.if_icmp .eq 6, 3) := by decide +kernel
theorem dX9_judge_31 : decode cX9_judge 31 = .ok (.bipush (-5), 2) := by decide +kernel
theorem dX9_judge_33 : decode cX9_judge 33 = .ok (.ireturn, 1) := by decide +kernel
theorem dX9_judge_34 : decode cX9_judge 34 = .ok (.aload_n 0, 1) := by decide +kernel
theorem dX9_judge_35 : decode cX9_judge 35 = .ok (.getfield 39, 3) := by decide +kernel
theorem dX9_judge_38 : decode cX9_judge 38 = .ok (.aload_n 0, 1) := by decide +kernel
theorem dX9_judge_39 : decode cX9_judge 39 = .ok (.getfield 32, 3) := by decide +kernel
theorem dX9_judge_42 : decode cX9_judge 42 = .ok (.aload_n 0, 1) := by decide +kernel
theorem dX9_judge_43 : decode cX9_judge 43 = .ok (.getfield 12, 3) := by decide +kernel
theorem dX9_judge_46 : decode cX9_judge 46 = .ok (.iconst 0, 1) := by decide +kernel
theorem dX9_judge_47 : decode cX9_judge 47 = .ok (.invokevirtual 118, 3) := by decide +kernel
theorem dX9_judge_50 : decode cX9_judge 50 = .ok (.aload_n 0, 1) := by decide +kernel
theorem dX9_judge_51 : decode cX9_judge 51 = .ok (.getfield 39, 3) := by decide +kernel
theorem dX9_judge_54 : decode cX9_judge 54 = .ok (.getfield 122, 3) := by decide +kernel
theorem dX9_judge_57 : decode cX9_judge 57 = .ok (.ifCond .ne 6, 3) := by decide +kernel
theorem dX9_judge_60 : decode cX9_judge 60 = .ok (.bipush (-6), 2) := by decide +kernel
theorem dX9_judge_62 : decode cX9_judge 62 = .ok (.ireturn, 1) := by decide +kernel
theorem dX9_judge_63 : decode cX9_judge 63 = .ok (.iload_n 1, 1) := by decide +kernel
theorem dX9_judge_64 : decode cX9_judge 64 = .ok (.ifCond .ne 13, 3) := by decide +kernel
theorem dX9_judge_67 : decode cX9_judge 67 = .ok (.aload_n 0, 1) := by decide +kernel
theorem dX9_judge_68 : decode cX9_judge 68 = .ok (.getfield 39, 3) := by decide +kernel
theorem dX9_judge_71 : decode cX9_judge 71 = .ok (.getfield 125, 3) := by decide +kernel
theorem dX9_judge_74 : decode cX9_judge 74 = .ok (.goto 10, 3) := by decide +kernel
theorem dX9_judge_77 : decode cX9_judge 77 = .ok (.aload_n 0, 1) := by decide +kernel
theorem dX9_judge_78 : decode cX9_judge 78 = .ok (.getfield 39, 3) := by decide +kernel
theorem dX9_judge_81 : decode cX9_judge 81 = .ok (.getfield 122, 3) := by decide +kernel
theorem dX9_judge_84 : decode cX9_judge 84 = .ok (.ireturn, 1) := by decide +kernel
theorem dX9_done_0 : decode cX9_done 0 = .ok (.aload_n 0, 1) := by decide +kernel
theorem dX9_done_1 : decode cX9_done 1 = .ok (.iconst 0, 1) := by decide +kernel
theorem dX9_done_2 : decode cX9_done 2 = .ok (.invokevirtual 128, 3) := by decide +kernel
theorem dX9_done_5 : decode cX9_done 5 = .ok (.ifCond .ne 6, 3) := by decide +kernel
theorem dX9_done_8 : decode cX9_done 8 = .ok (.bipush (-5), 2) := by decide +kernel
theorem dX9_done_10 : decode cX9_done 10 = .ok (.ireturn, 1) := by decide +kernel
theorem dX9_done_11 : decode cX9_done 11 = .ok (.aload_n 0, 1) := by decide +kernel
theorem dX9_done_12 : decode cX9_done 12 = .ok (.getfield 12, 3) := by decide +kernel
theorem dX9_done_15 : decode cX9_done 15 = .ok (.aload_n 0, 1) := by decide +kernel
theorem dX9_done_16 : decode cX9_done 16 = .ok (.getfield 39, 3) := by decide +kernel
theorem dX9_done_19 : decode cX9_done 19 = .ok (.getfield 132, 3) := by decide +kernel
theorem dX9_done_22 : decode cX9_done 22 = .ok (.getfield 135, 3) := by decide +kernel
theorem dX9_done_25 : decode cX9_done 25 = .ok (.putfield 135, 3) := by decide +kernel
theorem dX9_done_28 : decode cX9_done 28 = .ok (.aload_n 0, 1) := by decide +kernel
theorem dX9_done_29 : decode cX9_done 29 = .ok (.getfield 12, 3) := by decide +kernel
theorem dX9_done_32 : decode cX9_done 32 = .ok (.aload_n 0, 1) := by decide +kernel
theorem dX9_done_33 : decode cX9_done 33 = .ok (.getfield 39, 3) := by decide +kernel
theorem dX9_done_36 : decode cX9_done 36 = .ok (.getfield 132, 3) := by decide +kernel
theorem dX9_done_39 : decode cX9_done 39 = .ok (.getfield 138, 3) := by decide +kernel
theorem dX9_done_42 : decode cX9_done 42 = .ok (.putfield 138, 3) := by decide +kernel
theorem dX9_done_45 : decode cX9_done 45 = .ok (.aload_n 0, 1) := by decide +kernel
theorem dX9_done_46 : decode cX9_done 46 = .ok (.getfield 32, 3) := by decide +kernel
theorem dX9_done_49 : decode cX9_done 49 = .ok (.invokevirtual 108, 3) := by decide +kernel
theorem dX9_done_52 : decode cX9_done 52 = .ok (.ireturn, 1) := by decide +kernel
theorem dX9_hears_0 : decode cX9_hears 0 = .ok (.aload_n 0, 1) := by decide +kernel
theorem dX9_hears_1 : decode cX9_hears 1 = .ok (.getfield 12, 3) := by decide +kernel
theorem dX9_hears_4 : decode cX9_hears 4 = .ok (.iload_n 1, 1) := by decide +kernel
theorem dX9_hears_5 : decode cX9_hears 5 = .ok (.invokevirtual 83, 3) := by decide +kernel
theorem dX9_hears_8 : decode cX9_hears 8 = .ok (.ifCond .ne 5, 3) := by decide +kernel
theorem dX9_hears_11 : decode cX9_hears 11 = .ok (.iconst (-1), 1) := by decide +kernel
theorem dX9_hears_12 : decode cX9_hears 12 = .ok (.ireturn, 1) := by decide +kernel
theorem dX9_hears_13 : decode cX9_hears 13 = .ok (.aload_n 0, 1) := by decide +kernel
theorem dX9_hears_14 : decode cX9_hears 14 = .ok (.getfield 12, 3) := by decide +kernel
theorem dX9_hears_17 : decode cX9_hears 17 = .ok (.iload_n 1, 1) := by decide +kernel
theorem dX9_hears_18 : decode cX9_hears 18 = .ok (.aload_n 0, 1) := by decide +kernel
theorem dX9_hears_19 : decode cX9_hears 19 = .ok (.getfield 12, 3) := by decide +kernel
theorem dX9_hears_22 : decode cX9_hears 22 = .ok (.getfield 135, 3) := by decide +kernel
theorem dX9_hears_25 : decode cX9_hears 25 = .ok (.invokevirtual 141, 3) := by decide +kernel
theorem dX9_hears_28 : decode cX9_hears 28 = .ok (.ireturn, 1) := by decide +kernel
theorem dX9_behind_0 : decode cX9_behind 0 = .ok (.aload_n 0, 1) := by decide +kernel
theorem dX9_behind_1 : decode cX9_behind 1 = .ok (.getfield 12, 3) := by decide +kernel
theorem dX9_behind_4 : decode cX9_behind 4 = .ok (.iload_n 1, 1) := by decide +kernel
theorem dX9_behind_5 : decode cX9_behind 5 = .ok (.invokevirtual 83, 3) := by decide +kernel
theorem dX9_behind_8 : decode cX9_behind 8 = .ok (.ifCond .ne 5, 3) := by decide +kernel
theorem dX9_behind_11 : decode cX9_behind 11 = .ok (.iconst (-1), 1) := by decide +kernel
theorem dX9_behind_12 : decode cX9_behind 12 = .ok (.ireturn, 1) := by decide +kernel
theorem dX9_behind_13 : decode cX9_behind 13 = .ok (.aload_n 0, 1) := by decide +kernel
theorem dX9_behind_14 : decode cX9_behind 14 = .ok (.iconst 0, 1) := by decide +kernel
theorem dX9_behind_15 : decode cX9_behind 15 = .ok (.invokevirtual 128, 3) := by decide +kernel
theorem dX9_behind_18 : decode cX9_behind 18 = .ok (.ifCond .ne 6, 3) := by decide +kernel
theorem dX9_behind_21 : decode cX9_behind 21 = .ok (.bipush (-5), 2) := by decide +kernel
theorem dX9_behind_23 : decode cX9_behind 23 = .ok (.ireturn, 1) := by decide +kernel
theorem dX9_behind_24 : decode cX9_behind 24 = .ok (.aload_n 0, 1) := by decide +kernel
theorem dX9_behind_25 : decode cX9_behind 25 = .ok (.getfield 39, 3) := by decide +kernel
theorem dX9_behind_28 : decode cX9_behind 28 = .ok (.getfield 132, 3) := by decide +kernel
theorem dX9_behind_31 : decode cX9_behind 31 = .ok (.iload_n 1, 1) := by decide +kernel
theorem dX9_behind_32 : decode cX9_behind 32 = .ok (.aload_n 0, 1) := by decide +kernel
theorem dX9_behind_33 : decode cX9_behind 33 = .ok (.getfield 39, 3) := by decide +kernel
theorem dX9_behind_36 : decode cX9_behind 36 = .ok (.getfield 132, 3) := by decide +kernel
theorem dX9_behind_39 : decode cX9_behind 39 = .ok (.getfield 135, 3) := by decide +kernel
theorem dX9_behind_42 : decode cX9_behind 42 = .ok (.invokevirtual 141, 3) := by decide +kernel
theorem dX9_behind_45 : decode cX9_behind 45 = .ok (.ireturn, 1) := by decide +kernel
theorem dX9_clashed_0 : decode cX9_clashed 0 = .ok (.iload_n 1, 1) := by decide +kernel
theorem dX9_clashed_1 : decode cX9_clashed 1 = .ok (.iconst 0, 1) := by decide +kernel
theorem dX9_clashed_2 : decode cX9_clashed 2 = .ok (.iconst 1, 1) := by decide +kernel
theorem dX9_clashed_3 : decode cX9_clashed 3 = .ok (.invokestatic 71, 3) := by decide +kernel
theorem dX9_clashed_6 : decode cX9_clashed 6 = .ok (.ifCond .eq 6, 3) := by decide +kernel
theorem dX9_clashed_9 : decode cX9_clashed 9 = .ok (.bipush (-2), 2) := by decide +kernel
theorem dX9_clashed_11 : decode cX9_clashed 11 = .ok (.ireturn, 1) := by decide +kernel
theorem dX9_clashed_12 : decode cX9_clashed 12 = .ok (.aload_n 0, 1) := by decide +kernel
theorem dX9_clashed_13 : decode cX9_clashed 13 = .ok (.iconst 1, 1) := by decide +kernel
theorem dX9_clashed_14 : decode cX9_clashed 14 = .ok (.invokevirtual 128, 3) := by decide +kernel
theorem dX9_clashed_17 : decode cX9_clashed 17 = .ok (.ifCond .ne 6, 3) := by decide +kernel
theorem dX9_clashed_20 : decode cX9_clashed 20 = .ok (.bipush (-5), 2) := by decide +kernel
theorem dX9_clashed_22 : decode cX9_clashed 22 = .ok (.ireturn, 1) := by decide +kernel
theorem dX9_clashed_23 : decode cX9_clashed 23 = .ok (.iload_n 1, 1) := by decide +kernel
theorem dX9_clashed_24 : decode cX9_clashed 24 = .ok (.ifCond .ne 13, 3) := by decide +kernel
theorem dX9_clashed_27 : decode cX9_clashed 27 = .ok (.aload_n 0, 1) := by decide +kernel
theorem dX9_clashed_28 : decode cX9_clashed 28 = .ok (.getfield 39, 3) := by decide +kernel
theorem dX9_clashed_31 : decode cX9_clashed 31 = .ok (.getfield 145, 3) := by decide +kernel
theorem dX9_clashed_34 : decode cX9_clashed 34 = .ok (.goto 10, 3) := by decide +kernel
theorem dX9_clashed_37 : decode cX9_clashed 37 = .ok (.aload_n 0, 1) := by decide +kernel
theorem dX9_clashed_38 : decode cX9_clashed 38 = .ok (.getfield 39, 3) := by decide +kernel
theorem dX9_clashed_41 : decode cX9_clashed 41 = .ok (.getfield 148, 3) := by decide +kernel
theorem dX9_clashed_44 : decode cX9_clashed 44 = .ok (.ireturn, 1) := by decide +kernel
theorem dX9_interval_0 : decode cX9_interval 0 = .ok (.aload_n 0, 1) := by decide +kernel
theorem dX9_interval_1 : decode cX9_interval 1 = .ok (.iload_n 1, 1) := by decide +kernel
theorem dX9_interval_2 : decode cX9_interval 2 = .ok (.iload_n 2, 1) := by decide +kernel
theorem dX9_interval_3 : decode cX9_interval 3 = .ok (.invokevirtual 151, 3) := by decide +kernel
theorem dX9_interval_6 : decode cX9_interval 6 = .ok (.ifCond .ne 7, 3) := by decide +kernel
theorem dX9_interval_9 : decode cX9_interval 9 = .ok (.ldc2_w 155, 3) := by decide +kernel
theorem dX9_interval_12 : decode cX9_interval 12 = .ok (.lreturn, 1) := by decide +kernel
theorem dX9_interval_13 : decode cX9_interval 13 = .ok (.iload_n 3, 1) := by decide +kernel
theorem dX9_interval_14 : decode cX9_interval 14 = .ok (.iconst 0, 1) := by decide +kernel
theorem dX9_interval_15 : decode cX9_interval 15 = .ok (.iconst 1, 1) := by decide +kernel
theorem dX9_interval_16 : decode cX9_interval 16 = .ok (.invokestatic 71, 3) := by decide +kernel
theorem dX9_interval_19 : decode cX9_interval 19 = .ok (.ifCond .eq 7, 3) := by decide +kernel
theorem dX9_interval_22 : decode cX9_interval 22 = .ok (.ldc2_w 157, 3) := by decide +kernel
theorem dX9_interval_25 : decode cX9_interval 25 = .ok (.lreturn, 1) := by decide +kernel
theorem dX9_interval_26 : decode cX9_interval 26 = .ok (.aload_n 0, 1) := by decide +kernel
theorem dX9_interval_27 : decode cX9_interval 27 = .ok (.getfield 12, 3) := by decide +kernel
theorem dX9_interval_30 : decode cX9_interval 30 = .ok (.iload_n 1, 1) := by decide +kernel
theorem dX9_interval_31 : decode cX9_interval 31 = .ok (.aload_n 0, 1) := by decide +kernel
theorem dX9_interval_32 : decode cX9_interval 32 = .ok (.getfield 12, 3) := by decide +kernel
theorem dX9_interval_35 : decode cX9_interval 35 = .ok (.getfield 135, 3) := by decide +kernel
theorem dX9_interval_38 : decode cX9_interval 38 = .ok (.invokevirtual 141, 3) := by decide +kernel
theorem dX9_interval_41 : decode cX9_interval 41 = .ok (.istore 4, 2) := by decide +kernel
theorem dX9_interval_43 : decode cX9_interval 43 = .ok (.aload_n 0, 1) := by decide +kernel
theorem dX9_interval_44 : decode cX9_interval 44 = .ok (.getfield 12, 3) := by decide +kernel
theorem dX9_interval_47 : decode cX9_interval 47 = .ok (.iload_n 2, 1) := by decide +kernel
theorem dX9_interval_48 : decode cX9_interval 48 = .ok (.aload_n 0, 1) := by decide +kernel
theorem dX9_interval_49 : decode cX9_interval 49 = .ok (.getfield 12, 3) := by decide +kernel
theorem dX9_interval_52 : decode cX9_interval 52 = .ok (.getfield 135, 3) := by decide +kernel
theorem dX9_interval_55 : decode cX9_interval 55 = .ok (.invokevirtual 141, 3) := by decide +kernel
theorem dX9_interval_58 : decode cX9_interval 58 = .ok (.istore 5, 2) := by decide +kernel
theorem dX9_interval_60 : decode cX9_interval 60 = .ok (.iload 4, 2) := by decide +kernel
theorem dX9_interval_62 : decode cX9_interval 62 = .ok (.iload 5, 2) := by decide +kernel
theorem dX9_interval_64 : decode cX9_interval 64 = .ok (.invokestatic 159, 3) := by decide +kernel
theorem dX9_interval_67 : decode cX9_interval 67 = .ok (.i2l, 1) := by decide +kernel
theorem dX9_interval_68 : decode cX9_interval 68 = .ok (.iload 4, 2) := by decide +kernel
theorem dX9_interval_70 : decode cX9_interval 70 = .ok (.iload 5, 2) := by decide +kernel
theorem dX9_interval_72 : decode cX9_interval 72 = .ok (.invokestatic 164, 3) := by decide +kernel
theorem dX9_interval_75 : decode cX9_interval 75 = .ok (.i2l, 1) := by decide +kernel
theorem dX9_interval_76 : decode cX9_interval 76 = .ok (.iload_n 3, 1) := by decide +kernel
theorem dX9_interval_77 : decode cX9_interval 77 = .ok (.invokestatic 167, 3) := by decide +kernel
theorem dX9_interval_80 : decode cX9_interval 80 = .ok (.lreturn, 1) := by decide +kernel
theorem dX9_heard_0 : decode cX9_heard 0 = .ok (.iload_n 1, 1) := by decide +kernel
theorem dX9_heard_1 : decode cX9_heard 1 = .ok (.iconst 0, 1) := by decide +kernel
theorem dX9_heard_2 : decode cX9_heard 2 = .ok (.iconst 1, 1) := by decide +kernel
theorem dX9_heard_3 : decode cX9_heard 3 = .ok (.invokestatic 71, 3) := by decide +kernel
theorem dX9_heard_6 : decode cX9_heard 6 = .ok (.ifCond .eq 6, 3) := by decide +kernel
theorem dX9_heard_9 : decode cX9_heard 9 = .ok (.bipush (-2), 2) := by decide +kernel
theorem dX9_heard_11 : decode cX9_heard 11 = .ok (.ireturn, 1) := by decide +kernel
theorem dX9_heard_12 : decode cX9_heard 12 = .ok (.iload_n 1, 1) := by decide +kernel
theorem dX9_heard_13 : decode cX9_heard 13 = .ok (.ifCond .ne 10, 3) := by decide +kernel
theorem dX9_heard_16 : decode cX9_heard 16 = .ok (.aload_n 0, 1) := by decide +kernel
theorem dX9_heard_17 : decode cX9_heard 17 = .ok (.invokevirtual 171, 3) := by decide +kernel
theorem dX9_heard_20 : decode cX9_heard 20 = .ok (.goto 7, 3) := by decide +kernel
theorem dX9_heard_23 : decode cX9_heard 23 = .ok (.aload_n 0, 1) := by decide +kernel
theorem dX9_heard_24 : decode cX9_heard 24 = .ok (.invokevirtual 174, 3) := by decide +kernel
theorem dX9_heard_27 : decode cX9_heard 27 = .ok (.ireturn, 1) := by decide +kernel
theorem dX9_stopped_0 : decode cX9_stopped 0 = .ok (.aload_n 0, 1) := by decide +kernel
theorem dX9_stopped_1 : decode cX9_stopped 1 = .ok (.getfield 12, 3) := by decide +kernel
theorem dX9_stopped_4 : decode cX9_stopped 4 = .ok (.iload_n 1, 1) := by decide +kernel
theorem dX9_stopped_5 : decode cX9_stopped 5 = .ok (.invokevirtual 83, 3) := by decide +kernel
theorem dX9_stopped_8 : decode cX9_stopped 8 = .ok (.ifCond .ne 5, 3) := by decide +kernel
theorem dX9_stopped_11 : decode cX9_stopped 11 = .ok (.iconst (-1), 1) := by decide +kernel
theorem dX9_stopped_12 : decode cX9_stopped 12 = .ok (.ireturn, 1) := by decide +kernel
theorem dX9_stopped_13 : decode cX9_stopped 13 = .ok (.iload_n 2, 1) := by decide +kernel
theorem dX9_stopped_14 : decode cX9_stopped 14 = .ok (.iconst 1, 1) := by decide +kernel
theorem dX9_stopped_15 : decode cX9_stopped 15 = .ok (.sipush 200, 3) := by decide +kernel
theorem dX9_stopped_18 : decode cX9_stopped 18 = .ok (.invokestatic 71, 3) := by decide +kernel
theorem dX9_stopped_21 : decode cX9_stopped 21 = .ok (.ifCond .ne 12, 3) := by decide +kernel
theorem dX9_stopped_24 : decode cX9_stopped 24 = .ok (.iload_n 3, 1) := by decide +kernel
theorem dX9_stopped_25 : decode cX9_stopped 25 = .ok (.iconst 0, 1) := by decide +kernel
theorem dX9_stopped_26 : decode cX9_stopped 26 = .ok (.iconst 1, 1) := by decide +kernel
theorem dX9_stopped_27 : decode cX9_stopped 27 = .ok (.invokestatic 71, 3) := by decide +kernel
theorem dX9_stopped_30 : decode cX9_stopped 30 = .ok (.ifCond .eq 6, 3) := by decide +kernel
theorem dX9_stopped_33 : decode cX9_stopped 33 = .ok (.bipush (-2), 2) := by decide +kernel
theorem dX9_stopped_35 : decode cX9_stopped 35 = .ok (.ireturn, 1) := by decide +kernel
theorem dX9_stopped_36 : decode cX9_stopped 36 = .ok (.aload_n 0, 1) := by decide +kernel
theorem dX9_stopped_37 : decode cX9_stopped 37 = .ok (.getfield 12, 3) := by decide +kernel
theorem dX9_stopped_40 : decode cX9_stopped 40 = .ok (.iload_n 1, 1) := by decide +kernel
theorem dX9_stopped_41 : decode cX9_stopped 41 = .ok (.iload_n 2, 1) := by decide +kernel
theorem dX9_stopped_42 : decode cX9_stopped 42 = .ok (.iload_n 1, 1) := by decide +kernel
theorem dX9_stopped_43 : decode cX9_stopped 43 = .ok (.iload_n 2, 1) := by decide +kernel
theorem dX9_stopped_44 : decode cX9_stopped 44 = .ok (.invokestatic 177, 3) := by decide +kernel
theorem dX9_stopped_47 : decode cX9_stopped 47 = .ok (.iload_n 3, 1) := by decide +kernel
theorem dX9_stopped_48 : decode cX9_stopped 48 = .ok (.invokestatic 181, 3) := by decide +kernel
theorem dX9_stopped_51 : decode cX9_stopped 51 = .ok (.ireturn, 1) := by decide +kernel
theorem dX9_friends_0 : decode cX9_friends 0 = .ok (.aload_n 0, 1) := by decide +kernel
theorem dX9_friends_1 : decode cX9_friends 1 = .ok (.iload_n 1, 1) := by decide +kernel
theorem dX9_friends_2 : decode cX9_friends 2 = .ok (.iload_n 3, 1) := by decide +kernel
theorem dX9_friends_3 : decode cX9_friends 3 = .ok (.invokevirtual 151, 3) := by decide +kernel
theorem dX9_friends_6 : decode cX9_friends 6 = .ok (.ifCond .ne 5, 3) := by decide +kernel
theorem dX9_friends_9 : decode cX9_friends 9 = .ok (.iconst (-1), 1) := by decide +kernel
theorem dX9_friends_10 : decode cX9_friends 10 = .ok (.ireturn, 1) := by decide +kernel
theorem dX9_friends_11 : decode cX9_friends 11 = .ok (.iload_n 2, 1) := by decide +kernel
theorem dX9_friends_12 : decode cX9_friends 12 = .ok (.iconst 1, 1) := by decide +kernel
theorem dX9_friends_13 : decode cX9_friends 13 = .ok (.sipush 200, 3) := by decide +kernel
theorem dX9_friends_16 : decode cX9_friends 16 = .ok (.invokestatic 71, 3) := by decide +kernel
theorem dX9_friends_19 : decode cX9_friends 19 = .ok (.ifCond .ne 25, 3) := by decide +kernel
theorem dX9_friends_22 : decode cX9_friends 22 = .ok (.iload 4, 2) := by decide +kernel
theorem dX9_friends_24 : decode cX9_friends 24 = .ok (.iconst 1, 1) := by decide +kernel
theorem dX9_friends_25 : decode cX9_friends 25 = .ok (.sipush 200, 3) := by decide +kernel
theorem dX9_friends_28 : decode cX9_friends 28 = .ok (.invokestatic 71, 3) := by decide +kernel
theorem dX9_friends_31 : decode cX9_friends 31 = .ok (.ifCond .ne 13, 3) := by decide +kernel
theorem dX9_friends_34 : decode cX9_friends 34 = .ok (.iload 5, 2) := by decide +kernel
theorem dX9_friends_36 : decode cX9_friends 36 = .ok (.iconst 0, 1) := by decide +kernel
theorem dX9_friends_37 : decode cX9_friends 37 = .ok (.iconst 1, 1) := by decide +kernel
theorem dX9_friends_38 : decode cX9_friends 38 = .ok (.invokestatic 71, 3) := by decide +kernel
theorem dX9_friends_41 : decode cX9_friends 41 = .ok (.ifCond .eq 6, 3) := by decide +kernel
theorem dX9_friends_44 : decode cX9_friends 44 = .ok (.bipush (-2), 2) := by decide +kernel
theorem dX9_friends_46 : decode cX9_friends 46 = .ok (.ireturn, 1) := by decide +kernel
theorem dX9_friends_47 : decode cX9_friends 47 = .ok (.aload_n 0, 1) := by decide +kernel
theorem dX9_friends_48 : decode cX9_friends 48 = .ok (.getfield 12, 3) := by decide +kernel
theorem dX9_friends_51 : decode cX9_friends 51 = .ok (.iload_n 1, 1) := by decide +kernel
theorem dX9_friends_52 : decode cX9_friends 52 = .ok (.iload_n 2, 1) := by decide +kernel
theorem dX9_friends_53 : decode cX9_friends 53 = .ok (.iload_n 3, 1) := by decide +kernel
theorem dX9_friends_54 : decode cX9_friends 54 = .ok (.iload 4, 2) := by decide +kernel
theorem dX9_friends_56 : decode cX9_friends 56 = .ok (.invokestatic 177, 3) := by decide +kernel
theorem dX9_friends_59 : decode cX9_friends 59 = .ok (.iload 5, 2) := by decide +kernel
theorem dX9_friends_61 : decode cX9_friends 61 = .ok (.invokestatic 181, 3) := by decide +kernel
theorem dX9_friends_64 : decode cX9_friends 64 = .ok (.ireturn, 1) := by decide +kernel
theorem dX9_changes_0 : decode cX9_changes 0 = .ok (.aload_n 0, 1) := by decide +kernel
theorem dX9_changes_1 : decode cX9_changes 1 = .ok (.getfield 12, 3) := by decide +kernel
theorem dX9_changes_4 : decode cX9_changes 4 = .ok (.iload_n 1, 1) := by decide +kernel
theorem dX9_changes_5 : decode cX9_changes 5 = .ok (.invokevirtual 83, 3) := by decide +kernel
theorem dX9_changes_8 : decode cX9_changes 8 = .ok (.ifCond .ne 5, 3) := by decide +kernel
theorem dX9_changes_11 : decode cX9_changes 11 = .ok (.iconst (-1), 1) := by decide +kernel
theorem dX9_changes_12 : decode cX9_changes 12 = .ok (.ireturn, 1) := by decide +kernel
theorem dX9_changes_13 : decode cX9_changes 13 = .ok (.iload_n 2, 1) := by decide +kernel
theorem dX9_changes_14 : decode cX9_changes 14 = .ok (.iconst 0, 1) := by decide +kernel
theorem dX9_changes_15 : decode cX9_changes 15 = .ok (.iconst 1, 1) := by decide +kernel
theorem dX9_changes_16 : decode cX9_changes 16 = .ok (.invokestatic 71, 3) := by decide +kernel
theorem dX9_changes_19 : decode cX9_changes 19 = .ok (.ifCond .eq 6, 3) := by decide +kernel
theorem dX9_changes_22 : decode cX9_changes 22 = .ok (.bipush (-2), 2) := by decide +kernel
theorem dX9_changes_24 : decode cX9_changes 24 = .ok (.ireturn, 1) := by decide +kernel
theorem dX9_changes_25 : decode cX9_changes 25 = .ok (.aload_n 0, 1) := by decide +kernel
theorem dX9_changes_26 : decode cX9_changes 26 = .ok (.getfield 32, 3) := by decide +kernel
theorem dX9_changes_29 : decode cX9_changes 29 = .ok (.invokevirtual 115, 3) := by decide +kernel
theorem dX9_changes_32 : decode cX9_changes 32 = .ok (.bipush (-6), 2) := by decide +kernel
theorem dX9_changes_34 : decode cX9_changes 34 = .ok (.if_icmp .eq 6, 3) := by decide +kernel
theorem dX9_changes_37 : decode cX9_changes 37 = .ok (.bipush (-5), 2) := by decide +kernel
theorem dX9_changes_39 : decode cX9_changes 39 = .ok (.ireturn, 1) := by decide +kernel
theorem dX9_changes_40 : decode cX9_changes 40 = .ok (.aload_n 0, 1) := by decide +kernel
theorem dX9_changes_41 : decode cX9_changes 41 = .ok (.getfield 46, 3) := by decide +kernel
theorem dX9_changes_44 : decode cX9_changes 44 = .ok (.aload_n 0, 1) := by decide +kernel
theorem dX9_changes_45 : decode cX9_changes 45 = .ok (.getfield 12, 3) := by decide +kernel
theorem dX9_changes_48 : decode cX9_changes 48 = .ok (.iload_n 1, 1) := by decide +kernel
theorem dX9_changes_49 : decode cX9_changes 49 = .ok (.aload_n 0, 1) := by decide +kernel
theorem dX9_changes_50 : decode cX9_changes 50 = .ok (.getfield 32, 3) := by decide +kernel
theorem dX9_changes_53 : decode cX9_changes 53 = .ok (.invokevirtual 184, 3) := by decide +kernel
theorem dX9_changes_56 : decode cX9_changes 56 = .ok (.aload_n 0, 1) := by decide +kernel
theorem dX9_changes_57 : decode cX9_changes 57 = .ok (.getfield 46, 3) := by decide +kernel
theorem dX9_changes_60 : decode cX9_changes 60 = .ok (.getfield 188, 3) := by decide +kernel
theorem dX9_changes_63 : decode cX9_changes 63 = .ok (.bipush (-6), 2) := by decide +kernel
theorem dX9_changes_65 : decode cX9_changes 65 = .ok (.if_icmp .ne 6, 3) := by decide +kernel
theorem dX9_changes_68 : decode cX9_changes 68 = .ok (.bipush (-6), 2) := by decide +kernel
theorem dX9_changes_70 : decode cX9_changes 70 = .ok (.ireturn, 1) := by decide +kernel
theorem dX9_changes_71 : decode cX9_changes 71 = .ok (.iload_n 2, 1) := by decide +kernel
theorem dX9_changes_72 : decode cX9_changes 72 = .ok (.ifCond .ne 13, 3) := by decide +kernel
theorem dX9_changes_75 : decode cX9_changes 75 = .ok (.aload_n 0, 1) := by decide +kernel
theorem dX9_changes_76 : decode cX9_changes 76 = .ok (.getfield 46, 3) := by decide +kernel
theorem dX9_changes_79 : decode cX9_changes 79 = .ok (.getfield 191, 3) := by decide +kernel
theorem dX9_changes_82 : decode cX9_changes 82 = .ok (.goto 10, 3) := by decide +kernel
theorem dX9_changes_85 : decode cX9_changes 85 = .ok (.aload_n 0, 1) := by decide +kernel
theorem dX9_changes_86 : decode cX9_changes 86 = .ok (.getfield 46, 3) := by decide +kernel
theorem dX9_changes_89 : decode cX9_changes 89 = .ok (.getfield 188, 3) := by decide +kernel
theorem dX9_changes_92 : decode cX9_changes 92 = .ok (.ireturn, 1) := by decide +kernel
theorem dX9_shifts_0 : decode cX9_shifts 0 = .ok (.aload_n 0, 1) := by decide +kernel
theorem dX9_shifts_1 : decode cX9_shifts 1 = .ok (.iload_n 1, 1) := by decide +kernel
theorem dX9_shifts_2 : decode cX9_shifts 2 = .ok (.iload_n 2, 1) := by decide +kernel
theorem dX9_shifts_3 : decode cX9_shifts 3 = .ok (.invokevirtual 151, 3) := by decide +kernel
theorem dX9_shifts_6 : decode cX9_shifts 6 = .ok (.ifCond .ne 5, 3) := by decide +kernel
theorem dX9_shifts_9 : decode cX9_shifts 9 = .ok (.iconst (-1), 1) := by decide +kernel
theorem dX9_shifts_10 : decode cX9_shifts 10 = .ok (.ireturn, 1) := by decide +kernel
theorem dX9_shifts_11 : decode cX9_shifts 11 = .ok (.aload_n 0, 1) := by decide +kernel
theorem dX9_shifts_12 : decode cX9_shifts 12 = .ok (.getfield 32, 3) := by decide +kernel
theorem dX9_shifts_15 : decode cX9_shifts 15 = .ok (.invokevirtual 115, 3) := by decide +kernel
theorem dX9_shifts_18 : decode cX9_shifts 18 = .ok (.bipush (-6), 2) := by decide +kernel
theorem dX9_shifts_20 : decode cX9_shifts 20 = .ok (.if_icmp .eq 6, 3) := by decide +kernel
theorem dX9_shifts_23 : decode cX9_shifts 23 = .ok (.bipush (-5), 2) := by decide +kernel
theorem dX9_shifts_25 : decode cX9_shifts 25 = .ok (.ireturn, 1) := by decide +kernel
theorem dX9_shifts_26 : decode cX9_shifts 26 = .ok (.aload_n 0, 1) := by decide +kernel
theorem dX9_shifts_27 : decode cX9_shifts 27 = .ok (.getfield 46, 3) := by decide +kernel
theorem dX9_shifts_30 : decode cX9_shifts 30 = .ok (.aload_n 0, 1) := by decide +kernel
theorem dX9_shifts_31 : decode cX9_shifts 31 = .ok (.getfield 12, 3) := by decide +kernel
theorem dX9_shifts_34 : decode cX9_shifts 34 = .ok (.iload_n 1, 1) := by decide +kernel
theorem dX9_shifts_35 : decode cX9_shifts 35 = .ok (.iload_n 2, 1) := by decide +kernel
theorem dX9_shifts_36 : decode cX9_shifts 36 = .ok (.aload_n 0, 1) := by decide +kernel
theorem dX9_shifts_37 : decode cX9_shifts 37 = .ok (.getfield 32, 3) := by decide +kernel
theorem dX9_shifts_40 : decode cX9_shifts 40 = .ok (.invokevirtual 194, 3) := by decide +kernel
theorem dX9_shifts_43 : decode cX9_shifts 43 = .ok (.ireturn, 1) := by decide +kernel
theorem dX9_seen_0 : decode cX9_seen 0 = .ok (.aload_n 0, 1) := by decide +kernel
theorem dX9_seen_1 : decode cX9_seen 1 = .ok (.getfield 12, 3) := by decide +kernel
theorem dX9_seen_4 : decode cX9_seen 4 = .ok (.iload_n 1, 1) := by decide +kernel
theorem dX9_seen_5 : decode cX9_seen 5 = .ok (.invokevirtual 83, 3) := by decide +kernel
theorem dX9_seen_8 : decode cX9_seen 8 = .ok (.ifCond .ne 5, 3) := by decide +kernel
theorem dX9_seen_11 : decode cX9_seen 11 = .ok (.iconst (-1), 1) := by decide +kernel
theorem dX9_seen_12 : decode cX9_seen 12 = .ok (.ireturn, 1) := by decide +kernel
theorem dX9_seen_13 : decode cX9_seen 13 = .ok (.iload_n 2, 1) := by decide +kernel
theorem dX9_seen_14 : decode cX9_seen 14 = .ok (.iconst 1, 1) := by decide +kernel
theorem dX9_seen_15 : decode cX9_seen 15 = .ok (.sipush 200, 3) := by decide +kernel
theorem dX9_seen_18 : decode cX9_seen 18 = .ok (.invokestatic 71, 3) := by decide +kernel
theorem dX9_seen_21 : decode cX9_seen 21 = .ok (.ifCond .eq 6, 3) := by decide +kernel
theorem dX9_seen_24 : decode cX9_seen 24 = .ok (.bipush (-2), 2) := by decide +kernel
theorem dX9_seen_26 : decode cX9_seen 26 = .ok (.ireturn, 1) := by decide +kernel
theorem dX9_seen_27 : decode cX9_seen 27 = .ok (.aload_n 0, 1) := by decide +kernel
theorem dX9_seen_28 : decode cX9_seen 28 = .ok (.getfield 12, 3) := by decide +kernel
theorem dX9_seen_31 : decode cX9_seen 31 = .ok (.iload_n 1, 1) := by decide +kernel
theorem dX9_seen_32 : decode cX9_seen 32 = .ok (.iload_n 2, 1) := by decide +kernel
theorem dX9_seen_33 : decode cX9_seen 33 = .ok (.invokevirtual 198, 3) := by decide +kernel
theorem dX9_seen_36 : decode cX9_seen 36 = .ok (.ifCond .eq 13, 3) := by decide +kernel
theorem dX9_seen_39 : decode cX9_seen 39 = .ok (.aload_n 0, 1) := by decide +kernel
theorem dX9_seen_40 : decode cX9_seen 40 = .ok (.getfield 12, 3) := by decide +kernel
theorem dX9_seen_43 : decode cX9_seen 43 = .ok (.getfield 201, 3) := by decide +kernel
theorem dX9_seen_46 : decode cX9_seen 46 = .ok (.goto 5, 3) := by decide +kernel
theorem dX9_seen_49 : decode cX9_seen 49 = .ok (.bipush (-4), 2) := by decide +kernel
theorem dX9_seen_51 : decode cX9_seen 51 = .ok (.ireturn, 1) := by decide +kernel
theorem dX9_forget_0 : decode cX9_forget 0 = .ok (.aload_n 0, 1) := by decide +kernel
theorem dX9_forget_1 : decode cX9_forget 1 = .ok (.getfield 12, 3) := by decide +kernel
theorem dX9_forget_4 : decode cX9_forget 4 = .ok (.getfield 201, 3) := by decide +kernel
theorem dX9_forget_7 : decode cX9_forget 7 = .ok (.istore_n 1, 1) := by decide +kernel
theorem dX9_forget_8 : decode cX9_forget 8 = .ok (.aload_n 0, 1) := by decide +kernel
theorem dX9_forget_9 : decode cX9_forget 9 = .ok (.getfield 12, 3) := by decide +kernel
theorem dX9_forget_12 : decode cX9_forget 12 = .ok (.iconst 0, 1) := by decide +kernel
theorem dX9_forget_13 : decode cX9_forget 13 = .ok (.putfield 201, 3) := by decide +kernel
theorem dX9_forget_16 : decode cX9_forget 16 = .ok (.iload_n 1, 1) := by decide +kernel
theorem dX9_forget_17 : decode cX9_forget 17 = .ok (.ireturn, 1) := by decide +kernel
theorem dX9_fit_0 : decode cX9_fit 0 = .ok (.iload_n 1, 1) := by decide +kernel
theorem dX9_fit_1 : decode cX9_fit 1 = .ok (.iconst 0, 1) := by decide +kernel
theorem dX9_fit_2 : decode cX9_fit 2 = .ok (.iconst 3, 1) := by decide +kernel
theorem dX9_fit_3 : decode cX9_fit 3 = .ok (.invokestatic 71, 3) := by decide +kernel
theorem dX9_fit_6 : decode cX9_fit 6 = .ok (.ifCond .eq 6, 3) := by decide +kernel
theorem dX9_fit_9 : decode cX9_fit 9 = .ok (.bipush (-2), 2) := by decide +kernel
theorem dX9_fit_11 : decode cX9_fit 11 = .ok (.ireturn, 1) := by decide +kernel
theorem dX9_fit_12 : decode cX9_fit 12 = .ok (.aload_n 0, 1) := by decide +kernel
theorem dX9_fit_13 : decode cX9_fit 13 = .ok (.getfield 53, 3) := by decide +kernel
theorem dX9_fit_16 : decode cX9_fit 16 = .ok (.aload_n 0, 1) := by decide +kernel
theorem dX9_fit_17 : decode cX9_fit 17 = .ok (.getfield 12, 3) := by decide +kernel
theorem dX9_fit_20 : decode cX9_fit 20 = .ok (.invokevirtual 204, 3) := by decide +kernel
theorem dX9_fit_23 : decode cX9_fit 23 = .ok (.iload_n 1, 1) := by decide +kernel
theorem dX9_fit_24 : decode cX9_fit 24 = .ok (.tableswitch 52 0 2 #[28, 36, 44], 28) := by decide +kernel
theorem dX9_fit_52 : decode cX9_fit 52 = .ok (.aload_n 0, 1) := by decide +kernel
theorem dX9_fit_53 : decode cX9_fit 53 = .ok (.getfield 53, 3) := by decide +kernel
theorem dX9_fit_56 : decode cX9_fit 56 = .ok (.getfield 208, 3) := by decide +kernel
theorem dX9_fit_59 : decode cX9_fit 59 = .ok (.ireturn, 1) := by decide +kernel
theorem dX9_fit_60 : decode cX9_fit 60 = .ok (.aload_n 0, 1) := by decide +kernel
theorem dX9_fit_61 : decode cX9_fit 61 = .ok (.getfield 53, 3) := by decide +kernel
theorem dX9_fit_64 : decode cX9_fit 64 = .ok (.invokevirtual 211, 3) := by decide +kernel
theorem dX9_fit_67 : decode cX9_fit 67 = .ok (.ireturn, 1) := by decide +kernel
theorem dX9_fit_68 : decode cX9_fit 68 = .ok (.aload_n 0, 1) := by decide +kernel
theorem dX9_fit_69 : decode cX9_fit 69 = .ok (.getfield 53, 3) := by decide +kernel
theorem dX9_fit_72 : decode cX9_fit 72 = .ok (.invokevirtual 214, 3) := by decide +kernel
theorem dX9_fit_75 : decode cX9_fit 75 = .ok (.ireturn, 1) := by decide +kernel
theorem dX9_fit_76 : decode cX9_fit 76 = .ok (.aload_n 0, 1) := by decide +kernel
theorem dX9_fit_77 : decode cX9_fit 77 = .ok (.getfield 53, 3) := by decide +kernel
theorem dX9_fit_80 : decode cX9_fit 80 = .ok (.invokevirtual 217, 3) := by decide +kernel
theorem dX9_fit_83 : decode cX9_fit 83 = .ok (.ireturn, 1) := by decide +kernel
theorem dX9_ask_0 : decode cX9_ask 0 = .ok (.iload_n 1, 1) := by decide +kernel
theorem dX9_ask_1 : decode cX9_ask 1 = .ok (.iconst 0, 1) := by decide +kernel
theorem dX9_ask_2 : decode cX9_ask 2 = .ok (.iconst 1, 1) := by decide +kernel
theorem dX9_ask_3 : decode cX9_ask 3 = .ok (.invokestatic 71, 3) := by decide +kernel
theorem dX9_ask_6 : decode cX9_ask 6 = .ok (.ifCond .eq 6, 3) := by decide +kernel
theorem dX9_ask_9 : decode cX9_ask 9 = .ok (.bipush (-2), 2) := by decide +kernel
theorem dX9_ask_11 : decode cX9_ask 11 = .ok (.ireturn, 1) := by decide +kernel
theorem dX9_ask_12 : decode cX9_ask 12 = .ok (.aload_n 0, 1) := by decide +kernel
theorem dX9_ask_13 : decode cX9_ask 13 = .ok (.getfield 53, 3) := by decide +kernel
theorem dX9_ask_16 : decode cX9_ask 16 = .ok (.aload_n 0, 1) := by decide +kernel
theorem dX9_ask_17 : decode cX9_ask 17 = .ok (.getfield 12, 3) := by decide +kernel
theorem dX9_ask_20 : decode cX9_ask 20 = .ok (.invokevirtual 204, 3) := by decide +kernel
theorem dX9_ask_23 : decode cX9_ask 23 = .ok (.aload_n 0, 1) := by decide +kernel
theorem dX9_ask_24 : decode cX9_ask 24 = .ok (.getfield 53, 3) := by decide +kernel
theorem dX9_ask_27 : decode cX9_ask 27 = .ok (.aload_n 0, 1) := by decide +kernel
theorem dX9_ask_28 : decode cX9_ask 28 = .ok (.getfield 12, 3) := by decide +kernel
theorem dX9_ask_31 : decode cX9_ask 31 = .ok (.invokevirtual 220, 3) := by decide +kernel
theorem dX9_ask_34 : decode cX9_ask 34 = .ok (.iload_n 1, 1) := by decide +kernel
theorem dX9_ask_35 : decode cX9_ask 35 = .ok (.ifCond .ne 13, 3) := by decide +kernel
theorem dX9_ask_38 : decode cX9_ask 38 = .ok (.aload_n 0, 1) := by decide +kernel
theorem dX9_ask_39 : decode cX9_ask 39 = .ok (.getfield 53, 3) := by decide +kernel
theorem dX9_ask_42 : decode cX9_ask 42 = .ok (.getfield 223, 3) := by decide +kernel
theorem dX9_ask_45 : decode cX9_ask 45 = .ok (.goto 10, 3) := by decide +kernel
theorem dX9_ask_48 : decode cX9_ask 48 = .ok (.aload_n 0, 1) := by decide +kernel
theorem dX9_ask_49 : decode cX9_ask 49 = .ok (.getfield 53, 3) := by decide +kernel
theorem dX9_ask_52 : decode cX9_ask 52 = .ok (.getfield 226, 3) := by decide +kernel
theorem dX9_ask_55 : decode cX9_ask 55 = .ok (.ireturn, 1) := by decide +kernel
theorem dX9_borrow_0 : decode cX9_borrow 0 = .ok (.aload_n 0, 1) := by decide +kernel
theorem dX9_borrow_1 : decode cX9_borrow 1 = .ok (.iload_n 1, 1) := by decide +kernel
theorem dX9_borrow_2 : decode cX9_borrow 2 = .ok (.iload_n 2, 1) := by decide +kernel
theorem dX9_borrow_3 : decode cX9_borrow 3 = .ok (.invokevirtual 151, 3) := by decide +kernel
theorem dX9_borrow_6 : decode cX9_borrow 6 = .ok (.ifCond .ne 5, 3) := by decide +kernel
theorem dX9_borrow_9 : decode cX9_borrow 9 = .ok (.iconst (-1), 1) := by decide +kernel
theorem dX9_borrow_10 : decode cX9_borrow 10 = .ok (.ireturn, 1) := by decide +kernel
theorem dX9_borrow_11 : decode cX9_borrow 11 = .ok (.iload_n 3, 1) := by decide +kernel
theorem dX9_borrow_12 : decode cX9_borrow 12 = .ok (.iconst 1, 1) := by decide +kernel
theorem dX9_borrow_13 : decode cX9_borrow 13 = .ok (.bipush 9, 2) := by decide +kernel
theorem dX9_borrow_15 : decode cX9_borrow 15 = .ok (.invokestatic 71, 3) := by decide +kernel
theorem dX9_borrow_18 : decode cX9_borrow 18 = .ok (.ifCond .eq 6, 3) := by decide +kernel
theorem dX9_borrow_21 : decode cX9_borrow 21 = .ok (.bipush (-2), 2) := by decide +kernel
theorem dX9_borrow_23 : decode cX9_borrow 23 = .ok (.ireturn, 1) := by decide +kernel
theorem dX9_borrow_24 : decode cX9_borrow 24 = .ok (.aload_n 0, 1) := by decide +kernel
theorem dX9_borrow_25 : decode cX9_borrow 25 = .ok (.getfield 12, 3) := by decide +kernel
theorem dX9_borrow_28 : decode cX9_borrow 28 = .ok (.getfield 229, 3) := by decide +kernel
theorem dX9_borrow_31 : decode cX9_borrow 31 = .ok (.iload_n 1, 1) := by decide +kernel
theorem dX9_borrow_32 : decode cX9_borrow 32 = .ok (.iaload, 1) := by decide +kernel
theorem dX9_borrow_33 : decode cX9_borrow 33 = .ok (.iload_n 3, 1) := by decide +kernel
theorem dX9_borrow_34 : decode cX9_borrow 34 = .ok (.iadd, 1) := by decide +kernel
theorem dX9_borrow_35 : decode cX9_borrow 35 = .ok (.istore 4, 2) := by decide +kernel
theorem dX9_borrow_37 : decode cX9_borrow 37 = .ok (.aload_n 0, 1) := by decide +kernel
theorem dX9_borrow_38 : decode cX9_borrow 38 = .ok (.getfield 12, 3) := by decide +kernel
theorem dX9_borrow_41 : decode cX9_borrow 41 = .ok (.getfield 229, 3) := by decide +kernel
theorem dX9_borrow_44 : decode cX9_borrow 44 = .ok (.iload_n 2, 1) := by decide +kernel
theorem dX9_borrow_45 : decode cX9_borrow 45 = .ok (.iaload, 1) := by decide +kernel
theorem dX9_borrow_46 : decode cX9_borrow 46 = .ok (.iload_n 3, 1) := by decide +kernel
theorem dX9_borrow_47 : decode cX9_borrow 47 = .ok (.isub, 1) := by decide +kernel
theorem dX9_borrow_48 : decode cX9_borrow 48 = .ok (.istore 5, 2) := by decide +kernel
theorem dX9_borrow_50 : decode cX9_borrow 50 = .ok (.iload 4, 2) := by decide +kernel
theorem dX9_borrow_52 : decode cX9_borrow 52 = .ok (.sipush 1000, 3) := by decide +kernel
theorem dX9_borrow_55 : decode cX9_borrow 55 = .ok (.if_icmp .ge 11, 3) := by decide +kernel
theorem dX9_borrow_58 : decode cX9_borrow 58 = .ok (.iload 5, 2) := by decide +kernel
theorem dX9_borrow_60 : decode cX9_borrow 60 = .ok (.sipush (-1000), 3) := by decide +kernel
theorem dX9_borrow_63 : decode cX9_borrow 63 = .ok (.if_icmp .gt 6, 3) := by decide +kernel
theorem dX9_borrow_66 : decode cX9_borrow 66 = .ok (.bipush (-3), 2) := by decide +kernel
theorem dX9_borrow_68 : decode cX9_borrow 68 = .ok (.ireturn, 1) := by decide +kernel
theorem dX9_borrow_69 : decode cX9_borrow 69 = .ok (.aload_n 0, 1) := by decide +kernel
theorem dX9_borrow_70 : decode cX9_borrow 70 = .ok (.getfield 12, 3) := by decide +kernel
theorem dX9_borrow_73 : decode cX9_borrow 73 = .ok (.getfield 229, 3) := by decide +kernel
theorem dX9_borrow_76 : decode cX9_borrow 76 = .ok (.iload_n 1, 1) := by decide +kernel
theorem dX9_borrow_77 : decode cX9_borrow 77 = .ok (.iload 4, 2) := by decide +kernel
theorem dX9_borrow_79 : decode cX9_borrow 79 = .ok (.iastore, 1) := by decide +kernel
theorem dX9_borrow_80 : decode cX9_borrow 80 = .ok (.aload_n 0, 1) := by decide +kernel
theorem dX9_borrow_81 : decode cX9_borrow 81 = .ok (.getfield 12, 3) := by decide +kernel
theorem dX9_borrow_84 : decode cX9_borrow 84 = .ok (.getfield 229, 3) := by decide +kernel
theorem dX9_borrow_87 : decode cX9_borrow 87 = .ok (.iload_n 2, 1) := by decide +kernel
theorem dX9_borrow_88 : decode cX9_borrow 88 = .ok (.iload 5, 2) := by decide +kernel
theorem dX9_borrow_90 : decode cX9_borrow 90 = .ok (.iastore, 1) := by decide +kernel
theorem dX9_borrow_91 : decode cX9_borrow 91 = .ok (.iload 4, 2) := by decide +kernel
theorem dX9_borrow_93 : decode cX9_borrow 93 = .ok (.sipush 1000, 3) := by decide +kernel
theorem dX9_borrow_96 : decode cX9_borrow 96 = .ok (.iadd, 1) := by decide +kernel
theorem dX9_borrow_97 : decode cX9_borrow 97 = .ok (.ireturn, 1) := by decide +kernel
theorem dX9_teas_0 : decode cX9_teas 0 = .ok (.aload_n 0, 1) := by decide +kernel
theorem dX9_teas_1 : decode cX9_teas 1 = .ok (.getfield 60, 3) := by decide +kernel
theorem dX9_teas_4 : decode cX9_teas 4 = .ok (.aload_n 0, 1) := by decide +kernel
theorem dX9_teas_5 : decode cX9_teas 5 = .ok (.getfield 12, 3) := by decide +kernel
theorem dX9_teas_8 : decode cX9_teas 8 = .ok (.invokevirtual 232, 3) := by decide +kernel
theorem dX9_teas_11 : decode cX9_teas 11 = .ok (.ireturn, 1) := by decide +kernel
theorem dX9_feet_0 : decode cX9_feet 0 = .ok (.iconst 0, 1) := by decide +kernel
theorem dX9_feet_1 : decode cX9_feet 1 = .ok (.istore_n 1, 1) := by decide +kernel
theorem dX9_feet_2 : decode cX9_feet 2 = .ok (.iconst 0, 1) := by decide +kernel
theorem dX9_feet_3 : decode cX9_feet 3 = .ok (.istore_n 2, 1) := by decide +kernel
theorem dX9_feet_4 : decode cX9_feet 4 = .ok (.iload_n 2, 1) := by decide +kernel
theorem dX9_feet_5 : decode cX9_feet 5 = .ok (.aload_n 0, 1) := by decide +kernel
theorem dX9_feet_6 : decode cX9_feet 6 = .ok (.getfield 12, 3) := by decide +kernel
theorem dX9_feet_9 : decode cX9_feet 9 = .ok (.getfield 75, 3) := by decide +kernel
theorem dX9_feet_12 : decode cX9_feet 12 = .ok (.if_icmp .ge 23, 3) := by decide +kernel
theorem dX9_feet_15 : decode cX9_feet 15 = .ok (.aload_n 0, 1) := by decide +kernel
theorem dX9_feet_16 : decode cX9_feet 16 = .ok (.iload_n 2, 1) := by decide +kernel
theorem dX9_feet_17 : decode cX9_feet 17 = .ok (.invokevirtual 236, 3) := by decide +kernel
theorem dX9_feet_20 : decode cX9_feet 20 = .ok (.ifCond .eq 9, 3) := by decide +kernel
theorem dX9_feet_23 : decode cX9_feet 23 = .ok (.iload_n 1, 1) := by decide +kernel
theorem dX9_feet_24 : decode cX9_feet 24 = .ok (.iconst 1, 1) := by decide +kernel
theorem dX9_feet_25 : decode cX9_feet 25 = .ok (.iload_n 2, 1) := by decide +kernel
theorem dX9_feet_26 : decode cX9_feet 26 = .ok (.ishl, 1) := by decide +kernel
theorem dX9_feet_27 : decode cX9_feet 27 = .ok (.ior, 1) := by decide +kernel
theorem dX9_feet_28 : decode cX9_feet 28 = .ok (.istore_n 1, 1) := by decide +kernel
theorem dX9_feet_29 : decode cX9_feet 29 = .ok (.iinc 2 1, 3) := by decide +kernel
theorem dX9_feet_32 : decode cX9_feet 32 = .ok (.goto (-28), 3) := by decide +kernel
theorem dX9_feet_35 : decode cX9_feet 35 = .ok (.iload_n 1, 1) := by decide +kernel
theorem dX9_feet_36 : decode cX9_feet 36 = .ok (.ireturn, 1) := by decide +kernel
theorem dX9_hooks_0 : decode cX9_hooks 0 = .ok (.iload_n 1, 1) := by decide +kernel
theorem dX9_hooks_1 : decode cX9_hooks 1 = .ok (.iconst 2, 1) := by decide +kernel
theorem dX9_hooks_2 : decode cX9_hooks 2 = .ok (.bipush 16, 2) := by decide +kernel
theorem dX9_hooks_4 : decode cX9_hooks 4 = .ok (.invokestatic 71, 3) := by decide +kernel
theorem dX9_hooks_7 : decode cX9_hooks 7 = .ok (.ifCond .ne 12, 3) := by decide +kernel
theorem dX9_hooks_10 : decode cX9_hooks 10 = .ok (.iload_n 3, 1) := by decide +kernel
theorem dX9_hooks_11 : decode cX9_hooks 11 = .ok (.iconst 0, 1) := by decide +kernel
theorem dX9_hooks_12 : decode cX9_hooks 12 = .ok (.iconst 1, 1) := by decide +kernel
theorem dX9_hooks_13 : decode cX9_hooks 13 = .ok (.invokestatic 71, 3) := by decide +kernel
theorem dX9_hooks_16 : decode cX9_hooks 16 = .ok (.ifCond .eq 6, 3) := by decide +kernel
theorem dX9_hooks_19 : decode cX9_hooks 19 = .ok (.bipush (-2), 2) := by decide +kernel
theorem dX9_hooks_21 : decode cX9_hooks 21 = .ok (.ireturn, 1) := by decide +kernel
theorem dX9_hooks_22 : decode cX9_hooks 22 = .ok (.iload_n 2, 1) := by decide +kernel
theorem dX9_hooks_23 : decode cX9_hooks 23 = .ok (.ldc 239, 2) := by decide +kernel
theorem dX9_hooks_25 : decode cX9_hooks 25 = .ok (.iand, 1) := by decide +kernel
theorem dX9_hooks_26 : decode cX9_hooks 26 = .ok (.ifCond .eq 6, 3) := by decide +kernel
theorem dX9_hooks_29 : decode cX9_hooks 29 = .ok (.bipush (-2), 2) := by decide +kernel
theorem dX9_hooks_31 : decode cX9_hooks 31 = .ok (.ireturn, 1) := by decide +kernel
theorem dX9_hooks_32 : decode cX9_hooks 32 = .ok (.iload_n 1, 1) := by decide +kernel
theorem dX9_hooks_33 : decode cX9_hooks 33 = .ok (.iload_n 2, 1) := by decide +kernel
theorem dX9_hooks_34 : decode cX9_hooks 34 = .ok (.invokestatic 240, 3) := by decide +kernel
theorem dX9_hooks_37 : decode cX9_hooks 37 = .ok (.iload_n 3, 1) := by decide +kernel
theorem dX9_hooks_38 : decode cX9_hooks 38 = .ok (.invokestatic 181, 3) := by decide +kernel
theorem dX9_hooks_41 : decode cX9_hooks 41 = .ok (.ireturn, 1) := by decide +kernel
theorem dX9_turns_0 : decode cX9_turns 0 = .ok (.iload_n 1, 1) := by decide +kernel
theorem dX9_turns_1 : decode cX9_turns 1 = .ok (.iconst 0, 1) := by decide +kernel
theorem dX9_turns_2 : decode cX9_turns 2 = .ok (.iconst 1, 1) := by decide +kernel
theorem dX9_turns_3 : decode cX9_turns 3 = .ok (.invokestatic 71, 3) := by decide +kernel
theorem dX9_turns_6 : decode cX9_turns 6 = .ok (.ifCond .eq 6, 3) := by decide +kernel
theorem dX9_turns_9 : decode cX9_turns 9 = .ok (.bipush (-2), 2) := by decide +kernel
theorem dX9_turns_11 : decode cX9_turns 11 = .ok (.ireturn, 1) := by decide +kernel
theorem dX9_turns_12 : decode cX9_turns 12 = .ok (.aload_n 0, 1) := by decide +kernel
theorem dX9_turns_13 : decode cX9_turns 13 = .ok (.getfield 67, 3) := by decide +kernel
theorem dX9_turns_16 : decode cX9_turns 16 = .ok (.aload_n 0, 1) := by decide +kernel
theorem dX9_turns_17 : decode cX9_turns 17 = .ok (.getfield 12, 3) := by decide +kernel
theorem dX9_turns_20 : decode cX9_turns 20 = .ok (.invokevirtual 245, 3) := by decide +kernel
theorem dX9_turns_23 : decode cX9_turns 23 = .ok (.istore_n 2, 1) := by decide +kernel
theorem dX9_turns_24 : decode cX9_turns 24 = .ok (.iload_n 1, 1) := by decide +kernel
theorem dX9_turns_25 : decode cX9_turns 25 = .ok (.iconst 1, 1) := by decide +kernel
theorem dX9_turns_26 : decode cX9_turns 26 = .ok (.if_icmp .ne 5, 3) := by decide +kernel
theorem dX9_turns_29 : decode cX9_turns 29 = .ok (.iload_n 2, 1) := by decide +kernel
theorem dX9_turns_30 : decode cX9_turns 30 = .ok (.ireturn, 1) := by decide +kernel
theorem dX9_turns_31 : decode cX9_turns 31 = .ok (.iload_n 2, 1) := by decide +kernel
theorem dX9_turns_32 : decode cX9_turns 32 = .ok (.bipush (-6), 2) := by decide +kernel
theorem dX9_turns_34 : decode cX9_turns 34 = .ok (.if_icmp .ne 7, 3) := by decide +kernel
theorem dX9_turns_37 : decode cX9_turns 37 = .ok (.iconst 1, 1) := by decide +kernel
theorem dX9_turns_38 : decode cX9_turns 38 = .ok (.goto 4, 3) := by decide +kernel
theorem dX9_turns_41 : decode cX9_turns 41 = .ok (.iconst 0, 1) := by decide +kernel
theorem dX9_turns_42 : decode cX9_turns 42 = .ok (.ireturn, 1) := by decide +kernel
theorem dX9_slips_0 : decode cX9_slips 0 = .ok (.aload_n 0, 1) := by decide +kernel
theorem dX9_slips_1 : decode cX9_slips 1 = .ok (.getfield 12, 3) := by decide +kernel
theorem dX9_slips_4 : decode cX9_slips 4 = .ok (.iload_n 1, 1) := by decide +kernel
theorem dX9_slips_5 : decode cX9_slips 5 = .ok (.invokevirtual 83, 3) := by decide +kernel
theorem dX9_slips_8 : decode cX9_slips 8 = .ok (.ifCond .ne 7, 3) := by decide +kernel
theorem dX9_slips_11 : decode cX9_slips 11 = .ok (.ldc2_w 155, 3) := by decide +kernel
theorem dX9_slips_14 : decode cX9_slips 14 = .ok (.lreturn, 1) := by decide +kernel
theorem dX9_slips_15 : decode cX9_slips 15 = .ok (.iload_n 2, 1) := by decide +kernel
theorem dX9_slips_16 : decode cX9_slips 16 = .ok (.iconst 1, 1) := by decide +kernel
theorem dX9_slips_17 : decode cX9_slips 17 = .ok (.sipush 200, 3) := by decide +kernel
theorem dX9_slips_20 : decode cX9_slips 20 = .ok (.invokestatic 71, 3) := by decide +kernel
theorem dX9_slips_23 : decode cX9_slips 23 = .ok (.ifCond .ne 23, 3) := by decide +kernel
theorem dX9_slips_26 : decode cX9_slips 26 = .ok (.iload_n 3, 1) := by decide +kernel
theorem dX9_slips_27 : decode cX9_slips 27 = .ok (.iconst 0, 1) := by decide +kernel
theorem dX9_slips_28 : decode cX9_slips 28 = .ok (.bipush 10, 2) := by decide +kernel
theorem dX9_slips_30 : decode cX9_slips 30 = .ok (.invokestatic 71, 3) := by decide +kernel
theorem dX9_slips_33 : decode cX9_slips 33 = .ok (.ifCond .ne 13, 3) := by decide +kernel
theorem dX9_slips_36 : decode cX9_slips 36 = .ok (.iload 4, 2) := by decide +kernel
theorem dX9_slips_38 : decode cX9_slips 38 = .ok (.iconst 0, 1) := by decide +kernel
theorem dX9_slips_39 : decode cX9_slips 39 = .ok (.iconst 1, 1) := by decide +kernel
theorem dX9_slips_40 : decode cX9_slips 40 = .ok (.invokestatic 71, 3) := by decide +kernel
theorem dX9_slips_43 : decode cX9_slips 43 = .ok (.ifCond .eq 7, 3) := by decide +kernel
theorem dX9_slips_46 : decode cX9_slips 46 = .ok (.ldc2_w 157, 3) := by decide +kernel
theorem dX9_slips_49 : decode cX9_slips 49 = .ok (.lreturn, 1) := by decide +kernel
theorem dX9_slips_50 : decode cX9_slips 50 = .ok (.aload_n 0, 1) := by decide +kernel
theorem dX9_slips_51 : decode cX9_slips 51 = .ok (.getfield 12, 3) := by decide +kernel
theorem dX9_slips_54 : decode cX9_slips 54 = .ok (.iload_n 1, 1) := by decide +kernel
theorem dX9_slips_55 : decode cX9_slips 55 = .ok (.iload_n 2, 1) := by decide +kernel
theorem dX9_slips_56 : decode cX9_slips 56 = .ok (.iload_n 3, 1) := by decide +kernel
theorem dX9_slips_57 : decode cX9_slips 57 = .ok (.invokestatic 248, 3) := by decide +kernel
theorem dX9_slips_60 : decode cX9_slips 60 = .ok (.aload_n 0, 1) := by decide +kernel
theorem dX9_slips_61 : decode cX9_slips 61 = .ok (.getfield 12, 3) := by decide +kernel
theorem dX9_slips_64 : decode cX9_slips 64 = .ok (.invokestatic 254, 3) := by decide +kernel
theorem dX9_slips_67 : decode cX9_slips 67 = .ok (.iload 4, 2) := by decide +kernel
theorem dX9_slips_69 : decode cX9_slips 69 = .ok (.invokestatic 167, 3) := by decide +kernel
theorem dX9_slips_72 : decode cX9_slips 72 = .ok (.lreturn, 1) := by decide +kernel
theorem dX9_calm_0 : decode cX9_calm 0 = .ok (.iload_n 1, 1) := by decide +kernel
theorem dX9_calm_1 : decode cX9_calm 1 = .ok (.iconst 0, 1) := by decide +kernel
theorem dX9_calm_2 : decode cX9_calm 2 = .ok (.bipush 10, 2) := by decide +kernel
theorem dX9_calm_4 : decode cX9_calm 4 = .ok (.invokestatic 71, 3) := by decide +kernel
theorem dX9_calm_7 : decode cX9_calm 7 = .ok (.ifCond .ne 12, 3) := by decide +kernel
theorem dX9_calm_10 : decode cX9_calm 10 = .ok (.iload_n 2, 1) := by decide +kernel
theorem dX9_calm_11 : decode cX9_calm 11 = .ok (.iconst 0, 1) := by decide +kernel
theorem dX9_calm_12 : decode cX9_calm 12 = .ok (.iconst 1, 1) := by decide +kernel
theorem dX9_calm_13 : decode cX9_calm 13 = .ok (.invokestatic 71, 3) := by decide +kernel
theorem dX9_calm_16 : decode cX9_calm 16 = .ok (.ifCond .eq 7, 3) := by decide +kernel
theorem dX9_calm_19 : decode cX9_calm 19 = .ok (.ldc2_w 157, 3) := by decide +kernel
theorem dX9_calm_22 : decode cX9_calm 22 = .ok (.lreturn, 1) := by decide +kernel
theorem dX9_calm_23 : decode cX9_calm 23 = .ok (.aload_n 0, 1) := by decide +kernel
theorem dX9_calm_24 : decode cX9_calm 24 = .ok (.getfield 12, 3) := by decide +kernel
theorem dX9_calm_27 : decode cX9_calm 27 = .ok (.iload_n 1, 1) := by decide +kernel
theorem dX9_calm_28 : decode cX9_calm 28 = .ok (.invokestatic 258, 3) := by decide +kernel
theorem dX9_calm_31 : decode cX9_calm 31 = .ok (.aload_n 0, 1) := by decide +kernel
theorem dX9_calm_32 : decode cX9_calm 32 = .ok (.getfield 12, 3) := by decide +kernel
theorem dX9_calm_35 : decode cX9_calm 35 = .ok (.invokestatic 254, 3) := by decide +kernel
theorem dX9_calm_38 : decode cX9_calm 38 = .ok (.iload_n 2, 1) := by decide +kernel
theorem dX9_calm_39 : decode cX9_calm 39 = .ok (.invokestatic 167, 3) := by decide +kernel
theorem dX9_calm_42 : decode cX9_calm 42 = .ok (.lreturn, 1) := by decide +kernel
theorem dX9_year_0 : decode cX9_year 0 = .ok (.iload_n 1, 1) := by decide +kernel
theorem dX9_year_1 : decode cX9_year 1 = .ok (.iconst 0, 1) := by decide +kernel
theorem dX9_year_2 : decode cX9_year 2 = .ok (.sipush 9999, 3) := by decide +kernel
theorem dX9_year_5 : decode cX9_year 5 = .ok (.invokestatic 71, 3) := by decide +kernel
theorem dX9_year_8 : decode cX9_year 8 = .ok (.ifCond .ne 22, 3) := by decide +kernel
theorem dX9_year_11 : decode cX9_year 11 = .ok (.iload_n 2, 1) := by decide +kernel
theorem dX9_year_12 : decode cX9_year 12 = .ok (.iconst 1, 1) := by decide +kernel
theorem dX9_year_13 : decode cX9_year 13 = .ok (.bipush 99, 2) := by decide +kernel
theorem dX9_year_15 : decode cX9_year 15 = .ok (.invokestatic 71, 3) := by decide +kernel
theorem dX9_year_18 : decode cX9_year 18 = .ok (.ifCond .ne 12, 3) := by decide +kernel
theorem dX9_year_21 : decode cX9_year 21 = .ok (.iload_n 3, 1) := by decide +kernel
theorem dX9_year_22 : decode cX9_year 22 = .ok (.iconst 0, 1) := by decide +kernel
theorem dX9_year_23 : decode cX9_year 23 = .ok (.iconst 2, 1) := by decide +kernel
theorem dX9_year_24 : decode cX9_year 24 = .ok (.invokestatic 71, 3) := by decide +kernel
theorem dX9_year_27 : decode cX9_year 27 = .ok (.ifCond .eq 6, 3) := by decide +kernel
theorem dX9_year_30 : decode cX9_year 30 = .ok (.bipush (-2), 2) := by decide +kernel
theorem dX9_year_32 : decode cX9_year 32 = .ok (.ireturn, 1) := by decide +kernel
theorem dX9_year_33 : decode cX9_year 33 = .ok (.aload_n 0, 1) := by decide +kernel
theorem dX9_year_34 : decode cX9_year 34 = .ok (.getfield 39, 3) := by decide +kernel
theorem dX9_year_37 : decode cX9_year 37 = .ok (.aload_n 0, 1) := by decide +kernel
theorem dX9_year_38 : decode cX9_year 38 = .ok (.getfield 12, 3) := by decide +kernel
theorem dX9_year_41 : decode cX9_year 41 = .ok (.iload_n 1, 1) := by decide +kernel
theorem dX9_year_42 : decode cX9_year 42 = .ok (.iload_n 2, 1) := by decide +kernel
theorem dX9_year_43 : decode cX9_year 43 = .ok (.invokevirtual 262, 3) := by decide +kernel
theorem dX9_year_46 : decode cX9_year 46 = .ok (.iload_n 3, 1) := by decide +kernel
theorem dX9_year_47 : decode cX9_year 47 = .ok (.lookupswitch 41 #[(0, 25), (1, 33)], 25) := by decide +kernel
theorem dX9_year_72 : decode cX9_year 72 = .ok (.aload_n 0, 1) := by decide +kernel
theorem dX9_year_73 : decode cX9_year 73 = .ok (.getfield 39, 3) := by decide +kernel
theorem dX9_year_76 : decode cX9_year 76 = .ok (.getfield 148, 3) := by decide +kernel
theorem dX9_year_79 : decode cX9_year 79 = .ok (.ireturn, 1) := by decide +kernel
theorem dX9_year_80 : decode cX9_year 80 = .ok (.aload_n 0, 1) := by decide +kernel
theorem dX9_year_81 : decode cX9_year 81 = .ok (.getfield 39, 3) := by decide +kernel
theorem dX9_year_84 : decode cX9_year 84 = .ok (.getfield 266, 3) := by decide +kernel
theorem dX9_year_87 : decode cX9_year 87 = .ok (.ireturn, 1) := by decide +kernel
theorem dX9_year_88 : decode cX9_year 88 = .ok (.aload_n 0, 1) := by decide +kernel
theorem dX9_year_89 : decode cX9_year 89 = .ok (.getfield 39, 3) := by decide +kernel
theorem dX9_year_92 : decode cX9_year 92 = .ok (.getfield 132, 3) := by decide +kernel
theorem dX9_year_95 : decode cX9_year 95 = .ok (.getfield 135, 3) := by decide +kernel
theorem dX9_year_98 : decode cX9_year 98 = .ok (.ireturn, 1) := by decide +kernel
theorem dX9_image_0 : decode cX9_image 0 = .ok (.iload_n 1, 1) := by decide +kernel
theorem dX9_image_1 : decode cX9_image 1 = .ok (.iconst 0, 1) := by decide +kernel
theorem dX9_image_2 : decode cX9_image 2 = .ok (.iconst 1, 1) := by decide +kernel
theorem dX9_image_3 : decode cX9_image 3 = .ok (.invokestatic 71, 3) := by decide +kernel
theorem dX9_image_6 : decode cX9_image 6 = .ok (.ifCond .eq 6, 3) := by decide +kernel
theorem dX9_image_9 : decode cX9_image 9 = .ok (.bipush (-2), 2) := by decide +kernel
theorem dX9_image_11 : decode cX9_image 11 = .ok (.ireturn, 1) := by decide +kernel
theorem dX9_image_12 : decode cX9_image 12 = .ok (.iload_n 1, 1) := by decide +kernel
theorem dX9_image_13 : decode cX9_image 13 = .ok (.ifCond .ne 22, 3) := by decide +kernel
theorem dX9_image_16 : decode cX9_image 16 = .ok (.aload_n 0, 1) := by decide +kernel
theorem dX9_image_17 : decode cX9_image 17 = .ok (.getfield 16, 3) := by decide +kernel
theorem dX9_image_20 : decode cX9_image 20 = .ok (.aload_n 0, 1) := by decide +kernel
theorem dX9_image_21 : decode cX9_image 21 = .ok (.getfield 12, 3) := by decide +kernel
theorem dX9_image_24 : decode cX9_image 24 = .ok (.invokevirtual 269, 3) := by decide +kernel
theorem dX9_image_27 : decode cX9_image 27 = .ok (.aload_n 0, 1) := by decide +kernel
theorem dX9_image_28 : decode cX9_image 28 = .ok (.iconst 1, 1) := by decide +kernel
theorem dX9_image_29 : decode cX9_image 29 = .ok (.putfield 22, 3) := by decide +kernel
theorem dX9_image_32 : decode cX9_image 32 = .ok (.goto 19, 3) := by decide +kernel
theorem dX9_image_35 : decode cX9_image 35 = .ok (.aload_n 0, 1) := by decide +kernel
theorem dX9_image_36 : decode cX9_image 36 = .ok (.getfield 19, 3) := by decide +kernel
theorem dX9_image_39 : decode cX9_image 39 = .ok (.aload_n 0, 1) := by decide +kernel
theorem dX9_image_40 : decode cX9_image 40 = .ok (.getfield 12, 3) := by decide +kernel
theorem dX9_image_43 : decode cX9_image 43 = .ok (.invokevirtual 269, 3) := by decide +kernel
theorem dX9_image_46 : decode cX9_image 46 = .ok (.aload_n 0, 1) := by decide +kernel
theorem dX9_image_47 : decode cX9_image 47 = .ok (.iconst 1, 1) := by decide +kernel
theorem dX9_image_48 : decode cX9_image 48 = .ok (.putfield 26, 3) := by decide +kernel
theorem dX9_image_51 : decode cX9_image 51 = .ok (.iconst 1, 1) := by decide +kernel
theorem dX9_image_52 : decode cX9_image 52 = .ok (.ireturn, 1) := by decide +kernel
theorem dX9_restore_0 : decode cX9_restore 0 = .ok (.iload_n 1, 1) := by decide +kernel
theorem dX9_restore_1 : decode cX9_restore 1 = .ok (.iconst 0, 1) := by decide +kernel
theorem dX9_restore_2 : decode cX9_restore 2 = .ok (.iconst 1, 1) := by decide +kernel
theorem dX9_restore_3 : decode cX9_restore 3 = .ok (.invokestatic 71, 3) := by decide +kernel
theorem dX9_restore_6 : decode cX9_restore 6 = .ok (.ifCond .eq 6, 3) := by decide +kernel
theorem dX9_restore_9 : decode cX9_restore 9 = .ok (.bipush (-2), 2) := by decide +kernel
theorem dX9_restore_11 : decode cX9_restore 11 = .ok (.ireturn, 1) := by decide +kernel
theorem dX9_restore_12 : decode cX9_restore 12 = .ok (.iload_n 1, 1) := by decide +kernel
theorem dX9_restore_13 : decode cX9_restore 13 = .ok (.ifCond .ne 13, 3) := by decide +kernel
theorem dX9_restore_16 : decode cX9_restore 16 = .ok (.aload_n 0, 1) := by decide +kernel
theorem dX9_restore_17 : decode cX9_restore 17 = .ok (.getfield 22, 3) := by decide +kernel
theorem dX9_restore_20 : decode cX9_restore 20 = .ok (.ifCond .eq 13, 3) := by decide +kernel
theorem dX9_restore_23 : decode cX9_restore 23 = .ok (.goto 13, 3) := by decide +kernel
theorem dX9_restore_26 : decode cX9_restore 26 = .ok (.aload_n 0, 1) := by decide +kernel
theorem dX9_restore_27 : decode cX9_restore 27 = .ok (.getfield 26, 3) := by decide +kernel
theorem dX9_restore_30 : decode cX9_restore 30 = .ok (.ifCond .ne 6, 3) := by decide +kernel
theorem dX9_restore_33 : decode cX9_restore 33 = .ok (.bipush (-3), 2) := by decide +kernel
theorem dX9_restore_35 : decode cX9_restore 35 = .ok (.ireturn, 1) := by decide +kernel
theorem dX9_restore_36 : decode cX9_restore 36 = .ok (.aload_n 0, 1) := by decide +kernel
theorem dX9_restore_37 : decode cX9_restore 37 = .ok (.getfield 12, 3) := by decide +kernel
theorem dX9_restore_40 : decode cX9_restore 40 = .ok (.iload_n 1, 1) := by decide +kernel
theorem dX9_restore_41 : decode cX9_restore 41 = .ok (.ifCond .ne 10, 3) := by decide +kernel
theorem dX9_restore_44 : decode cX9_restore 44 = .ok (.aload_n 0, 1) := by decide +kernel
theorem dX9_restore_45 : decode cX9_restore 45 = .ok (.getfield 16, 3) := by decide +kernel
theorem dX9_restore_48 : decode cX9_restore 48 = .ok (.goto 7, 3) := by decide +kernel
theorem dX9_restore_51 : decode cX9_restore 51 = .ok (.aload_n 0, 1) := by decide +kernel
theorem dX9_restore_52 : decode cX9_restore 52 = .ok (.getfield 19, 3) := by decide +kernel
theorem dX9_restore_55 : decode cX9_restore 55 = .ok (.invokevirtual 269, 3) := by decide +kernel
theorem dX9_restore_58 : decode cX9_restore 58 = .ok (.iconst 1, 1) := by decide +kernel
theorem dX9_restore_59 : decode cX9_restore 59 = .ok (.ireturn, 1) := by decide +kernel
theorem dX9_told_0 : decode cX9_told 0 = .ok (.iload_n 1, 1) := by decide +kernel
theorem dX9_told_1 : decode cX9_told 1 = .ok (.tableswitch 111 0 7 #[47, 55, 63, 71, 79, 87, 95, 103], 47) := by decide +kernel
theorem dX9_told_48 : decode cX9_told 48 = .ok (.aload_n 0, 1) := by decide +kernel
theorem dX9_told_49 : decode cX9_told 49 = .ok (.getfield 32, 3) := by decide +kernel
theorem dX9_told_52 : decode cX9_told 52 = .ok (.getfield 107, 3) := by decide +kernel
theorem dX9_told_55 : decode cX9_told 55 = .ok (.ireturn, 1) := by decide +kernel
theorem dX9_told_56 : decode cX9_told 56 = .ok (.aload_n 0, 1) := by decide +kernel
theorem dX9_told_57 : decode cX9_told 57 = .ok (.getfield 12, 3) := by decide +kernel
theorem dX9_told_60 : decode cX9_told 60 = .ok (.getfield 75, 3) := by decide +kernel
theorem dX9_told_63 : decode cX9_told 63 = .ok (.ireturn, 1) := by decide +kernel
theorem dX9_told_64 : decode cX9_told 64 = .ok (.aload_n 0, 1) := by decide +kernel
theorem dX9_told_65 : decode cX9_told 65 = .ok (.getfield 12, 3) := by decide +kernel
theorem dX9_told_68 : decode cX9_told 68 = .ok (.getfield 272, 3) := by decide +kernel
theorem dX9_told_71 : decode cX9_told 71 = .ok (.ireturn, 1) := by decide +kernel
theorem dX9_told_72 : decode cX9_told 72 = .ok (.aload_n 0, 1) := by decide +kernel
theorem dX9_told_73 : decode cX9_told 73 = .ok (.getfield 12, 3) := by decide +kernel
theorem dX9_told_76 : decode cX9_told 76 = .ok (.getfield 275, 3) := by decide +kernel
theorem dX9_told_79 : decode cX9_told 79 = .ok (.ireturn, 1) := by decide +kernel
theorem dX9_told_80 : decode cX9_told 80 = .ok (.aload_n 0, 1) := by decide +kernel
theorem dX9_told_81 : decode cX9_told 81 = .ok (.getfield 12, 3) := by decide +kernel
theorem dX9_told_84 : decode cX9_told 84 = .ok (.getfield 278, 3) := by decide +kernel
theorem dX9_told_87 : decode cX9_told 87 = .ok (.ireturn, 1) := by decide +kernel
theorem dX9_told_88 : decode cX9_told 88 = .ok (.aload_n 0, 1) := by decide +kernel
theorem dX9_told_89 : decode cX9_told 89 = .ok (.getfield 12, 3) := by decide +kernel
theorem dX9_told_92 : decode cX9_told 92 = .ok (.getfield 138, 3) := by decide +kernel
theorem dX9_told_95 : decode cX9_told 95 = .ok (.ireturn, 1) := by decide +kernel
theorem dX9_told_96 : decode cX9_told 96 = .ok (.aload_n 0, 1) := by decide +kernel
theorem dX9_told_97 : decode cX9_told 97 = .ok (.getfield 12, 3) := by decide +kernel
theorem dX9_told_100 : decode cX9_told 100 = .ok (.getfield 135, 3) := by decide +kernel
theorem dX9_told_103 : decode cX9_told 103 = .ok (.ireturn, 1) := by decide +kernel
theorem dX9_told_104 : decode cX9_told 104 = .ok (.aload_n 0, 1) := by decide +kernel
theorem dX9_told_105 : decode cX9_told 105 = .ok (.getfield 12, 3) := by decide +kernel
theorem dX9_told_108 : decode cX9_told 108 = .ok (.getfield 201, 3) := by decide +kernel
theorem dX9_told_111 : decode cX9_told 111 = .ok (.ireturn, 1) := by decide +kernel
theorem dX9_told_112 : decode cX9_told 112 = .ok (.aload_n 0, 1) := by decide +kernel
theorem dX9_told_113 : decode cX9_told 113 = .ok (.iload_n 1, 1) := by decide +kernel
theorem dX9_told_114 : decode cX9_told 114 = .ok (.invokevirtual 281, 3) := by decide +kernel
theorem dX9_told_117 : decode cX9_told 117 = .ok (.ireturn, 1) := by decide +kernel
theorem dX9_isOutside_0 : decode cX9_isOutside 0 = .ok (.iload_n 0, 1) := by decide +kernel
theorem dX9_isOutside_1 : decode cX9_isOutside 1 = .ok (.iload_n 1, 1) := by decide +kernel
theorem dX9_isOutside_2 : decode cX9_isOutside 2 = .ok (.if_icmp .lt 8, 3) := by decide +kernel
theorem dX9_isOutside_5 : decode cX9_isOutside 5 = .ok (.iload_n 0, 1) := by decide +kernel
theorem dX9_isOutside_6 : decode cX9_isOutside 6 = .ok (.iload_n 2, 1) := by decide +kernel
theorem dX9_isOutside_7 : decode cX9_isOutside 7 = .ok (.if_icmp .le 7, 3) := by decide +kernel
theorem dX9_isOutside_10 : decode cX9_isOutside 10 = .ok (.iconst 1, 1) := by decide +kernel
theorem dX9_isOutside_11 : decode cX9_isOutside 11 = .ok (.goto 4, 3) := by decide +kernel
theorem dX9_isOutside_14 : decode cX9_isOutside 14 = .ok (.iconst 0, 1) := by decide +kernel
theorem dX9_isOutside_15 : decode cX9_isOutside 15 = .ok (.ireturn, 1) := by decide +kernel
theorem dX9_areTwo_0 : decode cX9_areTwo 0 = .ok (.aload_n 0, 1) := by decide +kernel
theorem dX9_areTwo_1 : decode cX9_areTwo 1 = .ok (.getfield 12, 3) := by decide +kernel
theorem dX9_areTwo_4 : decode cX9_areTwo 4 = .ok (.iload_n 1, 1) := by decide +kernel
theorem dX9_areTwo_5 : decode cX9_areTwo 5 = .ok (.invokevirtual 83, 3) := by decide +kernel
theorem dX9_areTwo_8 : decode cX9_areTwo 8 = .ok (.ifCond .eq 23, 3) := by decide +kernel
theorem dX9_areTwo_11 : decode cX9_areTwo 11 = .ok (.aload_n 0, 1) := by decide +kernel
theorem dX9_areTwo_12 : decode cX9_areTwo 12 = .ok (.getfield 12, 3) := by decide +kernel
theorem dX9_areTwo_15 : decode cX9_areTwo 15 = .ok (.iload_n 2, 1) := by decide +kernel
theorem dX9_areTwo_16 : decode cX9_areTwo 16 = .ok (.invokevirtual 83, 3) := by decide +kernel
theorem dX9_areTwo_19 : decode cX9_areTwo 19 = .ok (.ifCond .eq 12, 3) := by decide +kernel
theorem dX9_areTwo_22 : decode cX9_areTwo 22 = .ok (.iload_n 1, 1) := by decide +kernel
theorem dX9_areTwo_23 : decode cX9_areTwo 23 = .ok (.iload_n 2, 1) := by decide +kernel
theorem dX9_areTwo_24 : decode cX9_areTwo 24 = .ok (.if_icmp .eq 7, 3) := by decide +kernel
theorem dX9_areTwo_27 : decode cX9_areTwo 27 = .ok (.iconst 1, 1) := by decide +kernel
theorem dX9_areTwo_28 : decode cX9_areTwo 28 = .ok (.goto 4, 3) := by decide +kernel
theorem dX9_areTwo_31 : decode cX9_areTwo 31 = .ok (.iconst 0, 1) := by decide +kernel
theorem dX9_areTwo_32 : decode cX9_areTwo 32 = .ok (.ireturn, 1) := by decide +kernel
theorem dX9_putEnd_0 : decode cX9_putEnd 0 = .ok (.iload_n 1, 1) := by decide +kernel
theorem dX9_putEnd_1 : decode cX9_putEnd 1 = .ok (.iconst 1, 1) := by decide +kernel
theorem dX9_putEnd_2 : decode cX9_putEnd 2 = .ok (.bipush 9, 2) := by decide +kernel
theorem dX9_putEnd_4 : decode cX9_putEnd 4 = .ok (.invokestatic 71, 3) := by decide +kernel
theorem dX9_putEnd_7 : decode cX9_putEnd 7 = .ok (.ifCond .eq 6, 3) := by decide +kernel
theorem dX9_putEnd_10 : decode cX9_putEnd 10 = .ok (.bipush (-2), 2) := by decide +kernel
theorem dX9_putEnd_12 : decode cX9_putEnd 12 = .ok (.ireturn, 1) := by decide +kernel
theorem dX9_putEnd_13 : decode cX9_putEnd 13 = .ok (.aload_n 0, 1) := by decide +kernel
theorem dX9_putEnd_14 : decode cX9_putEnd 14 = .ok (.getfield 12, 3) := by decide +kernel
theorem dX9_putEnd_17 : decode cX9_putEnd 17 = .ok (.getfield 272, 3) := by decide +kernel
theorem dX9_putEnd_20 : decode cX9_putEnd 20 = .ok (.istore_n 2, 1) := by decide +kernel
theorem dX9_putEnd_21 : decode cX9_putEnd 21 = .ok (.aload_n 0, 1) := by decide +kernel
theorem dX9_putEnd_22 : decode cX9_putEnd 22 = .ok (.getfield 12, 3) := by decide +kernel
theorem dX9_putEnd_25 : decode cX9_putEnd 25 = .ok (.iload_n 1, 1) := by decide +kernel
theorem dX9_putEnd_26 : decode cX9_putEnd 26 = .ok (.putfield 272, 3) := by decide +kernel
theorem dX9_putEnd_29 : decode cX9_putEnd 29 = .ok (.iload_n 2, 1) := by decide +kernel
theorem dX9_putEnd_30 : decode cX9_putEnd 30 = .ok (.ireturn, 1) := by decide +kernel
theorem dX9_putLimit_0 : decode cX9_putLimit 0 = .ok (.iload_n 1, 1) := by decide +kernel
theorem dX9_putLimit_1 : decode cX9_putLimit 1 = .ok (.iconst 1, 1) := by decide +kernel
theorem dX9_putLimit_2 : decode cX9_putLimit 2 = .ok (.bipush 99, 2) := by decide +kernel
theorem dX9_putLimit_4 : decode cX9_putLimit 4 = .ok (.invokestatic 71, 3) := by decide +kernel
theorem dX9_putLimit_7 : decode cX9_putLimit 7 = .ok (.ifCond .eq 6, 3) := by decide +kernel
theorem dX9_putLimit_10 : decode cX9_putLimit 10 = .ok (.bipush (-2), 2) := by decide +kernel
theorem dX9_putLimit_12 : decode cX9_putLimit 12 = .ok (.ireturn, 1) := by decide +kernel
theorem dX9_putLimit_13 : decode cX9_putLimit 13 = .ok (.aload_n 0, 1) := by decide +kernel
theorem dX9_putLimit_14 : decode cX9_putLimit 14 = .ok (.getfield 12, 3) := by decide +kernel
theorem dX9_putLimit_17 : decode cX9_putLimit 17 = .ok (.getfield 275, 3) := by decide +kernel
theorem dX9_putLimit_20 : decode cX9_putLimit 20 = .ok (.istore_n 2, 1) := by decide +kernel
theorem dX9_putLimit_21 : decode cX9_putLimit 21 = .ok (.aload_n 0, 1) := by decide +kernel
theorem dX9_putLimit_22 : decode cX9_putLimit 22 = .ok (.getfield 12, 3) := by decide +kernel
theorem dX9_putLimit_25 : decode cX9_putLimit 25 = .ok (.iload_n 1, 1) := by decide +kernel
theorem dX9_putLimit_26 : decode cX9_putLimit 26 = .ok (.putfield 275, 3) := by decide +kernel
theorem dX9_putLimit_29 : decode cX9_putLimit 29 = .ok (.iload_n 2, 1) := by decide +kernel
theorem dX9_putLimit_30 : decode cX9_putLimit 30 = .ok (.ireturn, 1) := by decide +kernel
theorem dX9_putRent_0 : decode cX9_putRent 0 = .ok (.iload_n 1, 1) := by decide +kernel
theorem dX9_putRent_1 : decode cX9_putRent 1 = .ok (.iconst 0, 1) := by decide +kernel
theorem dX9_putRent_2 : decode cX9_putRent 2 = .ok (.bipush 9, 2) := by decide +kernel
theorem dX9_putRent_4 : decode cX9_putRent 4 = .ok (.invokestatic 71, 3) := by decide +kernel
theorem dX9_putRent_7 : decode cX9_putRent 7 = .ok (.ifCond .eq 6, 3) := by decide +kernel
theorem dX9_putRent_10 : decode cX9_putRent 10 = .ok (.bipush (-2), 2) := by decide +kernel
theorem dX9_putRent_12 : decode cX9_putRent 12 = .ok (.ireturn, 1) := by decide +kernel
theorem dX9_putRent_13 : decode cX9_putRent 13 = .ok (.aload_n 0, 1) := by decide +kernel
theorem dX9_putRent_14 : decode cX9_putRent 14 = .ok (.getfield 12, 3) := by decide +kernel
theorem dX9_putRent_17 : decode cX9_putRent 17 = .ok (.getfield 278, 3) := by decide +kernel
theorem dX9_putRent_20 : decode cX9_putRent 20 = .ok (.istore_n 2, 1) := by decide +kernel
theorem dX9_putRent_21 : decode cX9_putRent 21 = .ok (.aload_n 0, 1) := by decide +kernel
theorem dX9_putRent_22 : decode cX9_putRent 22 = .ok (.getfield 12, 3) := by decide +kernel
theorem dX9_putRent_25 : decode cX9_putRent 25 = .ok (.iload_n 1, 1) := by decide +kernel
theorem dX9_putRent_26 : decode cX9_putRent 26 = .ok (.putfield 278, 3) := by decide +kernel
theorem dX9_putRent_29 : decode cX9_putRent 29 = .ok (.iload_n 2, 1) := by decide +kernel
theorem dX9_putRent_30 : decode cX9_putRent 30 = .ok (.ireturn, 1) := by decide +kernel
theorem dX9_gapTold_0 : decode cX9_gapTold 0 = .ok (.iload_n 1, 1) := by decide +kernel
theorem dX9_gapTold_1 : decode cX9_gapTold 1 = .ok (.bipush 10, 2) := by decide +kernel
theorem dX9_gapTold_3 : decode cX9_gapTold 3 = .ok (.bipush 10, 2) := by decide +kernel
theorem dX9_gapTold_5 : decode cX9_gapTold 5 = .ok (.aload_n 0, 1) := by decide +kernel
theorem dX9_gapTold_6 : decode cX9_gapTold 6 = .ok (.getfield 12, 3) := by decide +kernel
theorem dX9_gapTold_9 : decode cX9_gapTold 9 = .ok (.getfield 75, 3) := by decide +kernel
theorem dX9_gapTold_12 : decode cX9_gapTold 12 = .ok (.iadd, 1) := by decide +kernel
theorem dX9_gapTold_13 : decode cX9_gapTold 13 = .ok (.iconst 1, 1) := by decide +kernel
theorem dX9_gapTold_14 : decode cX9_gapTold 14 = .ok (.isub, 1) := by decide +kernel
theorem dX9_gapTold_15 : decode cX9_gapTold 15 = .ok (.invokestatic 71, 3) := by decide +kernel
theorem dX9_gapTold_18 : decode cX9_gapTold 18 = .ok (.ifCond .eq 6, 3) := by decide +kernel
theorem dX9_gapTold_21 : decode cX9_gapTold 21 = .ok (.bipush (-2), 2) := by decide +kernel
theorem dX9_gapTold_23 : decode cX9_gapTold 23 = .ok (.ireturn, 1) := by decide +kernel
theorem dX9_gapTold_24 : decode cX9_gapTold 24 = .ok (.aload_n 0, 1) := by decide +kernel
theorem dX9_gapTold_25 : decode cX9_gapTold 25 = .ok (.getfield 12, 3) := by decide +kernel
theorem dX9_gapTold_28 : decode cX9_gapTold 28 = .ok (.getfield 87, 3) := by decide +kernel
theorem dX9_gapTold_31 : decode cX9_gapTold 31 = .ok (.iload_n 1, 1) := by decide +kernel
theorem dX9_gapTold_32 : decode cX9_gapTold 32 = .ok (.bipush 10, 2) := by decide +kernel
theorem dX9_gapTold_34 : decode cX9_gapTold 34 = .ok (.isub, 1) := by decide +kernel
theorem dX9_gapTold_35 : decode cX9_gapTold 35 = .ok (.iaload, 1) := by decide +kernel
theorem dX9_gapTold_36 : decode cX9_gapTold 36 = .ok (.ireturn, 1) := by decide +kernel
theorem dX9_canBePlayed_0 : decode cX9_canBePlayed 0 = .ok (.aload_n 0, 1) := by decide +kernel
theorem dX9_canBePlayed_1 : decode cX9_canBePlayed 1 = .ok (.getfield 32, 3) := by decide +kernel
theorem dX9_canBePlayed_4 : decode cX9_canBePlayed 4 = .ok (.aload_n 0, 1) := by decide +kernel
theorem dX9_canBePlayed_5 : decode cX9_canBePlayed 5 = .ok (.getfield 12, 3) := by decide +kernel
theorem dX9_canBePlayed_8 : decode cX9_canBePlayed 8 = .ok (.getfield 75, 3) := by decide +kernel
theorem dX9_canBePlayed_11 : decode cX9_canBePlayed 11 = .ok (.invokevirtual 112, 3) := by decide +kernel
theorem dX9_canBePlayed_14 : decode cX9_canBePlayed 14 = .ok (.bipush (-6), 2) := by decide +kernel
theorem dX9_canBePlayed_16 : decode cX9_canBePlayed 16 = .ok (.if_icmp .eq 5, 3) := by decide +kernel
theorem dX9_canBePlayed_19 : decode cX9_canBePlayed 19 = .ok (.iconst 0, 1) := by decide +kernel
theorem dX9_canBePlayed_20 : decode cX9_canBePlayed 20 = .ok (.ireturn, 1) := by decide +kernel
theorem dX9_canBePlayed_21 : decode cX9_canBePlayed 21 = .ok (.aload_n 0, 1) := by decide +kernel
theorem dX9_canBePlayed_22 : decode cX9_canBePlayed 22 = .ok (.getfield 39, 3) := by decide +kernel
theorem dX9_canBePlayed_25 : decode cX9_canBePlayed 25 = .ok (.aload_n 0, 1) := by decide +kernel
theorem dX9_canBePlayed_26 : decode cX9_canBePlayed 26 = .ok (.getfield 32, 3) := by decide +kernel
theorem dX9_canBePlayed_29 : decode cX9_canBePlayed 29 = .ok (.aload_n 0, 1) := by decide +kernel
theorem dX9_canBePlayed_30 : decode cX9_canBePlayed 30 = .ok (.getfield 12, 3) := by decide +kernel
theorem dX9_canBePlayed_33 : decode cX9_canBePlayed 33 = .ok (.iload_n 1, 1) := by decide +kernel
theorem dX9_canBePlayed_34 : decode cX9_canBePlayed 34 = .ok (.invokevirtual 118, 3) := by decide +kernel
