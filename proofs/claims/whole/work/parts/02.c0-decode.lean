theorem dX0_ofAll_0 : decode cX0_ofAll 0 = .ok (.bipush 10, 2) := by decide +kernel
theorem dX0_ofAll_2 : decode cX0_ofAll 2 = .ok (.aload_n 0, 1) := by decide +kernel
theorem dX0_ofAll_3 : decode cX0_ofAll 3 = .ok (.getfield 9, 3) := by decide +kernel
theorem dX0_ofAll_6 : decode cX0_ofAll 6 = .ok (.invokestatic 15, 3) := by decide +kernel
theorem dX0_ofAll_9 : decode cX0_ofAll 9 = .ok (.invokestatic 21, 3) := by decide +kernel
theorem dX0_ofAll_12 : decode cX0_ofAll 12 = .ok (.lreturn, 1) := by decide +kernel
theorem dX0_toHear_0 : decode cX0_toHear 0 = .ok (.lconst 0, 1) := by decide +kernel
theorem dX0_toHear_1 : decode cX0_toHear 1 = .ok (.lstore 4, 2) := by decide +kernel
theorem dX0_toHear_3 : decode cX0_toHear 3 = .ok (.iconst 0, 1) := by decide +kernel
theorem dX0_toHear_4 : decode cX0_toHear 4 = .ok (.istore 6, 2) := by decide +kernel
theorem dX0_toHear_6 : decode cX0_toHear 6 = .ok (.iload 6, 2) := by decide +kernel
theorem dX0_toHear_8 : decode cX0_toHear 8 = .ok (.aload_n 0, 1) := by decide +kernel
theorem dX0_toHear_9 : decode cX0_toHear 9 = .ok (.getfield 9, 3) := by decide +kernel
theorem dX0_toHear_12 : decode cX0_toHear 12 = .ok (.if_icmp .gt 47, 3) := by decide +kernel
theorem dX0_toHear_15 : decode cX0_toHear 15 = .ok (.iload 6, 2) := by decide +kernel
theorem dX0_toHear_17 : decode cX0_toHear 17 = .ok (.aload_n 0, 1) := by decide +kernel
theorem dX0_toHear_18 : decode cX0_toHear 18 = .ok (.getfield 9, 3) := by decide +kernel
theorem dX0_toHear_21 : decode cX0_toHear 21 = .ok (.invokestatic 27, 3) := by decide +kernel
theorem dX0_toHear_24 : decode cX0_toHear 24 = .ok (.ifCond .eq 29, 3) := by decide +kernel
theorem dX0_toHear_27 : decode cX0_toHear 27 = .ok (.aload_n 0, 1) := by decide +kernel
theorem dX0_toHear_28 : decode cX0_toHear 28 = .ok (.iload_n 1, 1) := by decide +kernel
theorem dX0_toHear_29 : decode cX0_toHear 29 = .ok (.iload 6, 2) := by decide +kernel
theorem dX0_toHear_31 : decode cX0_toHear 31 = .ok (.invokevirtual 31, 3) := by decide +kernel
theorem dX0_toHear_34 : decode cX0_toHear 34 = .ok (.iload_n 2, 1) := by decide +kernel
theorem dX0_toHear_35 : decode cX0_toHear 35 = .ok (.if_icmp .ne 18, 3) := by decide +kernel
theorem dX0_toHear_38 : decode cX0_toHear 38 = .ok (.lload 4, 2) := by decide +kernel
theorem dX0_toHear_40 : decode cX0_toHear 40 = .ok (.aload_n 0, 1) := by decide +kernel
theorem dX0_toHear_41 : decode cX0_toHear 41 = .ok (.getfield 9, 3) := by decide +kernel
theorem dX0_toHear_44 : decode cX0_toHear 44 = .ok (.iload 6, 2) := by decide +kernel
theorem dX0_toHear_46 : decode cX0_toHear 46 = .ok (.iload_n 3, 1) := by decide +kernel
theorem dX0_toHear_47 : decode cX0_toHear 47 = .ok (.invokestatic 35, 3) := by decide +kernel
theorem dX0_toHear_50 : decode cX0_toHear 50 = .ok (.ladd, 1) := by decide +kernel
theorem dX0_toHear_51 : decode cX0_toHear 51 = .ok (.lstore 4, 2) := by decide +kernel
theorem dX0_toHear_53 : decode cX0_toHear 53 = .ok (.iinc 6 1, 3) := by decide +kernel
theorem dX0_toHear_56 : decode cX0_toHear 56 = .ok (.goto (-50), 3) := by decide +kernel
theorem dX0_toHear_59 : decode cX0_toHear 59 = .ok (.lload 4, 2) := by decide +kernel
theorem dX0_toHear_61 : decode cX0_toHear 61 = .ok (.lreturn, 1) := by decide +kernel
theorem dX0_toBeCalm_0 : decode cX0_toBeCalm 0 = .ok (.lconst 0, 1) := by decide +kernel
theorem dX0_toBeCalm_1 : decode cX0_toBeCalm 1 = .ok (.lstore_n 2, 1) := by decide +kernel
theorem dX0_toBeCalm_2 : decode cX0_toBeCalm 2 = .ok (.iconst 0, 1) := by decide +kernel
theorem dX0_toBeCalm_3 : decode cX0_toBeCalm 3 = .ok (.istore 4, 2) := by decide +kernel
theorem dX0_toBeCalm_5 : decode cX0_toBeCalm 5 = .ok (.iload 4, 2) := by decide +kernel
theorem dX0_toBeCalm_7 : decode cX0_toBeCalm 7 = .ok (.aload_n 0, 1) := by decide +kernel
theorem dX0_toBeCalm_8 : decode cX0_toBeCalm 8 = .ok (.getfield 9, 3) := by decide +kernel
theorem dX0_toBeCalm_11 : decode cX0_toBeCalm 11 = .ok (.if_icmp .gt 43, 3) := by decide +kernel
theorem dX0_toBeCalm_14 : decode cX0_toBeCalm 14 = .ok (.iload 4, 2) := by decide +kernel
theorem dX0_toBeCalm_16 : decode cX0_toBeCalm 16 = .ok (.aload_n 0, 1) := by decide +kernel
theorem dX0_toBeCalm_17 : decode cX0_toBeCalm 17 = .ok (.getfield 9, 3) := by decide +kernel
theorem dX0_toBeCalm_20 : decode cX0_toBeCalm 20 = .ok (.invokestatic 27, 3) := by decide +kernel
theorem dX0_toBeCalm_23 : decode cX0_toBeCalm 23 = .ok (.ifCond .eq 25, 3) := by decide +kernel
theorem dX0_toBeCalm_26 : decode cX0_toBeCalm 26 = .ok (.aload_n 0, 1) := by decide +kernel
theorem dX0_toBeCalm_27 : decode cX0_toBeCalm 27 = .ok (.iload 4, 2) := by decide +kernel
theorem dX0_toBeCalm_29 : decode cX0_toBeCalm 29 = .ok (.invokevirtual 39, 3) := by decide +kernel
theorem dX0_toBeCalm_32 : decode cX0_toBeCalm 32 = .ok (.ifCond .ne 16, 3) := by decide +kernel
theorem dX0_toBeCalm_35 : decode cX0_toBeCalm 35 = .ok (.lload_n 2, 1) := by decide +kernel
theorem dX0_toBeCalm_36 : decode cX0_toBeCalm 36 = .ok (.aload_n 0, 1) := by decide +kernel
theorem dX0_toBeCalm_37 : decode cX0_toBeCalm 37 = .ok (.getfield 9, 3) := by decide +kernel
theorem dX0_toBeCalm_40 : decode cX0_toBeCalm 40 = .ok (.iload 4, 2) := by decide +kernel
theorem dX0_toBeCalm_42 : decode cX0_toBeCalm 42 = .ok (.iload_n 1, 1) := by decide +kernel
theorem dX0_toBeCalm_43 : decode cX0_toBeCalm 43 = .ok (.invokestatic 35, 3) := by decide +kernel
theorem dX0_toBeCalm_46 : decode cX0_toBeCalm 46 = .ok (.ladd, 1) := by decide +kernel
theorem dX0_toBeCalm_47 : decode cX0_toBeCalm 47 = .ok (.lstore_n 2, 1) := by decide +kernel
theorem dX0_toBeCalm_48 : decode cX0_toBeCalm 48 = .ok (.iinc 4 1, 3) := by decide +kernel
theorem dX0_toBeCalm_51 : decode cX0_toBeCalm 51 = .ok (.goto (-46), 3) := by decide +kernel
theorem dX0_toBeCalm_54 : decode cX0_toBeCalm 54 = .ok (.lload_n 2, 1) := by decide +kernel
theorem dX0_toBeCalm_55 : decode cX0_toBeCalm 55 = .ok (.lreturn, 1) := by decide +kernel
theorem dX0_isPart_0 : decode cX0_isPart 0 = .ok (.iload_n 0, 1) := by decide +kernel
theorem dX0_isPart_1 : decode cX0_isPart 1 = .ok (.iload_n 1, 1) := by decide +kernel
theorem dX0_isPart_2 : decode cX0_isPart 2 = .ok (.iconst (-1), 1) := by decide +kernel
theorem dX0_isPart_3 : decode cX0_isPart 3 = .ok (.ixor, 1) := by decide +kernel
theorem dX0_isPart_4 : decode cX0_isPart 4 = .ok (.iand, 1) := by decide +kernel
theorem dX0_isPart_5 : decode cX0_isPart 5 = .ok (.ifCond .ne 7, 3) := by decide +kernel
theorem dX0_isPart_8 : decode cX0_isPart 8 = .ok (.iconst 1, 1) := by decide +kernel
theorem dX0_isPart_9 : decode cX0_isPart 9 = .ok (.goto 4, 3) := by decide +kernel
theorem dX0_isPart_12 : decode cX0_isPart 12 = .ok (.iconst 0, 1) := by decide +kernel
theorem dX0_isPart_13 : decode cX0_isPart 13 = .ok (.ireturn, 1) := by decide +kernel
theorem dX0_toStay_0 : decode cX0_toStay 0 = .ok (.iload_n 1, 1) := by decide +kernel
theorem dX0_toStay_1 : decode cX0_toStay 1 = .ok (.invokestatic 15, 3) := by decide +kernel
theorem dX0_toStay_4 : decode cX0_toStay 4 = .ok (.istore_n 3, 1) := by decide +kernel
theorem dX0_toStay_5 : decode cX0_toStay 5 = .ok (.bipush 10, 2) := by decide +kernel
theorem dX0_toStay_7 : decode cX0_toStay 7 = .ok (.iload_n 2, 1) := by decide +kernel
theorem dX0_toStay_8 : decode cX0_toStay 8 = .ok (.isub, 1) := by decide +kernel
theorem dX0_toStay_9 : decode cX0_toStay 9 = .ok (.iload_n 3, 1) := by decide +kernel
theorem dX0_toStay_10 : decode cX0_toStay 10 = .ok (.invokestatic 21, 3) := by decide +kernel
theorem dX0_toStay_13 : decode cX0_toStay 13 = .ok (.iload_n 2, 1) := by decide +kernel
theorem dX0_toStay_14 : decode cX0_toStay 14 = .ok (.iload_n 0, 1) := by decide +kernel
theorem dX0_toStay_15 : decode cX0_toStay 15 = .ok (.invokestatic 15, 3) := by decide +kernel
theorem dX0_toStay_18 : decode cX0_toStay 18 = .ok (.iload_n 3, 1) := by decide +kernel
theorem dX0_toStay_19 : decode cX0_toStay 19 = .ok (.isub, 1) := by decide +kernel
theorem dX0_toStay_20 : decode cX0_toStay 20 = .ok (.invokestatic 21, 3) := by decide +kernel
theorem dX0_toStay_23 : decode cX0_toStay 23 = .ok (.lmul, 1) := by decide +kernel
theorem dX0_toStay_24 : decode cX0_toStay 24 = .ok (.lreturn, 1) := by decide +kernel
theorem dX0_power_0 : decode cX0_power 0 = .ok (.lconst 1, 1) := by decide +kernel
theorem dX0_power_1 : decode cX0_power 1 = .ok (.lstore_n 2, 1) := by decide +kernel
theorem dX0_power_2 : decode cX0_power 2 = .ok (.iconst 0, 1) := by decide +kernel
theorem dX0_power_3 : decode cX0_power 3 = .ok (.istore 4, 2) := by decide +kernel
theorem dX0_power_5 : decode cX0_power 5 = .ok (.iload 4, 2) := by decide +kernel
theorem dX0_power_7 : decode cX0_power 7 = .ok (.iload_n 1, 1) := by decide +kernel
theorem dX0_power_8 : decode cX0_power 8 = .ok (.if_icmp .ge 14, 3) := by decide +kernel
theorem dX0_power_11 : decode cX0_power 11 = .ok (.lload_n 2, 1) := by decide +kernel
theorem dX0_power_12 : decode cX0_power 12 = .ok (.iload_n 0, 1) := by decide +kernel
theorem dX0_power_13 : decode cX0_power 13 = .ok (.i2l, 1) := by decide +kernel
theorem dX0_power_14 : decode cX0_power 14 = .ok (.lmul, 1) := by decide +kernel
theorem dX0_power_15 : decode cX0_power 15 = .ok (.lstore_n 2, 1) := by decide +kernel
theorem dX0_power_16 : decode cX0_power 16 = .ok (.iinc 4 1, 3) := by decide +kernel
theorem dX0_power_19 : decode cX0_power 19 = .ok (.goto (-14), 3) := by decide +kernel
theorem dX0_power_22 : decode cX0_power 22 = .ok (.lload_n 2, 1) := by decide +kernel
theorem dX0_power_23 : decode cX0_power 23 = .ok (.lreturn, 1) := by decide +kernel
theorem dX1_init_0 : decode cX1_init 0 = .ok (.aload_n 0, 1) := by decide +kernel
theorem dX1_init_1 : decode cX1_init 1 = .ok (.invokespecial 3, 3) := by decide +kernel
theorem dX1_init_4 : decode cX1_init 4 = .ok (.aload_n 0, 1) := by decide +kernel
theorem dX1_init_5 : decode cX1_init 5 = .ok (.new 9, 3) := by decide +kernel
theorem dX1_init_8 : decode cX1_init 8 = .ok (.dup, 1) := by decide +kernel
theorem dX1_init_9 : decode cX1_init 9 = .ok (.invokespecial 11, 3) := by decide +kernel
theorem dX1_init_12 : decode cX1_init 12 = .ok (.putfield 12, 3) := by decide +kernel
theorem dX1_init_15 : decode cX1_init 15 = .ok (.aload_n 0, 1) := by decide +kernel
theorem dX1_init_16 : decode cX1_init 16 = .ok (.bipush (-6), 2) := by decide +kernel
theorem dX1_init_18 : decode cX1_init 18 = .ok (.putfield 18, 3) := by decide +kernel
theorem dX1_init_21 : decode cX1_init 21 = .ok (.return_, 1) := by decide +kernel
theorem dX1_play_0 : decode cX1_play 0 = .ok (.aload_n 0, 1) := by decide +kernel
theorem dX1_play_1 : decode cX1_play 1 = .ok (.aload_n 2, 1) := by decide +kernel
theorem dX1_play_2 : decode cX1_play 2 = .ok (.invokevirtual 22, 3) := by decide +kernel
theorem dX1_play_5 : decode cX1_play 5 = .ok (.iconst 0, 1) := by decide +kernel
theorem dX1_play_6 : decode cX1_play 6 = .ok (.istore 4, 2) := by decide +kernel
theorem dX1_play_8 : decode cX1_play 8 = .ok (.iload 4, 2) := by decide +kernel
theorem dX1_play_10 : decode cX1_play 10 = .ok (.aload_n 1, 1) := by decide +kernel
theorem dX1_play_11 : decode cX1_play 11 = .ok (.getfield 26, 3) := by decide +kernel
theorem dX1_play_14 : decode cX1_play 14 = .ok (.if_icmp .ge 65, 3) := by decide +kernel
theorem dX1_play_17 : decode cX1_play 17 = .ok (.aload_n 1, 1) := by decide +kernel
theorem dX1_play_18 : decode cX1_play 18 = .ok (.iload 4, 2) := by decide +kernel
theorem dX1_play_20 : decode cX1_play 20 = .ok (.invokevirtual 31, 3) := by decide +kernel
theorem dX1_play_23 : decode cX1_play 23 = .ok (.istore 5, 2) := by decide +kernel
theorem dX1_play_25 : decode cX1_play 25 = .ok (.iload 5, 2) := by decide +kernel
theorem dX1_play_27 : decode cX1_play 27 = .ok (.bipush 46, 2) := by decide +kernel
theorem dX1_play_29 : decode cX1_play 29 = .ok (.if_icmp .eq 16, 3) := by decide +kernel
theorem dX1_play_32 : decode cX1_play 32 = .ok (.aload_n 0, 1) := by decide +kernel
theorem dX1_play_33 : decode cX1_play 33 = .ok (.aload_n 0, 1) := by decide +kernel
theorem dX1_play_34 : decode cX1_play 34 = .ok (.iload 5, 2) := by decide +kernel
theorem dX1_play_36 : decode cX1_play 36 = .ok (.invokevirtual 35, 3) := by decide +kernel
theorem dX1_play_39 : decode cX1_play 39 = .ok (.putfield 38, 3) := by decide +kernel
theorem dX1_play_42 : decode cX1_play 42 = .ok (.goto 13, 3) := by decide +kernel
theorem dX1_play_45 : decode cX1_play 45 = .ok (.iload_n 3, 1) := by decide +kernel
theorem dX1_play_46 : decode cX1_play 46 = .ok (.ifCond .eq 9, 3) := by decide +kernel
theorem dX1_play_49 : decode cX1_play 49 = .ok (.aload_n 0, 1) := by decide +kernel
theorem dX1_play_50 : decode cX1_play 50 = .ok (.iload 4, 2) := by decide +kernel
theorem dX1_play_52 : decode cX1_play 52 = .ok (.invokevirtual 41, 3) := by decide +kernel
theorem dX1_play_55 : decode cX1_play 55 = .ok (.aload_n 0, 1) := by decide +kernel
theorem dX1_play_56 : decode cX1_play 56 = .ok (.getfield 38, 3) := by decide +kernel
theorem dX1_play_59 : decode cX1_play 59 = .ok (.ifCond .eq 4, 3) := by decide +kernel
theorem dX1_play_62 : decode cX1_play 62 = .ok (.return_, 1) := by decide +kernel
theorem dX1_play_63 : decode cX1_play 63 = .ok (.aload_n 0, 1) := by decide +kernel
theorem dX1_play_64 : decode cX1_play 64 = .ok (.dup, 1) := by decide +kernel
theorem dX1_play_65 : decode cX1_play 65 = .ok (.getfield 45, 3) := by decide +kernel
theorem dX1_play_68 : decode cX1_play 68 = .ok (.iconst 1, 1) := by decide +kernel
theorem dX1_play_69 : decode cX1_play 69 = .ok (.iadd, 1) := by decide +kernel
theorem dX1_play_70 : decode cX1_play 70 = .ok (.putfield 45, 3) := by decide +kernel
theorem dX1_play_73 : decode cX1_play 73 = .ok (.iinc 4 1, 3) := by decide +kernel
theorem dX1_play_76 : decode cX1_play 76 = .ok (.goto (-68), 3) := by decide +kernel
theorem dX1_play_79 : decode cX1_play 79 = .ok (.return_, 1) := by decide +kernel
theorem dX1_draw_0 : decode cX1_draw 0 = .ok (.aload_n 0, 1) := by decide +kernel
theorem dX1_draw_1 : decode cX1_draw 1 = .ok (.aload_n 1, 1) := by decide +kernel
theorem dX1_draw_2 : decode cX1_draw 2 = .ok (.invokevirtual 22, 3) := by decide +kernel
theorem dX1_draw_5 : decode cX1_draw 5 = .ok (.iload_n 2, 1) := by decide +kernel
theorem dX1_draw_6 : decode cX1_draw 6 = .ok (.istore 4, 2) := by decide +kernel
theorem dX1_draw_8 : decode cX1_draw 8 = .ok (.iconst 0, 1) := by decide +kernel
theorem dX1_draw_9 : decode cX1_draw 9 = .ok (.istore 5, 2) := by decide +kernel
theorem dX1_draw_11 : decode cX1_draw 11 = .ok (.iload 5, 2) := by decide +kernel
theorem dX1_draw_13 : decode cX1_draw 13 = .ok (.iload_n 3, 1) := by decide +kernel
theorem dX1_draw_14 : decode cX1_draw 14 = .ok (.if_icmp .ge 58, 3) := by decide +kernel
theorem dX1_draw_17 : decode cX1_draw 17 = .ok (.bipush 75, 2) := by decide +kernel
theorem dX1_draw_19 : decode cX1_draw 19 = .ok (.iload 4, 2) := by decide +kernel
theorem dX1_draw_21 : decode cX1_draw 21 = .ok (.imul, 1) := by decide +kernel
theorem dX1_draw_22 : decode cX1_draw 22 = .ok (.bipush 74, 2) := by decide +kernel
theorem dX1_draw_24 : decode cX1_draw 24 = .ok (.iadd, 1) := by decide +kernel
theorem dX1_draw_25 : decode cX1_draw 25 = .ok (.ldc 48, 2) := by decide +kernel
theorem dX1_draw_27 : decode cX1_draw 27 = .ok (.irem, 1) := by decide +kernel
theorem dX1_draw_28 : decode cX1_draw 28 = .ok (.istore 4, 2) := by decide +kernel
theorem dX1_draw_30 : decode cX1_draw 30 = .ok (.aload_n 0, 1) := by decide +kernel
theorem dX1_draw_31 : decode cX1_draw 31 = .ok (.iload 4, 2) := by decide +kernel
theorem dX1_draw_33 : decode cX1_draw 33 = .ok (.invokevirtual 49, 3) := by decide +kernel
theorem dX1_draw_36 : decode cX1_draw 36 = .ok (.aload_n 0, 1) := by decide +kernel
theorem dX1_draw_37 : decode cX1_draw 37 = .ok (.iload 5, 2) := by decide +kernel
theorem dX1_draw_39 : decode cX1_draw 39 = .ok (.invokevirtual 41, 3) := by decide +kernel
theorem dX1_draw_42 : decode cX1_draw 42 = .ok (.aload_n 0, 1) := by decide +kernel
theorem dX1_draw_43 : decode cX1_draw 43 = .ok (.dup, 1) := by decide +kernel
theorem dX1_draw_44 : decode cX1_draw 44 = .ok (.getfield 52, 3) := by decide +kernel
theorem dX1_draw_47 : decode cX1_draw 47 = .ok (.aload_n 0, 1) := by decide +kernel
theorem dX1_draw_48 : decode cX1_draw 48 = .ok (.getfield 12, 3) := by decide +kernel
theorem dX1_draw_51 : decode cX1_draw 51 = .ok (.iconst 0, 1) := by decide +kernel
theorem dX1_draw_52 : decode cX1_draw 52 = .ok (.aload_n 0, 1) := by decide +kernel
theorem dX1_draw_53 : decode cX1_draw 53 = .ok (.getfield 12, 3) := by decide +kernel
theorem dX1_draw_56 : decode cX1_draw 56 = .ok (.getfield 55, 3) := by decide +kernel
theorem dX1_draw_59 : decode cX1_draw 59 = .ok (.invokevirtual 58, 3) := by decide +kernel
theorem dX1_draw_62 : decode cX1_draw 62 = .ok (.iadd, 1) := by decide +kernel
theorem dX1_draw_63 : decode cX1_draw 63 = .ok (.putfield 52, 3) := by decide +kernel
theorem dX1_draw_66 : decode cX1_draw 66 = .ok (.iinc 5 1, 3) := by decide +kernel
theorem dX1_draw_69 : decode cX1_draw 69 = .ok (.goto (-58), 3) := by decide +kernel
theorem dX1_draw_72 : decode cX1_draw 72 = .ok (.return_, 1) := by decide +kernel
theorem dX1_begin_0 : decode cX1_begin 0 = .ok (.aload_n 0, 1) := by decide +kernel
theorem dX1_begin_1 : decode cX1_begin 1 = .ok (.getfield 12, 3) := by decide +kernel
theorem dX1_begin_4 : decode cX1_begin 4 = .ok (.aload_n 1, 1) := by decide +kernel
theorem dX1_begin_5 : decode cX1_begin 5 = .ok (.invokevirtual 62, 3) := by decide +kernel
theorem dX1_begin_8 : decode cX1_begin 8 = .ok (.aload_n 0, 1) := by decide +kernel
theorem dX1_begin_9 : decode cX1_begin 9 = .ok (.iconst 0, 1) := by decide +kernel
theorem dX1_begin_10 : decode cX1_begin 10 = .ok (.putfield 45, 3) := by decide +kernel
theorem dX1_begin_13 : decode cX1_begin 13 = .ok (.aload_n 0, 1) := by decide +kernel
theorem dX1_begin_14 : decode cX1_begin 14 = .ok (.iconst 0, 1) := by decide +kernel
theorem dX1_begin_15 : decode cX1_begin 15 = .ok (.putfield 38, 3) := by decide +kernel
theorem dX1_begin_18 : decode cX1_begin 18 = .ok (.aload_n 0, 1) := by decide +kernel
theorem dX1_begin_19 : decode cX1_begin 19 = .ok (.bipush (-6), 2) := by decide +kernel
theorem dX1_begin_21 : decode cX1_begin 21 = .ok (.putfield 18, 3) := by decide +kernel
theorem dX1_begin_24 : decode cX1_begin 24 = .ok (.aload_n 0, 1) := by decide +kernel
theorem dX1_begin_25 : decode cX1_begin 25 = .ok (.iconst 0, 1) := by decide +kernel
theorem dX1_begin_26 : decode cX1_begin 26 = .ok (.putfield 65, 3) := by decide +kernel
theorem dX1_begin_29 : decode cX1_begin 29 = .ok (.aload_n 0, 1) := by decide +kernel
theorem dX1_begin_30 : decode cX1_begin 30 = .ok (.iconst 0, 1) := by decide +kernel
theorem dX1_begin_31 : decode cX1_begin 31 = .ok (.putfield 52, 3) := by decide +kernel
theorem dX1_begin_34 : decode cX1_begin 34 = .ok (.return_, 1) := by decide +kernel
theorem dX1_perform_0 : decode cX1_perform 0 = .ok (.iload_n 1, 1) := by decide +kernel
theorem dX1_perform_1 : decode cX1_perform 1 = .ok (.bipush 43, 2) := by decide +kernel
theorem dX1_perform_3 : decode cX1_perform 3 = .ok (.if_icmp .ne 11, 3) := by decide +kernel
theorem dX1_perform_6 : decode cX1_perform 6 = .ok (.aload_n 0, 1) := by decide +kernel
theorem dX1_perform_7 : decode cX1_perform 7 = .ok (.getfield 12, 3) := by decide +kernel
theorem dX1_perform_10 : decode cX1_perform 10 = .ok (.invokevirtual 68, 3) := by decide +kernel
theorem dX1_perform_13 : decode cX1_perform 13 = .ok (.ireturn, 1) := by decide +kernel
theorem dX1_perform_14 : decode cX1_perform 14 = .ok (.iload_n 1, 1) := by decide +kernel
theorem dX1_perform_15 : decode cX1_perform 15 = .ok (.bipush 45, 2) := by decide +kernel
theorem dX1_perform_17 : decode cX1_perform 17 = .ok (.if_icmp .ne 11, 3) := by decide +kernel
theorem dX1_perform_20 : decode cX1_perform 20 = .ok (.aload_n 0, 1) := by decide +kernel
theorem dX1_perform_21 : decode cX1_perform 21 = .ok (.getfield 12, 3) := by decide +kernel
theorem dX1_perform_24 : decode cX1_perform 24 = .ok (.invokevirtual 72, 3) := by decide +kernel
theorem dX1_perform_27 : decode cX1_perform 27 = .ok (.ireturn, 1) := by decide +kernel
theorem dX1_perform_28 : decode cX1_perform 28 = .ok (.aload_n 0, 1) := by decide +kernel
theorem dX1_perform_29 : decode cX1_perform 29 = .ok (.getfield 12, 3) := by decide +kernel
theorem dX1_perform_32 : decode cX1_perform 32 = .ok (.iload_n 1, 1) := by decide +kernel
theorem dX1_perform_33 : decode cX1_perform 33 = .ok (.bipush 97, 2) := by decide +kernel
theorem dX1_perform_35 : decode cX1_perform 35 = .ok (.isub, 1) := by decide +kernel
theorem dX1_perform_36 : decode cX1_perform 36 = .ok (.invokevirtual 75, 3) := by decide +kernel
theorem dX1_perform_39 : decode cX1_perform 39 = .ok (.ireturn, 1) := by decide +kernel
theorem dX1_performDrawn_0 : decode cX1_performDrawn 0 = .ok (.iload_n 1, 1) := by decide +kernel
theorem dX1_performDrawn_1 : decode cX1_performDrawn 1 = .ok (.iconst 5, 1) := by decide +kernel
theorem dX1_performDrawn_2 : decode cX1_performDrawn 2 = .ok (.irem, 1) := by decide +kernel
theorem dX1_performDrawn_3 : decode cX1_performDrawn 3 = .ok (.istore_n 2, 1) := by decide +kernel
theorem dX1_performDrawn_4 : decode cX1_performDrawn 4 = .ok (.iload_n 2, 1) := by decide +kernel
theorem dX1_performDrawn_5 : decode cX1_performDrawn 5 = .ok (.ifCond .ne 14, 3) := by decide +kernel
theorem dX1_performDrawn_8 : decode cX1_performDrawn 8 = .ok (.aload_n 0, 1) := by decide +kernel
theorem dX1_performDrawn_9 : decode cX1_performDrawn 9 = .ok (.getfield 12, 3) := by decide +kernel
theorem dX1_performDrawn_12 : decode cX1_performDrawn 12 = .ok (.invokevirtual 68, 3) := by decide +kernel
theorem dX1_performDrawn_15 : decode cX1_performDrawn 15 = .ok (.pop, 1) := by decide +kernel
theorem dX1_performDrawn_16 : decode cX1_performDrawn 16 = .ok (.goto 48, 3) := by decide +kernel
theorem dX1_performDrawn_19 : decode cX1_performDrawn 19 = .ok (.iload_n 2, 1) := by decide +kernel
theorem dX1_performDrawn_20 : decode cX1_performDrawn 20 = .ok (.iconst 1, 1) := by decide +kernel
theorem dX1_performDrawn_21 : decode cX1_performDrawn 21 = .ok (.if_icmp .ne 14, 3) := by decide +kernel
theorem dX1_performDrawn_24 : decode cX1_performDrawn 24 = .ok (.aload_n 0, 1) := by decide +kernel
theorem dX1_performDrawn_25 : decode cX1_performDrawn 25 = .ok (.getfield 12, 3) := by decide +kernel
theorem dX1_performDrawn_28 : decode cX1_performDrawn 28 = .ok (.invokevirtual 72, 3) := by decide +kernel
theorem dX1_performDrawn_31 : decode cX1_performDrawn 31 = .ok (.pop, 1) := by decide +kernel
theorem dX1_performDrawn_32 : decode cX1_performDrawn 32 = .ok (.goto 32, 3) := by decide +kernel
theorem dX1_performDrawn_35 : decode cX1_performDrawn 35 = .ok (.aload_n 0, 1) := by decide +kernel
theorem dX1_performDrawn_36 : decode cX1_performDrawn 36 = .ok (.getfield 12, 3) := by decide +kernel
theorem dX1_performDrawn_39 : decode cX1_performDrawn 39 = .ok (.getfield 78, 3) := by decide +kernel
theorem dX1_performDrawn_42 : decode cX1_performDrawn 42 = .ok (.ifCond .le 22, 3) := by decide +kernel
theorem dX1_performDrawn_45 : decode cX1_performDrawn 45 = .ok (.aload_n 0, 1) := by decide +kernel
theorem dX1_performDrawn_46 : decode cX1_performDrawn 46 = .ok (.getfield 12, 3) := by decide +kernel
theorem dX1_performDrawn_49 : decode cX1_performDrawn 49 = .ok (.iload_n 1, 1) := by decide +kernel
theorem dX1_performDrawn_50 : decode cX1_performDrawn 50 = .ok (.iconst 5, 1) := by decide +kernel
theorem dX1_performDrawn_51 : decode cX1_performDrawn 51 = .ok (.idiv, 1) := by decide +kernel
theorem dX1_performDrawn_52 : decode cX1_performDrawn 52 = .ok (.aload_n 0, 1) := by decide +kernel
theorem dX1_performDrawn_53 : decode cX1_performDrawn 53 = .ok (.getfield 12, 3) := by decide +kernel
theorem dX1_performDrawn_56 : decode cX1_performDrawn 56 = .ok (.getfield 78, 3) := by decide +kernel
theorem dX1_performDrawn_59 : decode cX1_performDrawn 59 = .ok (.irem, 1) := by decide +kernel
theorem dX1_performDrawn_60 : decode cX1_performDrawn 60 = .ok (.invokevirtual 75, 3) := by decide +kernel
theorem dX1_performDrawn_63 : decode cX1_performDrawn 63 = .ok (.pop, 1) := by decide +kernel
theorem dX1_performDrawn_64 : decode cX1_performDrawn 64 = .ok (.return_, 1) := by decide +kernel
theorem dX1_listenAt_0 : decode cX1_listenAt 0 = .ok (.aload_n 0, 1) := by decide +kernel
theorem dX1_listenAt_1 : decode cX1_listenAt 1 = .ok (.getfield 12, 3) := by decide +kernel
theorem dX1_listenAt_4 : decode cX1_listenAt 4 = .ok (.aload_n 0, 1) := by decide +kernel
theorem dX1_listenAt_5 : decode cX1_listenAt 5 = .ok (.getfield 12, 3) := by decide +kernel
theorem dX1_listenAt_8 : decode cX1_listenAt 8 = .ok (.getfield 55, 3) := by decide +kernel
theorem dX1_listenAt_11 : decode cX1_listenAt 11 = .ok (.invokevirtual 79, 3) := by decide +kernel
theorem dX1_listenAt_14 : decode cX1_listenAt 14 = .ok (.ifCond .ne 4, 3) := by decide +kernel
theorem dX1_listenAt_17 : decode cX1_listenAt 17 = .ok (.return_, 1) := by decide +kernel
theorem dX1_listenAt_18 : decode cX1_listenAt 18 = .ok (.aload_n 0, 1) := by decide +kernel
theorem dX1_listenAt_19 : decode cX1_listenAt 19 = .ok (.getfield 65, 3) := by decide +kernel
theorem dX1_listenAt_22 : decode cX1_listenAt 22 = .ok (.ifCond .ne 8, 3) := by decide +kernel
theorem dX1_listenAt_25 : decode cX1_listenAt 25 = .ok (.aload_n 0, 1) := by decide +kernel
theorem dX1_listenAt_26 : decode cX1_listenAt 26 = .ok (.iload_n 1, 1) := by decide +kernel
theorem dX1_listenAt_27 : decode cX1_listenAt 27 = .ok (.putfield 18, 3) := by decide +kernel
theorem dX1_listenAt_30 : decode cX1_listenAt 30 = .ok (.aload_n 0, 1) := by decide +kernel
theorem dX1_listenAt_31 : decode cX1_listenAt 31 = .ok (.dup, 1) := by decide +kernel
theorem dX1_listenAt_32 : decode cX1_listenAt 32 = .ok (.getfield 65, 3) := by decide +kernel
theorem dX1_listenAt_35 : decode cX1_listenAt 35 = .ok (.iconst 1, 1) := by decide +kernel
theorem dX1_listenAt_36 : decode cX1_listenAt 36 = .ok (.iadd, 1) := by decide +kernel
theorem dX1_listenAt_37 : decode cX1_listenAt 37 = .ok (.putfield 65, 3) := by decide +kernel
theorem dX1_listenAt_40 : decode cX1_listenAt 40 = .ok (.return_, 1) := by decide +kernel
theorem dX2_init_0 : decode cX2_init 0 = .ok (.aload_n 0, 1) := by decide +kernel
theorem dX2_init_1 : decode cX2_init 1 = .ok (.invokespecial 3, 3) := by decide +kernel
theorem dX2_init_4 : decode cX2_init 4 = .ok (.aload_n 0, 1) := by decide +kernel
theorem dX2_init_5 : decode cX2_init 5 = .ok (.sipush 1024, 3) := by decide +kernel
theorem dX2_init_8 : decode cX2_init 8 = .ok (.newarray .int, 2) := by decide +kernel
theorem dX2_init_10 : decode cX2_init 10 = .ok (.putfield 9, 3) := by decide +kernel
theorem dX2_init_13 : decode cX2_init 13 = .ok (.return_, 1) := by decide +kernel
theorem dX2_winningWindow_0 : decode cX2_winningWindow 0 = .ok (.aload_n 1, 1) := by decide +kernel
theorem dX2_winningWindow_1 : decode cX2_winningWindow 1 = .ok (.getfield 15, 3) := by decide +kernel
theorem dX2_winningWindow_4 : decode cX2_winningWindow 4 = .ok (.istore_n 2, 1) := by decide +kernel
theorem dX2_winningWindow_5 : decode cX2_winningWindow 5 = .ok (.iconst 1, 1) := by decide +kernel
theorem dX2_winningWindow_6 : decode cX2_winningWindow 6 = .ok (.aload_n 1, 1) := by decide +kernel
theorem dX2_winningWindow_7 : decode cX2_winningWindow 7 = .ok (.getfield 21, 3) := by decide +kernel
theorem dX2_winningWindow_10 : decode cX2_winningWindow 10 = .ok (.ishl, 1) := by decide +kernel
theorem dX2_winningWindow_11 : decode cX2_winningWindow 11 = .ok (.sipush 1024, 3) := by decide +kernel
theorem dX2_winningWindow_14 : decode cX2_winningWindow 14 = .ok (.invokestatic 24, 3) := by decide +kernel
theorem dX2_winningWindow_17 : decode cX2_winningWindow 17 = .ok (.istore_n 3, 1) := by decide +kernel
theorem dX2_winningWindow_18 : decode cX2_winningWindow 18 = .ok (.iload_n 3, 1) := by decide +kernel
theorem dX2_winningWindow_19 : decode cX2_winningWindow 19 = .ok (.iconst 1, 1) := by decide +kernel
theorem dX2_winningWindow_20 : decode cX2_winningWindow 20 = .ok (.isub, 1) := by decide +kernel
theorem dX2_winningWindow_21 : decode cX2_winningWindow 21 = .ok (.istore 4, 2) := by decide +kernel
theorem dX2_winningWindow_23 : decode cX2_winningWindow 23 = .ok (.iload 4, 2) := by decide +kernel
theorem dX2_winningWindow_25 : decode cX2_winningWindow 25 = .ok (.iload_n 2, 1) := by decide +kernel
theorem dX2_winningWindow_26 : decode cX2_winningWindow 26 = .ok (.if_icmp .le 31, 3) := by decide +kernel
theorem dX2_winningWindow_29 : decode cX2_winningWindow 29 = .ok (.iload 4, 2) := by decide +kernel
theorem dX2_winningWindow_31 : decode cX2_winningWindow 31 = .ok (.iload_n 2, 1) := by decide +kernel
theorem dX2_winningWindow_32 : decode cX2_winningWindow 32 = .ok (.iand, 1) := by decide +kernel
theorem dX2_winningWindow_33 : decode cX2_winningWindow 33 = .ok (.iload_n 2, 1) := by decide +kernel
theorem dX2_winningWindow_34 : decode cX2_winningWindow 34 = .ok (.if_icmp .ne 17, 3) := by decide +kernel
theorem dX2_winningWindow_37 : decode cX2_winningWindow 37 = .ok (.aload_n 0, 1) := by decide +kernel
theorem dX2_winningWindow_38 : decode cX2_winningWindow 38 = .ok (.getfield 9, 3) := by decide +kernel
theorem dX2_winningWindow_41 : decode cX2_winningWindow 41 = .ok (.iload 4, 2) := by decide +kernel
theorem dX2_winningWindow_43 : decode cX2_winningWindow 43 = .ok (.aload_n 0, 1) := by decide +kernel
theorem dX2_winningWindow_44 : decode cX2_winningWindow 44 = .ok (.aload_n 1, 1) := by decide +kernel
theorem dX2_winningWindow_45 : decode cX2_winningWindow 45 = .ok (.iload 4, 2) := by decide +kernel
theorem dX2_winningWindow_47 : decode cX2_winningWindow 47 = .ok (.invokevirtual 30, 3) := by decide +kernel
theorem dX2_winningWindow_50 : decode cX2_winningWindow 50 = .ok (.iastore, 1) := by decide +kernel
theorem dX2_winningWindow_51 : decode cX2_winningWindow 51 = .ok (.iinc 4 (-1), 3) := by decide +kernel
theorem dX2_winningWindow_54 : decode cX2_winningWindow 54 = .ok (.goto (-31), 3) := by decide +kernel
theorem dX2_winningWindow_57 : decode cX2_winningWindow 57 = .ok (.aload_n 0, 1) := by decide +kernel
theorem dX2_winningWindow_58 : decode cX2_winningWindow 58 = .ok (.aload_n 1, 1) := by decide +kernel
theorem dX2_winningWindow_59 : decode cX2_winningWindow 59 = .ok (.iload_n 2, 1) := by decide +kernel
theorem dX2_winningWindow_60 : decode cX2_winningWindow 60 = .ok (.invokevirtual 34, 3) := by decide +kernel
theorem dX2_winningWindow_63 : decode cX2_winningWindow 63 = .ok (.ireturn, 1) := by decide +kernel
theorem dX2_fateOf_0 : decode cX2_fateOf 0 = .ok (.aload_n 1, 1) := by decide +kernel
theorem dX2_fateOf_1 : decode cX2_fateOf 1 = .ok (.iload_n 2, 1) := by decide +kernel
theorem dX2_fateOf_2 : decode cX2_fateOf 2 = .ok (.invokevirtual 37, 3) := by decide +kernel
theorem dX2_fateOf_5 : decode cX2_fateOf 5 = .ok (.ifCond .eq 11, 3) := by decide +kernel
theorem dX2_fateOf_8 : decode cX2_fateOf 8 = .ok (.aload_n 1, 1) := by decide +kernel
theorem dX2_fateOf_9 : decode cX2_fateOf 9 = .ok (.iload_n 2, 1) := by decide +kernel
theorem dX2_fateOf_10 : decode cX2_fateOf 10 = .ok (.invokevirtual 41, 3) := by decide +kernel
theorem dX2_fateOf_13 : decode cX2_fateOf 13 = .ok (.ifCond .eq 5, 3) := by decide +kernel
theorem dX2_fateOf_16 : decode cX2_fateOf 16 = .ok (.iconst 2, 1) := by decide +kernel
theorem dX2_fateOf_17 : decode cX2_fateOf 17 = .ok (.ireturn, 1) := by decide +kernel
theorem dX2_fateOf_18 : decode cX2_fateOf 18 = .ok (.aload_n 0, 1) := by decide +kernel
theorem dX2_fateOf_19 : decode cX2_fateOf 19 = .ok (.aload_n 1, 1) := by decide +kernel
theorem dX2_fateOf_20 : decode cX2_fateOf 20 = .ok (.iload_n 2, 1) := by decide +kernel
theorem dX2_fateOf_21 : decode cX2_fateOf 21 = .ok (.invokevirtual 34, 3) := by decide +kernel
theorem dX2_fateOf_24 : decode cX2_fateOf 24 = .ok (.bipush (-6), 2) := by decide +kernel
theorem dX2_fateOf_26 : decode cX2_fateOf 26 = .ok (.if_icmp .ne 7, 3) := by decide +kernel
theorem dX2_fateOf_29 : decode cX2_fateOf 29 = .ok (.iconst 0, 1) := by decide +kernel
theorem dX2_fateOf_30 : decode cX2_fateOf 30 = .ok (.goto 4, 3) := by decide +kernel
theorem dX2_fateOf_33 : decode cX2_fateOf 33 = .ok (.iconst 1, 1) := by decide +kernel
theorem dX2_fateOf_34 : decode cX2_fateOf 34 = .ok (.ireturn, 1) := by decide +kernel
theorem dX2_bestMove_0 : decode cX2_bestMove 0 = .ok (.iconst 0, 1) := by decide +kernel
theorem dX2_bestMove_1 : decode cX2_bestMove 1 = .ok (.istore_n 3, 1) := by decide +kernel
theorem dX2_bestMove_2 : decode cX2_bestMove 2 = .ok (.iload_n 3, 1) := by decide +kernel
theorem dX2_bestMove_3 : decode cX2_bestMove 3 = .ok (.aload_n 1, 1) := by decide +kernel
theorem dX2_bestMove_4 : decode cX2_bestMove 4 = .ok (.getfield 21, 3) := by decide +kernel
theorem dX2_bestMove_7 : decode cX2_bestMove 7 = .ok (.if_icmp .ge 47, 3) := by decide +kernel
theorem dX2_bestMove_10 : decode cX2_bestMove 10 = .ok (.iload_n 2, 1) := by decide +kernel
theorem dX2_bestMove_11 : decode cX2_bestMove 11 = .ok (.iconst 1, 1) := by decide +kernel
theorem dX2_bestMove_12 : decode cX2_bestMove 12 = .ok (.iload_n 3, 1) := by decide +kernel
theorem dX2_bestMove_13 : decode cX2_bestMove 13 = .ok (.ishl, 1) := by decide +kernel
theorem dX2_bestMove_14 : decode cX2_bestMove 14 = .ok (.ior, 1) := by decide +kernel
theorem dX2_bestMove_15 : decode cX2_bestMove 15 = .ok (.istore 4, 2) := by decide +kernel
theorem dX2_bestMove_17 : decode cX2_bestMove 17 = .ok (.iload 4, 2) := by decide +kernel
theorem dX2_bestMove_19 : decode cX2_bestMove 19 = .ok (.iload_n 2, 1) := by decide +kernel
theorem dX2_bestMove_20 : decode cX2_bestMove 20 = .ok (.if_icmp .eq 28, 3) := by decide +kernel
theorem dX2_bestMove_23 : decode cX2_bestMove 23 = .ok (.iload 4, 2) := by decide +kernel
theorem dX2_bestMove_25 : decode cX2_bestMove 25 = .ok (.ifCond .lt 23, 3) := by decide +kernel
theorem dX2_bestMove_28 : decode cX2_bestMove 28 = .ok (.iload 4, 2) := by decide +kernel
theorem dX2_bestMove_30 : decode cX2_bestMove 30 = .ok (.sipush 1024, 3) := by decide +kernel
theorem dX2_bestMove_33 : decode cX2_bestMove 33 = .ok (.if_icmp .ge 15, 3) := by decide +kernel
theorem dX2_bestMove_36 : decode cX2_bestMove 36 = .ok (.aload_n 0, 1) := by decide +kernel
theorem dX2_bestMove_37 : decode cX2_bestMove 37 = .ok (.getfield 9, 3) := by decide +kernel
theorem dX2_bestMove_40 : decode cX2_bestMove 40 = .ok (.iload 4, 2) := by decide +kernel
theorem dX2_bestMove_42 : decode cX2_bestMove 42 = .ok (.iaload, 1) := by decide +kernel
theorem dX2_bestMove_43 : decode cX2_bestMove 43 = .ok (.ifCond .ne 5, 3) := by decide +kernel
theorem dX2_bestMove_46 : decode cX2_bestMove 46 = .ok (.iload_n 3, 1) := by decide +kernel
theorem dX2_bestMove_47 : decode cX2_bestMove 47 = .ok (.ireturn, 1) := by decide +kernel
theorem dX2_bestMove_48 : decode cX2_bestMove 48 = .ok (.iinc 3 1, 3) := by decide +kernel
theorem dX2_bestMove_51 : decode cX2_bestMove 51 = .ok (.goto (-49), 3) := by decide +kernel
theorem dX2_bestMove_54 : decode cX2_bestMove 54 = .ok (.bipush (-6), 2) := by decide +kernel
theorem dX2_bestMove_56 : decode cX2_bestMove 56 = .ok (.ireturn, 1) := by decide +kernel
theorem dX3_init_0 : decode cX3_init 0 = .ok (.aload_n 0, 1) := by decide +kernel
theorem dX3_init_1 : decode cX3_init 1 = .ok (.invokespecial 3, 3) := by decide +kernel
theorem dX3_init_4 : decode cX3_init 4 = .ok (.aload_n 0, 1) := by decide +kernel
theorem dX3_init_5 : decode cX3_init 5 = .ok (.sipush 1024, 3) := by decide +kernel
theorem dX3_init_8 : decode cX3_init 8 = .ok (.newarray .int, 2) := by decide +kernel
theorem dX3_init_10 : decode cX3_init 10 = .ok (.putfield 9, 3) := by decide +kernel
theorem dX3_init_13 : decode cX3_init 13 = .ok (.aload_n 0, 1) := by decide +kernel
theorem dX3_init_14 : decode cX3_init 14 = .ok (.sipush 201, 3) := by decide +kernel
theorem dX3_init_17 : decode cX3_init 17 = .ok (.newarray .int, 2) := by decide +kernel
theorem dX3_init_19 : decode cX3_init 19 = .ok (.putfield 15, 3) := by decide +kernel
theorem dX3_init_22 : decode cX3_init 22 = .ok (.aload_n 0, 1) := by decide +kernel
theorem dX3_init_23 : decode cX3_init 23 = .ok (.bipush (-6), 2) := by decide +kernel
theorem dX3_init_25 : decode cX3_init 25 = .ok (.putfield 18, 3) := by decide +kernel
theorem dX3_init_28 : decode cX3_init 28 = .ok (.aload_n 0, 1) := by decide +kernel
theorem dX3_init_29 : decode cX3_init 29 = .ok (.bipush (-6), 2) := by decide +kernel
theorem dX3_init_31 : decode cX3_init 31 = .ok (.putfield 22, 3) := by decide +kernel
theorem dX3_init_34 : decode cX3_init 34 = .ok (.return_, 1) := by decide +kernel
theorem dX3_gather_0 : decode cX3_gather 0 = .ok (.aload_n 0, 1) := by decide +kernel
theorem dX3_gather_1 : decode cX3_gather 1 = .ok (.iconst 0, 1) := by decide +kernel
theorem dX3_gather_2 : decode cX3_gather 2 = .ok (.putfield 25, 3) := by decide +kernel
theorem dX3_gather_5 : decode cX3_gather 5 = .ok (.iconst 1, 1) := by decide +kernel
theorem dX3_gather_6 : decode cX3_gather 6 = .ok (.aload_n 1, 1) := by decide +kernel
theorem dX3_gather_7 : decode cX3_gather 7 = .ok (.getfield 28, 3) := by decide +kernel
theorem dX3_gather_10 : decode cX3_gather 10 = .ok (.ishl, 1) := by decide +kernel
theorem dX3_gather_11 : decode cX3_gather 11 = .ok (.sipush 1024, 3) := by decide +kernel
theorem dX3_gather_14 : decode cX3_gather 14 = .ok (.invokestatic 33, 3) := by decide +kernel
theorem dX3_gather_17 : decode cX3_gather 17 = .ok (.istore_n 2, 1) := by decide +kernel
theorem dX3_gather_18 : decode cX3_gather 18 = .ok (.iconst 0, 1) := by decide +kernel
theorem dX3_gather_19 : decode cX3_gather 19 = .ok (.istore_n 3, 1) := by decide +kernel
theorem dX3_gather_20 : decode cX3_gather 20 = .ok (.iload_n 3, 1) := by decide +kernel
theorem dX3_gather_21 : decode cX3_gather 21 = .ok (.iload_n 2, 1) := by decide +kernel
theorem dX3_gather_22 : decode cX3_gather 22 = .ok (.if_icmp .ge 55, 3) := by decide +kernel
theorem dX3_gather_25 : decode cX3_gather 25 = .ok (.aload_n 0, 1) := by decide +kernel
theorem dX3_gather_26 : decode cX3_gather 26 = .ok (.getfield 25, 3) := by decide +kernel
theorem dX3_gather_29 : decode cX3_gather 29 = .ok (.sipush 1024, 3) := by decide +kernel
theorem dX3_gather_32 : decode cX3_gather 32 = .ok (.if_icmp .ge 45, 3) := by decide +kernel
theorem dX3_gather_35 : decode cX3_gather 35 = .ok (.aload_n 1, 1) := by decide +kernel
theorem dX3_gather_36 : decode cX3_gather 36 = .ok (.iload_n 3, 1) := by decide +kernel
theorem dX3_gather_37 : decode cX3_gather 37 = .ok (.invokevirtual 39, 3) := by decide +kernel
theorem dX3_gather_40 : decode cX3_gather 40 = .ok (.ifCond .eq 31, 3) := by decide +kernel
theorem dX3_gather_43 : decode cX3_gather 43 = .ok (.aload_n 1, 1) := by decide +kernel
theorem dX3_gather_44 : decode cX3_gather 44 = .ok (.iload_n 3, 1) := by decide +kernel
theorem dX3_gather_45 : decode cX3_gather 45 = .ok (.invokevirtual 43, 3) := by decide +kernel
theorem dX3_gather_48 : decode cX3_gather 48 = .ok (.ifCond .eq 23, 3) := by decide +kernel
theorem dX3_gather_51 : decode cX3_gather 51 = .ok (.aload_n 0, 1) := by decide +kernel
theorem dX3_gather_52 : decode cX3_gather 52 = .ok (.getfield 9, 3) := by decide +kernel
theorem dX3_gather_55 : decode cX3_gather 55 = .ok (.aload_n 0, 1) := by decide +kernel
theorem dX3_gather_56 : decode cX3_gather 56 = .ok (.getfield 25, 3) := by decide +kernel
theorem dX3_gather_59 : decode cX3_gather 59 = .ok (.iload_n 3, 1) := by decide +kernel
theorem dX3_gather_60 : decode cX3_gather 60 = .ok (.iastore, 1) := by decide +kernel
theorem dX3_gather_61 : decode cX3_gather 61 = .ok (.aload_n 0, 1) := by decide +kernel
theorem dX3_gather_62 : decode cX3_gather 62 = .ok (.dup, 1) := by decide +kernel
theorem dX3_gather_63 : decode cX3_gather 63 = .ok (.getfield 25, 3) := by decide +kernel
theorem dX3_gather_66 : decode cX3_gather 66 = .ok (.iconst 1, 1) := by decide +kernel
theorem dX3_gather_67 : decode cX3_gather 67 = .ok (.iadd, 1) := by decide +kernel
theorem dX3_gather_68 : decode cX3_gather 68 = .ok (.putfield 25, 3) := by decide +kernel
theorem dX3_gather_71 : decode cX3_gather 71 = .ok (.iinc 3 1, 3) := by decide +kernel
theorem dX3_gather_74 : decode cX3_gather 74 = .ok (.goto (-54), 3) := by decide +kernel
theorem dX3_gather_77 : decode cX3_gather 77 = .ok (.return_, 1) := by decide +kernel
theorem dX3_inSome_0 : decode cX3_inSome 0 = .ok (.iconst 0, 1) := by decide +kernel
theorem dX3_inSome_1 : decode cX3_inSome 1 = .ok (.istore_n 1, 1) := by decide +kernel
theorem dX3_inSome_2 : decode cX3_inSome 2 = .ok (.iconst 0, 1) := by decide +kernel
theorem dX3_inSome_3 : decode cX3_inSome 3 = .ok (.istore_n 2, 1) := by decide +kernel
theorem dX3_inSome_4 : decode cX3_inSome 4 = .ok (.iload_n 2, 1) := by decide +kernel
theorem dX3_inSome_5 : decode cX3_inSome 5 = .ok (.aload_n 0, 1) := by decide +kernel
theorem dX3_inSome_6 : decode cX3_inSome 6 = .ok (.getfield 25, 3) := by decide +kernel
theorem dX3_inSome_9 : decode cX3_inSome 9 = .ok (.if_icmp .ge 18, 3) := by decide +kernel
theorem dX3_inSome_12 : decode cX3_inSome 12 = .ok (.iload_n 1, 1) := by decide +kernel
theorem dX3_inSome_13 : decode cX3_inSome 13 = .ok (.aload_n 0, 1) := by decide +kernel
theorem dX3_inSome_14 : decode cX3_inSome 14 = .ok (.getfield 9, 3) := by decide +kernel
theorem dX3_inSome_17 : decode cX3_inSome 17 = .ok (.iload_n 2, 1) := by decide +kernel
theorem dX3_inSome_18 : decode cX3_inSome 18 = .ok (.iaload, 1) := by decide +kernel
theorem dX3_inSome_19 : decode cX3_inSome 19 = .ok (.ior, 1) := by decide +kernel
theorem dX3_inSome_20 : decode cX3_inSome 20 = .ok (.istore_n 1, 1) := by decide +kernel
theorem dX3_inSome_21 : decode cX3_inSome 21 = .ok (.iinc 2 1, 3) := by decide +kernel
theorem dX3_inSome_24 : decode cX3_inSome 24 = .ok (.goto (-20), 3) := by decide +kernel
theorem dX3_inSome_27 : decode cX3_inSome 27 = .ok (.iload_n 1, 1) := by decide +kernel
theorem dX3_inSome_28 : decode cX3_inSome 28 = .ok (.ireturn, 1) := by decide +kernel
theorem dX3_inAll_0 : decode cX3_inAll 0 = .ok (.aload_n 0, 1) := by decide +kernel
theorem dX3_inAll_1 : decode cX3_inAll 1 = .ok (.getfield 25, 3) := by decide +kernel
theorem dX3_inAll_4 : decode cX3_inAll 4 = .ok (.ifCond .ne 5, 3) := by decide +kernel
theorem dX3_inAll_7 : decode cX3_inAll 7 = .ok (.iconst 0, 1) := by decide +kernel
theorem dX3_inAll_8 : decode cX3_inAll 8 = .ok (.ireturn, 1) := by decide +kernel
theorem dX3_inAll_9 : decode cX3_inAll 9 = .ok (.sipush 1023, 3) := by decide +kernel
theorem dX3_inAll_12 : decode cX3_inAll 12 = .ok (.istore_n 1, 1) := by decide +kernel
theorem dX3_inAll_13 : decode cX3_inAll 13 = .ok (.iconst 0, 1) := by decide +kernel
theorem dX3_inAll_14 : decode cX3_inAll 14 = .ok (.istore_n 2, 1) := by decide +kernel
theorem dX3_inAll_15 : decode cX3_inAll 15 = .ok (.iload_n 2, 1) := by decide +kernel
theorem dX3_inAll_16 : decode cX3_inAll 16 = .ok (.aload_n 0, 1) := by decide +kernel
theorem dX3_inAll_17 : decode cX3_inAll 17 = .ok (.getfield 25, 3) := by decide +kernel
theorem dX3_inAll_20 : decode cX3_inAll 20 = .ok (.if_icmp .ge 18, 3) := by decide +kernel
theorem dX3_inAll_23 : decode cX3_inAll 23 = .ok (.iload_n 1, 1) := by decide +kernel
theorem dX3_inAll_24 : decode cX3_inAll 24 = .ok (.aload_n 0, 1) := by decide +kernel
theorem dX3_inAll_25 : decode cX3_inAll 25 = .ok (.getfield 9, 3) := by decide +kernel
theorem dX3_inAll_28 : decode cX3_inAll 28 = .ok (.iload_n 2, 1) := by decide +kernel
theorem dX3_inAll_29 : decode cX3_inAll 29 = .ok (.iaload, 1) := by decide +kernel
theorem dX3_inAll_30 : decode cX3_inAll 30 = .ok (.iand, 1) := by decide +kernel
theorem dX3_inAll_31 : decode cX3_inAll 31 = .ok (.istore_n 1, 1) := by decide +kernel
theorem dX3_inAll_32 : decode cX3_inAll 32 = .ok (.iinc 2 1, 3) := by decide +kernel
theorem dX3_inAll_35 : decode cX3_inAll 35 = .ok (.goto (-20), 3) := by decide +kernel
theorem dX3_inAll_38 : decode cX3_inAll 38 = .ok (.iload_n 1, 1) := by decide +kernel
theorem dX3_inAll_39 : decode cX3_inAll 39 = .ok (.ireturn, 1) := by decide +kernel
theorem dX3_least_0 : decode cX3_least 0 = .ok (.aload_n 0, 1) := by decide +kernel
theorem dX3_least_1 : decode cX3_least 1 = .ok (.getfield 25, 3) := by decide +kernel
theorem dX3_least_4 : decode cX3_least 4 = .ok (.ifCond .ne 8, 3) := by decide +kernel
theorem dX3_least_7 : decode cX3_least 7 = .ok (.bipush (-6), 2) := by decide +kernel
theorem dX3_least_9 : decode cX3_least 9 = .ok (.goto 9, 3) := by decide +kernel
theorem dX3_least_12 : decode cX3_least 12 = .ok (.aload_n 0, 1) := by decide +kernel
theorem dX3_least_13 : decode cX3_least 13 = .ok (.getfield 9, 3) := by decide +kernel
theorem dX3_least_16 : decode cX3_least 16 = .ok (.iconst 0, 1) := by decide +kernel
theorem dX3_least_17 : decode cX3_least 17 = .ok (.iaload, 1) := by decide +kernel
theorem dX3_least_18 : decode cX3_least 18 = .ok (.ireturn, 1) := by decide +kernel
theorem dX3_chooseWindow_0 : decode cX3_chooseWindow 0 = .ok (.aload_n 0, 1) := by decide +kernel
theorem dX3_chooseWindow_1 : decode cX3_chooseWindow 1 = .ok (.bipush (-6), 2) := by decide +kernel
theorem dX3_chooseWindow_3 : decode cX3_chooseWindow 3 = .ok (.putfield 18, 3) := by decide +kernel
theorem dX3_chooseWindow_6 : decode cX3_chooseWindow 6 = .ok (.aload_n 0, 1) := by decide +kernel
theorem dX3_chooseWindow_7 : decode cX3_chooseWindow 7 = .ok (.bipush (-6), 2) := by decide +kernel
theorem dX3_chooseWindow_9 : decode cX3_chooseWindow 9 = .ok (.putfield 22, 3) := by decide +kernel
theorem dX3_chooseWindow_12 : decode cX3_chooseWindow 12 = .ok (.aload_n 0, 1) := by decide +kernel
theorem dX3_chooseWindow_13 : decode cX3_chooseWindow 13 = .ok (.getfield 25, 3) := by decide +kernel
theorem dX3_chooseWindow_16 : decode cX3_chooseWindow 16 = .ok (.ifCond .ne 4, 3) := by decide +kernel
theorem dX3_chooseWindow_19 : decode cX3_chooseWindow 19 = .ok (.return_, 1) := by decide +kernel
theorem dX3_chooseWindow_20 : decode cX3_chooseWindow 20 = .ok (.iconst 0, 1) := by decide +kernel
theorem dX3_chooseWindow_21 : decode cX3_chooseWindow 21 = .ok (.istore_n 2, 1) := by decide +kernel
theorem dX3_chooseWindow_22 : decode cX3_chooseWindow 22 = .ok (.iload_n 2, 1) := by decide +kernel
theorem dX3_chooseWindow_23 : decode cX3_chooseWindow 23 = .ok (.aload_n 1, 1) := by decide +kernel
theorem dX3_chooseWindow_24 : decode cX3_chooseWindow 24 = .ok (.getfield 28, 3) := by decide +kernel
theorem dX3_chooseWindow_27 : decode cX3_chooseWindow 27 = .ok (.if_icmp .ge 51, 3) := by decide +kernel
theorem dX3_chooseWindow_30 : decode cX3_chooseWindow 30 = .ok (.aload_n 1, 1) := by decide +kernel
theorem dX3_chooseWindow_31 : decode cX3_chooseWindow 31 = .ok (.iload_n 2, 1) := by decide +kernel
theorem dX3_chooseWindow_32 : decode cX3_chooseWindow 32 = .ok (.invokevirtual 46, 3) := by decide +kernel
theorem dX3_chooseWindow_35 : decode cX3_chooseWindow 35 = .ok (.ifCond .ne 37, 3) := by decide +kernel
theorem dX3_chooseWindow_38 : decode cX3_chooseWindow 38 = .ok (.aload_n 0, 1) := by decide +kernel
theorem dX3_chooseWindow_39 : decode cX3_chooseWindow 39 = .ok (.aload_n 1, 1) := by decide +kernel
theorem dX3_chooseWindow_40 : decode cX3_chooseWindow 40 = .ok (.iload_n 2, 1) := by decide +kernel
theorem dX3_chooseWindow_41 : decode cX3_chooseWindow 41 = .ok (.invokevirtual 49, 3) := by decide +kernel
theorem dX3_chooseWindow_44 : decode cX3_chooseWindow 44 = .ok (.istore_n 3, 1) := by decide +kernel
theorem dX3_chooseWindow_45 : decode cX3_chooseWindow 45 = .ok (.aload_n 0, 1) := by decide +kernel
theorem dX3_chooseWindow_46 : decode cX3_chooseWindow 46 = .ok (.getfield 18, 3) := by decide +kernel
theorem dX3_chooseWindow_49 : decode cX3_chooseWindow 49 = .ok (.bipush (-6), 2) := by decide +kernel
theorem dX3_chooseWindow_51 : decode cX3_chooseWindow 51 = .ok (.if_icmp .eq 11, 3) := by decide +kernel
theorem dX3_chooseWindow_54 : decode cX3_chooseWindow 54 = .ok (.iload_n 3, 1) := by decide +kernel
theorem dX3_chooseWindow_55 : decode cX3_chooseWindow 55 = .ok (.aload_n 0, 1) := by decide +kernel
theorem dX3_chooseWindow_56 : decode cX3_chooseWindow 56 = .ok (.getfield 22, 3) := by decide +kernel
theorem dX3_chooseWindow_59 : decode cX3_chooseWindow 59 = .ok (.if_icmp .ge 13, 3) := by decide +kernel
theorem dX3_chooseWindow_62 : decode cX3_chooseWindow 62 = .ok (.aload_n 0, 1) := by decide +kernel
theorem dX3_chooseWindow_63 : decode cX3_chooseWindow 63 = .ok (.iload_n 2, 1) := by decide +kernel
theorem dX3_chooseWindow_64 : decode cX3_chooseWindow 64 = .ok (.putfield 18, 3) := by decide +kernel
theorem dX3_chooseWindow_67 : decode cX3_chooseWindow 67 = .ok (.aload_n 0, 1) := by decide +kernel
theorem dX3_chooseWindow_68 : decode cX3_chooseWindow 68 = .ok (.iload_n 3, 1) := by decide +kernel
theorem dX3_chooseWindow_69 : decode cX3_chooseWindow 69 = .ok (.putfield 22, 3) := by decide +kernel
theorem dX3_chooseWindow_72 : decode cX3_chooseWindow 72 = .ok (.iinc 2 1, 3) := by decide +kernel
theorem dX3_chooseWindow_75 : decode cX3_chooseWindow 75 = .ok (.goto (-53), 3) := by decide +kernel
theorem dX3_chooseWindow_78 : decode cX3_chooseWindow 78 = .ok (.return_, 1) := by decide +kernel
theorem dX3_leftAtMost_0 : decode cX3_leftAtMost 0 = .ok (.iconst 0, 1) := by decide +kernel
theorem dX3_leftAtMost_1 : decode cX3_leftAtMost 1 = .ok (.istore_n 3, 1) := by decide +kernel
theorem dX3_leftAtMost_2 : decode cX3_leftAtMost 2 = .ok (.iload_n 3, 1) := by decide +kernel
theorem dX3_leftAtMost_3 : decode cX3_leftAtMost 3 = .ok (.sipush 200, 3) := by decide +kernel
theorem dX3_leftAtMost_6 : decode cX3_leftAtMost 6 = .ok (.if_icmp .gt 16, 3) := by decide +kernel
theorem dX3_leftAtMost_9 : decode cX3_leftAtMost 9 = .ok (.aload_n 0, 1) := by decide +kernel
theorem dX3_leftAtMost_10 : decode cX3_leftAtMost 10 = .ok (.getfield 15, 3) := by decide +kernel
theorem dX3_leftAtMost_13 : decode cX3_leftAtMost 13 = .ok (.iload_n 3, 1) := by decide +kernel
theorem dX3_leftAtMost_14 : decode cX3_leftAtMost 14 = .ok (.iconst 0, 1) := by decide +kernel
theorem dX3_leftAtMost_15 : decode cX3_leftAtMost 15 = .ok (.iastore, 1) := by decide +kernel
theorem dX3_leftAtMost_16 : decode cX3_leftAtMost 16 = .ok (.iinc 3 1, 3) := by decide +kernel
theorem dX3_leftAtMost_19 : decode cX3_leftAtMost 19 = .ok (.goto (-17), 3) := by decide +kernel
theorem dX3_leftAtMost_22 : decode cX3_leftAtMost 22 = .ok (.iconst 0, 1) := by decide +kernel
theorem dX3_leftAtMost_23 : decode cX3_leftAtMost 23 = .ok (.istore_n 3, 1) := by decide +kernel
theorem dX3_leftAtMost_24 : decode cX3_leftAtMost 24 = .ok (.iconst 0, 1) := by decide +kernel
theorem dX3_leftAtMost_25 : decode cX3_leftAtMost 25 = .ok (.istore 4, 2) := by decide +kernel
theorem dX3_leftAtMost_27 : decode cX3_leftAtMost 27 = .ok (.iload 4, 2) := by decide +kernel
theorem dX3_leftAtMost_29 : decode cX3_leftAtMost 29 = .ok (.aload_n 0, 1) := by decide +kernel
theorem dX3_leftAtMost_30 : decode cX3_leftAtMost 30 = .ok (.getfield 25, 3) := by decide +kernel
theorem dX3_leftAtMost_33 : decode cX3_leftAtMost 33 = .ok (.if_icmp .ge 59, 3) := by decide +kernel
theorem dX3_leftAtMost_36 : decode cX3_leftAtMost 36 = .ok (.aload_n 1, 1) := by decide +kernel
theorem dX3_leftAtMost_37 : decode cX3_leftAtMost 37 = .ok (.iload_n 2, 1) := by decide +kernel
theorem dX3_leftAtMost_38 : decode cX3_leftAtMost 38 = .ok (.aload_n 0, 1) := by decide +kernel
theorem dX3_leftAtMost_39 : decode cX3_leftAtMost 39 = .ok (.getfield 9, 3) := by decide +kernel
theorem dX3_leftAtMost_42 : decode cX3_leftAtMost 42 = .ok (.iload 4, 2) := by decide +kernel
theorem dX3_leftAtMost_44 : decode cX3_leftAtMost 44 = .ok (.iaload, 1) := by decide +kernel
theorem dX3_leftAtMost_45 : decode cX3_leftAtMost 45 = .ok (.invokevirtual 53, 3) := by decide +kernel
theorem dX3_leftAtMost_48 : decode cX3_leftAtMost 48 = .ok (.istore 5, 2) := by decide +kernel
theorem dX3_leftAtMost_50 : decode cX3_leftAtMost 50 = .ok (.iload 5, 2) := by decide +kernel
theorem dX3_leftAtMost_52 : decode cX3_leftAtMost 52 = .ok (.ifCond .lt 34, 3) := by decide +kernel
theorem dX3_leftAtMost_55 : decode cX3_leftAtMost 55 = .ok (.iload 5, 2) := by decide +kernel
theorem dX3_leftAtMost_57 : decode cX3_leftAtMost 57 = .ok (.sipush 200, 3) := by decide +kernel
theorem dX3_leftAtMost_60 : decode cX3_leftAtMost 60 = .ok (.if_icmp .gt 26, 3) := by decide +kernel
theorem dX3_leftAtMost_63 : decode cX3_leftAtMost 63 = .ok (.aload_n 0, 1) := by decide +kernel
theorem dX3_leftAtMost_64 : decode cX3_leftAtMost 64 = .ok (.getfield 15, 3) := by decide +kernel
theorem dX3_leftAtMost_67 : decode cX3_leftAtMost 67 = .ok (.iload 5, 2) := by decide +kernel
theorem dX3_leftAtMost_69 : decode cX3_leftAtMost 69 = .ok (.dup2, 1) := by decide +kernel
theorem dX3_leftAtMost_70 : decode cX3_leftAtMost 70 = .ok (.iaload, 1) := by decide +kernel
theorem dX3_leftAtMost_71 : decode cX3_leftAtMost 71 = .ok (.iconst 1, 1) := by decide +kernel
theorem dX3_leftAtMost_72 : decode cX3_leftAtMost 72 = .ok (.iadd, 1) := by decide +kernel
theorem dX3_leftAtMost_73 : decode cX3_leftAtMost 73 = .ok (.iastore, 1) := by decide +kernel
theorem dX3_leftAtMost_74 : decode cX3_leftAtMost 74 = .ok (.iload_n 3, 1) := by decide +kernel
theorem dX3_leftAtMost_75 : decode cX3_leftAtMost 75 = .ok (.aload_n 0, 1) := by decide +kernel
theorem dX3_leftAtMost_76 : decode cX3_leftAtMost 76 = .ok (.getfield 15, 3) := by decide +kernel
theorem dX3_leftAtMost_79 : decode cX3_leftAtMost 79 = .ok (.iload 5, 2) := by decide +kernel
theorem dX3_leftAtMost_81 : decode cX3_leftAtMost 81 = .ok (.iaload, 1) := by decide +kernel
theorem dX3_leftAtMost_82 : decode cX3_leftAtMost 82 = .ok (.invokestatic 56, 3) := by decide +kernel
theorem dX3_leftAtMost_85 : decode cX3_leftAtMost 85 = .ok (.istore_n 3, 1) := by decide +kernel
theorem dX3_leftAtMost_86 : decode cX3_leftAtMost 86 = .ok (.iinc 4 1, 3) := by decide +kernel
theorem dX3_leftAtMost_89 : decode cX3_leftAtMost 89 = .ok (.goto (-62), 3) := by decide +kernel
theorem dX3_leftAtMost_92 : decode cX3_leftAtMost 92 = .ok (.iload_n 3, 1) := by decide +kernel
theorem dX3_leftAtMost_93 : decode cX3_leftAtMost 93 = .ok (.ireturn, 1) := by decide +kernel
theorem dX4_init_0 : decode cX4_init 0 = .ok (.aload_n 0, 1) := by decide +kernel
theorem dX4_init_1 : decode cX4_init 1 = .ok (.invokespecial 3, 3) := by decide +kernel
theorem dX4_init_4 : decode cX4_init 4 = .ok (.aload_n 0, 1) := by decide +kernel
theorem dX4_init_5 : decode cX4_init 5 = .ok (.sipush 1024, 3) := by decide +kernel
theorem dX4_init_8 : decode cX4_init 8 = .ok (.newarray .int, 2) := by decide +kernel
theorem dX4_init_10 : decode cX4_init 10 = .ok (.putfield 9, 3) := by decide +kernel
theorem dX4_init_13 : decode cX4_init 13 = .ok (.aload_n 0, 1) := by decide +kernel
theorem dX4_init_14 : decode cX4_init 14 = .ok (.sipush 1024, 3) := by decide +kernel
theorem dX4_init_17 : decode cX4_init 17 = .ok (.newarray .int, 2) := by decide +kernel
theorem dX4_init_19 : decode cX4_init 19 = .ok (.putfield 15, 3) := by decide +kernel
theorem dX4_init_22 : decode cX4_init 22 = .ok (.return_, 1) := by decide +kernel
theorem dX4_fewestPayments_0 : decode cX4_fewestPayments 0 = .ok (.aload_n 1, 1) := by decide +kernel
theorem dX4_fewestPayments_1 : decode cX4_fewestPayments 1 = .ok (.getfield 18, 3) := by decide +kernel
theorem dX4_fewestPayments_4 : decode cX4_fewestPayments 4 = .ok (.bipush 10, 2) := by decide +kernel
theorem dX4_fewestPayments_6 : decode cX4_fewestPayments 6 = .ok (.invokestatic 24, 3) := by decide +kernel
theorem dX4_fewestPayments_9 : decode cX4_fewestPayments 9 = .ok (.istore_n 2, 1) := by decide +kernel
theorem dX4_fewestPayments_10 : decode cX4_fewestPayments 10 = .ok (.iconst 1, 1) := by decide +kernel
theorem dX4_fewestPayments_11 : decode cX4_fewestPayments 11 = .ok (.iload_n 2, 1) := by decide +kernel
theorem dX4_fewestPayments_12 : decode cX4_fewestPayments 12 = .ok (.ishl, 1) := by decide +kernel
theorem dX4_fewestPayments_13 : decode cX4_fewestPayments 13 = .ok (.sipush 1024, 3) := by decide +kernel
theorem dX4_fewestPayments_16 : decode cX4_fewestPayments 16 = .ok (.invokestatic 24, 3) := by decide +kernel
theorem dX4_fewestPayments_19 : decode cX4_fewestPayments 19 = .ok (.istore_n 3, 1) := by decide +kernel
theorem dX4_fewestPayments_20 : decode cX4_fewestPayments 20 = .ok (.iconst 0, 1) := by decide +kernel
theorem dX4_fewestPayments_21 : decode cX4_fewestPayments 21 = .ok (.istore 4, 2) := by decide +kernel
theorem dX4_fewestPayments_23 : decode cX4_fewestPayments 23 = .ok (.iload 4, 2) := by decide +kernel
theorem dX4_fewestPayments_25 : decode cX4_fewestPayments 25 = .ok (.iload_n 3, 1) := by decide +kernel
theorem dX4_fewestPayments_26 : decode cX4_fewestPayments 26 = .ok (.if_icmp .ge 17, 3) := by decide +kernel
theorem dX4_fewestPayments_29 : decode cX4_fewestPayments 29 = .ok (.aload_n 0, 1) := by decide +kernel
theorem dX4_fewestPayments_30 : decode cX4_fewestPayments 30 = .ok (.aload_n 1, 1) := by decide +kernel
theorem dX4_fewestPayments_31 : decode cX4_fewestPayments 31 = .ok (.iload_n 2, 1) := by decide +kernel
theorem dX4_fewestPayments_32 : decode cX4_fewestPayments 32 = .ok (.iload 4, 2) := by decide +kernel
theorem dX4_fewestPayments_34 : decode cX4_fewestPayments 34 = .ok (.invokevirtual 30, 3) := by decide +kernel
theorem dX4_fewestPayments_37 : decode cX4_fewestPayments 37 = .ok (.iinc 4 1, 3) := by decide +kernel
theorem dX4_fewestPayments_40 : decode cX4_fewestPayments 40 = .ok (.goto (-17), 3) := by decide +kernel
theorem dX4_fewestPayments_43 : decode cX4_fewestPayments 43 = .ok (.iload_n 2, 1) := by decide +kernel
theorem dX4_fewestPayments_44 : decode cX4_fewestPayments 44 = .ok (.aload_n 0, 1) := by decide +kernel
theorem dX4_fewestPayments_45 : decode cX4_fewestPayments 45 = .ok (.getfield 15, 3) := by decide +kernel
theorem dX4_fewestPayments_48 : decode cX4_fewestPayments 48 = .ok (.iload_n 3, 1) := by decide +kernel
theorem dX4_fewestPayments_49 : decode cX4_fewestPayments 49 = .ok (.iconst 1, 1) := by decide +kernel
theorem dX4_fewestPayments_50 : decode cX4_fewestPayments 50 = .ok (.isub, 1) := by decide +kernel
theorem dX4_fewestPayments_51 : decode cX4_fewestPayments 51 = .ok (.iaload, 1) := by decide +kernel
theorem dX4_fewestPayments_52 : decode cX4_fewestPayments 52 = .ok (.isub, 1) := by decide +kernel
theorem dX4_fewestPayments_53 : decode cX4_fewestPayments 53 = .ok (.ireturn, 1) := by decide +kernel
theorem dX4_countGroups_0 : decode cX4_countGroups 0 = .ok (.aload_n 0, 1) := by decide +kernel
theorem dX4_countGroups_1 : decode cX4_countGroups 1 = .ok (.getfield 9, 3) := by decide +kernel
theorem dX4_countGroups_4 : decode cX4_countGroups 4 = .ok (.iload_n 3, 1) := by decide +kernel
theorem dX4_countGroups_5 : decode cX4_countGroups 5 = .ok (.iconst 0, 1) := by decide +kernel
theorem dX4_countGroups_6 : decode cX4_countGroups 6 = .ok (.iastore, 1) := by decide +kernel
theorem dX4_countGroups_7 : decode cX4_countGroups 7 = .ok (.aload_n 0, 1) := by decide +kernel
theorem dX4_countGroups_8 : decode cX4_countGroups 8 = .ok (.getfield 15, 3) := by decide +kernel
theorem dX4_countGroups_11 : decode cX4_countGroups 11 = .ok (.iload_n 3, 1) := by decide +kernel
theorem dX4_countGroups_12 : decode cX4_countGroups 12 = .ok (.iconst 0, 1) := by decide +kernel
theorem dX4_countGroups_13 : decode cX4_countGroups 13 = .ok (.iastore, 1) := by decide +kernel
theorem dX4_countGroups_14 : decode cX4_countGroups 14 = .ok (.iconst 0, 1) := by decide +kernel
theorem dX4_countGroups_15 : decode cX4_countGroups 15 = .ok (.istore 4, 2) := by decide +kernel
theorem dX4_countGroups_17 : decode cX4_countGroups 17 = .ok (.iload 4, 2) := by decide +kernel
theorem dX4_countGroups_19 : decode cX4_countGroups 19 = .ok (.iload_n 2, 1) := by decide +kernel
theorem dX4_countGroups_20 : decode cX4_countGroups 20 = .ok (.if_icmp .ge 68, 3) := by decide +kernel
theorem dX4_countGroups_23 : decode cX4_countGroups 23 = .ok (.iload_n 3, 1) := by decide +kernel
theorem dX4_countGroups_24 : decode cX4_countGroups 24 = .ok (.iconst 1, 1) := by decide +kernel
theorem dX4_countGroups_25 : decode cX4_countGroups 25 = .ok (.iload 4, 2) := by decide +kernel
theorem dX4_countGroups_27 : decode cX4_countGroups 27 = .ok (.ishl, 1) := by decide +kernel
theorem dX4_countGroups_28 : decode cX4_countGroups 28 = .ok (.iconst (-1), 1) := by decide +kernel
theorem dX4_countGroups_29 : decode cX4_countGroups 29 = .ok (.ixor, 1) := by decide +kernel
theorem dX4_countGroups_30 : decode cX4_countGroups 30 = .ok (.iand, 1) := by decide +kernel
theorem dX4_countGroups_31 : decode cX4_countGroups 31 = .ok (.istore 5, 2) := by decide +kernel
theorem dX4_countGroups_33 : decode cX4_countGroups 33 = .ok (.iload 5, 2) := by decide +kernel
theorem dX4_countGroups_35 : decode cX4_countGroups 35 = .ok (.iload_n 3, 1) := by decide +kernel
theorem dX4_countGroups_36 : decode cX4_countGroups 36 = .ok (.if_icmp .eq 46, 3) := by decide +kernel
theorem dX4_countGroups_39 : decode cX4_countGroups 39 = .ok (.aload_n 0, 1) := by decide +kernel
theorem dX4_countGroups_40 : decode cX4_countGroups 40 = .ok (.getfield 9, 3) := by decide +kernel
theorem dX4_countGroups_43 : decode cX4_countGroups 43 = .ok (.iload_n 3, 1) := by decide +kernel
theorem dX4_countGroups_44 : decode cX4_countGroups 44 = .ok (.aload_n 0, 1) := by decide +kernel
theorem dX4_countGroups_45 : decode cX4_countGroups 45 = .ok (.getfield 9, 3) := by decide +kernel
theorem dX4_countGroups_48 : decode cX4_countGroups 48 = .ok (.iload 5, 2) := by decide +kernel
theorem dX4_countGroups_50 : decode cX4_countGroups 50 = .ok (.iaload, 1) := by decide +kernel
theorem dX4_countGroups_51 : decode cX4_countGroups 51 = .ok (.aload_n 1, 1) := by decide +kernel
theorem dX4_countGroups_52 : decode cX4_countGroups 52 = .ok (.getfield 34, 3) := by decide +kernel
theorem dX4_countGroups_55 : decode cX4_countGroups 55 = .ok (.iload 4, 2) := by decide +kernel
theorem dX4_countGroups_57 : decode cX4_countGroups 57 = .ok (.iaload, 1) := by decide +kernel
theorem dX4_countGroups_58 : decode cX4_countGroups 58 = .ok (.iadd, 1) := by decide +kernel
theorem dX4_countGroups_59 : decode cX4_countGroups 59 = .ok (.iastore, 1) := by decide +kernel
theorem dX4_countGroups_60 : decode cX4_countGroups 60 = .ok (.aload_n 0, 1) := by decide +kernel
theorem dX4_countGroups_61 : decode cX4_countGroups 61 = .ok (.getfield 15, 3) := by decide +kernel
theorem dX4_countGroups_64 : decode cX4_countGroups 64 = .ok (.iload_n 3, 1) := by decide +kernel
theorem dX4_countGroups_65 : decode cX4_countGroups 65 = .ok (.aload_n 0, 1) := by decide +kernel
theorem dX4_countGroups_66 : decode cX4_countGroups 66 = .ok (.getfield 15, 3) := by decide +kernel
theorem dX4_countGroups_69 : decode cX4_countGroups 69 = .ok (.iload_n 3, 1) := by decide +kernel
theorem dX4_countGroups_70 : decode cX4_countGroups 70 = .ok (.iaload, 1) := by decide +kernel
theorem dX4_countGroups_71 : decode cX4_countGroups 71 = .ok (.aload_n 0, 1) := by decide +kernel
theorem dX4_countGroups_72 : decode cX4_countGroups 72 = .ok (.getfield 15, 3) := by decide +kernel
theorem dX4_countGroups_75 : decode cX4_countGroups 75 = .ok (.iload 5, 2) := by decide +kernel
theorem dX4_countGroups_77 : decode cX4_countGroups 77 = .ok (.iaload, 1) := by decide +kernel
theorem dX4_countGroups_78 : decode cX4_countGroups 78 = .ok (.invokestatic 37, 3) := by decide +kernel
theorem dX4_countGroups_81 : decode cX4_countGroups 81 = .ok (.iastore, 1) := by decide +kernel
theorem dX4_countGroups_82 : decode cX4_countGroups 82 = .ok (.iinc 4 1, 3) := by decide +kernel
theorem dX4_countGroups_85 : decode cX4_countGroups 85 = .ok (.goto (-68), 3) := by decide +kernel
theorem dX4_countGroups_88 : decode cX4_countGroups 88 = .ok (.iload_n 3, 1) := by decide +kernel
theorem dX4_countGroups_89 : decode cX4_countGroups 89 = .ok (.ifCond .eq 22, 3) := by decide +kernel
theorem dX4_countGroups_92 : decode cX4_countGroups 92 = .ok (.aload_n 0, 1) := by decide +kernel
theorem dX4_countGroups_93 : decode cX4_countGroups 93 = .ok (.getfield 9, 3) := by decide +kernel
theorem dX4_countGroups_96 : decode cX4_countGroups 96 = .ok (.iload_n 3, 1) := by decide +kernel
theorem dX4_countGroups_97 : decode cX4_countGroups 97 = .ok (.iaload, 1) := by decide +kernel
theorem dX4_countGroups_98 : decode cX4_countGroups 98 = .ok (.ifCond .ne 13, 3) := by decide +kernel
theorem dX4_countGroups_101 : decode cX4_countGroups 101 = .ok (.aload_n 0, 1) := by decide +kernel
theorem dX4_countGroups_102 : decode cX4_countGroups 102 = .ok (.getfield 15, 3) := by decide +kernel
theorem dX4_countGroups_105 : decode cX4_countGroups 105 = .ok (.iload_n 3, 1) := by decide +kernel
theorem dX4_countGroups_106 : decode cX4_countGroups 106 = .ok (.dup2, 1) := by decide +kernel
theorem dX4_countGroups_107 : decode cX4_countGroups 107 = .ok (.iaload, 1) := by decide +kernel
theorem dX4_countGroups_108 : decode cX4_countGroups 108 = .ok (.iconst 1, 1) := by decide +kernel
theorem dX4_countGroups_109 : decode cX4_countGroups 109 = .ok (.iadd, 1) := by decide +kernel
theorem dX4_countGroups_110 : decode cX4_countGroups 110 = .ok (.iastore, 1) := by decide +kernel
theorem dX4_countGroups_111 : decode cX4_countGroups 111 = .ok (.return_, 1) := by decide +kernel
theorem dX5_init_0 : decode cX5_init 0 = .ok (.aload_n 0, 1) := by decide +kernel
theorem dX5_init_1 : decode cX5_init 1 = .ok (.invokespecial 3, 3) := by decide +kernel
theorem dX5_init_4 : decode cX5_init 4 = .ok (.aload_n 0, 1) := by decide +kernel
theorem dX5_init_5 : decode cX5_init 5 = .ok (.iconst 0, 1) := by decide +kernel
theorem dX5_init_6 : decode cX5_init 6 = .ok (.putfield 9, 3) := by decide +kernel
theorem dX5_init_9 : decode cX5_init 9 = .ok (.aload_n 0, 1) := by decide +kernel
theorem dX5_init_10 : decode cX5_init 10 = .ok (.bipush 60, 2) := by decide +kernel
theorem dX5_init_12 : decode cX5_init 12 = .ok (.newarray .int, 2) := by decide +kernel
theorem dX5_init_14 : decode cX5_init 14 = .ok (.putfield 15, 3) := by decide +kernel
theorem dX5_init_17 : decode cX5_init 17 = .ok (.return_, 1) := by decide +kernel
theorem dX5_write_0 : decode cX5_write 0 = .ok (.aload_n 0, 1) := by decide +kernel
theorem dX5_write_1 : decode cX5_write 1 = .ok (.getfield 9, 3) := by decide +kernel
theorem dX5_write_4 : decode cX5_write 4 = .ok (.ifCond .lt 12, 3) := by decide +kernel
theorem dX5_write_7 : decode cX5_write 7 = .ok (.aload_n 0, 1) := by decide +kernel
theorem dX5_write_8 : decode cX5_write 8 = .ok (.getfield 9, 3) := by decide +kernel
theorem dX5_write_11 : decode cX5_write 11 = .ok (.bipush 60, 2) := by decide +kernel
theorem dX5_write_13 : decode cX5_write 13 = .ok (.if_icmp .lt 5, 3) := by decide +kernel
theorem dX5_write_16 : decode cX5_write 16 = .ok (.iconst 0, 1) := by decide +kernel
theorem dX5_write_17 : decode cX5_write 17 = .ok (.ireturn, 1) := by decide +kernel
theorem dX5_write_18 : decode cX5_write 18 = .ok (.aload_n 0, 1) := by decide +kernel
theorem dX5_write_19 : decode cX5_write 19 = .ok (.getfield 15, 3) := by decide +kernel
theorem dX5_write_22 : decode cX5_write 22 = .ok (.aload_n 0, 1) := by decide +kernel
theorem dX5_write_23 : decode cX5_write 23 = .ok (.getfield 9, 3) := by decide +kernel
theorem dX5_write_26 : decode cX5_write 26 = .ok (.iload_n 1, 1) := by decide +kernel
theorem dX5_write_27 : decode cX5_write 27 = .ok (.iastore, 1) := by decide +kernel
theorem dX5_write_28 : decode cX5_write 28 = .ok (.aload_n 0, 1) := by decide +kernel
theorem dX5_write_29 : decode cX5_write 29 = .ok (.dup, 1) := by decide +kernel
theorem dX5_write_30 : decode cX5_write 30 = .ok (.getfield 9, 3) := by decide +kernel
theorem dX5_write_33 : decode cX5_write 33 = .ok (.iconst 1, 1) := by decide +kernel
theorem dX5_write_34 : decode cX5_write 34 = .ok (.iadd, 1) := by decide +kernel
theorem dX5_write_35 : decode cX5_write 35 = .ok (.putfield 9, 3) := by decide +kernel
theorem dX5_write_38 : decode cX5_write 38 = .ok (.iconst 1, 1) := by decide +kernel
theorem dX5_write_39 : decode cX5_write 39 = .ok (.ireturn, 1) := by decide +kernel
theorem dX5_clear_0 : decode cX5_clear 0 = .ok (.aload_n 0, 1) := by decide +kernel
theorem dX5_clear_1 : decode cX5_clear 1 = .ok (.getfield 9, 3) := by decide +kernel
theorem dX5_clear_4 : decode cX5_clear 4 = .ok (.istore_n 1, 1) := by decide +kernel
theorem dX5_clear_5 : decode cX5_clear 5 = .ok (.aload_n 0, 1) := by decide +kernel
theorem dX5_clear_6 : decode cX5_clear 6 = .ok (.iconst 0, 1) := by decide +kernel
theorem dX5_clear_7 : decode cX5_clear 7 = .ok (.putfield 9, 3) := by decide +kernel
theorem dX5_clear_10 : decode cX5_clear 10 = .ok (.iload_n 1, 1) := by decide +kernel
theorem dX5_clear_11 : decode cX5_clear 11 = .ok (.ireturn, 1) := by decide +kernel
theorem dX5_signAt_0 : decode cX5_signAt 0 = .ok (.iload_n 1, 1) := by decide +kernel
theorem dX5_signAt_1 : decode cX5_signAt 1 = .ok (.ifCond .lt 26, 3) := by decide +kernel
theorem dX5_signAt_4 : decode cX5_signAt 4 = .ok (.iload_n 1, 1) := by decide +kernel
theorem dX5_signAt_5 : decode cX5_signAt 5 = .ok (.aload_n 0, 1) := by decide +kernel
theorem dX5_signAt_6 : decode cX5_signAt 6 = .ok (.getfield 9, 3) := by decide +kernel
theorem dX5_signAt_9 : decode cX5_signAt 9 = .ok (.if_icmp .ge 18, 3) := by decide +kernel
theorem dX5_signAt_12 : decode cX5_signAt 12 = .ok (.iload_n 1, 1) := by decide +kernel
theorem dX5_signAt_13 : decode cX5_signAt 13 = .ok (.bipush 60, 2) := by decide +kernel
theorem dX5_signAt_15 : decode cX5_signAt 15 = .ok (.if_icmp .ge 12, 3) := by decide +kernel
theorem dX5_signAt_18 : decode cX5_signAt 18 = .ok (.aload_n 0, 1) := by decide +kernel
theorem dX5_signAt_19 : decode cX5_signAt 19 = .ok (.getfield 15, 3) := by decide +kernel
theorem dX5_signAt_22 : decode cX5_signAt 22 = .ok (.iload_n 1, 1) := by decide +kernel
theorem dX5_signAt_23 : decode cX5_signAt 23 = .ok (.iaload, 1) := by decide +kernel
theorem dX5_signAt_24 : decode cX5_signAt 24 = .ok (.goto 4, 3) := by decide +kernel
theorem dX5_signAt_27 : decode cX5_signAt 27 = .ok (.iconst 0, 1) := by decide +kernel
theorem dX5_signAt_28 : decode cX5_signAt 28 = .ok (.ireturn, 1) := by decide +kernel
theorem dX5_eveningFault_0 : decode cX5_eveningFault 0 = .ok (.iconst 0, 1) := by decide +kernel
theorem dX5_eveningFault_1 : decode cX5_eveningFault 1 = .ok (.istore_n 2, 1) := by decide +kernel
theorem dX5_eveningFault_2 : decode cX5_eveningFault 2 = .ok (.iload_n 2, 1) := by decide +kernel
theorem dX5_eveningFault_3 : decode cX5_eveningFault 3 = .ok (.aload_n 0, 1) := by decide +kernel
theorem dX5_eveningFault_4 : decode cX5_eveningFault 4 = .ok (.getfield 9, 3) := by decide +kernel
theorem dX5_eveningFault_7 : decode cX5_eveningFault 7 = .ok (.if_icmp .ge 23, 3) := by decide +kernel
theorem dX5_eveningFault_10 : decode cX5_eveningFault 10 = .ok (.aload_n 0, 1) := by decide +kernel
theorem dX5_eveningFault_11 : decode cX5_eveningFault 11 = .ok (.iload_n 2, 1) := by decide +kernel
theorem dX5_eveningFault_12 : decode cX5_eveningFault 12 = .ok (.invokevirtual 19, 3) := by decide +kernel
theorem dX5_eveningFault_15 : decode cX5_eveningFault 15 = .ok (.iload_n 1, 1) := by decide +kernel
theorem dX5_eveningFault_16 : decode cX5_eveningFault 16 = .ok (.invokestatic 23, 3) := by decide +kernel
theorem dX5_eveningFault_19 : decode cX5_eveningFault 19 = .ok (.ifCond .ne 5, 3) := by decide +kernel
theorem dX5_eveningFault_22 : decode cX5_eveningFault 22 = .ok (.iload_n 2, 1) := by decide +kernel
theorem dX5_eveningFault_23 : decode cX5_eveningFault 23 = .ok (.ireturn, 1) := by decide +kernel
theorem dX5_eveningFault_24 : decode cX5_eveningFault 24 = .ok (.iinc 2 1, 3) := by decide +kernel
theorem dX5_eveningFault_27 : decode cX5_eveningFault 27 = .ok (.goto (-25), 3) := by decide +kernel
theorem dX5_eveningFault_30 : decode cX5_eveningFault 30 = .ok (.bipush (-6), 2) := by decide +kernel
theorem dX5_eveningFault_32 : decode cX5_eveningFault 32 = .ok (.ireturn, 1) := by decide +kernel
theorem dX5_isAct_0 : decode cX5_isAct 0 = .ok (.iload_n 0, 1) := by decide +kernel
theorem dX5_isAct_1 : decode cX5_isAct 1 = .ok (.bipush 43, 2) := by decide +kernel
theorem dX5_isAct_3 : decode cX5_isAct 3 = .ok (.if_icmp .eq 29, 3) := by decide +kernel
theorem dX5_isAct_6 : decode cX5_isAct 6 = .ok (.iload_n 0, 1) := by decide +kernel
theorem dX5_isAct_7 : decode cX5_isAct 7 = .ok (.bipush 45, 2) := by decide +kernel
theorem dX5_isAct_9 : decode cX5_isAct 9 = .ok (.if_icmp .eq 23, 3) := by decide +kernel
theorem dX5_isAct_12 : decode cX5_isAct 12 = .ok (.iload_n 0, 1) := by decide +kernel
theorem dX5_isAct_13 : decode cX5_isAct 13 = .ok (.bipush 46, 2) := by decide +kernel
theorem dX5_isAct_15 : decode cX5_isAct 15 = .ok (.if_icmp .eq 17, 3) := by decide +kernel
theorem dX5_isAct_18 : decode cX5_isAct 18 = .ok (.iload_n 0, 1) := by decide +kernel
theorem dX5_isAct_19 : decode cX5_isAct 19 = .ok (.bipush 97, 2) := by decide +kernel
theorem dX5_isAct_21 : decode cX5_isAct 21 = .ok (.if_icmp .lt 15, 3) := by decide +kernel
theorem dX5_isAct_24 : decode cX5_isAct 24 = .ok (.iload_n 0, 1) := by decide +kernel
theorem dX5_isAct_25 : decode cX5_isAct 25 = .ok (.bipush 97, 2) := by decide +kernel
theorem dX5_isAct_27 : decode cX5_isAct 27 = .ok (.iload_n 1, 1) := by decide +kernel
theorem dX5_isAct_28 : decode cX5_isAct 28 = .ok (.iadd, 1) := by decide +kernel
theorem dX5_isAct_29 : decode cX5_isAct 29 = .ok (.if_icmp .ge 7, 3) := by decide +kernel
theorem dX5_isAct_32 : decode cX5_isAct 32 = .ok (.iconst 1, 1) := by decide +kernel
theorem dX5_isAct_33 : decode cX5_isAct 33 = .ok (.goto 4, 3) := by decide +kernel
theorem dX5_isAct_36 : decode cX5_isAct 36 = .ok (.iconst 0, 1) := by decide +kernel
theorem dX5_isAct_37 : decode cX5_isAct 37 = .ok (.ireturn, 1) := by decide +kernel
theorem dX5_tuneFault_0 : decode cX5_tuneFault 0 = .ok (.iconst 0, 1) := by decide +kernel
theorem dX5_tuneFault_1 : decode cX5_tuneFault 1 = .ok (.istore_n 1, 1) := by decide +kernel
theorem dX5_tuneFault_2 : decode cX5_tuneFault 2 = .ok (.iload_n 1, 1) := by decide +kernel
theorem dX5_tuneFault_3 : decode cX5_tuneFault 3 = .ok (.aload_n 0, 1) := by decide +kernel
theorem dX5_tuneFault_4 : decode cX5_tuneFault 4 = .ok (.getfield 9, 3) := by decide +kernel
theorem dX5_tuneFault_7 : decode cX5_tuneFault 7 = .ok (.if_icmp .ge 19, 3) := by decide +kernel
theorem dX5_tuneFault_10 : decode cX5_tuneFault 10 = .ok (.aload_n 0, 1) := by decide +kernel
theorem dX5_tuneFault_11 : decode cX5_tuneFault 11 = .ok (.iload_n 1, 1) := by decide +kernel
theorem dX5_tuneFault_12 : decode cX5_tuneFault 12 = .ok (.invokevirtual 27, 3) := by decide +kernel
theorem dX5_tuneFault_15 : decode cX5_tuneFault 15 = .ok (.ifCond .ne 5, 3) := by decide +kernel
theorem dX5_tuneFault_18 : decode cX5_tuneFault 18 = .ok (.iload_n 1, 1) := by decide +kernel
theorem dX5_tuneFault_19 : decode cX5_tuneFault 19 = .ok (.ireturn, 1) := by decide +kernel
theorem dX5_tuneFault_20 : decode cX5_tuneFault 20 = .ok (.iinc 1 1, 3) := by decide +kernel
theorem dX5_tuneFault_23 : decode cX5_tuneFault 23 = .ok (.goto (-21), 3) := by decide +kernel
theorem dX5_tuneFault_26 : decode cX5_tuneFault 26 = .ok (.aload_n 0, 1) := by decide +kernel
theorem dX5_tuneFault_27 : decode cX5_tuneFault 27 = .ok (.getfield 9, 3) := by decide +kernel
theorem dX5_tuneFault_30 : decode cX5_tuneFault 30 = .ok (.ifCond .eq 12, 3) := by decide +kernel
theorem dX5_tuneFault_33 : decode cX5_tuneFault 33 = .ok (.aload_n 0, 1) := by decide +kernel
theorem dX5_tuneFault_34 : decode cX5_tuneFault 34 = .ok (.getfield 9, 3) := by decide +kernel
theorem dX5_tuneFault_37 : decode cX5_tuneFault 37 = .ok (.iconst 2, 1) := by decide +kernel
theorem dX5_tuneFault_38 : decode cX5_tuneFault 38 = .ok (.irem, 1) := by decide +kernel
theorem dX5_tuneFault_39 : decode cX5_tuneFault 39 = .ok (.ifCond .eq 10, 3) := by decide +kernel
theorem dX5_tuneFault_42 : decode cX5_tuneFault 42 = .ok (.aload_n 0, 1) := by decide +kernel
theorem dX5_tuneFault_43 : decode cX5_tuneFault 43 = .ok (.getfield 9, 3) := by decide +kernel
theorem dX5_tuneFault_46 : decode cX5_tuneFault 46 = .ok (.goto 5, 3) := by decide +kernel
theorem dX5_tuneFault_49 : decode cX5_tuneFault 49 = .ok (.bipush (-6), 2) := by decide +kernel
theorem dX5_tuneFault_51 : decode cX5_tuneFault 51 = .ok (.ireturn, 1) := by decide +kernel
theorem dX5_isTuneSign_0 : decode cX5_isTuneSign 0 = .ok (.aload_n 0, 1) := by decide +kernel
theorem dX5_isTuneSign_1 : decode cX5_isTuneSign 1 = .ok (.iload_n 1, 1) := by decide +kernel
theorem dX5_isTuneSign_2 : decode cX5_isTuneSign 2 = .ok (.invokevirtual 19, 3) := by decide +kernel
theorem dX5_isTuneSign_5 : decode cX5_isTuneSign 5 = .ok (.bipush 48, 2) := by decide +kernel
theorem dX5_isTuneSign_7 : decode cX5_isTuneSign 7 = .ok (.isub, 1) := by decide +kernel
theorem dX5_isTuneSign_8 : decode cX5_isTuneSign 8 = .ok (.istore_n 2, 1) := by decide +kernel
theorem dX5_isTuneSign_9 : decode cX5_isTuneSign 9 = .ok (.iload_n 2, 1) := by decide +kernel
theorem dX5_isTuneSign_10 : decode cX5_isTuneSign 10 = .ok (.ifCond .lt 9, 3) := by decide +kernel
theorem dX5_isTuneSign_13 : decode cX5_isTuneSign 13 = .ok (.iload_n 2, 1) := by decide +kernel
theorem dX5_isTuneSign_14 : decode cX5_isTuneSign 14 = .ok (.bipush 9, 2) := by decide +kernel
theorem dX5_isTuneSign_16 : decode cX5_isTuneSign 16 = .ok (.if_icmp .le 5, 3) := by decide +kernel
theorem dX5_isTuneSign_19 : decode cX5_isTuneSign 19 = .ok (.iconst 0, 1) := by decide +kernel
theorem dX5_isTuneSign_20 : decode cX5_isTuneSign 20 = .ok (.ireturn, 1) := by decide +kernel
theorem dX5_isTuneSign_21 : decode cX5_isTuneSign 21 = .ok (.iload_n 1, 1) := by decide +kernel
theorem dX5_isTuneSign_22 : decode cX5_isTuneSign 22 = .ok (.iconst 2, 1) := by decide +kernel
theorem dX5_isTuneSign_23 : decode cX5_isTuneSign 23 = .ok (.irem, 1) := by decide +kernel
theorem dX5_isTuneSign_24 : decode cX5_isTuneSign 24 = .ok (.ifCond .ne 18, 3) := by decide +kernel
theorem dX5_isTuneSign_27 : decode cX5_isTuneSign 27 = .ok (.iload_n 2, 1) := by decide +kernel
theorem dX5_isTuneSign_28 : decode cX5_isTuneSign 28 = .ok (.bipush 10, 2) := by decide +kernel
theorem dX5_isTuneSign_30 : decode cX5_isTuneSign 30 = .ok (.imul, 1) := by decide +kernel
theorem dX5_isTuneSign_31 : decode cX5_isTuneSign 31 = .ok (.bipush 20, 2) := by decide +kernel
theorem dX5_isTuneSign_33 : decode cX5_isTuneSign 33 = .ok (.if_icmp .gt 7, 3) := by decide +kernel
theorem dX5_isTuneSign_36 : decode cX5_isTuneSign 36 = .ok (.iconst 1, 1) := by decide +kernel
theorem dX5_isTuneSign_37 : decode cX5_isTuneSign 37 = .ok (.goto 4, 3) := by decide +kernel
theorem dX5_isTuneSign_40 : decode cX5_isTuneSign 40 = .ok (.iconst 0, 1) := by decide +kernel
theorem dX5_isTuneSign_41 : decode cX5_isTuneSign 41 = .ok (.ireturn, 1) := by decide +kernel
theorem dX5_isTuneSign_42 : decode cX5_isTuneSign 42 = .ok (.aload_n 0, 1) := by decide +kernel
theorem dX5_isTuneSign_43 : decode cX5_isTuneSign 43 = .ok (.iload_n 1, 1) := by decide +kernel
theorem dX5_isTuneSign_44 : decode cX5_isTuneSign 44 = .ok (.iconst 2, 1) := by decide +kernel
theorem dX5_isTuneSign_45 : decode cX5_isTuneSign 45 = .ok (.idiv, 1) := by decide +kernel
theorem dX5_isTuneSign_46 : decode cX5_isTuneSign 46 = .ok (.invokevirtual 31, 3) := by decide +kernel
theorem dX5_isTuneSign_49 : decode cX5_isTuneSign 49 = .ok (.istore_n 3, 1) := by decide +kernel
theorem dX5_isTuneSign_50 : decode cX5_isTuneSign 50 = .ok (.iload_n 3, 1) := by decide +kernel
theorem dX5_isTuneSign_51 : decode cX5_isTuneSign 51 = .ok (.iconst 1, 1) := by decide +kernel
theorem dX5_isTuneSign_52 : decode cX5_isTuneSign 52 = .ok (.if_icmp .lt 13, 3) := by decide +kernel
theorem dX5_isTuneSign_55 : decode cX5_isTuneSign 55 = .ok (.iload_n 3, 1) := by decide +kernel
theorem dX5_isTuneSign_56 : decode cX5_isTuneSign 56 = .ok (.bipush 20, 2) := by decide +kernel
theorem dX5_isTuneSign_58 : decode cX5_isTuneSign 58 = .ok (.if_icmp .gt 7, 3) := by decide +kernel
theorem dX5_isTuneSign_61 : decode cX5_isTuneSign 61 = .ok (.iconst 1, 1) := by decide +kernel
theorem dX5_isTuneSign_62 : decode cX5_isTuneSign 62 = .ok (.goto 4, 3) := by decide +kernel
theorem dX5_isTuneSign_65 : decode cX5_isTuneSign 65 = .ok (.iconst 0, 1) := by decide +kernel
theorem dX5_isTuneSign_66 : decode cX5_isTuneSign 66 = .ok (.ireturn, 1) := by decide +kernel
theorem dX5_toneCount_0 : decode cX5_toneCount 0 = .ok (.aload_n 0, 1) := by decide +kernel
theorem dX5_toneCount_1 : decode cX5_toneCount 1 = .ok (.getfield 9, 3) := by decide +kernel
theorem dX5_toneCount_4 : decode cX5_toneCount 4 = .ok (.iconst 2, 1) := by decide +kernel
theorem dX5_toneCount_5 : decode cX5_toneCount 5 = .ok (.idiv, 1) := by decide +kernel
theorem dX5_toneCount_6 : decode cX5_toneCount 6 = .ok (.ireturn, 1) := by decide +kernel
theorem dX5_toneAt_0 : decode cX5_toneAt 0 = .ok (.aload_n 0, 1) := by decide +kernel
theorem dX5_toneAt_1 : decode cX5_toneAt 1 = .ok (.iconst 2, 1) := by decide +kernel
theorem dX5_toneAt_2 : decode cX5_toneAt 2 = .ok (.iload_n 1, 1) := by decide +kernel
theorem dX5_toneAt_3 : decode cX5_toneAt 3 = .ok (.imul, 1) := by decide +kernel
theorem dX5_toneAt_4 : decode cX5_toneAt 4 = .ok (.invokevirtual 19, 3) := by decide +kernel
theorem dX5_toneAt_7 : decode cX5_toneAt 7 = .ok (.bipush 48, 2) := by decide +kernel
theorem dX5_toneAt_9 : decode cX5_toneAt 9 = .ok (.isub, 1) := by decide +kernel
theorem dX5_toneAt_10 : decode cX5_toneAt 10 = .ok (.bipush 10, 2) := by decide +kernel
theorem dX5_toneAt_12 : decode cX5_toneAt 12 = .ok (.imul, 1) := by decide +kernel
theorem dX5_toneAt_13 : decode cX5_toneAt 13 = .ok (.aload_n 0, 1) := by decide +kernel
theorem dX5_toneAt_14 : decode cX5_toneAt 14 = .ok (.iconst 2, 1) := by decide +kernel
theorem dX5_toneAt_15 : decode cX5_toneAt 15 = .ok (.iload_n 1, 1) := by decide +kernel
theorem dX5_toneAt_16 : decode cX5_toneAt 16 = .ok (.imul, 1) := by decide +kernel
theorem dX5_toneAt_17 : decode cX5_toneAt 17 = .ok (.iconst 1, 1) := by decide +kernel
theorem dX5_toneAt_18 : decode cX5_toneAt 18 = .ok (.iadd, 1) := by decide +kernel
theorem dX5_toneAt_19 : decode cX5_toneAt 19 = .ok (.invokevirtual 19, 3) := by decide +kernel
theorem dX5_toneAt_22 : decode cX5_toneAt 22 = .ok (.iadd, 1) := by decide +kernel
theorem dX5_toneAt_23 : decode cX5_toneAt 23 = .ok (.bipush 48, 2) := by decide +kernel
theorem dX5_toneAt_25 : decode cX5_toneAt 25 = .ok (.isub, 1) := by decide +kernel
theorem dX5_toneAt_26 : decode cX5_toneAt 26 = .ok (.ireturn, 1) := by decide +kernel
theorem dX6_fewestHooks_0 : decode cX6_fewestHooks 0 = .ok (.iload_n 1, 1) := by decide +kernel
theorem dX6_fewestHooks_1 : decode cX6_fewestHooks 1 = .ok (.iload_n 0, 1) := by decide +kernel
theorem dX6_fewestHooks_2 : decode cX6_fewestHooks 2 = .ok (.iconst 1, 1) := by decide +kernel
theorem dX6_fewestHooks_3 : decode cX6_fewestHooks 3 = .ok (.iadd, 1) := by decide +kernel
theorem dX6_fewestHooks_4 : decode cX6_fewestHooks 4 = .ok (.iushr, 1) := by decide +kernel
theorem dX6_fewestHooks_5 : decode cX6_fewestHooks 5 = .ok (.ifCond .eq 6, 3) := by decide +kernel
theorem dX6_fewestHooks_8 : decode cX6_fewestHooks 8 = .ok (.bipush (-6), 2) := by decide +kernel
theorem dX6_fewestHooks_10 : decode cX6_fewestHooks 10 = .ok (.ireturn, 1) := by decide +kernel
theorem dX6_fewestHooks_11 : decode cX6_fewestHooks 11 = .ok (.iconst 0, 1) := by decide +kernel
theorem dX6_fewestHooks_12 : decode cX6_fewestHooks 12 = .ok (.istore_n 2, 1) := by decide +kernel
theorem dX6_fewestHooks_13 : decode cX6_fewestHooks 13 = .ok (.iload_n 2, 1) := by decide +kernel
theorem dX6_fewestHooks_14 : decode cX6_fewestHooks 14 = .ok (.bipush 6, 2) := by decide +kernel
theorem dX6_fewestHooks_16 : decode cX6_fewestHooks 16 = .ok (.if_icmp .gt 45, 3) := by decide +kernel
theorem dX6_fewestHooks_19 : decode cX6_fewestHooks 19 = .ok (.iload_n 2, 1) := by decide +kernel
theorem dX6_fewestHooks_20 : decode cX6_fewestHooks 20 = .ok (.iload_n 0, 1) := by decide +kernel
theorem dX6_fewestHooks_21 : decode cX6_fewestHooks 21 = .ok (.if_icmp .ge 40, 3) := by decide +kernel
theorem dX6_fewestHooks_24 : decode cX6_fewestHooks 24 = .ok (.iload_n 2, 1) := by decide +kernel
theorem dX6_fewestHooks_25 : decode cX6_fewestHooks 25 = .ok (.iconst 2, 1) := by decide +kernel
theorem dX6_fewestHooks_26 : decode cX6_fewestHooks 26 = .ok (.iadd, 1) := by decide +kernel
theorem dX6_fewestHooks_27 : decode cX6_fewestHooks 27 = .ok (.iload_n 2, 1) := by decide +kernel
theorem dX6_fewestHooks_28 : decode cX6_fewestHooks 28 = .ok (.iconst 1, 1) := by decide +kernel
theorem dX6_fewestHooks_29 : decode cX6_fewestHooks 29 = .ok (.iadd, 1) := by decide +kernel
theorem dX6_fewestHooks_30 : decode cX6_fewestHooks 30 = .ok (.imul, 1) := by decide +kernel
theorem dX6_fewestHooks_31 : decode cX6_fewestHooks 31 = .ok (.iconst 2, 1) := by decide +kernel
theorem dX6_fewestHooks_32 : decode cX6_fewestHooks 32 = .ok (.idiv, 1) := by decide +kernel
theorem dX6_fewestHooks_33 : decode cX6_fewestHooks 33 = .ok (.iload_n 1, 1) := by decide +kernel
theorem dX6_fewestHooks_34 : decode cX6_fewestHooks 34 = .ok (.invokestatic 9, 3) := by decide +kernel
theorem dX6_fewestHooks_37 : decode cX6_fewestHooks 37 = .ok (.if_icmp .lt 18, 3) := by decide +kernel
theorem dX6_fewestHooks_40 : decode cX6_fewestHooks 40 = .ok (.iload_n 0, 1) := by decide +kernel
theorem dX6_fewestHooks_41 : decode cX6_fewestHooks 41 = .ok (.iload_n 1, 1) := by decide +kernel
theorem dX6_fewestHooks_42 : decode cX6_fewestHooks 42 = .ok (.iload_n 2, 1) := by decide +kernel
theorem dX6_fewestHooks_43 : decode cX6_fewestHooks 43 = .ok (.invokestatic 15, 3) := by decide +kernel
theorem dX6_fewestHooks_46 : decode cX6_fewestHooks 46 = .ok (.istore_n 3, 1) := by decide +kernel
theorem dX6_fewestHooks_47 : decode cX6_fewestHooks 47 = .ok (.iload_n 3, 1) := by decide +kernel
theorem dX6_fewestHooks_48 : decode cX6_fewestHooks 48 = .ok (.bipush (-6), 2) := by decide +kernel
theorem dX6_fewestHooks_50 : decode cX6_fewestHooks 50 = .ok (.if_icmp .eq 5, 3) := by decide +kernel
theorem dX6_fewestHooks_53 : decode cX6_fewestHooks 53 = .ok (.iload_n 3, 1) := by decide +kernel
theorem dX6_fewestHooks_54 : decode cX6_fewestHooks 54 = .ok (.ireturn, 1) := by decide +kernel
theorem dX6_fewestHooks_55 : decode cX6_fewestHooks 55 = .ok (.iinc 2 1, 3) := by decide +kernel
theorem dX6_fewestHooks_58 : decode cX6_fewestHooks 58 = .ok (.goto (-45), 3) := by decide +kernel
theorem dX6_fewestHooks_61 : decode cX6_fewestHooks 61 = .ok (.bipush (-6), 2) := by decide +kernel
theorem dX6_fewestHooks_63 : decode cX6_fewestHooks 63 = .ok (.ireturn, 1) := by decide +kernel
theorem dX6_leastPlaces_0 : decode cX6_leastPlaces 0 = .ok (.iconst 1, 1) := by decide +kernel
theorem dX6_leastPlaces_1 : decode cX6_leastPlaces 1 = .ok (.iload_n 2, 1) := by decide +kernel
theorem dX6_leastPlaces_2 : decode cX6_leastPlaces 2 = .ok (.ishl, 1) := by decide +kernel
theorem dX6_leastPlaces_3 : decode cX6_leastPlaces 3 = .ok (.iconst 1, 1) := by decide +kernel
theorem dX6_leastPlaces_4 : decode cX6_leastPlaces 4 = .ok (.isub, 1) := by decide +kernel
theorem dX6_leastPlaces_5 : decode cX6_leastPlaces 5 = .ok (.istore_n 3, 1) := by decide +kernel
theorem dX6_leastPlaces_6 : decode cX6_leastPlaces 6 = .ok (.iconst 1, 1) := by decide +kernel
theorem dX6_leastPlaces_7 : decode cX6_leastPlaces 7 = .ok (.iload_n 0, 1) := by decide +kernel
theorem dX6_leastPlaces_8 : decode cX6_leastPlaces 8 = .ok (.iconst 1, 1) := by decide +kernel
theorem dX6_leastPlaces_9 : decode cX6_leastPlaces 9 = .ok (.isub, 1) := by decide +kernel
theorem dX6_leastPlaces_10 : decode cX6_leastPlaces 10 = .ok (.ishl, 1) := by decide +kernel
theorem dX6_leastPlaces_11 : decode cX6_leastPlaces 11 = .ok (.istore 4, 2) := by decide +kernel
theorem dX6_leastPlaces_13 : decode cX6_leastPlaces 13 = .ok (.iconst 0, 1) := by decide +kernel
theorem dX6_leastPlaces_14 : decode cX6_leastPlaces 14 = .ok (.istore 5, 2) := by decide +kernel
theorem dX6_leastPlaces_16 : decode cX6_leastPlaces 16 = .ok (.iload 5, 2) := by decide +kernel
theorem dX6_leastPlaces_18 : decode cX6_leastPlaces 18 = .ok (.ldc 21, 2) := by decide +kernel
theorem dX6_leastPlaces_20 : decode cX6_leastPlaces 20 = .ok (.if_icmp .ge 51, 3) := by decide +kernel
theorem dX6_leastPlaces_23 : decode cX6_leastPlaces 23 = .ok (.iload_n 3, 1) := by decide +kernel
theorem dX6_leastPlaces_24 : decode cX6_leastPlaces 24 = .ok (.iload 4, 2) := by decide +kernel
theorem dX6_leastPlaces_26 : decode cX6_leastPlaces 26 = .ok (.if_icmp .ge 45, 3) := by decide +kernel
theorem dX6_leastPlaces_29 : decode cX6_leastPlaces 29 = .ok (.iload_n 3, 1) := by decide +kernel
theorem dX6_leastPlaces_30 : decode cX6_leastPlaces 30 = .ok (.iconst 1, 1) := by decide +kernel
theorem dX6_leastPlaces_31 : decode cX6_leastPlaces 31 = .ok (.ishl, 1) := by decide +kernel
theorem dX6_leastPlaces_32 : decode cX6_leastPlaces 32 = .ok (.istore 6, 2) := by decide +kernel
theorem dX6_leastPlaces_34 : decode cX6_leastPlaces 34 = .ok (.iload 6, 2) := by decide +kernel
theorem dX6_leastPlaces_36 : decode cX6_leastPlaces 36 = .ok (.iconst 1, 1) := by decide +kernel
theorem dX6_leastPlaces_37 : decode cX6_leastPlaces 37 = .ok (.ior, 1) := by decide +kernel
theorem dX6_leastPlaces_38 : decode cX6_leastPlaces 38 = .ok (.iconst 1, 1) := by decide +kernel
theorem dX6_leastPlaces_39 : decode cX6_leastPlaces 39 = .ok (.iload_n 0, 1) := by decide +kernel
theorem dX6_leastPlaces_40 : decode cX6_leastPlaces 40 = .ok (.ishl, 1) := by decide +kernel
theorem dX6_leastPlaces_41 : decode cX6_leastPlaces 41 = .ok (.ior, 1) := by decide +kernel
theorem dX6_leastPlaces_42 : decode cX6_leastPlaces 42 = .ok (.iload_n 1, 1) := by decide +kernel
theorem dX6_leastPlaces_43 : decode cX6_leastPlaces 43 = .ok (.iload_n 0, 1) := by decide +kernel
theorem dX6_leastPlaces_44 : decode cX6_leastPlaces 44 = .ok (.invokestatic 22, 3) := by decide +kernel
theorem dX6_leastPlaces_47 : decode cX6_leastPlaces 47 = .ok (.ifCond .eq 6, 3) := by decide +kernel
theorem dX6_leastPlaces_50 : decode cX6_leastPlaces 50 = .ok (.iload 6, 2) := by decide +kernel
theorem dX6_leastPlaces_52 : decode cX6_leastPlaces 52 = .ok (.ireturn, 1) := by decide +kernel
theorem dX6_leastPlaces_53 : decode cX6_leastPlaces 53 = .ok (.iload_n 3, 1) := by decide +kernel
theorem dX6_leastPlaces_54 : decode cX6_leastPlaces 54 = .ok (.ifCond .ne 6, 3) := by decide +kernel
theorem dX6_leastPlaces_57 : decode cX6_leastPlaces 57 = .ok (.bipush (-6), 2) := by decide +kernel
theorem dX6_leastPlaces_59 : decode cX6_leastPlaces 59 = .ok (.ireturn, 1) := by decide +kernel
theorem dX6_leastPlaces_60 : decode cX6_leastPlaces 60 = .ok (.iload_n 3, 1) := by decide +kernel
theorem dX6_leastPlaces_61 : decode cX6_leastPlaces 61 = .ok (.invokestatic 26, 3) := by decide +kernel
theorem dX6_leastPlaces_64 : decode cX6_leastPlaces 64 = .ok (.istore_n 3, 1) := by decide +kernel
theorem dX6_leastPlaces_65 : decode cX6_leastPlaces 65 = .ok (.iinc 5 1, 3) := by decide +kernel
theorem dX6_leastPlaces_68 : decode cX6_leastPlaces 68 = .ok (.goto (-52), 3) := by decide +kernel
theorem dX6_leastPlaces_71 : decode cX6_leastPlaces 71 = .ok (.bipush (-6), 2) := by decide +kernel
theorem dX6_leastPlaces_73 : decode cX6_leastPlaces 73 = .ok (.ireturn, 1) := by decide +kernel
theorem dX6_nextOfSameSize_0 : decode cX6_nextOfSameSize 0 = .ok (.iload_n 0, 1) := by decide +kernel
theorem dX6_nextOfSameSize_1 : decode cX6_nextOfSameSize 1 = .ok (.iload_n 0, 1) := by decide +kernel
theorem dX6_nextOfSameSize_2 : decode cX6_nextOfSameSize 2 = .ok (.ineg, 1) := by decide +kernel
theorem dX6_nextOfSameSize_3 : decode cX6_nextOfSameSize 3 = .ok (.iand, 1) := by decide +kernel
theorem dX6_nextOfSameSize_4 : decode cX6_nextOfSameSize 4 = .ok (.istore_n 1, 1) := by decide +kernel
theorem dX6_nextOfSameSize_5 : decode cX6_nextOfSameSize 5 = .ok (.iload_n 1, 1) := by decide +kernel
theorem dX6_nextOfSameSize_6 : decode cX6_nextOfSameSize 6 = .ok (.ifCond .ne 5, 3) := by decide +kernel
theorem dX6_nextOfSameSize_9 : decode cX6_nextOfSameSize 9 = .ok (.iconst 0, 1) := by decide +kernel
theorem dX6_nextOfSameSize_10 : decode cX6_nextOfSameSize 10 = .ok (.ireturn, 1) := by decide +kernel
