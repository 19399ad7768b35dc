theorem dX9_canBePlayed_37 : decode cX9_canBePlayed 37 = .ok (.aload_n 0, 1) := by decide +kernel
theorem dX9_canBePlayed_38 : decode cX9_canBePlayed 38 = .ok (.getfield 39, 3) := by decide +kernel
theorem dX9_canBePlayed_41 : decode cX9_canBePlayed 41 = .ok (.getfield 122, 3) := by decide +kernel
theorem dX9_canBePlayed_44 : decode cX9_canBePlayed 44 = .ok (.ifCond .ne 7, 3) := by decide +kernel
theorem dX9_canBePlayed_47 : decode cX9_canBePlayed 47 = .ok (.iconst 1, 1) := by decide +kernel
theorem dX9_canBePlayed_48 : decode cX9_canBePlayed 48 = .ok (.goto 4, 3) := by decide +kernel
theorem dX9_canBePlayed_51 : decode cX9_canBePlayed 51 = .ok (.iconst 0, 1) := by decide +kernel
theorem dX9_canBePlayed_52 : decode cX9_canBePlayed 52 = .ok (.ireturn, 1) := by decide +kernel
theorem dX9_differentLengths_0 : decode cX9_differentLengths 0 = .ok (.iconst 0, 1) := by decide +kernel
theorem dX9_differentLengths_1 : decode cX9_differentLengths 1 = .ok (.istore_n 1, 1) := by decide +kernel
theorem dX9_differentLengths_2 : decode cX9_differentLengths 2 = .ok (.iconst 0, 1) := by decide +kernel
theorem dX9_differentLengths_3 : decode cX9_differentLengths 3 = .ok (.istore_n 2, 1) := by decide +kernel
theorem dX9_differentLengths_4 : decode cX9_differentLengths 4 = .ok (.iload_n 2, 1) := by decide +kernel
theorem dX9_differentLengths_5 : decode cX9_differentLengths 5 = .ok (.aload_n 0, 1) := by decide +kernel
theorem dX9_differentLengths_6 : decode cX9_differentLengths 6 = .ok (.getfield 12, 3) := by decide +kernel
theorem dX9_differentLengths_9 : decode cX9_differentLengths 9 = .ok (.getfield 75, 3) := by decide +kernel
theorem dX9_differentLengths_12 : decode cX9_differentLengths 12 = .ok (.if_icmp .ge 20, 3) := by decide +kernel
theorem dX9_differentLengths_15 : decode cX9_differentLengths 15 = .ok (.aload_n 0, 1) := by decide +kernel
theorem dX9_differentLengths_16 : decode cX9_differentLengths 16 = .ok (.iload_n 2, 1) := by decide +kernel
theorem dX9_differentLengths_17 : decode cX9_differentLengths 17 = .ok (.invokevirtual 284, 3) := by decide +kernel
theorem dX9_differentLengths_20 : decode cX9_differentLengths 20 = .ok (.ifCond .ne 6, 3) := by decide +kernel
theorem dX9_differentLengths_23 : decode cX9_differentLengths 23 = .ok (.iinc 1 1, 3) := by decide +kernel
theorem dX9_differentLengths_26 : decode cX9_differentLengths 26 = .ok (.iinc 2 1, 3) := by decide +kernel
theorem dX9_differentLengths_29 : decode cX9_differentLengths 29 = .ok (.goto (-25), 3) := by decide +kernel
theorem dX9_differentLengths_32 : decode cX9_differentLengths 32 = .ok (.iload_n 1, 1) := by decide +kernel
theorem dX9_differentLengths_33 : decode cX9_differentLengths 33 = .ok (.ireturn, 1) := by decide +kernel
theorem dX9_isHeardAbove_0 : decode cX9_isHeardAbove 0 = .ok (.aload_n 0, 1) := by decide +kernel
theorem dX9_isHeardAbove_1 : decode cX9_isHeardAbove 1 = .ok (.getfield 12, 3) := by decide +kernel
theorem dX9_isHeardAbove_4 : decode cX9_isHeardAbove 4 = .ok (.iload_n 1, 1) := by decide +kernel
theorem dX9_isHeardAbove_5 : decode cX9_isHeardAbove 5 = .ok (.aload_n 0, 1) := by decide +kernel
theorem dX9_isHeardAbove_6 : decode cX9_isHeardAbove 6 = .ok (.getfield 12, 3) := by decide +kernel
theorem dX9_isHeardAbove_9 : decode cX9_isHeardAbove 9 = .ok (.getfield 135, 3) := by decide +kernel
theorem dX9_isHeardAbove_12 : decode cX9_isHeardAbove 12 = .ok (.invokevirtual 141, 3) := by decide +kernel
theorem dX9_isHeardAbove_15 : decode cX9_isHeardAbove 15 = .ok (.istore_n 2, 1) := by decide +kernel
theorem dX9_isHeardAbove_16 : decode cX9_isHeardAbove 16 = .ok (.iconst 0, 1) := by decide +kernel
theorem dX9_isHeardAbove_17 : decode cX9_isHeardAbove 17 = .ok (.istore_n 3, 1) := by decide +kernel
theorem dX9_isHeardAbove_18 : decode cX9_isHeardAbove 18 = .ok (.iload_n 3, 1) := by decide +kernel
theorem dX9_isHeardAbove_19 : decode cX9_isHeardAbove 19 = .ok (.iload_n 1, 1) := by decide +kernel
theorem dX9_isHeardAbove_20 : decode cX9_isHeardAbove 20 = .ok (.if_icmp .ge 30, 3) := by decide +kernel
theorem dX9_isHeardAbove_23 : decode cX9_isHeardAbove 23 = .ok (.aload_n 0, 1) := by decide +kernel
theorem dX9_isHeardAbove_24 : decode cX9_isHeardAbove 24 = .ok (.getfield 12, 3) := by decide +kernel
theorem dX9_isHeardAbove_27 : decode cX9_isHeardAbove 27 = .ok (.iload_n 3, 1) := by decide +kernel
theorem dX9_isHeardAbove_28 : decode cX9_isHeardAbove 28 = .ok (.aload_n 0, 1) := by decide +kernel
theorem dX9_isHeardAbove_29 : decode cX9_isHeardAbove 29 = .ok (.getfield 12, 3) := by decide +kernel
theorem dX9_isHeardAbove_32 : decode cX9_isHeardAbove 32 = .ok (.getfield 135, 3) := by decide +kernel
theorem dX9_isHeardAbove_35 : decode cX9_isHeardAbove 35 = .ok (.invokevirtual 141, 3) := by decide +kernel
theorem dX9_isHeardAbove_38 : decode cX9_isHeardAbove 38 = .ok (.iload_n 2, 1) := by decide +kernel
theorem dX9_isHeardAbove_39 : decode cX9_isHeardAbove 39 = .ok (.if_icmp .ne 5, 3) := by decide +kernel
theorem dX9_isHeardAbove_42 : decode cX9_isHeardAbove 42 = .ok (.iconst 1, 1) := by decide +kernel
theorem dX9_isHeardAbove_43 : decode cX9_isHeardAbove 43 = .ok (.ireturn, 1) := by decide +kernel
theorem dX9_isHeardAbove_44 : decode cX9_isHeardAbove 44 = .ok (.iinc 3 1, 3) := by decide +kernel
theorem dX9_isHeardAbove_47 : decode cX9_isHeardAbove 47 = .ok (.goto (-29), 3) := by decide +kernel
theorem dX9_isHeardAbove_50 : decode cX9_isHeardAbove 50 = .ok (.iconst 0, 1) := by decide +kernel
theorem dX9_isHeardAbove_51 : decode cX9_isHeardAbove 51 = .ok (.ireturn, 1) := by decide +kernel
theorem dX9_hearersOfLongest_0 : decode cX9_hearersOfLongest 0 = .ok (.iconst 0, 1) := by decide +kernel
theorem dX9_hearersOfLongest_1 : decode cX9_hearersOfLongest 1 = .ok (.istore_n 1, 1) := by decide +kernel
theorem dX9_hearersOfLongest_2 : decode cX9_hearersOfLongest 2 = .ok (.iconst 0, 1) := by decide +kernel
theorem dX9_hearersOfLongest_3 : decode cX9_hearersOfLongest 3 = .ok (.istore_n 2, 1) := by decide +kernel
theorem dX9_hearersOfLongest_4 : decode cX9_hearersOfLongest 4 = .ok (.iconst 0, 1) := by decide +kernel
theorem dX9_hearersOfLongest_5 : decode cX9_hearersOfLongest 5 = .ok (.istore_n 3, 1) := by decide +kernel
theorem dX9_hearersOfLongest_6 : decode cX9_hearersOfLongest 6 = .ok (.iload_n 3, 1) := by decide +kernel
theorem dX9_hearersOfLongest_7 : decode cX9_hearersOfLongest 7 = .ok (.aload_n 0, 1) := by decide +kernel
theorem dX9_hearersOfLongest_8 : decode cX9_hearersOfLongest 8 = .ok (.getfield 12, 3) := by decide +kernel
theorem dX9_hearersOfLongest_11 : decode cX9_hearersOfLongest 11 = .ok (.getfield 75, 3) := by decide +kernel
theorem dX9_hearersOfLongest_14 : decode cX9_hearersOfLongest 14 = .ok (.if_icmp .ge 46, 3) := by decide +kernel
theorem dX9_hearersOfLongest_17 : decode cX9_hearersOfLongest 17 = .ok (.aload_n 0, 1) := by decide +kernel
theorem dX9_hearersOfLongest_18 : decode cX9_hearersOfLongest 18 = .ok (.getfield 12, 3) := by decide +kernel
theorem dX9_hearersOfLongest_21 : decode cX9_hearersOfLongest 21 = .ok (.iload_n 3, 1) := by decide +kernel
theorem dX9_hearersOfLongest_22 : decode cX9_hearersOfLongest 22 = .ok (.aload_n 0, 1) := by decide +kernel
theorem dX9_hearersOfLongest_23 : decode cX9_hearersOfLongest 23 = .ok (.getfield 12, 3) := by decide +kernel
theorem dX9_hearersOfLongest_26 : decode cX9_hearersOfLongest 26 = .ok (.getfield 135, 3) := by decide +kernel
theorem dX9_hearersOfLongest_29 : decode cX9_hearersOfLongest 29 = .ok (.invokevirtual 141, 3) := by decide +kernel
theorem dX9_hearersOfLongest_32 : decode cX9_hearersOfLongest 32 = .ok (.istore 4, 2) := by decide +kernel
theorem dX9_hearersOfLongest_34 : decode cX9_hearersOfLongest 34 = .ok (.iload 4, 2) := by decide +kernel
theorem dX9_hearersOfLongest_36 : decode cX9_hearersOfLongest 36 = .ok (.iload_n 1, 1) := by decide +kernel
theorem dX9_hearersOfLongest_37 : decode cX9_hearersOfLongest 37 = .ok (.if_icmp .le 8, 3) := by decide +kernel
theorem dX9_hearersOfLongest_40 : decode cX9_hearersOfLongest 40 = .ok (.iload 4, 2) := by decide +kernel
theorem dX9_hearersOfLongest_42 : decode cX9_hearersOfLongest 42 = .ok (.istore_n 1, 1) := by decide +kernel
theorem dX9_hearersOfLongest_43 : decode cX9_hearersOfLongest 43 = .ok (.iconst 0, 1) := by decide +kernel
theorem dX9_hearersOfLongest_44 : decode cX9_hearersOfLongest 44 = .ok (.istore_n 2, 1) := by decide +kernel
theorem dX9_hearersOfLongest_45 : decode cX9_hearersOfLongest 45 = .ok (.iload 4, 2) := by decide +kernel
theorem dX9_hearersOfLongest_47 : decode cX9_hearersOfLongest 47 = .ok (.iload_n 1, 1) := by decide +kernel
theorem dX9_hearersOfLongest_48 : decode cX9_hearersOfLongest 48 = .ok (.if_icmp .ne 6, 3) := by decide +kernel
theorem dX9_hearersOfLongest_51 : decode cX9_hearersOfLongest 51 = .ok (.iinc 2 1, 3) := by decide +kernel
theorem dX9_hearersOfLongest_54 : decode cX9_hearersOfLongest 54 = .ok (.iinc 3 1, 3) := by decide +kernel
theorem dX9_hearersOfLongest_57 : decode cX9_hearersOfLongest 57 = .ok (.goto (-51), 3) := by decide +kernel
theorem dX9_hearersOfLongest_60 : decode cX9_hearersOfLongest 60 = .ok (.iload_n 2, 1) := by decide +kernel
theorem dX9_hearersOfLongest_61 : decode cX9_hearersOfLongest 61 = .ok (.ireturn, 1) := by decide +kernel
theorem dX9_gainsByOwnFinger_0 : decode cX9_gainsByOwnFinger 0 = .ok (.aload_n 0, 1) := by decide +kernel
theorem dX9_gainsByOwnFinger_1 : decode cX9_gainsByOwnFinger 1 = .ok (.getfield 12, 3) := by decide +kernel
theorem dX9_gainsByOwnFinger_4 : decode cX9_gainsByOwnFinger 4 = .ok (.getfield 135, 3) := by decide +kernel
theorem dX9_gainsByOwnFinger_7 : decode cX9_gainsByOwnFinger 7 = .ok (.iconst 1, 1) := by decide +kernel
theorem dX9_gainsByOwnFinger_8 : decode cX9_gainsByOwnFinger 8 = .ok (.iload_n 1, 1) := by decide +kernel
theorem dX9_gainsByOwnFinger_9 : decode cX9_gainsByOwnFinger 9 = .ok (.ishl, 1) := by decide +kernel
theorem dX9_gainsByOwnFinger_10 : decode cX9_gainsByOwnFinger 10 = .ok (.ixor, 1) := by decide +kernel
theorem dX9_gainsByOwnFinger_11 : decode cX9_gainsByOwnFinger 11 = .ok (.istore_n 2, 1) := by decide +kernel
theorem dX9_gainsByOwnFinger_12 : decode cX9_gainsByOwnFinger 12 = .ok (.aload_n 0, 1) := by decide +kernel
theorem dX9_gainsByOwnFinger_13 : decode cX9_gainsByOwnFinger 13 = .ok (.getfield 12, 3) := by decide +kernel
theorem dX9_gainsByOwnFinger_16 : decode cX9_gainsByOwnFinger 16 = .ok (.iload_n 2, 1) := by decide +kernel
theorem dX9_gainsByOwnFinger_17 : decode cX9_gainsByOwnFinger 17 = .ok (.invokevirtual 287, 3) := by decide +kernel
theorem dX9_gainsByOwnFinger_20 : decode cX9_gainsByOwnFinger 20 = .ok (.ifCond .ne 5, 3) := by decide +kernel
theorem dX9_gainsByOwnFinger_23 : decode cX9_gainsByOwnFinger 23 = .ok (.iconst 0, 1) := by decide +kernel
theorem dX9_gainsByOwnFinger_24 : decode cX9_gainsByOwnFinger 24 = .ok (.ireturn, 1) := by decide +kernel
theorem dX9_gainsByOwnFinger_25 : decode cX9_gainsByOwnFinger 25 = .ok (.aload_n 0, 1) := by decide +kernel
theorem dX9_gainsByOwnFinger_26 : decode cX9_gainsByOwnFinger 26 = .ok (.getfield 12, 3) := by decide +kernel
theorem dX9_gainsByOwnFinger_29 : decode cX9_gainsByOwnFinger 29 = .ok (.iload_n 1, 1) := by decide +kernel
theorem dX9_gainsByOwnFinger_30 : decode cX9_gainsByOwnFinger 30 = .ok (.aload_n 0, 1) := by decide +kernel
theorem dX9_gainsByOwnFinger_31 : decode cX9_gainsByOwnFinger 31 = .ok (.getfield 12, 3) := by decide +kernel
theorem dX9_gainsByOwnFinger_34 : decode cX9_gainsByOwnFinger 34 = .ok (.getfield 135, 3) := by decide +kernel
theorem dX9_gainsByOwnFinger_37 : decode cX9_gainsByOwnFinger 37 = .ok (.invokevirtual 141, 3) := by decide +kernel
theorem dX9_gainsByOwnFinger_40 : decode cX9_gainsByOwnFinger 40 = .ok (.istore_n 3, 1) := by decide +kernel
theorem dX9_gainsByOwnFinger_41 : decode cX9_gainsByOwnFinger 41 = .ok (.aload_n 0, 1) := by decide +kernel
theorem dX9_gainsByOwnFinger_42 : decode cX9_gainsByOwnFinger 42 = .ok (.getfield 12, 3) := by decide +kernel
theorem dX9_gainsByOwnFinger_45 : decode cX9_gainsByOwnFinger 45 = .ok (.aload_n 0, 1) := by decide +kernel
theorem dX9_gainsByOwnFinger_46 : decode cX9_gainsByOwnFinger 46 = .ok (.getfield 12, 3) := by decide +kernel
theorem dX9_gainsByOwnFinger_49 : decode cX9_gainsByOwnFinger 49 = .ok (.iload_n 1, 1) := by decide +kernel
theorem dX9_gainsByOwnFinger_50 : decode cX9_gainsByOwnFinger 50 = .ok (.iload_n 2, 1) := by decide +kernel
theorem dX9_gainsByOwnFinger_51 : decode cX9_gainsByOwnFinger 51 = .ok (.invokevirtual 141, 3) := by decide +kernel
theorem dX9_gainsByOwnFinger_54 : decode cX9_gainsByOwnFinger 54 = .ok (.invokevirtual 290, 3) := by decide +kernel
theorem dX9_gainsByOwnFinger_57 : decode cX9_gainsByOwnFinger 57 = .ok (.aload_n 0, 1) := by decide +kernel
theorem dX9_gainsByOwnFinger_58 : decode cX9_gainsByOwnFinger 58 = .ok (.getfield 12, 3) := by decide +kernel
theorem dX9_gainsByOwnFinger_61 : decode cX9_gainsByOwnFinger 61 = .ok (.iload_n 3, 1) := by decide +kernel
theorem dX9_gainsByOwnFinger_62 : decode cX9_gainsByOwnFinger 62 = .ok (.invokevirtual 290, 3) := by decide +kernel
theorem dX9_gainsByOwnFinger_65 : decode cX9_gainsByOwnFinger 65 = .ok (.if_icmp .le 7, 3) := by decide +kernel
theorem dX9_gainsByOwnFinger_68 : decode cX9_gainsByOwnFinger 68 = .ok (.iconst 1, 1) := by decide +kernel
theorem dX9_gainsByOwnFinger_69 : decode cX9_gainsByOwnFinger 69 = .ok (.goto 4, 3) := by decide +kernel
theorem dX9_gainsByOwnFinger_72 : decode cX9_gainsByOwnFinger 72 = .ok (.iconst 0, 1) := by decide +kernel
theorem dX9_gainsByOwnFinger_73 : decode cX9_gainsByOwnFinger 73 = .ok (.ireturn, 1) := by decide +kernel
theorem dX9_sizeOrSet_0 : decode cX9_sizeOrSet 0 = .ok (.iload_n 0, 1) := by decide +kernel
theorem dX9_sizeOrSet_1 : decode cX9_sizeOrSet 1 = .ok (.bipush (-6), 2) := by decide +kernel
theorem dX9_sizeOrSet_3 : decode cX9_sizeOrSet 3 = .ok (.if_icmp .ne 6, 3) := by decide +kernel
theorem dX9_sizeOrSet_6 : decode cX9_sizeOrSet 6 = .ok (.bipush (-6), 2) := by decide +kernel
theorem dX9_sizeOrSet_8 : decode cX9_sizeOrSet 8 = .ok (.ireturn, 1) := by decide +kernel
theorem dX9_sizeOrSet_9 : decode cX9_sizeOrSet 9 = .ok (.iload_n 1, 1) := by decide +kernel
theorem dX9_sizeOrSet_10 : decode cX9_sizeOrSet 10 = .ok (.ifCond .ne 10, 3) := by decide +kernel
theorem dX9_sizeOrSet_13 : decode cX9_sizeOrSet 13 = .ok (.iload_n 0, 1) := by decide +kernel
theorem dX9_sizeOrSet_14 : decode cX9_sizeOrSet 14 = .ok (.invokestatic 293, 3) := by decide +kernel
theorem dX9_sizeOrSet_17 : decode cX9_sizeOrSet 17 = .ok (.goto 4, 3) := by decide +kernel
theorem dX9_sizeOrSet_20 : decode cX9_sizeOrSet 20 = .ok (.iload_n 0, 1) := by decide +kernel
theorem dX9_sizeOrSet_21 : decode cX9_sizeOrSet 21 = .ok (.ireturn, 1) := by decide +kernel
theorem dX9_lowestTerms_0 : decode cX9_lowestTerms 0 = .ok (.lload_n 0, 1) := by decide +kernel
theorem dX9_lowestTerms_1 : decode cX9_lowestTerms 1 = .ok (.lload_n 2, 1) := by decide +kernel
theorem dX9_lowestTerms_2 : decode cX9_lowestTerms 2 = .ok (.invokestatic 298, 3) := by decide +kernel
theorem dX9_lowestTerms_5 : decode cX9_lowestTerms 5 = .ok (.lstore 5, 2) := by decide +kernel
theorem dX9_lowestTerms_7 : decode cX9_lowestTerms 7 = .ok (.iload 4, 2) := by decide +kernel
theorem dX9_lowestTerms_9 : decode cX9_lowestTerms 9 = .ok (.ifCond .ne 7, 3) := by decide +kernel
theorem dX9_lowestTerms_12 : decode cX9_lowestTerms 12 = .ok (.lload_n 0, 1) := by decide +kernel
theorem dX9_lowestTerms_13 : decode cX9_lowestTerms 13 = .ok (.goto 4, 3) := by decide +kernel
theorem dX9_lowestTerms_16 : decode cX9_lowestTerms 16 = .ok (.lload_n 2, 1) := by decide +kernel
theorem dX9_lowestTerms_17 : decode cX9_lowestTerms 17 = .ok (.lstore 7, 2) := by decide +kernel
theorem dX9_lowestTerms_19 : decode cX9_lowestTerms 19 = .ok (.lload 5, 2) := by decide +kernel
theorem dX9_lowestTerms_21 : decode cX9_lowestTerms 21 = .ok (.lconst 1, 1) := by decide +kernel
theorem dX9_lowestTerms_22 : decode cX9_lowestTerms 22 = .ok (.lcmp, 1) := by decide +kernel
theorem dX9_lowestTerms_23 : decode cX9_lowestTerms 23 = .ok (.ifCond .ge 8, 3) := by decide +kernel
theorem dX9_lowestTerms_26 : decode cX9_lowestTerms 26 = .ok (.lload 7, 2) := by decide +kernel
theorem dX9_lowestTerms_28 : decode cX9_lowestTerms 28 = .ok (.goto 8, 3) := by decide +kernel
theorem dX9_lowestTerms_31 : decode cX9_lowestTerms 31 = .ok (.lload 7, 2) := by decide +kernel
theorem dX9_lowestTerms_33 : decode cX9_lowestTerms 33 = .ok (.lload 5, 2) := by decide +kernel
theorem dX9_lowestTerms_35 : decode cX9_lowestTerms 35 = .ok (.ldiv, 1) := by decide +kernel
theorem dX9_lowestTerms_36 : decode cX9_lowestTerms 36 = .ok (.lreturn, 1) := by decide +kernel
theorem dX9_commonDivisor_0 : decode cX9_commonDivisor 0 = .ok (.lload_n 0, 1) := by decide +kernel
theorem dX9_commonDivisor_1 : decode cX9_commonDivisor 1 = .ok (.lstore 4, 2) := by decide +kernel
theorem dX9_commonDivisor_3 : decode cX9_commonDivisor 3 = .ok (.lload_n 2, 1) := by decide +kernel
theorem dX9_commonDivisor_4 : decode cX9_commonDivisor 4 = .ok (.lstore 6, 2) := by decide +kernel
theorem dX9_commonDivisor_6 : decode cX9_commonDivisor 6 = .ok (.iconst 0, 1) := by decide +kernel
theorem dX9_commonDivisor_7 : decode cX9_commonDivisor 7 = .ok (.istore 8, 2) := by decide +kernel
theorem dX9_commonDivisor_9 : decode cX9_commonDivisor 9 = .ok (.iload 8, 2) := by decide +kernel
theorem dX9_commonDivisor_11 : decode cX9_commonDivisor 11 = .ok (.sipush 200, 3) := by decide +kernel
theorem dX9_commonDivisor_14 : decode cX9_commonDivisor 14 = .ok (.if_icmp .ge 31, 3) := by decide +kernel
theorem dX9_commonDivisor_17 : decode cX9_commonDivisor 17 = .ok (.lload 6, 2) := by decide +kernel
theorem dX9_commonDivisor_19 : decode cX9_commonDivisor 19 = .ok (.lconst 0, 1) := by decide +kernel
theorem dX9_commonDivisor_20 : decode cX9_commonDivisor 20 = .ok (.lcmp, 1) := by decide +kernel
theorem dX9_commonDivisor_21 : decode cX9_commonDivisor 21 = .ok (.ifCond .eq 24, 3) := by decide +kernel
theorem dX9_commonDivisor_24 : decode cX9_commonDivisor 24 = .ok (.lload 4, 2) := by decide +kernel
theorem dX9_commonDivisor_26 : decode cX9_commonDivisor 26 = .ok (.lload 6, 2) := by decide +kernel
theorem dX9_commonDivisor_28 : decode cX9_commonDivisor 28 = .ok (.lrem, 1) := by decide +kernel
theorem dX9_commonDivisor_29 : decode cX9_commonDivisor 29 = .ok (.lstore 9, 2) := by decide +kernel
theorem dX9_commonDivisor_31 : decode cX9_commonDivisor 31 = .ok (.lload 6, 2) := by decide +kernel
theorem dX9_commonDivisor_33 : decode cX9_commonDivisor 33 = .ok (.lstore 4, 2) := by decide +kernel
theorem dX9_commonDivisor_35 : decode cX9_commonDivisor 35 = .ok (.lload 9, 2) := by decide +kernel
theorem dX9_commonDivisor_37 : decode cX9_commonDivisor 37 = .ok (.lstore 6, 2) := by decide +kernel
theorem dX9_commonDivisor_39 : decode cX9_commonDivisor 39 = .ok (.iinc 8 1, 3) := by decide +kernel
theorem dX9_commonDivisor_42 : decode cX9_commonDivisor 42 = .ok (.goto (-33), 3) := by decide +kernel
theorem dX9_commonDivisor_45 : decode cX9_commonDivisor 45 = .ok (.lload 4, 2) := by decide +kernel
theorem dX9_commonDivisor_47 : decode cX9_commonDivisor 47 = .ok (.lreturn, 1) := by decide +kernel
theorem dX10_init_0 : decode cX10_init 0 = .ok (.aload_n 0, 1) := by decide +kernel
theorem dX10_init_1 : decode cX10_init 1 = .ok (.invokespecial 1, 3) := by decide +kernel
theorem dX10_init_4 : decode cX10_init 4 = .ok (.aload_n 0, 1) := by decide +kernel
theorem dX10_init_5 : decode cX10_init 5 = .ok (.bipush 6, 2) := by decide +kernel
theorem dX10_init_7 : decode cX10_init 7 = .ok (.putfield 7, 3) := by decide +kernel
theorem dX10_init_10 : decode cX10_init 10 = .ok (.aload_n 0, 1) := by decide +kernel
theorem dX10_init_11 : decode cX10_init 11 = .ok (.bipush 10, 2) := by decide +kernel
theorem dX10_init_13 : decode cX10_init 13 = .ok (.newarray .int, 2) := by decide +kernel
theorem dX10_init_15 : decode cX10_init 15 = .ok (.putfield 13, 3) := by decide +kernel
theorem dX10_init_18 : decode cX10_init 18 = .ok (.aload_n 0, 1) := by decide +kernel
theorem dX10_init_19 : decode cX10_init 19 = .ok (.iconst 2, 1) := by decide +kernel
theorem dX10_init_20 : decode cX10_init 20 = .ok (.putfield 17, 3) := by decide +kernel
theorem dX10_init_23 : decode cX10_init 23 = .ok (.aload_n 0, 1) := by decide +kernel
theorem dX10_init_24 : decode cX10_init 24 = .ok (.iconst 4, 1) := by decide +kernel
theorem dX10_init_25 : decode cX10_init 25 = .ok (.putfield 20, 3) := by decide +kernel
theorem dX10_init_28 : decode cX10_init 28 = .ok (.aload_n 0, 1) := by decide +kernel
theorem dX10_init_29 : decode cX10_init 29 = .ok (.iconst 1, 1) := by decide +kernel
theorem dX10_init_30 : decode cX10_init 30 = .ok (.putfield 23, 3) := by decide +kernel
theorem dX10_init_33 : decode cX10_init 33 = .ok (.aload_n 0, 1) := by decide +kernel
theorem dX10_init_34 : decode cX10_init 34 = .ok (.bipush 10, 2) := by decide +kernel
theorem dX10_init_36 : decode cX10_init 36 = .ok (.newarray .int, 2) := by decide +kernel
theorem dX10_init_38 : decode cX10_init 38 = .ok (.putfield 26, 3) := by decide +kernel
theorem dX10_init_41 : decode cX10_init 41 = .ok (.aload_n 0, 1) := by decide +kernel
theorem dX10_init_42 : decode cX10_init 42 = .ok (.bipush 16, 2) := by decide +kernel
theorem dX10_init_44 : decode cX10_init 44 = .ok (.newarray .int, 2) := by decide +kernel
theorem dX10_init_46 : decode cX10_init 46 = .ok (.putfield 29, 3) := by decide +kernel
theorem dX10_init_49 : decode cX10_init 49 = .ok (.aload_n 0, 1) := by decide +kernel
theorem dX10_init_50 : decode cX10_init 50 = .ok (.bipush 60, 2) := by decide +kernel
theorem dX10_init_52 : decode cX10_init 52 = .ok (.newarray .int, 2) := by decide +kernel
theorem dX10_init_54 : decode cX10_init 54 = .ok (.putfield 32, 3) := by decide +kernel
theorem dX10_init_57 : decode cX10_init 57 = .ok (.aload_n 0, 1) := by decide +kernel
theorem dX10_init_58 : decode cX10_init 58 = .ok (.sipush 1024, 3) := by decide +kernel
theorem dX10_init_61 : decode cX10_init 61 = .ok (.newarray .int, 2) := by decide +kernel
theorem dX10_init_63 : decode cX10_init 63 = .ok (.putfield 35, 3) := by decide +kernel
theorem dX10_init_66 : decode cX10_init 66 = .ok (.aload_n 0, 1) := by decide +kernel
theorem dX10_init_67 : decode cX10_init 67 = .ok (.sipush 1024, 3) := by decide +kernel
theorem dX10_init_70 : decode cX10_init 70 = .ok (.newarray .int, 2) := by decide +kernel
theorem dX10_init_72 : decode cX10_init 72 = .ok (.putfield 38, 3) := by decide +kernel
theorem dX10_init_75 : decode cX10_init 75 = .ok (.aload_n 0, 1) := by decide +kernel
theorem dX10_init_76 : decode cX10_init 76 = .ok (.sipush 200, 3) := by decide +kernel
theorem dX10_init_79 : decode cX10_init 79 = .ok (.newarray .int, 2) := by decide +kernel
theorem dX10_init_81 : decode cX10_init 81 = .ok (.putfield 41, 3) := by decide +kernel
theorem dX10_init_84 : decode cX10_init 84 = .ok (.aload_n 0, 1) := by decide +kernel
theorem dX10_init_85 : decode cX10_init 85 = .ok (.sipush 1024, 3) := by decide +kernel
theorem dX10_init_88 : decode cX10_init 88 = .ok (.newarray .int, 2) := by decide +kernel
theorem dX10_init_90 : decode cX10_init 90 = .ok (.putfield 44, 3) := by decide +kernel
theorem dX10_init_93 : decode cX10_init 93 = .ok (.aload_n 0, 1) := by decide +kernel
theorem dX10_init_94 : decode cX10_init 94 = .ok (.sipush 1024, 3) := by decide +kernel
theorem dX10_init_97 : decode cX10_init 97 = .ok (.newarray .boolean, 2) := by decide +kernel
theorem dX10_init_99 : decode cX10_init 99 = .ok (.putfield 47, 3) := by decide +kernel
theorem dX10_init_102 : decode cX10_init 102 = .ok (.aload_n 0, 1) := by decide +kernel
theorem dX10_init_103 : decode cX10_init 103 = .ok (.bipush 100, 2) := by decide +kernel
theorem dX10_init_105 : decode cX10_init 105 = .ok (.newarray .int, 2) := by decide +kernel
theorem dX10_init_107 : decode cX10_init 107 = .ok (.putfield 51, 3) := by decide +kernel
theorem dX10_init_110 : decode cX10_init 110 = .ok (.aload_n 0, 1) := by decide +kernel
theorem dX10_init_111 : decode cX10_init 111 = .ok (.iconst 2, 1) := by decide +kernel
theorem dX10_init_112 : decode cX10_init 112 = .ok (.newarray .boolean, 2) := by decide +kernel
theorem dX10_init_114 : decode cX10_init 114 = .ok (.putfield 54, 3) := by decide +kernel
theorem dX10_init_117 : decode cX10_init 117 = .ok (.aload_n 0, 1) := by decide +kernel
theorem dX10_init_118 : decode cX10_init 118 = .ok (.invokevirtual 57, 3) := by decide +kernel
theorem dX10_init_121 : decode cX10_init 121 = .ok (.return_, 1) := by decide +kernel
theorem dX10_clear_0 : decode cX10_clear 0 = .ok (.aload_n 0, 1) := by decide +kernel
theorem dX10_clear_1 : decode cX10_clear 1 = .ok (.iconst 2, 1) := by decide +kernel
theorem dX10_clear_2 : decode cX10_clear 2 = .ok (.putfield 17, 3) := by decide +kernel
theorem dX10_clear_5 : decode cX10_clear 5 = .ok (.aload_n 0, 1) := by decide +kernel
theorem dX10_clear_6 : decode cX10_clear 6 = .ok (.iconst 0, 1) := by decide +kernel
theorem dX10_clear_7 : decode cX10_clear 7 = .ok (.putfield 60, 3) := by decide +kernel
theorem dX10_clear_10 : decode cX10_clear 10 = .ok (.aload_n 0, 1) := by decide +kernel
theorem dX10_clear_11 : decode cX10_clear 11 = .ok (.iconst 0, 1) := by decide +kernel
theorem dX10_clear_12 : decode cX10_clear 12 = .ok (.putfield 63, 3) := by decide +kernel
theorem dX10_clear_15 : decode cX10_clear 15 = .ok (.aload_n 0, 1) := by decide +kernel
theorem dX10_clear_16 : decode cX10_clear 16 = .ok (.iconst 0, 1) := by decide +kernel
theorem dX10_clear_17 : decode cX10_clear 17 = .ok (.putfield 66, 3) := by decide +kernel
theorem dX10_clear_20 : decode cX10_clear 20 = .ok (.iconst 0, 1) := by decide +kernel
theorem dX10_clear_21 : decode cX10_clear 21 = .ok (.istore_n 1, 1) := by decide +kernel
theorem dX10_clear_22 : decode cX10_clear 22 = .ok (.iload_n 1, 1) := by decide +kernel
theorem dX10_clear_23 : decode cX10_clear 23 = .ok (.bipush 10, 2) := by decide +kernel
theorem dX10_clear_25 : decode cX10_clear 25 = .ok (.if_icmp .ge 23, 3) := by decide +kernel
theorem dX10_clear_28 : decode cX10_clear 28 = .ok (.aload_n 0, 1) := by decide +kernel
theorem dX10_clear_29 : decode cX10_clear 29 = .ok (.getfield 13, 3) := by decide +kernel
theorem dX10_clear_32 : decode cX10_clear 32 = .ok (.iload_n 1, 1) := by decide +kernel
theorem dX10_clear_33 : decode cX10_clear 33 = .ok (.iconst 2, 1) := by decide +kernel
theorem dX10_clear_34 : decode cX10_clear 34 = .ok (.iastore, 1) := by decide +kernel
theorem dX10_clear_35 : decode cX10_clear 35 = .ok (.aload_n 0, 1) := by decide +kernel
theorem dX10_clear_36 : decode cX10_clear 36 = .ok (.getfield 26, 3) := by decide +kernel
theorem dX10_clear_39 : decode cX10_clear 39 = .ok (.iload_n 1, 1) := by decide +kernel
theorem dX10_clear_40 : decode cX10_clear 40 = .ok (.iconst 0, 1) := by decide +kernel
theorem dX10_clear_41 : decode cX10_clear 41 = .ok (.iastore, 1) := by decide +kernel
theorem dX10_clear_42 : decode cX10_clear 42 = .ok (.iinc 1 1, 3) := by decide +kernel
theorem dX10_clear_45 : decode cX10_clear 45 = .ok (.goto (-23), 3) := by decide +kernel
theorem dX10_clear_48 : decode cX10_clear 48 = .ok (.return_, 1) := by decide +kernel
theorem dX10_in_0 : decode cX10_in 0 = .ok (.iload_n 0, 1) := by decide +kernel
theorem dX10_in_1 : decode cX10_in 1 = .ok (.iload_n 1, 1) := by decide +kernel
theorem dX10_in_2 : decode cX10_in 2 = .ok (.if_icmp .lt 12, 3) := by decide +kernel
theorem dX10_in_5 : decode cX10_in 5 = .ok (.iload_n 0, 1) := by decide +kernel
theorem dX10_in_6 : decode cX10_in 6 = .ok (.iload_n 2, 1) := by decide +kernel
theorem dX10_in_7 : decode cX10_in 7 = .ok (.if_icmp .gt 7, 3) := by decide +kernel
theorem dX10_in_10 : decode cX10_in 10 = .ok (.iconst 1, 1) := by decide +kernel
theorem dX10_in_11 : decode cX10_in 11 = .ok (.goto 4, 3) := by decide +kernel
theorem dX10_in_14 : decode cX10_in 14 = .ok (.iconst 0, 1) := by decide +kernel
theorem dX10_in_15 : decode cX10_in 15 = .ok (.ireturn, 1) := by decide +kernel
theorem dX10_has_0 : decode cX10_has 0 = .ok (.iload_n 0, 1) := by decide +kernel
theorem dX10_has_1 : decode cX10_has 1 = .ok (.iload_n 1, 1) := by decide +kernel
theorem dX10_has_2 : decode cX10_has 2 = .ok (.ishr, 1) := by decide +kernel
theorem dX10_has_3 : decode cX10_has 3 = .ok (.iconst 1, 1) := by decide +kernel
theorem dX10_has_4 : decode cX10_has 4 = .ok (.iand, 1) := by decide +kernel
theorem dX10_has_5 : decode cX10_has 5 = .ok (.iconst 1, 1) := by decide +kernel
theorem dX10_has_6 : decode cX10_has 6 = .ok (.if_icmp .ne 7, 3) := by decide +kernel
theorem dX10_has_9 : decode cX10_has 9 = .ok (.iconst 1, 1) := by decide +kernel
theorem dX10_has_10 : decode cX10_has 10 = .ok (.goto 4, 3) := by decide +kernel
theorem dX10_has_13 : decode cX10_has 13 = .ok (.iconst 0, 1) := by decide +kernel
theorem dX10_has_14 : decode cX10_has 14 = .ok (.ireturn, 1) := by decide +kernel
theorem dX10_bits_0 : decode cX10_bits 0 = .ok (.iconst 0, 1) := by decide +kernel
theorem dX10_bits_1 : decode cX10_bits 1 = .ok (.istore_n 1, 1) := by decide +kernel
theorem dX10_bits_2 : decode cX10_bits 2 = .ok (.iconst 0, 1) := by decide +kernel
theorem dX10_bits_3 : decode cX10_bits 3 = .ok (.istore_n 2, 1) := by decide +kernel
theorem dX10_bits_4 : decode cX10_bits 4 = .ok (.iload_n 2, 1) := by decide +kernel
theorem dX10_bits_5 : decode cX10_bits 5 = .ok (.bipush 17, 2) := by decide +kernel
theorem dX10_bits_7 : decode cX10_bits 7 = .ok (.if_icmp .ge 17, 3) := by decide +kernel
theorem dX10_bits_10 : decode cX10_bits 10 = .ok (.iload_n 1, 1) := by decide +kernel
theorem dX10_bits_11 : decode cX10_bits 11 = .ok (.iload_n 0, 1) := by decide +kernel
theorem dX10_bits_12 : decode cX10_bits 12 = .ok (.iload_n 2, 1) := by decide +kernel
theorem dX10_bits_13 : decode cX10_bits 13 = .ok (.ishr, 1) := by decide +kernel
theorem dX10_bits_14 : decode cX10_bits 14 = .ok (.iconst 1, 1) := by decide +kernel
theorem dX10_bits_15 : decode cX10_bits 15 = .ok (.iand, 1) := by decide +kernel
theorem dX10_bits_16 : decode cX10_bits 16 = .ok (.iadd, 1) := by decide +kernel
theorem dX10_bits_17 : decode cX10_bits 17 = .ok (.istore_n 1, 1) := by decide +kernel
theorem dX10_bits_18 : decode cX10_bits 18 = .ok (.iinc 2 1, 3) := by decide +kernel
theorem dX10_bits_21 : decode cX10_bits 21 = .ok (.goto (-17), 3) := by decide +kernel
theorem dX10_bits_24 : decode cX10_bits 24 = .ok (.iload_n 1, 1) := by decide +kernel
theorem dX10_bits_25 : decode cX10_bits 25 = .ok (.ireturn, 1) := by decide +kernel
theorem dX10_isWindow_0 : decode cX10_isWindow 0 = .ok (.iload_n 1, 1) := by decide +kernel
theorem dX10_isWindow_1 : decode cX10_isWindow 1 = .ok (.iconst 0, 1) := by decide +kernel
theorem dX10_isWindow_2 : decode cX10_isWindow 2 = .ok (.aload_n 0, 1) := by decide +kernel
theorem dX10_isWindow_3 : decode cX10_isWindow 3 = .ok (.getfield 7, 3) := by decide +kernel
theorem dX10_isWindow_6 : decode cX10_isWindow 6 = .ok (.iconst 1, 1) := by decide +kernel
theorem dX10_isWindow_7 : decode cX10_isWindow 7 = .ok (.isub, 1) := by decide +kernel
theorem dX10_isWindow_8 : decode cX10_isWindow 8 = .ok (.invokestatic 69, 3) := by decide +kernel
theorem dX10_isWindow_11 : decode cX10_isWindow 11 = .ok (.ireturn, 1) := by decide +kernel
theorem dX10_may_0 : decode cX10_may 0 = .ok (.aload_n 0, 1) := by decide +kernel
theorem dX10_may_1 : decode cX10_may 1 = .ok (.getfield 7, 3) := by decide +kernel
theorem dX10_may_4 : decode cX10_may 4 = .ok (.iconst 2, 1) := by decide +kernel
theorem dX10_may_5 : decode cX10_may 5 = .ok (.if_icmp .ne 7, 3) := by decide +kernel
theorem dX10_may_8 : decode cX10_may 8 = .ok (.iconst 1, 1) := by decide +kernel
theorem dX10_may_9 : decode cX10_may 9 = .ok (.goto 9, 3) := by decide +kernel
theorem dX10_may_12 : decode cX10_may 12 = .ok (.aload_n 0, 1) := by decide +kernel
theorem dX10_may_13 : decode cX10_may 13 = .ok (.getfield 7, 3) := by decide +kernel
theorem dX10_may_16 : decode cX10_may 16 = .ok (.iconst 2, 1) := by decide +kernel
theorem dX10_may_17 : decode cX10_may 17 = .ok (.isub, 1) := by decide +kernel
theorem dX10_may_18 : decode cX10_may 18 = .ok (.ireturn, 1) := by decide +kernel
theorem dX10_windows_0 : decode cX10_windows 0 = .ok (.iload_n 1, 1) := by decide +kernel
theorem dX10_windows_1 : decode cX10_windows 1 = .ok (.iconst 2, 1) := by decide +kernel
theorem dX10_windows_2 : decode cX10_windows 2 = .ok (.bipush 10, 2) := by decide +kernel
theorem dX10_windows_4 : decode cX10_windows 4 = .ok (.invokestatic 69, 3) := by decide +kernel
theorem dX10_windows_7 : decode cX10_windows 7 = .ok (.ifCond .ne 6, 3) := by decide +kernel
theorem dX10_windows_10 : decode cX10_windows 10 = .ok (.bipush (-2), 2) := by decide +kernel
theorem dX10_windows_12 : decode cX10_windows 12 = .ok (.ireturn, 1) := by decide +kernel
theorem dX10_windows_13 : decode cX10_windows 13 = .ok (.aload_n 0, 1) := by decide +kernel
theorem dX10_windows_14 : decode cX10_windows 14 = .ok (.getfield 7, 3) := by decide +kernel
theorem dX10_windows_17 : decode cX10_windows 17 = .ok (.istore_n 2, 1) := by decide +kernel
theorem dX10_windows_18 : decode cX10_windows 18 = .ok (.aload_n 0, 1) := by decide +kernel
theorem dX10_windows_19 : decode cX10_windows 19 = .ok (.iload_n 1, 1) := by decide +kernel
theorem dX10_windows_20 : decode cX10_windows 20 = .ok (.putfield 7, 3) := by decide +kernel
theorem dX10_windows_23 : decode cX10_windows 23 = .ok (.aload_n 0, 1) := by decide +kernel
theorem dX10_windows_24 : decode cX10_windows 24 = .ok (.invokevirtual 57, 3) := by decide +kernel
theorem dX10_windows_27 : decode cX10_windows 27 = .ok (.iload_n 2, 1) := by decide +kernel
theorem dX10_windows_28 : decode cX10_windows 28 = .ok (.ireturn, 1) := by decide +kernel
theorem dX10_gap_0 : decode cX10_gap 0 = .ok (.aload_n 0, 1) := by decide +kernel
theorem dX10_gap_1 : decode cX10_gap 1 = .ok (.iload_n 1, 1) := by decide +kernel
theorem dX10_gap_2 : decode cX10_gap 2 = .ok (.invokevirtual 73, 3) := by decide +kernel
theorem dX10_gap_5 : decode cX10_gap 5 = .ok (.ifCond .ne 5, 3) := by decide +kernel
theorem dX10_gap_8 : decode cX10_gap 8 = .ok (.iconst (-1), 1) := by decide +kernel
theorem dX10_gap_9 : decode cX10_gap 9 = .ok (.ireturn, 1) := by decide +kernel
theorem dX10_gap_10 : decode cX10_gap 10 = .ok (.iload_n 2, 1) := by decide +kernel
theorem dX10_gap_11 : decode cX10_gap 11 = .ok (.iconst 1, 1) := by decide +kernel
theorem dX10_gap_12 : decode cX10_gap 12 = .ok (.bipush 9, 2) := by decide +kernel
theorem dX10_gap_14 : decode cX10_gap 14 = .ok (.invokestatic 69, 3) := by decide +kernel
theorem dX10_gap_17 : decode cX10_gap 17 = .ok (.ifCond .ne 6, 3) := by decide +kernel
theorem dX10_gap_20 : decode cX10_gap 20 = .ok (.bipush (-2), 2) := by decide +kernel
theorem dX10_gap_22 : decode cX10_gap 22 = .ok (.ireturn, 1) := by decide +kernel
theorem dX10_gap_23 : decode cX10_gap 23 = .ok (.aload_n 0, 1) := by decide +kernel
theorem dX10_gap_24 : decode cX10_gap 24 = .ok (.getfield 13, 3) := by decide +kernel
theorem dX10_gap_27 : decode cX10_gap 27 = .ok (.iload_n 1, 1) := by decide +kernel
theorem dX10_gap_28 : decode cX10_gap 28 = .ok (.iaload, 1) := by decide +kernel
theorem dX10_gap_29 : decode cX10_gap 29 = .ok (.istore_n 3, 1) := by decide +kernel
theorem dX10_gap_30 : decode cX10_gap 30 = .ok (.aload_n 0, 1) := by decide +kernel
theorem dX10_gap_31 : decode cX10_gap 31 = .ok (.getfield 13, 3) := by decide +kernel
theorem dX10_gap_34 : decode cX10_gap 34 = .ok (.iload_n 1, 1) := by decide +kernel
theorem dX10_gap_35 : decode cX10_gap 35 = .ok (.iload_n 2, 1) := by decide +kernel
theorem dX10_gap_36 : decode cX10_gap 36 = .ok (.iastore, 1) := by decide +kernel
theorem dX10_gap_37 : decode cX10_gap 37 = .ok (.iload_n 3, 1) := by decide +kernel
theorem dX10_gap_38 : decode cX10_gap 38 = .ok (.ireturn, 1) := by decide +kernel
theorem dX10_set_0 : decode cX10_set 0 = .ok (.iload_n 1, 1) := by decide +kernel
theorem dX10_set_1 : decode cX10_set 1 = .ok (.ifCond .ne 13, 3) := by decide +kernel
theorem dX10_set_4 : decode cX10_set 4 = .ok (.iload_n 2, 1) := by decide +kernel
theorem dX10_set_5 : decode cX10_set 5 = .ok (.iconst 1, 1) := by decide +kernel
theorem dX10_set_6 : decode cX10_set 6 = .ok (.bipush 9, 2) := by decide +kernel
theorem dX10_set_8 : decode cX10_set 8 = .ok (.invokestatic 69, 3) := by decide +kernel
theorem dX10_set_11 : decode cX10_set 11 = .ok (.goto 38, 3) := by decide +kernel
theorem dX10_set_14 : decode cX10_set 14 = .ok (.iload_n 1, 1) := by decide +kernel
theorem dX10_set_15 : decode cX10_set 15 = .ok (.iconst 1, 1) := by decide +kernel
theorem dX10_set_16 : decode cX10_set 16 = .ok (.if_icmp .ne 13, 3) := by decide +kernel
theorem dX10_set_19 : decode cX10_set 19 = .ok (.iload_n 2, 1) := by decide +kernel
theorem dX10_set_20 : decode cX10_set 20 = .ok (.iconst 1, 1) := by decide +kernel
theorem dX10_set_21 : decode cX10_set 21 = .ok (.bipush 99, 2) := by decide +kernel
theorem dX10_set_23 : decode cX10_set 23 = .ok (.invokestatic 69, 3) := by decide +kernel
theorem dX10_set_26 : decode cX10_set 26 = .ok (.goto 23, 3) := by decide +kernel
theorem dX10_set_29 : decode cX10_set 29 = .ok (.iload_n 1, 1) := by decide +kernel
theorem dX10_set_30 : decode cX10_set 30 = .ok (.iconst 2, 1) := by decide +kernel
theorem dX10_set_31 : decode cX10_set 31 = .ok (.if_icmp .ne 17, 3) := by decide +kernel
theorem dX10_set_34 : decode cX10_set 34 = .ok (.iload_n 2, 1) := by decide +kernel
theorem dX10_set_35 : decode cX10_set 35 = .ok (.iconst 0, 1) := by decide +kernel
theorem dX10_set_36 : decode cX10_set 36 = .ok (.bipush 9, 2) := by decide +kernel
theorem dX10_set_38 : decode cX10_set 38 = .ok (.invokestatic 69, 3) := by decide +kernel
theorem dX10_set_41 : decode cX10_set 41 = .ok (.ifCond .eq 7, 3) := by decide +kernel
theorem dX10_set_44 : decode cX10_set 44 = .ok (.iconst 1, 1) := by decide +kernel
theorem dX10_set_45 : decode cX10_set 45 = .ok (.goto 4, 3) := by decide +kernel
theorem dX10_set_48 : decode cX10_set 48 = .ok (.iconst 0, 1) := by decide +kernel
theorem dX10_set_49 : decode cX10_set 49 = .ok (.istore_n 3, 1) := by decide +kernel
theorem dX10_set_50 : decode cX10_set 50 = .ok (.iload_n 3, 1) := by decide +kernel
theorem dX10_set_51 : decode cX10_set 51 = .ok (.ifCond .ne 6, 3) := by decide +kernel
theorem dX10_set_54 : decode cX10_set 54 = .ok (.bipush (-2), 2) := by decide +kernel
theorem dX10_set_56 : decode cX10_set 56 = .ok (.ireturn, 1) := by decide +kernel
theorem dX10_set_57 : decode cX10_set 57 = .ok (.iload_n 1, 1) := by decide +kernel
theorem dX10_set_58 : decode cX10_set 58 = .ok (.ifCond .ne 10, 3) := by decide +kernel
theorem dX10_set_61 : decode cX10_set 61 = .ok (.aload_n 0, 1) := by decide +kernel
theorem dX10_set_62 : decode cX10_set 62 = .ok (.getfield 17, 3) := by decide +kernel
theorem dX10_set_65 : decode cX10_set 65 = .ok (.goto 19, 3) := by decide +kernel
theorem dX10_set_68 : decode cX10_set 68 = .ok (.iload_n 1, 1) := by decide +kernel
theorem dX10_set_69 : decode cX10_set 69 = .ok (.iconst 1, 1) := by decide +kernel
theorem dX10_set_70 : decode cX10_set 70 = .ok (.if_icmp .ne 10, 3) := by decide +kernel
theorem dX10_set_73 : decode cX10_set 73 = .ok (.aload_n 0, 1) := by decide +kernel
theorem dX10_set_74 : decode cX10_set 74 = .ok (.getfield 20, 3) := by decide +kernel
theorem dX10_set_77 : decode cX10_set 77 = .ok (.goto 7, 3) := by decide +kernel
theorem dX10_set_80 : decode cX10_set 80 = .ok (.aload_n 0, 1) := by decide +kernel
theorem dX10_set_81 : decode cX10_set 81 = .ok (.getfield 23, 3) := by decide +kernel
theorem dX10_set_84 : decode cX10_set 84 = .ok (.istore 4, 2) := by decide +kernel
theorem dX10_set_86 : decode cX10_set 86 = .ok (.aload_n 0, 1) := by decide +kernel
theorem dX10_set_87 : decode cX10_set 87 = .ok (.iload_n 1, 1) := by decide +kernel
theorem dX10_set_88 : decode cX10_set 88 = .ok (.ifCond .ne 7, 3) := by decide +kernel
theorem dX10_set_91 : decode cX10_set 91 = .ok (.iload_n 2, 1) := by decide +kernel
theorem dX10_set_92 : decode cX10_set 92 = .ok (.goto 7, 3) := by decide +kernel
theorem dX10_set_95 : decode cX10_set 95 = .ok (.aload_n 0, 1) := by decide +kernel
theorem dX10_set_96 : decode cX10_set 96 = .ok (.getfield 17, 3) := by decide +kernel
theorem dX10_set_99 : decode cX10_set 99 = .ok (.putfield 17, 3) := by decide +kernel
theorem dX10_set_102 : decode cX10_set 102 = .ok (.aload_n 0, 1) := by decide +kernel
theorem dX10_set_103 : decode cX10_set 103 = .ok (.iload_n 1, 1) := by decide +kernel
theorem dX10_set_104 : decode cX10_set 104 = .ok (.iconst 1, 1) := by decide +kernel
theorem dX10_set_105 : decode cX10_set 105 = .ok (.if_icmp .ne 7, 3) := by decide +kernel
theorem dX10_set_108 : decode cX10_set 108 = .ok (.iload_n 2, 1) := by decide +kernel
theorem dX10_set_109 : decode cX10_set 109 = .ok (.goto 7, 3) := by decide +kernel
theorem dX10_set_112 : decode cX10_set 112 = .ok (.aload_n 0, 1) := by decide +kernel
theorem dX10_set_113 : decode cX10_set 113 = .ok (.getfield 20, 3) := by decide +kernel
theorem dX10_set_116 : decode cX10_set 116 = .ok (.putfield 20, 3) := by decide +kernel
theorem dX10_set_119 : decode cX10_set 119 = .ok (.aload_n 0, 1) := by decide +kernel
theorem dX10_set_120 : decode cX10_set 120 = .ok (.iload_n 1, 1) := by decide +kernel
theorem dX10_set_121 : decode cX10_set 121 = .ok (.iconst 2, 1) := by decide +kernel
theorem dX10_set_122 : decode cX10_set 122 = .ok (.if_icmp .ne 7, 3) := by decide +kernel
theorem dX10_set_125 : decode cX10_set 125 = .ok (.iload_n 2, 1) := by decide +kernel
theorem dX10_set_126 : decode cX10_set 126 = .ok (.goto 7, 3) := by decide +kernel
theorem dX10_set_129 : decode cX10_set 129 = .ok (.aload_n 0, 1) := by decide +kernel
theorem dX10_set_130 : decode cX10_set 130 = .ok (.getfield 23, 3) := by decide +kernel
theorem dX10_set_133 : decode cX10_set 133 = .ok (.putfield 23, 3) := by decide +kernel
theorem dX10_set_136 : decode cX10_set 136 = .ok (.iload 4, 2) := by decide +kernel
theorem dX10_set_138 : decode cX10_set 138 = .ok (.ireturn, 1) := by decide +kernel
theorem dX10_say_0 : decode cX10_say 0 = .ok (.iload_n 1, 1) := by decide +kernel
theorem dX10_say_1 : decode cX10_say 1 = .ok (.bipush 33, 2) := by decide +kernel
theorem dX10_say_3 : decode cX10_say 3 = .ok (.bipush 126, 2) := by decide +kernel
theorem dX10_say_5 : decode cX10_say 5 = .ok (.invokestatic 69, 3) := by decide +kernel
theorem dX10_say_8 : decode cX10_say 8 = .ok (.ifCond .ne 6, 3) := by decide +kernel
theorem dX10_say_11 : decode cX10_say 11 = .ok (.bipush (-2), 2) := by decide +kernel
theorem dX10_say_13 : decode cX10_say 13 = .ok (.ireturn, 1) := by decide +kernel
theorem dX10_say_14 : decode cX10_say 14 = .ok (.aload_n 0, 1) := by decide +kernel
theorem dX10_say_15 : decode cX10_say 15 = .ok (.getfield 77, 3) := by decide +kernel
theorem dX10_say_18 : decode cX10_say 18 = .ok (.bipush 60, 2) := by decide +kernel
theorem dX10_say_20 : decode cX10_say 20 = .ok (.if_icmp .ne 6, 3) := by decide +kernel
theorem dX10_say_23 : decode cX10_say 23 = .ok (.bipush (-4), 2) := by decide +kernel
theorem dX10_say_25 : decode cX10_say 25 = .ok (.ireturn, 1) := by decide +kernel
theorem dX10_say_26 : decode cX10_say 26 = .ok (.aload_n 0, 1) := by decide +kernel
theorem dX10_say_27 : decode cX10_say 27 = .ok (.getfield 32, 3) := by decide +kernel
theorem dX10_say_30 : decode cX10_say 30 = .ok (.aload_n 0, 1) := by decide +kernel
theorem dX10_say_31 : decode cX10_say 31 = .ok (.getfield 77, 3) := by decide +kernel
theorem dX10_say_34 : decode cX10_say 34 = .ok (.iload_n 1, 1) := by decide +kernel
theorem dX10_say_35 : decode cX10_say 35 = .ok (.iastore, 1) := by decide +kernel
theorem dX10_say_36 : decode cX10_say 36 = .ok (.aload_n 0, 1) := by decide +kernel
theorem dX10_say_37 : decode cX10_say 37 = .ok (.dup, 1) := by decide +kernel
theorem dX10_say_38 : decode cX10_say 38 = .ok (.getfield 77, 3) := by decide +kernel
theorem dX10_say_41 : decode cX10_say 41 = .ok (.iconst 1, 1) := by decide +kernel
theorem dX10_say_42 : decode cX10_say 42 = .ok (.iadd, 1) := by decide +kernel
theorem dX10_say_43 : decode cX10_say 43 = .ok (.putfield 77, 3) := by decide +kernel
theorem dX10_say_46 : decode cX10_say 46 = .ok (.aload_n 0, 1) := by decide +kernel
theorem dX10_say_47 : decode cX10_say 47 = .ok (.getfield 77, 3) := by decide +kernel
theorem dX10_say_50 : decode cX10_say 50 = .ok (.ireturn, 1) := by decide +kernel
theorem dX10_wipe_0 : decode cX10_wipe 0 = .ok (.aload_n 0, 1) := by decide +kernel
theorem dX10_wipe_1 : decode cX10_wipe 1 = .ok (.getfield 77, 3) := by decide +kernel
theorem dX10_wipe_4 : decode cX10_wipe 4 = .ok (.istore_n 1, 1) := by decide +kernel
theorem dX10_wipe_5 : decode cX10_wipe 5 = .ok (.aload_n 0, 1) := by decide +kernel
theorem dX10_wipe_6 : decode cX10_wipe 6 = .ok (.iconst 0, 1) := by decide +kernel
theorem dX10_wipe_7 : decode cX10_wipe 7 = .ok (.putfield 77, 3) := by decide +kernel
theorem dX10_wipe_10 : decode cX10_wipe 10 = .ok (.iload_n 1, 1) := by decide +kernel
theorem dX10_wipe_11 : decode cX10_wipe 11 = .ok (.ireturn, 1) := by decide +kernel
theorem dX10_eveningFault_0 : decode cX10_eveningFault 0 = .ok (.iconst 0, 1) := by decide +kernel
theorem dX10_eveningFault_1 : decode cX10_eveningFault 1 = .ok (.istore_n 1, 1) := by decide +kernel
theorem dX10_eveningFault_2 : decode cX10_eveningFault 2 = .ok (.iload_n 1, 1) := by decide +kernel
theorem dX10_eveningFault_3 : decode cX10_eveningFault 3 = .ok (.aload_n 0, 1) := by decide +kernel
theorem dX10_eveningFault_4 : decode cX10_eveningFault 4 = .ok (.getfield 77, 3) := by decide +kernel
theorem dX10_eveningFault_7 : decode cX10_eveningFault 7 = .ok (.if_icmp .ge 47, 3) := by decide +kernel
theorem dX10_eveningFault_10 : decode cX10_eveningFault 10 = .ok (.aload_n 0, 1) := by decide +kernel
theorem dX10_eveningFault_11 : decode cX10_eveningFault 11 = .ok (.getfield 32, 3) := by decide +kernel
theorem dX10_eveningFault_14 : decode cX10_eveningFault 14 = .ok (.iload_n 1, 1) := by decide +kernel
theorem dX10_eveningFault_15 : decode cX10_eveningFault 15 = .ok (.iaload, 1) := by decide +kernel
theorem dX10_eveningFault_16 : decode cX10_eveningFault 16 = .ok (.istore_n 2, 1) := by decide +kernel
theorem dX10_eveningFault_17 : decode cX10_eveningFault 17 = .ok (.aload_n 0, 1) := by decide +kernel
theorem dX10_eveningFault_18 : decode cX10_eveningFault 18 = .ok (.iload_n 2, 1) := by decide +kernel
theorem dX10_eveningFault_19 : decode cX10_eveningFault 19 = .ok (.bipush 97, 2) := by decide +kernel
theorem dX10_eveningFault_21 : decode cX10_eveningFault 21 = .ok (.isub, 1) := by decide +kernel
theorem dX10_eveningFault_22 : decode cX10_eveningFault 22 = .ok (.invokevirtual 73, 3) := by decide +kernel
theorem dX10_eveningFault_25 : decode cX10_eveningFault 25 = .ok (.ifCond .ne 23, 3) := by decide +kernel
theorem dX10_eveningFault_28 : decode cX10_eveningFault 28 = .ok (.iload_n 2, 1) := by decide +kernel
theorem dX10_eveningFault_29 : decode cX10_eveningFault 29 = .ok (.bipush 43, 2) := by decide +kernel
theorem dX10_eveningFault_31 : decode cX10_eveningFault 31 = .ok (.if_icmp .eq 17, 3) := by decide +kernel
theorem dX10_eveningFault_34 : decode cX10_eveningFault 34 = .ok (.iload_n 2, 1) := by decide +kernel
theorem dX10_eveningFault_35 : decode cX10_eveningFault 35 = .ok (.bipush 45, 2) := by decide +kernel
theorem dX10_eveningFault_37 : decode cX10_eveningFault 37 = .ok (.if_icmp .eq 11, 3) := by decide +kernel
theorem dX10_eveningFault_40 : decode cX10_eveningFault 40 = .ok (.iload_n 2, 1) := by decide +kernel
theorem dX10_eveningFault_41 : decode cX10_eveningFault 41 = .ok (.bipush 46, 2) := by decide +kernel
theorem dX10_eveningFault_43 : decode cX10_eveningFault 43 = .ok (.if_icmp .eq 5, 3) := by decide +kernel
theorem dX10_eveningFault_46 : decode cX10_eveningFault 46 = .ok (.iload_n 1, 1) := by decide +kernel
theorem dX10_eveningFault_47 : decode cX10_eveningFault 47 = .ok (.ireturn, 1) := by decide +kernel
theorem dX10_eveningFault_48 : decode cX10_eveningFault 48 = .ok (.iinc 1 1, 3) := by decide +kernel
theorem dX10_eveningFault_51 : decode cX10_eveningFault 51 = .ok (.goto (-49), 3) := by decide +kernel
theorem dX10_eveningFault_54 : decode cX10_eveningFault 54 = .ok (.bipush (-6), 2) := by decide +kernel
theorem dX10_eveningFault_56 : decode cX10_eveningFault 56 = .ok (.ireturn, 1) := by decide +kernel
theorem dX10_tuneFault_0 : decode cX10_tuneFault 0 = .ok (.iconst 0, 1) := by decide +kernel
theorem dX10_tuneFault_1 : decode cX10_tuneFault 1 = .ok (.istore_n 1, 1) := by decide +kernel
theorem dX10_tuneFault_2 : decode cX10_tuneFault 2 = .ok (.iload_n 1, 1) := by decide +kernel
theorem dX10_tuneFault_3 : decode cX10_tuneFault 3 = .ok (.aload_n 0, 1) := by decide +kernel
theorem dX10_tuneFault_4 : decode cX10_tuneFault 4 = .ok (.getfield 77, 3) := by decide +kernel
theorem dX10_tuneFault_7 : decode cX10_tuneFault 7 = .ok (.if_icmp .ge 97, 3) := by decide +kernel
theorem dX10_tuneFault_10 : decode cX10_tuneFault 10 = .ok (.iload_n 1, 1) := by decide +kernel
theorem dX10_tuneFault_11 : decode cX10_tuneFault 11 = .ok (.iconst 2, 1) := by decide +kernel
theorem dX10_tuneFault_12 : decode cX10_tuneFault 12 = .ok (.irem, 1) := by decide +kernel
theorem dX10_tuneFault_13 : decode cX10_tuneFault 13 = .ok (.ifCond .ne 7, 3) := by decide +kernel
theorem dX10_tuneFault_16 : decode cX10_tuneFault 16 = .ok (.iconst 1, 1) := by decide +kernel
theorem dX10_tuneFault_17 : decode cX10_tuneFault 17 = .ok (.goto 4, 3) := by decide +kernel
theorem dX10_tuneFault_20 : decode cX10_tuneFault 20 = .ok (.iconst 0, 1) := by decide +kernel
theorem dX10_tuneFault_21 : decode cX10_tuneFault 21 = .ok (.istore_n 2, 1) := by decide +kernel
theorem dX10_tuneFault_22 : decode cX10_tuneFault 22 = .ok (.iload_n 2, 1) := by decide +kernel
theorem dX10_tuneFault_23 : decode cX10_tuneFault 23 = .ok (.ifCond .eq 19, 3) := by decide +kernel
theorem dX10_tuneFault_26 : decode cX10_tuneFault 26 = .ok (.aload_n 0, 1) := by decide +kernel
theorem dX10_tuneFault_27 : decode cX10_tuneFault 27 = .ok (.getfield 32, 3) := by decide +kernel
theorem dX10_tuneFault_30 : decode cX10_tuneFault 30 = .ok (.iload_n 1, 1) := by decide +kernel
theorem dX10_tuneFault_31 : decode cX10_tuneFault 31 = .ok (.iaload, 1) := by decide +kernel
theorem dX10_tuneFault_32 : decode cX10_tuneFault 32 = .ok (.bipush 48, 2) := by decide +kernel
theorem dX10_tuneFault_34 : decode cX10_tuneFault 34 = .ok (.bipush 50, 2) := by decide +kernel
theorem dX10_tuneFault_36 : decode cX10_tuneFault 36 = .ok (.invokestatic 69, 3) := by decide +kernel
theorem dX10_tuneFault_39 : decode cX10_tuneFault 39 = .ok (.goto 52, 3) := by decide +kernel
theorem dX10_tuneFault_42 : decode cX10_tuneFault 42 = .ok (.aload_n 0, 1) := by decide +kernel
theorem dX10_tuneFault_43 : decode cX10_tuneFault 43 = .ok (.getfield 32, 3) := by decide +kernel
theorem dX10_tuneFault_46 : decode cX10_tuneFault 46 = .ok (.iload_n 1, 1) := by decide +kernel
theorem dX10_tuneFault_47 : decode cX10_tuneFault 47 = .ok (.iaload, 1) := by decide +kernel
theorem dX10_tuneFault_48 : decode cX10_tuneFault 48 = .ok (.aload_n 0, 1) := by decide +kernel
theorem dX10_tuneFault_49 : decode cX10_tuneFault 49 = .ok (.getfield 32, 3) := by decide +kernel
theorem dX10_tuneFault_52 : decode cX10_tuneFault 52 = .ok (.iload_n 1, 1) := by decide +kernel
theorem dX10_tuneFault_53 : decode cX10_tuneFault 53 = .ok (.iconst 1, 1) := by decide +kernel
theorem dX10_tuneFault_54 : decode cX10_tuneFault 54 = .ok (.isub, 1) := by decide +kernel
theorem dX10_tuneFault_55 : decode cX10_tuneFault 55 = .ok (.iaload, 1) := by decide +kernel
theorem dX10_tuneFault_56 : decode cX10_tuneFault 56 = .ok (.bipush 48, 2) := by decide +kernel
theorem dX10_tuneFault_58 : decode cX10_tuneFault 58 = .ok (.if_icmp .ne 8, 3) := by decide +kernel
theorem dX10_tuneFault_61 : decode cX10_tuneFault 61 = .ok (.bipush 49, 2) := by decide +kernel
theorem dX10_tuneFault_63 : decode cX10_tuneFault 63 = .ok (.goto 5, 3) := by decide +kernel
theorem dX10_tuneFault_66 : decode cX10_tuneFault 66 = .ok (.bipush 48, 2) := by decide +kernel
theorem dX10_tuneFault_68 : decode cX10_tuneFault 68 = .ok (.aload_n 0, 1) := by decide +kernel
theorem dX10_tuneFault_69 : decode cX10_tuneFault 69 = .ok (.getfield 32, 3) := by decide +kernel
theorem dX10_tuneFault_72 : decode cX10_tuneFault 72 = .ok (.iload_n 1, 1) := by decide +kernel
theorem dX10_tuneFault_73 : decode cX10_tuneFault 73 = .ok (.iconst 1, 1) := by decide +kernel
theorem dX10_tuneFault_74 : decode cX10_tuneFault 74 = .ok (.isub, 1) := by decide +kernel
theorem dX10_tuneFault_75 : decode cX10_tuneFault 75 = .ok (.iaload, 1) := by decide +kernel
theorem dX10_tuneFault_76 : decode cX10_tuneFault 76 = .ok (.bipush 50, 2) := by decide +kernel
theorem dX10_tuneFault_78 : decode cX10_tuneFault 78 = .ok (.if_icmp .ne 8, 3) := by decide +kernel
theorem dX10_tuneFault_81 : decode cX10_tuneFault 81 = .ok (.bipush 48, 2) := by decide +kernel
theorem dX10_tuneFault_83 : decode cX10_tuneFault 83 = .ok (.goto 5, 3) := by decide +kernel
theorem dX10_tuneFault_86 : decode cX10_tuneFault 86 = .ok (.bipush 57, 2) := by decide +kernel
theorem dX10_tuneFault_88 : decode cX10_tuneFault 88 = .ok (.invokestatic 69, 3) := by decide +kernel
theorem dX10_tuneFault_91 : decode cX10_tuneFault 91 = .ok (.istore_n 3, 1) := by decide +kernel
theorem dX10_tuneFault_92 : decode cX10_tuneFault 92 = .ok (.iload_n 3, 1) := by decide +kernel
theorem dX10_tuneFault_93 : decode cX10_tuneFault 93 = .ok (.ifCond .ne 5, 3) := by decide +kernel
theorem dX10_tuneFault_96 : decode cX10_tuneFault 96 = .ok (.iload_n 1, 1) := by decide +kernel
theorem dX10_tuneFault_97 : decode cX10_tuneFault 97 = .ok (.ireturn, 1) := by decide +kernel
theorem dX10_tuneFault_98 : decode cX10_tuneFault 98 = .ok (.iinc 1 1, 3) := by decide +kernel
theorem dX10_tuneFault_101 : decode cX10_tuneFault 101 = .ok (.goto (-99), 3) := by decide +kernel
theorem dX10_tuneFault_104 : decode cX10_tuneFault 104 = .ok (.aload_n 0, 1) := by decide +kernel
theorem dX10_tuneFault_105 : decode cX10_tuneFault 105 = .ok (.getfield 77, 3) := by decide +kernel
theorem dX10_tuneFault_108 : decode cX10_tuneFault 108 = .ok (.ifCond .eq 13, 3) := by decide +kernel
theorem dX10_tuneFault_111 : decode cX10_tuneFault 111 = .ok (.aload_n 0, 1) := by decide +kernel
theorem dX10_tuneFault_112 : decode cX10_tuneFault 112 = .ok (.getfield 77, 3) := by decide +kernel
theorem dX10_tuneFault_115 : decode cX10_tuneFault 115 = .ok (.iconst 2, 1) := by decide +kernel
theorem dX10_tuneFault_116 : decode cX10_tuneFault 116 = .ok (.irem, 1) := by decide +kernel
theorem dX10_tuneFault_117 : decode cX10_tuneFault 117 = .ok (.iconst 1, 1) := by decide +kernel
theorem dX10_tuneFault_118 : decode cX10_tuneFault 118 = .ok (.if_icmp .ne 10, 3) := by decide +kernel
theorem dX10_tuneFault_121 : decode cX10_tuneFault 121 = .ok (.aload_n 0, 1) := by decide +kernel
theorem dX10_tuneFault_122 : decode cX10_tuneFault 122 = .ok (.getfield 77, 3) := by decide +kernel
theorem dX10_tuneFault_125 : decode cX10_tuneFault 125 = .ok (.goto 5, 3) := by decide +kernel
theorem dX10_tuneFault_128 : decode cX10_tuneFault 128 = .ok (.bipush (-6), 2) := by decide +kernel
theorem dX10_tuneFault_130 : decode cX10_tuneFault 130 = .ok (.ireturn, 1) := by decide +kernel
theorem dX10_fault_0 : decode cX10_fault 0 = .ok (.iload_n 1, 1) := by decide +kernel
theorem dX10_fault_1 : decode cX10_fault 1 = .ok (.ifCond .ne 10, 3) := by decide +kernel
theorem dX10_fault_4 : decode cX10_fault 4 = .ok (.aload_n 0, 1) := by decide +kernel
theorem dX10_fault_5 : decode cX10_fault 5 = .ok (.invokevirtual 80, 3) := by decide +kernel
theorem dX10_fault_8 : decode cX10_fault 8 = .ok (.goto 17, 3) := by decide +kernel
theorem dX10_fault_11 : decode cX10_fault 11 = .ok (.iload_n 1, 1) := by decide +kernel
theorem dX10_fault_12 : decode cX10_fault 12 = .ok (.iconst 1, 1) := by decide +kernel
theorem dX10_fault_13 : decode cX10_fault 13 = .ok (.if_icmp .ne 10, 3) := by decide +kernel
theorem dX10_fault_16 : decode cX10_fault 16 = .ok (.aload_n 0, 1) := by decide +kernel
theorem dX10_fault_17 : decode cX10_fault 17 = .ok (.invokevirtual 84, 3) := by decide +kernel
theorem dX10_fault_20 : decode cX10_fault 20 = .ok (.goto 5, 3) := by decide +kernel
theorem dX10_fault_23 : decode cX10_fault 23 = .ok (.bipush (-2), 2) := by decide +kernel
theorem dX10_fault_25 : decode cX10_fault 25 = .ok (.ireturn, 1) := by decide +kernel
theorem dX10_at_0 : decode cX10_at 0 = .ok (.iconst 0, 1) := by decide +kernel
theorem dX10_at_1 : decode cX10_at 1 = .ok (.istore_n 2, 1) := by decide +kernel
theorem dX10_at_2 : decode cX10_at 2 = .ok (.iconst 0, 1) := by decide +kernel
theorem dX10_at_3 : decode cX10_at 3 = .ok (.istore_n 3, 1) := by decide +kernel
theorem dX10_at_4 : decode cX10_at 4 = .ok (.iload_n 3, 1) := by decide +kernel
theorem dX10_at_5 : decode cX10_at 5 = .ok (.iload_n 1, 1) := by decide +kernel
theorem dX10_at_6 : decode cX10_at 6 = .ok (.if_icmp .gt 18, 3) := by decide +kernel
theorem dX10_at_9 : decode cX10_at 9 = .ok (.iload_n 2, 1) := by decide +kernel
theorem dX10_at_10 : decode cX10_at 10 = .ok (.aload_n 0, 1) := by decide +kernel
theorem dX10_at_11 : decode cX10_at 11 = .ok (.getfield 13, 3) := by decide +kernel
theorem dX10_at_14 : decode cX10_at 14 = .ok (.iload_n 3, 1) := by decide +kernel
theorem dX10_at_15 : decode cX10_at 15 = .ok (.iaload, 1) := by decide +kernel
theorem dX10_at_16 : decode cX10_at 16 = .ok (.iadd, 1) := by decide +kernel
theorem dX10_at_17 : decode cX10_at 17 = .ok (.istore_n 2, 1) := by decide +kernel
theorem dX10_at_18 : decode cX10_at 18 = .ok (.iinc 3 1, 3) := by decide +kernel
theorem dX10_at_21 : decode cX10_at 21 = .ok (.goto (-17), 3) := by decide +kernel
theorem dX10_at_24 : decode cX10_at 24 = .ok (.iload_n 2, 1) := by decide +kernel
theorem dX10_at_25 : decode cX10_at 25 = .ok (.ireturn, 1) := by decide +kernel
theorem dX10_lengthOf_0 : decode cX10_lengthOf 0 = .ok (.iconst 0, 1) := by decide +kernel
theorem dX10_lengthOf_1 : decode cX10_lengthOf 1 = .ok (.istore 4, 2) := by decide +kernel
theorem dX10_lengthOf_3 : decode cX10_lengthOf 3 = .ok (.aload_n 0, 1) := by decide +kernel
theorem dX10_lengthOf_4 : decode cX10_lengthOf 4 = .ok (.aload_n 0, 1) := by decide +kernel
theorem dX10_lengthOf_5 : decode cX10_lengthOf 5 = .ok (.getfield 7, 3) := by decide +kernel
theorem dX10_lengthOf_8 : decode cX10_lengthOf 8 = .ok (.iconst 1, 1) := by decide +kernel
theorem dX10_lengthOf_9 : decode cX10_lengthOf 9 = .ok (.isub, 1) := by decide +kernel
theorem dX10_lengthOf_10 : decode cX10_lengthOf 10 = .ok (.invokevirtual 87, 3) := by decide +kernel
theorem dX10_lengthOf_13 : decode cX10_lengthOf 13 = .ok (.aload_n 0, 1) := by decide +kernel
theorem dX10_lengthOf_14 : decode cX10_lengthOf 14 = .ok (.getfield 17, 3) := by decide +kernel
theorem dX10_lengthOf_17 : decode cX10_lengthOf 17 = .ok (.iadd, 1) := by decide +kernel
theorem dX10_lengthOf_18 : decode cX10_lengthOf 18 = .ok (.iload_n 3, 1) := by decide +kernel
theorem dX10_lengthOf_19 : decode cX10_lengthOf 19 = .ok (.iadd, 1) := by decide +kernel
theorem dX10_lengthOf_20 : decode cX10_lengthOf 20 = .ok (.istore 5, 2) := by decide +kernel
theorem dX10_lengthOf_22 : decode cX10_lengthOf 22 = .ok (.iconst 0, 1) := by decide +kernel
theorem dX10_lengthOf_23 : decode cX10_lengthOf 23 = .ok (.istore 6, 2) := by decide +kernel
theorem dX10_lengthOf_25 : decode cX10_lengthOf 25 = .ok (.iload 6, 2) := by decide +kernel
theorem dX10_lengthOf_27 : decode cX10_lengthOf 27 = .ok (.aload_n 0, 1) := by decide +kernel
theorem dX10_lengthOf_28 : decode cX10_lengthOf 28 = .ok (.getfield 7, 3) := by decide +kernel
theorem dX10_lengthOf_31 : decode cX10_lengthOf 31 = .ok (.if_icmp .ge 37, 3) := by decide +kernel
theorem dX10_lengthOf_34 : decode cX10_lengthOf 34 = .ok (.iload_n 2, 1) := by decide +kernel
theorem dX10_lengthOf_35 : decode cX10_lengthOf 35 = .ok (.iload 6, 2) := by decide +kernel
theorem dX10_lengthOf_37 : decode cX10_lengthOf 37 = .ok (.invokestatic 91, 3) := by decide +kernel
theorem dX10_lengthOf_40 : decode cX10_lengthOf 40 = .ok (.ifCond .eq 18, 3) := by decide +kernel
theorem dX10_lengthOf_43 : decode cX10_lengthOf 43 = .ok (.iload 6, 2) := by decide +kernel
theorem dX10_lengthOf_45 : decode cX10_lengthOf 45 = .ok (.iload_n 1, 1) := by decide +kernel
theorem dX10_lengthOf_46 : decode cX10_lengthOf 46 = .ok (.if_icmp .gt 12, 3) := by decide +kernel
theorem dX10_lengthOf_49 : decode cX10_lengthOf 49 = .ok (.aload_n 0, 1) := by decide +kernel
theorem dX10_lengthOf_50 : decode cX10_lengthOf 50 = .ok (.iload 6, 2) := by decide +kernel
theorem dX10_lengthOf_52 : decode cX10_lengthOf 52 = .ok (.invokevirtual 87, 3) := by decide +kernel
theorem dX10_lengthOf_55 : decode cX10_lengthOf 55 = .ok (.goto 5, 3) := by decide +kernel
theorem dX10_lengthOf_58 : decode cX10_lengthOf 58 = .ok (.iload 4, 2) := by decide +kernel
theorem dX10_lengthOf_60 : decode cX10_lengthOf 60 = .ok (.istore 4, 2) := by decide +kernel
theorem dX10_lengthOf_62 : decode cX10_lengthOf 62 = .ok (.iinc 6 1, 3) := by decide +kernel
theorem dX10_lengthOf_65 : decode cX10_lengthOf 65 = .ok (.goto (-40), 3) := by decide +kernel
theorem dX10_lengthOf_68 : decode cX10_lengthOf 68 = .ok (.aload_n 0, 1) := by decide +kernel
theorem dX10_lengthOf_69 : decode cX10_lengthOf 69 = .ok (.getfield 7, 3) := by decide +kernel
theorem dX10_lengthOf_72 : decode cX10_lengthOf 72 = .ok (.iconst 1, 1) := by decide +kernel
theorem dX10_lengthOf_73 : decode cX10_lengthOf 73 = .ok (.isub, 1) := by decide +kernel
theorem dX10_lengthOf_74 : decode cX10_lengthOf 74 = .ok (.istore 6, 2) := by decide +kernel
theorem dX10_lengthOf_76 : decode cX10_lengthOf 76 = .ok (.iload 6, 2) := by decide +kernel
theorem dX10_lengthOf_78 : decode cX10_lengthOf 78 = .ok (.iload_n 1, 1) := by decide +kernel
theorem dX10_lengthOf_79 : decode cX10_lengthOf 79 = .ok (.if_icmp .le 31, 3) := by decide +kernel
theorem dX10_lengthOf_82 : decode cX10_lengthOf 82 = .ok (.iload_n 2, 1) := by decide +kernel
theorem dX10_lengthOf_83 : decode cX10_lengthOf 83 = .ok (.iload 6, 2) := by decide +kernel
theorem dX10_lengthOf_85 : decode cX10_lengthOf 85 = .ok (.invokestatic 91, 3) := by decide +kernel
theorem dX10_lengthOf_88 : decode cX10_lengthOf 88 = .ok (.ifCond .eq 12, 3) := by decide +kernel
theorem dX10_lengthOf_91 : decode cX10_lengthOf 91 = .ok (.aload_n 0, 1) := by decide +kernel
theorem dX10_lengthOf_92 : decode cX10_lengthOf 92 = .ok (.iload 6, 2) := by decide +kernel
theorem dX10_lengthOf_94 : decode cX10_lengthOf 94 = .ok (.invokevirtual 87, 3) := by decide +kernel
theorem dX10_lengthOf_97 : decode cX10_lengthOf 97 = .ok (.goto 5, 3) := by decide +kernel
theorem dX10_lengthOf_100 : decode cX10_lengthOf 100 = .ok (.iload 5, 2) := by decide +kernel
theorem dX10_lengthOf_102 : decode cX10_lengthOf 102 = .ok (.istore 5, 2) := by decide +kernel
theorem dX10_lengthOf_104 : decode cX10_lengthOf 104 = .ok (.iinc 6 (-1), 3) := by decide +kernel
theorem dX10_lengthOf_107 : decode cX10_lengthOf 107 = .ok (.goto (-31), 3) := by decide +kernel
theorem dX10_lengthOf_110 : decode cX10_lengthOf 110 = .ok (.iload 5, 2) := by decide +kernel
theorem dX10_lengthOf_112 : decode cX10_lengthOf 112 = .ok (.iload 4, 2) := by decide +kernel
theorem dX10_lengthOf_114 : decode cX10_lengthOf 114 = .ok (.isub, 1) := by decide +kernel
theorem dX10_lengthOf_115 : decode cX10_lengthOf 115 = .ok (.ireturn, 1) := by decide +kernel
theorem dX10_divisor_0 : decode cX10_divisor 0 = .ok (.iload_n 0, 1) := by decide +kernel
theorem dX10_divisor_1 : decode cX10_divisor 1 = .ok (.istore_n 2, 1) := by decide +kernel
theorem dX10_divisor_2 : decode cX10_divisor 2 = .ok (.iload_n 1, 1) := by decide +kernel
theorem dX10_divisor_3 : decode cX10_divisor 3 = .ok (.istore_n 3, 1) := by decide +kernel
theorem dX10_divisor_4 : decode cX10_divisor 4 = .ok (.iload_n 3, 1) := by decide +kernel
theorem dX10_divisor_5 : decode cX10_divisor 5 = .ok (.ifCond .eq 16, 3) := by decide +kernel
theorem dX10_divisor_8 : decode cX10_divisor 8 = .ok (.iload_n 2, 1) := by decide +kernel
theorem dX10_divisor_9 : decode cX10_divisor 9 = .ok (.iload_n 3, 1) := by decide +kernel
theorem dX10_divisor_10 : decode cX10_divisor 10 = .ok (.irem, 1) := by decide +kernel
theorem dX10_divisor_11 : decode cX10_divisor 11 = .ok (.istore 4, 2) := by decide +kernel
theorem dX10_divisor_13 : decode cX10_divisor 13 = .ok (.iload_n 3, 1) := by decide +kernel
theorem dX10_divisor_14 : decode cX10_divisor 14 = .ok (.istore_n 2, 1) := by decide +kernel
theorem dX10_divisor_15 : decode cX10_divisor 15 = .ok (.iload 4, 2) := by decide +kernel
theorem dX10_divisor_17 : decode cX10_divisor 17 = .ok (.istore_n 3, 1) := by decide +kernel
theorem dX10_divisor_18 : decode cX10_divisor 18 = .ok (.goto (-14), 3) := by decide +kernel
theorem dX10_divisor_21 : decode cX10_divisor 21 = .ok (.iload_n 2, 1) := by decide +kernel
theorem dX10_divisor_22 : decode cX10_divisor 22 = .ok (.ireturn, 1) := by decide +kernel
theorem dX10_doClash_0 : decode cX10_doClash 0 = .ok (.iload_n 1, 1) := by decide +kernel
theorem dX10_doClash_1 : decode cX10_doClash 1 = .ok (.iload_n 2, 1) := by decide +kernel
theorem dX10_doClash_2 : decode cX10_doClash 2 = .ok (.if_icmp .le 7, 3) := by decide +kernel
theorem dX10_doClash_5 : decode cX10_doClash 5 = .ok (.iload_n 1, 1) := by decide +kernel
theorem dX10_doClash_6 : decode cX10_doClash 6 = .ok (.goto 4, 3) := by decide +kernel
theorem dX10_doClash_9 : decode cX10_doClash 9 = .ok (.iload_n 2, 1) := by decide +kernel
theorem dX10_doClash_10 : decode cX10_doClash 10 = .ok (.istore_n 3, 1) := by decide +kernel
theorem dX10_doClash_11 : decode cX10_doClash 11 = .ok (.iload_n 3, 1) := by decide +kernel
theorem dX10_doClash_12 : decode cX10_doClash 12 = .ok (.iload_n 1, 1) := by decide +kernel
theorem dX10_doClash_13 : decode cX10_doClash 13 = .ok (.iload_n 2, 1) := by decide +kernel
theorem dX10_doClash_14 : decode cX10_doClash 14 = .ok (.invokestatic 95, 3) := by decide +kernel
theorem dX10_doClash_17 : decode cX10_doClash 17 = .ok (.idiv, 1) := by decide +kernel
theorem dX10_doClash_18 : decode cX10_doClash 18 = .ok (.aload_n 0, 1) := by decide +kernel
theorem dX10_doClash_19 : decode cX10_doClash 19 = .ok (.getfield 20, 3) := by decide +kernel
theorem dX10_doClash_22 : decode cX10_doClash 22 = .ok (.if_icmp .le 7, 3) := by decide +kernel
theorem dX10_doClash_25 : decode cX10_doClash 25 = .ok (.iconst 1, 1) := by decide +kernel
theorem dX10_doClash_26 : decode cX10_doClash 26 = .ok (.goto 4, 3) := by decide +kernel
theorem dX10_doClash_29 : decode cX10_doClash 29 = .ok (.iconst 0, 1) := by decide +kernel
theorem dX10_doClash_30 : decode cX10_doClash 30 = .ok (.ireturn, 1) := by decide +kernel
theorem dX10_clashes_0 : decode cX10_clashes 0 = .ok (.iconst 0, 1) := by decide +kernel
theorem dX10_clashes_1 : decode cX10_clashes 1 = .ok (.istore_n 3, 1) := by decide +kernel
theorem dX10_clashes_2 : decode cX10_clashes 2 = .ok (.iconst 0, 1) := by decide +kernel
theorem dX10_clashes_3 : decode cX10_clashes 3 = .ok (.istore 4, 2) := by decide +kernel
theorem dX10_clashes_5 : decode cX10_clashes 5 = .ok (.iload 4, 2) := by decide +kernel
theorem dX10_clashes_7 : decode cX10_clashes 7 = .ok (.aload_n 0, 1) := by decide +kernel
theorem dX10_clashes_8 : decode cX10_clashes 8 = .ok (.getfield 7, 3) := by decide +kernel
theorem dX10_clashes_11 : decode cX10_clashes 11 = .ok (.if_icmp .ge 63, 3) := by decide +kernel
theorem dX10_clashes_14 : decode cX10_clashes 14 = .ok (.iload 4, 2) := by decide +kernel
theorem dX10_clashes_16 : decode cX10_clashes 16 = .ok (.iconst 1, 1) := by decide +kernel
theorem dX10_clashes_17 : decode cX10_clashes 17 = .ok (.iadd, 1) := by decide +kernel
theorem dX10_clashes_18 : decode cX10_clashes 18 = .ok (.istore 5, 2) := by decide +kernel
theorem dX10_clashes_20 : decode cX10_clashes 20 = .ok (.iload 5, 2) := by decide +kernel
theorem dX10_clashes_22 : decode cX10_clashes 22 = .ok (.aload_n 0, 1) := by decide +kernel
theorem dX10_clashes_23 : decode cX10_clashes 23 = .ok (.getfield 7, 3) := by decide +kernel
theorem dX10_clashes_26 : decode cX10_clashes 26 = .ok (.if_icmp .ge 42, 3) := by decide +kernel
theorem dX10_clashes_29 : decode cX10_clashes 29 = .ok (.iload_n 3, 1) := by decide +kernel
theorem dX10_clashes_30 : decode cX10_clashes 30 = .ok (.ifCond .ne 26, 3) := by decide +kernel
theorem dX10_clashes_33 : decode cX10_clashes 33 = .ok (.aload_n 0, 1) := by decide +kernel
theorem dX10_clashes_34 : decode cX10_clashes 34 = .ok (.aload_n 0, 1) := by decide +kernel
theorem dX10_clashes_35 : decode cX10_clashes 35 = .ok (.iload 4, 2) := by decide +kernel
theorem dX10_clashes_37 : decode cX10_clashes 37 = .ok (.iload_n 1, 1) := by decide +kernel
theorem dX10_clashes_38 : decode cX10_clashes 38 = .ok (.iload_n 2, 1) := by decide +kernel
theorem dX10_clashes_39 : decode cX10_clashes 39 = .ok (.invokevirtual 99, 3) := by decide +kernel
theorem dX10_clashes_42 : decode cX10_clashes 42 = .ok (.aload_n 0, 1) := by decide +kernel
theorem dX10_clashes_43 : decode cX10_clashes 43 = .ok (.iload 5, 2) := by decide +kernel
theorem dX10_clashes_45 : decode cX10_clashes 45 = .ok (.iload_n 1, 1) := by decide +kernel
theorem dX10_clashes_46 : decode cX10_clashes 46 = .ok (.iload_n 2, 1) := by decide +kernel
theorem dX10_clashes_47 : decode cX10_clashes 47 = .ok (.invokevirtual 99, 3) := by decide +kernel
theorem dX10_clashes_50 : decode cX10_clashes 50 = .ok (.invokevirtual 103, 3) := by decide +kernel
theorem dX10_clashes_53 : decode cX10_clashes 53 = .ok (.ifCond .eq 7, 3) := by decide +kernel
theorem dX10_clashes_56 : decode cX10_clashes 56 = .ok (.iconst 1, 1) := by decide +kernel
theorem dX10_clashes_57 : decode cX10_clashes 57 = .ok (.goto 4, 3) := by decide +kernel
theorem dX10_clashes_60 : decode cX10_clashes 60 = .ok (.iconst 0, 1) := by decide +kernel
theorem dX10_clashes_61 : decode cX10_clashes 61 = .ok (.istore_n 3, 1) := by decide +kernel
theorem dX10_clashes_62 : decode cX10_clashes 62 = .ok (.iinc 5 1, 3) := by decide +kernel
theorem dX10_clashes_65 : decode cX10_clashes 65 = .ok (.goto (-45), 3) := by decide +kernel
theorem dX10_clashes_68 : decode cX10_clashes 68 = .ok (.iinc 4 1, 3) := by decide +kernel
theorem dX10_clashes_71 : decode cX10_clashes 71 = .ok (.goto (-66), 3) := by decide +kernel
theorem dX10_clashes_74 : decode cX10_clashes 74 = .ok (.iload_n 3, 1) := by decide +kernel
theorem dX10_clashes_75 : decode cX10_clashes 75 = .ok (.ireturn, 1) := by decide +kernel
theorem dX10_whyNot_0 : decode cX10_whyNot 0 = .ok (.iload_n 1, 1) := by decide +kernel
theorem dX10_whyNot_1 : decode cX10_whyNot 1 = .ok (.bipush 43, 2) := by decide +kernel
theorem dX10_whyNot_3 : decode cX10_whyNot 3 = .ok (.if_icmp .ne 20, 3) := by decide +kernel
theorem dX10_whyNot_6 : decode cX10_whyNot 6 = .ok (.aload_n 0, 1) := by decide +kernel
theorem dX10_whyNot_7 : decode cX10_whyNot 7 = .ok (.getfield 106, 3) := by decide +kernel
theorem dX10_whyNot_10 : decode cX10_whyNot 10 = .ok (.bipush 9, 2) := by decide +kernel
theorem dX10_whyNot_12 : decode cX10_whyNot 12 = .ok (.if_icmp .ne 7, 3) := by decide +kernel
theorem dX10_whyNot_15 : decode cX10_whyNot 15 = .ok (.iconst 1, 1) := by decide +kernel
theorem dX10_whyNot_16 : decode cX10_whyNot 16 = .ok (.goto 61, 3) := by decide +kernel
theorem dX10_whyNot_19 : decode cX10_whyNot 19 = .ok (.iconst 0, 1) := by decide +kernel
theorem dX10_whyNot_20 : decode cX10_whyNot 20 = .ok (.goto 57, 3) := by decide +kernel
theorem dX10_whyNot_23 : decode cX10_whyNot 23 = .ok (.iload_n 1, 1) := by decide +kernel
theorem dX10_whyNot_24 : decode cX10_whyNot 24 = .ok (.bipush 45, 2) := by decide +kernel
theorem dX10_whyNot_26 : decode cX10_whyNot 26 = .ok (.if_icmp .ne 18, 3) := by decide +kernel
theorem dX10_whyNot_29 : decode cX10_whyNot 29 = .ok (.aload_n 0, 1) := by decide +kernel
theorem dX10_whyNot_30 : decode cX10_whyNot 30 = .ok (.getfield 106, 3) := by decide +kernel
theorem dX10_whyNot_33 : decode cX10_whyNot 33 = .ok (.ifCond .ne 7, 3) := by decide +kernel
theorem dX10_whyNot_36 : decode cX10_whyNot 36 = .ok (.iconst 2, 1) := by decide +kernel
theorem dX10_whyNot_37 : decode cX10_whyNot 37 = .ok (.goto 40, 3) := by decide +kernel
theorem dX10_whyNot_40 : decode cX10_whyNot 40 = .ok (.iconst 0, 1) := by decide +kernel
theorem dX10_whyNot_41 : decode cX10_whyNot 41 = .ok (.goto 36, 3) := by decide +kernel
theorem dX10_whyNot_44 : decode cX10_whyNot 44 = .ok (.aload_n 0, 1) := by decide +kernel
theorem dX10_whyNot_45 : decode cX10_whyNot 45 = .ok (.getfield 109, 3) := by decide +kernel
theorem dX10_whyNot_48 : decode cX10_whyNot 48 = .ok (.iload_n 1, 1) := by decide +kernel
theorem dX10_whyNot_49 : decode cX10_whyNot 49 = .ok (.bipush 97, 2) := by decide +kernel
theorem dX10_whyNot_51 : decode cX10_whyNot 51 = .ok (.isub, 1) := by decide +kernel
theorem dX10_whyNot_52 : decode cX10_whyNot 52 = .ok (.invokestatic 91, 3) := by decide +kernel
theorem dX10_whyNot_55 : decode cX10_whyNot 55 = .ok (.ifCond .ne 21, 3) := by decide +kernel
theorem dX10_whyNot_58 : decode cX10_whyNot 58 = .ok (.aload_n 0, 1) := by decide +kernel
theorem dX10_whyNot_59 : decode cX10_whyNot 59 = .ok (.getfield 109, 3) := by decide +kernel
theorem dX10_whyNot_62 : decode cX10_whyNot 62 = .ok (.invokestatic 112, 3) := by decide +kernel
theorem dX10_whyNot_65 : decode cX10_whyNot 65 = .ok (.aload_n 0, 1) := by decide +kernel
theorem dX10_whyNot_66 : decode cX10_whyNot 66 = .ok (.invokevirtual 115, 3) := by decide +kernel
theorem dX10_whyNot_69 : decode cX10_whyNot 69 = .ok (.if_icmp .lt 7, 3) := by decide +kernel
theorem dX10_whyNot_72 : decode cX10_whyNot 72 = .ok (.iconst 3, 1) := by decide +kernel
theorem dX10_whyNot_73 : decode cX10_whyNot 73 = .ok (.goto 4, 3) := by decide +kernel
theorem dX10_whyNot_76 : decode cX10_whyNot 76 = .ok (.iconst 0, 1) := by decide +kernel
theorem dX10_whyNot_77 : decode cX10_whyNot 77 = .ok (.ireturn, 1) := by decide +kernel
theorem dX10_act_0 : decode cX10_act 0 = .ok (.iload_n 1, 1) := by decide +kernel
theorem dX10_act_1 : decode cX10_act 1 = .ok (.bipush 43, 2) := by decide +kernel
theorem dX10_act_3 : decode cX10_act 3 = .ok (.if_icmp .eq 9, 3) := by decide +kernel
theorem dX10_act_6 : decode cX10_act 6 = .ok (.iload_n 1, 1) := by decide +kernel
theorem dX10_act_7 : decode cX10_act 7 = .ok (.bipush 45, 2) := by decide +kernel
theorem dX10_act_9 : decode cX10_act 9 = .ok (.if_icmp .ne 26, 3) := by decide +kernel
theorem dX10_act_12 : decode cX10_act 12 = .ok (.aload_n 0, 1) := by decide +kernel
theorem dX10_act_13 : decode cX10_act 13 = .ok (.dup, 1) := by decide +kernel
theorem dX10_act_14 : decode cX10_act 14 = .ok (.getfield 106, 3) := by decide +kernel
theorem dX10_act_17 : decode cX10_act 17 = .ok (.iload_n 1, 1) := by decide +kernel
theorem dX10_act_18 : decode cX10_act 18 = .ok (.bipush 43, 2) := by decide +kernel
theorem dX10_act_20 : decode cX10_act 20 = .ok (.if_icmp .ne 7, 3) := by decide +kernel
theorem dX10_act_23 : decode cX10_act 23 = .ok (.iconst 1, 1) := by decide +kernel
theorem dX10_act_24 : decode cX10_act 24 = .ok (.goto 4, 3) := by decide +kernel
theorem dX10_act_27 : decode cX10_act 27 = .ok (.iconst (-1), 1) := by decide +kernel
theorem dX10_act_28 : decode cX10_act 28 = .ok (.iadd, 1) := by decide +kernel
theorem dX10_act_29 : decode cX10_act 29 = .ok (.putfield 106, 3) := by decide +kernel
theorem dX10_act_32 : decode cX10_act 32 = .ok (.goto 18, 3) := by decide +kernel
theorem dX10_act_35 : decode cX10_act 35 = .ok (.aload_n 0, 1) := by decide +kernel
theorem dX10_act_36 : decode cX10_act 36 = .ok (.dup, 1) := by decide +kernel
theorem dX10_act_37 : decode cX10_act 37 = .ok (.getfield 109, 3) := by decide +kernel
theorem dX10_act_40 : decode cX10_act 40 = .ok (.iconst 1, 1) := by decide +kernel
theorem dX10_act_41 : decode cX10_act 41 = .ok (.iload_n 1, 1) := by decide +kernel
theorem dX10_act_42 : decode cX10_act 42 = .ok (.bipush 97, 2) := by decide +kernel
theorem dX10_act_44 : decode cX10_act 44 = .ok (.isub, 1) := by decide +kernel
theorem dX10_act_45 : decode cX10_act 45 = .ok (.ishl, 1) := by decide +kernel
theorem dX10_act_46 : decode cX10_act 46 = .ok (.ixor, 1) := by decide +kernel
theorem dX10_act_47 : decode cX10_act 47 = .ok (.putfield 109, 3) := by decide +kernel
theorem dX10_act_50 : decode cX10_act 50 = .ok (.return_, 1) := by decide +kernel
theorem dX10_goEvening_0 : decode cX10_goEvening 0 = .ok (.aload_n 0, 1) := by decide +kernel
theorem dX10_goEvening_1 : decode cX10_goEvening 1 = .ok (.aload_n 0, 1) := by decide +kernel
theorem dX10_goEvening_2 : decode cX10_goEvening 2 = .ok (.getfield 63, 3) := by decide +kernel
theorem dX10_goEvening_5 : decode cX10_goEvening 5 = .ok (.putfield 109, 3) := by decide +kernel
theorem dX10_goEvening_8 : decode cX10_goEvening 8 = .ok (.aload_n 0, 1) := by decide +kernel
theorem dX10_goEvening_9 : decode cX10_goEvening 9 = .ok (.aload_n 0, 1) := by decide +kernel
theorem dX10_goEvening_10 : decode cX10_goEvening 10 = .ok (.getfield 60, 3) := by decide +kernel
theorem dX10_goEvening_13 : decode cX10_goEvening 13 = .ok (.putfield 106, 3) := by decide +kernel
theorem dX10_goEvening_16 : decode cX10_goEvening 16 = .ok (.aload_n 0, 1) := by decide +kernel
theorem dX10_goEvening_17 : decode cX10_goEvening 17 = .ok (.iconst 0, 1) := by decide +kernel
theorem dX10_goEvening_18 : decode cX10_goEvening 18 = .ok (.putfield 118, 3) := by decide +kernel
theorem dX10_goEvening_21 : decode cX10_goEvening 21 = .ok (.aload_n 0, 1) := by decide +kernel
theorem dX10_goEvening_22 : decode cX10_goEvening 22 = .ok (.bipush (-6), 2) := by decide +kernel
theorem dX10_goEvening_24 : decode cX10_goEvening 24 = .ok (.putfield 121, 3) := by decide +kernel
theorem dX10_goEvening_27 : decode cX10_goEvening 27 = .ok (.aload_n 0, 1) := by decide +kernel
theorem dX10_goEvening_28 : decode cX10_goEvening 28 = .ok (.iconst 0, 1) := by decide +kernel
theorem dX10_goEvening_29 : decode cX10_goEvening 29 = .ok (.putfield 124, 3) := by decide +kernel
theorem dX10_goEvening_32 : decode cX10_goEvening 32 = .ok (.aload_n 0, 1) := by decide +kernel
theorem dX10_goEvening_33 : decode cX10_goEvening 33 = .ok (.getfield 124, 3) := by decide +kernel
theorem dX10_goEvening_36 : decode cX10_goEvening 36 = .ok (.aload_n 0, 1) := by decide +kernel
theorem dX10_goEvening_37 : decode cX10_goEvening 37 = .ok (.getfield 77, 3) := by decide +kernel
theorem dX10_goEvening_40 : decode cX10_goEvening 40 = .ok (.if_icmp .ge 118, 3) := by decide +kernel
theorem dX10_goEvening_43 : decode cX10_goEvening 43 = .ok (.aload_n 0, 1) := by decide +kernel
theorem dX10_goEvening_44 : decode cX10_goEvening 44 = .ok (.getfield 32, 3) := by decide +kernel
theorem dX10_goEvening_47 : decode cX10_goEvening 47 = .ok (.aload_n 0, 1) := by decide +kernel
theorem dX10_goEvening_48 : decode cX10_goEvening 48 = .ok (.getfield 124, 3) := by decide +kernel
theorem dX10_goEvening_51 : decode cX10_goEvening 51 = .ok (.iaload, 1) := by decide +kernel
theorem dX10_goEvening_52 : decode cX10_goEvening 52 = .ok (.istore_n 1, 1) := by decide +kernel
theorem dX10_goEvening_53 : decode cX10_goEvening 53 = .ok (.aload_n 0, 1) := by decide +kernel
theorem dX10_goEvening_54 : decode cX10_goEvening 54 = .ok (.iload_n 1, 1) := by decide +kernel
theorem dX10_goEvening_55 : decode cX10_goEvening 55 = .ok (.bipush 46, 2) := by decide +kernel
theorem dX10_goEvening_57 : decode cX10_goEvening 57 = .ok (.if_icmp .ne 7, 3) := by decide +kernel
theorem dX10_goEvening_60 : decode cX10_goEvening 60 = .ok (.iconst 0, 1) := by decide +kernel
theorem dX10_goEvening_61 : decode cX10_goEvening 61 = .ok (.goto 8, 3) := by decide +kernel
theorem dX10_goEvening_64 : decode cX10_goEvening 64 = .ok (.aload_n 0, 1) := by decide +kernel
theorem dX10_goEvening_65 : decode cX10_goEvening 65 = .ok (.iload_n 1, 1) := by decide +kernel
theorem dX10_goEvening_66 : decode cX10_goEvening 66 = .ok (.invokevirtual 127, 3) := by decide +kernel
theorem dX10_goEvening_69 : decode cX10_goEvening 69 = .ok (.putfield 130, 3) := by decide +kernel
theorem dX10_goEvening_72 : decode cX10_goEvening 72 = .ok (.aload_n 0, 1) := by decide +kernel
theorem dX10_goEvening_73 : decode cX10_goEvening 73 = .ok (.getfield 130, 3) := by decide +kernel
theorem dX10_goEvening_76 : decode cX10_goEvening 76 = .ok (.ifCond .le 8, 3) := by decide +kernel
theorem dX10_goEvening_79 : decode cX10_goEvening 79 = .ok (.aload_n 0, 1) := by decide +kernel
theorem dX10_goEvening_80 : decode cX10_goEvening 80 = .ok (.getfield 124, 3) := by decide +kernel
theorem dX10_goEvening_83 : decode cX10_goEvening 83 = .ok (.ireturn, 1) := by decide +kernel
theorem dX10_goEvening_84 : decode cX10_goEvening 84 = .ok (.iload_n 1, 1) := by decide +kernel
theorem dX10_goEvening_85 : decode cX10_goEvening 85 = .ok (.bipush 46, 2) := by decide +kernel
theorem dX10_goEvening_87 : decode cX10_goEvening 87 = .ok (.if_icmp .eq 11, 3) := by decide +kernel
theorem dX10_goEvening_90 : decode cX10_goEvening 90 = .ok (.aload_n 0, 1) := by decide +kernel
theorem dX10_goEvening_91 : decode cX10_goEvening 91 = .ok (.iload_n 1, 1) := by decide +kernel
theorem dX10_goEvening_92 : decode cX10_goEvening 92 = .ok (.invokevirtual 133, 3) := by decide +kernel
theorem dX10_goEvening_95 : decode cX10_goEvening 95 = .ok (.goto 50, 3) := by decide +kernel
theorem dX10_goEvening_98 : decode cX10_goEvening 98 = .ok (.aload_n 0, 1) := by decide +kernel
theorem dX10_goEvening_99 : decode cX10_goEvening 99 = .ok (.aload_n 0, 1) := by decide +kernel
theorem dX10_goEvening_100 : decode cX10_goEvening 100 = .ok (.getfield 109, 3) := by decide +kernel
theorem dX10_goEvening_103 : decode cX10_goEvening 103 = .ok (.aload_n 0, 1) := by decide +kernel
theorem dX10_goEvening_104 : decode cX10_goEvening 104 = .ok (.getfield 106, 3) := by decide +kernel
theorem dX10_goEvening_107 : decode cX10_goEvening 107 = .ok (.invokevirtual 137, 3) := by decide +kernel
theorem dX10_goEvening_110 : decode cX10_goEvening 110 = .ok (.ifCond .eq 35, 3) := by decide +kernel
theorem dX10_goEvening_113 : decode cX10_goEvening 113 = .ok (.aload_n 0, 1) := by decide +kernel
theorem dX10_goEvening_114 : decode cX10_goEvening 114 = .ok (.aload_n 0, 1) := by decide +kernel
theorem dX10_goEvening_115 : decode cX10_goEvening 115 = .ok (.getfield 118, 3) := by decide +kernel
theorem dX10_goEvening_118 : decode cX10_goEvening 118 = .ok (.ifCond .ne 10, 3) := by decide +kernel
theorem dX10_goEvening_121 : decode cX10_goEvening 121 = .ok (.aload_n 0, 1) := by decide +kernel
theorem dX10_goEvening_122 : decode cX10_goEvening 122 = .ok (.getfield 124, 3) := by decide +kernel
theorem dX10_goEvening_125 : decode cX10_goEvening 125 = .ok (.goto 7, 3) := by decide +kernel
theorem dX10_goEvening_128 : decode cX10_goEvening 128 = .ok (.aload_n 0, 1) := by decide +kernel
theorem dX10_goEvening_129 : decode cX10_goEvening 129 = .ok (.getfield 121, 3) := by decide +kernel
theorem dX10_goEvening_132 : decode cX10_goEvening 132 = .ok (.putfield 121, 3) := by decide +kernel
theorem dX10_goEvening_135 : decode cX10_goEvening 135 = .ok (.aload_n 0, 1) := by decide +kernel
theorem dX10_goEvening_136 : decode cX10_goEvening 136 = .ok (.dup, 1) := by decide +kernel
theorem dX10_goEvening_137 : decode cX10_goEvening 137 = .ok (.getfield 118, 3) := by decide +kernel
theorem dX10_goEvening_140 : decode cX10_goEvening 140 = .ok (.iconst 1, 1) := by decide +kernel
theorem dX10_goEvening_141 : decode cX10_goEvening 141 = .ok (.iadd, 1) := by decide +kernel
theorem dX10_goEvening_142 : decode cX10_goEvening 142 = .ok (.putfield 118, 3) := by decide +kernel
theorem dX10_goEvening_145 : decode cX10_goEvening 145 = .ok (.aload_n 0, 1) := by decide +kernel
theorem dX10_goEvening_146 : decode cX10_goEvening 146 = .ok (.dup, 1) := by decide +kernel
theorem dX10_goEvening_147 : decode cX10_goEvening 147 = .ok (.getfield 124, 3) := by decide +kernel
theorem dX10_goEvening_150 : decode cX10_goEvening 150 = .ok (.iconst 1, 1) := by decide +kernel
theorem dX10_goEvening_151 : decode cX10_goEvening 151 = .ok (.iadd, 1) := by decide +kernel
theorem dX10_goEvening_152 : decode cX10_goEvening 152 = .ok (.putfield 124, 3) := by decide +kernel
theorem dX10_goEvening_155 : decode cX10_goEvening 155 = .ok (.goto (-123), 3) := by decide +kernel
theorem dX10_goEvening_158 : decode cX10_goEvening 158 = .ok (.bipush (-6), 2) := by decide +kernel
theorem dX10_goEvening_160 : decode cX10_goEvening 160 = .ok (.ireturn, 1) := by decide +kernel
theorem dX10_judge_0 : decode cX10_judge 0 = .ok (.iload_n 1, 1) := by decide +kernel
theorem dX10_judge_1 : decode cX10_judge 1 = .ok (.iconst 0, 1) := by decide +kernel
theorem dX10_judge_2 : decode cX10_judge 2 = .ok (.iconst 1, 1) := by decide +kernel
theorem dX10_judge_3 : decode cX10_judge 3 = .ok (.invokestatic 69, 3) := by decide +kernel
theorem dX10_judge_6 : decode cX10_judge 6 = .ok (.ifCond .ne 6, 3) := by decide +kernel
theorem dX10_judge_9 : decode cX10_judge 9 = .ok (.bipush (-2), 2) := by decide +kernel
theorem dX10_judge_11 : decode cX10_judge 11 = .ok (.ireturn, 1) := by decide +kernel
theorem dX10_judge_12 : decode cX10_judge 12 = .ok (.aload_n 0, 1) := by decide +kernel
theorem dX10_judge_13 : decode cX10_judge 13 = .ok (.invokevirtual 80, 3) := by decide +kernel
theorem dX10_judge_16 : decode cX10_judge 16 = .ok (.ifCond .lt 6, 3) := by decide +kernel
theorem dX10_judge_19 : decode cX10_judge 19 = .ok (.bipush (-5), 2) := by decide +kernel
theorem dX10_judge_21 : decode cX10_judge 21 = .ok (.ireturn, 1) := by decide +kernel
theorem dX10_judge_22 : decode cX10_judge 22 = .ok (.aload_n 0, 1) := by decide +kernel
theorem dX10_judge_23 : decode cX10_judge 23 = .ok (.invokevirtual 140, 3) := by decide +kernel
theorem dX10_judge_26 : decode cX10_judge 26 = .ok (.istore_n 2, 1) := by decide +kernel
theorem dX10_judge_27 : decode cX10_judge 27 = .ok (.iload_n 2, 1) := by decide +kernel
theorem dX10_judge_28 : decode cX10_judge 28 = .ok (.ifCond .lt 7, 3) := by decide +kernel
theorem dX10_judge_31 : decode cX10_judge 31 = .ok (.iload_n 1, 1) := by decide +kernel
theorem dX10_judge_32 : decode cX10_judge 32 = .ok (.ifCond .ne 7, 3) := by decide +kernel
theorem dX10_judge_35 : decode cX10_judge 35 = .ok (.iload_n 2, 1) := by decide +kernel
theorem dX10_judge_36 : decode cX10_judge 36 = .ok (.goto 7, 3) := by decide +kernel
theorem dX10_judge_39 : decode cX10_judge 39 = .ok (.aload_n 0, 1) := by decide +kernel
theorem dX10_judge_40 : decode cX10_judge 40 = .ok (.getfield 130, 3) := by decide +kernel
theorem dX10_judge_43 : decode cX10_judge 43 = .ok (.ireturn, 1) := by decide +kernel
theorem dX10_barOfEvening_0 : decode cX10_barOfEvening 0 = .ok (.aload_n 0, 1) := by decide +kernel
theorem dX10_barOfEvening_1 : decode cX10_barOfEvening 1 = .ok (.invokevirtual 80, 3) := by decide +kernel
theorem dX10_barOfEvening_4 : decode cX10_barOfEvening 4 = .ok (.ifCond .ge 10, 3) := by decide +kernel
theorem dX10_barOfEvening_7 : decode cX10_barOfEvening 7 = .ok (.aload_n 0, 1) := by decide +kernel
theorem dX10_barOfEvening_8 : decode cX10_barOfEvening 8 = .ok (.invokevirtual 140, 3) := by decide +kernel
theorem dX10_barOfEvening_11 : decode cX10_barOfEvening 11 = .ok (.ifCond .lt 8, 3) := by decide +kernel
theorem dX10_barOfEvening_14 : decode cX10_barOfEvening 14 = .ok (.bipush (-5), 2) := by decide +kernel
theorem dX10_barOfEvening_16 : decode cX10_barOfEvening 16 = .ok (.goto 4, 3) := by decide +kernel
theorem dX10_barOfEvening_19 : decode cX10_barOfEvening 19 = .ok (.iconst 0, 1) := by decide +kernel
theorem dX10_barOfEvening_20 : decode cX10_barOfEvening 20 = .ok (.ireturn, 1) := by decide +kernel
theorem dX10_done_0 : decode cX10_done 0 = .ok (.aload_n 0, 1) := by decide +kernel
theorem dX10_done_1 : decode cX10_done 1 = .ok (.invokevirtual 143, 3) := by decide +kernel
theorem dX10_done_4 : decode cX10_done 4 = .ok (.ifCond .ge 6, 3) := by decide +kernel
theorem dX10_done_7 : decode cX10_done 7 = .ok (.bipush (-5), 2) := by decide +kernel
theorem dX10_done_9 : decode cX10_done 9 = .ok (.ireturn, 1) := by decide +kernel
theorem dX10_done_10 : decode cX10_done 10 = .ok (.aload_n 0, 1) := by decide +kernel
theorem dX10_done_11 : decode cX10_done 11 = .ok (.aload_n 0, 1) := by decide +kernel
theorem dX10_done_12 : decode cX10_done 12 = .ok (.getfield 109, 3) := by decide +kernel
theorem dX10_done_15 : decode cX10_done 15 = .ok (.putfield 63, 3) := by decide +kernel
theorem dX10_done_18 : decode cX10_done 18 = .ok (.aload_n 0, 1) := by decide +kernel
theorem dX10_done_19 : decode cX10_done 19 = .ok (.aload_n 0, 1) := by decide +kernel
theorem dX10_done_20 : decode cX10_done 20 = .ok (.getfield 106, 3) := by decide +kernel
theorem dX10_done_23 : decode cX10_done 23 = .ok (.putfield 60, 3) := by decide +kernel
theorem dX10_done_26 : decode cX10_done 26 = .ok (.aload_n 0, 1) := by decide +kernel
theorem dX10_done_27 : decode cX10_done 27 = .ok (.iconst 0, 1) := by decide +kernel
theorem dX10_done_28 : decode cX10_done 28 = .ok (.putfield 77, 3) := by decide +kernel
theorem dX10_done_31 : decode cX10_done 31 = .ok (.aload_n 0, 1) := by decide +kernel
theorem dX10_done_32 : decode cX10_done 32 = .ok (.getfield 124, 3) := by decide +kernel
theorem dX10_done_35 : decode cX10_done 35 = .ok (.ireturn, 1) := by decide +kernel
theorem dX10_hears_0 : decode cX10_hears 0 = .ok (.aload_n 0, 1) := by decide +kernel
theorem dX10_hears_1 : decode cX10_hears 1 = .ok (.iload_n 1, 1) := by decide +kernel
theorem dX10_hears_2 : decode cX10_hears 2 = .ok (.invokevirtual 73, 3) := by decide +kernel
theorem dX10_hears_5 : decode cX10_hears 5 = .ok (.ifCond .eq 19, 3) := by decide +kernel
theorem dX10_hears_8 : decode cX10_hears 8 = .ok (.aload_n 0, 1) := by decide +kernel
theorem dX10_hears_9 : decode cX10_hears 9 = .ok (.iload_n 1, 1) := by decide +kernel
theorem dX10_hears_10 : decode cX10_hears 10 = .ok (.aload_n 0, 1) := by decide +kernel
theorem dX10_hears_11 : decode cX10_hears 11 = .ok (.getfield 63, 3) := by decide +kernel
theorem dX10_hears_14 : decode cX10_hears 14 = .ok (.aload_n 0, 1) := by decide +kernel
theorem dX10_hears_15 : decode cX10_hears 15 = .ok (.getfield 60, 3) := by decide +kernel
theorem dX10_hears_18 : decode cX10_hears 18 = .ok (.invokevirtual 99, 3) := by decide +kernel
theorem dX10_hears_21 : decode cX10_hears 21 = .ok (.goto 4, 3) := by decide +kernel
theorem dX10_hears_24 : decode cX10_hears 24 = .ok (.iconst (-1), 1) := by decide +kernel
theorem dX10_hears_25 : decode cX10_hears 25 = .ok (.ireturn, 1) := by decide +kernel
theorem dX10_behind_0 : decode cX10_behind 0 = .ok (.aload_n 0, 1) := by decide +kernel
theorem dX10_behind_1 : decode cX10_behind 1 = .ok (.iload_n 1, 1) := by decide +kernel
theorem dX10_behind_2 : decode cX10_behind 2 = .ok (.invokevirtual 73, 3) := by decide +kernel
theorem dX10_behind_5 : decode cX10_behind 5 = .ok (.ifCond .ne 5, 3) := by decide +kernel
theorem dX10_behind_8 : decode cX10_behind 8 = .ok (.iconst (-1), 1) := by decide +kernel
theorem dX10_behind_9 : decode cX10_behind 9 = .ok (.ireturn, 1) := by decide +kernel
theorem dX10_behind_10 : decode cX10_behind 10 = .ok (.aload_n 0, 1) := by decide +kernel
theorem dX10_behind_11 : decode cX10_behind 11 = .ok (.invokevirtual 143, 3) := by decide +kernel
theorem dX10_behind_14 : decode cX10_behind 14 = .ok (.ifCond .ge 8, 3) := by decide +kernel
theorem dX10_behind_17 : decode cX10_behind 17 = .ok (.bipush (-5), 2) := by decide +kernel
theorem dX10_behind_19 : decode cX10_behind 19 = .ok (.goto 16, 3) := by decide +kernel
theorem dX10_behind_22 : decode cX10_behind 22 = .ok (.aload_n 0, 1) := by decide +kernel
theorem dX10_behind_23 : decode cX10_behind 23 = .ok (.iload_n 1, 1) := by decide +kernel
theorem dX10_behind_24 : decode cX10_behind 24 = .ok (.aload_n 0, 1) := by decide +kernel
theorem dX10_behind_25 : decode cX10_behind 25 = .ok (.getfield 109, 3) := by decide +kernel
theorem dX10_behind_28 : decode cX10_behind 28 = .ok (.aload_n 0, 1) := by decide +kernel
theorem dX10_behind_29 : decode cX10_behind 29 = .ok (.getfield 106, 3) := by decide +kernel
theorem dX10_behind_32 : decode cX10_behind 32 = .ok (.invokevirtual 99, 3) := by decide +kernel
theorem dX10_behind_35 : decode cX10_behind 35 = .ok (.ireturn, 1) := by decide +kernel
theorem dX10_clashed_0 : decode cX10_clashed 0 = .ok (.iload_n 1, 1) := by decide +kernel
theorem dX10_clashed_1 : decode cX10_clashed 1 = .ok (.iconst 0, 1) := by decide +kernel
theorem dX10_clashed_2 : decode cX10_clashed 2 = .ok (.iconst 1, 1) := by decide +kernel
theorem dX10_clashed_3 : decode cX10_clashed 3 = .ok (.invokestatic 69, 3) := by decide +kernel
theorem dX10_clashed_6 : decode cX10_clashed 6 = .ok (.ifCond .ne 6, 3) := by decide +kernel
theorem dX10_clashed_9 : decode cX10_clashed 9 = .ok (.bipush (-2), 2) := by decide +kernel
