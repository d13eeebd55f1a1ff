theorem dX0_init_0 : decode cX0_init 0 = .ok (.aload_n 0, 1) := by decide +kernel
theorem dX0_init_1 : decode cX0_init 1 = .ok (.invokespecial 3, 3) := by decide +kernel
theorem dX0_init_4 : decode cX0_init 4 = .ok (.aload_n 0, 1) := by decide +kernel
theorem dX0_init_5 : decode cX0_init 5 = .ok (.sipush 301, 3) := by decide +kernel
theorem dX0_init_8 : decode cX0_init 8 = .ok (.newarray .int, 2) := by decide +kernel
theorem dX0_init_10 : decode cX0_init 10 = .ok (.putfield 9, 3) := by decide +kernel
theorem dX0_init_13 : decode cX0_init 13 = .ok (.aload_n 0, 1) := by decide +kernel
theorem dX0_init_14 : decode cX0_init 14 = .ok (.sipush 301, 3) := by decide +kernel
theorem dX0_init_17 : decode cX0_init 17 = .ok (.newarray .int, 2) := by decide +kernel
theorem dX0_init_19 : decode cX0_init 19 = .ok (.putfield 15, 3) := by decide +kernel
theorem dX0_init_22 : decode cX0_init 22 = .ok (.aload_n 0, 1) := by decide +kernel
theorem dX0_init_23 : decode cX0_init 23 = .ok (.bipush 13, 2) := by decide +kernel
theorem dX0_init_25 : decode cX0_init 25 = .ok (.sipush 301, 3) := by decide +kernel
theorem dX0_init_28 : decode cX0_init 28 = .ok (.multianewarray 18 2, 4) := by decide +kernel
theorem dX0_init_32 : decode cX0_init 32 = .ok (.putfield 20, 3) := by decide +kernel
theorem dX0_init_35 : decode cX0_init 35 = .ok (.return_, 1) := by decide +kernel
theorem dX0_fill_0 : decode cX0_fill 0 = .ok (.aload_n 0, 1) := by decide +kernel
theorem dX0_fill_1 : decode cX0_fill 1 = .ok (.getfield 9, 3) := by decide +kernel
theorem dX0_fill_4 : decode cX0_fill 4 = .ok (.iconst 0, 1) := by decide +kernel
theorem dX0_fill_5 : decode cX0_fill 5 = .ok (.iconst 0, 1) := by decide +kernel
theorem dX0_fill_6 : decode cX0_fill 6 = .ok (.iastore, 1) := by decide +kernel
theorem dX0_fill_7 : decode cX0_fill 7 = .ok (.iconst 1, 1) := by decide +kernel
theorem dX0_fill_8 : decode cX0_fill 8 = .ok (.istore_n 2, 1) := by decide +kernel
theorem dX0_fill_9 : decode cX0_fill 9 = .ok (.iload_n 2, 1) := by decide +kernel
theorem dX0_fill_10 : decode cX0_fill 10 = .ok (.sipush 300, 3) := by decide +kernel
theorem dX0_fill_13 : decode cX0_fill 13 = .ok (.if_icmp .gt 68, 3) := by decide +kernel
theorem dX0_fill_16 : decode cX0_fill 16 = .ok (.sipush 1000, 3) := by decide +kernel
theorem dX0_fill_19 : decode cX0_fill 19 = .ok (.istore_n 3, 1) := by decide +kernel
theorem dX0_fill_20 : decode cX0_fill 20 = .ok (.iconst 0, 1) := by decide +kernel
theorem dX0_fill_21 : decode cX0_fill 21 = .ok (.istore 4, 2) := by decide +kernel
theorem dX0_fill_23 : decode cX0_fill 23 = .ok (.iload 4, 2) := by decide +kernel
theorem dX0_fill_25 : decode cX0_fill 25 = .ok (.aload_n 1, 1) := by decide +kernel
theorem dX0_fill_26 : decode cX0_fill 26 = .ok (.getfield 23, 3) := by decide +kernel
theorem dX0_fill_29 : decode cX0_fill 29 = .ok (.if_icmp .ge 39, 3) := by decide +kernel
theorem dX0_fill_32 : decode cX0_fill 32 = .ok (.iload_n 2, 1) := by decide +kernel
theorem dX0_fill_33 : decode cX0_fill 33 = .ok (.aload_n 1, 1) := by decide +kernel
theorem dX0_fill_34 : decode cX0_fill 34 = .ok (.getfield 29, 3) := by decide +kernel
theorem dX0_fill_37 : decode cX0_fill 37 = .ok (.iload 4, 2) := by decide +kernel
theorem dX0_fill_39 : decode cX0_fill 39 = .ok (.iaload, 1) := by decide +kernel
theorem dX0_fill_40 : decode cX0_fill 40 = .ok (.isub, 1) := by decide +kernel
theorem dX0_fill_41 : decode cX0_fill 41 = .ok (.istore 5, 2) := by decide +kernel
theorem dX0_fill_43 : decode cX0_fill 43 = .ok (.iload 5, 2) := by decide +kernel
theorem dX0_fill_45 : decode cX0_fill 45 = .ok (.ifCond .lt 17, 3) := by decide +kernel
theorem dX0_fill_48 : decode cX0_fill 48 = .ok (.iload_n 3, 1) := by decide +kernel
theorem dX0_fill_49 : decode cX0_fill 49 = .ok (.aload_n 0, 1) := by decide +kernel
theorem dX0_fill_50 : decode cX0_fill 50 = .ok (.getfield 9, 3) := by decide +kernel
theorem dX0_fill_53 : decode cX0_fill 53 = .ok (.iload 5, 2) := by decide +kernel
theorem dX0_fill_55 : decode cX0_fill 55 = .ok (.iaload, 1) := by decide +kernel
theorem dX0_fill_56 : decode cX0_fill 56 = .ok (.iconst 1, 1) := by decide +kernel
theorem dX0_fill_57 : decode cX0_fill 57 = .ok (.iadd, 1) := by decide +kernel
theorem dX0_fill_58 : decode cX0_fill 58 = .ok (.invokestatic 32, 3) := by decide +kernel
theorem dX0_fill_61 : decode cX0_fill 61 = .ok (.istore_n 3, 1) := by decide +kernel
theorem dX0_fill_62 : decode cX0_fill 62 = .ok (.iinc 4 1, 3) := by decide +kernel
theorem dX0_fill_65 : decode cX0_fill 65 = .ok (.goto (-42), 3) := by decide +kernel
theorem dX0_fill_68 : decode cX0_fill 68 = .ok (.aload_n 0, 1) := by decide +kernel
theorem dX0_fill_69 : decode cX0_fill 69 = .ok (.getfield 9, 3) := by decide +kernel
theorem dX0_fill_72 : decode cX0_fill 72 = .ok (.iload_n 2, 1) := by decide +kernel
theorem dX0_fill_73 : decode cX0_fill 73 = .ok (.iload_n 3, 1) := by decide +kernel
theorem dX0_fill_74 : decode cX0_fill 74 = .ok (.iastore, 1) := by decide +kernel
theorem dX0_fill_75 : decode cX0_fill 75 = .ok (.iinc 2 1, 3) := by decide +kernel
theorem dX0_fill_78 : decode cX0_fill 78 = .ok (.goto (-69), 3) := by decide +kernel
theorem dX0_fill_81 : decode cX0_fill 81 = .ok (.return_, 1) := by decide +kernel
theorem dX0_fewestWithin_0 : decode cX0_fewestWithin 0 = .ok (.aload_n 0, 1) := by decide +kernel
theorem dX0_fewestWithin_1 : decode cX0_fewestWithin 1 = .ok (.getfield 9, 3) := by decide +kernel
theorem dX0_fewestWithin_4 : decode cX0_fewestWithin 4 = .ok (.iload_n 1, 1) := by decide +kernel
theorem dX0_fewestWithin_5 : decode cX0_fewestWithin 5 = .ok (.iaload, 1) := by decide +kernel
theorem dX0_fewestWithin_6 : decode cX0_fewestWithin 6 = .ok (.iload_n 2, 1) := by decide +kernel
theorem dX0_fewestWithin_7 : decode cX0_fewestWithin 7 = .ok (.if_icmp .gt 12, 3) := by decide +kernel
theorem dX0_fewestWithin_10 : decode cX0_fewestWithin 10 = .ok (.aload_n 0, 1) := by decide +kernel
theorem dX0_fewestWithin_11 : decode cX0_fewestWithin 11 = .ok (.getfield 9, 3) := by decide +kernel
theorem dX0_fewestWithin_14 : decode cX0_fewestWithin 14 = .ok (.iload_n 1, 1) := by decide +kernel
theorem dX0_fewestWithin_15 : decode cX0_fewestWithin 15 = .ok (.iaload, 1) := by decide +kernel
theorem dX0_fewestWithin_16 : decode cX0_fewestWithin 16 = .ok (.goto 4, 3) := by decide +kernel
theorem dX0_fewestWithin_19 : decode cX0_fewestWithin 19 = .ok (.iconst (-1), 1) := by decide +kernel
theorem dX0_fewestWithin_20 : decode cX0_fewestWithin 20 = .ok (.ireturn, 1) := by decide +kernel
theorem dX0_reachWithin_0 : decode cX0_reachWithin 0 = .ok (.aload_n 0, 1) := by decide +kernel
theorem dX0_reachWithin_1 : decode cX0_reachWithin 1 = .ok (.iconst 1, 1) := by decide +kernel
theorem dX0_reachWithin_2 : decode cX0_reachWithin 2 = .ok (.iload_n 1, 1) := by decide +kernel
theorem dX0_reachWithin_3 : decode cX0_reachWithin 3 = .ok (.invokevirtual 38, 3) := by decide +kernel
theorem dX0_reachWithin_6 : decode cX0_reachWithin 6 = .ok (.istore_n 2, 1) := by decide +kernel
theorem dX0_reachWithin_7 : decode cX0_reachWithin 7 = .ok (.iload_n 2, 1) := by decide +kernel
theorem dX0_reachWithin_8 : decode cX0_reachWithin 8 = .ok (.iconst (-1), 1) := by decide +kernel
theorem dX0_reachWithin_9 : decode cX0_reachWithin 9 = .ok (.if_icmp .ne 9, 3) := by decide +kernel
theorem dX0_reachWithin_12 : decode cX0_reachWithin 12 = .ok (.sipush 300, 3) := by decide +kernel
theorem dX0_reachWithin_15 : decode cX0_reachWithin 15 = .ok (.goto 6, 3) := by decide +kernel
theorem dX0_reachWithin_18 : decode cX0_reachWithin 18 = .ok (.iload_n 2, 1) := by decide +kernel
theorem dX0_reachWithin_19 : decode cX0_reachWithin 19 = .ok (.iconst 1, 1) := by decide +kernel
theorem dX0_reachWithin_20 : decode cX0_reachWithin 20 = .ok (.isub, 1) := by decide +kernel
theorem dX0_reachWithin_21 : decode cX0_reachWithin 21 = .ok (.ireturn, 1) := by decide +kernel
theorem dX0_firstGap_0 : decode cX0_firstGap 0 = .ok (.iload_n 1, 1) := by decide +kernel
theorem dX0_firstGap_1 : decode cX0_firstGap 1 = .ok (.istore_n 3, 1) := by decide +kernel
theorem dX0_firstGap_2 : decode cX0_firstGap 2 = .ok (.iload_n 3, 1) := by decide +kernel
theorem dX0_firstGap_3 : decode cX0_firstGap 3 = .ok (.sipush 300, 3) := by decide +kernel
theorem dX0_firstGap_6 : decode cX0_firstGap 6 = .ok (.if_icmp .gt 21, 3) := by decide +kernel
theorem dX0_firstGap_9 : decode cX0_firstGap 9 = .ok (.aload_n 0, 1) := by decide +kernel
theorem dX0_firstGap_10 : decode cX0_firstGap 10 = .ok (.getfield 9, 3) := by decide +kernel
theorem dX0_firstGap_13 : decode cX0_firstGap 13 = .ok (.iload_n 3, 1) := by decide +kernel
theorem dX0_firstGap_14 : decode cX0_firstGap 14 = .ok (.iaload, 1) := by decide +kernel
theorem dX0_firstGap_15 : decode cX0_firstGap 15 = .ok (.iload_n 2, 1) := by decide +kernel
theorem dX0_firstGap_16 : decode cX0_firstGap 16 = .ok (.if_icmp .le 5, 3) := by decide +kernel
theorem dX0_firstGap_19 : decode cX0_firstGap 19 = .ok (.iload_n 3, 1) := by decide +kernel
theorem dX0_firstGap_20 : decode cX0_firstGap 20 = .ok (.ireturn, 1) := by decide +kernel
theorem dX0_firstGap_21 : decode cX0_firstGap 21 = .ok (.iinc 3 1, 3) := by decide +kernel
theorem dX0_firstGap_24 : decode cX0_firstGap 24 = .ok (.goto (-22), 3) := by decide +kernel
theorem dX0_firstGap_27 : decode cX0_firstGap 27 = .ok (.iconst (-1), 1) := by decide +kernel
theorem dX0_firstGap_28 : decode cX0_firstGap 28 = .ok (.ireturn, 1) := by decide +kernel
theorem dX0_countGaps_0 : decode cX0_countGaps 0 = .ok (.iconst 0, 1) := by decide +kernel
theorem dX0_countGaps_1 : decode cX0_countGaps 1 = .ok (.istore_n 3, 1) := by decide +kernel
theorem dX0_countGaps_2 : decode cX0_countGaps 2 = .ok (.iconst 1, 1) := by decide +kernel
theorem dX0_countGaps_3 : decode cX0_countGaps 3 = .ok (.istore 4, 2) := by decide +kernel
theorem dX0_countGaps_5 : decode cX0_countGaps 5 = .ok (.iload 4, 2) := by decide +kernel
theorem dX0_countGaps_7 : decode cX0_countGaps 7 = .ok (.iload_n 1, 1) := by decide +kernel
theorem dX0_countGaps_8 : decode cX0_countGaps 8 = .ok (.if_icmp .gt 23, 3) := by decide +kernel
theorem dX0_countGaps_11 : decode cX0_countGaps 11 = .ok (.aload_n 0, 1) := by decide +kernel
theorem dX0_countGaps_12 : decode cX0_countGaps 12 = .ok (.getfield 9, 3) := by decide +kernel
theorem dX0_countGaps_15 : decode cX0_countGaps 15 = .ok (.iload 4, 2) := by decide +kernel
theorem dX0_countGaps_17 : decode cX0_countGaps 17 = .ok (.iaload, 1) := by decide +kernel
theorem dX0_countGaps_18 : decode cX0_countGaps 18 = .ok (.iload_n 2, 1) := by decide +kernel
theorem dX0_countGaps_19 : decode cX0_countGaps 19 = .ok (.if_icmp .le 6, 3) := by decide +kernel
theorem dX0_countGaps_22 : decode cX0_countGaps 22 = .ok (.iinc 3 1, 3) := by decide +kernel
theorem dX0_countGaps_25 : decode cX0_countGaps 25 = .ok (.iinc 4 1, 3) := by decide +kernel
theorem dX0_countGaps_28 : decode cX0_countGaps 28 = .ok (.goto (-23), 3) := by decide +kernel
theorem dX0_countGaps_31 : decode cX0_countGaps 31 = .ok (.iload_n 3, 1) := by decide +kernel
theorem dX0_countGaps_32 : decode cX0_countGaps 32 = .ok (.ireturn, 1) := by decide +kernel
theorem dX0_reachWithValue_0 : decode cX0_reachWithValue 0 = .ok (.aload_n 0, 1) := by decide +kernel
theorem dX0_reachWithValue_1 : decode cX0_reachWithValue 1 = .ok (.getfield 15, 3) := by decide +kernel
theorem dX0_reachWithValue_4 : decode cX0_reachWithValue 4 = .ok (.iconst 0, 1) := by decide +kernel
theorem dX0_reachWithValue_5 : decode cX0_reachWithValue 5 = .ok (.iconst 0, 1) := by decide +kernel
theorem dX0_reachWithValue_6 : decode cX0_reachWithValue 6 = .ok (.iastore, 1) := by decide +kernel
theorem dX0_reachWithValue_7 : decode cX0_reachWithValue 7 = .ok (.iconst 1, 1) := by decide +kernel
theorem dX0_reachWithValue_8 : decode cX0_reachWithValue 8 = .ok (.istore_n 3, 1) := by decide +kernel
theorem dX0_reachWithValue_9 : decode cX0_reachWithValue 9 = .ok (.iload_n 3, 1) := by decide +kernel
theorem dX0_reachWithValue_10 : decode cX0_reachWithValue 10 = .ok (.sipush 300, 3) := by decide +kernel
theorem dX0_reachWithValue_13 : decode cX0_reachWithValue 13 = .ok (.if_icmp .gt 57, 3) := by decide +kernel
theorem dX0_reachWithValue_16 : decode cX0_reachWithValue 16 = .ok (.aload_n 0, 1) := by decide +kernel
theorem dX0_reachWithValue_17 : decode cX0_reachWithValue 17 = .ok (.getfield 9, 3) := by decide +kernel
theorem dX0_reachWithValue_20 : decode cX0_reachWithValue 20 = .ok (.iload_n 3, 1) := by decide +kernel
theorem dX0_reachWithValue_21 : decode cX0_reachWithValue 21 = .ok (.iaload, 1) := by decide +kernel
theorem dX0_reachWithValue_22 : decode cX0_reachWithValue 22 = .ok (.istore 4, 2) := by decide +kernel
theorem dX0_reachWithValue_24 : decode cX0_reachWithValue 24 = .ok (.iload_n 3, 1) := by decide +kernel
theorem dX0_reachWithValue_25 : decode cX0_reachWithValue 25 = .ok (.iload_n 1, 1) := by decide +kernel
theorem dX0_reachWithValue_26 : decode cX0_reachWithValue 26 = .ok (.if_icmp .lt 20, 3) := by decide +kernel
theorem dX0_reachWithValue_29 : decode cX0_reachWithValue 29 = .ok (.iload 4, 2) := by decide +kernel
theorem dX0_reachWithValue_31 : decode cX0_reachWithValue 31 = .ok (.aload_n 0, 1) := by decide +kernel
theorem dX0_reachWithValue_32 : decode cX0_reachWithValue 32 = .ok (.getfield 15, 3) := by decide +kernel
theorem dX0_reachWithValue_35 : decode cX0_reachWithValue 35 = .ok (.iload_n 3, 1) := by decide +kernel
theorem dX0_reachWithValue_36 : decode cX0_reachWithValue 36 = .ok (.iload_n 1, 1) := by decide +kernel
theorem dX0_reachWithValue_37 : decode cX0_reachWithValue 37 = .ok (.isub, 1) := by decide +kernel
theorem dX0_reachWithValue_38 : decode cX0_reachWithValue 38 = .ok (.iaload, 1) := by decide +kernel
theorem dX0_reachWithValue_39 : decode cX0_reachWithValue 39 = .ok (.iconst 1, 1) := by decide +kernel
theorem dX0_reachWithValue_40 : decode cX0_reachWithValue 40 = .ok (.iadd, 1) := by decide +kernel
theorem dX0_reachWithValue_41 : decode cX0_reachWithValue 41 = .ok (.invokestatic 32, 3) := by decide +kernel
theorem dX0_reachWithValue_44 : decode cX0_reachWithValue 44 = .ok (.istore 4, 2) := by decide +kernel
theorem dX0_reachWithValue_46 : decode cX0_reachWithValue 46 = .ok (.iload 4, 2) := by decide +kernel
theorem dX0_reachWithValue_48 : decode cX0_reachWithValue 48 = .ok (.iload_n 2, 1) := by decide +kernel
theorem dX0_reachWithValue_49 : decode cX0_reachWithValue 49 = .ok (.if_icmp .le 7, 3) := by decide +kernel
theorem dX0_reachWithValue_52 : decode cX0_reachWithValue 52 = .ok (.iload_n 3, 1) := by decide +kernel
theorem dX0_reachWithValue_53 : decode cX0_reachWithValue 53 = .ok (.iconst 1, 1) := by decide +kernel
theorem dX0_reachWithValue_54 : decode cX0_reachWithValue 54 = .ok (.isub, 1) := by decide +kernel
theorem dX0_reachWithValue_55 : decode cX0_reachWithValue 55 = .ok (.ireturn, 1) := by decide +kernel
theorem dX0_reachWithValue_56 : decode cX0_reachWithValue 56 = .ok (.aload_n 0, 1) := by decide +kernel
theorem dX0_reachWithValue_57 : decode cX0_reachWithValue 57 = .ok (.getfield 15, 3) := by decide +kernel
theorem dX0_reachWithValue_60 : decode cX0_reachWithValue 60 = .ok (.iload_n 3, 1) := by decide +kernel
theorem dX0_reachWithValue_61 : decode cX0_reachWithValue 61 = .ok (.iload 4, 2) := by decide +kernel
theorem dX0_reachWithValue_63 : decode cX0_reachWithValue 63 = .ok (.iastore, 1) := by decide +kernel
theorem dX0_reachWithValue_64 : decode cX0_reachWithValue 64 = .ok (.iinc 3 1, 3) := by decide +kernel
theorem dX0_reachWithValue_67 : decode cX0_reachWithValue 67 = .ok (.goto (-58), 3) := by decide +kernel
theorem dX0_reachWithValue_70 : decode cX0_reachWithValue 70 = .ok (.sipush 300, 3) := by decide +kernel
theorem dX0_reachWithValue_73 : decode cX0_reachWithValue 73 = .ok (.ireturn, 1) := by decide +kernel
theorem dX0_countChoices_0 : decode cX0_countChoices 0 = .ok (.aload_n 0, 1) := by decide +kernel
theorem dX0_countChoices_1 : decode cX0_countChoices 1 = .ok (.iload_n 2, 1) := by decide +kernel
theorem dX0_countChoices_2 : decode cX0_countChoices 2 = .ok (.iload_n 3, 1) := by decide +kernel
theorem dX0_countChoices_3 : decode cX0_countChoices 3 = .ok (.invokevirtual 41, 3) := by decide +kernel
theorem dX0_countChoices_6 : decode cX0_countChoices 6 = .ok (.iconst 0, 1) := by decide +kernel
theorem dX0_countChoices_7 : decode cX0_countChoices 7 = .ok (.istore 4, 2) := by decide +kernel
theorem dX0_countChoices_9 : decode cX0_countChoices 9 = .ok (.iload 4, 2) := by decide +kernel
theorem dX0_countChoices_11 : decode cX0_countChoices 11 = .ok (.aload_n 1, 1) := by decide +kernel
theorem dX0_countChoices_12 : decode cX0_countChoices 12 = .ok (.getfield 23, 3) := by decide +kernel
theorem dX0_countChoices_15 : decode cX0_countChoices 15 = .ok (.if_icmp .ge 22, 3) := by decide +kernel
theorem dX0_countChoices_18 : decode cX0_countChoices 18 = .ok (.aload_n 0, 1) := by decide +kernel
theorem dX0_countChoices_19 : decode cX0_countChoices 19 = .ok (.aload_n 1, 1) := by decide +kernel
theorem dX0_countChoices_20 : decode cX0_countChoices 20 = .ok (.getfield 29, 3) := by decide +kernel
theorem dX0_countChoices_23 : decode cX0_countChoices 23 = .ok (.iload 4, 2) := by decide +kernel
theorem dX0_countChoices_25 : decode cX0_countChoices 25 = .ok (.iaload, 1) := by decide +kernel
theorem dX0_countChoices_26 : decode cX0_countChoices 26 = .ok (.iload_n 2, 1) := by decide +kernel
theorem dX0_countChoices_27 : decode cX0_countChoices 27 = .ok (.iload_n 3, 1) := by decide +kernel
theorem dX0_countChoices_28 : decode cX0_countChoices 28 = .ok (.invokevirtual 45, 3) := by decide +kernel
theorem dX0_countChoices_31 : decode cX0_countChoices 31 = .ok (.iinc 4 1, 3) := by decide +kernel
theorem dX0_countChoices_34 : decode cX0_countChoices 34 = .ok (.goto (-25), 3) := by decide +kernel
theorem dX0_countChoices_37 : decode cX0_countChoices 37 = .ok (.iconst 0, 1) := by decide +kernel
theorem dX0_countChoices_38 : decode cX0_countChoices 38 = .ok (.istore 4, 2) := by decide +kernel
theorem dX0_countChoices_40 : decode cX0_countChoices 40 = .ok (.iconst 0, 1) := by decide +kernel
theorem dX0_countChoices_41 : decode cX0_countChoices 41 = .ok (.istore 5, 2) := by decide +kernel
theorem dX0_countChoices_43 : decode cX0_countChoices 43 = .ok (.iload 5, 2) := by decide +kernel
theorem dX0_countChoices_45 : decode cX0_countChoices 45 = .ok (.iload_n 2, 1) := by decide +kernel
theorem dX0_countChoices_46 : decode cX0_countChoices 46 = .ok (.if_icmp .gt 23, 3) := by decide +kernel
theorem dX0_countChoices_49 : decode cX0_countChoices 49 = .ok (.iload 4, 2) := by decide +kernel
theorem dX0_countChoices_51 : decode cX0_countChoices 51 = .ok (.aload_n 0, 1) := by decide +kernel
theorem dX0_countChoices_52 : decode cX0_countChoices 52 = .ok (.getfield 20, 3) := by decide +kernel
theorem dX0_countChoices_55 : decode cX0_countChoices 55 = .ok (.iload 5, 2) := by decide +kernel
theorem dX0_countChoices_57 : decode cX0_countChoices 57 = .ok (.aaload, 1) := by decide +kernel
theorem dX0_countChoices_58 : decode cX0_countChoices 58 = .ok (.iload_n 3, 1) := by decide +kernel
theorem dX0_countChoices_59 : decode cX0_countChoices 59 = .ok (.iaload, 1) := by decide +kernel
theorem dX0_countChoices_60 : decode cX0_countChoices 60 = .ok (.iadd, 1) := by decide +kernel
theorem dX0_countChoices_61 : decode cX0_countChoices 61 = .ok (.istore 4, 2) := by decide +kernel
theorem dX0_countChoices_63 : decode cX0_countChoices 63 = .ok (.iinc 5 1, 3) := by decide +kernel
theorem dX0_countChoices_66 : decode cX0_countChoices 66 = .ok (.goto (-23), 3) := by decide +kernel
theorem dX0_countChoices_69 : decode cX0_countChoices 69 = .ok (.iload 4, 2) := by decide +kernel
theorem dX0_countChoices_71 : decode cX0_countChoices 71 = .ok (.ireturn, 1) := by decide +kernel
theorem dX0_clearChoices_0 : decode cX0_clearChoices 0 = .ok (.iconst 0, 1) := by decide +kernel
theorem dX0_clearChoices_1 : decode cX0_clearChoices 1 = .ok (.istore_n 3, 1) := by decide +kernel
theorem dX0_clearChoices_2 : decode cX0_clearChoices 2 = .ok (.iload_n 3, 1) := by decide +kernel
theorem dX0_clearChoices_3 : decode cX0_clearChoices 3 = .ok (.iload_n 1, 1) := by decide +kernel
theorem dX0_clearChoices_4 : decode cX0_clearChoices 4 = .ok (.if_icmp .gt 34, 3) := by decide +kernel
theorem dX0_clearChoices_7 : decode cX0_clearChoices 7 = .ok (.iconst 0, 1) := by decide +kernel
theorem dX0_clearChoices_8 : decode cX0_clearChoices 8 = .ok (.istore 4, 2) := by decide +kernel
theorem dX0_clearChoices_10 : decode cX0_clearChoices 10 = .ok (.iload 4, 2) := by decide +kernel
theorem dX0_clearChoices_12 : decode cX0_clearChoices 12 = .ok (.iload_n 2, 1) := by decide +kernel
theorem dX0_clearChoices_13 : decode cX0_clearChoices 13 = .ok (.if_icmp .gt 19, 3) := by decide +kernel
theorem dX0_clearChoices_16 : decode cX0_clearChoices 16 = .ok (.aload_n 0, 1) := by decide +kernel
theorem dX0_clearChoices_17 : decode cX0_clearChoices 17 = .ok (.getfield 20, 3) := by decide +kernel
theorem dX0_clearChoices_20 : decode cX0_clearChoices 20 = .ok (.iload_n 3, 1) := by decide +kernel
theorem dX0_clearChoices_21 : decode cX0_clearChoices 21 = .ok (.aaload, 1) := by decide +kernel
theorem dX0_clearChoices_22 : decode cX0_clearChoices 22 = .ok (.iload 4, 2) := by decide +kernel
theorem dX0_clearChoices_24 : decode cX0_clearChoices 24 = .ok (.iconst 0, 1) := by decide +kernel
theorem dX0_clearChoices_25 : decode cX0_clearChoices 25 = .ok (.iastore, 1) := by decide +kernel
theorem dX0_clearChoices_26 : decode cX0_clearChoices 26 = .ok (.iinc 4 1, 3) := by decide +kernel
theorem dX0_clearChoices_29 : decode cX0_clearChoices 29 = .ok (.goto (-19), 3) := by decide +kernel
theorem dX0_clearChoices_32 : decode cX0_clearChoices 32 = .ok (.iinc 3 1, 3) := by decide +kernel
theorem dX0_clearChoices_35 : decode cX0_clearChoices 35 = .ok (.goto (-33), 3) := by decide +kernel
theorem dX0_clearChoices_38 : decode cX0_clearChoices 38 = .ok (.aload_n 0, 1) := by decide +kernel
theorem dX0_clearChoices_39 : decode cX0_clearChoices 39 = .ok (.getfield 20, 3) := by decide +kernel
theorem dX0_clearChoices_42 : decode cX0_clearChoices 42 = .ok (.iconst 0, 1) := by decide +kernel
theorem dX0_clearChoices_43 : decode cX0_clearChoices 43 = .ok (.aaload, 1) := by decide +kernel
theorem dX0_clearChoices_44 : decode cX0_clearChoices 44 = .ok (.iconst 0, 1) := by decide +kernel
theorem dX0_clearChoices_45 : decode cX0_clearChoices 45 = .ok (.iconst 1, 1) := by decide +kernel
theorem dX0_clearChoices_46 : decode cX0_clearChoices 46 = .ok (.iastore, 1) := by decide +kernel
theorem dX0_clearChoices_47 : decode cX0_clearChoices 47 = .ok (.return_, 1) := by decide +kernel
theorem dX0_addChoicesWith_0 : decode cX0_addChoicesWith 0 = .ok (.iconst 1, 1) := by decide +kernel
theorem dX0_addChoicesWith_1 : decode cX0_addChoicesWith 1 = .ok (.istore 4, 2) := by decide +kernel
theorem dX0_addChoicesWith_3 : decode cX0_addChoicesWith 3 = .ok (.iload 4, 2) := by decide +kernel
theorem dX0_addChoicesWith_5 : decode cX0_addChoicesWith 5 = .ok (.iload_n 2, 1) := by decide +kernel
theorem dX0_addChoicesWith_6 : decode cX0_addChoicesWith 6 = .ok (.if_icmp .gt 51, 3) := by decide +kernel
theorem dX0_addChoicesWith_9 : decode cX0_addChoicesWith 9 = .ok (.iload_n 1, 1) := by decide +kernel
theorem dX0_addChoicesWith_10 : decode cX0_addChoicesWith 10 = .ok (.istore 5, 2) := by decide +kernel
theorem dX0_addChoicesWith_12 : decode cX0_addChoicesWith 12 = .ok (.iload 5, 2) := by decide +kernel
theorem dX0_addChoicesWith_14 : decode cX0_addChoicesWith 14 = .ok (.iload_n 3, 1) := by decide +kernel
theorem dX0_addChoicesWith_15 : decode cX0_addChoicesWith 15 = .ok (.if_icmp .gt 36, 3) := by decide +kernel
theorem dX0_addChoicesWith_18 : decode cX0_addChoicesWith 18 = .ok (.aload_n 0, 1) := by decide +kernel
theorem dX0_addChoicesWith_19 : decode cX0_addChoicesWith 19 = .ok (.getfield 20, 3) := by decide +kernel
theorem dX0_addChoicesWith_22 : decode cX0_addChoicesWith 22 = .ok (.iload 4, 2) := by decide +kernel
theorem dX0_addChoicesWith_24 : decode cX0_addChoicesWith 24 = .ok (.aaload, 1) := by decide +kernel
theorem dX0_addChoicesWith_25 : decode cX0_addChoicesWith 25 = .ok (.iload 5, 2) := by decide +kernel
theorem dX0_addChoicesWith_27 : decode cX0_addChoicesWith 27 = .ok (.dup2, 1) := by decide +kernel
theorem dX0_addChoicesWith_28 : decode cX0_addChoicesWith 28 = .ok (.iaload, 1) := by decide +kernel
theorem dX0_addChoicesWith_29 : decode cX0_addChoicesWith 29 = .ok (.aload_n 0, 1) := by decide +kernel
theorem dX0_addChoicesWith_30 : decode cX0_addChoicesWith 30 = .ok (.getfield 20, 3) := by decide +kernel
theorem dX0_addChoicesWith_33 : decode cX0_addChoicesWith 33 = .ok (.iload 4, 2) := by decide +kernel
theorem dX0_addChoicesWith_35 : decode cX0_addChoicesWith 35 = .ok (.iconst 1, 1) := by decide +kernel
theorem dX0_addChoicesWith_36 : decode cX0_addChoicesWith 36 = .ok (.isub, 1) := by decide +kernel
theorem dX0_addChoicesWith_37 : decode cX0_addChoicesWith 37 = .ok (.aaload, 1) := by decide +kernel
theorem dX0_addChoicesWith_38 : decode cX0_addChoicesWith 38 = .ok (.iload 5, 2) := by decide +kernel
theorem dX0_addChoicesWith_40 : decode cX0_addChoicesWith 40 = .ok (.iload_n 1, 1) := by decide +kernel
theorem dX0_addChoicesWith_41 : decode cX0_addChoicesWith 41 = .ok (.isub, 1) := by decide +kernel
theorem dX0_addChoicesWith_42 : decode cX0_addChoicesWith 42 = .ok (.iaload, 1) := by decide +kernel
theorem dX0_addChoicesWith_43 : decode cX0_addChoicesWith 43 = .ok (.iadd, 1) := by decide +kernel
theorem dX0_addChoicesWith_44 : decode cX0_addChoicesWith 44 = .ok (.iastore, 1) := by decide +kernel
theorem dX0_addChoicesWith_45 : decode cX0_addChoicesWith 45 = .ok (.iinc 5 1, 3) := by decide +kernel
theorem dX0_addChoicesWith_48 : decode cX0_addChoicesWith 48 = .ok (.goto (-36), 3) := by decide +kernel
theorem dX0_addChoicesWith_51 : decode cX0_addChoicesWith 51 = .ok (.iinc 4 1, 3) := by decide +kernel
theorem dX0_addChoicesWith_54 : decode cX0_addChoicesWith 54 = .ok (.goto (-51), 3) := by decide +kernel
theorem dX0_addChoicesWith_57 : decode cX0_addChoicesWith 57 = .ok (.return_, 1) := by decide +kernel
theorem dX1_init_0 : decode cX1_init 0 = .ok (.aload_n 0, 1) := by decide +kernel
theorem dX1_init_1 : decode cX1_init 1 = .ok (.invokespecial 3, 3) := by decide +kernel
theorem dX1_init_4 : decode cX1_init 4 = .ok (.aload_n 0, 1) := by decide +kernel
theorem dX1_init_5 : decode cX1_init 5 = .ok (.bipush 8, 2) := by decide +kernel
theorem dX1_init_7 : decode cX1_init 7 = .ok (.newarray .int, 2) := by decide +kernel
theorem dX1_init_9 : decode cX1_init 9 = .ok (.putfield 9, 3) := by decide +kernel
theorem dX1_init_12 : decode cX1_init 12 = .ok (.aload_n 0, 1) := by decide +kernel
theorem dX1_init_13 : decode cX1_init 13 = .ok (.bipush 8, 2) := by decide +kernel
theorem dX1_init_15 : decode cX1_init 15 = .ok (.newarray .int, 2) := by decide +kernel
theorem dX1_init_17 : decode cX1_init 17 = .ok (.putfield 15, 3) := by decide +kernel
theorem dX1_init_20 : decode cX1_init 20 = .ok (.aload_n 0, 1) := by decide +kernel
theorem dX1_init_21 : decode cX1_init 21 = .ok (.bipush 8, 2) := by decide +kernel
theorem dX1_init_23 : decode cX1_init 23 = .ok (.newarray .int, 2) := by decide +kernel
theorem dX1_init_25 : decode cX1_init 25 = .ok (.putfield 18, 3) := by decide +kernel
theorem dX1_init_28 : decode cX1_init 28 = .ok (.aload_n 0, 1) := by decide +kernel
theorem dX1_init_29 : decode cX1_init 29 = .ok (.iconst 0, 1) := by decide +kernel
theorem dX1_init_30 : decode cX1_init 30 = .ok (.putfield 21, 3) := by decide +kernel
theorem dX1_init_33 : decode cX1_init 33 = .ok (.return_, 1) := by decide +kernel
theorem dX1_hasValue_0 : decode cX1_hasValue 0 = .ok (.iconst 0, 1) := by decide +kernel
theorem dX1_hasValue_1 : decode cX1_hasValue 1 = .ok (.istore_n 2, 1) := by decide +kernel
theorem dX1_hasValue_2 : decode cX1_hasValue 2 = .ok (.iload_n 2, 1) := by decide +kernel
theorem dX1_hasValue_3 : decode cX1_hasValue 3 = .ok (.aload_n 0, 1) := by decide +kernel
theorem dX1_hasValue_4 : decode cX1_hasValue 4 = .ok (.getfield 21, 3) := by decide +kernel
theorem dX1_hasValue_7 : decode cX1_hasValue 7 = .ok (.if_icmp .ge 21, 3) := by decide +kernel
theorem dX1_hasValue_10 : decode cX1_hasValue 10 = .ok (.aload_n 0, 1) := by decide +kernel
theorem dX1_hasValue_11 : decode cX1_hasValue 11 = .ok (.getfield 9, 3) := by decide +kernel
theorem dX1_hasValue_14 : decode cX1_hasValue 14 = .ok (.iload_n 2, 1) := by decide +kernel
theorem dX1_hasValue_15 : decode cX1_hasValue 15 = .ok (.iaload, 1) := by decide +kernel
theorem dX1_hasValue_16 : decode cX1_hasValue 16 = .ok (.iload_n 1, 1) := by decide +kernel
theorem dX1_hasValue_17 : decode cX1_hasValue 17 = .ok (.if_icmp .ne 5, 3) := by decide +kernel
theorem dX1_hasValue_20 : decode cX1_hasValue 20 = .ok (.iconst 1, 1) := by decide +kernel
theorem dX1_hasValue_21 : decode cX1_hasValue 21 = .ok (.ireturn, 1) := by decide +kernel
theorem dX1_hasValue_22 : decode cX1_hasValue 22 = .ok (.iinc 2 1, 3) := by decide +kernel
theorem dX1_hasValue_25 : decode cX1_hasValue 25 = .ok (.goto (-23), 3) := by decide +kernel
theorem dX1_hasValue_28 : decode cX1_hasValue 28 = .ok (.iconst 0, 1) := by decide +kernel
theorem dX1_hasValue_29 : decode cX1_hasValue 29 = .ok (.ireturn, 1) := by decide +kernel
theorem dX1_countAbove_0 : decode cX1_countAbove 0 = .ok (.iconst 0, 1) := by decide +kernel
theorem dX1_countAbove_1 : decode cX1_countAbove 1 = .ok (.istore_n 2, 1) := by decide +kernel
theorem dX1_countAbove_2 : decode cX1_countAbove 2 = .ok (.iconst 0, 1) := by decide +kernel
theorem dX1_countAbove_3 : decode cX1_countAbove 3 = .ok (.istore_n 3, 1) := by decide +kernel
theorem dX1_countAbove_4 : decode cX1_countAbove 4 = .ok (.iload_n 3, 1) := by decide +kernel
theorem dX1_countAbove_5 : decode cX1_countAbove 5 = .ok (.aload_n 0, 1) := by decide +kernel
theorem dX1_countAbove_6 : decode cX1_countAbove 6 = .ok (.getfield 21, 3) := by decide +kernel
theorem dX1_countAbove_9 : decode cX1_countAbove 9 = .ok (.if_icmp .ge 27, 3) := by decide +kernel
theorem dX1_countAbove_12 : decode cX1_countAbove 12 = .ok (.aload_n 0, 1) := by decide +kernel
theorem dX1_countAbove_13 : decode cX1_countAbove 13 = .ok (.getfield 9, 3) := by decide +kernel
theorem dX1_countAbove_16 : decode cX1_countAbove 16 = .ok (.iload_n 3, 1) := by decide +kernel
theorem dX1_countAbove_17 : decode cX1_countAbove 17 = .ok (.iaload, 1) := by decide +kernel
theorem dX1_countAbove_18 : decode cX1_countAbove 18 = .ok (.aload_n 0, 1) := by decide +kernel
theorem dX1_countAbove_19 : decode cX1_countAbove 19 = .ok (.getfield 9, 3) := by decide +kernel
theorem dX1_countAbove_22 : decode cX1_countAbove 22 = .ok (.iload_n 1, 1) := by decide +kernel
theorem dX1_countAbove_23 : decode cX1_countAbove 23 = .ok (.iaload, 1) := by decide +kernel
theorem dX1_countAbove_24 : decode cX1_countAbove 24 = .ok (.if_icmp .le 6, 3) := by decide +kernel
theorem dX1_countAbove_27 : decode cX1_countAbove 27 = .ok (.iinc 2 1, 3) := by decide +kernel
theorem dX1_countAbove_30 : decode cX1_countAbove 30 = .ok (.iinc 3 1, 3) := by decide +kernel
theorem dX1_countAbove_33 : decode cX1_countAbove 33 = .ok (.goto (-29), 3) := by decide +kernel
theorem dX1_countAbove_36 : decode cX1_countAbove 36 = .ok (.iload_n 2, 1) := by decide +kernel
theorem dX1_countAbove_37 : decode cX1_countAbove 37 = .ok (.ireturn, 1) := by decide +kernel
theorem dX1_append_0 : decode cX1_append 0 = .ok (.aload_n 0, 1) := by decide +kernel
theorem dX1_append_1 : decode cX1_append 1 = .ok (.getfield 21, 3) := by decide +kernel
theorem dX1_append_4 : decode cX1_append 4 = .ok (.istore_n 3, 1) := by decide +kernel
theorem dX1_append_5 : decode cX1_append 5 = .ok (.iload_n 3, 1) := by decide +kernel
theorem dX1_append_6 : decode cX1_append 6 = .ok (.bipush 8, 2) := by decide +kernel
theorem dX1_append_8 : decode cX1_append 8 = .ok (.if_icmp .lt 5, 3) := by decide +kernel
theorem dX1_append_11 : decode cX1_append 11 = .ok (.iconst (-1), 1) := by decide +kernel
theorem dX1_append_12 : decode cX1_append 12 = .ok (.ireturn, 1) := by decide +kernel
theorem dX1_append_13 : decode cX1_append 13 = .ok (.aload_n 0, 1) := by decide +kernel
theorem dX1_append_14 : decode cX1_append 14 = .ok (.getfield 9, 3) := by decide +kernel
theorem dX1_append_17 : decode cX1_append 17 = .ok (.iload_n 3, 1) := by decide +kernel
theorem dX1_append_18 : decode cX1_append 18 = .ok (.iload_n 1, 1) := by decide +kernel
theorem dX1_append_19 : decode cX1_append 19 = .ok (.iastore, 1) := by decide +kernel
theorem dX1_append_20 : decode cX1_append 20 = .ok (.aload_n 0, 1) := by decide +kernel
theorem dX1_append_21 : decode cX1_append 21 = .ok (.getfield 15, 3) := by decide +kernel
theorem dX1_append_24 : decode cX1_append 24 = .ok (.iload_n 3, 1) := by decide +kernel
theorem dX1_append_25 : decode cX1_append 25 = .ok (.iload_n 2, 1) := by decide +kernel
theorem dX1_append_26 : decode cX1_append 26 = .ok (.iastore, 1) := by decide +kernel
theorem dX1_append_27 : decode cX1_append 27 = .ok (.aload_n 0, 1) := by decide +kernel
theorem dX1_append_28 : decode cX1_append 28 = .ok (.getfield 18, 3) := by decide +kernel
theorem dX1_append_31 : decode cX1_append 31 = .ok (.iload_n 3, 1) := by decide +kernel
theorem dX1_append_32 : decode cX1_append 32 = .ok (.iconst 0, 1) := by decide +kernel
theorem dX1_append_33 : decode cX1_append 33 = .ok (.iastore, 1) := by decide +kernel
theorem dX1_append_34 : decode cX1_append 34 = .ok (.aload_n 0, 1) := by decide +kernel
theorem dX1_append_35 : decode cX1_append 35 = .ok (.iload_n 3, 1) := by decide +kernel
theorem dX1_append_36 : decode cX1_append 36 = .ok (.iconst 1, 1) := by decide +kernel
theorem dX1_append_37 : decode cX1_append 37 = .ok (.iadd, 1) := by decide +kernel
theorem dX1_append_38 : decode cX1_append 38 = .ok (.putfield 21, 3) := by decide +kernel
theorem dX1_append_41 : decode cX1_append 41 = .ok (.iload_n 3, 1) := by decide +kernel
theorem dX1_append_42 : decode cX1_append 42 = .ok (.ireturn, 1) := by decide +kernel
theorem dX1_removeAt_0 : decode cX1_removeAt 0 = .ok (.iload_n 1, 1) := by decide +kernel
theorem dX1_removeAt_1 : decode cX1_removeAt 1 = .ok (.iconst 1, 1) := by decide +kernel
theorem dX1_removeAt_2 : decode cX1_removeAt 2 = .ok (.iadd, 1) := by decide +kernel
theorem dX1_removeAt_3 : decode cX1_removeAt 3 = .ok (.istore_n 2, 1) := by decide +kernel
theorem dX1_removeAt_4 : decode cX1_removeAt 4 = .ok (.iload_n 2, 1) := by decide +kernel
theorem dX1_removeAt_5 : decode cX1_removeAt 5 = .ok (.aload_n 0, 1) := by decide +kernel
theorem dX1_removeAt_6 : decode cX1_removeAt 6 = .ok (.getfield 21, 3) := by decide +kernel
theorem dX1_removeAt_9 : decode cX1_removeAt 9 = .ok (.if_icmp .ge 51, 3) := by decide +kernel
theorem dX1_removeAt_12 : decode cX1_removeAt 12 = .ok (.aload_n 0, 1) := by decide +kernel
theorem dX1_removeAt_13 : decode cX1_removeAt 13 = .ok (.getfield 9, 3) := by decide +kernel
theorem dX1_removeAt_16 : decode cX1_removeAt 16 = .ok (.iload_n 2, 1) := by decide +kernel
theorem dX1_removeAt_17 : decode cX1_removeAt 17 = .ok (.iconst 1, 1) := by decide +kernel
theorem dX1_removeAt_18 : decode cX1_removeAt 18 = .ok (.isub, 1) := by decide +kernel
theorem dX1_removeAt_19 : decode cX1_removeAt 19 = .ok (.aload_n 0, 1) := by decide +kernel
theorem dX1_removeAt_20 : decode cX1_removeAt 20 = .ok (.getfield 9, 3) := by decide +kernel
theorem dX1_removeAt_23 : decode cX1_removeAt 23 = .ok (.iload_n 2, 1) := by decide +kernel
theorem dX1_removeAt_24 : decode cX1_removeAt 24 = .ok (.iaload, 1) := by decide +kernel
theorem dX1_removeAt_25 : decode cX1_removeAt 25 = .ok (.iastore, 1) := by decide +kernel
theorem dX1_removeAt_26 : decode cX1_removeAt 26 = .ok (.aload_n 0, 1) := by decide +kernel
theorem dX1_removeAt_27 : decode cX1_removeAt 27 = .ok (.getfield 15, 3) := by decide +kernel
theorem dX1_removeAt_30 : decode cX1_removeAt 30 = .ok (.iload_n 2, 1) := by decide +kernel
theorem dX1_removeAt_31 : decode cX1_removeAt 31 = .ok (.iconst 1, 1) := by decide +kernel
theorem dX1_removeAt_32 : decode cX1_removeAt 32 = .ok (.isub, 1) := by decide +kernel
theorem dX1_removeAt_33 : decode cX1_removeAt 33 = .ok (.aload_n 0, 1) := by decide +kernel
theorem dX1_removeAt_34 : decode cX1_removeAt 34 = .ok (.getfield 15, 3) := by decide +kernel
theorem dX1_removeAt_37 : decode cX1_removeAt 37 = .ok (.iload_n 2, 1) := by decide +kernel
theorem dX1_removeAt_38 : decode cX1_removeAt 38 = .ok (.iaload, 1) := by decide +kernel
theorem dX1_removeAt_39 : decode cX1_removeAt 39 = .ok (.iastore, 1) := by decide +kernel
theorem dX1_removeAt_40 : decode cX1_removeAt 40 = .ok (.aload_n 0, 1) := by decide +kernel
theorem dX1_removeAt_41 : decode cX1_removeAt 41 = .ok (.getfield 18, 3) := by decide +kernel
theorem dX1_removeAt_44 : decode cX1_removeAt 44 = .ok (.iload_n 2, 1) := by decide +kernel
theorem dX1_removeAt_45 : decode cX1_removeAt 45 = .ok (.iconst 1, 1) := by decide +kernel
theorem dX1_removeAt_46 : decode cX1_removeAt 46 = .ok (.isub, 1) := by decide +kernel
theorem dX1_removeAt_47 : decode cX1_removeAt 47 = .ok (.aload_n 0, 1) := by decide +kernel
theorem dX1_removeAt_48 : decode cX1_removeAt 48 = .ok (.getfield 18, 3) := by decide +kernel
theorem dX1_removeAt_51 : decode cX1_removeAt 51 = .ok (.iload_n 2, 1) := by decide +kernel
theorem dX1_removeAt_52 : decode cX1_removeAt 52 = .ok (.iaload, 1) := by decide +kernel
theorem dX1_removeAt_53 : decode cX1_removeAt 53 = .ok (.iastore, 1) := by decide +kernel
theorem dX1_removeAt_54 : decode cX1_removeAt 54 = .ok (.iinc 2 1, 3) := by decide +kernel
theorem dX1_removeAt_57 : decode cX1_removeAt 57 = .ok (.goto (-53), 3) := by decide +kernel
theorem dX1_removeAt_60 : decode cX1_removeAt 60 = .ok (.aload_n 0, 1) := by decide +kernel
theorem dX1_removeAt_61 : decode cX1_removeAt 61 = .ok (.dup, 1) := by decide +kernel
theorem dX1_removeAt_62 : decode cX1_removeAt 62 = .ok (.getfield 21, 3) := by decide +kernel
theorem dX1_removeAt_65 : decode cX1_removeAt 65 = .ok (.iconst 1, 1) := by decide +kernel
theorem dX1_removeAt_66 : decode cX1_removeAt 66 = .ok (.isub, 1) := by decide +kernel
theorem dX1_removeAt_67 : decode cX1_removeAt 67 = .ok (.putfield 21, 3) := by decide +kernel
theorem dX1_removeAt_70 : decode cX1_removeAt 70 = .ok (.return_, 1) := by decide +kernel
theorem dX1_copyFrom_0 : decode cX1_copyFrom 0 = .ok (.aload_n 0, 1) := by decide +kernel
theorem dX1_copyFrom_1 : decode cX1_copyFrom 1 = .ok (.aload_n 1, 1) := by decide +kernel
theorem dX1_copyFrom_2 : decode cX1_copyFrom 2 = .ok (.getfield 21, 3) := by decide +kernel
theorem dX1_copyFrom_5 : decode cX1_copyFrom 5 = .ok (.putfield 21, 3) := by decide +kernel
theorem dX1_copyFrom_8 : decode cX1_copyFrom 8 = .ok (.iconst 0, 1) := by decide +kernel
theorem dX1_copyFrom_9 : decode cX1_copyFrom 9 = .ok (.istore_n 2, 1) := by decide +kernel
theorem dX1_copyFrom_10 : decode cX1_copyFrom 10 = .ok (.iload_n 2, 1) := by decide +kernel
theorem dX1_copyFrom_11 : decode cX1_copyFrom 11 = .ok (.aload_n 0, 1) := by decide +kernel
theorem dX1_copyFrom_12 : decode cX1_copyFrom 12 = .ok (.getfield 21, 3) := by decide +kernel
theorem dX1_copyFrom_15 : decode cX1_copyFrom 15 = .ok (.if_icmp .ge 45, 3) := by decide +kernel
theorem dX1_copyFrom_18 : decode cX1_copyFrom 18 = .ok (.aload_n 0, 1) := by decide +kernel
theorem dX1_copyFrom_19 : decode cX1_copyFrom 19 = .ok (.getfield 9, 3) := by decide +kernel
theorem dX1_copyFrom_22 : decode cX1_copyFrom 22 = .ok (.iload_n 2, 1) := by decide +kernel
theorem dX1_copyFrom_23 : decode cX1_copyFrom 23 = .ok (.aload_n 1, 1) := by decide +kernel
theorem dX1_copyFrom_24 : decode cX1_copyFrom 24 = .ok (.getfield 9, 3) := by decide +kernel
theorem dX1_copyFrom_27 : decode cX1_copyFrom 27 = .ok (.iload_n 2, 1) := by decide +kernel
theorem dX1_copyFrom_28 : decode cX1_copyFrom 28 = .ok (.iaload, 1) := by decide +kernel
theorem dX1_copyFrom_29 : decode cX1_copyFrom 29 = .ok (.iastore, 1) := by decide +kernel
theorem dX1_copyFrom_30 : decode cX1_copyFrom 30 = .ok (.aload_n 0, 1) := by decide +kernel
theorem dX1_copyFrom_31 : decode cX1_copyFrom 31 = .ok (.getfield 15, 3) := by decide +kernel
theorem dX1_copyFrom_34 : decode cX1_copyFrom 34 = .ok (.iload_n 2, 1) := by decide +kernel
theorem dX1_copyFrom_35 : decode cX1_copyFrom 35 = .ok (.aload_n 1, 1) := by decide +kernel
theorem dX1_copyFrom_36 : decode cX1_copyFrom 36 = .ok (.getfield 15, 3) := by decide +kernel
theorem dX1_copyFrom_39 : decode cX1_copyFrom 39 = .ok (.iload_n 2, 1) := by decide +kernel
theorem dX1_copyFrom_40 : decode cX1_copyFrom 40 = .ok (.iaload, 1) := by decide +kernel
theorem dX1_copyFrom_41 : decode cX1_copyFrom 41 = .ok (.iastore, 1) := by decide +kernel
theorem dX1_copyFrom_42 : decode cX1_copyFrom 42 = .ok (.aload_n 0, 1) := by decide +kernel
theorem dX1_copyFrom_43 : decode cX1_copyFrom 43 = .ok (.getfield 18, 3) := by decide +kernel
theorem dX1_copyFrom_46 : decode cX1_copyFrom 46 = .ok (.iload_n 2, 1) := by decide +kernel
theorem dX1_copyFrom_47 : decode cX1_copyFrom 47 = .ok (.aload_n 1, 1) := by decide +kernel
theorem dX1_copyFrom_48 : decode cX1_copyFrom 48 = .ok (.getfield 18, 3) := by decide +kernel
theorem dX1_copyFrom_51 : decode cX1_copyFrom 51 = .ok (.iload_n 2, 1) := by decide +kernel
theorem dX1_copyFrom_52 : decode cX1_copyFrom 52 = .ok (.iaload, 1) := by decide +kernel
theorem dX1_copyFrom_53 : decode cX1_copyFrom 53 = .ok (.iastore, 1) := by decide +kernel
theorem dX1_copyFrom_54 : decode cX1_copyFrom 54 = .ok (.iinc 2 1, 3) := by decide +kernel
theorem dX1_copyFrom_57 : decode cX1_copyFrom 57 = .ok (.goto (-47), 3) := by decide +kernel
theorem dX1_copyFrom_60 : decode cX1_copyFrom 60 = .ok (.return_, 1) := by decide +kernel
theorem dX1_holds_0 : decode cX1_holds 0 = .ok (.iconst 0, 1) := by decide +kernel
theorem dX1_holds_1 : decode cX1_holds 1 = .ok (.istore_n 2, 1) := by decide +kernel
theorem dX1_holds_2 : decode cX1_holds 2 = .ok (.iload_n 2, 1) := by decide +kernel
theorem dX1_holds_3 : decode cX1_holds 3 = .ok (.aload_n 0, 1) := by decide +kernel
theorem dX1_holds_4 : decode cX1_holds 4 = .ok (.getfield 21, 3) := by decide +kernel
theorem dX1_holds_7 : decode cX1_holds 7 = .ok (.if_icmp .ge 23, 3) := by decide +kernel
theorem dX1_holds_10 : decode cX1_holds 10 = .ok (.aload_n 1, 1) := by decide +kernel
theorem dX1_holds_11 : decode cX1_holds 11 = .ok (.iload_n 2, 1) := by decide +kernel
theorem dX1_holds_12 : decode cX1_holds 12 = .ok (.iaload, 1) := by decide +kernel
theorem dX1_holds_13 : decode cX1_holds 13 = .ok (.aload_n 0, 1) := by decide +kernel
theorem dX1_holds_14 : decode cX1_holds 14 = .ok (.getfield 15, 3) := by decide +kernel
theorem dX1_holds_17 : decode cX1_holds 17 = .ok (.iload_n 2, 1) := by decide +kernel
theorem dX1_holds_18 : decode cX1_holds 18 = .ok (.iaload, 1) := by decide +kernel
theorem dX1_holds_19 : decode cX1_holds 19 = .ok (.if_icmp .le 5, 3) := by decide +kernel
theorem dX1_holds_22 : decode cX1_holds 22 = .ok (.iconst 0, 1) := by decide +kernel
theorem dX1_holds_23 : decode cX1_holds 23 = .ok (.ireturn, 1) := by decide +kernel
theorem dX1_holds_24 : decode cX1_holds 24 = .ok (.iinc 2 1, 3) := by decide +kernel
theorem dX1_holds_27 : decode cX1_holds 27 = .ok (.goto (-25), 3) := by decide +kernel
theorem dX1_holds_30 : decode cX1_holds 30 = .ok (.iconst 1, 1) := by decide +kernel
theorem dX1_holds_31 : decode cX1_holds 31 = .ok (.ireturn, 1) := by decide +kernel
theorem dX1_take_0 : decode cX1_take 0 = .ok (.iconst 0, 1) := by decide +kernel
theorem dX1_take_1 : decode cX1_take 1 = .ok (.istore_n 2, 1) := by decide +kernel
theorem dX1_take_2 : decode cX1_take 2 = .ok (.iload_n 2, 1) := by decide +kernel
theorem dX1_take_3 : decode cX1_take 3 = .ok (.aload_n 0, 1) := by decide +kernel
theorem dX1_take_4 : decode cX1_take 4 = .ok (.getfield 21, 3) := by decide +kernel
theorem dX1_take_7 : decode cX1_take 7 = .ok (.if_icmp .ge 33, 3) := by decide +kernel
theorem dX1_take_10 : decode cX1_take 10 = .ok (.aload_n 0, 1) := by decide +kernel
theorem dX1_take_11 : decode cX1_take 11 = .ok (.getfield 15, 3) := by decide +kernel
theorem dX1_take_14 : decode cX1_take 14 = .ok (.iload_n 2, 1) := by decide +kernel
theorem dX1_take_15 : decode cX1_take 15 = .ok (.dup2, 1) := by decide +kernel
theorem dX1_take_16 : decode cX1_take 16 = .ok (.iaload, 1) := by decide +kernel
theorem dX1_take_17 : decode cX1_take 17 = .ok (.aload_n 1, 1) := by decide +kernel
theorem dX1_take_18 : decode cX1_take 18 = .ok (.iload_n 2, 1) := by decide +kernel
theorem dX1_take_19 : decode cX1_take 19 = .ok (.iaload, 1) := by decide +kernel
theorem dX1_take_20 : decode cX1_take 20 = .ok (.isub, 1) := by decide +kernel
theorem dX1_take_21 : decode cX1_take 21 = .ok (.iastore, 1) := by decide +kernel
theorem dX1_take_22 : decode cX1_take 22 = .ok (.aload_n 0, 1) := by decide +kernel
theorem dX1_take_23 : decode cX1_take 23 = .ok (.getfield 18, 3) := by decide +kernel
theorem dX1_take_26 : decode cX1_take 26 = .ok (.iload_n 2, 1) := by decide +kernel
theorem dX1_take_27 : decode cX1_take 27 = .ok (.dup2, 1) := by decide +kernel
theorem dX1_take_28 : decode cX1_take 28 = .ok (.iaload, 1) := by decide +kernel
theorem dX1_take_29 : decode cX1_take 29 = .ok (.aload_n 1, 1) := by decide +kernel
theorem dX1_take_30 : decode cX1_take 30 = .ok (.iload_n 2, 1) := by decide +kernel
theorem dX1_take_31 : decode cX1_take 31 = .ok (.iaload, 1) := by decide +kernel
theorem dX1_take_32 : decode cX1_take 32 = .ok (.iadd, 1) := by decide +kernel
theorem dX1_take_33 : decode cX1_take 33 = .ok (.iastore, 1) := by decide +kernel
theorem dX1_take_34 : decode cX1_take 34 = .ok (.iinc 2 1, 3) := by decide +kernel
theorem dX1_take_37 : decode cX1_take 37 = .ok (.goto (-35), 3) := by decide +kernel
theorem dX1_take_40 : decode cX1_take 40 = .ok (.return_, 1) := by decide +kernel
theorem dX2_init_0 : decode cX2_init 0 = .ok (.aload_n 0, 1) := by decide +kernel
theorem dX2_init_1 : decode cX2_init 1 = .ok (.invokespecial 3, 3) := by decide +kernel
theorem dX2_init_4 : decode cX2_init 4 = .ok (.aload_n 0, 1) := by decide +kernel
theorem dX2_init_5 : decode cX2_init 5 = .ok (.bipush 9, 2) := by decide +kernel
theorem dX2_init_7 : decode cX2_init 7 = .ok (.sipush 360, 3) := by decide +kernel
theorem dX2_init_10 : decode cX2_init 10 = .ok (.multianewarray 9 2, 4) := by decide +kernel
theorem dX2_init_14 : decode cX2_init 14 = .ok (.putfield 11, 3) := by decide +kernel
theorem dX2_init_17 : decode cX2_init 17 = .ok (.aload_n 0, 1) := by decide +kernel
theorem dX2_init_18 : decode cX2_init 18 = .ok (.bipush 8, 2) := by decide +kernel
theorem dX2_init_20 : decode cX2_init 20 = .ok (.newarray .int, 2) := by decide +kernel
theorem dX2_init_22 : decode cX2_init 22 = .ok (.putfield 16, 3) := by decide +kernel
theorem dX2_init_25 : decode cX2_init 25 = .ok (.aload_n 0, 1) := by decide +kernel
theorem dX2_init_26 : decode cX2_init 26 = .ok (.bipush 8, 2) := by decide +kernel
theorem dX2_init_28 : decode cX2_init 28 = .ok (.newarray .int, 2) := by decide +kernel
theorem dX2_init_30 : decode cX2_init 30 = .ok (.putfield 20, 3) := by decide +kernel
theorem dX2_init_33 : decode cX2_init 33 = .ok (.aload_n 0, 1) := by decide +kernel
theorem dX2_init_34 : decode cX2_init 34 = .ok (.bipush 8, 2) := by decide +kernel
theorem dX2_init_36 : decode cX2_init 36 = .ok (.newarray .int, 2) := by decide +kernel
theorem dX2_init_38 : decode cX2_init 38 = .ok (.putfield 23, 3) := by decide +kernel
theorem dX2_init_41 : decode cX2_init 41 = .ok (.aload_n 0, 1) := by decide +kernel
theorem dX2_init_42 : decode cX2_init 42 = .ok (.iconst 0, 1) := by decide +kernel
theorem dX2_init_43 : decode cX2_init 43 = .ok (.putfield 26, 3) := by decide +kernel
theorem dX2_init_46 : decode cX2_init 46 = .ok (.aload_n 0, 1) := by decide +kernel
theorem dX2_init_47 : decode cX2_init 47 = .ok (.iconst 0, 1) := by decide +kernel
theorem dX2_init_48 : decode cX2_init 48 = .ok (.putfield 30, 3) := by decide +kernel
theorem dX2_init_51 : decode cX2_init 51 = .ok (.aload_n 0, 1) := by decide +kernel
theorem dX2_init_52 : decode cX2_init 52 = .ok (.bipush 8, 2) := by decide +kernel
theorem dX2_init_54 : decode cX2_init 54 = .ok (.newarray .int, 2) := by decide +kernel
theorem dX2_init_56 : decode cX2_init 56 = .ok (.putfield 33, 3) := by decide +kernel
theorem dX2_init_59 : decode cX2_init 59 = .ok (.return_, 1) := by decide +kernel
theorem dX2_rank_0 : decode cX2_rank 0 = .ok (.aload_n 0, 1) := by decide +kernel
theorem dX2_rank_1 : decode cX2_rank 1 = .ok (.aload_n 1, 1) := by decide +kernel
theorem dX2_rank_2 : decode cX2_rank 2 = .ok (.getfield 36, 3) := by decide +kernel
theorem dX2_rank_5 : decode cX2_rank 5 = .ok (.putfield 26, 3) := by decide +kernel
theorem dX2_rank_8 : decode cX2_rank 8 = .ok (.aload_n 0, 1) := by decide +kernel
theorem dX2_rank_9 : decode cX2_rank 9 = .ok (.iload_n 2, 1) := by decide +kernel
theorem dX2_rank_10 : decode cX2_rank 10 = .ok (.putfield 30, 3) := by decide +kernel
theorem dX2_rank_13 : decode cX2_rank 13 = .ok (.iconst 0, 1) := by decide +kernel
theorem dX2_rank_14 : decode cX2_rank 14 = .ok (.istore_n 3, 1) := by decide +kernel
theorem dX2_rank_15 : decode cX2_rank 15 = .ok (.iload_n 3, 1) := by decide +kernel
theorem dX2_rank_16 : decode cX2_rank 16 = .ok (.aload_n 0, 1) := by decide +kernel
theorem dX2_rank_17 : decode cX2_rank 17 = .ok (.getfield 26, 3) := by decide +kernel
theorem dX2_rank_20 : decode cX2_rank 20 = .ok (.if_icmp .ge 54, 3) := by decide +kernel
theorem dX2_rank_23 : decode cX2_rank 23 = .ok (.aload_n 1, 1) := by decide +kernel
theorem dX2_rank_24 : decode cX2_rank 24 = .ok (.iload_n 3, 1) := by decide +kernel
theorem dX2_rank_25 : decode cX2_rank 25 = .ok (.invokevirtual 39, 3) := by decide +kernel
theorem dX2_rank_28 : decode cX2_rank 28 = .ok (.istore 4, 2) := by decide +kernel
theorem dX2_rank_30 : decode cX2_rank 30 = .ok (.aload_n 0, 1) := by decide +kernel
theorem dX2_rank_31 : decode cX2_rank 31 = .ok (.getfield 16, 3) := by decide +kernel
theorem dX2_rank_34 : decode cX2_rank 34 = .ok (.iload 4, 2) := by decide +kernel
theorem dX2_rank_36 : decode cX2_rank 36 = .ok (.iload_n 3, 1) := by decide +kernel
theorem dX2_rank_37 : decode cX2_rank 37 = .ok (.iastore, 1) := by decide +kernel
theorem dX2_rank_38 : decode cX2_rank 38 = .ok (.aload_n 0, 1) := by decide +kernel
theorem dX2_rank_39 : decode cX2_rank 39 = .ok (.getfield 20, 3) := by decide +kernel
theorem dX2_rank_42 : decode cX2_rank 42 = .ok (.iload 4, 2) := by decide +kernel
theorem dX2_rank_44 : decode cX2_rank 44 = .ok (.aload_n 1, 1) := by decide +kernel
theorem dX2_rank_45 : decode cX2_rank 45 = .ok (.getfield 43, 3) := by decide +kernel
theorem dX2_rank_48 : decode cX2_rank 48 = .ok (.iload_n 3, 1) := by decide +kernel
theorem dX2_rank_49 : decode cX2_rank 49 = .ok (.iaload, 1) := by decide +kernel
theorem dX2_rank_50 : decode cX2_rank 50 = .ok (.iastore, 1) := by decide +kernel
theorem dX2_rank_51 : decode cX2_rank 51 = .ok (.aload_n 0, 1) := by decide +kernel
theorem dX2_rank_52 : decode cX2_rank 52 = .ok (.getfield 23, 3) := by decide +kernel
theorem dX2_rank_55 : decode cX2_rank 55 = .ok (.iload 4, 2) := by decide +kernel
theorem dX2_rank_57 : decode cX2_rank 57 = .ok (.aload_n 1, 1) := by decide +kernel
theorem dX2_rank_58 : decode cX2_rank 58 = .ok (.getfield 46, 3) := by decide +kernel
theorem dX2_rank_61 : decode cX2_rank 61 = .ok (.iload_n 3, 1) := by decide +kernel
theorem dX2_rank_62 : decode cX2_rank 62 = .ok (.iaload, 1) := by decide +kernel
theorem dX2_rank_63 : decode cX2_rank 63 = .ok (.iload_n 2, 1) := by decide +kernel
theorem dX2_rank_64 : decode cX2_rank 64 = .ok (.invokestatic 49, 3) := by decide +kernel
theorem dX2_rank_67 : decode cX2_rank 67 = .ok (.iastore, 1) := by decide +kernel
theorem dX2_rank_68 : decode cX2_rank 68 = .ok (.iinc 3 1, 3) := by decide +kernel
theorem dX2_rank_71 : decode cX2_rank 71 = .ok (.goto (-56), 3) := by decide +kernel
theorem dX2_rank_74 : decode cX2_rank 74 = .ok (.return_, 1) := by decide +kernel
theorem dX2_fill_0 : decode cX2_fill 0 = .ok (.aload_n 0, 1) := by decide +kernel
theorem dX2_fill_1 : decode cX2_fill 1 = .ok (.aload_n 1, 1) := by decide +kernel
theorem dX2_fill_2 : decode cX2_fill 2 = .ok (.iload_n 2, 1) := by decide +kernel
theorem dX2_fill_3 : decode cX2_fill 3 = .ok (.invokevirtual 55, 3) := by decide +kernel
theorem dX2_fill_6 : decode cX2_fill 6 = .ok (.aload_n 0, 1) := by decide +kernel
theorem dX2_fill_7 : decode cX2_fill 7 = .ok (.getfield 11, 3) := by decide +kernel
theorem dX2_fill_10 : decode cX2_fill 10 = .ok (.aload_n 0, 1) := by decide +kernel
theorem dX2_fill_11 : decode cX2_fill 11 = .ok (.getfield 26, 3) := by decide +kernel
theorem dX2_fill_14 : decode cX2_fill 14 = .ok (.aaload, 1) := by decide +kernel
theorem dX2_fill_15 : decode cX2_fill 15 = .ok (.astore_n 3, 1) := by decide +kernel
theorem dX2_fill_16 : decode cX2_fill 16 = .ok (.iconst 1, 1) := by decide +kernel
theorem dX2_fill_17 : decode cX2_fill 17 = .ok (.istore 4, 2) := by decide +kernel
theorem dX2_fill_19 : decode cX2_fill 19 = .ok (.iload 4, 2) := by decide +kernel
theorem dX2_fill_21 : decode cX2_fill 21 = .ok (.sipush 359, 3) := by decide +kernel
theorem dX2_fill_24 : decode cX2_fill 24 = .ok (.if_icmp .gt 16, 3) := by decide +kernel
theorem dX2_fill_27 : decode cX2_fill 27 = .ok (.aload_n 3, 1) := by decide +kernel
theorem dX2_fill_28 : decode cX2_fill 28 = .ok (.iload 4, 2) := by decide +kernel
theorem dX2_fill_30 : decode cX2_fill 30 = .ok (.sipush 1000, 3) := by decide +kernel
theorem dX2_fill_33 : decode cX2_fill 33 = .ok (.iastore, 1) := by decide +kernel
theorem dX2_fill_34 : decode cX2_fill 34 = .ok (.iinc 4 1, 3) := by decide +kernel
theorem dX2_fill_37 : decode cX2_fill 37 = .ok (.goto (-18), 3) := by decide +kernel
theorem dX2_fill_40 : decode cX2_fill 40 = .ok (.aload_n 3, 1) := by decide +kernel
theorem dX2_fill_41 : decode cX2_fill 41 = .ok (.iconst 0, 1) := by decide +kernel
theorem dX2_fill_42 : decode cX2_fill 42 = .ok (.iconst 0, 1) := by decide +kernel
theorem dX2_fill_43 : decode cX2_fill 43 = .ok (.iastore, 1) := by decide +kernel
theorem dX2_fill_44 : decode cX2_fill 44 = .ok (.aload_n 0, 1) := by decide +kernel
theorem dX2_fill_45 : decode cX2_fill 45 = .ok (.getfield 26, 3) := by decide +kernel
theorem dX2_fill_48 : decode cX2_fill 48 = .ok (.iconst 1, 1) := by decide +kernel
theorem dX2_fill_49 : decode cX2_fill 49 = .ok (.isub, 1) := by decide +kernel
theorem dX2_fill_50 : decode cX2_fill 50 = .ok (.istore 4, 2) := by decide +kernel
theorem dX2_fill_52 : decode cX2_fill 52 = .ok (.iload 4, 2) := by decide +kernel
theorem dX2_fill_54 : decode cX2_fill 54 = .ok (.ifCond .lt 15, 3) := by decide +kernel
theorem dX2_fill_57 : decode cX2_fill 57 = .ok (.aload_n 0, 1) := by decide +kernel
theorem dX2_fill_58 : decode cX2_fill 58 = .ok (.iload 4, 2) := by decide +kernel
theorem dX2_fill_60 : decode cX2_fill 60 = .ok (.invokevirtual 59, 3) := by decide +kernel
theorem dX2_fill_63 : decode cX2_fill 63 = .ok (.iinc 4 (-1), 3) := by decide +kernel
theorem dX2_fill_66 : decode cX2_fill 66 = .ok (.goto (-14), 3) := by decide +kernel
theorem dX2_fill_69 : decode cX2_fill 69 = .ok (.return_, 1) := by decide +kernel
theorem dX2_fillRow_0 : decode cX2_fillRow 0 = .ok (.aload_n 0, 1) := by decide +kernel
theorem dX2_fillRow_1 : decode cX2_fillRow 1 = .ok (.getfield 11, 3) := by decide +kernel
theorem dX2_fillRow_4 : decode cX2_fillRow 4 = .ok (.iload_n 1, 1) := by decide +kernel
theorem dX2_fillRow_5 : decode cX2_fillRow 5 = .ok (.aaload, 1) := by decide +kernel
theorem dX2_fillRow_6 : decode cX2_fillRow 6 = .ok (.astore_n 2, 1) := by decide +kernel
theorem dX2_fillRow_7 : decode cX2_fillRow 7 = .ok (.aload_n 0, 1) := by decide +kernel
theorem dX2_fillRow_8 : decode cX2_fillRow 8 = .ok (.getfield 11, 3) := by decide +kernel
theorem dX2_fillRow_11 : decode cX2_fillRow 11 = .ok (.iload_n 1, 1) := by decide +kernel
theorem dX2_fillRow_12 : decode cX2_fillRow 12 = .ok (.iconst 1, 1) := by decide +kernel
theorem dX2_fillRow_13 : decode cX2_fillRow 13 = .ok (.iadd, 1) := by decide +kernel
theorem dX2_fillRow_14 : decode cX2_fillRow 14 = .ok (.aaload, 1) := by decide +kernel
theorem dX2_fillRow_15 : decode cX2_fillRow 15 = .ok (.astore_n 3, 1) := by decide +kernel
theorem dX2_fillRow_16 : decode cX2_fillRow 16 = .ok (.aload_n 0, 1) := by decide +kernel
theorem dX2_fillRow_17 : decode cX2_fillRow 17 = .ok (.getfield 20, 3) := by decide +kernel
theorem dX2_fillRow_20 : decode cX2_fillRow 20 = .ok (.iload_n 1, 1) := by decide +kernel
theorem dX2_fillRow_21 : decode cX2_fillRow 21 = .ok (.iaload, 1) := by decide +kernel
theorem dX2_fillRow_22 : decode cX2_fillRow 22 = .ok (.istore 4, 2) := by decide +kernel
theorem dX2_fillRow_24 : decode cX2_fillRow 24 = .ok (.aload_n 0, 1) := by decide +kernel
theorem dX2_fillRow_25 : decode cX2_fillRow 25 = .ok (.getfield 23, 3) := by decide +kernel
theorem dX2_fillRow_28 : decode cX2_fillRow 28 = .ok (.iload_n 1, 1) := by decide +kernel
theorem dX2_fillRow_29 : decode cX2_fillRow 29 = .ok (.iaload, 1) := by decide +kernel
theorem dX2_fillRow_30 : decode cX2_fillRow 30 = .ok (.istore 5, 2) := by decide +kernel
theorem dX2_fillRow_32 : decode cX2_fillRow 32 = .ok (.iconst 0, 1) := by decide +kernel
theorem dX2_fillRow_33 : decode cX2_fillRow 33 = .ok (.istore 6, 2) := by decide +kernel
theorem dX2_fillRow_35 : decode cX2_fillRow 35 = .ok (.iload 6, 2) := by decide +kernel
theorem dX2_fillRow_37 : decode cX2_fillRow 37 = .ok (.sipush 359, 3) := by decide +kernel
theorem dX2_fillRow_40 : decode cX2_fillRow 40 = .ok (.if_icmp .gt 67, 3) := by decide +kernel
theorem dX2_fillRow_43 : decode cX2_fillRow 43 = .ok (.aload_n 3, 1) := by decide +kernel
theorem dX2_fillRow_44 : decode cX2_fillRow 44 = .ok (.iload 6, 2) := by decide +kernel
theorem dX2_fillRow_46 : decode cX2_fillRow 46 = .ok (.iaload, 1) := by decide +kernel
theorem dX2_fillRow_47 : decode cX2_fillRow 47 = .ok (.istore 7, 2) := by decide +kernel
theorem dX2_fillRow_49 : decode cX2_fillRow 49 = .ok (.iconst 1, 1) := by decide +kernel
theorem dX2_fillRow_50 : decode cX2_fillRow 50 = .ok (.istore 8, 2) := by decide +kernel
theorem dX2_fillRow_52 : decode cX2_fillRow 52 = .ok (.iload 8, 2) := by decide +kernel
theorem dX2_fillRow_54 : decode cX2_fillRow 54 = .ok (.iload 5, 2) := by decide +kernel
theorem dX2_fillRow_56 : decode cX2_fillRow 56 = .ok (.if_icmp .gt 39, 3) := by decide +kernel
theorem dX2_fillRow_59 : decode cX2_fillRow 59 = .ok (.iload 8, 2) := by decide +kernel
theorem dX2_fillRow_61 : decode cX2_fillRow 61 = .ok (.iload 4, 2) := by decide +kernel
theorem dX2_fillRow_63 : decode cX2_fillRow 63 = .ok (.imul, 1) := by decide +kernel
theorem dX2_fillRow_64 : decode cX2_fillRow 64 = .ok (.iload 6, 2) := by decide +kernel
theorem dX2_fillRow_66 : decode cX2_fillRow 66 = .ok (.if_icmp .gt 29, 3) := by decide +kernel
theorem dX2_fillRow_69 : decode cX2_fillRow 69 = .ok (.iload 7, 2) := by decide +kernel
theorem dX2_fillRow_71 : decode cX2_fillRow 71 = .ok (.aload_n 3, 1) := by decide +kernel
theorem dX2_fillRow_72 : decode cX2_fillRow 72 = .ok (.iload 6, 2) := by decide +kernel
theorem dX2_fillRow_74 : decode cX2_fillRow 74 = .ok (.iload 8, 2) := by decide +kernel
theorem dX2_fillRow_76 : decode cX2_fillRow 76 = .ok (.iload 4, 2) := by decide +kernel
theorem dX2_fillRow_78 : decode cX2_fillRow 78 = .ok (.imul, 1) := by decide +kernel
theorem dX2_fillRow_79 : decode cX2_fillRow 79 = .ok (.isub, 1) := by decide +kernel
theorem dX2_fillRow_80 : decode cX2_fillRow 80 = .ok (.iaload, 1) := by decide +kernel
theorem dX2_fillRow_81 : decode cX2_fillRow 81 = .ok (.iload 8, 2) := by decide +kernel
theorem dX2_fillRow_83 : decode cX2_fillRow 83 = .ok (.iadd, 1) := by decide +kernel
theorem dX2_fillRow_84 : decode cX2_fillRow 84 = .ok (.invokestatic 49, 3) := by decide +kernel
theorem dX2_fillRow_87 : decode cX2_fillRow 87 = .ok (.istore 7, 2) := by decide +kernel
theorem dX2_fillRow_89 : decode cX2_fillRow 89 = .ok (.iinc 8 1, 3) := by decide +kernel
theorem dX2_fillRow_92 : decode cX2_fillRow 92 = .ok (.goto (-40), 3) := by decide +kernel
theorem dX2_fillRow_95 : decode cX2_fillRow 95 = .ok (.aload_n 2, 1) := by decide +kernel
theorem dX2_fillRow_96 : decode cX2_fillRow 96 = .ok (.iload 6, 2) := by decide +kernel
theorem dX2_fillRow_98 : decode cX2_fillRow 98 = .ok (.iload 7, 2) := by decide +kernel
theorem dX2_fillRow_100 : decode cX2_fillRow 100 = .ok (.iastore, 1) := by decide +kernel
theorem dX2_fillRow_101 : decode cX2_fillRow 101 = .ok (.iinc 6 1, 3) := by decide +kernel
theorem dX2_fillRow_104 : decode cX2_fillRow 104 = .ok (.goto (-69), 3) := by decide +kernel
theorem dX2_fillRow_107 : decode cX2_fillRow 107 = .ok (.return_, 1) := by decide +kernel
theorem dX2_pays_0 : decode cX2_pays 0 = .ok (.aload_n 0, 1) := by decide +kernel
theorem dX2_pays_1 : decode cX2_pays 1 = .ok (.getfield 11, 3) := by decide +kernel
theorem dX2_pays_4 : decode cX2_pays 4 = .ok (.iconst 0, 1) := by decide +kernel
theorem dX2_pays_5 : decode cX2_pays 5 = .ok (.aaload, 1) := by decide +kernel
theorem dX2_pays_6 : decode cX2_pays 6 = .ok (.iload_n 1, 1) := by decide +kernel
theorem dX2_pays_7 : decode cX2_pays 7 = .ok (.iaload, 1) := by decide +kernel
theorem dX2_pays_8 : decode cX2_pays 8 = .ok (.aload_n 0, 1) := by decide +kernel
theorem dX2_pays_9 : decode cX2_pays 9 = .ok (.getfield 30, 3) := by decide +kernel
theorem dX2_pays_12 : decode cX2_pays 12 = .ok (.if_icmp .gt 7, 3) := by decide +kernel
theorem dX2_pays_15 : decode cX2_pays 15 = .ok (.iconst 1, 1) := by decide +kernel
theorem dX2_pays_16 : decode cX2_pays 16 = .ok (.goto 4, 3) := by decide +kernel
theorem dX2_pays_19 : decode cX2_pays 19 = .ok (.iconst 0, 1) := by decide +kernel
theorem dX2_pays_20 : decode cX2_pays 20 = .ok (.ireturn, 1) := by decide +kernel
theorem dX2_leastSum_0 : decode cX2_leastSum 0 = .ok (.iload_n 1, 1) := by decide +kernel
theorem dX2_leastSum_1 : decode cX2_leastSum 1 = .ok (.istore_n 2, 1) := by decide +kernel
theorem dX2_leastSum_2 : decode cX2_leastSum 2 = .ok (.iload_n 2, 1) := by decide +kernel
theorem dX2_leastSum_3 : decode cX2_leastSum 3 = .ok (.sipush 359, 3) := by decide +kernel
theorem dX2_leastSum_6 : decode cX2_leastSum 6 = .ok (.if_icmp .gt 19, 3) := by decide +kernel
theorem dX2_leastSum_9 : decode cX2_leastSum 9 = .ok (.aload_n 0, 1) := by decide +kernel
theorem dX2_leastSum_10 : decode cX2_leastSum 10 = .ok (.iload_n 2, 1) := by decide +kernel
theorem dX2_leastSum_11 : decode cX2_leastSum 11 = .ok (.invokevirtual 63, 3) := by decide +kernel
theorem dX2_leastSum_14 : decode cX2_leastSum 14 = .ok (.ifCond .eq 5, 3) := by decide +kernel
theorem dX2_leastSum_17 : decode cX2_leastSum 17 = .ok (.iload_n 2, 1) := by decide +kernel
theorem dX2_leastSum_18 : decode cX2_leastSum 18 = .ok (.ireturn, 1) := by decide +kernel
theorem dX2_leastSum_19 : decode cX2_leastSum 19 = .ok (.iinc 2 1, 3) := by decide +kernel
theorem dX2_leastSum_22 : decode cX2_leastSum 22 = .ok (.goto (-20), 3) := by decide +kernel
theorem dX2_leastSum_25 : decode cX2_leastSum 25 = .ok (.iconst (-1), 1) := by decide +kernel
theorem dX2_leastSum_26 : decode cX2_leastSum 26 = .ok (.ireturn, 1) := by decide +kernel
theorem dX2_moreThan_0 : decode cX2_moreThan 0 = .ok (.aload_n 0, 1) := by decide +kernel
theorem dX2_moreThan_1 : decode cX2_moreThan 1 = .ok (.iload_n 1, 1) := by decide +kernel
theorem dX2_moreThan_2 : decode cX2_moreThan 2 = .ok (.invokevirtual 67, 3) := by decide +kernel
theorem dX2_moreThan_5 : decode cX2_moreThan 5 = .ok (.istore_n 2, 1) := by decide +kernel
theorem dX2_moreThan_6 : decode cX2_moreThan 6 = .ok (.iload_n 2, 1) := by decide +kernel
theorem dX2_moreThan_7 : decode cX2_moreThan 7 = .ok (.iconst (-1), 1) := by decide +kernel
theorem dX2_moreThan_8 : decode cX2_moreThan 8 = .ok (.if_icmp .ne 7, 3) := by decide +kernel
theorem dX2_moreThan_11 : decode cX2_moreThan 11 = .ok (.iconst (-1), 1) := by decide +kernel
theorem dX2_moreThan_12 : decode cX2_moreThan 12 = .ok (.goto 6, 3) := by decide +kernel
theorem dX2_moreThan_15 : decode cX2_moreThan 15 = .ok (.iload_n 2, 1) := by decide +kernel
theorem dX2_moreThan_16 : decode cX2_moreThan 16 = .ok (.iload_n 1, 1) := by decide +kernel
theorem dX2_moreThan_17 : decode cX2_moreThan 17 = .ok (.isub, 1) := by decide +kernel
theorem dX2_moreThan_18 : decode cX2_moreThan 18 = .ok (.ireturn, 1) := by decide +kernel
theorem dX2_stampsOnLetter_0 : decode cX2_stampsOnLetter 0 = .ok (.aload_n 0, 1) := by decide +kernel
theorem dX2_stampsOnLetter_1 : decode cX2_stampsOnLetter 1 = .ok (.iload_n 1, 1) := by decide +kernel
theorem dX2_stampsOnLetter_2 : decode cX2_stampsOnLetter 2 = .ok (.invokevirtual 67, 3) := by decide +kernel
theorem dX2_stampsOnLetter_5 : decode cX2_stampsOnLetter 5 = .ok (.istore_n 2, 1) := by decide +kernel
theorem dX2_stampsOnLetter_6 : decode cX2_stampsOnLetter 6 = .ok (.iload_n 2, 1) := by decide +kernel
theorem dX2_stampsOnLetter_7 : decode cX2_stampsOnLetter 7 = .ok (.iconst (-1), 1) := by decide +kernel
theorem dX2_stampsOnLetter_8 : decode cX2_stampsOnLetter 8 = .ok (.if_icmp .ne 7, 3) := by decide +kernel
theorem dX2_stampsOnLetter_11 : decode cX2_stampsOnLetter 11 = .ok (.iconst 0, 1) := by decide +kernel
theorem dX2_stampsOnLetter_12 : decode cX2_stampsOnLetter 12 = .ok (.goto 11, 3) := by decide +kernel
theorem dX2_stampsOnLetter_15 : decode cX2_stampsOnLetter 15 = .ok (.aload_n 0, 1) := by decide +kernel
theorem dX2_stampsOnLetter_16 : decode cX2_stampsOnLetter 16 = .ok (.getfield 11, 3) := by decide +kernel
theorem dX2_stampsOnLetter_19 : decode cX2_stampsOnLetter 19 = .ok (.iconst 0, 1) := by decide +kernel
theorem dX2_stampsOnLetter_20 : decode cX2_stampsOnLetter 20 = .ok (.aaload, 1) := by decide +kernel
theorem dX2_stampsOnLetter_21 : decode cX2_stampsOnLetter 21 = .ok (.iload_n 2, 1) := by decide +kernel
theorem dX2_stampsOnLetter_22 : decode cX2_stampsOnLetter 22 = .ok (.iaload, 1) := by decide +kernel
theorem dX2_stampsOnLetter_23 : decode cX2_stampsOnLetter 23 = .ok (.ireturn, 1) := by decide +kernel
theorem dX2_choose_0 : decode cX2_choose 0 = .ok (.iload_n 1, 1) := by decide +kernel
theorem dX2_choose_1 : decode cX2_choose 1 = .ok (.istore_n 2, 1) := by decide +kernel
theorem dX2_choose_2 : decode cX2_choose 2 = .ok (.iconst 0, 1) := by decide +kernel
theorem dX2_choose_3 : decode cX2_choose 3 = .ok (.istore_n 3, 1) := by decide +kernel
theorem dX2_choose_4 : decode cX2_choose 4 = .ok (.iload_n 3, 1) := by decide +kernel
theorem dX2_choose_5 : decode cX2_choose 5 = .ok (.aload_n 0, 1) := by decide +kernel
theorem dX2_choose_6 : decode cX2_choose 6 = .ok (.getfield 26, 3) := by decide +kernel
theorem dX2_choose_9 : decode cX2_choose 9 = .ok (.if_icmp .ge 42, 3) := by decide +kernel
theorem dX2_choose_12 : decode cX2_choose 12 = .ok (.aload_n 0, 1) := by decide +kernel
theorem dX2_choose_13 : decode cX2_choose 13 = .ok (.iload_n 3, 1) := by decide +kernel
theorem dX2_choose_14 : decode cX2_choose 14 = .ok (.iload_n 2, 1) := by decide +kernel
theorem dX2_choose_15 : decode cX2_choose 15 = .ok (.invokevirtual 70, 3) := by decide +kernel
theorem dX2_choose_18 : decode cX2_choose 18 = .ok (.istore 4, 2) := by decide +kernel
theorem dX2_choose_20 : decode cX2_choose 20 = .ok (.aload_n 0, 1) := by decide +kernel
theorem dX2_choose_21 : decode cX2_choose 21 = .ok (.getfield 33, 3) := by decide +kernel
theorem dX2_choose_24 : decode cX2_choose 24 = .ok (.aload_n 0, 1) := by decide +kernel
theorem dX2_choose_25 : decode cX2_choose 25 = .ok (.getfield 16, 3) := by decide +kernel
theorem dX2_choose_28 : decode cX2_choose 28 = .ok (.iload_n 3, 1) := by decide +kernel
theorem dX2_choose_29 : decode cX2_choose 29 = .ok (.iaload, 1) := by decide +kernel
theorem dX2_choose_30 : decode cX2_choose 30 = .ok (.iload 4, 2) := by decide +kernel
theorem dX2_choose_32 : decode cX2_choose 32 = .ok (.iastore, 1) := by decide +kernel
theorem dX2_choose_33 : decode cX2_choose 33 = .ok (.iload_n 2, 1) := by decide +kernel
theorem dX2_choose_34 : decode cX2_choose 34 = .ok (.iload 4, 2) := by decide +kernel
theorem dX2_choose_36 : decode cX2_choose 36 = .ok (.aload_n 0, 1) := by decide +kernel
theorem dX2_choose_37 : decode cX2_choose 37 = .ok (.getfield 20, 3) := by decide +kernel
theorem dX2_choose_40 : decode cX2_choose 40 = .ok (.iload_n 3, 1) := by decide +kernel
theorem dX2_choose_41 : decode cX2_choose 41 = .ok (.iaload, 1) := by decide +kernel
theorem dX2_choose_42 : decode cX2_choose 42 = .ok (.imul, 1) := by decide +kernel
theorem dX2_choose_43 : decode cX2_choose 43 = .ok (.isub, 1) := by decide +kernel
theorem dX2_choose_44 : decode cX2_choose 44 = .ok (.istore_n 2, 1) := by decide +kernel
theorem dX2_choose_45 : decode cX2_choose 45 = .ok (.iinc 3 1, 3) := by decide +kernel
theorem dX2_choose_48 : decode cX2_choose 48 = .ok (.goto (-44), 3) := by decide +kernel
theorem dX2_choose_51 : decode cX2_choose 51 = .ok (.return_, 1) := by decide +kernel
theorem dX2_mostOf_0 : decode cX2_mostOf 0 = .ok (.aload_n 0, 1) := by decide +kernel
theorem dX2_mostOf_1 : decode cX2_mostOf 1 = .ok (.getfield 20, 3) := by decide +kernel
theorem dX2_mostOf_4 : decode cX2_mostOf 4 = .ok (.iload_n 1, 1) := by decide +kernel
theorem dX2_mostOf_5 : decode cX2_mostOf 5 = .ok (.iaload, 1) := by decide +kernel
theorem dX2_mostOf_6 : decode cX2_mostOf 6 = .ok (.istore_n 3, 1) := by decide +kernel
theorem dX2_mostOf_7 : decode cX2_mostOf 7 = .ok (.aload_n 0, 1) := by decide +kernel
theorem dX2_mostOf_8 : decode cX2_mostOf 8 = .ok (.getfield 11, 3) := by decide +kernel
theorem dX2_mostOf_11 : decode cX2_mostOf 11 = .ok (.iload_n 1, 1) := by decide +kernel
theorem dX2_mostOf_12 : decode cX2_mostOf 12 = .ok (.aaload, 1) := by decide +kernel
theorem dX2_mostOf_13 : decode cX2_mostOf 13 = .ok (.iload_n 2, 1) := by decide +kernel
theorem dX2_mostOf_14 : decode cX2_mostOf 14 = .ok (.iaload, 1) := by decide +kernel
theorem dX2_mostOf_15 : decode cX2_mostOf 15 = .ok (.istore 4, 2) := by decide +kernel
theorem dX2_mostOf_17 : decode cX2_mostOf 17 = .ok (.aload_n 0, 1) := by decide +kernel
theorem dX2_mostOf_18 : decode cX2_mostOf 18 = .ok (.getfield 11, 3) := by decide +kernel
theorem dX2_mostOf_21 : decode cX2_mostOf 21 = .ok (.iload_n 1, 1) := by decide +kernel
theorem dX2_mostOf_22 : decode cX2_mostOf 22 = .ok (.iconst 1, 1) := by decide +kernel
theorem dX2_mostOf_23 : decode cX2_mostOf 23 = .ok (.iadd, 1) := by decide +kernel
theorem dX2_mostOf_24 : decode cX2_mostOf 24 = .ok (.aaload, 1) := by decide +kernel
theorem dX2_mostOf_25 : decode cX2_mostOf 25 = .ok (.astore 5, 2) := by decide +kernel
theorem dX2_mostOf_27 : decode cX2_mostOf 27 = .ok (.aload_n 0, 1) := by decide +kernel
theorem dX2_mostOf_28 : decode cX2_mostOf 28 = .ok (.getfield 23, 3) := by decide +kernel
theorem dX2_mostOf_31 : decode cX2_mostOf 31 = .ok (.iload_n 1, 1) := by decide +kernel
theorem dX2_mostOf_32 : decode cX2_mostOf 32 = .ok (.iaload, 1) := by decide +kernel
theorem dX2_mostOf_33 : decode cX2_mostOf 33 = .ok (.istore 6, 2) := by decide +kernel
theorem dX2_mostOf_35 : decode cX2_mostOf 35 = .ok (.iload 6, 2) := by decide +kernel
theorem dX2_mostOf_37 : decode cX2_mostOf 37 = .ok (.ifCond .le 38, 3) := by decide +kernel
theorem dX2_mostOf_40 : decode cX2_mostOf 40 = .ok (.iload_n 2, 1) := by decide +kernel
theorem dX2_mostOf_41 : decode cX2_mostOf 41 = .ok (.iload 6, 2) := by decide +kernel
theorem dX2_mostOf_43 : decode cX2_mostOf 43 = .ok (.iload_n 3, 1) := by decide +kernel
theorem dX2_mostOf_44 : decode cX2_mostOf 44 = .ok (.imul, 1) := by decide +kernel
theorem dX2_mostOf_45 : decode cX2_mostOf 45 = .ok (.isub, 1) := by decide +kernel
theorem dX2_mostOf_46 : decode cX2_mostOf 46 = .ok (.istore 7, 2) := by decide +kernel
theorem dX2_mostOf_48 : decode cX2_mostOf 48 = .ok (.iload 7, 2) := by decide +kernel
theorem dX2_mostOf_50 : decode cX2_mostOf 50 = .ok (.ifCond .lt 19, 3) := by decide +kernel
theorem dX2_mostOf_53 : decode cX2_mostOf 53 = .ok (.aload 5, 2) := by decide +kernel
theorem dX2_mostOf_55 : decode cX2_mostOf 55 = .ok (.iload 7, 2) := by decide +kernel
theorem dX2_mostOf_57 : decode cX2_mostOf 57 = .ok (.iaload, 1) := by decide +kernel
theorem dX2_mostOf_58 : decode cX2_mostOf 58 = .ok (.iload 6, 2) := by decide +kernel
theorem dX2_mostOf_60 : decode cX2_mostOf 60 = .ok (.iadd, 1) := by decide +kernel
theorem dX2_mostOf_61 : decode cX2_mostOf 61 = .ok (.iload 4, 2) := by decide +kernel
theorem dX2_mostOf_63 : decode cX2_mostOf 63 = .ok (.if_icmp .ne 6, 3) := by decide +kernel
theorem dX2_mostOf_66 : decode cX2_mostOf 66 = .ok (.iload 6, 2) := by decide +kernel
theorem dX2_mostOf_68 : decode cX2_mostOf 68 = .ok (.ireturn, 1) := by decide +kernel
theorem dX2_mostOf_69 : decode cX2_mostOf 69 = .ok (.iinc 6 (-1), 3) := by decide +kernel
theorem dX2_mostOf_72 : decode cX2_mostOf 72 = .ok (.goto (-37), 3) := by decide +kernel
theorem dX2_mostOf_75 : decode cX2_mostOf 75 = .ok (.iconst 0, 1) := by decide +kernel
theorem dX2_mostOf_76 : decode cX2_mostOf 76 = .ok (.ireturn, 1) := by decide +kernel
theorem dX2_reachOfStock_0 : decode cX2_reachOfStock 0 = .ok (.iconst 0, 1) := by decide +kernel
theorem dX2_reachOfStock_1 : decode cX2_reachOfStock 1 = .ok (.istore_n 1, 1) := by decide +kernel
theorem dX2_reachOfStock_2 : decode cX2_reachOfStock 2 = .ok (.iload_n 1, 1) := by decide +kernel
theorem dX2_reachOfStock_3 : decode cX2_reachOfStock 3 = .ok (.sipush 300, 3) := by decide +kernel
theorem dX2_reachOfStock_6 : decode cX2_reachOfStock 6 = .ok (.if_icmp .ge 19, 3) := by decide +kernel
theorem dX2_reachOfStock_9 : decode cX2_reachOfStock 9 = .ok (.aload_n 0, 1) := by decide +kernel
theorem dX2_reachOfStock_10 : decode cX2_reachOfStock 10 = .ok (.iload_n 1, 1) := by decide +kernel
theorem dX2_reachOfStock_11 : decode cX2_reachOfStock 11 = .ok (.iconst 1, 1) := by decide +kernel
theorem dX2_reachOfStock_12 : decode cX2_reachOfStock 12 = .ok (.iadd, 1) := by decide +kernel
theorem dX2_reachOfStock_13 : decode cX2_reachOfStock 13 = .ok (.invokevirtual 63, 3) := by decide +kernel
theorem dX2_reachOfStock_16 : decode cX2_reachOfStock 16 = .ok (.ifCond .eq 9, 3) := by decide +kernel
theorem dX2_reachOfStock_19 : decode cX2_reachOfStock 19 = .ok (.iinc 1 1, 3) := by decide +kernel
theorem dX2_reachOfStock_22 : decode cX2_reachOfStock 22 = .ok (.goto (-20), 3) := by decide +kernel
theorem dX2_reachOfStock_25 : decode cX2_reachOfStock 25 = .ok (.iload_n 1, 1) := by decide +kernel
theorem dX2_reachOfStock_26 : decode cX2_reachOfStock 26 = .ok (.ireturn, 1) := by decide +kernel
theorem dX2_greatestSum_0 : decode cX2_greatestSum 0 = .ok (.aload_n 0, 1) := by decide +kernel
theorem dX2_greatestSum_1 : decode cX2_greatestSum 1 = .ok (.getfield 30, 3) := by decide +kernel
theorem dX2_greatestSum_4 : decode cX2_greatestSum 4 = .ok (.istore_n 1, 1) := by decide +kernel
theorem dX2_greatestSum_5 : decode cX2_greatestSum 5 = .ok (.iconst 0, 1) := by decide +kernel
theorem dX2_greatestSum_6 : decode cX2_greatestSum 6 = .ok (.istore_n 2, 1) := by decide +kernel
theorem dX2_greatestSum_7 : decode cX2_greatestSum 7 = .ok (.iconst 0, 1) := by decide +kernel
theorem dX2_greatestSum_8 : decode cX2_greatestSum 8 = .ok (.istore_n 3, 1) := by decide +kernel
theorem dX2_greatestSum_9 : decode cX2_greatestSum 9 = .ok (.iload_n 3, 1) := by decide +kernel
theorem dX2_greatestSum_10 : decode cX2_greatestSum 10 = .ok (.aload_n 0, 1) := by decide +kernel
theorem dX2_greatestSum_11 : decode cX2_greatestSum 11 = .ok (.getfield 26, 3) := by decide +kernel
theorem dX2_greatestSum_14 : decode cX2_greatestSum 14 = .ok (.if_icmp .ge 38, 3) := by decide +kernel
theorem dX2_greatestSum_17 : decode cX2_greatestSum 17 = .ok (.aload_n 0, 1) := by decide +kernel
theorem dX2_greatestSum_18 : decode cX2_greatestSum 18 = .ok (.getfield 23, 3) := by decide +kernel
theorem dX2_greatestSum_21 : decode cX2_greatestSum 21 = .ok (.iload_n 3, 1) := by decide +kernel
theorem dX2_greatestSum_22 : decode cX2_greatestSum 22 = .ok (.iaload, 1) := by decide +kernel
theorem dX2_greatestSum_23 : decode cX2_greatestSum 23 = .ok (.iload_n 1, 1) := by decide +kernel
theorem dX2_greatestSum_24 : decode cX2_greatestSum 24 = .ok (.invokestatic 49, 3) := by decide +kernel
theorem dX2_greatestSum_27 : decode cX2_greatestSum 27 = .ok (.istore 4, 2) := by decide +kernel
theorem dX2_greatestSum_29 : decode cX2_greatestSum 29 = .ok (.iload_n 2, 1) := by decide +kernel
theorem dX2_greatestSum_30 : decode cX2_greatestSum 30 = .ok (.iload 4, 2) := by decide +kernel
theorem dX2_greatestSum_32 : decode cX2_greatestSum 32 = .ok (.aload_n 0, 1) := by decide +kernel
theorem dX2_greatestSum_33 : decode cX2_greatestSum 33 = .ok (.getfield 20, 3) := by decide +kernel
theorem dX2_greatestSum_36 : decode cX2_greatestSum 36 = .ok (.iload_n 3, 1) := by decide +kernel
theorem dX2_greatestSum_37 : decode cX2_greatestSum 37 = .ok (.iaload, 1) := by decide +kernel
theorem dX2_greatestSum_38 : decode cX2_greatestSum 38 = .ok (.imul, 1) := by decide +kernel
theorem dX2_greatestSum_39 : decode cX2_greatestSum 39 = .ok (.iadd, 1) := by decide +kernel
theorem dX2_greatestSum_40 : decode cX2_greatestSum 40 = .ok (.istore_n 2, 1) := by decide +kernel
theorem dX2_greatestSum_41 : decode cX2_greatestSum 41 = .ok (.iload_n 1, 1) := by decide +kernel
theorem dX2_greatestSum_42 : decode cX2_greatestSum 42 = .ok (.iload 4, 2) := by decide +kernel
theorem dX2_greatestSum_44 : decode cX2_greatestSum 44 = .ok (.isub, 1) := by decide +kernel
theorem dX2_greatestSum_45 : decode cX2_greatestSum 45 = .ok (.istore_n 1, 1) := by decide +kernel
theorem dX2_greatestSum_46 : decode cX2_greatestSum 46 = .ok (.iinc 3 1, 3) := by decide +kernel
