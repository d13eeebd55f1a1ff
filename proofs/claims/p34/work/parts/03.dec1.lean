theorem dX2_greatestSum_49 : decode cX2_greatestSum 49 = .ok (.goto (-40), 3) := by decide +kernel
theorem dX2_greatestSum_52 : decode cX2_greatestSum 52 = .ok (.iload_n 2, 1) := by decide +kernel
theorem dX2_greatestSum_53 : decode cX2_greatestSum 53 = .ok (.ireturn, 1) := by decide +kernel
theorem dX3_init_0 : decode cX3_init 0 = .ok (.aload_n 0, 1) := by decide +kernel
theorem dX3_init_1 : decode cX3_init 1 = .ok (.invokespecial 3, 3) := by decide +kernel
theorem dX3_init_4 : decode cX3_init 4 = .ok (.aload_n 0, 1) := by decide +kernel
theorem dX3_init_5 : decode cX3_init 5 = .ok (.new 9, 3) := by decide +kernel
theorem dX3_init_8 : decode cX3_init 8 = .ok (.dup, 1) := by decide +kernel
theorem dX3_init_9 : decode cX3_init 9 = .ok (.invokespecial 11, 3) := by decide +kernel
theorem dX3_init_12 : decode cX3_init 12 = .ok (.putfield 12, 3) := by decide +kernel
theorem dX3_init_15 : decode cX3_init 15 = .ok (.aload_n 0, 1) := by decide +kernel
theorem dX3_init_16 : decode cX3_init 16 = .ok (.new 9, 3) := by decide +kernel
theorem dX3_init_19 : decode cX3_init 19 = .ok (.dup, 1) := by decide +kernel
theorem dX3_init_20 : decode cX3_init 20 = .ok (.invokespecial 11, 3) := by decide +kernel
theorem dX3_init_23 : decode cX3_init 23 = .ok (.putfield 16, 3) := by decide +kernel
theorem dX3_init_26 : decode cX3_init 26 = .ok (.aload_n 0, 1) := by decide +kernel
theorem dX3_init_27 : decode cX3_init 27 = .ok (.new 19, 3) := by decide +kernel
theorem dX3_init_30 : decode cX3_init 30 = .ok (.dup, 1) := by decide +kernel
theorem dX3_init_31 : decode cX3_init 31 = .ok (.invokespecial 21, 3) := by decide +kernel
theorem dX3_init_34 : decode cX3_init 34 = .ok (.putfield 22, 3) := by decide +kernel
theorem dX3_init_37 : decode cX3_init 37 = .ok (.aload_n 0, 1) := by decide +kernel
theorem dX3_init_38 : decode cX3_init 38 = .ok (.new 26, 3) := by decide +kernel
theorem dX3_init_41 : decode cX3_init 41 = .ok (.dup, 1) := by decide +kernel
theorem dX3_init_42 : decode cX3_init 42 = .ok (.invokespecial 28, 3) := by decide +kernel
theorem dX3_init_45 : decode cX3_init 45 = .ok (.putfield 29, 3) := by decide +kernel
theorem dX3_init_48 : decode cX3_init 48 = .ok (.aload_n 0, 1) := by decide +kernel
theorem dX3_init_49 : decode cX3_init 49 = .ok (.bipush 6, 2) := by decide +kernel
theorem dX3_init_51 : decode cX3_init 51 = .ok (.putfield 33, 3) := by decide +kernel
theorem dX3_init_54 : decode cX3_init 54 = .ok (.aload_n 0, 1) := by decide +kernel
theorem dX3_init_55 : decode cX3_init 55 = .ok (.iconst 0, 1) := by decide +kernel
theorem dX3_init_56 : decode cX3_init 56 = .ok (.putfield 37, 3) := by decide +kernel
theorem dX3_init_59 : decode cX3_init 59 = .ok (.aload_n 0, 1) := by decide +kernel
theorem dX3_init_60 : decode cX3_init 60 = .ok (.iconst 0, 1) := by decide +kernel
theorem dX3_init_61 : decode cX3_init 61 = .ok (.putfield 40, 3) := by decide +kernel
theorem dX3_init_64 : decode cX3_init 64 = .ok (.aload_n 0, 1) := by decide +kernel
theorem dX3_init_65 : decode cX3_init 65 = .ok (.iconst 0, 1) := by decide +kernel
theorem dX3_init_66 : decode cX3_init 66 = .ok (.putfield 43, 3) := by decide +kernel
theorem dX3_init_69 : decode cX3_init 69 = .ok (.return_, 1) := by decide +kernel
theorem dX3_addStamp_0 : decode cX3_addStamp 0 = .ok (.iload_n 1, 1) := by decide +kernel
theorem dX3_addStamp_1 : decode cX3_addStamp 1 = .ok (.iconst 1, 1) := by decide +kernel
theorem dX3_addStamp_2 : decode cX3_addStamp 2 = .ok (.if_icmp .lt 19, 3) := by decide +kernel
theorem dX3_addStamp_5 : decode cX3_addStamp 5 = .ok (.iload_n 1, 1) := by decide +kernel
theorem dX3_addStamp_6 : decode cX3_addStamp 6 = .ok (.bipush 60, 2) := by decide +kernel
theorem dX3_addStamp_8 : decode cX3_addStamp 8 = .ok (.if_icmp .gt 13, 3) := by decide +kernel
theorem dX3_addStamp_11 : decode cX3_addStamp 11 = .ok (.iload_n 2, 1) := by decide +kernel
theorem dX3_addStamp_12 : decode cX3_addStamp 12 = .ok (.ifCond .lt 9, 3) := by decide +kernel
theorem dX3_addStamp_15 : decode cX3_addStamp 15 = .ok (.iload_n 2, 1) := by decide +kernel
theorem dX3_addStamp_16 : decode cX3_addStamp 16 = .ok (.bipush 99, 2) := by decide +kernel
theorem dX3_addStamp_18 : decode cX3_addStamp 18 = .ok (.if_icmp .le 11, 3) := by decide +kernel
theorem dX3_addStamp_21 : decode cX3_addStamp 21 = .ok (.new 46, 3) := by decide +kernel
theorem dX3_addStamp_24 : decode cX3_addStamp 24 = .ok (.dup, 1) := by decide +kernel
theorem dX3_addStamp_25 : decode cX3_addStamp 25 = .ok (.invokespecial 48, 3) := by decide +kernel
theorem dX3_addStamp_28 : decode cX3_addStamp 28 = .ok (.athrow, 1) := by decide +kernel
theorem dX3_addStamp_29 : decode cX3_addStamp 29 = .ok (.aload_n 0, 1) := by decide +kernel
theorem dX3_addStamp_30 : decode cX3_addStamp 30 = .ok (.getfield 12, 3) := by decide +kernel
theorem dX3_addStamp_33 : decode cX3_addStamp 33 = .ok (.getfield 49, 3) := by decide +kernel
theorem dX3_addStamp_36 : decode cX3_addStamp 36 = .ok (.bipush 8, 2) := by decide +kernel
theorem dX3_addStamp_38 : decode cX3_addStamp 38 = .ok (.if_icmp .ge 14, 3) := by decide +kernel
theorem dX3_addStamp_41 : decode cX3_addStamp 41 = .ok (.aload_n 0, 1) := by decide +kernel
theorem dX3_addStamp_42 : decode cX3_addStamp 42 = .ok (.getfield 12, 3) := by decide +kernel
theorem dX3_addStamp_45 : decode cX3_addStamp 45 = .ok (.iload_n 1, 1) := by decide +kernel
theorem dX3_addStamp_46 : decode cX3_addStamp 46 = .ok (.invokevirtual 52, 3) := by decide +kernel
theorem dX3_addStamp_49 : decode cX3_addStamp 49 = .ok (.ifCond .eq 11, 3) := by decide +kernel
theorem dX3_addStamp_52 : decode cX3_addStamp 52 = .ok (.new 56, 3) := by decide +kernel
theorem dX3_addStamp_55 : decode cX3_addStamp 55 = .ok (.dup, 1) := by decide +kernel
theorem dX3_addStamp_56 : decode cX3_addStamp 56 = .ok (.invokespecial 58, 3) := by decide +kernel
theorem dX3_addStamp_59 : decode cX3_addStamp 59 = .ok (.athrow, 1) := by decide +kernel
theorem dX3_addStamp_60 : decode cX3_addStamp 60 = .ok (.aload_n 0, 1) := by decide +kernel
theorem dX3_addStamp_61 : decode cX3_addStamp 61 = .ok (.getfield 12, 3) := by decide +kernel
theorem dX3_addStamp_64 : decode cX3_addStamp 64 = .ok (.iload_n 1, 1) := by decide +kernel
theorem dX3_addStamp_65 : decode cX3_addStamp 65 = .ok (.iload_n 2, 1) := by decide +kernel
theorem dX3_addStamp_66 : decode cX3_addStamp 66 = .ok (.invokevirtual 59, 3) := by decide +kernel
theorem dX3_addStamp_69 : decode cX3_addStamp 69 = .ok (.ireturn, 1) := by decide +kernel
theorem dX3_withdraw_0 : decode cX3_withdraw 0 = .ok (.aload_n 0, 1) := by decide +kernel
theorem dX3_withdraw_1 : decode cX3_withdraw 1 = .ok (.iload_n 1, 1) := by decide +kernel
theorem dX3_withdraw_2 : decode cX3_withdraw 2 = .ok (.invokevirtual 63, 3) := by decide +kernel
theorem dX3_withdraw_5 : decode cX3_withdraw 5 = .ok (.aload_n 0, 1) := by decide +kernel
theorem dX3_withdraw_6 : decode cX3_withdraw 6 = .ok (.getfield 12, 3) := by decide +kernel
theorem dX3_withdraw_9 : decode cX3_withdraw 9 = .ok (.getfield 67, 3) := by decide +kernel
theorem dX3_withdraw_12 : decode cX3_withdraw 12 = .ok (.iload_n 1, 1) := by decide +kernel
theorem dX3_withdraw_13 : decode cX3_withdraw 13 = .ok (.iaload, 1) := by decide +kernel
theorem dX3_withdraw_14 : decode cX3_withdraw 14 = .ok (.istore_n 2, 1) := by decide +kernel
theorem dX3_withdraw_15 : decode cX3_withdraw 15 = .ok (.aload_n 0, 1) := by decide +kernel
theorem dX3_withdraw_16 : decode cX3_withdraw 16 = .ok (.getfield 12, 3) := by decide +kernel
theorem dX3_withdraw_19 : decode cX3_withdraw 19 = .ok (.iload_n 1, 1) := by decide +kernel
theorem dX3_withdraw_20 : decode cX3_withdraw 20 = .ok (.invokevirtual 71, 3) := by decide +kernel
theorem dX3_withdraw_23 : decode cX3_withdraw 23 = .ok (.iload_n 2, 1) := by decide +kernel
theorem dX3_withdraw_24 : decode cX3_withdraw 24 = .ok (.ireturn, 1) := by decide +kernel
theorem dX3_print_0 : decode cX3_print 0 = .ok (.aload_n 0, 1) := by decide +kernel
theorem dX3_print_1 : decode cX3_print 1 = .ok (.iload_n 1, 1) := by decide +kernel
theorem dX3_print_2 : decode cX3_print 2 = .ok (.invokevirtual 63, 3) := by decide +kernel
theorem dX3_print_5 : decode cX3_print 5 = .ok (.iload_n 2, 1) := by decide +kernel
theorem dX3_print_6 : decode cX3_print 6 = .ok (.iconst 1, 1) := by decide +kernel
theorem dX3_print_7 : decode cX3_print 7 = .ok (.if_icmp .lt 9, 3) := by decide +kernel
theorem dX3_print_10 : decode cX3_print 10 = .ok (.iload_n 2, 1) := by decide +kernel
theorem dX3_print_11 : decode cX3_print 11 = .ok (.bipush 99, 2) := by decide +kernel
theorem dX3_print_13 : decode cX3_print 13 = .ok (.if_icmp .le 11, 3) := by decide +kernel
theorem dX3_print_16 : decode cX3_print 16 = .ok (.new 46, 3) := by decide +kernel
theorem dX3_print_19 : decode cX3_print 19 = .ok (.dup, 1) := by decide +kernel
theorem dX3_print_20 : decode cX3_print 20 = .ok (.invokespecial 48, 3) := by decide +kernel
theorem dX3_print_23 : decode cX3_print 23 = .ok (.athrow, 1) := by decide +kernel
theorem dX3_print_24 : decode cX3_print 24 = .ok (.aload_n 0, 1) := by decide +kernel
theorem dX3_print_25 : decode cX3_print 25 = .ok (.getfield 12, 3) := by decide +kernel
theorem dX3_print_28 : decode cX3_print 28 = .ok (.getfield 67, 3) := by decide +kernel
theorem dX3_print_31 : decode cX3_print 31 = .ok (.iload_n 1, 1) := by decide +kernel
theorem dX3_print_32 : decode cX3_print 32 = .ok (.aload_n 0, 1) := by decide +kernel
theorem dX3_print_33 : decode cX3_print 33 = .ok (.getfield 12, 3) := by decide +kernel
theorem dX3_print_36 : decode cX3_print 36 = .ok (.getfield 67, 3) := by decide +kernel
theorem dX3_print_39 : decode cX3_print 39 = .ok (.iload_n 1, 1) := by decide +kernel
theorem dX3_print_40 : decode cX3_print 40 = .ok (.iaload, 1) := by decide +kernel
theorem dX3_print_41 : decode cX3_print 41 = .ok (.iload_n 2, 1) := by decide +kernel
theorem dX3_print_42 : decode cX3_print 42 = .ok (.iadd, 1) := by decide +kernel
theorem dX3_print_43 : decode cX3_print 43 = .ok (.bipush 99, 2) := by decide +kernel
theorem dX3_print_45 : decode cX3_print 45 = .ok (.invokestatic 74, 3) := by decide +kernel
theorem dX3_print_48 : decode cX3_print 48 = .ok (.iastore, 1) := by decide +kernel
theorem dX3_print_49 : decode cX3_print 49 = .ok (.aload_n 0, 1) := by decide +kernel
theorem dX3_print_50 : decode cX3_print 50 = .ok (.getfield 12, 3) := by decide +kernel
theorem dX3_print_53 : decode cX3_print 53 = .ok (.getfield 67, 3) := by decide +kernel
theorem dX3_print_56 : decode cX3_print 56 = .ok (.iload_n 1, 1) := by decide +kernel
theorem dX3_print_57 : decode cX3_print 57 = .ok (.iaload, 1) := by decide +kernel
theorem dX3_print_58 : decode cX3_print 58 = .ok (.ireturn, 1) := by decide +kernel
theorem dX3_setRoom_0 : decode cX3_setRoom 0 = .ok (.iload_n 1, 1) := by decide +kernel
theorem dX3_setRoom_1 : decode cX3_setRoom 1 = .ok (.invokestatic 79, 3) := by decide +kernel
theorem dX3_setRoom_4 : decode cX3_setRoom 4 = .ok (.aload_n 0, 1) := by decide +kernel
theorem dX3_setRoom_5 : decode cX3_setRoom 5 = .ok (.getfield 33, 3) := by decide +kernel
theorem dX3_setRoom_8 : decode cX3_setRoom 8 = .ok (.istore_n 2, 1) := by decide +kernel
theorem dX3_setRoom_9 : decode cX3_setRoom 9 = .ok (.aload_n 0, 1) := by decide +kernel
theorem dX3_setRoom_10 : decode cX3_setRoom 10 = .ok (.iload_n 1, 1) := by decide +kernel
theorem dX3_setRoom_11 : decode cX3_setRoom 11 = .ok (.putfield 33, 3) := by decide +kernel
theorem dX3_setRoom_14 : decode cX3_setRoom 14 = .ok (.iload_n 2, 1) := by decide +kernel
theorem dX3_setRoom_15 : decode cX3_setRoom 15 = .ok (.ireturn, 1) := by decide +kernel
theorem dX3_vend_0 : decode cX3_vend 0 = .ok (.iload_n 1, 1) := by decide +kernel
theorem dX3_vend_1 : decode cX3_vend 1 = .ok (.invokestatic 82, 3) := by decide +kernel
theorem dX3_vend_4 : decode cX3_vend 4 = .ok (.aload_n 0, 1) := by decide +kernel
theorem dX3_vend_5 : decode cX3_vend 5 = .ok (.getfield 22, 3) := by decide +kernel
theorem dX3_vend_8 : decode cX3_vend 8 = .ok (.aload_n 0, 1) := by decide +kernel
theorem dX3_vend_9 : decode cX3_vend 9 = .ok (.getfield 12, 3) := by decide +kernel
theorem dX3_vend_12 : decode cX3_vend 12 = .ok (.aload_n 0, 1) := by decide +kernel
theorem dX3_vend_13 : decode cX3_vend 13 = .ok (.getfield 33, 3) := by decide +kernel
theorem dX3_vend_16 : decode cX3_vend 16 = .ok (.invokevirtual 85, 3) := by decide +kernel
theorem dX3_vend_19 : decode cX3_vend 19 = .ok (.aload_n 0, 1) := by decide +kernel
theorem dX3_vend_20 : decode cX3_vend 20 = .ok (.getfield 22, 3) := by decide +kernel
theorem dX3_vend_23 : decode cX3_vend 23 = .ok (.iload_n 1, 1) := by decide +kernel
theorem dX3_vend_24 : decode cX3_vend 24 = .ok (.invokevirtual 89, 3) := by decide +kernel
theorem dX3_vend_27 : decode cX3_vend 27 = .ok (.istore_n 2, 1) := by decide +kernel
theorem dX3_vend_28 : decode cX3_vend 28 = .ok (.iload_n 2, 1) := by decide +kernel
theorem dX3_vend_29 : decode cX3_vend 29 = .ok (.iconst (-1), 1) := by decide +kernel
theorem dX3_vend_30 : decode cX3_vend 30 = .ok (.if_icmp .ne 11, 3) := by decide +kernel
theorem dX3_vend_33 : decode cX3_vend 33 = .ok (.new 56, 3) := by decide +kernel
theorem dX3_vend_36 : decode cX3_vend 36 = .ok (.dup, 1) := by decide +kernel
theorem dX3_vend_37 : decode cX3_vend 37 = .ok (.invokespecial 58, 3) := by decide +kernel
theorem dX3_vend_40 : decode cX3_vend 40 = .ok (.athrow, 1) := by decide +kernel
theorem dX3_vend_41 : decode cX3_vend 41 = .ok (.aload_n 0, 1) := by decide +kernel
theorem dX3_vend_42 : decode cX3_vend 42 = .ok (.getfield 22, 3) := by decide +kernel
theorem dX3_vend_45 : decode cX3_vend 45 = .ok (.iload_n 2, 1) := by decide +kernel
theorem dX3_vend_46 : decode cX3_vend 46 = .ok (.invokevirtual 93, 3) := by decide +kernel
theorem dX3_vend_49 : decode cX3_vend 49 = .ok (.aload_n 0, 1) := by decide +kernel
theorem dX3_vend_50 : decode cX3_vend 50 = .ok (.getfield 12, 3) := by decide +kernel
theorem dX3_vend_53 : decode cX3_vend 53 = .ok (.aload_n 0, 1) := by decide +kernel
theorem dX3_vend_54 : decode cX3_vend 54 = .ok (.getfield 22, 3) := by decide +kernel
theorem dX3_vend_57 : decode cX3_vend 57 = .ok (.getfield 96, 3) := by decide +kernel
theorem dX3_vend_60 : decode cX3_vend 60 = .ok (.invokevirtual 99, 3) := by decide +kernel
theorem dX3_vend_63 : decode cX3_vend 63 = .ok (.iload_n 2, 1) := by decide +kernel
theorem dX3_vend_64 : decode cX3_vend 64 = .ok (.iload_n 1, 1) := by decide +kernel
theorem dX3_vend_65 : decode cX3_vend 65 = .ok (.isub, 1) := by decide +kernel
theorem dX3_vend_66 : decode cX3_vend 66 = .ok (.istore_n 3, 1) := by decide +kernel
theorem dX3_vend_67 : decode cX3_vend 67 = .ok (.aload_n 0, 1) := by decide +kernel
theorem dX3_vend_68 : decode cX3_vend 68 = .ok (.dup, 1) := by decide +kernel
theorem dX3_vend_69 : decode cX3_vend 69 = .ok (.getfield 37, 3) := by decide +kernel
theorem dX3_vend_72 : decode cX3_vend 72 = .ok (.iconst 1, 1) := by decide +kernel
theorem dX3_vend_73 : decode cX3_vend 73 = .ok (.iadd, 1) := by decide +kernel
theorem dX3_vend_74 : decode cX3_vend 74 = .ok (.putfield 37, 3) := by decide +kernel
theorem dX3_vend_77 : decode cX3_vend 77 = .ok (.aload_n 0, 1) := by decide +kernel
theorem dX3_vend_78 : decode cX3_vend 78 = .ok (.dup, 1) := by decide +kernel
theorem dX3_vend_79 : decode cX3_vend 79 = .ok (.getfield 40, 3) := by decide +kernel
theorem dX3_vend_82 : decode cX3_vend 82 = .ok (.iload_n 2, 1) := by decide +kernel
theorem dX3_vend_83 : decode cX3_vend 83 = .ok (.iadd, 1) := by decide +kernel
theorem dX3_vend_84 : decode cX3_vend 84 = .ok (.putfield 40, 3) := by decide +kernel
theorem dX3_vend_87 : decode cX3_vend 87 = .ok (.aload_n 0, 1) := by decide +kernel
theorem dX3_vend_88 : decode cX3_vend 88 = .ok (.dup, 1) := by decide +kernel
theorem dX3_vend_89 : decode cX3_vend 89 = .ok (.getfield 43, 3) := by decide +kernel
theorem dX3_vend_92 : decode cX3_vend 92 = .ok (.iload_n 3, 1) := by decide +kernel
theorem dX3_vend_93 : decode cX3_vend 93 = .ok (.iadd, 1) := by decide +kernel
theorem dX3_vend_94 : decode cX3_vend 94 = .ok (.putfield 43, 3) := by decide +kernel
theorem dX3_vend_97 : decode cX3_vend 97 = .ok (.iload_n 3, 1) := by decide +kernel
theorem dX3_vend_98 : decode cX3_vend 98 = .ok (.ireturn, 1) := by decide +kernel
theorem dX3_stamps_0 : decode cX3_stamps 0 = .ok (.aload_n 0, 1) := by decide +kernel
theorem dX3_stamps_1 : decode cX3_stamps 1 = .ok (.getfield 12, 3) := by decide +kernel
theorem dX3_stamps_4 : decode cX3_stamps 4 = .ok (.getfield 49, 3) := by decide +kernel
theorem dX3_stamps_7 : decode cX3_stamps 7 = .ok (.ireturn, 1) := by decide +kernel
theorem dX3_room_0 : decode cX3_room 0 = .ok (.aload_n 0, 1) := by decide +kernel
theorem dX3_room_1 : decode cX3_room 1 = .ok (.getfield 33, 3) := by decide +kernel
theorem dX3_room_4 : decode cX3_room 4 = .ok (.ireturn, 1) := by decide +kernel
theorem dX3_valueOf_0 : decode cX3_valueOf 0 = .ok (.aload_n 0, 1) := by decide +kernel
theorem dX3_valueOf_1 : decode cX3_valueOf 1 = .ok (.iload_n 1, 1) := by decide +kernel
theorem dX3_valueOf_2 : decode cX3_valueOf 2 = .ok (.invokevirtual 63, 3) := by decide +kernel
theorem dX3_valueOf_5 : decode cX3_valueOf 5 = .ok (.aload_n 0, 1) := by decide +kernel
theorem dX3_valueOf_6 : decode cX3_valueOf 6 = .ok (.getfield 12, 3) := by decide +kernel
theorem dX3_valueOf_9 : decode cX3_valueOf 9 = .ok (.getfield 103, 3) := by decide +kernel
theorem dX3_valueOf_12 : decode cX3_valueOf 12 = .ok (.iload_n 1, 1) := by decide +kernel
theorem dX3_valueOf_13 : decode cX3_valueOf 13 = .ok (.iaload, 1) := by decide +kernel
theorem dX3_valueOf_14 : decode cX3_valueOf 14 = .ok (.ireturn, 1) := by decide +kernel
theorem dX3_stockOf_0 : decode cX3_stockOf 0 = .ok (.aload_n 0, 1) := by decide +kernel
theorem dX3_stockOf_1 : decode cX3_stockOf 1 = .ok (.iload_n 1, 1) := by decide +kernel
theorem dX3_stockOf_2 : decode cX3_stockOf 2 = .ok (.invokevirtual 63, 3) := by decide +kernel
theorem dX3_stockOf_5 : decode cX3_stockOf 5 = .ok (.aload_n 0, 1) := by decide +kernel
theorem dX3_stockOf_6 : decode cX3_stockOf 6 = .ok (.getfield 12, 3) := by decide +kernel
theorem dX3_stockOf_9 : decode cX3_stockOf 9 = .ok (.getfield 67, 3) := by decide +kernel
theorem dX3_stockOf_12 : decode cX3_stockOf 12 = .ok (.iload_n 1, 1) := by decide +kernel
theorem dX3_stockOf_13 : decode cX3_stockOf 13 = .ok (.iaload, 1) := by decide +kernel
theorem dX3_stockOf_14 : decode cX3_stockOf 14 = .ok (.ireturn, 1) := by decide +kernel
theorem dX3_vendedOf_0 : decode cX3_vendedOf 0 = .ok (.aload_n 0, 1) := by decide +kernel
theorem dX3_vendedOf_1 : decode cX3_vendedOf 1 = .ok (.iload_n 1, 1) := by decide +kernel
theorem dX3_vendedOf_2 : decode cX3_vendedOf 2 = .ok (.invokevirtual 63, 3) := by decide +kernel
theorem dX3_vendedOf_5 : decode cX3_vendedOf 5 = .ok (.aload_n 0, 1) := by decide +kernel
theorem dX3_vendedOf_6 : decode cX3_vendedOf 6 = .ok (.getfield 12, 3) := by decide +kernel
theorem dX3_vendedOf_9 : decode cX3_vendedOf 9 = .ok (.getfield 106, 3) := by decide +kernel
theorem dX3_vendedOf_12 : decode cX3_vendedOf 12 = .ok (.iload_n 1, 1) := by decide +kernel
theorem dX3_vendedOf_13 : decode cX3_vendedOf 13 = .ok (.iaload, 1) := by decide +kernel
theorem dX3_vendedOf_14 : decode cX3_vendedOf 14 = .ok (.ireturn, 1) := by decide +kernel
theorem dX3_letters_0 : decode cX3_letters 0 = .ok (.aload_n 0, 1) := by decide +kernel
theorem dX3_letters_1 : decode cX3_letters 1 = .ok (.getfield 37, 3) := by decide +kernel
theorem dX3_letters_4 : decode cX3_letters 4 = .ok (.ireturn, 1) := by decide +kernel
theorem dX3_taken_0 : decode cX3_taken 0 = .ok (.aload_n 0, 1) := by decide +kernel
theorem dX3_taken_1 : decode cX3_taken 1 = .ok (.getfield 40, 3) := by decide +kernel
theorem dX3_taken_4 : decode cX3_taken 4 = .ok (.ireturn, 1) := by decide +kernel
theorem dX3_overpaid_0 : decode cX3_overpaid 0 = .ok (.aload_n 0, 1) := by decide +kernel
theorem dX3_overpaid_1 : decode cX3_overpaid 1 = .ok (.getfield 43, 3) := by decide +kernel
theorem dX3_overpaid_4 : decode cX3_overpaid 4 = .ok (.ireturn, 1) := by decide +kernel
theorem dX3_scarcest_0 : decode cX3_scarcest 0 = .ok (.iconst (-1), 1) := by decide +kernel
theorem dX3_scarcest_1 : decode cX3_scarcest 1 = .ok (.istore_n 1, 1) := by decide +kernel
theorem dX3_scarcest_2 : decode cX3_scarcest 2 = .ok (.bipush 100, 2) := by decide +kernel
theorem dX3_scarcest_4 : decode cX3_scarcest 4 = .ok (.istore_n 2, 1) := by decide +kernel
theorem dX3_scarcest_5 : decode cX3_scarcest 5 = .ok (.iconst 0, 1) := by decide +kernel
theorem dX3_scarcest_6 : decode cX3_scarcest 6 = .ok (.istore_n 3, 1) := by decide +kernel
theorem dX3_scarcest_7 : decode cX3_scarcest 7 = .ok (.iload_n 3, 1) := by decide +kernel
theorem dX3_scarcest_8 : decode cX3_scarcest 8 = .ok (.aload_n 0, 1) := by decide +kernel
theorem dX3_scarcest_9 : decode cX3_scarcest 9 = .ok (.getfield 12, 3) := by decide +kernel
theorem dX3_scarcest_12 : decode cX3_scarcest 12 = .ok (.getfield 49, 3) := by decide +kernel
theorem dX3_scarcest_15 : decode cX3_scarcest 15 = .ok (.if_icmp .ge 34, 3) := by decide +kernel
theorem dX3_scarcest_18 : decode cX3_scarcest 18 = .ok (.aload_n 0, 1) := by decide +kernel
theorem dX3_scarcest_19 : decode cX3_scarcest 19 = .ok (.getfield 12, 3) := by decide +kernel
theorem dX3_scarcest_22 : decode cX3_scarcest 22 = .ok (.getfield 67, 3) := by decide +kernel
theorem dX3_scarcest_25 : decode cX3_scarcest 25 = .ok (.iload_n 3, 1) := by decide +kernel
theorem dX3_scarcest_26 : decode cX3_scarcest 26 = .ok (.iaload, 1) := by decide +kernel
theorem dX3_scarcest_27 : decode cX3_scarcest 27 = .ok (.iload_n 2, 1) := by decide +kernel
theorem dX3_scarcest_28 : decode cX3_scarcest 28 = .ok (.if_icmp .ge 15, 3) := by decide +kernel
theorem dX3_scarcest_31 : decode cX3_scarcest 31 = .ok (.aload_n 0, 1) := by decide +kernel
theorem dX3_scarcest_32 : decode cX3_scarcest 32 = .ok (.getfield 12, 3) := by decide +kernel
theorem dX3_scarcest_35 : decode cX3_scarcest 35 = .ok (.getfield 67, 3) := by decide +kernel
theorem dX3_scarcest_38 : decode cX3_scarcest 38 = .ok (.iload_n 3, 1) := by decide +kernel
theorem dX3_scarcest_39 : decode cX3_scarcest 39 = .ok (.iaload, 1) := by decide +kernel
theorem dX3_scarcest_40 : decode cX3_scarcest 40 = .ok (.istore_n 2, 1) := by decide +kernel
theorem dX3_scarcest_41 : decode cX3_scarcest 41 = .ok (.iload_n 3, 1) := by decide +kernel
theorem dX3_scarcest_42 : decode cX3_scarcest 42 = .ok (.istore_n 1, 1) := by decide +kernel
theorem dX3_scarcest_43 : decode cX3_scarcest 43 = .ok (.iinc 3 1, 3) := by decide +kernel
theorem dX3_scarcest_46 : decode cX3_scarcest 46 = .ok (.goto (-39), 3) := by decide +kernel
theorem dX3_scarcest_49 : decode cX3_scarcest 49 = .ok (.iload_n 1, 1) := by decide +kernel
theorem dX3_scarcest_50 : decode cX3_scarcest 50 = .ok (.ireturn, 1) := by decide +kernel
theorem dX3_canPay_0 : decode cX3_canPay 0 = .ok (.iload_n 1, 1) := by decide +kernel
theorem dX3_canPay_1 : decode cX3_canPay 1 = .ok (.invokestatic 82, 3) := by decide +kernel
theorem dX3_canPay_4 : decode cX3_canPay 4 = .ok (.aload_n 0, 1) := by decide +kernel
theorem dX3_canPay_5 : decode cX3_canPay 5 = .ok (.getfield 22, 3) := by decide +kernel
theorem dX3_canPay_8 : decode cX3_canPay 8 = .ok (.aload_n 0, 1) := by decide +kernel
theorem dX3_canPay_9 : decode cX3_canPay 9 = .ok (.getfield 12, 3) := by decide +kernel
theorem dX3_canPay_12 : decode cX3_canPay 12 = .ok (.aload_n 0, 1) := by decide +kernel
theorem dX3_canPay_13 : decode cX3_canPay 13 = .ok (.getfield 33, 3) := by decide +kernel
theorem dX3_canPay_16 : decode cX3_canPay 16 = .ok (.invokevirtual 85, 3) := by decide +kernel
theorem dX3_canPay_19 : decode cX3_canPay 19 = .ok (.aload_n 0, 1) := by decide +kernel
theorem dX3_canPay_20 : decode cX3_canPay 20 = .ok (.getfield 22, 3) := by decide +kernel
theorem dX3_canPay_23 : decode cX3_canPay 23 = .ok (.iload_n 1, 1) := by decide +kernel
theorem dX3_canPay_24 : decode cX3_canPay 24 = .ok (.invokevirtual 109, 3) := by decide +kernel
theorem dX3_canPay_27 : decode cX3_canPay 27 = .ok (.ireturn, 1) := by decide +kernel
theorem dX3_overpay_0 : decode cX3_overpay 0 = .ok (.iload_n 1, 1) := by decide +kernel
theorem dX3_overpay_1 : decode cX3_overpay 1 = .ok (.invokestatic 82, 3) := by decide +kernel
theorem dX3_overpay_4 : decode cX3_overpay 4 = .ok (.aload_n 0, 1) := by decide +kernel
theorem dX3_overpay_5 : decode cX3_overpay 5 = .ok (.getfield 22, 3) := by decide +kernel
theorem dX3_overpay_8 : decode cX3_overpay 8 = .ok (.aload_n 0, 1) := by decide +kernel
theorem dX3_overpay_9 : decode cX3_overpay 9 = .ok (.getfield 12, 3) := by decide +kernel
theorem dX3_overpay_12 : decode cX3_overpay 12 = .ok (.aload_n 0, 1) := by decide +kernel
theorem dX3_overpay_13 : decode cX3_overpay 13 = .ok (.getfield 33, 3) := by decide +kernel
theorem dX3_overpay_16 : decode cX3_overpay 16 = .ok (.invokevirtual 85, 3) := by decide +kernel
theorem dX3_overpay_19 : decode cX3_overpay 19 = .ok (.aload_n 0, 1) := by decide +kernel
theorem dX3_overpay_20 : decode cX3_overpay 20 = .ok (.getfield 22, 3) := by decide +kernel
theorem dX3_overpay_23 : decode cX3_overpay 23 = .ok (.iload_n 1, 1) := by decide +kernel
theorem dX3_overpay_24 : decode cX3_overpay 24 = .ok (.invokevirtual 112, 3) := by decide +kernel
theorem dX3_overpay_27 : decode cX3_overpay 27 = .ok (.ireturn, 1) := by decide +kernel
theorem dX3_stampsFor_0 : decode cX3_stampsFor 0 = .ok (.iload_n 1, 1) := by decide +kernel
theorem dX3_stampsFor_1 : decode cX3_stampsFor 1 = .ok (.invokestatic 82, 3) := by decide +kernel
theorem dX3_stampsFor_4 : decode cX3_stampsFor 4 = .ok (.aload_n 0, 1) := by decide +kernel
theorem dX3_stampsFor_5 : decode cX3_stampsFor 5 = .ok (.getfield 22, 3) := by decide +kernel
theorem dX3_stampsFor_8 : decode cX3_stampsFor 8 = .ok (.aload_n 0, 1) := by decide +kernel
theorem dX3_stampsFor_9 : decode cX3_stampsFor 9 = .ok (.getfield 12, 3) := by decide +kernel
theorem dX3_stampsFor_12 : decode cX3_stampsFor 12 = .ok (.aload_n 0, 1) := by decide +kernel
theorem dX3_stampsFor_13 : decode cX3_stampsFor 13 = .ok (.getfield 33, 3) := by decide +kernel
theorem dX3_stampsFor_16 : decode cX3_stampsFor 16 = .ok (.invokevirtual 85, 3) := by decide +kernel
theorem dX3_stampsFor_19 : decode cX3_stampsFor 19 = .ok (.aload_n 0, 1) := by decide +kernel
theorem dX3_stampsFor_20 : decode cX3_stampsFor 20 = .ok (.getfield 22, 3) := by decide +kernel
theorem dX3_stampsFor_23 : decode cX3_stampsFor 23 = .ok (.iload_n 1, 1) := by decide +kernel
theorem dX3_stampsFor_24 : decode cX3_stampsFor 24 = .ok (.invokevirtual 115, 3) := by decide +kernel
theorem dX3_stampsFor_27 : decode cX3_stampsFor 27 = .ok (.ireturn, 1) := by decide +kernel
theorem dX3_ofStampFor_0 : decode cX3_ofStampFor 0 = .ok (.aload_n 0, 1) := by decide +kernel
theorem dX3_ofStampFor_1 : decode cX3_ofStampFor 1 = .ok (.iload_n 2, 1) := by decide +kernel
theorem dX3_ofStampFor_2 : decode cX3_ofStampFor 2 = .ok (.invokevirtual 63, 3) := by decide +kernel
theorem dX3_ofStampFor_5 : decode cX3_ofStampFor 5 = .ok (.iload_n 1, 1) := by decide +kernel
theorem dX3_ofStampFor_6 : decode cX3_ofStampFor 6 = .ok (.invokestatic 82, 3) := by decide +kernel
theorem dX3_ofStampFor_9 : decode cX3_ofStampFor 9 = .ok (.aload_n 0, 1) := by decide +kernel
theorem dX3_ofStampFor_10 : decode cX3_ofStampFor 10 = .ok (.getfield 22, 3) := by decide +kernel
theorem dX3_ofStampFor_13 : decode cX3_ofStampFor 13 = .ok (.aload_n 0, 1) := by decide +kernel
theorem dX3_ofStampFor_14 : decode cX3_ofStampFor 14 = .ok (.getfield 12, 3) := by decide +kernel
theorem dX3_ofStampFor_17 : decode cX3_ofStampFor 17 = .ok (.aload_n 0, 1) := by decide +kernel
theorem dX3_ofStampFor_18 : decode cX3_ofStampFor 18 = .ok (.getfield 33, 3) := by decide +kernel
theorem dX3_ofStampFor_21 : decode cX3_ofStampFor 21 = .ok (.invokevirtual 85, 3) := by decide +kernel
theorem dX3_ofStampFor_24 : decode cX3_ofStampFor 24 = .ok (.aload_n 0, 1) := by decide +kernel
theorem dX3_ofStampFor_25 : decode cX3_ofStampFor 25 = .ok (.getfield 22, 3) := by decide +kernel
theorem dX3_ofStampFor_28 : decode cX3_ofStampFor 28 = .ok (.iload_n 1, 1) := by decide +kernel
theorem dX3_ofStampFor_29 : decode cX3_ofStampFor 29 = .ok (.invokevirtual 89, 3) := by decide +kernel
theorem dX3_ofStampFor_32 : decode cX3_ofStampFor 32 = .ok (.istore_n 3, 1) := by decide +kernel
theorem dX3_ofStampFor_33 : decode cX3_ofStampFor 33 = .ok (.iload_n 3, 1) := by decide +kernel
theorem dX3_ofStampFor_34 : decode cX3_ofStampFor 34 = .ok (.iconst (-1), 1) := by decide +kernel
theorem dX3_ofStampFor_35 : decode cX3_ofStampFor 35 = .ok (.if_icmp .ne 5, 3) := by decide +kernel
theorem dX3_ofStampFor_38 : decode cX3_ofStampFor 38 = .ok (.iconst 0, 1) := by decide +kernel
theorem dX3_ofStampFor_39 : decode cX3_ofStampFor 39 = .ok (.ireturn, 1) := by decide +kernel
theorem dX3_ofStampFor_40 : decode cX3_ofStampFor 40 = .ok (.aload_n 0, 1) := by decide +kernel
theorem dX3_ofStampFor_41 : decode cX3_ofStampFor 41 = .ok (.getfield 22, 3) := by decide +kernel
theorem dX3_ofStampFor_44 : decode cX3_ofStampFor 44 = .ok (.iload_n 3, 1) := by decide +kernel
theorem dX3_ofStampFor_45 : decode cX3_ofStampFor 45 = .ok (.invokevirtual 93, 3) := by decide +kernel
theorem dX3_ofStampFor_48 : decode cX3_ofStampFor 48 = .ok (.aload_n 0, 1) := by decide +kernel
theorem dX3_ofStampFor_49 : decode cX3_ofStampFor 49 = .ok (.getfield 22, 3) := by decide +kernel
theorem dX3_ofStampFor_52 : decode cX3_ofStampFor 52 = .ok (.getfield 96, 3) := by decide +kernel
theorem dX3_ofStampFor_55 : decode cX3_ofStampFor 55 = .ok (.iload_n 2, 1) := by decide +kernel
theorem dX3_ofStampFor_56 : decode cX3_ofStampFor 56 = .ok (.iaload, 1) := by decide +kernel
theorem dX3_ofStampFor_57 : decode cX3_ofStampFor 57 = .ok (.ireturn, 1) := by decide +kernel
theorem dX3_reachNow_0 : decode cX3_reachNow 0 = .ok (.aload_n 0, 1) := by decide +kernel
theorem dX3_reachNow_1 : decode cX3_reachNow 1 = .ok (.getfield 22, 3) := by decide +kernel
theorem dX3_reachNow_4 : decode cX3_reachNow 4 = .ok (.aload_n 0, 1) := by decide +kernel
theorem dX3_reachNow_5 : decode cX3_reachNow 5 = .ok (.getfield 12, 3) := by decide +kernel
theorem dX3_reachNow_8 : decode cX3_reachNow 8 = .ok (.aload_n 0, 1) := by decide +kernel
theorem dX3_reachNow_9 : decode cX3_reachNow 9 = .ok (.getfield 33, 3) := by decide +kernel
theorem dX3_reachNow_12 : decode cX3_reachNow 12 = .ok (.invokevirtual 85, 3) := by decide +kernel
theorem dX3_reachNow_15 : decode cX3_reachNow 15 = .ok (.aload_n 0, 1) := by decide +kernel
theorem dX3_reachNow_16 : decode cX3_reachNow 16 = .ok (.getfield 22, 3) := by decide +kernel
theorem dX3_reachNow_19 : decode cX3_reachNow 19 = .ok (.invokevirtual 118, 3) := by decide +kernel
theorem dX3_reachNow_22 : decode cX3_reachNow 22 = .ok (.ireturn, 1) := by decide +kernel
theorem dX3_most_0 : decode cX3_most 0 = .ok (.aload_n 0, 1) := by decide +kernel
theorem dX3_most_1 : decode cX3_most 1 = .ok (.getfield 22, 3) := by decide +kernel
theorem dX3_most_4 : decode cX3_most 4 = .ok (.aload_n 0, 1) := by decide +kernel
theorem dX3_most_5 : decode cX3_most 5 = .ok (.getfield 12, 3) := by decide +kernel
theorem dX3_most_8 : decode cX3_most 8 = .ok (.aload_n 0, 1) := by decide +kernel
theorem dX3_most_9 : decode cX3_most 9 = .ok (.getfield 33, 3) := by decide +kernel
theorem dX3_most_12 : decode cX3_most 12 = .ok (.invokevirtual 122, 3) := by decide +kernel
theorem dX3_most_15 : decode cX3_most 15 = .ok (.aload_n 0, 1) := by decide +kernel
theorem dX3_most_16 : decode cX3_most 16 = .ok (.getfield 22, 3) := by decide +kernel
theorem dX3_most_19 : decode cX3_most 19 = .ok (.invokevirtual 125, 3) := by decide +kernel
theorem dX3_most_22 : decode cX3_most 22 = .ok (.ireturn, 1) := by decide +kernel
theorem dX3_fewest_0 : decode cX3_fewest 0 = .ok (.iload_n 1, 1) := by decide +kernel
theorem dX3_fewest_1 : decode cX3_fewest 1 = .ok (.invokestatic 82, 3) := by decide +kernel
theorem dX3_fewest_4 : decode cX3_fewest 4 = .ok (.aload_n 0, 1) := by decide +kernel
theorem dX3_fewest_5 : decode cX3_fewest 5 = .ok (.getfield 29, 3) := by decide +kernel
theorem dX3_fewest_8 : decode cX3_fewest 8 = .ok (.aload_n 0, 1) := by decide +kernel
theorem dX3_fewest_9 : decode cX3_fewest 9 = .ok (.getfield 12, 3) := by decide +kernel
theorem dX3_fewest_12 : decode cX3_fewest 12 = .ok (.invokevirtual 128, 3) := by decide +kernel
theorem dX3_fewest_15 : decode cX3_fewest 15 = .ok (.aload_n 0, 1) := by decide +kernel
theorem dX3_fewest_16 : decode cX3_fewest 16 = .ok (.getfield 29, 3) := by decide +kernel
theorem dX3_fewest_19 : decode cX3_fewest 19 = .ok (.iload_n 1, 1) := by decide +kernel
theorem dX3_fewest_20 : decode cX3_fewest 20 = .ok (.aload_n 0, 1) := by decide +kernel
theorem dX3_fewest_21 : decode cX3_fewest 21 = .ok (.getfield 33, 3) := by decide +kernel
theorem dX3_fewest_24 : decode cX3_fewest 24 = .ok (.invokevirtual 131, 3) := by decide +kernel
theorem dX3_fewest_27 : decode cX3_fewest 27 = .ok (.ireturn, 1) := by decide +kernel
theorem dX3_ways_0 : decode cX3_ways 0 = .ok (.iload_n 1, 1) := by decide +kernel
theorem dX3_ways_1 : decode cX3_ways 1 = .ok (.invokestatic 82, 3) := by decide +kernel
theorem dX3_ways_4 : decode cX3_ways 4 = .ok (.aload_n 0, 1) := by decide +kernel
theorem dX3_ways_5 : decode cX3_ways 5 = .ok (.getfield 29, 3) := by decide +kernel
theorem dX3_ways_8 : decode cX3_ways 8 = .ok (.aload_n 0, 1) := by decide +kernel
theorem dX3_ways_9 : decode cX3_ways 9 = .ok (.getfield 12, 3) := by decide +kernel
theorem dX3_ways_12 : decode cX3_ways 12 = .ok (.aload_n 0, 1) := by decide +kernel
theorem dX3_ways_13 : decode cX3_ways 13 = .ok (.getfield 33, 3) := by decide +kernel
theorem dX3_ways_16 : decode cX3_ways 16 = .ok (.iload_n 1, 1) := by decide +kernel
theorem dX3_ways_17 : decode cX3_ways 17 = .ok (.invokevirtual 134, 3) := by decide +kernel
theorem dX3_ways_20 : decode cX3_ways 20 = .ok (.ireturn, 1) := by decide +kernel
theorem dX3_reach_0 : decode cX3_reach 0 = .ok (.aload_n 0, 1) := by decide +kernel
theorem dX3_reach_1 : decode cX3_reach 1 = .ok (.getfield 29, 3) := by decide +kernel
theorem dX3_reach_4 : decode cX3_reach 4 = .ok (.aload_n 0, 1) := by decide +kernel
theorem dX3_reach_5 : decode cX3_reach 5 = .ok (.getfield 12, 3) := by decide +kernel
theorem dX3_reach_8 : decode cX3_reach 8 = .ok (.invokevirtual 128, 3) := by decide +kernel
theorem dX3_reach_11 : decode cX3_reach 11 = .ok (.aload_n 0, 1) := by decide +kernel
theorem dX3_reach_12 : decode cX3_reach 12 = .ok (.getfield 29, 3) := by decide +kernel
theorem dX3_reach_15 : decode cX3_reach 15 = .ok (.aload_n 0, 1) := by decide +kernel
theorem dX3_reach_16 : decode cX3_reach 16 = .ok (.getfield 33, 3) := by decide +kernel
theorem dX3_reach_19 : decode cX3_reach 19 = .ok (.invokevirtual 138, 3) := by decide +kernel
theorem dX3_reach_22 : decode cX3_reach 22 = .ok (.ireturn, 1) := by decide +kernel
theorem dX3_gapFrom_0 : decode cX3_gapFrom 0 = .ok (.iload_n 1, 1) := by decide +kernel
theorem dX3_gapFrom_1 : decode cX3_gapFrom 1 = .ok (.invokestatic 82, 3) := by decide +kernel
theorem dX3_gapFrom_4 : decode cX3_gapFrom 4 = .ok (.aload_n 0, 1) := by decide +kernel
theorem dX3_gapFrom_5 : decode cX3_gapFrom 5 = .ok (.getfield 29, 3) := by decide +kernel
theorem dX3_gapFrom_8 : decode cX3_gapFrom 8 = .ok (.aload_n 0, 1) := by decide +kernel
theorem dX3_gapFrom_9 : decode cX3_gapFrom 9 = .ok (.getfield 12, 3) := by decide +kernel
theorem dX3_gapFrom_12 : decode cX3_gapFrom 12 = .ok (.invokevirtual 128, 3) := by decide +kernel
theorem dX3_gapFrom_15 : decode cX3_gapFrom 15 = .ok (.aload_n 0, 1) := by decide +kernel
theorem dX3_gapFrom_16 : decode cX3_gapFrom 16 = .ok (.getfield 29, 3) := by decide +kernel
theorem dX3_gapFrom_19 : decode cX3_gapFrom 19 = .ok (.iload_n 1, 1) := by decide +kernel
theorem dX3_gapFrom_20 : decode cX3_gapFrom 20 = .ok (.aload_n 0, 1) := by decide +kernel
theorem dX3_gapFrom_21 : decode cX3_gapFrom 21 = .ok (.getfield 33, 3) := by decide +kernel
theorem dX3_gapFrom_24 : decode cX3_gapFrom 24 = .ok (.invokevirtual 141, 3) := by decide +kernel
theorem dX3_gapFrom_27 : decode cX3_gapFrom 27 = .ok (.ireturn, 1) := by decide +kernel
theorem dX3_gapsTo_0 : decode cX3_gapsTo 0 = .ok (.iload_n 1, 1) := by decide +kernel
theorem dX3_gapsTo_1 : decode cX3_gapsTo 1 = .ok (.invokestatic 82, 3) := by decide +kernel
theorem dX3_gapsTo_4 : decode cX3_gapsTo 4 = .ok (.aload_n 0, 1) := by decide +kernel
theorem dX3_gapsTo_5 : decode cX3_gapsTo 5 = .ok (.getfield 29, 3) := by decide +kernel
theorem dX3_gapsTo_8 : decode cX3_gapsTo 8 = .ok (.aload_n 0, 1) := by decide +kernel
theorem dX3_gapsTo_9 : decode cX3_gapsTo 9 = .ok (.getfield 12, 3) := by decide +kernel
theorem dX3_gapsTo_12 : decode cX3_gapsTo 12 = .ok (.invokevirtual 128, 3) := by decide +kernel
theorem dX3_gapsTo_15 : decode cX3_gapsTo 15 = .ok (.aload_n 0, 1) := by decide +kernel
theorem dX3_gapsTo_16 : decode cX3_gapsTo 16 = .ok (.getfield 29, 3) := by decide +kernel
theorem dX3_gapsTo_19 : decode cX3_gapsTo 19 = .ok (.iload_n 1, 1) := by decide +kernel
theorem dX3_gapsTo_20 : decode cX3_gapsTo 20 = .ok (.aload_n 0, 1) := by decide +kernel
theorem dX3_gapsTo_21 : decode cX3_gapsTo 21 = .ok (.getfield 33, 3) := by decide +kernel
theorem dX3_gapsTo_24 : decode cX3_gapsTo 24 = .ok (.invokevirtual 144, 3) := by decide +kernel
theorem dX3_gapsTo_27 : decode cX3_gapsTo 27 = .ok (.ireturn, 1) := by decide +kernel
theorem dX3_lettersOf_0 : decode cX3_lettersOf 0 = .ok (.iload_n 1, 1) := by decide +kernel
theorem dX3_lettersOf_1 : decode cX3_lettersOf 1 = .ok (.invokestatic 82, 3) := by decide +kernel
theorem dX3_lettersOf_4 : decode cX3_lettersOf 4 = .ok (.aload_n 0, 1) := by decide +kernel
theorem dX3_lettersOf_5 : decode cX3_lettersOf 5 = .ok (.getfield 16, 3) := by decide +kernel
theorem dX3_lettersOf_8 : decode cX3_lettersOf 8 = .ok (.aload_n 0, 1) := by decide +kernel
theorem dX3_lettersOf_9 : decode cX3_lettersOf 9 = .ok (.getfield 12, 3) := by decide +kernel
theorem dX3_lettersOf_12 : decode cX3_lettersOf 12 = .ok (.invokevirtual 147, 3) := by decide +kernel
theorem dX3_lettersOf_15 : decode cX3_lettersOf 15 = .ok (.iconst 0, 1) := by decide +kernel
theorem dX3_lettersOf_16 : decode cX3_lettersOf 16 = .ok (.istore_n 2, 1) := by decide +kernel
theorem dX3_lettersOf_17 : decode cX3_lettersOf 17 = .ok (.iconst 0, 1) := by decide +kernel
theorem dX3_lettersOf_18 : decode cX3_lettersOf 18 = .ok (.istore_n 3, 1) := by decide +kernel
theorem dX3_lettersOf_19 : decode cX3_lettersOf 19 = .ok (.iload_n 3, 1) := by decide +kernel
theorem dX3_lettersOf_20 : decode cX3_lettersOf 20 = .ok (.bipush 50, 2) := by decide +kernel
theorem dX3_lettersOf_22 : decode cX3_lettersOf 22 = .ok (.if_icmp .ge 101, 3) := by decide +kernel
theorem dX3_lettersOf_25 : decode cX3_lettersOf 25 = .ok (.iload_n 2, 1) := by decide +kernel
theorem dX3_lettersOf_26 : decode cX3_lettersOf 26 = .ok (.bipush 50, 2) := by decide +kernel
theorem dX3_lettersOf_28 : decode cX3_lettersOf 28 = .ok (.if_icmp .ge 95, 3) := by decide +kernel
theorem dX3_lettersOf_31 : decode cX3_lettersOf 31 = .ok (.aload_n 0, 1) := by decide +kernel
theorem dX3_lettersOf_32 : decode cX3_lettersOf 32 = .ok (.getfield 22, 3) := by decide +kernel
theorem dX3_lettersOf_35 : decode cX3_lettersOf 35 = .ok (.aload_n 0, 1) := by decide +kernel
theorem dX3_lettersOf_36 : decode cX3_lettersOf 36 = .ok (.getfield 16, 3) := by decide +kernel
theorem dX3_lettersOf_39 : decode cX3_lettersOf 39 = .ok (.aload_n 0, 1) := by decide +kernel
theorem dX3_lettersOf_40 : decode cX3_lettersOf 40 = .ok (.getfield 33, 3) := by decide +kernel
theorem dX3_lettersOf_43 : decode cX3_lettersOf 43 = .ok (.invokevirtual 85, 3) := by decide +kernel
theorem dX3_lettersOf_46 : decode cX3_lettersOf 46 = .ok (.aload_n 0, 1) := by decide +kernel
theorem dX3_lettersOf_47 : decode cX3_lettersOf 47 = .ok (.getfield 22, 3) := by decide +kernel
theorem dX3_lettersOf_50 : decode cX3_lettersOf 50 = .ok (.iload_n 1, 1) := by decide +kernel
theorem dX3_lettersOf_51 : decode cX3_lettersOf 51 = .ok (.invokevirtual 89, 3) := by decide +kernel
theorem dX3_lettersOf_54 : decode cX3_lettersOf 54 = .ok (.istore 4, 2) := by decide +kernel
theorem dX3_lettersOf_56 : decode cX3_lettersOf 56 = .ok (.iload 4, 2) := by decide +kernel
theorem dX3_lettersOf_58 : decode cX3_lettersOf 58 = .ok (.iconst (-1), 1) := by decide +kernel
theorem dX3_lettersOf_59 : decode cX3_lettersOf 59 = .ok (.if_icmp .ne 6, 3) := by decide +kernel
theorem dX3_lettersOf_62 : decode cX3_lettersOf 62 = .ok (.goto 61, 3) := by decide +kernel
theorem dX3_lettersOf_65 : decode cX3_lettersOf 65 = .ok (.aload_n 0, 1) := by decide +kernel
theorem dX3_lettersOf_66 : decode cX3_lettersOf 66 = .ok (.getfield 22, 3) := by decide +kernel
theorem dX3_lettersOf_69 : decode cX3_lettersOf 69 = .ok (.iload 4, 2) := by decide +kernel
theorem dX3_lettersOf_71 : decode cX3_lettersOf 71 = .ok (.invokevirtual 93, 3) := by decide +kernel
theorem dX3_lettersOf_74 : decode cX3_lettersOf 74 = .ok (.iload_n 2, 1) := by decide +kernel
theorem dX3_lettersOf_75 : decode cX3_lettersOf 75 = .ok (.bipush 50, 2) := by decide +kernel
theorem dX3_lettersOf_77 : decode cX3_lettersOf 77 = .ok (.if_icmp .ge 40, 3) := by decide +kernel
theorem dX3_lettersOf_80 : decode cX3_lettersOf 80 = .ok (.aload_n 0, 1) := by decide +kernel
theorem dX3_lettersOf_81 : decode cX3_lettersOf 81 = .ok (.getfield 16, 3) := by decide +kernel
theorem dX3_lettersOf_84 : decode cX3_lettersOf 84 = .ok (.aload_n 0, 1) := by decide +kernel
theorem dX3_lettersOf_85 : decode cX3_lettersOf 85 = .ok (.getfield 22, 3) := by decide +kernel
theorem dX3_lettersOf_88 : decode cX3_lettersOf 88 = .ok (.getfield 96, 3) := by decide +kernel
theorem dX3_lettersOf_91 : decode cX3_lettersOf 91 = .ok (.invokevirtual 150, 3) := by decide +kernel
theorem dX3_lettersOf_94 : decode cX3_lettersOf 94 = .ok (.ifCond .eq 23, 3) := by decide +kernel
theorem dX3_lettersOf_97 : decode cX3_lettersOf 97 = .ok (.aload_n 0, 1) := by decide +kernel
theorem dX3_lettersOf_98 : decode cX3_lettersOf 98 = .ok (.getfield 16, 3) := by decide +kernel
theorem dX3_lettersOf_101 : decode cX3_lettersOf 101 = .ok (.aload_n 0, 1) := by decide +kernel
theorem dX3_lettersOf_102 : decode cX3_lettersOf 102 = .ok (.getfield 22, 3) := by decide +kernel
theorem dX3_lettersOf_105 : decode cX3_lettersOf 105 = .ok (.getfield 96, 3) := by decide +kernel
theorem dX3_lettersOf_108 : decode cX3_lettersOf 108 = .ok (.invokevirtual 99, 3) := by decide +kernel
theorem dX3_lettersOf_111 : decode cX3_lettersOf 111 = .ok (.iinc 2 1, 3) := by decide +kernel
theorem dX3_lettersOf_114 : decode cX3_lettersOf 114 = .ok (.goto (-40), 3) := by decide +kernel
theorem dX3_lettersOf_117 : decode cX3_lettersOf 117 = .ok (.iinc 3 1, 3) := by decide +kernel
theorem dX3_lettersOf_120 : decode cX3_lettersOf 120 = .ok (.goto (-101), 3) := by decide +kernel
theorem dX3_lettersOf_123 : decode cX3_lettersOf 123 = .ok (.iload_n 2, 1) := by decide +kernel
theorem dX3_lettersOf_124 : decode cX3_lettersOf 124 = .ok (.ireturn, 1) := by decide +kernel
theorem dX3_bestValue_0 : decode cX3_bestValue 0 = .ok (.aload_n 0, 1) := by decide +kernel
theorem dX3_bestValue_1 : decode cX3_bestValue 1 = .ok (.getfield 29, 3) := by decide +kernel
theorem dX3_bestValue_4 : decode cX3_bestValue 4 = .ok (.aload_n 0, 1) := by decide +kernel
theorem dX3_bestValue_5 : decode cX3_bestValue 5 = .ok (.getfield 12, 3) := by decide +kernel
theorem dX3_bestValue_8 : decode cX3_bestValue 8 = .ok (.invokevirtual 128, 3) := by decide +kernel
theorem dX3_bestValue_11 : decode cX3_bestValue 11 = .ok (.iconst (-1), 1) := by decide +kernel
theorem dX3_bestValue_12 : decode cX3_bestValue 12 = .ok (.istore_n 1, 1) := by decide +kernel
theorem dX3_bestValue_13 : decode cX3_bestValue 13 = .ok (.iconst (-1), 1) := by decide +kernel
theorem dX3_bestValue_14 : decode cX3_bestValue 14 = .ok (.istore_n 2, 1) := by decide +kernel
theorem dX3_bestValue_15 : decode cX3_bestValue 15 = .ok (.iconst 1, 1) := by decide +kernel
theorem dX3_bestValue_16 : decode cX3_bestValue 16 = .ok (.istore_n 3, 1) := by decide +kernel
theorem dX3_bestValue_17 : decode cX3_bestValue 17 = .ok (.iload_n 3, 1) := by decide +kernel
theorem dX3_bestValue_18 : decode cX3_bestValue 18 = .ok (.bipush 60, 2) := by decide +kernel
theorem dX3_bestValue_20 : decode cX3_bestValue 20 = .ok (.if_icmp .gt 45, 3) := by decide +kernel
theorem dX3_bestValue_23 : decode cX3_bestValue 23 = .ok (.aload_n 0, 1) := by decide +kernel
theorem dX3_bestValue_24 : decode cX3_bestValue 24 = .ok (.getfield 12, 3) := by decide +kernel
theorem dX3_bestValue_27 : decode cX3_bestValue 27 = .ok (.iload_n 3, 1) := by decide +kernel
theorem dX3_bestValue_28 : decode cX3_bestValue 28 = .ok (.invokevirtual 52, 3) := by decide +kernel
theorem dX3_bestValue_31 : decode cX3_bestValue 31 = .ok (.ifCond .ne 28, 3) := by decide +kernel
theorem dX3_bestValue_34 : decode cX3_bestValue 34 = .ok (.aload_n 0, 1) := by decide +kernel
theorem dX3_bestValue_35 : decode cX3_bestValue 35 = .ok (.getfield 29, 3) := by decide +kernel
theorem dX3_bestValue_38 : decode cX3_bestValue 38 = .ok (.iload_n 3, 1) := by decide +kernel
theorem dX3_bestValue_39 : decode cX3_bestValue 39 = .ok (.aload_n 0, 1) := by decide +kernel
theorem dX3_bestValue_40 : decode cX3_bestValue 40 = .ok (.getfield 33, 3) := by decide +kernel
theorem dX3_bestValue_43 : decode cX3_bestValue 43 = .ok (.invokevirtual 154, 3) := by decide +kernel
theorem dX3_bestValue_46 : decode cX3_bestValue 46 = .ok (.istore 4, 2) := by decide +kernel
theorem dX3_bestValue_48 : decode cX3_bestValue 48 = .ok (.iload 4, 2) := by decide +kernel
theorem dX3_bestValue_50 : decode cX3_bestValue 50 = .ok (.iload_n 2, 1) := by decide +kernel
theorem dX3_bestValue_51 : decode cX3_bestValue 51 = .ok (.if_icmp .le 8, 3) := by decide +kernel
theorem dX3_bestValue_54 : decode cX3_bestValue 54 = .ok (.iload 4, 2) := by decide +kernel
theorem dX3_bestValue_56 : decode cX3_bestValue 56 = .ok (.istore_n 2, 1) := by decide +kernel
theorem dX3_bestValue_57 : decode cX3_bestValue 57 = .ok (.iload_n 3, 1) := by decide +kernel
theorem dX3_bestValue_58 : decode cX3_bestValue 58 = .ok (.istore_n 1, 1) := by decide +kernel
theorem dX3_bestValue_59 : decode cX3_bestValue 59 = .ok (.iinc 3 1, 3) := by decide +kernel
theorem dX3_bestValue_62 : decode cX3_bestValue 62 = .ok (.goto (-45), 3) := by decide +kernel
theorem dX3_bestValue_65 : decode cX3_bestValue 65 = .ok (.iload_n 1, 1) := by decide +kernel
theorem dX3_bestValue_66 : decode cX3_bestValue 66 = .ok (.ireturn, 1) := by decide +kernel
theorem dX3_bestToPrint_0 : decode cX3_bestToPrint 0 = .ok (.aload_n 0, 1) := by decide +kernel
theorem dX3_bestToPrint_1 : decode cX3_bestToPrint 1 = .ok (.getfield 16, 3) := by decide +kernel
theorem dX3_bestToPrint_4 : decode cX3_bestToPrint 4 = .ok (.aload_n 0, 1) := by decide +kernel
theorem dX3_bestToPrint_5 : decode cX3_bestToPrint 5 = .ok (.getfield 12, 3) := by decide +kernel
theorem dX3_bestToPrint_8 : decode cX3_bestToPrint 8 = .ok (.invokevirtual 147, 3) := by decide +kernel
theorem dX3_bestToPrint_11 : decode cX3_bestToPrint 11 = .ok (.iconst (-1), 1) := by decide +kernel
theorem dX3_bestToPrint_12 : decode cX3_bestToPrint 12 = .ok (.istore_n 1, 1) := by decide +kernel
theorem dX3_bestToPrint_13 : decode cX3_bestToPrint 13 = .ok (.iconst (-1), 1) := by decide +kernel
theorem dX3_bestToPrint_14 : decode cX3_bestToPrint 14 = .ok (.istore_n 2, 1) := by decide +kernel
theorem dX3_bestToPrint_15 : decode cX3_bestToPrint 15 = .ok (.iconst 0, 1) := by decide +kernel
theorem dX3_bestToPrint_16 : decode cX3_bestToPrint 16 = .ok (.istore_n 3, 1) := by decide +kernel
theorem dX3_bestToPrint_17 : decode cX3_bestToPrint 17 = .ok (.iload_n 3, 1) := by decide +kernel
theorem dX3_bestToPrint_18 : decode cX3_bestToPrint 18 = .ok (.aload_n 0, 1) := by decide +kernel
theorem dX3_bestToPrint_19 : decode cX3_bestToPrint 19 = .ok (.getfield 12, 3) := by decide +kernel
theorem dX3_bestToPrint_22 : decode cX3_bestToPrint 22 = .ok (.getfield 49, 3) := by decide +kernel
theorem dX3_bestToPrint_25 : decode cX3_bestToPrint 25 = .ok (.if_icmp .ge 83, 3) := by decide +kernel
theorem dX3_bestToPrint_28 : decode cX3_bestToPrint 28 = .ok (.aload_n 0, 1) := by decide +kernel
theorem dX3_bestToPrint_29 : decode cX3_bestToPrint 29 = .ok (.getfield 16, 3) := by decide +kernel
theorem dX3_bestToPrint_32 : decode cX3_bestToPrint 32 = .ok (.getfield 67, 3) := by decide +kernel
theorem dX3_bestToPrint_35 : decode cX3_bestToPrint 35 = .ok (.iload_n 3, 1) := by decide +kernel
theorem dX3_bestToPrint_36 : decode cX3_bestToPrint 36 = .ok (.aload_n 0, 1) := by decide +kernel
theorem dX3_bestToPrint_37 : decode cX3_bestToPrint 37 = .ok (.getfield 12, 3) := by decide +kernel
theorem dX3_bestToPrint_40 : decode cX3_bestToPrint 40 = .ok (.getfield 67, 3) := by decide +kernel
theorem dX3_bestToPrint_43 : decode cX3_bestToPrint 43 = .ok (.iload_n 3, 1) := by decide +kernel
theorem dX3_bestToPrint_44 : decode cX3_bestToPrint 44 = .ok (.iaload, 1) := by decide +kernel
theorem dX3_bestToPrint_45 : decode cX3_bestToPrint 45 = .ok (.bipush 20, 2) := by decide +kernel
theorem dX3_bestToPrint_47 : decode cX3_bestToPrint 47 = .ok (.iadd, 1) := by decide +kernel
theorem dX3_bestToPrint_48 : decode cX3_bestToPrint 48 = .ok (.iastore, 1) := by decide +kernel
theorem dX3_bestToPrint_49 : decode cX3_bestToPrint 49 = .ok (.aload_n 0, 1) := by decide +kernel
theorem dX3_bestToPrint_50 : decode cX3_bestToPrint 50 = .ok (.getfield 22, 3) := by decide +kernel
theorem dX3_bestToPrint_53 : decode cX3_bestToPrint 53 = .ok (.aload_n 0, 1) := by decide +kernel
theorem dX3_bestToPrint_54 : decode cX3_bestToPrint 54 = .ok (.getfield 16, 3) := by decide +kernel
theorem dX3_bestToPrint_57 : decode cX3_bestToPrint 57 = .ok (.aload_n 0, 1) := by decide +kernel
theorem dX3_bestToPrint_58 : decode cX3_bestToPrint 58 = .ok (.getfield 33, 3) := by decide +kernel
theorem dX3_bestToPrint_61 : decode cX3_bestToPrint 61 = .ok (.invokevirtual 85, 3) := by decide +kernel
theorem dX3_bestToPrint_64 : decode cX3_bestToPrint 64 = .ok (.aload_n 0, 1) := by decide +kernel
theorem dX3_bestToPrint_65 : decode cX3_bestToPrint 65 = .ok (.getfield 16, 3) := by decide +kernel
theorem dX3_bestToPrint_68 : decode cX3_bestToPrint 68 = .ok (.getfield 67, 3) := by decide +kernel
theorem dX3_bestToPrint_71 : decode cX3_bestToPrint 71 = .ok (.iload_n 3, 1) := by decide +kernel
theorem dX3_bestToPrint_72 : decode cX3_bestToPrint 72 = .ok (.aload_n 0, 1) := by decide +kernel
theorem dX3_bestToPrint_73 : decode cX3_bestToPrint 73 = .ok (.getfield 12, 3) := by decide +kernel
theorem dX3_bestToPrint_76 : decode cX3_bestToPrint 76 = .ok (.getfield 67, 3) := by decide +kernel
theorem dX3_bestToPrint_79 : decode cX3_bestToPrint 79 = .ok (.iload_n 3, 1) := by decide +kernel
theorem dX3_bestToPrint_80 : decode cX3_bestToPrint 80 = .ok (.iaload, 1) := by decide +kernel
theorem dX3_bestToPrint_81 : decode cX3_bestToPrint 81 = .ok (.iastore, 1) := by decide +kernel
theorem dX3_bestToPrint_82 : decode cX3_bestToPrint 82 = .ok (.aload_n 0, 1) := by decide +kernel
theorem dX3_bestToPrint_83 : decode cX3_bestToPrint 83 = .ok (.getfield 22, 3) := by decide +kernel
theorem dX3_bestToPrint_86 : decode cX3_bestToPrint 86 = .ok (.invokevirtual 118, 3) := by decide +kernel
theorem dX3_bestToPrint_89 : decode cX3_bestToPrint 89 = .ok (.istore 4, 2) := by decide +kernel
theorem dX3_bestToPrint_91 : decode cX3_bestToPrint 91 = .ok (.iload 4, 2) := by decide +kernel
theorem dX3_bestToPrint_93 : decode cX3_bestToPrint 93 = .ok (.iload_n 2, 1) := by decide +kernel
theorem dX3_bestToPrint_94 : decode cX3_bestToPrint 94 = .ok (.if_icmp .le 8, 3) := by decide +kernel
theorem dX3_bestToPrint_97 : decode cX3_bestToPrint 97 = .ok (.iload 4, 2) := by decide +kernel
theorem dX3_bestToPrint_99 : decode cX3_bestToPrint 99 = .ok (.istore_n 2, 1) := by decide +kernel
theorem dX3_bestToPrint_100 : decode cX3_bestToPrint 100 = .ok (.iload_n 3, 1) := by decide +kernel
theorem dX3_bestToPrint_101 : decode cX3_bestToPrint 101 = .ok (.istore_n 1, 1) := by decide +kernel
theorem dX3_bestToPrint_102 : decode cX3_bestToPrint 102 = .ok (.iinc 3 1, 3) := by decide +kernel
theorem dX3_bestToPrint_105 : decode cX3_bestToPrint 105 = .ok (.goto (-88), 3) := by decide +kernel
theorem dX3_bestToPrint_108 : decode cX3_bestToPrint 108 = .ok (.iload_n 1, 1) := by decide +kernel
theorem dX3_bestToPrint_109 : decode cX3_bestToPrint 109 = .ok (.ireturn, 1) := by decide +kernel
theorem dX3_reachWithRoom_0 : decode cX3_reachWithRoom 0 = .ok (.iload_n 1, 1) := by decide +kernel
theorem dX3_reachWithRoom_1 : decode cX3_reachWithRoom 1 = .ok (.invokestatic 79, 3) := by decide +kernel
theorem dX3_reachWithRoom_4 : decode cX3_reachWithRoom 4 = .ok (.aload_n 0, 1) := by decide +kernel
theorem dX3_reachWithRoom_5 : decode cX3_reachWithRoom 5 = .ok (.getfield 29, 3) := by decide +kernel
theorem dX3_reachWithRoom_8 : decode cX3_reachWithRoom 8 = .ok (.aload_n 0, 1) := by decide +kernel
theorem dX3_reachWithRoom_9 : decode cX3_reachWithRoom 9 = .ok (.getfield 12, 3) := by decide +kernel
theorem dX3_reachWithRoom_12 : decode cX3_reachWithRoom 12 = .ok (.invokevirtual 128, 3) := by decide +kernel
theorem dX3_reachWithRoom_15 : decode cX3_reachWithRoom 15 = .ok (.aload_n 0, 1) := by decide +kernel
theorem dX3_reachWithRoom_16 : decode cX3_reachWithRoom 16 = .ok (.getfield 29, 3) := by decide +kernel
theorem dX3_reachWithRoom_19 : decode cX3_reachWithRoom 19 = .ok (.iload_n 1, 1) := by decide +kernel
theorem dX3_reachWithRoom_20 : decode cX3_reachWithRoom 20 = .ok (.invokevirtual 138, 3) := by decide +kernel
theorem dX3_reachWithRoom_23 : decode cX3_reachWithRoom 23 = .ok (.ireturn, 1) := by decide +kernel
theorem dX3_meanValue_0 : decode cX3_meanValue 0 = .ok (.aload_n 0, 1) := by decide +kernel
theorem dX3_meanValue_1 : decode cX3_meanValue 1 = .ok (.getfield 12, 3) := by decide +kernel
theorem dX3_meanValue_4 : decode cX3_meanValue 4 = .ok (.getfield 49, 3) := by decide +kernel
theorem dX3_meanValue_7 : decode cX3_meanValue 7 = .ok (.ifCond .ne 5, 3) := by decide +kernel
theorem dX3_meanValue_10 : decode cX3_meanValue 10 = .ok (.dconst 0, 1) := by decide +kernel
theorem dX3_meanValue_11 : decode cX3_meanValue 11 = .ok (.dreturn, 1) := by decide +kernel
theorem dX3_meanValue_12 : decode cX3_meanValue 12 = .ok (.iconst 0, 1) := by decide +kernel
theorem dX3_meanValue_13 : decode cX3_meanValue 13 = .ok (.istore_n 1, 1) := by decide +kernel
theorem dX3_meanValue_14 : decode cX3_meanValue 14 = .ok (.iconst 0, 1) := by decide +kernel
theorem dX3_meanValue_15 : decode cX3_meanValue 15 = .ok (.istore_n 2, 1) := by decide +kernel
theorem dX3_meanValue_16 : decode cX3_meanValue 16 = .ok (.iload_n 2, 1) := by decide +kernel
theorem dX3_meanValue_17 : decode cX3_meanValue 17 = .ok (.aload_n 0, 1) := by decide +kernel
theorem dX3_meanValue_18 : decode cX3_meanValue 18 = .ok (.getfield 12, 3) := by decide +kernel
theorem dX3_meanValue_21 : decode cX3_meanValue 21 = .ok (.getfield 49, 3) := by decide +kernel
theorem dX3_meanValue_24 : decode cX3_meanValue 24 = .ok (.if_icmp .ge 21, 3) := by decide +kernel
theorem dX3_meanValue_27 : decode cX3_meanValue 27 = .ok (.iload_n 1, 1) := by decide +kernel
theorem dX3_meanValue_28 : decode cX3_meanValue 28 = .ok (.aload_n 0, 1) := by decide +kernel
theorem dX3_meanValue_29 : decode cX3_meanValue 29 = .ok (.getfield 12, 3) := by decide +kernel
theorem dX3_meanValue_32 : decode cX3_meanValue 32 = .ok (.getfield 103, 3) := by decide +kernel
theorem dX3_meanValue_35 : decode cX3_meanValue 35 = .ok (.iload_n 2, 1) := by decide +kernel
theorem dX3_meanValue_36 : decode cX3_meanValue 36 = .ok (.iaload, 1) := by decide +kernel
theorem dX3_meanValue_37 : decode cX3_meanValue 37 = .ok (.iadd, 1) := by decide +kernel
theorem dX3_meanValue_38 : decode cX3_meanValue 38 = .ok (.istore_n 1, 1) := by decide +kernel
theorem dX3_meanValue_39 : decode cX3_meanValue 39 = .ok (.iinc 2 1, 3) := by decide +kernel
theorem dX3_meanValue_42 : decode cX3_meanValue 42 = .ok (.goto (-26), 3) := by decide +kernel
theorem dX3_meanValue_45 : decode cX3_meanValue 45 = .ok (.iload_n 1, 1) := by decide +kernel
theorem dX3_meanValue_46 : decode cX3_meanValue 46 = .ok (.i2d, 1) := by decide +kernel
theorem dX3_meanValue_47 : decode cX3_meanValue 47 = .ok (.aload_n 0, 1) := by decide +kernel
theorem dX3_meanValue_48 : decode cX3_meanValue 48 = .ok (.getfield 12, 3) := by decide +kernel
theorem dX3_meanValue_51 : decode cX3_meanValue 51 = .ok (.getfield 49, 3) := by decide +kernel
theorem dX3_meanValue_54 : decode cX3_meanValue 54 = .ok (.i2d, 1) := by decide +kernel
theorem dX3_meanValue_55 : decode cX3_meanValue 55 = .ok (.ddiv, 1) := by decide +kernel
theorem dX3_meanValue_56 : decode cX3_meanValue 56 = .ok (.dreturn, 1) := by decide +kernel
theorem dX3_digest_0 : decode cX3_digest 0 = .ok (.ldc2_w 157, 3) := by decide +kernel
theorem dX3_digest_3 : decode cX3_digest 3 = .ok (.lstore_n 1, 1) := by decide +kernel
theorem dX3_digest_4 : decode cX3_digest 4 = .ok (.lload_n 1, 1) := by decide +kernel
theorem dX3_digest_5 : decode cX3_digest 5 = .ok (.ldc2_w 159, 3) := by decide +kernel
theorem dX3_digest_8 : decode cX3_digest 8 = .ok (.lmul, 1) := by decide +kernel
theorem dX3_digest_9 : decode cX3_digest 9 = .ok (.aload_n 0, 1) := by decide +kernel
theorem dX3_digest_10 : decode cX3_digest 10 = .ok (.invokevirtual 161, 3) := by decide +kernel
theorem dX3_digest_13 : decode cX3_digest 13 = .ok (.i2l, 1) := by decide +kernel
theorem dX3_digest_14 : decode cX3_digest 14 = .ok (.ladd, 1) := by decide +kernel
theorem dX3_digest_15 : decode cX3_digest 15 = .ok (.lstore_n 1, 1) := by decide +kernel
theorem dX3_digest_16 : decode cX3_digest 16 = .ok (.lload_n 1, 1) := by decide +kernel
theorem dX3_digest_17 : decode cX3_digest 17 = .ok (.ldc2_w 159, 3) := by decide +kernel
theorem dX3_digest_20 : decode cX3_digest 20 = .ok (.lmul, 1) := by decide +kernel
theorem dX3_digest_21 : decode cX3_digest 21 = .ok (.aload_n 0, 1) := by decide +kernel
theorem dX3_digest_22 : decode cX3_digest 22 = .ok (.invokevirtual 163, 3) := by decide +kernel
theorem dX3_digest_25 : decode cX3_digest 25 = .ok (.i2l, 1) := by decide +kernel
theorem dX3_digest_26 : decode cX3_digest 26 = .ok (.ladd, 1) := by decide +kernel
theorem dX3_digest_27 : decode cX3_digest 27 = .ok (.lstore_n 1, 1) := by decide +kernel
theorem dX3_digest_28 : decode cX3_digest 28 = .ok (.lload_n 1, 1) := by decide +kernel
theorem dX3_digest_29 : decode cX3_digest 29 = .ok (.ldc2_w 159, 3) := by decide +kernel
theorem dX3_digest_32 : decode cX3_digest 32 = .ok (.lmul, 1) := by decide +kernel
theorem dX3_digest_33 : decode cX3_digest 33 = .ok (.aload_n 0, 1) := by decide +kernel
theorem dX3_digest_34 : decode cX3_digest 34 = .ok (.invokevirtual 165, 3) := by decide +kernel
theorem dX3_digest_37 : decode cX3_digest 37 = .ok (.i2l, 1) := by decide +kernel
theorem dX3_digest_38 : decode cX3_digest 38 = .ok (.ladd, 1) := by decide +kernel
theorem dX3_digest_39 : decode cX3_digest 39 = .ok (.lstore_n 1, 1) := by decide +kernel
theorem dX3_digest_40 : decode cX3_digest 40 = .ok (.lload_n 1, 1) := by decide +kernel
theorem dX3_digest_41 : decode cX3_digest 41 = .ok (.ldc2_w 159, 3) := by decide +kernel
theorem dX3_digest_44 : decode cX3_digest 44 = .ok (.lmul, 1) := by decide +kernel
theorem dX3_digest_45 : decode cX3_digest 45 = .ok (.aload_n 0, 1) := by decide +kernel
theorem dX3_digest_46 : decode cX3_digest 46 = .ok (.invokevirtual 167, 3) := by decide +kernel
theorem dX3_digest_49 : decode cX3_digest 49 = .ok (.i2l, 1) := by decide +kernel
theorem dX3_digest_50 : decode cX3_digest 50 = .ok (.ladd, 1) := by decide +kernel
theorem dX3_digest_51 : decode cX3_digest 51 = .ok (.lstore_n 1, 1) := by decide +kernel
theorem dX3_digest_52 : decode cX3_digest 52 = .ok (.lload_n 1, 1) := by decide +kernel
theorem dX3_digest_53 : decode cX3_digest 53 = .ok (.ldc2_w 159, 3) := by decide +kernel
theorem dX3_digest_56 : decode cX3_digest 56 = .ok (.lmul, 1) := by decide +kernel
theorem dX3_digest_57 : decode cX3_digest 57 = .ok (.aload_n 0, 1) := by decide +kernel
theorem dX3_digest_58 : decode cX3_digest 58 = .ok (.invokevirtual 169, 3) := by decide +kernel
theorem dX3_digest_61 : decode cX3_digest 61 = .ok (.i2l, 1) := by decide +kernel
theorem dX3_digest_62 : decode cX3_digest 62 = .ok (.ladd, 1) := by decide +kernel
theorem dX3_digest_63 : decode cX3_digest 63 = .ok (.lstore_n 1, 1) := by decide +kernel
theorem dX3_digest_64 : decode cX3_digest 64 = .ok (.lload_n 1, 1) := by decide +kernel
theorem dX3_digest_65 : decode cX3_digest 65 = .ok (.ldc2_w 159, 3) := by decide +kernel
theorem dX3_digest_68 : decode cX3_digest 68 = .ok (.lmul, 1) := by decide +kernel
theorem dX3_digest_69 : decode cX3_digest 69 = .ok (.aload_n 0, 1) := by decide +kernel
theorem dX3_digest_70 : decode cX3_digest 70 = .ok (.invokevirtual 171, 3) := by decide +kernel
theorem dX3_digest_73 : decode cX3_digest 73 = .ok (.i2l, 1) := by decide +kernel
theorem dX3_digest_74 : decode cX3_digest 74 = .ok (.ladd, 1) := by decide +kernel
theorem dX3_digest_75 : decode cX3_digest 75 = .ok (.lstore_n 1, 1) := by decide +kernel
theorem dX3_digest_76 : decode cX3_digest 76 = .ok (.lload_n 1, 1) := by decide +kernel
theorem dX3_digest_77 : decode cX3_digest 77 = .ok (.ldc2_w 159, 3) := by decide +kernel
theorem dX3_digest_80 : decode cX3_digest 80 = .ok (.lmul, 1) := by decide +kernel
theorem dX3_digest_81 : decode cX3_digest 81 = .ok (.aload_n 0, 1) := by decide +kernel
theorem dX3_digest_82 : decode cX3_digest 82 = .ok (.invokevirtual 174, 3) := by decide +kernel
theorem dX3_digest_85 : decode cX3_digest 85 = .ok (.i2l, 1) := by decide +kernel
theorem dX3_digest_86 : decode cX3_digest 86 = .ok (.ladd, 1) := by decide +kernel
theorem dX3_digest_87 : decode cX3_digest 87 = .ok (.lstore_n 1, 1) := by decide +kernel
theorem dX3_digest_88 : decode cX3_digest 88 = .ok (.lload_n 1, 1) := by decide +kernel
theorem dX3_digest_89 : decode cX3_digest 89 = .ok (.ldc2_w 159, 3) := by decide +kernel
theorem dX3_digest_92 : decode cX3_digest 92 = .ok (.lmul, 1) := by decide +kernel
theorem dX3_digest_93 : decode cX3_digest 93 = .ok (.aload_n 0, 1) := by decide +kernel
theorem dX3_digest_94 : decode cX3_digest 94 = .ok (.invokevirtual 177, 3) := by decide +kernel
theorem dX3_digest_97 : decode cX3_digest 97 = .ok (.i2l, 1) := by decide +kernel
theorem dX3_digest_98 : decode cX3_digest 98 = .ok (.ladd, 1) := by decide +kernel
theorem dX3_digest_99 : decode cX3_digest 99 = .ok (.lstore_n 1, 1) := by decide +kernel
theorem dX3_digest_100 : decode cX3_digest 100 = .ok (.lload_n 1, 1) := by decide +kernel
theorem dX3_digest_101 : decode cX3_digest 101 = .ok (.ldc2_w 159, 3) := by decide +kernel
theorem dX3_digest_104 : decode cX3_digest 104 = .ok (.lmul, 1) := by decide +kernel
theorem dX3_digest_105 : decode cX3_digest 105 = .ok (.aload_n 0, 1) := by decide +kernel
theorem dX3_digest_106 : decode cX3_digest 106 = .ok (.invokevirtual 180, 3) := by decide +kernel
theorem dX3_digest_109 : decode cX3_digest 109 = .ok (.i2l, 1) := by decide +kernel
theorem dX3_digest_110 : decode cX3_digest 110 = .ok (.ladd, 1) := by decide +kernel
theorem dX3_digest_111 : decode cX3_digest 111 = .ok (.lstore_n 1, 1) := by decide +kernel
theorem dX3_digest_112 : decode cX3_digest 112 = .ok (.lload_n 1, 1) := by decide +kernel
theorem dX3_digest_113 : decode cX3_digest 113 = .ok (.ldc2_w 159, 3) := by decide +kernel
theorem dX3_digest_116 : decode cX3_digest 116 = .ok (.lmul, 1) := by decide +kernel
theorem dX3_digest_117 : decode cX3_digest 117 = .ok (.aload_n 0, 1) := by decide +kernel
theorem dX3_digest_118 : decode cX3_digest 118 = .ok (.invokevirtual 183, 3) := by decide +kernel
theorem dX3_digest_121 : decode cX3_digest 121 = .ok (.i2l, 1) := by decide +kernel
theorem dX3_digest_122 : decode cX3_digest 122 = .ok (.ladd, 1) := by decide +kernel
theorem dX3_digest_123 : decode cX3_digest 123 = .ok (.lstore_n 1, 1) := by decide +kernel
theorem dX3_digest_124 : decode cX3_digest 124 = .ok (.lload_n 1, 1) := by decide +kernel
theorem dX3_digest_125 : decode cX3_digest 125 = .ok (.ldc2_w 159, 3) := by decide +kernel
theorem dX3_digest_128 : decode cX3_digest 128 = .ok (.lmul, 1) := by decide +kernel
theorem dX3_digest_129 : decode cX3_digest 129 = .ok (.aload_n 0, 1) := by decide +kernel
theorem dX3_digest_130 : decode cX3_digest 130 = .ok (.invokevirtual 186, 3) := by decide +kernel
theorem dX3_digest_133 : decode cX3_digest 133 = .ok (.i2l, 1) := by decide +kernel
theorem dX3_digest_134 : decode cX3_digest 134 = .ok (.ladd, 1) := by decide +kernel
theorem dX3_digest_135 : decode cX3_digest 135 = .ok (.lstore_n 1, 1) := by decide +kernel
theorem dX3_digest_136 : decode cX3_digest 136 = .ok (.aload_n 0, 1) := by decide +kernel
theorem dX3_digest_137 : decode cX3_digest 137 = .ok (.aload_n 0, 1) := by decide +kernel
theorem dX3_digest_138 : decode cX3_digest 138 = .ok (.lload_n 1, 1) := by decide +kernel
theorem dX3_digest_139 : decode cX3_digest 139 = .ok (.invokevirtual 189, 3) := by decide +kernel
theorem dX3_digest_142 : decode cX3_digest 142 = .ok (.invokevirtual 193, 3) := by decide +kernel
theorem dX3_digest_145 : decode cX3_digest 145 = .ok (.lreturn, 1) := by decide +kernel
theorem dX3_digestStamps_0 : decode cX3_digestStamps 0 = .ok (.lload_n 1, 1) := by decide +kernel
theorem dX3_digestStamps_1 : decode cX3_digestStamps 1 = .ok (.lstore_n 3, 1) := by decide +kernel
theorem dX3_digestStamps_2 : decode cX3_digestStamps 2 = .ok (.iconst 0, 1) := by decide +kernel
theorem dX3_digestStamps_3 : decode cX3_digestStamps 3 = .ok (.istore 5, 2) := by decide +kernel
theorem dX3_digestStamps_5 : decode cX3_digestStamps 5 = .ok (.iload 5, 2) := by decide +kernel
theorem dX3_digestStamps_7 : decode cX3_digestStamps 7 = .ok (.aload_n 0, 1) := by decide +kernel
theorem dX3_digestStamps_8 : decode cX3_digestStamps 8 = .ok (.getfield 12, 3) := by decide +kernel
theorem dX3_digestStamps_11 : decode cX3_digestStamps 11 = .ok (.getfield 49, 3) := by decide +kernel
theorem dX3_digestStamps_14 : decode cX3_digestStamps 14 = .ok (.if_icmp .ge 63, 3) := by decide +kernel
theorem dX3_digestStamps_17 : decode cX3_digestStamps 17 = .ok (.lload_n 3, 1) := by decide +kernel
theorem dX3_digestStamps_18 : decode cX3_digestStamps 18 = .ok (.ldc2_w 159, 3) := by decide +kernel
theorem dX3_digestStamps_21 : decode cX3_digestStamps 21 = .ok (.lmul, 1) := by decide +kernel
theorem dX3_digestStamps_22 : decode cX3_digestStamps 22 = .ok (.aload_n 0, 1) := by decide +kernel
theorem dX3_digestStamps_23 : decode cX3_digestStamps 23 = .ok (.getfield 12, 3) := by decide +kernel
theorem dX3_digestStamps_26 : decode cX3_digestStamps 26 = .ok (.getfield 103, 3) := by decide +kernel
theorem dX3_digestStamps_29 : decode cX3_digestStamps 29 = .ok (.iload 5, 2) := by decide +kernel
theorem dX3_digestStamps_31 : decode cX3_digestStamps 31 = .ok (.iaload, 1) := by decide +kernel
theorem dX3_digestStamps_32 : decode cX3_digestStamps 32 = .ok (.i2l, 1) := by decide +kernel
theorem dX3_digestStamps_33 : decode cX3_digestStamps 33 = .ok (.ladd, 1) := by decide +kernel
theorem dX3_digestStamps_34 : decode cX3_digestStamps 34 = .ok (.lstore_n 3, 1) := by decide +kernel
theorem dX3_digestStamps_35 : decode cX3_digestStamps 35 = .ok (.lload_n 3, 1) := by decide +kernel
theorem dX3_digestStamps_36 : decode cX3_digestStamps 36 = .ok (.ldc2_w 159, 3) := by decide +kernel
theorem dX3_digestStamps_39 : decode cX3_digestStamps 39 = .ok (.lmul, 1) := by decide +kernel
theorem dX3_digestStamps_40 : decode cX3_digestStamps 40 = .ok (.aload_n 0, 1) := by decide +kernel
theorem dX3_digestStamps_41 : decode cX3_digestStamps 41 = .ok (.getfield 12, 3) := by decide +kernel
theorem dX3_digestStamps_44 : decode cX3_digestStamps 44 = .ok (.getfield 67, 3) := by decide +kernel
theorem dX3_digestStamps_47 : decode cX3_digestStamps 47 = .ok (.iload 5, 2) := by decide +kernel
theorem dX3_digestStamps_49 : decode cX3_digestStamps 49 = .ok (.iaload, 1) := by decide +kernel
theorem dX3_digestStamps_50 : decode cX3_digestStamps 50 = .ok (.i2l, 1) := by decide +kernel
theorem dX3_digestStamps_51 : decode cX3_digestStamps 51 = .ok (.ladd, 1) := by decide +kernel
theorem dX3_digestStamps_52 : decode cX3_digestStamps 52 = .ok (.lstore_n 3, 1) := by decide +kernel
theorem dX3_digestStamps_53 : decode cX3_digestStamps 53 = .ok (.lload_n 3, 1) := by decide +kernel
theorem dX3_digestStamps_54 : decode cX3_digestStamps 54 = .ok (.ldc2_w 159, 3) := by decide +kernel
theorem dX3_digestStamps_57 : decode cX3_digestStamps 57 = .ok (.lmul, 1) := by decide +kernel
theorem dX3_digestStamps_58 : decode cX3_digestStamps 58 = .ok (.aload_n 0, 1) := by decide +kernel
theorem dX3_digestStamps_59 : decode cX3_digestStamps 59 = .ok (.getfield 12, 3) := by decide +kernel
theorem dX3_digestStamps_62 : decode cX3_digestStamps 62 = .ok (.getfield 106, 3) := by decide +kernel
theorem dX3_digestStamps_65 : decode cX3_digestStamps 65 = .ok (.iload 5, 2) := by decide +kernel
theorem dX3_digestStamps_67 : decode cX3_digestStamps 67 = .ok (.iaload, 1) := by decide +kernel
theorem dX3_digestStamps_68 : decode cX3_digestStamps 68 = .ok (.i2l, 1) := by decide +kernel
theorem dX3_digestStamps_69 : decode cX3_digestStamps 69 = .ok (.ladd, 1) := by decide +kernel
theorem dX3_digestStamps_70 : decode cX3_digestStamps 70 = .ok (.lstore_n 3, 1) := by decide +kernel
theorem dX3_digestStamps_71 : decode cX3_digestStamps 71 = .ok (.iinc 5 1, 3) := by decide +kernel
theorem dX3_digestStamps_74 : decode cX3_digestStamps 74 = .ok (.goto (-69), 3) := by decide +kernel
theorem dX3_digestStamps_77 : decode cX3_digestStamps 77 = .ok (.lload_n 3, 1) := by decide +kernel
theorem dX3_digestStamps_78 : decode cX3_digestStamps 78 = .ok (.lreturn, 1) := by decide +kernel
theorem dX3_digestPostages_0 : decode cX3_digestPostages 0 = .ok (.lload_n 1, 1) := by decide +kernel
theorem dX3_digestPostages_1 : decode cX3_digestPostages 1 = .ok (.lstore_n 3, 1) := by decide +kernel
theorem dX3_digestPostages_2 : decode cX3_digestPostages 2 = .ok (.aload_n 0, 1) := by decide +kernel
theorem dX3_digestPostages_3 : decode cX3_digestPostages 3 = .ok (.getfield 22, 3) := by decide +kernel
theorem dX3_digestPostages_6 : decode cX3_digestPostages 6 = .ok (.aload_n 0, 1) := by decide +kernel
theorem dX3_digestPostages_7 : decode cX3_digestPostages 7 = .ok (.getfield 12, 3) := by decide +kernel
theorem dX3_digestPostages_10 : decode cX3_digestPostages 10 = .ok (.aload_n 0, 1) := by decide +kernel
theorem dX3_digestPostages_11 : decode cX3_digestPostages 11 = .ok (.getfield 33, 3) := by decide +kernel
theorem dX3_digestPostages_14 : decode cX3_digestPostages 14 = .ok (.invokevirtual 85, 3) := by decide +kernel
theorem dX3_digestPostages_17 : decode cX3_digestPostages 17 = .ok (.aload_n 0, 1) := by decide +kernel
theorem dX3_digestPostages_18 : decode cX3_digestPostages 18 = .ok (.getfield 29, 3) := by decide +kernel
theorem dX3_digestPostages_21 : decode cX3_digestPostages 21 = .ok (.aload_n 0, 1) := by decide +kernel
theorem dX3_digestPostages_22 : decode cX3_digestPostages 22 = .ok (.getfield 12, 3) := by decide +kernel
theorem dX3_digestPostages_25 : decode cX3_digestPostages 25 = .ok (.invokevirtual 128, 3) := by decide +kernel
theorem dX3_digestPostages_28 : decode cX3_digestPostages 28 = .ok (.bipush 25, 2) := by decide +kernel
theorem dX3_digestPostages_30 : decode cX3_digestPostages 30 = .ok (.istore 5, 2) := by decide +kernel
theorem dX3_digestPostages_32 : decode cX3_digestPostages 32 = .ok (.iload 5, 2) := by decide +kernel
theorem dX3_digestPostages_34 : decode cX3_digestPostages 34 = .ok (.sipush 300, 3) := by decide +kernel
theorem dX3_digestPostages_37 : decode cX3_digestPostages 37 = .ok (.if_icmp .gt 64, 3) := by decide +kernel
theorem dX3_digestPostages_40 : decode cX3_digestPostages 40 = .ok (.lload_n 3, 1) := by decide +kernel
theorem dX3_digestPostages_41 : decode cX3_digestPostages 41 = .ok (.ldc2_w 159, 3) := by decide +kernel
theorem dX3_digestPostages_44 : decode cX3_digestPostages 44 = .ok (.lmul, 1) := by decide +kernel
theorem dX3_digestPostages_45 : decode cX3_digestPostages 45 = .ok (.aload_n 0, 1) := by decide +kernel
theorem dX3_digestPostages_46 : decode cX3_digestPostages 46 = .ok (.getfield 22, 3) := by decide +kernel
theorem dX3_digestPostages_49 : decode cX3_digestPostages 49 = .ok (.iload 5, 2) := by decide +kernel
theorem dX3_digestPostages_51 : decode cX3_digestPostages 51 = .ok (.invokevirtual 112, 3) := by decide +kernel
theorem dX3_digestPostages_54 : decode cX3_digestPostages 54 = .ok (.i2l, 1) := by decide +kernel
theorem dX3_digestPostages_55 : decode cX3_digestPostages 55 = .ok (.ladd, 1) := by decide +kernel
theorem dX3_digestPostages_56 : decode cX3_digestPostages 56 = .ok (.lstore_n 3, 1) := by decide +kernel
theorem dX3_digestPostages_57 : decode cX3_digestPostages 57 = .ok (.lload_n 3, 1) := by decide +kernel
theorem dX3_digestPostages_58 : decode cX3_digestPostages 58 = .ok (.ldc2_w 159, 3) := by decide +kernel
theorem dX3_digestPostages_61 : decode cX3_digestPostages 61 = .ok (.lmul, 1) := by decide +kernel
theorem dX3_digestPostages_62 : decode cX3_digestPostages 62 = .ok (.aload_n 0, 1) := by decide +kernel
theorem dX3_digestPostages_63 : decode cX3_digestPostages 63 = .ok (.getfield 22, 3) := by decide +kernel
theorem dX3_digestPostages_66 : decode cX3_digestPostages 66 = .ok (.iload 5, 2) := by decide +kernel
theorem dX3_digestPostages_68 : decode cX3_digestPostages 68 = .ok (.invokevirtual 115, 3) := by decide +kernel
theorem dX3_digestPostages_71 : decode cX3_digestPostages 71 = .ok (.i2l, 1) := by decide +kernel
theorem dX3_digestPostages_72 : decode cX3_digestPostages 72 = .ok (.ladd, 1) := by decide +kernel
theorem dX3_digestPostages_73 : decode cX3_digestPostages 73 = .ok (.lstore_n 3, 1) := by decide +kernel
theorem dX3_digestPostages_74 : decode cX3_digestPostages 74 = .ok (.lload_n 3, 1) := by decide +kernel
theorem dX3_digestPostages_75 : decode cX3_digestPostages 75 = .ok (.ldc2_w 159, 3) := by decide +kernel
theorem dX3_digestPostages_78 : decode cX3_digestPostages 78 = .ok (.lmul, 1) := by decide +kernel
theorem dX3_digestPostages_79 : decode cX3_digestPostages 79 = .ok (.aload_n 0, 1) := by decide +kernel
theorem dX3_digestPostages_80 : decode cX3_digestPostages 80 = .ok (.getfield 29, 3) := by decide +kernel
theorem dX3_digestPostages_83 : decode cX3_digestPostages 83 = .ok (.iload 5, 2) := by decide +kernel
theorem dX3_digestPostages_85 : decode cX3_digestPostages 85 = .ok (.aload_n 0, 1) := by decide +kernel
theorem dX3_digestPostages_86 : decode cX3_digestPostages 86 = .ok (.getfield 33, 3) := by decide +kernel
theorem dX3_digestPostages_89 : decode cX3_digestPostages 89 = .ok (.invokevirtual 131, 3) := by decide +kernel
theorem dX3_digestPostages_92 : decode cX3_digestPostages 92 = .ok (.i2l, 1) := by decide +kernel
theorem dX3_digestPostages_93 : decode cX3_digestPostages 93 = .ok (.ladd, 1) := by decide +kernel
theorem dX3_digestPostages_94 : decode cX3_digestPostages 94 = .ok (.lstore_n 3, 1) := by decide +kernel
theorem dX3_digestPostages_95 : decode cX3_digestPostages 95 = .ok (.iinc 5 25, 3) := by decide +kernel
theorem dX3_digestPostages_98 : decode cX3_digestPostages 98 = .ok (.goto (-66), 3) := by decide +kernel
theorem dX3_digestPostages_101 : decode cX3_digestPostages 101 = .ok (.lload_n 3, 1) := by decide +kernel
theorem dX3_digestPostages_102 : decode cX3_digestPostages 102 = .ok (.lreturn, 1) := by decide +kernel
theorem dX3_checkStamp_0 : decode cX3_checkStamp 0 = .ok (.iload_n 1, 1) := by decide +kernel
theorem dX3_checkStamp_1 : decode cX3_checkStamp 1 = .ok (.ifCond .lt 14, 3) := by decide +kernel
theorem dX3_checkStamp_4 : decode cX3_checkStamp 4 = .ok (.iload_n 1, 1) := by decide +kernel
theorem dX3_checkStamp_5 : decode cX3_checkStamp 5 = .ok (.aload_n 0, 1) := by decide +kernel
theorem dX3_checkStamp_6 : decode cX3_checkStamp 6 = .ok (.getfield 12, 3) := by decide +kernel
theorem dX3_checkStamp_9 : decode cX3_checkStamp 9 = .ok (.getfield 49, 3) := by decide +kernel
theorem dX3_checkStamp_12 : decode cX3_checkStamp 12 = .ok (.if_icmp .lt 11, 3) := by decide +kernel
theorem dX3_checkStamp_15 : decode cX3_checkStamp 15 = .ok (.new 196, 3) := by decide +kernel
theorem dX3_checkStamp_18 : decode cX3_checkStamp 18 = .ok (.dup, 1) := by decide +kernel
theorem dX3_checkStamp_19 : decode cX3_checkStamp 19 = .ok (.invokespecial 198, 3) := by decide +kernel
theorem dX3_checkStamp_22 : decode cX3_checkStamp 22 = .ok (.athrow, 1) := by decide +kernel
theorem dX3_checkStamp_23 : decode cX3_checkStamp 23 = .ok (.return_, 1) := by decide +kernel
theorem dX3_checkPostage_0 : decode cX3_checkPostage 0 = .ok (.iload_n 0, 1) := by decide +kernel
theorem dX3_checkPostage_1 : decode cX3_checkPostage 1 = .ok (.iconst 1, 1) := by decide +kernel
theorem dX3_checkPostage_2 : decode cX3_checkPostage 2 = .ok (.if_icmp .lt 10, 3) := by decide +kernel
theorem dX3_checkPostage_5 : decode cX3_checkPostage 5 = .ok (.iload_n 0, 1) := by decide +kernel
theorem dX3_checkPostage_6 : decode cX3_checkPostage 6 = .ok (.sipush 300, 3) := by decide +kernel
theorem dX3_checkPostage_9 : decode cX3_checkPostage 9 = .ok (.if_icmp .le 11, 3) := by decide +kernel
theorem dX3_checkPostage_12 : decode cX3_checkPostage 12 = .ok (.new 46, 3) := by decide +kernel
theorem dX3_checkPostage_15 : decode cX3_checkPostage 15 = .ok (.dup, 1) := by decide +kernel
theorem dX3_checkPostage_16 : decode cX3_checkPostage 16 = .ok (.invokespecial 48, 3) := by decide +kernel
theorem dX3_checkPostage_19 : decode cX3_checkPostage 19 = .ok (.athrow, 1) := by decide +kernel
theorem dX3_checkPostage_20 : decode cX3_checkPostage 20 = .ok (.return_, 1) := by decide +kernel
theorem dX3_checkRoom_0 : decode cX3_checkRoom 0 = .ok (.iload_n 0, 1) := by decide +kernel
theorem dX3_checkRoom_1 : decode cX3_checkRoom 1 = .ok (.iconst 1, 1) := by decide +kernel
theorem dX3_checkRoom_2 : decode cX3_checkRoom 2 = .ok (.if_icmp .lt 9, 3) := by decide +kernel
theorem dX3_checkRoom_5 : decode cX3_checkRoom 5 = .ok (.iload_n 0, 1) := by decide +kernel
theorem dX3_checkRoom_6 : decode cX3_checkRoom 6 = .ok (.bipush 12, 2) := by decide +kernel
theorem dX3_checkRoom_8 : decode cX3_checkRoom 8 = .ok (.if_icmp .le 11, 3) := by decide +kernel
theorem dX3_checkRoom_11 : decode cX3_checkRoom 11 = .ok (.new 46, 3) := by decide +kernel
theorem dX3_checkRoom_14 : decode cX3_checkRoom 14 = .ok (.dup, 1) := by decide +kernel
theorem dX3_checkRoom_15 : decode cX3_checkRoom 15 = .ok (.invokespecial 48, 3) := by decide +kernel
theorem dX3_checkRoom_18 : decode cX3_checkRoom 18 = .ok (.athrow, 1) := by decide +kernel
