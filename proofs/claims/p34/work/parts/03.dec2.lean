theorem dX3_checkRoom_19 : decode cX3_checkRoom 19 = .ok (.return_, 1) := by decide +kernel
theorem dX4_init_0 : decode cX4_init 0 = .ok (.aload_n 0, 1) := by decide +kernel
theorem dX4_init_1 : decode cX4_init 1 = .ok (.invokespecial 1, 3) := by decide +kernel
theorem dX4_init_4 : decode cX4_init 4 = .ok (.aload_n 0, 1) := by decide +kernel
theorem dX4_init_5 : decode cX4_init 5 = .ok (.bipush 6, 2) := by decide +kernel
theorem dX4_init_7 : decode cX4_init 7 = .ok (.putfield 7, 3) := by decide +kernel
theorem dX4_init_10 : decode cX4_init 10 = .ok (.aload_n 0, 1) := by decide +kernel
theorem dX4_init_11 : decode cX4_init 11 = .ok (.iconst 0, 1) := by decide +kernel
theorem dX4_init_12 : decode cX4_init 12 = .ok (.anewarray 13, 3) := by decide +kernel
theorem dX4_init_15 : decode cX4_init 15 = .ok (.putfield 15, 3) := by decide +kernel
theorem dX4_init_18 : decode cX4_init 18 = .ok (.return_, 1) := by decide +kernel
theorem dX4_with_0 : decode cX4_with 0 = .ok (.aload_n 0, 1) := by decide +kernel
theorem dX4_with_1 : decode cX4_with 1 = .ok (.arraylength, 1) := by decide +kernel
theorem dX4_with_2 : decode cX4_with 2 = .ok (.iconst 1, 1) := by decide +kernel
theorem dX4_with_3 : decode cX4_with 3 = .ok (.iadd, 1) := by decide +kernel
theorem dX4_with_4 : decode cX4_with 4 = .ok (.anewarray 13, 3) := by decide +kernel
theorem dX4_with_7 : decode cX4_with 7 = .ok (.astore_n 2, 1) := by decide +kernel
theorem dX4_with_8 : decode cX4_with 8 = .ok (.iconst 0, 1) := by decide +kernel
theorem dX4_with_9 : decode cX4_with 9 = .ok (.istore_n 3, 1) := by decide +kernel
theorem dX4_with_10 : decode cX4_with 10 = .ok (.iload_n 3, 1) := by decide +kernel
theorem dX4_with_11 : decode cX4_with 11 = .ok (.aload_n 0, 1) := by decide +kernel
theorem dX4_with_12 : decode cX4_with 12 = .ok (.arraylength, 1) := by decide +kernel
theorem dX4_with_13 : decode cX4_with 13 = .ok (.if_icmp .ge 15, 3) := by decide +kernel
theorem dX4_with_16 : decode cX4_with 16 = .ok (.aload_n 2, 1) := by decide +kernel
theorem dX4_with_17 : decode cX4_with 17 = .ok (.iload_n 3, 1) := by decide +kernel
theorem dX4_with_18 : decode cX4_with 18 = .ok (.aload_n 0, 1) := by decide +kernel
theorem dX4_with_19 : decode cX4_with 19 = .ok (.iload_n 3, 1) := by decide +kernel
theorem dX4_with_20 : decode cX4_with 20 = .ok (.aaload, 1) := by decide +kernel
theorem dX4_with_21 : decode cX4_with 21 = .ok (.aastore, 1) := by decide +kernel
theorem dX4_with_22 : decode cX4_with 22 = .ok (.iinc 3 1, 3) := by decide +kernel
theorem dX4_with_25 : decode cX4_with 25 = .ok (.goto (-15), 3) := by decide +kernel
theorem dX4_with_28 : decode cX4_with 28 = .ok (.aload_n 2, 1) := by decide +kernel
theorem dX4_with_29 : decode cX4_with 29 = .ok (.aload_n 0, 1) := by decide +kernel
theorem dX4_with_30 : decode cX4_with 30 = .ok (.arraylength, 1) := by decide +kernel
theorem dX4_with_31 : decode cX4_with 31 = .ok (.aload_n 1, 1) := by decide +kernel
theorem dX4_with_32 : decode cX4_with 32 = .ok (.aastore, 1) := by decide +kernel
theorem dX4_with_33 : decode cX4_with 33 = .ok (.aload_n 2, 1) := by decide +kernel
theorem dX4_with_34 : decode cX4_with 34 = .ok (.areturn, 1) := by decide +kernel
theorem dX4_without_0 : decode cX4_without 0 = .ok (.iconst 0, 1) := by decide +kernel
theorem dX4_without_1 : decode cX4_without 1 = .ok (.anewarray 13, 3) := by decide +kernel
theorem dX4_without_4 : decode cX4_without 4 = .ok (.astore_n 2, 1) := by decide +kernel
theorem dX4_without_5 : decode cX4_without 5 = .ok (.iconst 0, 1) := by decide +kernel
theorem dX4_without_6 : decode cX4_without 6 = .ok (.istore_n 3, 1) := by decide +kernel
theorem dX4_without_7 : decode cX4_without 7 = .ok (.iload_n 3, 1) := by decide +kernel
theorem dX4_without_8 : decode cX4_without 8 = .ok (.aload_n 0, 1) := by decide +kernel
theorem dX4_without_9 : decode cX4_without 9 = .ok (.arraylength, 1) := by decide +kernel
theorem dX4_without_10 : decode cX4_without 10 = .ok (.if_icmp .ge 22, 3) := by decide +kernel
theorem dX4_without_13 : decode cX4_without 13 = .ok (.iload_n 3, 1) := by decide +kernel
theorem dX4_without_14 : decode cX4_without 14 = .ok (.iload_n 1, 1) := by decide +kernel
theorem dX4_without_15 : decode cX4_without 15 = .ok (.if_icmp .eq 11, 3) := by decide +kernel
theorem dX4_without_18 : decode cX4_without 18 = .ok (.aload_n 2, 1) := by decide +kernel
theorem dX4_without_19 : decode cX4_without 19 = .ok (.aload_n 0, 1) := by decide +kernel
theorem dX4_without_20 : decode cX4_without 20 = .ok (.iload_n 3, 1) := by decide +kernel
theorem dX4_without_21 : decode cX4_without 21 = .ok (.aaload, 1) := by decide +kernel
theorem dX4_without_22 : decode cX4_without 22 = .ok (.invokestatic 19, 3) := by decide +kernel
theorem dX4_without_25 : decode cX4_without 25 = .ok (.astore_n 2, 1) := by decide +kernel
theorem dX4_without_26 : decode cX4_without 26 = .ok (.iinc 3 1, 3) := by decide +kernel
theorem dX4_without_29 : decode cX4_without 29 = .ok (.goto (-22), 3) := by decide +kernel
theorem dX4_without_32 : decode cX4_without 32 = .ok (.aload_n 2, 1) := by decide +kernel
theorem dX4_without_33 : decode cX4_without 33 = .ok (.areturn, 1) := by decide +kernel
theorem dX4_copy_0 : decode cX4_copy 0 = .ok (.new 8, 3) := by decide +kernel
theorem dX4_copy_3 : decode cX4_copy 3 = .ok (.dup, 1) := by decide +kernel
theorem dX4_copy_4 : decode cX4_copy 4 = .ok (.invokespecial 23, 3) := by decide +kernel
theorem dX4_copy_7 : decode cX4_copy 7 = .ok (.astore_n 1, 1) := by decide +kernel
theorem dX4_copy_8 : decode cX4_copy 8 = .ok (.aload_n 1, 1) := by decide +kernel
theorem dX4_copy_9 : decode cX4_copy 9 = .ok (.aload_n 0, 1) := by decide +kernel
theorem dX4_copy_10 : decode cX4_copy 10 = .ok (.getfield 7, 3) := by decide +kernel
theorem dX4_copy_13 : decode cX4_copy 13 = .ok (.putfield 7, 3) := by decide +kernel
theorem dX4_copy_16 : decode cX4_copy 16 = .ok (.aload_n 1, 1) := by decide +kernel
theorem dX4_copy_17 : decode cX4_copy 17 = .ok (.aload_n 0, 1) := by decide +kernel
theorem dX4_copy_18 : decode cX4_copy 18 = .ok (.getfield 24, 3) := by decide +kernel
theorem dX4_copy_21 : decode cX4_copy 21 = .ok (.putfield 24, 3) := by decide +kernel
theorem dX4_copy_24 : decode cX4_copy 24 = .ok (.aload_n 1, 1) := by decide +kernel
theorem dX4_copy_25 : decode cX4_copy 25 = .ok (.aload_n 0, 1) := by decide +kernel
theorem dX4_copy_26 : decode cX4_copy 26 = .ok (.getfield 27, 3) := by decide +kernel
theorem dX4_copy_29 : decode cX4_copy 29 = .ok (.putfield 27, 3) := by decide +kernel
theorem dX4_copy_32 : decode cX4_copy 32 = .ok (.aload_n 1, 1) := by decide +kernel
theorem dX4_copy_33 : decode cX4_copy 33 = .ok (.aload_n 0, 1) := by decide +kernel
theorem dX4_copy_34 : decode cX4_copy 34 = .ok (.getfield 30, 3) := by decide +kernel
theorem dX4_copy_37 : decode cX4_copy 37 = .ok (.putfield 30, 3) := by decide +kernel
theorem dX4_copy_40 : decode cX4_copy 40 = .ok (.aload_n 0, 1) := by decide +kernel
theorem dX4_copy_41 : decode cX4_copy 41 = .ok (.getfield 15, 3) := by decide +kernel
theorem dX4_copy_44 : decode cX4_copy 44 = .ok (.astore_n 2, 1) := by decide +kernel
theorem dX4_copy_45 : decode cX4_copy 45 = .ok (.aload_n 2, 1) := by decide +kernel
theorem dX4_copy_46 : decode cX4_copy 46 = .ok (.arraylength, 1) := by decide +kernel
theorem dX4_copy_47 : decode cX4_copy 47 = .ok (.istore_n 3, 1) := by decide +kernel
theorem dX4_copy_48 : decode cX4_copy 48 = .ok (.iconst 0, 1) := by decide +kernel
theorem dX4_copy_49 : decode cX4_copy 49 = .ok (.istore 4, 2) := by decide +kernel
theorem dX4_copy_51 : decode cX4_copy 51 = .ok (.iload 4, 2) := by decide +kernel
theorem dX4_copy_53 : decode cX4_copy 53 = .ok (.iload_n 3, 1) := by decide +kernel
theorem dX4_copy_54 : decode cX4_copy 54 = .ok (.if_icmp .ge 34, 3) := by decide +kernel
theorem dX4_copy_57 : decode cX4_copy 57 = .ok (.aload_n 2, 1) := by decide +kernel
theorem dX4_copy_58 : decode cX4_copy 58 = .ok (.iload 4, 2) := by decide +kernel
theorem dX4_copy_60 : decode cX4_copy 60 = .ok (.aaload, 1) := by decide +kernel
theorem dX4_copy_61 : decode cX4_copy 61 = .ok (.astore 5, 2) := by decide +kernel
theorem dX4_copy_63 : decode cX4_copy 63 = .ok (.aload_n 1, 1) := by decide +kernel
theorem dX4_copy_64 : decode cX4_copy 64 = .ok (.aload_n 1, 1) := by decide +kernel
theorem dX4_copy_65 : decode cX4_copy 65 = .ok (.getfield 15, 3) := by decide +kernel
theorem dX4_copy_68 : decode cX4_copy 68 = .ok (.aload 5, 2) := by decide +kernel
theorem dX4_copy_70 : decode cX4_copy 70 = .ok (.invokevirtual 33, 3) := by decide +kernel
theorem dX4_copy_73 : decode cX4_copy 73 = .ok (.checkcast 13, 3) := by decide +kernel
theorem dX4_copy_76 : decode cX4_copy 76 = .ok (.invokestatic 19, 3) := by decide +kernel
theorem dX4_copy_79 : decode cX4_copy 79 = .ok (.putfield 15, 3) := by decide +kernel
theorem dX4_copy_82 : decode cX4_copy 82 = .ok (.iinc 4 1, 3) := by decide +kernel
theorem dX4_copy_85 : decode cX4_copy 85 = .ok (.goto (-34), 3) := by decide +kernel
theorem dX4_copy_88 : decode cX4_copy 88 = .ok (.aload_n 1, 1) := by decide +kernel
theorem dX4_copy_89 : decode cX4_copy 89 = .ok (.areturn, 1) := by decide +kernel
theorem dX4_isThere_0 : decode cX4_isThere 0 = .ok (.aload_n 0, 1) := by decide +kernel
theorem dX4_isThere_1 : decode cX4_isThere 1 = .ok (.getfield 15, 3) := by decide +kernel
theorem dX4_isThere_4 : decode cX4_isThere 4 = .ok (.astore_n 2, 1) := by decide +kernel
theorem dX4_isThere_5 : decode cX4_isThere 5 = .ok (.aload_n 2, 1) := by decide +kernel
theorem dX4_isThere_6 : decode cX4_isThere 6 = .ok (.arraylength, 1) := by decide +kernel
theorem dX4_isThere_7 : decode cX4_isThere 7 = .ok (.istore_n 3, 1) := by decide +kernel
theorem dX4_isThere_8 : decode cX4_isThere 8 = .ok (.iconst 0, 1) := by decide +kernel
theorem dX4_isThere_9 : decode cX4_isThere 9 = .ok (.istore 4, 2) := by decide +kernel
theorem dX4_isThere_11 : decode cX4_isThere 11 = .ok (.iload 4, 2) := by decide +kernel
theorem dX4_isThere_13 : decode cX4_isThere 13 = .ok (.iload_n 3, 1) := by decide +kernel
theorem dX4_isThere_14 : decode cX4_isThere 14 = .ok (.if_icmp .ge 25, 3) := by decide +kernel
theorem dX4_isThere_17 : decode cX4_isThere 17 = .ok (.aload_n 2, 1) := by decide +kernel
theorem dX4_isThere_18 : decode cX4_isThere 18 = .ok (.iload 4, 2) := by decide +kernel
theorem dX4_isThere_20 : decode cX4_isThere 20 = .ok (.aaload, 1) := by decide +kernel
theorem dX4_isThere_21 : decode cX4_isThere 21 = .ok (.astore 5, 2) := by decide +kernel
theorem dX4_isThere_23 : decode cX4_isThere 23 = .ok (.aload 5, 2) := by decide +kernel
theorem dX4_isThere_25 : decode cX4_isThere 25 = .ok (.iconst 0, 1) := by decide +kernel
theorem dX4_isThere_26 : decode cX4_isThere 26 = .ok (.iaload, 1) := by decide +kernel
theorem dX4_isThere_27 : decode cX4_isThere 27 = .ok (.iload_n 1, 1) := by decide +kernel
theorem dX4_isThere_28 : decode cX4_isThere 28 = .ok (.if_icmp .ne 5, 3) := by decide +kernel
theorem dX4_isThere_31 : decode cX4_isThere 31 = .ok (.iconst 1, 1) := by decide +kernel
theorem dX4_isThere_32 : decode cX4_isThere 32 = .ok (.ireturn, 1) := by decide +kernel
theorem dX4_isThere_33 : decode cX4_isThere 33 = .ok (.iinc 4 1, 3) := by decide +kernel
theorem dX4_isThere_36 : decode cX4_isThere 36 = .ok (.goto (-25), 3) := by decide +kernel
theorem dX4_isThere_39 : decode cX4_isThere 39 = .ok (.iconst 0, 1) := by decide +kernel
theorem dX4_isThere_40 : decode cX4_isThere 40 = .ok (.ireturn, 1) := by decide +kernel
theorem dX4_sorted_0 : decode cX4_sorted 0 = .ok (.aload_n 0, 1) := by decide +kernel
theorem dX4_sorted_1 : decode cX4_sorted 1 = .ok (.getfield 15, 3) := by decide +kernel
theorem dX4_sorted_4 : decode cX4_sorted 4 = .ok (.invokevirtual 37, 3) := by decide +kernel
theorem dX4_sorted_7 : decode cX4_sorted 7 = .ok (.checkcast 38, 3) := by decide +kernel
theorem dX4_sorted_10 : decode cX4_sorted 10 = .ok (.astore_n 1, 1) := by decide +kernel
theorem dX4_sorted_11 : decode cX4_sorted 11 = .ok (.iconst 1, 1) := by decide +kernel
theorem dX4_sorted_12 : decode cX4_sorted 12 = .ok (.istore_n 2, 1) := by decide +kernel
theorem dX4_sorted_13 : decode cX4_sorted 13 = .ok (.iload_n 2, 1) := by decide +kernel
theorem dX4_sorted_14 : decode cX4_sorted 14 = .ok (.aload_n 1, 1) := by decide +kernel
theorem dX4_sorted_15 : decode cX4_sorted 15 = .ok (.arraylength, 1) := by decide +kernel
theorem dX4_sorted_16 : decode cX4_sorted 16 = .ok (.if_icmp .ge 56, 3) := by decide +kernel
theorem dX4_sorted_19 : decode cX4_sorted 19 = .ok (.iload_n 2, 1) := by decide +kernel
theorem dX4_sorted_20 : decode cX4_sorted 20 = .ok (.istore_n 3, 1) := by decide +kernel
theorem dX4_sorted_21 : decode cX4_sorted 21 = .ok (.iload_n 3, 1) := by decide +kernel
theorem dX4_sorted_22 : decode cX4_sorted 22 = .ok (.ifCond .le 44, 3) := by decide +kernel
theorem dX4_sorted_25 : decode cX4_sorted 25 = .ok (.aload_n 1, 1) := by decide +kernel
theorem dX4_sorted_26 : decode cX4_sorted 26 = .ok (.iload_n 3, 1) := by decide +kernel
theorem dX4_sorted_27 : decode cX4_sorted 27 = .ok (.iconst 1, 1) := by decide +kernel
theorem dX4_sorted_28 : decode cX4_sorted 28 = .ok (.isub, 1) := by decide +kernel
theorem dX4_sorted_29 : decode cX4_sorted 29 = .ok (.aaload, 1) := by decide +kernel
theorem dX4_sorted_30 : decode cX4_sorted 30 = .ok (.iconst 0, 1) := by decide +kernel
theorem dX4_sorted_31 : decode cX4_sorted 31 = .ok (.iaload, 1) := by decide +kernel
theorem dX4_sorted_32 : decode cX4_sorted 32 = .ok (.aload_n 1, 1) := by decide +kernel
theorem dX4_sorted_33 : decode cX4_sorted 33 = .ok (.iload_n 3, 1) := by decide +kernel
theorem dX4_sorted_34 : decode cX4_sorted 34 = .ok (.aaload, 1) := by decide +kernel
theorem dX4_sorted_35 : decode cX4_sorted 35 = .ok (.iconst 0, 1) := by decide +kernel
theorem dX4_sorted_36 : decode cX4_sorted 36 = .ok (.iaload, 1) := by decide +kernel
theorem dX4_sorted_37 : decode cX4_sorted 37 = .ok (.if_icmp .ge 29, 3) := by decide +kernel
theorem dX4_sorted_40 : decode cX4_sorted 40 = .ok (.aload_n 1, 1) := by decide +kernel
theorem dX4_sorted_41 : decode cX4_sorted 41 = .ok (.iload_n 3, 1) := by decide +kernel
theorem dX4_sorted_42 : decode cX4_sorted 42 = .ok (.aaload, 1) := by decide +kernel
theorem dX4_sorted_43 : decode cX4_sorted 43 = .ok (.astore 4, 2) := by decide +kernel
theorem dX4_sorted_45 : decode cX4_sorted 45 = .ok (.aload_n 1, 1) := by decide +kernel
theorem dX4_sorted_46 : decode cX4_sorted 46 = .ok (.iload_n 3, 1) := by decide +kernel
theorem dX4_sorted_47 : decode cX4_sorted 47 = .ok (.aload_n 1, 1) := by decide +kernel
theorem dX4_sorted_48 : decode cX4_sorted 48 = .ok (.iload_n 3, 1) := by decide +kernel
theorem dX4_sorted_49 : decode cX4_sorted 49 = .ok (.iconst 1, 1) := by decide +kernel
theorem dX4_sorted_50 : decode cX4_sorted 50 = .ok (.isub, 1) := by decide +kernel
theorem dX4_sorted_51 : decode cX4_sorted 51 = .ok (.aaload, 1) := by decide +kernel
theorem dX4_sorted_52 : decode cX4_sorted 52 = .ok (.aastore, 1) := by decide +kernel
theorem dX4_sorted_53 : decode cX4_sorted 53 = .ok (.aload_n 1, 1) := by decide +kernel
theorem dX4_sorted_54 : decode cX4_sorted 54 = .ok (.iload_n 3, 1) := by decide +kernel
theorem dX4_sorted_55 : decode cX4_sorted 55 = .ok (.iconst 1, 1) := by decide +kernel
theorem dX4_sorted_56 : decode cX4_sorted 56 = .ok (.isub, 1) := by decide +kernel
theorem dX4_sorted_57 : decode cX4_sorted 57 = .ok (.aload 4, 2) := by decide +kernel
theorem dX4_sorted_59 : decode cX4_sorted 59 = .ok (.aastore, 1) := by decide +kernel
theorem dX4_sorted_60 : decode cX4_sorted 60 = .ok (.iinc 3 (-1), 3) := by decide +kernel
theorem dX4_sorted_63 : decode cX4_sorted 63 = .ok (.goto (-42), 3) := by decide +kernel
theorem dX4_sorted_66 : decode cX4_sorted 66 = .ok (.iinc 2 1, 3) := by decide +kernel
theorem dX4_sorted_69 : decode cX4_sorted 69 = .ok (.goto (-56), 3) := by decide +kernel
theorem dX4_sorted_72 : decode cX4_sorted 72 = .ok (.aload_n 1, 1) := by decide +kernel
theorem dX4_sorted_73 : decode cX4_sorted 73 = .ok (.areturn, 1) := by decide +kernel
theorem dX4_look_0 : decode cX4_look 0 = .ok (.iload 4, 2) := by decide +kernel
theorem dX4_look_2 : decode cX4_look 2 = .ok (.iload 6, 2) := by decide +kernel
theorem dX4_look_4 : decode cX4_look 4 = .ok (.if_icmp .lt 88, 3) := by decide +kernel
theorem dX4_look_7 : decode cX4_look 7 = .ok (.aload_n 0, 1) := by decide +kernel
theorem dX4_look_8 : decode cX4_look 8 = .ok (.getfield 39, 3) := by decide +kernel
theorem dX4_look_11 : decode cX4_look 11 = .ok (.ifnull 31, 3) := by decide +kernel
theorem dX4_look_14 : decode cX4_look 14 = .ok (.iload 4, 2) := by decide +kernel
theorem dX4_look_16 : decode cX4_look 16 = .ok (.aload_n 0, 1) := by decide +kernel
theorem dX4_look_17 : decode cX4_look 17 = .ok (.getfield 42, 3) := by decide +kernel
theorem dX4_look_20 : decode cX4_look 20 = .ok (.if_icmp .gt 21, 3) := by decide +kernel
theorem dX4_look_23 : decode cX4_look 23 = .ok (.iload 4, 2) := by decide +kernel
theorem dX4_look_25 : decode cX4_look 25 = .ok (.aload_n 0, 1) := by decide +kernel
theorem dX4_look_26 : decode cX4_look 26 = .ok (.getfield 42, 3) := by decide +kernel
theorem dX4_look_29 : decode cX4_look 29 = .ok (.if_icmp .ne 13, 3) := by decide +kernel
theorem dX4_look_32 : decode cX4_look 32 = .ok (.iload 5, 2) := by decide +kernel
theorem dX4_look_34 : decode cX4_look 34 = .ok (.aload_n 0, 1) := by decide +kernel
theorem dX4_look_35 : decode cX4_look 35 = .ok (.getfield 45, 3) := by decide +kernel
theorem dX4_look_38 : decode cX4_look 38 = .ok (.if_icmp .lt 4, 3) := by decide +kernel
theorem dX4_look_41 : decode cX4_look 41 = .ok (.return_, 1) := by decide +kernel
theorem dX4_look_42 : decode cX4_look 42 = .ok (.aload_n 0, 1) := by decide +kernel
theorem dX4_look_43 : decode cX4_look 43 = .ok (.aload_n 1, 1) := by decide +kernel
theorem dX4_look_44 : decode cX4_look 44 = .ok (.arraylength, 1) := by decide +kernel
theorem dX4_look_45 : decode cX4_look 45 = .ok (.newarray .int, 2) := by decide +kernel
theorem dX4_look_47 : decode cX4_look 47 = .ok (.putfield 39, 3) := by decide +kernel
theorem dX4_look_50 : decode cX4_look 50 = .ok (.iconst 0, 1) := by decide +kernel
theorem dX4_look_51 : decode cX4_look 51 = .ok (.istore 7, 2) := by decide +kernel
theorem dX4_look_53 : decode cX4_look 53 = .ok (.iload 7, 2) := by decide +kernel
theorem dX4_look_55 : decode cX4_look 55 = .ok (.iload_n 2, 1) := by decide +kernel
theorem dX4_look_56 : decode cX4_look 56 = .ok (.if_icmp .ge 23, 3) := by decide +kernel
theorem dX4_look_59 : decode cX4_look 59 = .ok (.aload_n 0, 1) := by decide +kernel
theorem dX4_look_60 : decode cX4_look 60 = .ok (.getfield 39, 3) := by decide +kernel
theorem dX4_look_63 : decode cX4_look 63 = .ok (.iload 7, 2) := by decide +kernel
theorem dX4_look_65 : decode cX4_look 65 = .ok (.aload_n 0, 1) := by decide +kernel
theorem dX4_look_66 : decode cX4_look 66 = .ok (.getfield 48, 3) := by decide +kernel
theorem dX4_look_69 : decode cX4_look 69 = .ok (.iload 7, 2) := by decide +kernel
theorem dX4_look_71 : decode cX4_look 71 = .ok (.iaload, 1) := by decide +kernel
theorem dX4_look_72 : decode cX4_look 72 = .ok (.iastore, 1) := by decide +kernel
theorem dX4_look_73 : decode cX4_look 73 = .ok (.iinc 7 1, 3) := by decide +kernel
theorem dX4_look_76 : decode cX4_look 76 = .ok (.goto (-23), 3) := by decide +kernel
theorem dX4_look_79 : decode cX4_look 79 = .ok (.aload_n 0, 1) := by decide +kernel
theorem dX4_look_80 : decode cX4_look 80 = .ok (.iload 4, 2) := by decide +kernel
theorem dX4_look_82 : decode cX4_look 82 = .ok (.putfield 42, 3) := by decide +kernel
theorem dX4_look_85 : decode cX4_look 85 = .ok (.aload_n 0, 1) := by decide +kernel
theorem dX4_look_86 : decode cX4_look 86 = .ok (.iload 5, 2) := by decide +kernel
theorem dX4_look_88 : decode cX4_look 88 = .ok (.putfield 45, 3) := by decide +kernel
theorem dX4_look_91 : decode cX4_look 91 = .ok (.return_, 1) := by decide +kernel
theorem dX4_look_92 : decode cX4_look 92 = .ok (.iload_n 2, 1) := by decide +kernel
theorem dX4_look_93 : decode cX4_look 93 = .ok (.aload_n 1, 1) := by decide +kernel
theorem dX4_look_94 : decode cX4_look 94 = .ok (.arraylength, 1) := by decide +kernel
theorem dX4_look_95 : decode cX4_look 95 = .ok (.if_icmp .eq 43, 3) := by decide +kernel
theorem dX4_look_98 : decode cX4_look 98 = .ok (.iload 4, 2) := by decide +kernel
theorem dX4_look_100 : decode cX4_look 100 = .ok (.iload_n 3, 1) := by decide +kernel
theorem dX4_look_101 : decode cX4_look 101 = .ok (.aload_n 1, 1) := by decide +kernel
theorem dX4_look_102 : decode cX4_look 102 = .ok (.iload_n 2, 1) := by decide +kernel
theorem dX4_look_103 : decode cX4_look 103 = .ok (.aaload, 1) := by decide +kernel
theorem dX4_look_104 : decode cX4_look 104 = .ok (.iconst 0, 1) := by decide +kernel
theorem dX4_look_105 : decode cX4_look 105 = .ok (.iaload, 1) := by decide +kernel
theorem dX4_look_106 : decode cX4_look 106 = .ok (.imul, 1) := by decide +kernel
theorem dX4_look_107 : decode cX4_look 107 = .ok (.iadd, 1) := by decide +kernel
theorem dX4_look_108 : decode cX4_look 108 = .ok (.iload 6, 2) := by decide +kernel
theorem dX4_look_110 : decode cX4_look 110 = .ok (.if_icmp .lt 28, 3) := by decide +kernel
theorem dX4_look_113 : decode cX4_look 113 = .ok (.aload_n 0, 1) := by decide +kernel
theorem dX4_look_114 : decode cX4_look 114 = .ok (.getfield 39, 3) := by decide +kernel
theorem dX4_look_117 : decode cX4_look 117 = .ok (.ifnull 22, 3) := by decide +kernel
theorem dX4_look_120 : decode cX4_look 120 = .ok (.iload 5, 2) := by decide +kernel
theorem dX4_look_122 : decode cX4_look 122 = .ok (.aload_n 0, 1) := by decide +kernel
theorem dX4_look_123 : decode cX4_look 123 = .ok (.getfield 45, 3) := by decide +kernel
theorem dX4_look_126 : decode cX4_look 126 = .ok (.if_icmp .le 13, 3) := by decide +kernel
theorem dX4_look_129 : decode cX4_look 129 = .ok (.aload_n 0, 1) := by decide +kernel
theorem dX4_look_130 : decode cX4_look 130 = .ok (.getfield 42, 3) := by decide +kernel
theorem dX4_look_133 : decode cX4_look 133 = .ok (.iload 6, 2) := by decide +kernel
theorem dX4_look_135 : decode cX4_look 135 = .ok (.if_icmp .ne 4, 3) := by decide +kernel
theorem dX4_look_138 : decode cX4_look 138 = .ok (.return_, 1) := by decide +kernel
theorem dX4_look_139 : decode cX4_look 139 = .ok (.aload_n 1, 1) := by decide +kernel
theorem dX4_look_140 : decode cX4_look 140 = .ok (.iload_n 2, 1) := by decide +kernel
theorem dX4_look_141 : decode cX4_look 141 = .ok (.aaload, 1) := by decide +kernel
theorem dX4_look_142 : decode cX4_look 142 = .ok (.iconst 0, 1) := by decide +kernel
theorem dX4_look_143 : decode cX4_look 143 = .ok (.iaload, 1) := by decide +kernel
theorem dX4_look_144 : decode cX4_look 144 = .ok (.istore 7, 2) := by decide +kernel
theorem dX4_look_146 : decode cX4_look 146 = .ok (.iload_n 3, 1) := by decide +kernel
theorem dX4_look_147 : decode cX4_look 147 = .ok (.aload_n 1, 1) := by decide +kernel
theorem dX4_look_148 : decode cX4_look 148 = .ok (.iload_n 2, 1) := by decide +kernel
theorem dX4_look_149 : decode cX4_look 149 = .ok (.aaload, 1) := by decide +kernel
theorem dX4_look_150 : decode cX4_look 150 = .ok (.iconst 1, 1) := by decide +kernel
theorem dX4_look_151 : decode cX4_look 151 = .ok (.iaload, 1) := by decide +kernel
theorem dX4_look_152 : decode cX4_look 152 = .ok (.if_icmp .ge 7, 3) := by decide +kernel
theorem dX4_look_155 : decode cX4_look 155 = .ok (.iload_n 3, 1) := by decide +kernel
theorem dX4_look_156 : decode cX4_look 156 = .ok (.goto 8, 3) := by decide +kernel
theorem dX4_look_159 : decode cX4_look 159 = .ok (.aload_n 1, 1) := by decide +kernel
theorem dX4_look_160 : decode cX4_look 160 = .ok (.iload_n 2, 1) := by decide +kernel
theorem dX4_look_161 : decode cX4_look 161 = .ok (.aaload, 1) := by decide +kernel
theorem dX4_look_162 : decode cX4_look 162 = .ok (.iconst 1, 1) := by decide +kernel
theorem dX4_look_163 : decode cX4_look 163 = .ok (.iaload, 1) := by decide +kernel
theorem dX4_look_164 : decode cX4_look 164 = .ok (.istore 8, 2) := by decide +kernel
theorem dX4_look_166 : decode cX4_look 166 = .ok (.iload 8, 2) := by decide +kernel
theorem dX4_look_168 : decode cX4_look 168 = .ok (.ifCond .lt 67, 3) := by decide +kernel
theorem dX4_look_171 : decode cX4_look 171 = .ok (.iload 8, 2) := by decide +kernel
theorem dX4_look_173 : decode cX4_look 173 = .ok (.ifCond .le 21, 3) := by decide +kernel
theorem dX4_look_176 : decode cX4_look 176 = .ok (.iload 4, 2) := by decide +kernel
theorem dX4_look_178 : decode cX4_look 178 = .ok (.iload 8, 2) := by decide +kernel
theorem dX4_look_180 : decode cX4_look 180 = .ok (.iconst 1, 1) := by decide +kernel
theorem dX4_look_181 : decode cX4_look 181 = .ok (.isub, 1) := by decide +kernel
theorem dX4_look_182 : decode cX4_look 182 = .ok (.iload 7, 2) := by decide +kernel
theorem dX4_look_184 : decode cX4_look 184 = .ok (.imul, 1) := by decide +kernel
theorem dX4_look_185 : decode cX4_look 185 = .ok (.iadd, 1) := by decide +kernel
theorem dX4_look_186 : decode cX4_look 186 = .ok (.iload 6, 2) := by decide +kernel
theorem dX4_look_188 : decode cX4_look 188 = .ok (.if_icmp .lt 6, 3) := by decide +kernel
theorem dX4_look_191 : decode cX4_look 191 = .ok (.goto 38, 3) := by decide +kernel
theorem dX4_look_194 : decode cX4_look 194 = .ok (.aload_n 0, 1) := by decide +kernel
theorem dX4_look_195 : decode cX4_look 195 = .ok (.getfield 48, 3) := by decide +kernel
theorem dX4_look_198 : decode cX4_look 198 = .ok (.iload_n 2, 1) := by decide +kernel
theorem dX4_look_199 : decode cX4_look 199 = .ok (.iload 8, 2) := by decide +kernel
theorem dX4_look_201 : decode cX4_look 201 = .ok (.iastore, 1) := by decide +kernel
theorem dX4_look_202 : decode cX4_look 202 = .ok (.aload_n 0, 1) := by decide +kernel
theorem dX4_look_203 : decode cX4_look 203 = .ok (.aload_n 1, 1) := by decide +kernel
theorem dX4_look_204 : decode cX4_look 204 = .ok (.iload_n 2, 1) := by decide +kernel
theorem dX4_look_205 : decode cX4_look 205 = .ok (.iconst 1, 1) := by decide +kernel
theorem dX4_look_206 : decode cX4_look 206 = .ok (.iadd, 1) := by decide +kernel
theorem dX4_look_207 : decode cX4_look 207 = .ok (.iload_n 3, 1) := by decide +kernel
theorem dX4_look_208 : decode cX4_look 208 = .ok (.iload 8, 2) := by decide +kernel
theorem dX4_look_210 : decode cX4_look 210 = .ok (.isub, 1) := by decide +kernel
theorem dX4_look_211 : decode cX4_look 211 = .ok (.iload 4, 2) := by decide +kernel
theorem dX4_look_213 : decode cX4_look 213 = .ok (.iload 8, 2) := by decide +kernel
theorem dX4_look_215 : decode cX4_look 215 = .ok (.iload 7, 2) := by decide +kernel
theorem dX4_look_217 : decode cX4_look 217 = .ok (.imul, 1) := by decide +kernel
theorem dX4_look_218 : decode cX4_look 218 = .ok (.iadd, 1) := by decide +kernel
theorem dX4_look_219 : decode cX4_look 219 = .ok (.iload 5, 2) := by decide +kernel
theorem dX4_look_221 : decode cX4_look 221 = .ok (.iload 8, 2) := by decide +kernel
theorem dX4_look_223 : decode cX4_look 223 = .ok (.iadd, 1) := by decide +kernel
theorem dX4_look_224 : decode cX4_look 224 = .ok (.iload 6, 2) := by decide +kernel
theorem dX4_look_226 : decode cX4_look 226 = .ok (.invokevirtual 51, 3) := by decide +kernel
theorem dX4_look_229 : decode cX4_look 229 = .ok (.iinc 8 (-1), 3) := by decide +kernel
theorem dX4_look_232 : decode cX4_look 232 = .ok (.goto (-66), 3) := by decide +kernel
theorem dX4_look_235 : decode cX4_look 235 = .ok (.return_, 1) := by decide +kernel
theorem dX4_gets_0 : decode cX4_gets 0 = .ok (.aload_n 0, 1) := by decide +kernel
theorem dX4_gets_1 : decode cX4_gets 1 = .ok (.aload_n 0, 1) := by decide +kernel
theorem dX4_gets_2 : decode cX4_gets 2 = .ok (.getfield 15, 3) := by decide +kernel
theorem dX4_gets_5 : decode cX4_gets 5 = .ok (.arraylength, 1) := by decide +kernel
theorem dX4_gets_6 : decode cX4_gets 6 = .ok (.newarray .int, 2) := by decide +kernel
theorem dX4_gets_8 : decode cX4_gets 8 = .ok (.putfield 48, 3) := by decide +kernel
theorem dX4_gets_11 : decode cX4_gets 11 = .ok (.aload_n 0, 1) := by decide +kernel
theorem dX4_gets_12 : decode cX4_gets 12 = .ok (.aconst_null, 1) := by decide +kernel
theorem dX4_gets_13 : decode cX4_gets 13 = .ok (.putfield 39, 3) := by decide +kernel
theorem dX4_gets_16 : decode cX4_gets 16 = .ok (.aload_n 0, 1) := by decide +kernel
theorem dX4_gets_17 : decode cX4_gets 17 = .ok (.aload_n 0, 1) := by decide +kernel
theorem dX4_gets_18 : decode cX4_gets 18 = .ok (.invokevirtual 55, 3) := by decide +kernel
theorem dX4_gets_21 : decode cX4_gets 21 = .ok (.iconst 0, 1) := by decide +kernel
theorem dX4_gets_22 : decode cX4_gets 22 = .ok (.aload_n 0, 1) := by decide +kernel
theorem dX4_gets_23 : decode cX4_gets 23 = .ok (.getfield 7, 3) := by decide +kernel
theorem dX4_gets_26 : decode cX4_gets 26 = .ok (.iconst 0, 1) := by decide +kernel
theorem dX4_gets_27 : decode cX4_gets 27 = .ok (.iconst 0, 1) := by decide +kernel
theorem dX4_gets_28 : decode cX4_gets 28 = .ok (.iload_n 1, 1) := by decide +kernel
theorem dX4_gets_29 : decode cX4_gets 29 = .ok (.invokevirtual 51, 3) := by decide +kernel
theorem dX4_gets_32 : decode cX4_gets 32 = .ok (.aload_n 0, 1) := by decide +kernel
theorem dX4_gets_33 : decode cX4_gets 33 = .ok (.getfield 39, 3) := by decide +kernel
theorem dX4_gets_36 : decode cX4_gets 36 = .ok (.areturn, 1) := by decide +kernel
theorem dX4_sum_0 : decode cX4_sum 0 = .ok (.iconst 0, 1) := by decide +kernel
theorem dX4_sum_1 : decode cX4_sum 1 = .ok (.istore_n 2, 1) := by decide +kernel
theorem dX4_sum_2 : decode cX4_sum 2 = .ok (.aload_n 0, 1) := by decide +kernel
theorem dX4_sum_3 : decode cX4_sum 3 = .ok (.invokevirtual 55, 3) := by decide +kernel
theorem dX4_sum_6 : decode cX4_sum 6 = .ok (.astore_n 3, 1) := by decide +kernel
theorem dX4_sum_7 : decode cX4_sum 7 = .ok (.iconst 0, 1) := by decide +kernel
theorem dX4_sum_8 : decode cX4_sum 8 = .ok (.istore 4, 2) := by decide +kernel
theorem dX4_sum_10 : decode cX4_sum 10 = .ok (.iload 4, 2) := by decide +kernel
theorem dX4_sum_12 : decode cX4_sum 12 = .ok (.aload_n 3, 1) := by decide +kernel
theorem dX4_sum_13 : decode cX4_sum 13 = .ok (.arraylength, 1) := by decide +kernel
theorem dX4_sum_14 : decode cX4_sum 14 = .ok (.if_icmp .ge 23, 3) := by decide +kernel
theorem dX4_sum_17 : decode cX4_sum 17 = .ok (.iload_n 2, 1) := by decide +kernel
theorem dX4_sum_18 : decode cX4_sum 18 = .ok (.aload_n 1, 1) := by decide +kernel
theorem dX4_sum_19 : decode cX4_sum 19 = .ok (.iload 4, 2) := by decide +kernel
theorem dX4_sum_21 : decode cX4_sum 21 = .ok (.iaload, 1) := by decide +kernel
theorem dX4_sum_22 : decode cX4_sum 22 = .ok (.aload_n 3, 1) := by decide +kernel
theorem dX4_sum_23 : decode cX4_sum 23 = .ok (.iload 4, 2) := by decide +kernel
theorem dX4_sum_25 : decode cX4_sum 25 = .ok (.aaload, 1) := by decide +kernel
theorem dX4_sum_26 : decode cX4_sum 26 = .ok (.iconst 0, 1) := by decide +kernel
theorem dX4_sum_27 : decode cX4_sum 27 = .ok (.iaload, 1) := by decide +kernel
theorem dX4_sum_28 : decode cX4_sum 28 = .ok (.imul, 1) := by decide +kernel
theorem dX4_sum_29 : decode cX4_sum 29 = .ok (.iadd, 1) := by decide +kernel
theorem dX4_sum_30 : decode cX4_sum 30 = .ok (.istore_n 2, 1) := by decide +kernel
theorem dX4_sum_31 : decode cX4_sum 31 = .ok (.iinc 4 1, 3) := by decide +kernel
theorem dX4_sum_34 : decode cX4_sum 34 = .ok (.goto (-24), 3) := by decide +kernel
theorem dX4_sum_37 : decode cX4_sum 37 = .ok (.iload_n 2, 1) := by decide +kernel
theorem dX4_sum_38 : decode cX4_sum 38 = .ok (.ireturn, 1) := by decide +kernel
theorem dX4_many_0 : decode cX4_many 0 = .ok (.iconst 0, 1) := by decide +kernel
theorem dX4_many_1 : decode cX4_many 1 = .ok (.istore_n 1, 1) := by decide +kernel
theorem dX4_many_2 : decode cX4_many 2 = .ok (.aload_n 0, 1) := by decide +kernel
theorem dX4_many_3 : decode cX4_many 3 = .ok (.astore_n 2, 1) := by decide +kernel
theorem dX4_many_4 : decode cX4_many 4 = .ok (.aload_n 2, 1) := by decide +kernel
theorem dX4_many_5 : decode cX4_many 5 = .ok (.arraylength, 1) := by decide +kernel
theorem dX4_many_6 : decode cX4_many 6 = .ok (.istore_n 3, 1) := by decide +kernel
theorem dX4_many_7 : decode cX4_many 7 = .ok (.iconst 0, 1) := by decide +kernel
theorem dX4_many_8 : decode cX4_many 8 = .ok (.istore 4, 2) := by decide +kernel
theorem dX4_many_10 : decode cX4_many 10 = .ok (.iload 4, 2) := by decide +kernel
theorem dX4_many_12 : decode cX4_many 12 = .ok (.iload_n 3, 1) := by decide +kernel
theorem dX4_many_13 : decode cX4_many 13 = .ok (.if_icmp .ge 20, 3) := by decide +kernel
theorem dX4_many_16 : decode cX4_many 16 = .ok (.aload_n 2, 1) := by decide +kernel
theorem dX4_many_17 : decode cX4_many 17 = .ok (.iload 4, 2) := by decide +kernel
theorem dX4_many_19 : decode cX4_many 19 = .ok (.iaload, 1) := by decide +kernel
theorem dX4_many_20 : decode cX4_many 20 = .ok (.istore 5, 2) := by decide +kernel
theorem dX4_many_22 : decode cX4_many 22 = .ok (.iload_n 1, 1) := by decide +kernel
theorem dX4_many_23 : decode cX4_many 23 = .ok (.iload 5, 2) := by decide +kernel
theorem dX4_many_25 : decode cX4_many 25 = .ok (.iadd, 1) := by decide +kernel
theorem dX4_many_26 : decode cX4_many 26 = .ok (.istore_n 1, 1) := by decide +kernel
theorem dX4_many_27 : decode cX4_many 27 = .ok (.iinc 4 1, 3) := by decide +kernel
theorem dX4_many_30 : decode cX4_many 30 = .ok (.goto (-20), 3) := by decide +kernel
theorem dX4_many_33 : decode cX4_many 33 = .ok (.iload_n 1, 1) := by decide +kernel
theorem dX4_many_34 : decode cX4_many 34 = .ok (.ireturn, 1) := by decide +kernel
theorem dX4_vend_0 : decode cX4_vend 0 = .ok (.aload_n 0, 1) := by decide +kernel
theorem dX4_vend_1 : decode cX4_vend 1 = .ok (.iload_n 1, 1) := by decide +kernel
theorem dX4_vend_2 : decode cX4_vend 2 = .ok (.invokevirtual 59, 3) := by decide +kernel
theorem dX4_vend_5 : decode cX4_vend 5 = .ok (.astore_n 2, 1) := by decide +kernel
theorem dX4_vend_6 : decode cX4_vend 6 = .ok (.aload_n 2, 1) := by decide +kernel
theorem dX4_vend_7 : decode cX4_vend 7 = .ok (.ifnonnull 5, 3) := by decide +kernel
theorem dX4_vend_10 : decode cX4_vend 10 = .ok (.iconst 0, 1) := by decide +kernel
theorem dX4_vend_11 : decode cX4_vend 11 = .ok (.ireturn, 1) := by decide +kernel
theorem dX4_vend_12 : decode cX4_vend 12 = .ok (.aload_n 0, 1) := by decide +kernel
theorem dX4_vend_13 : decode cX4_vend 13 = .ok (.invokevirtual 55, 3) := by decide +kernel
theorem dX4_vend_16 : decode cX4_vend 16 = .ok (.astore_n 3, 1) := by decide +kernel
theorem dX4_vend_17 : decode cX4_vend 17 = .ok (.iconst 0, 1) := by decide +kernel
theorem dX4_vend_18 : decode cX4_vend 18 = .ok (.istore 4, 2) := by decide +kernel
theorem dX4_vend_20 : decode cX4_vend 20 = .ok (.iload 4, 2) := by decide +kernel
theorem dX4_vend_22 : decode cX4_vend 22 = .ok (.aload_n 3, 1) := by decide +kernel
theorem dX4_vend_23 : decode cX4_vend 23 = .ok (.arraylength, 1) := by decide +kernel
theorem dX4_vend_24 : decode cX4_vend 24 = .ok (.if_icmp .ge 75, 3) := by decide +kernel
theorem dX4_vend_27 : decode cX4_vend 27 = .ok (.aload_n 3, 1) := by decide +kernel
theorem dX4_vend_28 : decode cX4_vend 28 = .ok (.iload 4, 2) := by decide +kernel
theorem dX4_vend_30 : decode cX4_vend 30 = .ok (.aaload, 1) := by decide +kernel
theorem dX4_vend_31 : decode cX4_vend 31 = .ok (.iconst 1, 1) := by decide +kernel
theorem dX4_vend_32 : decode cX4_vend 32 = .ok (.dup2, 1) := by decide +kernel
theorem dX4_vend_33 : decode cX4_vend 33 = .ok (.iaload, 1) := by decide +kernel
theorem dX4_vend_34 : decode cX4_vend 34 = .ok (.aload_n 2, 1) := by decide +kernel
theorem dX4_vend_35 : decode cX4_vend 35 = .ok (.iload 4, 2) := by decide +kernel
theorem dX4_vend_37 : decode cX4_vend 37 = .ok (.iaload, 1) := by decide +kernel
theorem dX4_vend_38 : decode cX4_vend 38 = .ok (.isub, 1) := by decide +kernel
theorem dX4_vend_39 : decode cX4_vend 39 = .ok (.iastore, 1) := by decide +kernel
theorem dX4_vend_40 : decode cX4_vend 40 = .ok (.aload_n 3, 1) := by decide +kernel
theorem dX4_vend_41 : decode cX4_vend 41 = .ok (.iload 4, 2) := by decide +kernel
theorem dX4_vend_43 : decode cX4_vend 43 = .ok (.aaload, 1) := by decide +kernel
theorem dX4_vend_44 : decode cX4_vend 44 = .ok (.iconst 2, 1) := by decide +kernel
theorem dX4_vend_45 : decode cX4_vend 45 = .ok (.dup2, 1) := by decide +kernel
theorem dX4_vend_46 : decode cX4_vend 46 = .ok (.iaload, 1) := by decide +kernel
theorem dX4_vend_47 : decode cX4_vend 47 = .ok (.aload_n 2, 1) := by decide +kernel
theorem dX4_vend_48 : decode cX4_vend 48 = .ok (.iload 4, 2) := by decide +kernel
theorem dX4_vend_50 : decode cX4_vend 50 = .ok (.iaload, 1) := by decide +kernel
theorem dX4_vend_51 : decode cX4_vend 51 = .ok (.iadd, 1) := by decide +kernel
theorem dX4_vend_52 : decode cX4_vend 52 = .ok (.iastore, 1) := by decide +kernel
theorem dX4_vend_53 : decode cX4_vend 53 = .ok (.aload_n 0, 1) := by decide +kernel
theorem dX4_vend_54 : decode cX4_vend 54 = .ok (.dup, 1) := by decide +kernel
theorem dX4_vend_55 : decode cX4_vend 55 = .ok (.getfield 27, 3) := by decide +kernel
theorem dX4_vend_58 : decode cX4_vend 58 = .ok (.aload_n 2, 1) := by decide +kernel
theorem dX4_vend_59 : decode cX4_vend 59 = .ok (.iload 4, 2) := by decide +kernel
theorem dX4_vend_61 : decode cX4_vend 61 = .ok (.iaload, 1) := by decide +kernel
theorem dX4_vend_62 : decode cX4_vend 62 = .ok (.aload_n 3, 1) := by decide +kernel
theorem dX4_vend_63 : decode cX4_vend 63 = .ok (.iload 4, 2) := by decide +kernel
theorem dX4_vend_65 : decode cX4_vend 65 = .ok (.aaload, 1) := by decide +kernel
theorem dX4_vend_66 : decode cX4_vend 66 = .ok (.iconst 0, 1) := by decide +kernel
theorem dX4_vend_67 : decode cX4_vend 67 = .ok (.iaload, 1) := by decide +kernel
theorem dX4_vend_68 : decode cX4_vend 68 = .ok (.imul, 1) := by decide +kernel
theorem dX4_vend_69 : decode cX4_vend 69 = .ok (.iadd, 1) := by decide +kernel
theorem dX4_vend_70 : decode cX4_vend 70 = .ok (.putfield 27, 3) := by decide +kernel
theorem dX4_vend_73 : decode cX4_vend 73 = .ok (.aload_n 0, 1) := by decide +kernel
theorem dX4_vend_74 : decode cX4_vend 74 = .ok (.dup, 1) := by decide +kernel
theorem dX4_vend_75 : decode cX4_vend 75 = .ok (.getfield 30, 3) := by decide +kernel
theorem dX4_vend_78 : decode cX4_vend 78 = .ok (.aload_n 2, 1) := by decide +kernel
theorem dX4_vend_79 : decode cX4_vend 79 = .ok (.iload 4, 2) := by decide +kernel
theorem dX4_vend_81 : decode cX4_vend 81 = .ok (.iaload, 1) := by decide +kernel
theorem dX4_vend_82 : decode cX4_vend 82 = .ok (.aload_n 3, 1) := by decide +kernel
theorem dX4_vend_83 : decode cX4_vend 83 = .ok (.iload 4, 2) := by decide +kernel
theorem dX4_vend_85 : decode cX4_vend 85 = .ok (.aaload, 1) := by decide +kernel
theorem dX4_vend_86 : decode cX4_vend 86 = .ok (.iconst 0, 1) := by decide +kernel
theorem dX4_vend_87 : decode cX4_vend 87 = .ok (.iaload, 1) := by decide +kernel
theorem dX4_vend_88 : decode cX4_vend 88 = .ok (.imul, 1) := by decide +kernel
theorem dX4_vend_89 : decode cX4_vend 89 = .ok (.iadd, 1) := by decide +kernel
theorem dX4_vend_90 : decode cX4_vend 90 = .ok (.putfield 30, 3) := by decide +kernel
theorem dX4_vend_93 : decode cX4_vend 93 = .ok (.iinc 4 1, 3) := by decide +kernel
theorem dX4_vend_96 : decode cX4_vend 96 = .ok (.goto (-76), 3) := by decide +kernel
theorem dX4_vend_99 : decode cX4_vend 99 = .ok (.aload_n 0, 1) := by decide +kernel
theorem dX4_vend_100 : decode cX4_vend 100 = .ok (.dup, 1) := by decide +kernel
theorem dX4_vend_101 : decode cX4_vend 101 = .ok (.getfield 30, 3) := by decide +kernel
theorem dX4_vend_104 : decode cX4_vend 104 = .ok (.iload_n 1, 1) := by decide +kernel
theorem dX4_vend_105 : decode cX4_vend 105 = .ok (.isub, 1) := by decide +kernel
theorem dX4_vend_106 : decode cX4_vend 106 = .ok (.putfield 30, 3) := by decide +kernel
theorem dX4_vend_109 : decode cX4_vend 109 = .ok (.aload_n 0, 1) := by decide +kernel
theorem dX4_vend_110 : decode cX4_vend 110 = .ok (.dup, 1) := by decide +kernel
theorem dX4_vend_111 : decode cX4_vend 111 = .ok (.getfield 24, 3) := by decide +kernel
theorem dX4_vend_114 : decode cX4_vend 114 = .ok (.iconst 1, 1) := by decide +kernel
theorem dX4_vend_115 : decode cX4_vend 115 = .ok (.iadd, 1) := by decide +kernel
theorem dX4_vend_116 : decode cX4_vend 116 = .ok (.putfield 24, 3) := by decide +kernel
theorem dX4_vend_119 : decode cX4_vend 119 = .ok (.iconst 1, 1) := by decide +kernel
theorem dX4_vend_120 : decode cX4_vend 120 = .ok (.ireturn, 1) := by decide +kernel
theorem dX4_few_0 : decode cX4_few 0 = .ok (.sipush 301, 3) := by decide +kernel
theorem dX4_few_3 : decode cX4_few 3 = .ok (.newarray .int, 2) := by decide +kernel
theorem dX4_few_5 : decode cX4_few 5 = .ok (.astore_n 1, 1) := by decide +kernel
theorem dX4_few_6 : decode cX4_few 6 = .ok (.iconst 1, 1) := by decide +kernel
theorem dX4_few_7 : decode cX4_few 7 = .ok (.istore_n 2, 1) := by decide +kernel
theorem dX4_few_8 : decode cX4_few 8 = .ok (.iload_n 2, 1) := by decide +kernel
theorem dX4_few_9 : decode cX4_few 9 = .ok (.sipush 301, 3) := by decide +kernel
theorem dX4_few_12 : decode cX4_few 12 = .ok (.if_icmp .ge 14, 3) := by decide +kernel
theorem dX4_few_15 : decode cX4_few 15 = .ok (.aload_n 1, 1) := by decide +kernel
theorem dX4_few_16 : decode cX4_few 16 = .ok (.iload_n 2, 1) := by decide +kernel
theorem dX4_few_17 : decode cX4_few 17 = .ok (.bipush 99, 2) := by decide +kernel
theorem dX4_few_19 : decode cX4_few 19 = .ok (.iastore, 1) := by decide +kernel
theorem dX4_few_20 : decode cX4_few 20 = .ok (.iinc 2 1, 3) := by decide +kernel
theorem dX4_few_23 : decode cX4_few 23 = .ok (.goto (-15), 3) := by decide +kernel
theorem dX4_few_26 : decode cX4_few 26 = .ok (.aload_n 0, 1) := by decide +kernel
theorem dX4_few_27 : decode cX4_few 27 = .ok (.getfield 15, 3) := by decide +kernel
theorem dX4_few_30 : decode cX4_few 30 = .ok (.astore_n 2, 1) := by decide +kernel
theorem dX4_few_31 : decode cX4_few 31 = .ok (.aload_n 2, 1) := by decide +kernel
theorem dX4_few_32 : decode cX4_few 32 = .ok (.arraylength, 1) := by decide +kernel
theorem dX4_few_33 : decode cX4_few 33 = .ok (.istore_n 3, 1) := by decide +kernel
theorem dX4_few_34 : decode cX4_few 34 = .ok (.iconst 0, 1) := by decide +kernel
theorem dX4_few_35 : decode cX4_few 35 = .ok (.istore 4, 2) := by decide +kernel
theorem dX4_few_37 : decode cX4_few 37 = .ok (.iload 4, 2) := by decide +kernel
theorem dX4_few_39 : decode cX4_few 39 = .ok (.iload_n 3, 1) := by decide +kernel
theorem dX4_few_40 : decode cX4_few 40 = .ok (.if_icmp .ge 107, 3) := by decide +kernel
theorem dX4_few_43 : decode cX4_few 43 = .ok (.aload_n 2, 1) := by decide +kernel
theorem dX4_few_44 : decode cX4_few 44 = .ok (.iload 4, 2) := by decide +kernel
theorem dX4_few_46 : decode cX4_few 46 = .ok (.aaload, 1) := by decide +kernel
theorem dX4_few_47 : decode cX4_few 47 = .ok (.astore 5, 2) := by decide +kernel
theorem dX4_few_49 : decode cX4_few 49 = .ok (.iconst 0, 1) := by decide +kernel
theorem dX4_few_50 : decode cX4_few 50 = .ok (.istore 6, 2) := by decide +kernel
theorem dX4_few_52 : decode cX4_few 52 = .ok (.iload 6, 2) := by decide +kernel
theorem dX4_few_54 : decode cX4_few 54 = .ok (.aload 5, 2) := by decide +kernel
theorem dX4_few_56 : decode cX4_few 56 = .ok (.iconst 1, 1) := by decide +kernel
theorem dX4_few_57 : decode cX4_few 57 = .ok (.iaload, 1) := by decide +kernel
theorem dX4_few_58 : decode cX4_few 58 = .ok (.if_icmp .ge 83, 3) := by decide +kernel
theorem dX4_few_61 : decode cX4_few 61 = .ok (.iload 6, 2) := by decide +kernel
theorem dX4_few_63 : decode cX4_few 63 = .ok (.aload_n 0, 1) := by decide +kernel
theorem dX4_few_64 : decode cX4_few 64 = .ok (.getfield 7, 3) := by decide +kernel
theorem dX4_few_67 : decode cX4_few 67 = .ok (.if_icmp .ge 74, 3) := by decide +kernel
theorem dX4_few_70 : decode cX4_few 70 = .ok (.sipush 300, 3) := by decide +kernel
theorem dX4_few_73 : decode cX4_few 73 = .ok (.istore 7, 2) := by decide +kernel
theorem dX4_few_75 : decode cX4_few 75 = .ok (.iload 7, 2) := by decide +kernel
theorem dX4_few_77 : decode cX4_few 77 = .ok (.aload 5, 2) := by decide +kernel
theorem dX4_few_79 : decode cX4_few 79 = .ok (.iconst 0, 1) := by decide +kernel
theorem dX4_few_80 : decode cX4_few 80 = .ok (.iaload, 1) := by decide +kernel
theorem dX4_few_81 : decode cX4_few 81 = .ok (.if_icmp .lt 54, 3) := by decide +kernel
theorem dX4_few_84 : decode cX4_few 84 = .ok (.aload_n 1, 1) := by decide +kernel
theorem dX4_few_85 : decode cX4_few 85 = .ok (.iload 7, 2) := by decide +kernel
theorem dX4_few_87 : decode cX4_few 87 = .ok (.aload_n 1, 1) := by decide +kernel
theorem dX4_few_88 : decode cX4_few 88 = .ok (.iload 7, 2) := by decide +kernel
theorem dX4_few_90 : decode cX4_few 90 = .ok (.aload 5, 2) := by decide +kernel
theorem dX4_few_92 : decode cX4_few 92 = .ok (.iconst 0, 1) := by decide +kernel
theorem dX4_few_93 : decode cX4_few 93 = .ok (.iaload, 1) := by decide +kernel
theorem dX4_few_94 : decode cX4_few 94 = .ok (.isub, 1) := by decide +kernel
theorem dX4_few_95 : decode cX4_few 95 = .ok (.iaload, 1) := by decide +kernel
theorem dX4_few_96 : decode cX4_few 96 = .ok (.aload_n 1, 1) := by decide +kernel
theorem dX4_few_97 : decode cX4_few 97 = .ok (.iload 7, 2) := by decide +kernel
theorem dX4_few_99 : decode cX4_few 99 = .ok (.iaload, 1) := by decide +kernel
theorem dX4_few_100 : decode cX4_few 100 = .ok (.if_icmp .ge 24, 3) := by decide +kernel
theorem dX4_few_103 : decode cX4_few 103 = .ok (.aload_n 1, 1) := by decide +kernel
theorem dX4_few_104 : decode cX4_few 104 = .ok (.iload 7, 2) := by decide +kernel
theorem dX4_few_106 : decode cX4_few 106 = .ok (.iaload, 1) := by decide +kernel
theorem dX4_few_107 : decode cX4_few 107 = .ok (.aload_n 1, 1) := by decide +kernel
theorem dX4_few_108 : decode cX4_few 108 = .ok (.iload 7, 2) := by decide +kernel
theorem dX4_few_110 : decode cX4_few 110 = .ok (.aload 5, 2) := by decide +kernel
theorem dX4_few_112 : decode cX4_few 112 = .ok (.iconst 0, 1) := by decide +kernel
theorem dX4_few_113 : decode cX4_few 113 = .ok (.iaload, 1) := by decide +kernel
theorem dX4_few_114 : decode cX4_few 114 = .ok (.isub, 1) := by decide +kernel
theorem dX4_few_115 : decode cX4_few 115 = .ok (.iaload, 1) := by decide +kernel
theorem dX4_few_116 : decode cX4_few 116 = .ok (.iconst 1, 1) := by decide +kernel
theorem dX4_few_117 : decode cX4_few 117 = .ok (.iadd, 1) := by decide +kernel
theorem dX4_few_118 : decode cX4_few 118 = .ok (.invokestatic 63, 3) := by decide +kernel
theorem dX4_few_121 : decode cX4_few 121 = .ok (.goto 7, 3) := by decide +kernel
theorem dX4_few_124 : decode cX4_few 124 = .ok (.aload_n 1, 1) := by decide +kernel
theorem dX4_few_125 : decode cX4_few 125 = .ok (.iload 7, 2) := by decide +kernel
theorem dX4_few_127 : decode cX4_few 127 = .ok (.iaload, 1) := by decide +kernel
theorem dX4_few_128 : decode cX4_few 128 = .ok (.iastore, 1) := by decide +kernel
theorem dX4_few_129 : decode cX4_few 129 = .ok (.iinc 7 (-1), 3) := by decide +kernel
theorem dX4_few_132 : decode cX4_few 132 = .ok (.goto (-57), 3) := by decide +kernel
theorem dX4_few_135 : decode cX4_few 135 = .ok (.iinc 6 1, 3) := by decide +kernel
theorem dX4_few_138 : decode cX4_few 138 = .ok (.goto (-86), 3) := by decide +kernel
theorem dX4_few_141 : decode cX4_few 141 = .ok (.iinc 4 1, 3) := by decide +kernel
theorem dX4_few_144 : decode cX4_few 144 = .ok (.goto (-107), 3) := by decide +kernel
theorem dX4_few_147 : decode cX4_few 147 = .ok (.aload_n 1, 1) := by decide +kernel
theorem dX4_few_148 : decode cX4_few 148 = .ok (.areturn, 1) := by decide +kernel
theorem dX4_reachNow_0 : decode cX4_reachNow 0 = .ok (.aload_n 0, 1) := by decide +kernel
theorem dX4_reachNow_1 : decode cX4_reachNow 1 = .ok (.invokevirtual 69, 3) := by decide +kernel
theorem dX4_reachNow_4 : decode cX4_reachNow 4 = .ok (.astore_n 1, 1) := by decide +kernel
theorem dX4_reachNow_5 : decode cX4_reachNow 5 = .ok (.iconst 1, 1) := by decide +kernel
theorem dX4_reachNow_6 : decode cX4_reachNow 6 = .ok (.istore_n 2, 1) := by decide +kernel
theorem dX4_reachNow_7 : decode cX4_reachNow 7 = .ok (.iload_n 2, 1) := by decide +kernel
theorem dX4_reachNow_8 : decode cX4_reachNow 8 = .ok (.sipush 301, 3) := by decide +kernel
theorem dX4_reachNow_11 : decode cX4_reachNow 11 = .ok (.if_icmp .ge 19, 3) := by decide +kernel
theorem dX4_reachNow_14 : decode cX4_reachNow 14 = .ok (.aload_n 1, 1) := by decide +kernel
theorem dX4_reachNow_15 : decode cX4_reachNow 15 = .ok (.iload_n 2, 1) := by decide +kernel
theorem dX4_reachNow_16 : decode cX4_reachNow 16 = .ok (.iaload, 1) := by decide +kernel
theorem dX4_reachNow_17 : decode cX4_reachNow 17 = .ok (.aload_n 0, 1) := by decide +kernel
theorem dX4_reachNow_18 : decode cX4_reachNow 18 = .ok (.getfield 7, 3) := by decide +kernel
theorem dX4_reachNow_21 : decode cX4_reachNow 21 = .ok (.if_icmp .gt 9, 3) := by decide +kernel
theorem dX4_reachNow_24 : decode cX4_reachNow 24 = .ok (.iinc 2 1, 3) := by decide +kernel
theorem dX4_reachNow_27 : decode cX4_reachNow 27 = .ok (.goto (-20), 3) := by decide +kernel
theorem dX4_reachNow_30 : decode cX4_reachNow 30 = .ok (.iload_n 2, 1) := by decide +kernel
theorem dX4_reachNow_31 : decode cX4_reachNow 31 = .ok (.iconst 1, 1) := by decide +kernel
theorem dX4_reachNow_32 : decode cX4_reachNow 32 = .ok (.isub, 1) := by decide +kernel
theorem dX4_reachNow_33 : decode cX4_reachNow 33 = .ok (.ireturn, 1) := by decide +kernel
theorem dX4_print_0 : decode cX4_print 0 = .ok (.sipush 301, 3) := by decide +kernel
theorem dX4_print_3 : decode cX4_print 3 = .ok (.newarray .int, 2) := by decide +kernel
theorem dX4_print_5 : decode cX4_print 5 = .ok (.astore_n 3, 1) := by decide +kernel
theorem dX4_print_6 : decode cX4_print 6 = .ok (.iconst 1, 1) := by decide +kernel
theorem dX4_print_7 : decode cX4_print 7 = .ok (.istore 4, 2) := by decide +kernel
theorem dX4_print_9 : decode cX4_print 9 = .ok (.iload 4, 2) := by decide +kernel
theorem dX4_print_11 : decode cX4_print 11 = .ok (.sipush 301, 3) := by decide +kernel
theorem dX4_print_14 : decode cX4_print 14 = .ok (.if_icmp .ge 14, 3) := by decide +kernel
theorem dX4_print_17 : decode cX4_print 17 = .ok (.aload_n 3, 1) := by decide +kernel
theorem dX4_print_18 : decode cX4_print 18 = .ok (.iload 4, 2) := by decide +kernel
theorem dX4_print_20 : decode cX4_print 20 = .ok (.iconst (-1), 1) := by decide +kernel
theorem dX4_print_21 : decode cX4_print 21 = .ok (.iastore, 1) := by decide +kernel
theorem dX4_print_22 : decode cX4_print 22 = .ok (.iinc 4 1, 3) := by decide +kernel
theorem dX4_print_25 : decode cX4_print 25 = .ok (.goto (-16), 3) := by decide +kernel
theorem dX4_print_28 : decode cX4_print 28 = .ok (.iconst 1, 1) := by decide +kernel
theorem dX4_print_29 : decode cX4_print 29 = .ok (.istore 4, 2) := by decide +kernel
theorem dX4_print_31 : decode cX4_print 31 = .ok (.iload 4, 2) := by decide +kernel
theorem dX4_print_33 : decode cX4_print 33 = .ok (.iload_n 1, 1) := by decide +kernel
theorem dX4_print_34 : decode cX4_print 34 = .ok (.if_icmp .gt 111, 3) := by decide +kernel
theorem dX4_print_37 : decode cX4_print 37 = .ok (.sipush 300, 3) := by decide +kernel
theorem dX4_print_40 : decode cX4_print 40 = .ok (.istore 5, 2) := by decide +kernel
theorem dX4_print_42 : decode cX4_print 42 = .ok (.iload 5, 2) := by decide +kernel
theorem dX4_print_44 : decode cX4_print 44 = .ok (.ifCond .le 95, 3) := by decide +kernel
theorem dX4_print_47 : decode cX4_print 47 = .ok (.aload_n 3, 1) := by decide +kernel
theorem dX4_print_48 : decode cX4_print 48 = .ok (.iload 5, 2) := by decide +kernel
theorem dX4_print_50 : decode cX4_print 50 = .ok (.iaload, 1) := by decide +kernel
theorem dX4_print_51 : decode cX4_print 51 = .ok (.ifCond .lt 6, 3) := by decide +kernel
theorem dX4_print_54 : decode cX4_print 54 = .ok (.goto 79, 3) := by decide +kernel
theorem dX4_print_57 : decode cX4_print 57 = .ok (.iconst 0, 1) := by decide +kernel
theorem dX4_print_58 : decode cX4_print 58 = .ok (.istore 6, 2) := by decide +kernel
theorem dX4_print_60 : decode cX4_print 60 = .ok (.iload 6, 2) := by decide +kernel
theorem dX4_print_62 : decode cX4_print 62 = .ok (.aload_n 0, 1) := by decide +kernel
theorem dX4_print_63 : decode cX4_print 63 = .ok (.getfield 15, 3) := by decide +kernel
theorem dX4_print_66 : decode cX4_print 66 = .ok (.arraylength, 1) := by decide +kernel
theorem dX4_print_67 : decode cX4_print 67 = .ok (.if_icmp .gt 66, 3) := by decide +kernel
theorem dX4_print_70 : decode cX4_print 70 = .ok (.iload 6, 2) := by decide +kernel
theorem dX4_print_72 : decode cX4_print 72 = .ok (.aload_n 0, 1) := by decide +kernel
theorem dX4_print_73 : decode cX4_print 73 = .ok (.getfield 15, 3) := by decide +kernel
theorem dX4_print_76 : decode cX4_print 76 = .ok (.arraylength, 1) := by decide +kernel
theorem dX4_print_77 : decode cX4_print 77 = .ok (.if_icmp .ge 15, 3) := by decide +kernel
theorem dX4_print_80 : decode cX4_print 80 = .ok (.aload_n 0, 1) := by decide +kernel
theorem dX4_print_81 : decode cX4_print 81 = .ok (.getfield 15, 3) := by decide +kernel
theorem dX4_print_84 : decode cX4_print 84 = .ok (.iload 6, 2) := by decide +kernel
theorem dX4_print_86 : decode cX4_print 86 = .ok (.aaload, 1) := by decide +kernel
theorem dX4_print_87 : decode cX4_print 87 = .ok (.iconst 0, 1) := by decide +kernel
theorem dX4_print_88 : decode cX4_print 88 = .ok (.iaload, 1) := by decide +kernel
theorem dX4_print_89 : decode cX4_print 89 = .ok (.goto 4, 3) := by decide +kernel
theorem dX4_print_92 : decode cX4_print 92 = .ok (.iload_n 2, 1) := by decide +kernel
theorem dX4_print_93 : decode cX4_print 93 = .ok (.istore 7, 2) := by decide +kernel
theorem dX4_print_95 : decode cX4_print 95 = .ok (.iload 7, 2) := by decide +kernel
theorem dX4_print_97 : decode cX4_print 97 = .ok (.ifCond .le 30, 3) := by decide +kernel
theorem dX4_print_100 : decode cX4_print 100 = .ok (.iload 7, 2) := by decide +kernel
theorem dX4_print_102 : decode cX4_print 102 = .ok (.iload 5, 2) := by decide +kernel
theorem dX4_print_104 : decode cX4_print 104 = .ok (.if_icmp .gt 23, 3) := by decide +kernel
theorem dX4_print_107 : decode cX4_print 107 = .ok (.aload_n 3, 1) := by decide +kernel
theorem dX4_print_108 : decode cX4_print 108 = .ok (.iload 5, 2) := by decide +kernel
theorem dX4_print_110 : decode cX4_print 110 = .ok (.iload 7, 2) := by decide +kernel
theorem dX4_print_112 : decode cX4_print 112 = .ok (.isub, 1) := by decide +kernel
theorem dX4_print_113 : decode cX4_print 113 = .ok (.iaload, 1) := by decide +kernel
theorem dX4_print_114 : decode cX4_print 114 = .ok (.iload 4, 2) := by decide +kernel
theorem dX4_print_116 : decode cX4_print 116 = .ok (.iconst 1, 1) := by decide +kernel
theorem dX4_print_117 : decode cX4_print 117 = .ok (.isub, 1) := by decide +kernel
theorem dX4_print_118 : decode cX4_print 118 = .ok (.if_icmp .ne 9, 3) := by decide +kernel
theorem dX4_print_121 : decode cX4_print 121 = .ok (.aload_n 3, 1) := by decide +kernel
theorem dX4_print_122 : decode cX4_print 122 = .ok (.iload 5, 2) := by decide +kernel
theorem dX4_print_124 : decode cX4_print 124 = .ok (.iload 4, 2) := by decide +kernel
theorem dX4_print_126 : decode cX4_print 126 = .ok (.iastore, 1) := by decide +kernel
theorem dX4_print_127 : decode cX4_print 127 = .ok (.iinc 6 1, 3) := by decide +kernel
theorem dX4_print_130 : decode cX4_print 130 = .ok (.goto (-70), 3) := by decide +kernel
theorem dX4_print_133 : decode cX4_print 133 = .ok (.iinc 5 (-1), 3) := by decide +kernel
theorem dX4_print_136 : decode cX4_print 136 = .ok (.goto (-94), 3) := by decide +kernel
theorem dX4_print_139 : decode cX4_print 139 = .ok (.iinc 4 1, 3) := by decide +kernel
theorem dX4_print_142 : decode cX4_print 142 = .ok (.goto (-111), 3) := by decide +kernel
theorem dX4_print_145 : decode cX4_print 145 = .ok (.aload_n 3, 1) := by decide +kernel
theorem dX4_print_146 : decode cX4_print 146 = .ok (.areturn, 1) := by decide +kernel
theorem dX4_reach_0 : decode cX4_reach 0 = .ok (.iconst 1, 1) := by decide +kernel
theorem dX4_reach_1 : decode cX4_reach 1 = .ok (.istore_n 1, 1) := by decide +kernel
theorem dX4_reach_2 : decode cX4_reach 2 = .ok (.iload_n 1, 1) := by decide +kernel
theorem dX4_reach_3 : decode cX4_reach 3 = .ok (.sipush 301, 3) := by decide +kernel
theorem dX4_reach_6 : decode cX4_reach 6 = .ok (.if_icmp .ge 15, 3) := by decide +kernel
theorem dX4_reach_9 : decode cX4_reach 9 = .ok (.aload_n 0, 1) := by decide +kernel
theorem dX4_reach_10 : decode cX4_reach 10 = .ok (.iload_n 1, 1) := by decide +kernel
theorem dX4_reach_11 : decode cX4_reach 11 = .ok (.iaload, 1) := by decide +kernel
theorem dX4_reach_12 : decode cX4_reach 12 = .ok (.ifCond .le 9, 3) := by decide +kernel
theorem dX4_reach_15 : decode cX4_reach 15 = .ok (.iinc 1 1, 3) := by decide +kernel
theorem dX4_reach_18 : decode cX4_reach 18 = .ok (.goto (-16), 3) := by decide +kernel
theorem dX4_reach_21 : decode cX4_reach 21 = .ok (.iload_n 1, 1) := by decide +kernel
theorem dX4_reach_22 : decode cX4_reach 22 = .ok (.iconst 1, 1) := by decide +kernel
theorem dX4_reach_23 : decode cX4_reach 23 = .ok (.isub, 1) := by decide +kernel
theorem dX4_reach_24 : decode cX4_reach 24 = .ok (.ireturn, 1) := by decide +kernel
theorem dX4_isSame_0 : decode cX4_isSame 0 = .ok (.aload_n 0, 1) := by decide +kernel
theorem dX4_isSame_1 : decode cX4_isSame 1 = .ok (.getfield 15, 3) := by decide +kernel
theorem dX4_isSame_4 : decode cX4_isSame 4 = .ok (.arraylength, 1) := by decide +kernel
theorem dX4_isSame_5 : decode cX4_isSame 5 = .ok (.istore_n 3, 1) := by decide +kernel
theorem dX4_isSame_6 : decode cX4_isSame 6 = .ok (.iconst (-1), 1) := by decide +kernel
theorem dX4_isSame_7 : decode cX4_isSame 7 = .ok (.istore 4, 2) := by decide +kernel
theorem dX4_isSame_9 : decode cX4_isSame 9 = .ok (.iconst 0, 1) := by decide +kernel
theorem dX4_isSame_10 : decode cX4_isSame 10 = .ok (.istore 5, 2) := by decide +kernel
theorem dX4_isSame_12 : decode cX4_isSame 12 = .ok (.iload_n 3, 1) := by decide +kernel
theorem dX4_isSame_13 : decode cX4_isSame 13 = .ok (.iconst 1, 1) := by decide +kernel
theorem dX4_isSame_14 : decode cX4_isSame 14 = .ok (.isub, 1) := by decide +kernel
theorem dX4_isSame_15 : decode cX4_isSame 15 = .ok (.istore 6, 2) := by decide +kernel
theorem dX4_isSame_17 : decode cX4_isSame 17 = .ok (.iload 6, 2) := by decide +kernel
theorem dX4_isSame_19 : decode cX4_isSame 19 = .ok (.ifCond .lt 93, 3) := by decide +kernel
theorem dX4_isSame_22 : decode cX4_isSame 22 = .ok (.aload_n 0, 1) := by decide +kernel
theorem dX4_isSame_23 : decode cX4_isSame 23 = .ok (.getfield 15, 3) := by decide +kernel
theorem dX4_isSame_26 : decode cX4_isSame 26 = .ok (.iload 6, 2) := by decide +kernel
theorem dX4_isSame_28 : decode cX4_isSame 28 = .ok (.aaload, 1) := by decide +kernel
theorem dX4_isSame_29 : decode cX4_isSame 29 = .ok (.astore 7, 2) := by decide +kernel
theorem dX4_isSame_31 : decode cX4_isSame 31 = .ok (.iload 5, 2) := by decide +kernel
theorem dX4_isSame_33 : decode cX4_isSame 33 = .ok (.aload 7, 2) := by decide +kernel
theorem dX4_isSame_35 : decode cX4_isSame 35 = .ok (.iconst 0, 1) := by decide +kernel
theorem dX4_isSame_36 : decode cX4_isSame 36 = .ok (.iaload, 1) := by decide +kernel
theorem dX4_isSame_37 : decode cX4_isSame 37 = .ok (.iadd, 1) := by decide +kernel
theorem dX4_isSame_38 : decode cX4_isSame 38 = .ok (.istore 5, 2) := by decide +kernel
theorem dX4_isSame_40 : decode cX4_isSame 40 = .ok (.iload 4, 2) := by decide +kernel
theorem dX4_isSame_42 : decode cX4_isSame 42 = .ok (.ifCond .lt 19, 3) := by decide +kernel
theorem dX4_isSame_45 : decode cX4_isSame 45 = .ok (.aload 7, 2) := by decide +kernel
theorem dX4_isSame_47 : decode cX4_isSame 47 = .ok (.iconst 1, 1) := by decide +kernel
theorem dX4_isSame_48 : decode cX4_isSame 48 = .ok (.iaload, 1) := by decide +kernel
theorem dX4_isSame_49 : decode cX4_isSame 49 = .ok (.aload_n 0, 1) := by decide +kernel
theorem dX4_isSame_50 : decode cX4_isSame 50 = .ok (.getfield 15, 3) := by decide +kernel
theorem dX4_isSame_53 : decode cX4_isSame 53 = .ok (.iload 4, 2) := by decide +kernel
theorem dX4_isSame_55 : decode cX4_isSame 55 = .ok (.aaload, 1) := by decide +kernel
theorem dX4_isSame_56 : decode cX4_isSame 56 = .ok (.iconst 1, 1) := by decide +kernel
theorem dX4_isSame_57 : decode cX4_isSame 57 = .ok (.iaload, 1) := by decide +kernel
theorem dX4_isSame_58 : decode cX4_isSame 58 = .ok (.if_icmp .gt 7, 3) := by decide +kernel
theorem dX4_isSame_61 : decode cX4_isSame 61 = .ok (.iload 6, 2) := by decide +kernel
theorem dX4_isSame_63 : decode cX4_isSame 63 = .ok (.istore 4, 2) := by decide +kernel
theorem dX4_isSame_65 : decode cX4_isSame 65 = .ok (.aload_n 1, 1) := by decide +kernel
theorem dX4_isSame_66 : decode cX4_isSame 66 = .ok (.iload 6, 2) := by decide +kernel
theorem dX4_isSame_68 : decode cX4_isSame 68 = .ok (.invokevirtual 77, 3) := by decide +kernel
theorem dX4_isSame_71 : decode cX4_isSame 71 = .ok (.aload 7, 2) := by decide +kernel
theorem dX4_isSame_73 : decode cX4_isSame 73 = .ok (.iconst 0, 1) := by decide +kernel
theorem dX4_isSame_74 : decode cX4_isSame 74 = .ok (.iaload, 1) := by decide +kernel
theorem dX4_isSame_75 : decode cX4_isSame 75 = .ok (.if_icmp .ne 29, 3) := by decide +kernel
theorem dX4_isSame_78 : decode cX4_isSame 78 = .ok (.aload_n 1, 1) := by decide +kernel
theorem dX4_isSame_79 : decode cX4_isSame 79 = .ok (.iload 6, 2) := by decide +kernel
theorem dX4_isSame_81 : decode cX4_isSame 81 = .ok (.invokevirtual 83, 3) := by decide +kernel
theorem dX4_isSame_84 : decode cX4_isSame 84 = .ok (.aload 7, 2) := by decide +kernel
theorem dX4_isSame_86 : decode cX4_isSame 86 = .ok (.iconst 1, 1) := by decide +kernel
theorem dX4_isSame_87 : decode cX4_isSame 87 = .ok (.iaload, 1) := by decide +kernel
theorem dX4_isSame_88 : decode cX4_isSame 88 = .ok (.if_icmp .ne 16, 3) := by decide +kernel
theorem dX4_isSame_91 : decode cX4_isSame 91 = .ok (.aload_n 1, 1) := by decide +kernel
theorem dX4_isSame_92 : decode cX4_isSame 92 = .ok (.iload 6, 2) := by decide +kernel
theorem dX4_isSame_94 : decode cX4_isSame 94 = .ok (.invokevirtual 86, 3) := by decide +kernel
theorem dX4_isSame_97 : decode cX4_isSame 97 = .ok (.aload 7, 2) := by decide +kernel
theorem dX4_isSame_99 : decode cX4_isSame 99 = .ok (.iconst 2, 1) := by decide +kernel
theorem dX4_isSame_100 : decode cX4_isSame 100 = .ok (.iaload, 1) := by decide +kernel
theorem dX4_isSame_101 : decode cX4_isSame 101 = .ok (.if_icmp .eq 5, 3) := by decide +kernel
theorem dX4_isSame_104 : decode cX4_isSame 104 = .ok (.iconst 0, 1) := by decide +kernel
theorem dX4_isSame_105 : decode cX4_isSame 105 = .ok (.ireturn, 1) := by decide +kernel
theorem dX4_isSame_106 : decode cX4_isSame 106 = .ok (.iinc 6 (-1), 3) := by decide +kernel
theorem dX4_isSame_109 : decode cX4_isSame 109 = .ok (.goto (-92), 3) := by decide +kernel
theorem dX4_isSame_112 : decode cX4_isSame 112 = .ok (.aload_n 0, 1) := by decide +kernel
theorem dX4_isSame_113 : decode cX4_isSame 113 = .ok (.invokevirtual 55, 3) := by decide +kernel
theorem dX4_isSame_116 : decode cX4_isSame 116 = .ok (.astore 6, 2) := by decide +kernel
theorem dX4_isSame_118 : decode cX4_isSame 118 = .ok (.aload_n 0, 1) := by decide +kernel
theorem dX4_isSame_119 : decode cX4_isSame 119 = .ok (.getfield 7, 3) := by decide +kernel
theorem dX4_isSame_122 : decode cX4_isSame 122 = .ok (.istore 7, 2) := by decide +kernel
theorem dX4_isSame_124 : decode cX4_isSame 124 = .ok (.iconst 0, 1) := by decide +kernel
theorem dX4_isSame_125 : decode cX4_isSame 125 = .ok (.istore 8, 2) := by decide +kernel
theorem dX4_isSame_127 : decode cX4_isSame 127 = .ok (.aload 6, 2) := by decide +kernel
theorem dX4_isSame_129 : decode cX4_isSame 129 = .ok (.astore 9, 2) := by decide +kernel
theorem dX4_isSame_131 : decode cX4_isSame 131 = .ok (.aload 9, 2) := by decide +kernel
theorem dX4_isSame_133 : decode cX4_isSame 133 = .ok (.arraylength, 1) := by decide +kernel
theorem dX4_isSame_134 : decode cX4_isSame 134 = .ok (.istore 10, 2) := by decide +kernel
theorem dX4_isSame_136 : decode cX4_isSame 136 = .ok (.iconst 0, 1) := by decide +kernel
theorem dX4_isSame_137 : decode cX4_isSame 137 = .ok (.istore 11, 2) := by decide +kernel
theorem dX4_isSame_139 : decode cX4_isSame 139 = .ok (.iload 11, 2) := by decide +kernel
theorem dX4_isSame_141 : decode cX4_isSame 141 = .ok (.iload 10, 2) := by decide +kernel
theorem dX4_isSame_143 : decode cX4_isSame 143 = .ok (.if_icmp .ge 55, 3) := by decide +kernel
theorem dX4_isSame_146 : decode cX4_isSame 146 = .ok (.aload 9, 2) := by decide +kernel
theorem dX4_isSame_148 : decode cX4_isSame 148 = .ok (.iload 11, 2) := by decide +kernel
theorem dX4_isSame_150 : decode cX4_isSame 150 = .ok (.aaload, 1) := by decide +kernel
theorem dX4_isSame_151 : decode cX4_isSame 151 = .ok (.astore 12, 2) := by decide +kernel
theorem dX4_isSame_153 : decode cX4_isSame 153 = .ok (.iload 7, 2) := by decide +kernel
theorem dX4_isSame_155 : decode cX4_isSame 155 = .ok (.aload 12, 2) := by decide +kernel
theorem dX4_isSame_157 : decode cX4_isSame 157 = .ok (.iconst 1, 1) := by decide +kernel
theorem dX4_isSame_158 : decode cX4_isSame 158 = .ok (.iaload, 1) := by decide +kernel
theorem dX4_isSame_159 : decode cX4_isSame 159 = .ok (.if_icmp .ge 8, 3) := by decide +kernel
theorem dX4_isSame_162 : decode cX4_isSame 162 = .ok (.iload 7, 2) := by decide +kernel
theorem dX4_isSame_164 : decode cX4_isSame 164 = .ok (.goto 7, 3) := by decide +kernel
theorem dX4_isSame_167 : decode cX4_isSame 167 = .ok (.aload 12, 2) := by decide +kernel
theorem dX4_isSame_169 : decode cX4_isSame 169 = .ok (.iconst 1, 1) := by decide +kernel
theorem dX4_isSame_170 : decode cX4_isSame 170 = .ok (.iaload, 1) := by decide +kernel
theorem dX4_isSame_171 : decode cX4_isSame 171 = .ok (.istore 13, 2) := by decide +kernel
theorem dX4_isSame_173 : decode cX4_isSame 173 = .ok (.iload 8, 2) := by decide +kernel
theorem dX4_isSame_175 : decode cX4_isSame 175 = .ok (.iload 13, 2) := by decide +kernel
theorem dX4_isSame_177 : decode cX4_isSame 177 = .ok (.aload 12, 2) := by decide +kernel
theorem dX4_isSame_179 : decode cX4_isSame 179 = .ok (.iconst 0, 1) := by decide +kernel
theorem dX4_isSame_180 : decode cX4_isSame 180 = .ok (.iaload, 1) := by decide +kernel
theorem dX4_isSame_181 : decode cX4_isSame 181 = .ok (.imul, 1) := by decide +kernel
theorem dX4_isSame_182 : decode cX4_isSame 182 = .ok (.iadd, 1) := by decide +kernel
theorem dX4_isSame_183 : decode cX4_isSame 183 = .ok (.istore 8, 2) := by decide +kernel
theorem dX4_isSame_185 : decode cX4_isSame 185 = .ok (.iload 7, 2) := by decide +kernel
theorem dX4_isSame_187 : decode cX4_isSame 187 = .ok (.iload 13, 2) := by decide +kernel
theorem dX4_isSame_189 : decode cX4_isSame 189 = .ok (.isub, 1) := by decide +kernel
theorem dX4_isSame_190 : decode cX4_isSame 190 = .ok (.istore 7, 2) := by decide +kernel
theorem dX4_isSame_192 : decode cX4_isSame 192 = .ok (.iinc 11 1, 3) := by decide +kernel
theorem dX4_isSame_195 : decode cX4_isSame 195 = .ok (.goto (-56), 3) := by decide +kernel
theorem dX4_isSame_198 : decode cX4_isSame 198 = .ok (.aload_n 0, 1) := by decide +kernel
theorem dX4_isSame_199 : decode cX4_isSame 199 = .ok (.iload_n 2, 1) := by decide +kernel
theorem dX4_isSame_200 : decode cX4_isSame 200 = .ok (.invokevirtual 59, 3) := by decide +kernel
theorem dX4_isSame_203 : decode cX4_isSame 203 = .ok (.astore 9, 2) := by decide +kernel
theorem dX4_isSame_205 : decode cX4_isSame 205 = .ok (.aload_n 1, 1) := by decide +kernel
theorem dX4_isSame_206 : decode cX4_isSame 206 = .ok (.iload_n 2, 1) := by decide +kernel
theorem dX4_isSame_207 : decode cX4_isSame 207 = .ok (.invokevirtual 89, 3) := by decide +kernel
theorem dX4_isSame_210 : decode cX4_isSame 210 = .ok (.aload 9, 2) := by decide +kernel
theorem dX4_isSame_212 : decode cX4_isSame 212 = .ok (.ifnonnull 7, 3) := by decide +kernel
theorem dX4_isSame_215 : decode cX4_isSame 215 = .ok (.iconst (-1), 1) := by decide +kernel
theorem dX4_isSame_216 : decode cX4_isSame 216 = .ok (.goto 11, 3) := by decide +kernel
theorem dX4_isSame_219 : decode cX4_isSame 219 = .ok (.aload_n 0, 1) := by decide +kernel
theorem dX4_isSame_220 : decode cX4_isSame 220 = .ok (.aload 9, 2) := by decide +kernel
theorem dX4_isSame_222 : decode cX4_isSame 222 = .ok (.invokevirtual 92, 3) := by decide +kernel
theorem dX4_isSame_225 : decode cX4_isSame 225 = .ok (.iload_n 2, 1) := by decide +kernel
theorem dX4_isSame_226 : decode cX4_isSame 226 = .ok (.isub, 1) := by decide +kernel
theorem dX4_isSame_227 : decode cX4_isSame 227 = .ok (.if_icmp .ne 53, 3) := by decide +kernel
theorem dX4_isSame_230 : decode cX4_isSame 230 = .ok (.aload_n 1, 1) := by decide +kernel
theorem dX4_isSame_231 : decode cX4_isSame 231 = .ok (.iload_n 2, 1) := by decide +kernel
theorem dX4_isSame_232 : decode cX4_isSame 232 = .ok (.invokevirtual 96, 3) := by decide +kernel
theorem dX4_isSame_235 : decode cX4_isSame 235 = .ok (.aload 9, 2) := by decide +kernel
theorem dX4_isSame_237 : decode cX4_isSame 237 = .ok (.ifnonnull 7, 3) := by decide +kernel
theorem dX4_isSame_240 : decode cX4_isSame 240 = .ok (.iconst 0, 1) := by decide +kernel
theorem dX4_isSame_241 : decode cX4_isSame 241 = .ok (.goto 8, 3) := by decide +kernel
theorem dX4_isSame_244 : decode cX4_isSame 244 = .ok (.aload 9, 2) := by decide +kernel
theorem dX4_isSame_246 : decode cX4_isSame 246 = .ok (.invokestatic 99, 3) := by decide +kernel
theorem dX4_isSame_249 : decode cX4_isSame 249 = .ok (.if_icmp .ne 31, 3) := by decide +kernel
theorem dX4_isSame_252 : decode cX4_isSame 252 = .ok (.aload_n 1, 1) := by decide +kernel
theorem dX4_isSame_253 : decode cX4_isSame 253 = .ok (.iload_n 2, 1) := by decide +kernel
theorem dX4_isSame_254 : decode cX4_isSame 254 = .ok (.invokevirtual 102, 3) := by decide +kernel
theorem dX4_isSame_257 : decode cX4_isSame 257 = .ok (.aload 9, 2) := by decide +kernel
theorem dX4_isSame_259 : decode cX4_isSame 259 = .ok (.ifnull 17, 3) := by decide +kernel
theorem dX4_isSame_262 : decode cX4_isSame 262 = .ok (.aload_n 0, 1) := by decide +kernel
theorem dX4_isSame_263 : decode cX4_isSame 263 = .ok (.aload 9, 2) := by decide +kernel
theorem dX4_isSame_265 : decode cX4_isSame 265 = .ok (.invokevirtual 92, 3) := by decide +kernel
theorem dX4_isSame_268 : decode cX4_isSame 268 = .ok (.iload_n 2, 1) := by decide +kernel
theorem dX4_isSame_269 : decode cX4_isSame 269 = .ok (.if_icmp .ne 7, 3) := by decide +kernel
theorem dX4_isSame_272 : decode cX4_isSame 272 = .ok (.iconst 1, 1) := by decide +kernel
theorem dX4_isSame_273 : decode cX4_isSame 273 = .ok (.goto 4, 3) := by decide +kernel
theorem dX4_isSame_276 : decode cX4_isSame 276 = .ok (.iconst 0, 1) := by decide +kernel
theorem dX4_isSame_277 : decode cX4_isSame 277 = .ok (.if_icmp .eq 5, 3) := by decide +kernel
theorem dX4_isSame_280 : decode cX4_isSame 280 = .ok (.iconst 0, 1) := by decide +kernel
theorem dX4_isSame_281 : decode cX4_isSame 281 = .ok (.ireturn, 1) := by decide +kernel
theorem dX4_isSame_282 : decode cX4_isSame 282 = .ok (.iconst 0, 1) := by decide +kernel
theorem dX4_isSame_283 : decode cX4_isSame 283 = .ok (.istore 10, 2) := by decide +kernel
theorem dX4_isSame_285 : decode cX4_isSame 285 = .ok (.iload 10, 2) := by decide +kernel
theorem dX4_isSame_287 : decode cX4_isSame 287 = .ok (.iload_n 3, 1) := by decide +kernel
theorem dX4_isSame_288 : decode cX4_isSame 288 = .ok (.if_icmp .ge 59, 3) := by decide +kernel
theorem dX4_isSame_291 : decode cX4_isSame 291 = .ok (.iconst 0, 1) := by decide +kernel
theorem dX4_isSame_292 : decode cX4_isSame 292 = .ok (.istore 11, 2) := by decide +kernel
theorem dX4_isSame_294 : decode cX4_isSame 294 = .ok (.aload 6, 2) := by decide +kernel
theorem dX4_isSame_296 : decode cX4_isSame 296 = .ok (.iload 11, 2) := by decide +kernel
theorem dX4_isSame_298 : decode cX4_isSame 298 = .ok (.aaload, 1) := by decide +kernel
theorem dX4_isSame_299 : decode cX4_isSame 299 = .ok (.aload_n 0, 1) := by decide +kernel
theorem dX4_isSame_300 : decode cX4_isSame 300 = .ok (.getfield 15, 3) := by decide +kernel
theorem dX4_isSame_303 : decode cX4_isSame 303 = .ok (.iload 10, 2) := by decide +kernel
theorem dX4_isSame_305 : decode cX4_isSame 305 = .ok (.aaload, 1) := by decide +kernel
theorem dX4_isSame_306 : decode cX4_isSame 306 = .ok (.if_acmp .eq 9, 3) := by decide +kernel
theorem dX4_isSame_309 : decode cX4_isSame 309 = .ok (.iinc 11 1, 3) := by decide +kernel
theorem dX4_isSame_312 : decode cX4_isSame 312 = .ok (.goto (-18), 3) := by decide +kernel
theorem dX4_isSame_315 : decode cX4_isSame 315 = .ok (.aload_n 1, 1) := by decide +kernel
theorem dX4_isSame_316 : decode cX4_isSame 316 = .ok (.iload_n 2, 1) := by decide +kernel
theorem dX4_isSame_317 : decode cX4_isSame 317 = .ok (.iload 10, 2) := by decide +kernel
theorem dX4_isSame_319 : decode cX4_isSame 319 = .ok (.invokevirtual 106, 3) := by decide +kernel
theorem dX4_isSame_322 : decode cX4_isSame 322 = .ok (.aload 9, 2) := by decide +kernel
theorem dX4_isSame_324 : decode cX4_isSame 324 = .ok (.ifnonnull 7, 3) := by decide +kernel
theorem dX4_isSame_327 : decode cX4_isSame 327 = .ok (.iconst 0, 1) := by decide +kernel
theorem dX4_isSame_328 : decode cX4_isSame 328 = .ok (.goto 8, 3) := by decide +kernel
