theorem dX3_checkRoom_19 : decode cX3_checkRoom 19 = .ok (.return_, 1) := by decide +kernel
theorem dX4_init_0 : decode cX4_init 0 = .ok (.aload_n 0, 1) := by decide +kernel
theorem dX4_init_1 : decode cX4_init 1 = .ok (.invokespecial 3, 3) := by decide +kernel
theorem dX4_init_4 : decode cX4_init 4 = .ok (.aload_n 0, 1) := by decide +kernel
theorem dX4_init_5 : decode cX4_init 5 = .ok (.bipush 6, 2) := by decide +kernel
theorem dX4_init_7 : decode cX4_init 7 = .ok (.putfield 9, 3) := by decide +kernel
theorem dX4_init_10 : decode cX4_init 10 = .ok (.aload_n 0, 1) := by decide +kernel
theorem dX4_init_11 : decode cX4_init 11 = .ok (.bipush 8, 2) := by decide +kernel
theorem dX4_init_13 : decode cX4_init 13 = .ok (.newarray .int, 2) := by decide +kernel
theorem dX4_init_15 : decode cX4_init 15 = .ok (.putfield 13, 3) := by decide +kernel
theorem dX4_init_18 : decode cX4_init 18 = .ok (.aload_n 0, 1) := by decide +kernel
theorem dX4_init_19 : decode cX4_init 19 = .ok (.bipush 8, 2) := by decide +kernel
theorem dX4_init_21 : decode cX4_init 21 = .ok (.newarray .int, 2) := by decide +kernel
theorem dX4_init_23 : decode cX4_init 23 = .ok (.putfield 17, 3) := by decide +kernel
theorem dX4_init_26 : decode cX4_init 26 = .ok (.aload_n 0, 1) := by decide +kernel
theorem dX4_init_27 : decode cX4_init 27 = .ok (.bipush 8, 2) := by decide +kernel
theorem dX4_init_29 : decode cX4_init 29 = .ok (.newarray .int, 2) := by decide +kernel
theorem dX4_init_31 : decode cX4_init 31 = .ok (.putfield 20, 3) := by decide +kernel
theorem dX4_init_34 : decode cX4_init 34 = .ok (.aload_n 0, 1) := by decide +kernel
theorem dX4_init_35 : decode cX4_init 35 = .ok (.bipush 8, 2) := by decide +kernel
theorem dX4_init_37 : decode cX4_init 37 = .ok (.newarray .int, 2) := by decide +kernel
theorem dX4_init_39 : decode cX4_init 39 = .ok (.putfield 23, 3) := by decide +kernel
theorem dX4_init_42 : decode cX4_init 42 = .ok (.aload_n 0, 1) := by decide +kernel
theorem dX4_init_43 : decode cX4_init 43 = .ok (.bipush 9, 2) := by decide +kernel
theorem dX4_init_45 : decode cX4_init 45 = .ok (.sipush 721, 3) := by decide +kernel
theorem dX4_init_48 : decode cX4_init 48 = .ok (.multianewarray 26 2, 4) := by decide +kernel
theorem dX4_init_52 : decode cX4_init 52 = .ok (.putfield 28, 3) := by decide +kernel
theorem dX4_init_55 : decode cX4_init 55 = .ok (.aload_n 0, 1) := by decide +kernel
theorem dX4_init_56 : decode cX4_init 56 = .ok (.bipush 8, 2) := by decide +kernel
theorem dX4_init_58 : decode cX4_init 58 = .ok (.newarray .int, 2) := by decide +kernel
theorem dX4_init_60 : decode cX4_init 60 = .ok (.putfield 31, 3) := by decide +kernel
theorem dX4_init_63 : decode cX4_init 63 = .ok (.aload_n 0, 1) := by decide +kernel
theorem dX4_init_64 : decode cX4_init 64 = .ok (.sipush 301, 3) := by decide +kernel
theorem dX4_init_67 : decode cX4_init 67 = .ok (.newarray .int, 2) := by decide +kernel
theorem dX4_init_69 : decode cX4_init 69 = .ok (.putfield 34, 3) := by decide +kernel
theorem dX4_init_72 : decode cX4_init 72 = .ok (.aload_n 0, 1) := by decide +kernel
theorem dX4_init_73 : decode cX4_init 73 = .ok (.bipush 13, 2) := by decide +kernel
theorem dX4_init_75 : decode cX4_init 75 = .ok (.sipush 301, 3) := by decide +kernel
theorem dX4_init_78 : decode cX4_init 78 = .ok (.multianewarray 26 2, 4) := by decide +kernel
theorem dX4_init_82 : decode cX4_init 82 = .ok (.putfield 37, 3) := by decide +kernel
theorem dX4_init_85 : decode cX4_init 85 = .ok (.return_, 1) := by decide +kernel
theorem dX4_thrown_0 : decode cX4_thrown 0 = .ok (.aload_n 0, 1) := by decide +kernel
theorem dX4_thrown_1 : decode cX4_thrown 1 = .ok (.getfield 40, 3) := by decide +kernel
theorem dX4_thrown_4 : decode cX4_thrown 4 = .ok (.ireturn, 1) := by decide +kernel
theorem dX4_no_0 : decode cX4_no 0 = .ok (.aload_n 0, 1) := by decide +kernel
theorem dX4_no_1 : decode cX4_no 1 = .ok (.iload_n 1, 1) := by decide +kernel
theorem dX4_no_2 : decode cX4_no 2 = .ok (.putfield 40, 3) := by decide +kernel
theorem dX4_no_5 : decode cX4_no 5 = .ok (.iconst 0, 1) := by decide +kernel
theorem dX4_no_6 : decode cX4_no 6 = .ok (.ireturn, 1) := by decide +kernel
theorem dX4_isNot_0 : decode cX4_isNot 0 = .ok (.aload_n 0, 1) := by decide +kernel
theorem dX4_isNot_1 : decode cX4_isNot 1 = .ok (.iload_n 1, 1) := by decide +kernel
theorem dX4_isNot_2 : decode cX4_isNot 2 = .ok (.putfield 40, 3) := by decide +kernel
theorem dX4_isNot_5 : decode cX4_isNot 5 = .ok (.iconst 0, 1) := by decide +kernel
theorem dX4_isNot_6 : decode cX4_isNot 6 = .ok (.ireturn, 1) := by decide +kernel
theorem dX4_ok_0 : decode cX4_ok 0 = .ok (.aload_n 0, 1) := by decide +kernel
theorem dX4_ok_1 : decode cX4_ok 1 = .ok (.iconst 0, 1) := by decide +kernel
theorem dX4_ok_2 : decode cX4_ok 2 = .ok (.putfield 40, 3) := by decide +kernel
theorem dX4_ok_5 : decode cX4_ok 5 = .ok (.iload_n 1, 1) := by decide +kernel
theorem dX4_ok_6 : decode cX4_ok 6 = .ok (.ireturn, 1) := by decide +kernel
theorem dX4_isIn_0 : decode cX4_isIn 0 = .ok (.iload_n 0, 1) := by decide +kernel
theorem dX4_isIn_1 : decode cX4_isIn 1 = .ok (.iload_n 1, 1) := by decide +kernel
theorem dX4_isIn_2 : decode cX4_isIn 2 = .ok (.if_icmp .lt 12, 3) := by decide +kernel
theorem dX4_isIn_5 : decode cX4_isIn 5 = .ok (.iload_n 0, 1) := by decide +kernel
theorem dX4_isIn_6 : decode cX4_isIn 6 = .ok (.iload_n 2, 1) := by decide +kernel
theorem dX4_isIn_7 : decode cX4_isIn 7 = .ok (.if_icmp .gt 7, 3) := by decide +kernel
theorem dX4_isIn_10 : decode cX4_isIn 10 = .ok (.iconst 1, 1) := by decide +kernel
theorem dX4_isIn_11 : decode cX4_isIn 11 = .ok (.goto 4, 3) := by decide +kernel
theorem dX4_isIn_14 : decode cX4_isIn 14 = .ok (.iconst 0, 1) := by decide +kernel
theorem dX4_isIn_15 : decode cX4_isIn 15 = .ok (.ireturn, 1) := by decide +kernel
theorem dX4_isStamp_0 : decode cX4_isStamp 0 = .ok (.iload_n 1, 1) := by decide +kernel
theorem dX4_isStamp_1 : decode cX4_isStamp 1 = .ok (.iconst 0, 1) := by decide +kernel
theorem dX4_isStamp_2 : decode cX4_isStamp 2 = .ok (.aload_n 0, 1) := by decide +kernel
theorem dX4_isStamp_3 : decode cX4_isStamp 3 = .ok (.getfield 43, 3) := by decide +kernel
theorem dX4_isStamp_6 : decode cX4_isStamp 6 = .ok (.iconst 1, 1) := by decide +kernel
theorem dX4_isStamp_7 : decode cX4_isStamp 7 = .ok (.isub, 1) := by decide +kernel
theorem dX4_isStamp_8 : decode cX4_isStamp 8 = .ok (.invokestatic 46, 3) := by decide +kernel
theorem dX4_isStamp_11 : decode cX4_isStamp 11 = .ok (.ireturn, 1) := by decide +kernel
theorem dX4_isPostage_0 : decode cX4_isPostage 0 = .ok (.iload_n 0, 1) := by decide +kernel
theorem dX4_isPostage_1 : decode cX4_isPostage 1 = .ok (.iconst 1, 1) := by decide +kernel
theorem dX4_isPostage_2 : decode cX4_isPostage 2 = .ok (.sipush 300, 3) := by decide +kernel
theorem dX4_isPostage_5 : decode cX4_isPostage 5 = .ok (.invokestatic 46, 3) := by decide +kernel
theorem dX4_isPostage_8 : decode cX4_isPostage 8 = .ok (.ireturn, 1) := by decide +kernel
theorem dX4_isThere_0 : decode cX4_isThere 0 = .ok (.iconst 0, 1) := by decide +kernel
theorem dX4_isThere_1 : decode cX4_isThere 1 = .ok (.istore_n 2, 1) := by decide +kernel
theorem dX4_isThere_2 : decode cX4_isThere 2 = .ok (.iload_n 2, 1) := by decide +kernel
theorem dX4_isThere_3 : decode cX4_isThere 3 = .ok (.aload_n 0, 1) := by decide +kernel
theorem dX4_isThere_4 : decode cX4_isThere 4 = .ok (.getfield 43, 3) := by decide +kernel
theorem dX4_isThere_7 : decode cX4_isThere 7 = .ok (.if_icmp .ge 21, 3) := by decide +kernel
theorem dX4_isThere_10 : decode cX4_isThere 10 = .ok (.aload_n 0, 1) := by decide +kernel
theorem dX4_isThere_11 : decode cX4_isThere 11 = .ok (.getfield 13, 3) := by decide +kernel
theorem dX4_isThere_14 : decode cX4_isThere 14 = .ok (.iload_n 2, 1) := by decide +kernel
theorem dX4_isThere_15 : decode cX4_isThere 15 = .ok (.iaload, 1) := by decide +kernel
theorem dX4_isThere_16 : decode cX4_isThere 16 = .ok (.iload_n 1, 1) := by decide +kernel
theorem dX4_isThere_17 : decode cX4_isThere 17 = .ok (.if_icmp .ne 5, 3) := by decide +kernel
theorem dX4_isThere_20 : decode cX4_isThere 20 = .ok (.iconst 1, 1) := by decide +kernel
theorem dX4_isThere_21 : decode cX4_isThere 21 = .ok (.ireturn, 1) := by decide +kernel
theorem dX4_isThere_22 : decode cX4_isThere 22 = .ok (.iinc 2 1, 3) := by decide +kernel
theorem dX4_isThere_25 : decode cX4_isThere 25 = .ok (.goto (-23), 3) := by decide +kernel
theorem dX4_isThere_28 : decode cX4_isThere 28 = .ok (.iconst 0, 1) := by decide +kernel
theorem dX4_isThere_29 : decode cX4_isThere 29 = .ok (.ireturn, 1) := by decide +kernel
theorem dX4_sort_0 : decode cX4_sort 0 = .ok (.iconst 0, 1) := by decide +kernel
theorem dX4_sort_1 : decode cX4_sort 1 = .ok (.istore_n 1, 1) := by decide +kernel
theorem dX4_sort_2 : decode cX4_sort 2 = .ok (.iload_n 1, 1) := by decide +kernel
theorem dX4_sort_3 : decode cX4_sort 3 = .ok (.aload_n 0, 1) := by decide +kernel
theorem dX4_sort_4 : decode cX4_sort 4 = .ok (.getfield 43, 3) := by decide +kernel
theorem dX4_sort_7 : decode cX4_sort 7 = .ok (.if_icmp .ge 64, 3) := by decide +kernel
theorem dX4_sort_10 : decode cX4_sort 10 = .ok (.iload_n 1, 1) := by decide +kernel
theorem dX4_sort_11 : decode cX4_sort 11 = .ok (.istore_n 2, 1) := by decide +kernel
theorem dX4_sort_12 : decode cX4_sort 12 = .ok (.iload_n 2, 1) := by decide +kernel
theorem dX4_sort_13 : decode cX4_sort 13 = .ok (.ifCond .le 45, 3) := by decide +kernel
theorem dX4_sort_16 : decode cX4_sort 16 = .ok (.aload_n 0, 1) := by decide +kernel
theorem dX4_sort_17 : decode cX4_sort 17 = .ok (.getfield 13, 3) := by decide +kernel
theorem dX4_sort_20 : decode cX4_sort 20 = .ok (.aload_n 0, 1) := by decide +kernel
theorem dX4_sort_21 : decode cX4_sort 21 = .ok (.getfield 23, 3) := by decide +kernel
theorem dX4_sort_24 : decode cX4_sort 24 = .ok (.iload_n 2, 1) := by decide +kernel
theorem dX4_sort_25 : decode cX4_sort 25 = .ok (.iconst 1, 1) := by decide +kernel
theorem dX4_sort_26 : decode cX4_sort 26 = .ok (.isub, 1) := by decide +kernel
theorem dX4_sort_27 : decode cX4_sort 27 = .ok (.iaload, 1) := by decide +kernel
theorem dX4_sort_28 : decode cX4_sort 28 = .ok (.iaload, 1) := by decide +kernel
theorem dX4_sort_29 : decode cX4_sort 29 = .ok (.aload_n 0, 1) := by decide +kernel
theorem dX4_sort_30 : decode cX4_sort 30 = .ok (.getfield 13, 3) := by decide +kernel
theorem dX4_sort_33 : decode cX4_sort 33 = .ok (.iload_n 1, 1) := by decide +kernel
theorem dX4_sort_34 : decode cX4_sort 34 = .ok (.iaload, 1) := by decide +kernel
theorem dX4_sort_35 : decode cX4_sort 35 = .ok (.if_icmp .le 23, 3) := by decide +kernel
theorem dX4_sort_38 : decode cX4_sort 38 = .ok (.aload_n 0, 1) := by decide +kernel
theorem dX4_sort_39 : decode cX4_sort 39 = .ok (.getfield 23, 3) := by decide +kernel
theorem dX4_sort_42 : decode cX4_sort 42 = .ok (.iload_n 2, 1) := by decide +kernel
theorem dX4_sort_43 : decode cX4_sort 43 = .ok (.aload_n 0, 1) := by decide +kernel
theorem dX4_sort_44 : decode cX4_sort 44 = .ok (.getfield 23, 3) := by decide +kernel
theorem dX4_sort_47 : decode cX4_sort 47 = .ok (.iload_n 2, 1) := by decide +kernel
theorem dX4_sort_48 : decode cX4_sort 48 = .ok (.iconst 1, 1) := by decide +kernel
theorem dX4_sort_49 : decode cX4_sort 49 = .ok (.isub, 1) := by decide +kernel
theorem dX4_sort_50 : decode cX4_sort 50 = .ok (.iaload, 1) := by decide +kernel
theorem dX4_sort_51 : decode cX4_sort 51 = .ok (.iastore, 1) := by decide +kernel
theorem dX4_sort_52 : decode cX4_sort 52 = .ok (.iinc 2 (-1), 3) := by decide +kernel
theorem dX4_sort_55 : decode cX4_sort 55 = .ok (.goto (-43), 3) := by decide +kernel
theorem dX4_sort_58 : decode cX4_sort 58 = .ok (.aload_n 0, 1) := by decide +kernel
theorem dX4_sort_59 : decode cX4_sort 59 = .ok (.getfield 23, 3) := by decide +kernel
theorem dX4_sort_62 : decode cX4_sort 62 = .ok (.iload_n 2, 1) := by decide +kernel
theorem dX4_sort_63 : decode cX4_sort 63 = .ok (.iload_n 1, 1) := by decide +kernel
theorem dX4_sort_64 : decode cX4_sort 64 = .ok (.iastore, 1) := by decide +kernel
theorem dX4_sort_65 : decode cX4_sort 65 = .ok (.iinc 1 1, 3) := by decide +kernel
theorem dX4_sort_68 : decode cX4_sort 68 = .ok (.goto (-66), 3) := by decide +kernel
theorem dX4_sort_71 : decode cX4_sort 71 = .ok (.return_, 1) := by decide +kernel
theorem dX4_with_0 : decode cX4_with 0 = .ok (.aload_n 0, 1) := by decide +kernel
theorem dX4_with_1 : decode cX4_with 1 = .ok (.getfield 13, 3) := by decide +kernel
theorem dX4_with_4 : decode cX4_with 4 = .ok (.aload_n 0, 1) := by decide +kernel
theorem dX4_with_5 : decode cX4_with 5 = .ok (.getfield 23, 3) := by decide +kernel
theorem dX4_with_8 : decode cX4_with 8 = .ok (.iload_n 1, 1) := by decide +kernel
theorem dX4_with_9 : decode cX4_with 9 = .ok (.iaload, 1) := by decide +kernel
theorem dX4_with_10 : decode cX4_with 10 = .ok (.iaload, 1) := by decide +kernel
theorem dX4_with_11 : decode cX4_with 11 = .ok (.istore_n 2, 1) := by decide +kernel
theorem dX4_with_12 : decode cX4_with 12 = .ok (.aload_n 0, 1) := by decide +kernel
theorem dX4_with_13 : decode cX4_with 13 = .ok (.getfield 9, 3) := by decide +kernel
theorem dX4_with_16 : decode cX4_with 16 = .ok (.aload_n 0, 1) := by decide +kernel
theorem dX4_with_17 : decode cX4_with 17 = .ok (.getfield 17, 3) := by decide +kernel
theorem dX4_with_20 : decode cX4_with 20 = .ok (.aload_n 0, 1) := by decide +kernel
theorem dX4_with_21 : decode cX4_with 21 = .ok (.getfield 23, 3) := by decide +kernel
theorem dX4_with_24 : decode cX4_with 24 = .ok (.iload_n 1, 1) := by decide +kernel
theorem dX4_with_25 : decode cX4_with 25 = .ok (.iaload, 1) := by decide +kernel
theorem dX4_with_26 : decode cX4_with 26 = .ok (.iaload, 1) := by decide +kernel
theorem dX4_with_27 : decode cX4_with 27 = .ok (.invokestatic 50, 3) := by decide +kernel
theorem dX4_with_30 : decode cX4_with 30 = .ok (.istore_n 3, 1) := by decide +kernel
theorem dX4_with_31 : decode cX4_with 31 = .ok (.iconst 0, 1) := by decide +kernel
theorem dX4_with_32 : decode cX4_with 32 = .ok (.istore 4, 2) := by decide +kernel
theorem dX4_with_34 : decode cX4_with 34 = .ok (.iload 4, 2) := by decide +kernel
theorem dX4_with_36 : decode cX4_with 36 = .ok (.sipush 721, 3) := by decide +kernel
theorem dX4_with_39 : decode cX4_with 39 = .ok (.if_icmp .ge 81, 3) := by decide +kernel
theorem dX4_with_42 : decode cX4_with 42 = .ok (.aload_n 0, 1) := by decide +kernel
theorem dX4_with_43 : decode cX4_with 43 = .ok (.getfield 28, 3) := by decide +kernel
theorem dX4_with_46 : decode cX4_with 46 = .ok (.iload_n 1, 1) := by decide +kernel
theorem dX4_with_47 : decode cX4_with 47 = .ok (.aaload, 1) := by decide +kernel
theorem dX4_with_48 : decode cX4_with 48 = .ok (.iload 4, 2) := by decide +kernel
theorem dX4_with_50 : decode cX4_with 50 = .ok (.iaload, 1) := by decide +kernel
theorem dX4_with_51 : decode cX4_with 51 = .ok (.istore 5, 2) := by decide +kernel
theorem dX4_with_53 : decode cX4_with 53 = .ok (.iconst 1, 1) := by decide +kernel
theorem dX4_with_54 : decode cX4_with 54 = .ok (.istore 6, 2) := by decide +kernel
theorem dX4_with_56 : decode cX4_with 56 = .ok (.iload 6, 2) := by decide +kernel
theorem dX4_with_58 : decode cX4_with 58 = .ok (.iload_n 3, 1) := by decide +kernel
theorem dX4_with_59 : decode cX4_with 59 = .ok (.if_icmp .gt 42, 3) := by decide +kernel
theorem dX4_with_62 : decode cX4_with 62 = .ok (.iload 6, 2) := by decide +kernel
theorem dX4_with_64 : decode cX4_with 64 = .ok (.iload_n 2, 1) := by decide +kernel
theorem dX4_with_65 : decode cX4_with 65 = .ok (.imul, 1) := by decide +kernel
theorem dX4_with_66 : decode cX4_with 66 = .ok (.iload 4, 2) := by decide +kernel
theorem dX4_with_68 : decode cX4_with 68 = .ok (.if_icmp .gt 33, 3) := by decide +kernel
theorem dX4_with_71 : decode cX4_with 71 = .ok (.iload 5, 2) := by decide +kernel
theorem dX4_with_73 : decode cX4_with 73 = .ok (.aload_n 0, 1) := by decide +kernel
theorem dX4_with_74 : decode cX4_with 74 = .ok (.getfield 28, 3) := by decide +kernel
theorem dX4_with_77 : decode cX4_with 77 = .ok (.iload_n 1, 1) := by decide +kernel
theorem dX4_with_78 : decode cX4_with 78 = .ok (.aaload, 1) := by decide +kernel
theorem dX4_with_79 : decode cX4_with 79 = .ok (.iload 4, 2) := by decide +kernel
theorem dX4_with_81 : decode cX4_with 81 = .ok (.iload 6, 2) := by decide +kernel
theorem dX4_with_83 : decode cX4_with 83 = .ok (.iload_n 2, 1) := by decide +kernel
theorem dX4_with_84 : decode cX4_with 84 = .ok (.imul, 1) := by decide +kernel
theorem dX4_with_85 : decode cX4_with 85 = .ok (.isub, 1) := by decide +kernel
theorem dX4_with_86 : decode cX4_with 86 = .ok (.iaload, 1) := by decide +kernel
theorem dX4_with_87 : decode cX4_with 87 = .ok (.iload 6, 2) := by decide +kernel
theorem dX4_with_89 : decode cX4_with 89 = .ok (.iadd, 1) := by decide +kernel
theorem dX4_with_90 : decode cX4_with 90 = .ok (.invokestatic 50, 3) := by decide +kernel
theorem dX4_with_93 : decode cX4_with 93 = .ok (.istore 5, 2) := by decide +kernel
theorem dX4_with_95 : decode cX4_with 95 = .ok (.iinc 6 1, 3) := by decide +kernel
theorem dX4_with_98 : decode cX4_with 98 = .ok (.goto (-42), 3) := by decide +kernel
theorem dX4_with_101 : decode cX4_with 101 = .ok (.aload_n 0, 1) := by decide +kernel
theorem dX4_with_102 : decode cX4_with 102 = .ok (.getfield 28, 3) := by decide +kernel
theorem dX4_with_105 : decode cX4_with 105 = .ok (.iload_n 1, 1) := by decide +kernel
theorem dX4_with_106 : decode cX4_with 106 = .ok (.iconst 1, 1) := by decide +kernel
theorem dX4_with_107 : decode cX4_with 107 = .ok (.iadd, 1) := by decide +kernel
theorem dX4_with_108 : decode cX4_with 108 = .ok (.aaload, 1) := by decide +kernel
theorem dX4_with_109 : decode cX4_with 109 = .ok (.iload 4, 2) := by decide +kernel
theorem dX4_with_111 : decode cX4_with 111 = .ok (.iload 5, 2) := by decide +kernel
theorem dX4_with_113 : decode cX4_with 113 = .ok (.iastore, 1) := by decide +kernel
theorem dX4_with_114 : decode cX4_with 114 = .ok (.iinc 4 1, 3) := by decide +kernel
theorem dX4_with_117 : decode cX4_with 117 = .ok (.goto (-83), 3) := by decide +kernel
theorem dX4_with_120 : decode cX4_with 120 = .ok (.return_, 1) := by decide +kernel
theorem dX4_table_0 : decode cX4_table 0 = .ok (.aload_n 0, 1) := by decide +kernel
theorem dX4_table_1 : decode cX4_table 1 = .ok (.invokevirtual 56, 3) := by decide +kernel
theorem dX4_table_4 : decode cX4_table 4 = .ok (.iconst 0, 1) := by decide +kernel
theorem dX4_table_5 : decode cX4_table 5 = .ok (.istore_n 1, 1) := by decide +kernel
theorem dX4_table_6 : decode cX4_table 6 = .ok (.iload_n 1, 1) := by decide +kernel
theorem dX4_table_7 : decode cX4_table 7 = .ok (.sipush 721, 3) := by decide +kernel
theorem dX4_table_10 : decode cX4_table 10 = .ok (.if_icmp .ge 28, 3) := by decide +kernel
theorem dX4_table_13 : decode cX4_table 13 = .ok (.aload_n 0, 1) := by decide +kernel
theorem dX4_table_14 : decode cX4_table 14 = .ok (.getfield 28, 3) := by decide +kernel
theorem dX4_table_17 : decode cX4_table 17 = .ok (.iconst 0, 1) := by decide +kernel
theorem dX4_table_18 : decode cX4_table 18 = .ok (.aaload, 1) := by decide +kernel
theorem dX4_table_19 : decode cX4_table 19 = .ok (.iload_n 1, 1) := by decide +kernel
theorem dX4_table_20 : decode cX4_table 20 = .ok (.iload_n 1, 1) := by decide +kernel
theorem dX4_table_21 : decode cX4_table 21 = .ok (.ifCond .ne 7, 3) := by decide +kernel
theorem dX4_table_24 : decode cX4_table 24 = .ok (.iconst 0, 1) := by decide +kernel
theorem dX4_table_25 : decode cX4_table 25 = .ok (.goto 6, 3) := by decide +kernel
theorem dX4_table_28 : decode cX4_table 28 = .ok (.sipush 1000, 3) := by decide +kernel
theorem dX4_table_31 : decode cX4_table 31 = .ok (.iastore, 1) := by decide +kernel
theorem dX4_table_32 : decode cX4_table 32 = .ok (.iinc 1 1, 3) := by decide +kernel
theorem dX4_table_35 : decode cX4_table 35 = .ok (.goto (-29), 3) := by decide +kernel
theorem dX4_table_38 : decode cX4_table 38 = .ok (.iconst 0, 1) := by decide +kernel
theorem dX4_table_39 : decode cX4_table 39 = .ok (.istore_n 1, 1) := by decide +kernel
theorem dX4_table_40 : decode cX4_table 40 = .ok (.iload_n 1, 1) := by decide +kernel
theorem dX4_table_41 : decode cX4_table 41 = .ok (.aload_n 0, 1) := by decide +kernel
theorem dX4_table_42 : decode cX4_table 42 = .ok (.getfield 43, 3) := by decide +kernel
theorem dX4_table_45 : decode cX4_table 45 = .ok (.if_icmp .ge 14, 3) := by decide +kernel
theorem dX4_table_48 : decode cX4_table 48 = .ok (.aload_n 0, 1) := by decide +kernel
theorem dX4_table_49 : decode cX4_table 49 = .ok (.iload_n 1, 1) := by decide +kernel
theorem dX4_table_50 : decode cX4_table 50 = .ok (.invokevirtual 59, 3) := by decide +kernel
theorem dX4_table_53 : decode cX4_table 53 = .ok (.iinc 1 1, 3) := by decide +kernel
theorem dX4_table_56 : decode cX4_table 56 = .ok (.goto (-16), 3) := by decide +kernel
theorem dX4_table_59 : decode cX4_table 59 = .ok (.return_, 1) := by decide +kernel
theorem dX4_pays_0 : decode cX4_pays 0 = .ok (.aload_n 0, 1) := by decide +kernel
theorem dX4_pays_1 : decode cX4_pays 1 = .ok (.getfield 28, 3) := by decide +kernel
theorem dX4_pays_4 : decode cX4_pays 4 = .ok (.aload_n 0, 1) := by decide +kernel
theorem dX4_pays_5 : decode cX4_pays 5 = .ok (.getfield 43, 3) := by decide +kernel
theorem dX4_pays_8 : decode cX4_pays 8 = .ok (.aaload, 1) := by decide +kernel
theorem dX4_pays_9 : decode cX4_pays 9 = .ok (.iload_n 1, 1) := by decide +kernel
theorem dX4_pays_10 : decode cX4_pays 10 = .ok (.iaload, 1) := by decide +kernel
theorem dX4_pays_11 : decode cX4_pays 11 = .ok (.aload_n 0, 1) := by decide +kernel
theorem dX4_pays_12 : decode cX4_pays 12 = .ok (.getfield 9, 3) := by decide +kernel
theorem dX4_pays_15 : decode cX4_pays 15 = .ok (.if_icmp .gt 7, 3) := by decide +kernel
theorem dX4_pays_18 : decode cX4_pays 18 = .ok (.iconst 1, 1) := by decide +kernel
theorem dX4_pays_19 : decode cX4_pays 19 = .ok (.goto 4, 3) := by decide +kernel
theorem dX4_pays_22 : decode cX4_pays 22 = .ok (.iconst 0, 1) := by decide +kernel
theorem dX4_pays_23 : decode cX4_pays 23 = .ok (.ireturn, 1) := by decide +kernel
theorem dX4_covers_0 : decode cX4_covers 0 = .ok (.iload_n 1, 1) := by decide +kernel
theorem dX4_covers_1 : decode cX4_covers 1 = .ok (.istore_n 2, 1) := by decide +kernel
theorem dX4_covers_2 : decode cX4_covers 2 = .ok (.iload_n 2, 1) := by decide +kernel
theorem dX4_covers_3 : decode cX4_covers 3 = .ok (.sipush 721, 3) := by decide +kernel
theorem dX4_covers_6 : decode cX4_covers 6 = .ok (.if_icmp .ge 19, 3) := by decide +kernel
theorem dX4_covers_9 : decode cX4_covers 9 = .ok (.aload_n 0, 1) := by decide +kernel
theorem dX4_covers_10 : decode cX4_covers 10 = .ok (.iload_n 2, 1) := by decide +kernel
theorem dX4_covers_11 : decode cX4_covers 11 = .ok (.invokevirtual 63, 3) := by decide +kernel
theorem dX4_covers_14 : decode cX4_covers 14 = .ok (.ifCond .eq 5, 3) := by decide +kernel
theorem dX4_covers_17 : decode cX4_covers 17 = .ok (.iload_n 2, 1) := by decide +kernel
theorem dX4_covers_18 : decode cX4_covers 18 = .ok (.ireturn, 1) := by decide +kernel
theorem dX4_covers_19 : decode cX4_covers 19 = .ok (.iinc 2 1, 3) := by decide +kernel
theorem dX4_covers_22 : decode cX4_covers 22 = .ok (.goto (-20), 3) := by decide +kernel
theorem dX4_covers_25 : decode cX4_covers 25 = .ok (.iconst (-1), 1) := by decide +kernel
theorem dX4_covers_26 : decode cX4_covers 26 = .ok (.ireturn, 1) := by decide +kernel
theorem dX4_take_0 : decode cX4_take 0 = .ok (.iload_n 1, 1) := by decide +kernel
theorem dX4_take_1 : decode cX4_take 1 = .ok (.istore_n 2, 1) := by decide +kernel
theorem dX4_take_2 : decode cX4_take 2 = .ok (.aload_n 0, 1) := by decide +kernel
theorem dX4_take_3 : decode cX4_take 3 = .ok (.getfield 43, 3) := by decide +kernel
theorem dX4_take_6 : decode cX4_take 6 = .ok (.iconst 1, 1) := by decide +kernel
theorem dX4_take_7 : decode cX4_take 7 = .ok (.isub, 1) := by decide +kernel
theorem dX4_take_8 : decode cX4_take 8 = .ok (.istore_n 3, 1) := by decide +kernel
theorem dX4_take_9 : decode cX4_take 9 = .ok (.iload_n 3, 1) := by decide +kernel
theorem dX4_take_10 : decode cX4_take 10 = .ok (.ifCond .lt 108, 3) := by decide +kernel
theorem dX4_take_13 : decode cX4_take 13 = .ok (.aload_n 0, 1) := by decide +kernel
theorem dX4_take_14 : decode cX4_take 14 = .ok (.getfield 13, 3) := by decide +kernel
theorem dX4_take_17 : decode cX4_take 17 = .ok (.aload_n 0, 1) := by decide +kernel
theorem dX4_take_18 : decode cX4_take 18 = .ok (.getfield 23, 3) := by decide +kernel
theorem dX4_take_21 : decode cX4_take 21 = .ok (.iload_n 3, 1) := by decide +kernel
theorem dX4_take_22 : decode cX4_take 22 = .ok (.iaload, 1) := by decide +kernel
theorem dX4_take_23 : decode cX4_take 23 = .ok (.iaload, 1) := by decide +kernel
theorem dX4_take_24 : decode cX4_take 24 = .ok (.istore 4, 2) := by decide +kernel
theorem dX4_take_26 : decode cX4_take 26 = .ok (.aload_n 0, 1) := by decide +kernel
theorem dX4_take_27 : decode cX4_take 27 = .ok (.getfield 9, 3) := by decide +kernel
theorem dX4_take_30 : decode cX4_take 30 = .ok (.aload_n 0, 1) := by decide +kernel
theorem dX4_take_31 : decode cX4_take 31 = .ok (.getfield 17, 3) := by decide +kernel
theorem dX4_take_34 : decode cX4_take 34 = .ok (.aload_n 0, 1) := by decide +kernel
theorem dX4_take_35 : decode cX4_take 35 = .ok (.getfield 23, 3) := by decide +kernel
theorem dX4_take_38 : decode cX4_take 38 = .ok (.iload_n 3, 1) := by decide +kernel
theorem dX4_take_39 : decode cX4_take 39 = .ok (.iaload, 1) := by decide +kernel
theorem dX4_take_40 : decode cX4_take 40 = .ok (.iaload, 1) := by decide +kernel
theorem dX4_take_41 : decode cX4_take 41 = .ok (.invokestatic 50, 3) := by decide +kernel
theorem dX4_take_44 : decode cX4_take 44 = .ok (.istore 5, 2) := by decide +kernel
theorem dX4_take_46 : decode cX4_take 46 = .ok (.iload 5, 2) := by decide +kernel
theorem dX4_take_48 : decode cX4_take 48 = .ok (.iload 4, 2) := by decide +kernel
theorem dX4_take_50 : decode cX4_take 50 = .ok (.imul, 1) := by decide +kernel
theorem dX4_take_51 : decode cX4_take 51 = .ok (.iload_n 2, 1) := by decide +kernel
theorem dX4_take_52 : decode cX4_take 52 = .ok (.if_icmp .gt 33, 3) := by decide +kernel
theorem dX4_take_55 : decode cX4_take 55 = .ok (.aload_n 0, 1) := by decide +kernel
theorem dX4_take_56 : decode cX4_take 56 = .ok (.getfield 28, 3) := by decide +kernel
theorem dX4_take_59 : decode cX4_take 59 = .ok (.iload_n 3, 1) := by decide +kernel
theorem dX4_take_60 : decode cX4_take 60 = .ok (.aaload, 1) := by decide +kernel
theorem dX4_take_61 : decode cX4_take 61 = .ok (.iload_n 2, 1) := by decide +kernel
theorem dX4_take_62 : decode cX4_take 62 = .ok (.iload 5, 2) := by decide +kernel
theorem dX4_take_64 : decode cX4_take 64 = .ok (.iload 4, 2) := by decide +kernel
theorem dX4_take_66 : decode cX4_take 66 = .ok (.imul, 1) := by decide +kernel
theorem dX4_take_67 : decode cX4_take 67 = .ok (.isub, 1) := by decide +kernel
theorem dX4_take_68 : decode cX4_take 68 = .ok (.iaload, 1) := by decide +kernel
theorem dX4_take_69 : decode cX4_take 69 = .ok (.iload 5, 2) := by decide +kernel
theorem dX4_take_71 : decode cX4_take 71 = .ok (.iadd, 1) := by decide +kernel
theorem dX4_take_72 : decode cX4_take 72 = .ok (.aload_n 0, 1) := by decide +kernel
theorem dX4_take_73 : decode cX4_take 73 = .ok (.getfield 28, 3) := by decide +kernel
theorem dX4_take_76 : decode cX4_take 76 = .ok (.iload_n 3, 1) := by decide +kernel
theorem dX4_take_77 : decode cX4_take 77 = .ok (.iconst 1, 1) := by decide +kernel
theorem dX4_take_78 : decode cX4_take 78 = .ok (.iadd, 1) := by decide +kernel
theorem dX4_take_79 : decode cX4_take 79 = .ok (.aaload, 1) := by decide +kernel
theorem dX4_take_80 : decode cX4_take 80 = .ok (.iload_n 2, 1) := by decide +kernel
theorem dX4_take_81 : decode cX4_take 81 = .ok (.iaload, 1) := by decide +kernel
theorem dX4_take_82 : decode cX4_take 82 = .ok (.if_icmp .eq 9, 3) := by decide +kernel
theorem dX4_take_85 : decode cX4_take 85 = .ok (.iinc 5 (-1), 3) := by decide +kernel
theorem dX4_take_88 : decode cX4_take 88 = .ok (.goto (-42), 3) := by decide +kernel
theorem dX4_take_91 : decode cX4_take 91 = .ok (.aload_n 0, 1) := by decide +kernel
theorem dX4_take_92 : decode cX4_take 92 = .ok (.getfield 31, 3) := by decide +kernel
theorem dX4_take_95 : decode cX4_take 95 = .ok (.aload_n 0, 1) := by decide +kernel
theorem dX4_take_96 : decode cX4_take 96 = .ok (.getfield 23, 3) := by decide +kernel
theorem dX4_take_99 : decode cX4_take 99 = .ok (.iload_n 3, 1) := by decide +kernel
theorem dX4_take_100 : decode cX4_take 100 = .ok (.iaload, 1) := by decide +kernel
theorem dX4_take_101 : decode cX4_take 101 = .ok (.iload 5, 2) := by decide +kernel
theorem dX4_take_103 : decode cX4_take 103 = .ok (.iastore, 1) := by decide +kernel
theorem dX4_take_104 : decode cX4_take 104 = .ok (.iload_n 2, 1) := by decide +kernel
theorem dX4_take_105 : decode cX4_take 105 = .ok (.iload 5, 2) := by decide +kernel
theorem dX4_take_107 : decode cX4_take 107 = .ok (.iload 4, 2) := by decide +kernel
theorem dX4_take_109 : decode cX4_take 109 = .ok (.imul, 1) := by decide +kernel
theorem dX4_take_110 : decode cX4_take 110 = .ok (.isub, 1) := by decide +kernel
theorem dX4_take_111 : decode cX4_take 111 = .ok (.istore_n 2, 1) := by decide +kernel
theorem dX4_take_112 : decode cX4_take 112 = .ok (.iinc 3 (-1), 3) := by decide +kernel
theorem dX4_take_115 : decode cX4_take 115 = .ok (.goto (-106), 3) := by decide +kernel
theorem dX4_take_118 : decode cX4_take 118 = .ok (.return_, 1) := by decide +kernel
theorem dX4_reached_0 : decode cX4_reached 0 = .ok (.aload_n 0, 1) := by decide +kernel
theorem dX4_reached_1 : decode cX4_reached 1 = .ok (.invokevirtual 67, 3) := by decide +kernel
theorem dX4_reached_4 : decode cX4_reached 4 = .ok (.iconst 0, 1) := by decide +kernel
theorem dX4_reached_5 : decode cX4_reached 5 = .ok (.istore_n 1, 1) := by decide +kernel
theorem dX4_reached_6 : decode cX4_reached 6 = .ok (.iload_n 1, 1) := by decide +kernel
theorem dX4_reached_7 : decode cX4_reached 7 = .ok (.sipush 300, 3) := by decide +kernel
theorem dX4_reached_10 : decode cX4_reached 10 = .ok (.if_icmp .ge 19, 3) := by decide +kernel
theorem dX4_reached_13 : decode cX4_reached 13 = .ok (.aload_n 0, 1) := by decide +kernel
theorem dX4_reached_14 : decode cX4_reached 14 = .ok (.iload_n 1, 1) := by decide +kernel
theorem dX4_reached_15 : decode cX4_reached 15 = .ok (.iconst 1, 1) := by decide +kernel
theorem dX4_reached_16 : decode cX4_reached 16 = .ok (.iadd, 1) := by decide +kernel
theorem dX4_reached_17 : decode cX4_reached 17 = .ok (.invokevirtual 63, 3) := by decide +kernel
theorem dX4_reached_20 : decode cX4_reached 20 = .ok (.ifCond .eq 9, 3) := by decide +kernel
theorem dX4_reached_23 : decode cX4_reached 23 = .ok (.iinc 1 1, 3) := by decide +kernel
theorem dX4_reached_26 : decode cX4_reached 26 = .ok (.goto (-20), 3) := by decide +kernel
theorem dX4_reached_29 : decode cX4_reached 29 = .ok (.iload_n 1, 1) := by decide +kernel
theorem dX4_reached_30 : decode cX4_reached 30 = .ok (.ireturn, 1) := by decide +kernel
theorem dX4_give_0 : decode cX4_give 0 = .ok (.aload_n 0, 1) := by decide +kernel
theorem dX4_give_1 : decode cX4_give 1 = .ok (.invokevirtual 67, 3) := by decide +kernel
theorem dX4_give_4 : decode cX4_give 4 = .ok (.aload_n 0, 1) := by decide +kernel
theorem dX4_give_5 : decode cX4_give 5 = .ok (.iload_n 1, 1) := by decide +kernel
theorem dX4_give_6 : decode cX4_give 6 = .ok (.invokevirtual 70, 3) := by decide +kernel
theorem dX4_give_9 : decode cX4_give 9 = .ok (.istore_n 2, 1) := by decide +kernel
theorem dX4_give_10 : decode cX4_give 10 = .ok (.iload_n 2, 1) := by decide +kernel
theorem dX4_give_11 : decode cX4_give 11 = .ok (.iconst (-1), 1) := by decide +kernel
theorem dX4_give_12 : decode cX4_give 12 = .ok (.if_icmp .ne 5, 3) := by decide +kernel
theorem dX4_give_15 : decode cX4_give 15 = .ok (.iconst (-1), 1) := by decide +kernel
theorem dX4_give_16 : decode cX4_give 16 = .ok (.ireturn, 1) := by decide +kernel
theorem dX4_give_17 : decode cX4_give 17 = .ok (.aload_n 0, 1) := by decide +kernel
theorem dX4_give_18 : decode cX4_give 18 = .ok (.iload_n 2, 1) := by decide +kernel
theorem dX4_give_19 : decode cX4_give 19 = .ok (.invokevirtual 74, 3) := by decide +kernel
theorem dX4_give_22 : decode cX4_give 22 = .ok (.iconst 0, 1) := by decide +kernel
theorem dX4_give_23 : decode cX4_give 23 = .ok (.istore_n 3, 1) := by decide +kernel
theorem dX4_give_24 : decode cX4_give 24 = .ok (.iload_n 3, 1) := by decide +kernel
theorem dX4_give_25 : decode cX4_give 25 = .ok (.aload_n 0, 1) := by decide +kernel
theorem dX4_give_26 : decode cX4_give 26 = .ok (.getfield 43, 3) := by decide +kernel
theorem dX4_give_29 : decode cX4_give 29 = .ok (.if_icmp .ge 24, 3) := by decide +kernel
theorem dX4_give_32 : decode cX4_give 32 = .ok (.aload_n 0, 1) := by decide +kernel
theorem dX4_give_33 : decode cX4_give 33 = .ok (.getfield 17, 3) := by decide +kernel
theorem dX4_give_36 : decode cX4_give 36 = .ok (.iload_n 3, 1) := by decide +kernel
theorem dX4_give_37 : decode cX4_give 37 = .ok (.dup2, 1) := by decide +kernel
theorem dX4_give_38 : decode cX4_give 38 = .ok (.iaload, 1) := by decide +kernel
theorem dX4_give_39 : decode cX4_give 39 = .ok (.aload_n 0, 1) := by decide +kernel
theorem dX4_give_40 : decode cX4_give 40 = .ok (.getfield 31, 3) := by decide +kernel
theorem dX4_give_43 : decode cX4_give 43 = .ok (.iload_n 3, 1) := by decide +kernel
theorem dX4_give_44 : decode cX4_give 44 = .ok (.iaload, 1) := by decide +kernel
theorem dX4_give_45 : decode cX4_give 45 = .ok (.isub, 1) := by decide +kernel
theorem dX4_give_46 : decode cX4_give 46 = .ok (.iastore, 1) := by decide +kernel
theorem dX4_give_47 : decode cX4_give 47 = .ok (.iinc 3 1, 3) := by decide +kernel
theorem dX4_give_50 : decode cX4_give 50 = .ok (.goto (-26), 3) := by decide +kernel
theorem dX4_give_53 : decode cX4_give 53 = .ok (.iload_n 2, 1) := by decide +kernel
theorem dX4_give_54 : decode cX4_give 54 = .ok (.ireturn, 1) := by decide +kernel
theorem dX4_printed_0 : decode cX4_printed 0 = .ok (.aload_n 0, 1) := by decide +kernel
theorem dX4_printed_1 : decode cX4_printed 1 = .ok (.getfield 34, 3) := by decide +kernel
theorem dX4_printed_4 : decode cX4_printed 4 = .ok (.iconst 0, 1) := by decide +kernel
theorem dX4_printed_5 : decode cX4_printed 5 = .ok (.iconst 0, 1) := by decide +kernel
theorem dX4_printed_6 : decode cX4_printed 6 = .ok (.iastore, 1) := by decide +kernel
theorem dX4_printed_7 : decode cX4_printed 7 = .ok (.iconst 1, 1) := by decide +kernel
theorem dX4_printed_8 : decode cX4_printed 8 = .ok (.istore_n 2, 1) := by decide +kernel
theorem dX4_printed_9 : decode cX4_printed 9 = .ok (.iload_n 2, 1) := by decide +kernel
theorem dX4_printed_10 : decode cX4_printed 10 = .ok (.sipush 300, 3) := by decide +kernel
theorem dX4_printed_13 : decode cX4_printed 13 = .ok (.if_icmp .gt 92, 3) := by decide +kernel
theorem dX4_printed_16 : decode cX4_printed 16 = .ok (.iload_n 1, 1) := by decide +kernel
theorem dX4_printed_17 : decode cX4_printed 17 = .ok (.ifCond .le 21, 3) := by decide +kernel
theorem dX4_printed_20 : decode cX4_printed 20 = .ok (.iload_n 1, 1) := by decide +kernel
theorem dX4_printed_21 : decode cX4_printed 21 = .ok (.iload_n 2, 1) := by decide +kernel
theorem dX4_printed_22 : decode cX4_printed 22 = .ok (.if_icmp .gt 16, 3) := by decide +kernel
theorem dX4_printed_25 : decode cX4_printed 25 = .ok (.aload_n 0, 1) := by decide +kernel
theorem dX4_printed_26 : decode cX4_printed 26 = .ok (.getfield 34, 3) := by decide +kernel
theorem dX4_printed_29 : decode cX4_printed 29 = .ok (.iload_n 2, 1) := by decide +kernel
theorem dX4_printed_30 : decode cX4_printed 30 = .ok (.iload_n 1, 1) := by decide +kernel
theorem dX4_printed_31 : decode cX4_printed 31 = .ok (.isub, 1) := by decide +kernel
theorem dX4_printed_32 : decode cX4_printed 32 = .ok (.iaload, 1) := by decide +kernel
theorem dX4_printed_33 : decode cX4_printed 33 = .ok (.iconst 1, 1) := by decide +kernel
theorem dX4_printed_34 : decode cX4_printed 34 = .ok (.iadd, 1) := by decide +kernel
theorem dX4_printed_35 : decode cX4_printed 35 = .ok (.goto 6, 3) := by decide +kernel
theorem dX4_printed_38 : decode cX4_printed 38 = .ok (.sipush 1000, 3) := by decide +kernel
theorem dX4_printed_41 : decode cX4_printed 41 = .ok (.istore_n 3, 1) := by decide +kernel
theorem dX4_printed_42 : decode cX4_printed 42 = .ok (.iconst 0, 1) := by decide +kernel
theorem dX4_printed_43 : decode cX4_printed 43 = .ok (.istore 4, 2) := by decide +kernel
theorem dX4_printed_45 : decode cX4_printed 45 = .ok (.iload 4, 2) := by decide +kernel
theorem dX4_printed_47 : decode cX4_printed 47 = .ok (.aload_n 0, 1) := by decide +kernel
theorem dX4_printed_48 : decode cX4_printed 48 = .ok (.getfield 43, 3) := by decide +kernel
theorem dX4_printed_51 : decode cX4_printed 51 = .ok (.if_icmp .ge 41, 3) := by decide +kernel
theorem dX4_printed_54 : decode cX4_printed 54 = .ok (.aload_n 0, 1) := by decide +kernel
theorem dX4_printed_55 : decode cX4_printed 55 = .ok (.getfield 13, 3) := by decide +kernel
theorem dX4_printed_58 : decode cX4_printed 58 = .ok (.iload 4, 2) := by decide +kernel
theorem dX4_printed_60 : decode cX4_printed 60 = .ok (.iaload, 1) := by decide +kernel
theorem dX4_printed_61 : decode cX4_printed 61 = .ok (.iload_n 2, 1) := by decide +kernel
theorem dX4_printed_62 : decode cX4_printed 62 = .ok (.if_icmp .gt 24, 3) := by decide +kernel
theorem dX4_printed_65 : decode cX4_printed 65 = .ok (.iload_n 3, 1) := by decide +kernel
theorem dX4_printed_66 : decode cX4_printed 66 = .ok (.aload_n 0, 1) := by decide +kernel
theorem dX4_printed_67 : decode cX4_printed 67 = .ok (.getfield 34, 3) := by decide +kernel
theorem dX4_printed_70 : decode cX4_printed 70 = .ok (.iload_n 2, 1) := by decide +kernel
theorem dX4_printed_71 : decode cX4_printed 71 = .ok (.aload_n 0, 1) := by decide +kernel
theorem dX4_printed_72 : decode cX4_printed 72 = .ok (.getfield 13, 3) := by decide +kernel
theorem dX4_printed_75 : decode cX4_printed 75 = .ok (.iload 4, 2) := by decide +kernel
theorem dX4_printed_77 : decode cX4_printed 77 = .ok (.iaload, 1) := by decide +kernel
theorem dX4_printed_78 : decode cX4_printed 78 = .ok (.isub, 1) := by decide +kernel
theorem dX4_printed_79 : decode cX4_printed 79 = .ok (.iaload, 1) := by decide +kernel
theorem dX4_printed_80 : decode cX4_printed 80 = .ok (.iconst 1, 1) := by decide +kernel
theorem dX4_printed_81 : decode cX4_printed 81 = .ok (.iadd, 1) := by decide +kernel
theorem dX4_printed_82 : decode cX4_printed 82 = .ok (.invokestatic 50, 3) := by decide +kernel
theorem dX4_printed_85 : decode cX4_printed 85 = .ok (.istore_n 3, 1) := by decide +kernel
theorem dX4_printed_86 : decode cX4_printed 86 = .ok (.iinc 4 1, 3) := by decide +kernel
theorem dX4_printed_89 : decode cX4_printed 89 = .ok (.goto (-44), 3) := by decide +kernel
theorem dX4_printed_92 : decode cX4_printed 92 = .ok (.aload_n 0, 1) := by decide +kernel
theorem dX4_printed_93 : decode cX4_printed 93 = .ok (.getfield 34, 3) := by decide +kernel
theorem dX4_printed_96 : decode cX4_printed 96 = .ok (.iload_n 2, 1) := by decide +kernel
theorem dX4_printed_97 : decode cX4_printed 97 = .ok (.iload_n 3, 1) := by decide +kernel
theorem dX4_printed_98 : decode cX4_printed 98 = .ok (.iastore, 1) := by decide +kernel
theorem dX4_printed_99 : decode cX4_printed 99 = .ok (.iinc 2 1, 3) := by decide +kernel
theorem dX4_printed_102 : decode cX4_printed 102 = .ok (.goto (-93), 3) := by decide +kernel
theorem dX4_printed_105 : decode cX4_printed 105 = .ok (.return_, 1) := by decide +kernel
theorem dX4_printReach_0 : decode cX4_printReach 0 = .ok (.aload_n 0, 1) := by decide +kernel
theorem dX4_printReach_1 : decode cX4_printReach 1 = .ok (.iload_n 1, 1) := by decide +kernel
theorem dX4_printReach_2 : decode cX4_printReach 2 = .ok (.invokevirtual 77, 3) := by decide +kernel
theorem dX4_printReach_5 : decode cX4_printReach 5 = .ok (.iconst 0, 1) := by decide +kernel
theorem dX4_printReach_6 : decode cX4_printReach 6 = .ok (.istore_n 3, 1) := by decide +kernel
theorem dX4_printReach_7 : decode cX4_printReach 7 = .ok (.iload_n 3, 1) := by decide +kernel
theorem dX4_printReach_8 : decode cX4_printReach 8 = .ok (.sipush 300, 3) := by decide +kernel
theorem dX4_printReach_11 : decode cX4_printReach 11 = .ok (.if_icmp .ge 21, 3) := by decide +kernel
theorem dX4_printReach_14 : decode cX4_printReach 14 = .ok (.aload_n 0, 1) := by decide +kernel
theorem dX4_printReach_15 : decode cX4_printReach 15 = .ok (.getfield 34, 3) := by decide +kernel
theorem dX4_printReach_18 : decode cX4_printReach 18 = .ok (.iload_n 3, 1) := by decide +kernel
theorem dX4_printReach_19 : decode cX4_printReach 19 = .ok (.iconst 1, 1) := by decide +kernel
theorem dX4_printReach_20 : decode cX4_printReach 20 = .ok (.iadd, 1) := by decide +kernel
theorem dX4_printReach_21 : decode cX4_printReach 21 = .ok (.iaload, 1) := by decide +kernel
theorem dX4_printReach_22 : decode cX4_printReach 22 = .ok (.iload_n 2, 1) := by decide +kernel
theorem dX4_printReach_23 : decode cX4_printReach 23 = .ok (.if_icmp .gt 9, 3) := by decide +kernel
theorem dX4_printReach_26 : decode cX4_printReach 26 = .ok (.iinc 3 1, 3) := by decide +kernel
theorem dX4_printReach_29 : decode cX4_printReach 29 = .ok (.goto (-22), 3) := by decide +kernel
theorem dX4_printReach_32 : decode cX4_printReach 32 = .ok (.iload_n 3, 1) := by decide +kernel
theorem dX4_printReach_33 : decode cX4_printReach 33 = .ok (.ireturn, 1) := by decide +kernel
theorem dX4_allWays_0 : decode cX4_allWays 0 = .ok (.iconst 0, 1) := by decide +kernel
theorem dX4_allWays_1 : decode cX4_allWays 1 = .ok (.istore_n 2, 1) := by decide +kernel
theorem dX4_allWays_2 : decode cX4_allWays 2 = .ok (.iload_n 2, 1) := by decide +kernel
theorem dX4_allWays_3 : decode cX4_allWays 3 = .ok (.aload_n 0, 1) := by decide +kernel
theorem dX4_allWays_4 : decode cX4_allWays 4 = .ok (.getfield 9, 3) := by decide +kernel
theorem dX4_allWays_7 : decode cX4_allWays 7 = .ok (.if_icmp .gt 41, 3) := by decide +kernel
theorem dX4_allWays_10 : decode cX4_allWays 10 = .ok (.iconst 0, 1) := by decide +kernel
theorem dX4_allWays_11 : decode cX4_allWays 11 = .ok (.istore_n 3, 1) := by decide +kernel
theorem dX4_allWays_12 : decode cX4_allWays 12 = .ok (.iload_n 3, 1) := by decide +kernel
theorem dX4_allWays_13 : decode cX4_allWays 13 = .ok (.iload_n 1, 1) := by decide +kernel
theorem dX4_allWays_14 : decode cX4_allWays 14 = .ok (.if_icmp .gt 28, 3) := by decide +kernel
theorem dX4_allWays_17 : decode cX4_allWays 17 = .ok (.aload_n 0, 1) := by decide +kernel
theorem dX4_allWays_18 : decode cX4_allWays 18 = .ok (.getfield 37, 3) := by decide +kernel
theorem dX4_allWays_21 : decode cX4_allWays 21 = .ok (.iload_n 2, 1) := by decide +kernel
theorem dX4_allWays_22 : decode cX4_allWays 22 = .ok (.aaload, 1) := by decide +kernel
theorem dX4_allWays_23 : decode cX4_allWays 23 = .ok (.iload_n 3, 1) := by decide +kernel
theorem dX4_allWays_24 : decode cX4_allWays 24 = .ok (.iload_n 2, 1) := by decide +kernel
theorem dX4_allWays_25 : decode cX4_allWays 25 = .ok (.iload_n 3, 1) := by decide +kernel
theorem dX4_allWays_26 : decode cX4_allWays 26 = .ok (.iadd, 1) := by decide +kernel
theorem dX4_allWays_27 : decode cX4_allWays 27 = .ok (.ifCond .ne 7, 3) := by decide +kernel
theorem dX4_allWays_30 : decode cX4_allWays 30 = .ok (.iconst 1, 1) := by decide +kernel
theorem dX4_allWays_31 : decode cX4_allWays 31 = .ok (.goto 4, 3) := by decide +kernel
theorem dX4_allWays_34 : decode cX4_allWays 34 = .ok (.iconst 0, 1) := by decide +kernel
theorem dX4_allWays_35 : decode cX4_allWays 35 = .ok (.iastore, 1) := by decide +kernel
theorem dX4_allWays_36 : decode cX4_allWays 36 = .ok (.iinc 3 1, 3) := by decide +kernel
theorem dX4_allWays_39 : decode cX4_allWays 39 = .ok (.goto (-27), 3) := by decide +kernel
theorem dX4_allWays_42 : decode cX4_allWays 42 = .ok (.iinc 2 1, 3) := by decide +kernel
theorem dX4_allWays_45 : decode cX4_allWays 45 = .ok (.goto (-43), 3) := by decide +kernel
theorem dX4_allWays_48 : decode cX4_allWays 48 = .ok (.iconst 0, 1) := by decide +kernel
theorem dX4_allWays_49 : decode cX4_allWays 49 = .ok (.istore_n 2, 1) := by decide +kernel
theorem dX4_allWays_50 : decode cX4_allWays 50 = .ok (.iload_n 2, 1) := by decide +kernel
theorem dX4_allWays_51 : decode cX4_allWays 51 = .ok (.aload_n 0, 1) := by decide +kernel
theorem dX4_allWays_52 : decode cX4_allWays 52 = .ok (.getfield 43, 3) := by decide +kernel
theorem dX4_allWays_55 : decode cX4_allWays 55 = .ok (.if_icmp .ge 75, 3) := by decide +kernel
theorem dX4_allWays_58 : decode cX4_allWays 58 = .ok (.iconst 1, 1) := by decide +kernel
theorem dX4_allWays_59 : decode cX4_allWays 59 = .ok (.istore_n 3, 1) := by decide +kernel
theorem dX4_allWays_60 : decode cX4_allWays 60 = .ok (.iload_n 3, 1) := by decide +kernel
theorem dX4_allWays_61 : decode cX4_allWays 61 = .ok (.aload_n 0, 1) := by decide +kernel
theorem dX4_allWays_62 : decode cX4_allWays 62 = .ok (.getfield 9, 3) := by decide +kernel
theorem dX4_allWays_65 : decode cX4_allWays 65 = .ok (.if_icmp .gt 59, 3) := by decide +kernel
theorem dX4_allWays_68 : decode cX4_allWays 68 = .ok (.aload_n 0, 1) := by decide +kernel
theorem dX4_allWays_69 : decode cX4_allWays 69 = .ok (.getfield 13, 3) := by decide +kernel
theorem dX4_allWays_72 : decode cX4_allWays 72 = .ok (.iload_n 2, 1) := by decide +kernel
theorem dX4_allWays_73 : decode cX4_allWays 73 = .ok (.iaload, 1) := by decide +kernel
theorem dX4_allWays_74 : decode cX4_allWays 74 = .ok (.istore 4, 2) := by decide +kernel
theorem dX4_allWays_76 : decode cX4_allWays 76 = .ok (.iload 4, 2) := by decide +kernel
theorem dX4_allWays_78 : decode cX4_allWays 78 = .ok (.iload_n 1, 1) := by decide +kernel
theorem dX4_allWays_79 : decode cX4_allWays 79 = .ok (.if_icmp .gt 39, 3) := by decide +kernel
theorem dX4_allWays_82 : decode cX4_allWays 82 = .ok (.aload_n 0, 1) := by decide +kernel
theorem dX4_allWays_83 : decode cX4_allWays 83 = .ok (.getfield 37, 3) := by decide +kernel
theorem dX4_allWays_86 : decode cX4_allWays 86 = .ok (.iload_n 3, 1) := by decide +kernel
theorem dX4_allWays_87 : decode cX4_allWays 87 = .ok (.aaload, 1) := by decide +kernel
theorem dX4_allWays_88 : decode cX4_allWays 88 = .ok (.iload 4, 2) := by decide +kernel
theorem dX4_allWays_90 : decode cX4_allWays 90 = .ok (.dup2, 1) := by decide +kernel
theorem dX4_allWays_91 : decode cX4_allWays 91 = .ok (.iaload, 1) := by decide +kernel
theorem dX4_allWays_92 : decode cX4_allWays 92 = .ok (.aload_n 0, 1) := by decide +kernel
theorem dX4_allWays_93 : decode cX4_allWays 93 = .ok (.getfield 37, 3) := by decide +kernel
theorem dX4_allWays_96 : decode cX4_allWays 96 = .ok (.iload_n 3, 1) := by decide +kernel
theorem dX4_allWays_97 : decode cX4_allWays 97 = .ok (.iconst 1, 1) := by decide +kernel
theorem dX4_allWays_98 : decode cX4_allWays 98 = .ok (.isub, 1) := by decide +kernel
theorem dX4_allWays_99 : decode cX4_allWays 99 = .ok (.aaload, 1) := by decide +kernel
theorem dX4_allWays_100 : decode cX4_allWays 100 = .ok (.iload 4, 2) := by decide +kernel
theorem dX4_allWays_102 : decode cX4_allWays 102 = .ok (.aload_n 0, 1) := by decide +kernel
theorem dX4_allWays_103 : decode cX4_allWays 103 = .ok (.getfield 13, 3) := by decide +kernel
theorem dX4_allWays_106 : decode cX4_allWays 106 = .ok (.iload_n 2, 1) := by decide +kernel
theorem dX4_allWays_107 : decode cX4_allWays 107 = .ok (.iaload, 1) := by decide +kernel
theorem dX4_allWays_108 : decode cX4_allWays 108 = .ok (.isub, 1) := by decide +kernel
theorem dX4_allWays_109 : decode cX4_allWays 109 = .ok (.iaload, 1) := by decide +kernel
theorem dX4_allWays_110 : decode cX4_allWays 110 = .ok (.iadd, 1) := by decide +kernel
theorem dX4_allWays_111 : decode cX4_allWays 111 = .ok (.iastore, 1) := by decide +kernel
theorem dX4_allWays_112 : decode cX4_allWays 112 = .ok (.iinc 4 1, 3) := by decide +kernel
theorem dX4_allWays_115 : decode cX4_allWays 115 = .ok (.goto (-39), 3) := by decide +kernel
theorem dX4_allWays_118 : decode cX4_allWays 118 = .ok (.iinc 3 1, 3) := by decide +kernel
theorem dX4_allWays_121 : decode cX4_allWays 121 = .ok (.goto (-61), 3) := by decide +kernel
theorem dX4_allWays_124 : decode cX4_allWays 124 = .ok (.iinc 2 1, 3) := by decide +kernel
theorem dX4_allWays_127 : decode cX4_allWays 127 = .ok (.goto (-77), 3) := by decide +kernel
theorem dX4_allWays_130 : decode cX4_allWays 130 = .ok (.iconst 0, 1) := by decide +kernel
theorem dX4_allWays_131 : decode cX4_allWays 131 = .ok (.istore_n 2, 1) := by decide +kernel
theorem dX4_allWays_132 : decode cX4_allWays 132 = .ok (.iconst 1, 1) := by decide +kernel
theorem dX4_allWays_133 : decode cX4_allWays 133 = .ok (.istore_n 3, 1) := by decide +kernel
theorem dX4_allWays_134 : decode cX4_allWays 134 = .ok (.iload_n 3, 1) := by decide +kernel
theorem dX4_allWays_135 : decode cX4_allWays 135 = .ok (.aload_n 0, 1) := by decide +kernel
theorem dX4_allWays_136 : decode cX4_allWays 136 = .ok (.getfield 9, 3) := by decide +kernel
theorem dX4_allWays_139 : decode cX4_allWays 139 = .ok (.if_icmp .gt 20, 3) := by decide +kernel
theorem dX4_allWays_142 : decode cX4_allWays 142 = .ok (.iload_n 2, 1) := by decide +kernel
theorem dX4_allWays_143 : decode cX4_allWays 143 = .ok (.aload_n 0, 1) := by decide +kernel
theorem dX4_allWays_144 : decode cX4_allWays 144 = .ok (.getfield 37, 3) := by decide +kernel
theorem dX4_allWays_147 : decode cX4_allWays 147 = .ok (.iload_n 3, 1) := by decide +kernel
theorem dX4_allWays_148 : decode cX4_allWays 148 = .ok (.aaload, 1) := by decide +kernel
theorem dX4_allWays_149 : decode cX4_allWays 149 = .ok (.iload_n 1, 1) := by decide +kernel
theorem dX4_allWays_150 : decode cX4_allWays 150 = .ok (.iaload, 1) := by decide +kernel
theorem dX4_allWays_151 : decode cX4_allWays 151 = .ok (.iadd, 1) := by decide +kernel
theorem dX4_allWays_152 : decode cX4_allWays 152 = .ok (.istore_n 2, 1) := by decide +kernel
theorem dX4_allWays_153 : decode cX4_allWays 153 = .ok (.iinc 3 1, 3) := by decide +kernel
theorem dX4_allWays_156 : decode cX4_allWays 156 = .ok (.goto (-22), 3) := by decide +kernel
theorem dX4_allWays_159 : decode cX4_allWays 159 = .ok (.iload_n 2, 1) := by decide +kernel
theorem dX4_allWays_160 : decode cX4_allWays 160 = .ok (.ireturn, 1) := by decide +kernel
theorem dX4_addStamp_0 : decode cX4_addStamp 0 = .ok (.aload_n 0, 1) := by decide +kernel
theorem dX4_addStamp_1 : decode cX4_addStamp 1 = .ok (.iconst 0, 1) := by decide +kernel
theorem dX4_addStamp_2 : decode cX4_addStamp 2 = .ok (.putfield 40, 3) := by decide +kernel
theorem dX4_addStamp_5 : decode cX4_addStamp 5 = .ok (.iload_n 1, 1) := by decide +kernel
theorem dX4_addStamp_6 : decode cX4_addStamp 6 = .ok (.iconst 1, 1) := by decide +kernel
theorem dX4_addStamp_7 : decode cX4_addStamp 7 = .ok (.bipush 60, 2) := by decide +kernel
theorem dX4_addStamp_9 : decode cX4_addStamp 9 = .ok (.invokestatic 46, 3) := by decide +kernel
theorem dX4_addStamp_12 : decode cX4_addStamp 12 = .ok (.ifCond .eq 13, 3) := by decide +kernel
theorem dX4_addStamp_15 : decode cX4_addStamp 15 = .ok (.iload_n 2, 1) := by decide +kernel
theorem dX4_addStamp_16 : decode cX4_addStamp 16 = .ok (.iconst 0, 1) := by decide +kernel
theorem dX4_addStamp_17 : decode cX4_addStamp 17 = .ok (.bipush 99, 2) := by decide +kernel
theorem dX4_addStamp_19 : decode cX4_addStamp 19 = .ok (.invokestatic 46, 3) := by decide +kernel
theorem dX4_addStamp_22 : decode cX4_addStamp 22 = .ok (.ifCond .ne 9, 3) := by decide +kernel
theorem dX4_addStamp_25 : decode cX4_addStamp 25 = .ok (.aload_n 0, 1) := by decide +kernel
theorem dX4_addStamp_26 : decode cX4_addStamp 26 = .ok (.iconst 1, 1) := by decide +kernel
theorem dX4_addStamp_27 : decode cX4_addStamp 27 = .ok (.invokevirtual 80, 3) := by decide +kernel
theorem dX4_addStamp_30 : decode cX4_addStamp 30 = .ok (.ireturn, 1) := by decide +kernel
theorem dX4_addStamp_31 : decode cX4_addStamp 31 = .ok (.aload_n 0, 1) := by decide +kernel
theorem dX4_addStamp_32 : decode cX4_addStamp 32 = .ok (.getfield 43, 3) := by decide +kernel
theorem dX4_addStamp_35 : decode cX4_addStamp 35 = .ok (.bipush 8, 2) := by decide +kernel
theorem dX4_addStamp_37 : decode cX4_addStamp 37 = .ok (.if_icmp .eq 11, 3) := by decide +kernel
theorem dX4_addStamp_40 : decode cX4_addStamp 40 = .ok (.aload_n 0, 1) := by decide +kernel
theorem dX4_addStamp_41 : decode cX4_addStamp 41 = .ok (.iload_n 1, 1) := by decide +kernel
theorem dX4_addStamp_42 : decode cX4_addStamp 42 = .ok (.invokevirtual 83, 3) := by decide +kernel
theorem dX4_addStamp_45 : decode cX4_addStamp 45 = .ok (.ifCond .eq 9, 3) := by decide +kernel
theorem dX4_addStamp_48 : decode cX4_addStamp 48 = .ok (.aload_n 0, 1) := by decide +kernel
theorem dX4_addStamp_49 : decode cX4_addStamp 49 = .ok (.iconst 2, 1) := by decide +kernel
theorem dX4_addStamp_50 : decode cX4_addStamp 50 = .ok (.invokevirtual 80, 3) := by decide +kernel
theorem dX4_addStamp_53 : decode cX4_addStamp 53 = .ok (.ireturn, 1) := by decide +kernel
theorem dX4_addStamp_54 : decode cX4_addStamp 54 = .ok (.aload_n 0, 1) := by decide +kernel
theorem dX4_addStamp_55 : decode cX4_addStamp 55 = .ok (.getfield 13, 3) := by decide +kernel
theorem dX4_addStamp_58 : decode cX4_addStamp 58 = .ok (.aload_n 0, 1) := by decide +kernel
theorem dX4_addStamp_59 : decode cX4_addStamp 59 = .ok (.getfield 43, 3) := by decide +kernel
theorem dX4_addStamp_62 : decode cX4_addStamp 62 = .ok (.iload_n 1, 1) := by decide +kernel
theorem dX4_addStamp_63 : decode cX4_addStamp 63 = .ok (.iastore, 1) := by decide +kernel
theorem dX4_addStamp_64 : decode cX4_addStamp 64 = .ok (.aload_n 0, 1) := by decide +kernel
theorem dX4_addStamp_65 : decode cX4_addStamp 65 = .ok (.getfield 17, 3) := by decide +kernel
theorem dX4_addStamp_68 : decode cX4_addStamp 68 = .ok (.aload_n 0, 1) := by decide +kernel
theorem dX4_addStamp_69 : decode cX4_addStamp 69 = .ok (.getfield 43, 3) := by decide +kernel
theorem dX4_addStamp_72 : decode cX4_addStamp 72 = .ok (.iload_n 2, 1) := by decide +kernel
theorem dX4_addStamp_73 : decode cX4_addStamp 73 = .ok (.iastore, 1) := by decide +kernel
theorem dX4_addStamp_74 : decode cX4_addStamp 74 = .ok (.aload_n 0, 1) := by decide +kernel
theorem dX4_addStamp_75 : decode cX4_addStamp 75 = .ok (.getfield 20, 3) := by decide +kernel
theorem dX4_addStamp_78 : decode cX4_addStamp 78 = .ok (.aload_n 0, 1) := by decide +kernel
theorem dX4_addStamp_79 : decode cX4_addStamp 79 = .ok (.getfield 43, 3) := by decide +kernel
theorem dX4_addStamp_82 : decode cX4_addStamp 82 = .ok (.iconst 0, 1) := by decide +kernel
theorem dX4_addStamp_83 : decode cX4_addStamp 83 = .ok (.iastore, 1) := by decide +kernel
theorem dX4_addStamp_84 : decode cX4_addStamp 84 = .ok (.aload_n 0, 1) := by decide +kernel
theorem dX4_addStamp_85 : decode cX4_addStamp 85 = .ok (.dup, 1) := by decide +kernel
theorem dX4_addStamp_86 : decode cX4_addStamp 86 = .ok (.getfield 43, 3) := by decide +kernel
theorem dX4_addStamp_89 : decode cX4_addStamp 89 = .ok (.iconst 1, 1) := by decide +kernel
theorem dX4_addStamp_90 : decode cX4_addStamp 90 = .ok (.iadd, 1) := by decide +kernel
theorem dX4_addStamp_91 : decode cX4_addStamp 91 = .ok (.putfield 43, 3) := by decide +kernel
theorem dX4_addStamp_94 : decode cX4_addStamp 94 = .ok (.aload_n 0, 1) := by decide +kernel
theorem dX4_addStamp_95 : decode cX4_addStamp 95 = .ok (.getfield 43, 3) := by decide +kernel
theorem dX4_addStamp_98 : decode cX4_addStamp 98 = .ok (.iconst 1, 1) := by decide +kernel
theorem dX4_addStamp_99 : decode cX4_addStamp 99 = .ok (.isub, 1) := by decide +kernel
theorem dX4_addStamp_100 : decode cX4_addStamp 100 = .ok (.ireturn, 1) := by decide +kernel
theorem dX4_close_0 : decode cX4_close 0 = .ok (.iload_n 1, 1) := by decide +kernel
theorem dX4_close_1 : decode cX4_close 1 = .ok (.istore_n 3, 1) := by decide +kernel
theorem dX4_close_2 : decode cX4_close 2 = .ok (.iload_n 3, 1) := by decide +kernel
theorem dX4_close_3 : decode cX4_close 3 = .ok (.iload_n 2, 1) := by decide +kernel
theorem dX4_close_4 : decode cX4_close 4 = .ok (.if_icmp .ge 17, 3) := by decide +kernel
theorem dX4_close_7 : decode cX4_close 7 = .ok (.aload_n 0, 1) := by decide +kernel
theorem dX4_close_8 : decode cX4_close 8 = .ok (.iload_n 3, 1) := by decide +kernel
theorem dX4_close_9 : decode cX4_close 9 = .ok (.aload_n 0, 1) := by decide +kernel
theorem dX4_close_10 : decode cX4_close 10 = .ok (.iload_n 3, 1) := by decide +kernel
theorem dX4_close_11 : decode cX4_close 11 = .ok (.iconst 1, 1) := by decide +kernel
theorem dX4_close_12 : decode cX4_close 12 = .ok (.iadd, 1) := by decide +kernel
theorem dX4_close_13 : decode cX4_close 13 = .ok (.iaload, 1) := by decide +kernel
theorem dX4_close_14 : decode cX4_close 14 = .ok (.iastore, 1) := by decide +kernel
theorem dX4_close_15 : decode cX4_close 15 = .ok (.iinc 3 1, 3) := by decide +kernel
theorem dX4_close_18 : decode cX4_close 18 = .ok (.goto (-16), 3) := by decide +kernel
theorem dX4_close_21 : decode cX4_close 21 = .ok (.return_, 1) := by decide +kernel
theorem dX4_withdraw_0 : decode cX4_withdraw 0 = .ok (.aload_n 0, 1) := by decide +kernel
theorem dX4_withdraw_1 : decode cX4_withdraw 1 = .ok (.iconst 0, 1) := by decide +kernel
theorem dX4_withdraw_2 : decode cX4_withdraw 2 = .ok (.putfield 40, 3) := by decide +kernel
theorem dX4_withdraw_5 : decode cX4_withdraw 5 = .ok (.aload_n 0, 1) := by decide +kernel
theorem dX4_withdraw_6 : decode cX4_withdraw 6 = .ok (.iload_n 1, 1) := by decide +kernel
theorem dX4_withdraw_7 : decode cX4_withdraw 7 = .ok (.invokevirtual 86, 3) := by decide +kernel
theorem dX4_withdraw_10 : decode cX4_withdraw 10 = .ok (.ifCond .ne 9, 3) := by decide +kernel
theorem dX4_withdraw_13 : decode cX4_withdraw 13 = .ok (.aload_n 0, 1) := by decide +kernel
theorem dX4_withdraw_14 : decode cX4_withdraw 14 = .ok (.iconst 1, 1) := by decide +kernel
theorem dX4_withdraw_15 : decode cX4_withdraw 15 = .ok (.invokevirtual 80, 3) := by decide +kernel
theorem dX4_withdraw_18 : decode cX4_withdraw 18 = .ok (.ireturn, 1) := by decide +kernel
theorem dX4_withdraw_19 : decode cX4_withdraw 19 = .ok (.aload_n 0, 1) := by decide +kernel
theorem dX4_withdraw_20 : decode cX4_withdraw 20 = .ok (.getfield 17, 3) := by decide +kernel
theorem dX4_withdraw_23 : decode cX4_withdraw 23 = .ok (.iload_n 1, 1) := by decide +kernel
theorem dX4_withdraw_24 : decode cX4_withdraw 24 = .ok (.iaload, 1) := by decide +kernel
theorem dX4_withdraw_25 : decode cX4_withdraw 25 = .ok (.istore_n 2, 1) := by decide +kernel
theorem dX4_withdraw_26 : decode cX4_withdraw 26 = .ok (.aload_n 0, 1) := by decide +kernel
theorem dX4_withdraw_27 : decode cX4_withdraw 27 = .ok (.dup, 1) := by decide +kernel
theorem dX4_withdraw_28 : decode cX4_withdraw 28 = .ok (.getfield 43, 3) := by decide +kernel
theorem dX4_withdraw_31 : decode cX4_withdraw 31 = .ok (.iconst 1, 1) := by decide +kernel
theorem dX4_withdraw_32 : decode cX4_withdraw 32 = .ok (.isub, 1) := by decide +kernel
theorem dX4_withdraw_33 : decode cX4_withdraw 33 = .ok (.putfield 43, 3) := by decide +kernel
theorem dX4_withdraw_36 : decode cX4_withdraw 36 = .ok (.aload_n 0, 1) := by decide +kernel
theorem dX4_withdraw_37 : decode cX4_withdraw 37 = .ok (.getfield 13, 3) := by decide +kernel
theorem dX4_withdraw_40 : decode cX4_withdraw 40 = .ok (.iload_n 1, 1) := by decide +kernel
theorem dX4_withdraw_41 : decode cX4_withdraw 41 = .ok (.aload_n 0, 1) := by decide +kernel
theorem dX4_withdraw_42 : decode cX4_withdraw 42 = .ok (.getfield 43, 3) := by decide +kernel
theorem dX4_withdraw_45 : decode cX4_withdraw 45 = .ok (.invokestatic 89, 3) := by decide +kernel
theorem dX4_withdraw_48 : decode cX4_withdraw 48 = .ok (.aload_n 0, 1) := by decide +kernel
theorem dX4_withdraw_49 : decode cX4_withdraw 49 = .ok (.getfield 17, 3) := by decide +kernel
theorem dX4_withdraw_52 : decode cX4_withdraw 52 = .ok (.iload_n 1, 1) := by decide +kernel
theorem dX4_withdraw_53 : decode cX4_withdraw 53 = .ok (.aload_n 0, 1) := by decide +kernel
theorem dX4_withdraw_54 : decode cX4_withdraw 54 = .ok (.getfield 43, 3) := by decide +kernel
theorem dX4_withdraw_57 : decode cX4_withdraw 57 = .ok (.invokestatic 89, 3) := by decide +kernel
theorem dX4_withdraw_60 : decode cX4_withdraw 60 = .ok (.aload_n 0, 1) := by decide +kernel
theorem dX4_withdraw_61 : decode cX4_withdraw 61 = .ok (.getfield 20, 3) := by decide +kernel
theorem dX4_withdraw_64 : decode cX4_withdraw 64 = .ok (.iload_n 1, 1) := by decide +kernel
theorem dX4_withdraw_65 : decode cX4_withdraw 65 = .ok (.aload_n 0, 1) := by decide +kernel
theorem dX4_withdraw_66 : decode cX4_withdraw 66 = .ok (.getfield 43, 3) := by decide +kernel
theorem dX4_withdraw_69 : decode cX4_withdraw 69 = .ok (.invokestatic 89, 3) := by decide +kernel
theorem dX4_withdraw_72 : decode cX4_withdraw 72 = .ok (.iload_n 2, 1) := by decide +kernel
theorem dX4_withdraw_73 : decode cX4_withdraw 73 = .ok (.ireturn, 1) := by decide +kernel
theorem dX4_print_0 : decode cX4_print 0 = .ok (.aload_n 0, 1) := by decide +kernel
theorem dX4_print_1 : decode cX4_print 1 = .ok (.iconst 0, 1) := by decide +kernel
theorem dX4_print_2 : decode cX4_print 2 = .ok (.putfield 40, 3) := by decide +kernel
theorem dX4_print_5 : decode cX4_print 5 = .ok (.aload_n 0, 1) := by decide +kernel
theorem dX4_print_6 : decode cX4_print 6 = .ok (.iload_n 1, 1) := by decide +kernel
theorem dX4_print_7 : decode cX4_print 7 = .ok (.invokevirtual 86, 3) := by decide +kernel
theorem dX4_print_10 : decode cX4_print 10 = .ok (.ifCond .ne 9, 3) := by decide +kernel
theorem dX4_print_13 : decode cX4_print 13 = .ok (.aload_n 0, 1) := by decide +kernel
theorem dX4_print_14 : decode cX4_print 14 = .ok (.iconst 1, 1) := by decide +kernel
theorem dX4_print_15 : decode cX4_print 15 = .ok (.invokevirtual 80, 3) := by decide +kernel
theorem dX4_print_18 : decode cX4_print 18 = .ok (.ireturn, 1) := by decide +kernel
theorem dX4_print_19 : decode cX4_print 19 = .ok (.iload_n 2, 1) := by decide +kernel
theorem dX4_print_20 : decode cX4_print 20 = .ok (.iconst 1, 1) := by decide +kernel
theorem dX4_print_21 : decode cX4_print 21 = .ok (.bipush 99, 2) := by decide +kernel
theorem dX4_print_23 : decode cX4_print 23 = .ok (.invokestatic 46, 3) := by decide +kernel
theorem dX4_print_26 : decode cX4_print 26 = .ok (.ifCond .ne 9, 3) := by decide +kernel
theorem dX4_print_29 : decode cX4_print 29 = .ok (.aload_n 0, 1) := by decide +kernel
theorem dX4_print_30 : decode cX4_print 30 = .ok (.iconst 2, 1) := by decide +kernel
theorem dX4_print_31 : decode cX4_print 31 = .ok (.invokevirtual 80, 3) := by decide +kernel
theorem dX4_print_34 : decode cX4_print 34 = .ok (.ireturn, 1) := by decide +kernel
theorem dX4_print_35 : decode cX4_print 35 = .ok (.aload_n 0, 1) := by decide +kernel
theorem dX4_print_36 : decode cX4_print 36 = .ok (.getfield 17, 3) := by decide +kernel
theorem dX4_print_39 : decode cX4_print 39 = .ok (.iload_n 1, 1) := by decide +kernel
theorem dX4_print_40 : decode cX4_print 40 = .ok (.bipush 99, 2) := by decide +kernel
theorem dX4_print_42 : decode cX4_print 42 = .ok (.aload_n 0, 1) := by decide +kernel
theorem dX4_print_43 : decode cX4_print 43 = .ok (.getfield 17, 3) := by decide +kernel
theorem dX4_print_46 : decode cX4_print 46 = .ok (.iload_n 1, 1) := by decide +kernel
theorem dX4_print_47 : decode cX4_print 47 = .ok (.iaload, 1) := by decide +kernel
theorem dX4_print_48 : decode cX4_print 48 = .ok (.iload_n 2, 1) := by decide +kernel
theorem dX4_print_49 : decode cX4_print 49 = .ok (.iadd, 1) := by decide +kernel
theorem dX4_print_50 : decode cX4_print 50 = .ok (.invokestatic 50, 3) := by decide +kernel
theorem dX4_print_53 : decode cX4_print 53 = .ok (.iastore, 1) := by decide +kernel
theorem dX4_print_54 : decode cX4_print 54 = .ok (.aload_n 0, 1) := by decide +kernel
theorem dX4_print_55 : decode cX4_print 55 = .ok (.getfield 17, 3) := by decide +kernel
theorem dX4_print_58 : decode cX4_print 58 = .ok (.iload_n 1, 1) := by decide +kernel
theorem dX4_print_59 : decode cX4_print 59 = .ok (.iaload, 1) := by decide +kernel
theorem dX4_print_60 : decode cX4_print 60 = .ok (.ireturn, 1) := by decide +kernel
theorem dX4_setRoom_0 : decode cX4_setRoom 0 = .ok (.aload_n 0, 1) := by decide +kernel
theorem dX4_setRoom_1 : decode cX4_setRoom 1 = .ok (.iconst 0, 1) := by decide +kernel
theorem dX4_setRoom_2 : decode cX4_setRoom 2 = .ok (.putfield 40, 3) := by decide +kernel
theorem dX4_setRoom_5 : decode cX4_setRoom 5 = .ok (.iload_n 1, 1) := by decide +kernel
theorem dX4_setRoom_6 : decode cX4_setRoom 6 = .ok (.iconst 1, 1) := by decide +kernel
theorem dX4_setRoom_7 : decode cX4_setRoom 7 = .ok (.bipush 12, 2) := by decide +kernel
theorem dX4_setRoom_9 : decode cX4_setRoom 9 = .ok (.invokestatic 46, 3) := by decide +kernel
theorem dX4_setRoom_12 : decode cX4_setRoom 12 = .ok (.ifCond .ne 9, 3) := by decide +kernel
theorem dX4_setRoom_15 : decode cX4_setRoom 15 = .ok (.aload_n 0, 1) := by decide +kernel
theorem dX4_setRoom_16 : decode cX4_setRoom 16 = .ok (.iconst 1, 1) := by decide +kernel
theorem dX4_setRoom_17 : decode cX4_setRoom 17 = .ok (.invokevirtual 80, 3) := by decide +kernel
theorem dX4_setRoom_20 : decode cX4_setRoom 20 = .ok (.ireturn, 1) := by decide +kernel
theorem dX4_setRoom_21 : decode cX4_setRoom 21 = .ok (.aload_n 0, 1) := by decide +kernel
theorem dX4_setRoom_22 : decode cX4_setRoom 22 = .ok (.getfield 9, 3) := by decide +kernel
theorem dX4_setRoom_25 : decode cX4_setRoom 25 = .ok (.istore_n 2, 1) := by decide +kernel
theorem dX4_setRoom_26 : decode cX4_setRoom 26 = .ok (.aload_n 0, 1) := by decide +kernel
theorem dX4_setRoom_27 : decode cX4_setRoom 27 = .ok (.iload_n 1, 1) := by decide +kernel
theorem dX4_setRoom_28 : decode cX4_setRoom 28 = .ok (.putfield 9, 3) := by decide +kernel
theorem dX4_setRoom_31 : decode cX4_setRoom 31 = .ok (.iload_n 2, 1) := by decide +kernel
theorem dX4_setRoom_32 : decode cX4_setRoom 32 = .ok (.ireturn, 1) := by decide +kernel
theorem dX4_vend_0 : decode cX4_vend 0 = .ok (.aload_n 0, 1) := by decide +kernel
theorem dX4_vend_1 : decode cX4_vend 1 = .ok (.iconst 0, 1) := by decide +kernel
theorem dX4_vend_2 : decode cX4_vend 2 = .ok (.putfield 40, 3) := by decide +kernel
theorem dX4_vend_5 : decode cX4_vend 5 = .ok (.iload_n 1, 1) := by decide +kernel
theorem dX4_vend_6 : decode cX4_vend 6 = .ok (.invokestatic 93, 3) := by decide +kernel
theorem dX4_vend_9 : decode cX4_vend 9 = .ok (.ifCond .ne 9, 3) := by decide +kernel
theorem dX4_vend_12 : decode cX4_vend 12 = .ok (.aload_n 0, 1) := by decide +kernel
theorem dX4_vend_13 : decode cX4_vend 13 = .ok (.iconst 1, 1) := by decide +kernel
theorem dX4_vend_14 : decode cX4_vend 14 = .ok (.invokevirtual 80, 3) := by decide +kernel
theorem dX4_vend_17 : decode cX4_vend 17 = .ok (.ireturn, 1) := by decide +kernel
theorem dX4_vend_18 : decode cX4_vend 18 = .ok (.aload_n 0, 1) := by decide +kernel
theorem dX4_vend_19 : decode cX4_vend 19 = .ok (.iload_n 1, 1) := by decide +kernel
theorem dX4_vend_20 : decode cX4_vend 20 = .ok (.invokevirtual 96, 3) := by decide +kernel
theorem dX4_vend_23 : decode cX4_vend 23 = .ok (.istore_n 2, 1) := by decide +kernel
theorem dX4_vend_24 : decode cX4_vend 24 = .ok (.iload_n 2, 1) := by decide +kernel
theorem dX4_vend_25 : decode cX4_vend 25 = .ok (.iconst (-1), 1) := by decide +kernel
theorem dX4_vend_26 : decode cX4_vend 26 = .ok (.if_icmp .ne 9, 3) := by decide +kernel
theorem dX4_vend_29 : decode cX4_vend 29 = .ok (.aload_n 0, 1) := by decide +kernel
theorem dX4_vend_30 : decode cX4_vend 30 = .ok (.iconst 2, 1) := by decide +kernel
theorem dX4_vend_31 : decode cX4_vend 31 = .ok (.invokevirtual 80, 3) := by decide +kernel
theorem dX4_vend_34 : decode cX4_vend 34 = .ok (.ireturn, 1) := by decide +kernel
theorem dX4_vend_35 : decode cX4_vend 35 = .ok (.iconst 0, 1) := by decide +kernel
theorem dX4_vend_36 : decode cX4_vend 36 = .ok (.istore_n 3, 1) := by decide +kernel
theorem dX4_vend_37 : decode cX4_vend 37 = .ok (.iload_n 3, 1) := by decide +kernel
theorem dX4_vend_38 : decode cX4_vend 38 = .ok (.aload_n 0, 1) := by decide +kernel
theorem dX4_vend_39 : decode cX4_vend 39 = .ok (.getfield 43, 3) := by decide +kernel
theorem dX4_vend_42 : decode cX4_vend 42 = .ok (.if_icmp .ge 24, 3) := by decide +kernel
theorem dX4_vend_45 : decode cX4_vend 45 = .ok (.aload_n 0, 1) := by decide +kernel
theorem dX4_vend_46 : decode cX4_vend 46 = .ok (.getfield 20, 3) := by decide +kernel
theorem dX4_vend_49 : decode cX4_vend 49 = .ok (.iload_n 3, 1) := by decide +kernel
theorem dX4_vend_50 : decode cX4_vend 50 = .ok (.dup2, 1) := by decide +kernel
theorem dX4_vend_51 : decode cX4_vend 51 = .ok (.iaload, 1) := by decide +kernel
theorem dX4_vend_52 : decode cX4_vend 52 = .ok (.aload_n 0, 1) := by decide +kernel
theorem dX4_vend_53 : decode cX4_vend 53 = .ok (.getfield 31, 3) := by decide +kernel
theorem dX4_vend_56 : decode cX4_vend 56 = .ok (.iload_n 3, 1) := by decide +kernel
theorem dX4_vend_57 : decode cX4_vend 57 = .ok (.iaload, 1) := by decide +kernel
theorem dX4_vend_58 : decode cX4_vend 58 = .ok (.iadd, 1) := by decide +kernel
theorem dX4_vend_59 : decode cX4_vend 59 = .ok (.iastore, 1) := by decide +kernel
theorem dX4_vend_60 : decode cX4_vend 60 = .ok (.iinc 3 1, 3) := by decide +kernel
theorem dX4_vend_63 : decode cX4_vend 63 = .ok (.goto (-26), 3) := by decide +kernel
theorem dX4_vend_66 : decode cX4_vend 66 = .ok (.aload_n 0, 1) := by decide +kernel
theorem dX4_vend_67 : decode cX4_vend 67 = .ok (.dup, 1) := by decide +kernel
theorem dX4_vend_68 : decode cX4_vend 68 = .ok (.getfield 99, 3) := by decide +kernel
theorem dX4_vend_71 : decode cX4_vend 71 = .ok (.iconst 1, 1) := by decide +kernel
theorem dX4_vend_72 : decode cX4_vend 72 = .ok (.iadd, 1) := by decide +kernel
theorem dX4_vend_73 : decode cX4_vend 73 = .ok (.putfield 99, 3) := by decide +kernel
theorem dX4_vend_76 : decode cX4_vend 76 = .ok (.aload_n 0, 1) := by decide +kernel
theorem dX4_vend_77 : decode cX4_vend 77 = .ok (.dup, 1) := by decide +kernel
theorem dX4_vend_78 : decode cX4_vend 78 = .ok (.getfield 102, 3) := by decide +kernel
theorem dX4_vend_81 : decode cX4_vend 81 = .ok (.iload_n 2, 1) := by decide +kernel
theorem dX4_vend_82 : decode cX4_vend 82 = .ok (.iadd, 1) := by decide +kernel
theorem dX4_vend_83 : decode cX4_vend 83 = .ok (.putfield 102, 3) := by decide +kernel
theorem dX4_vend_86 : decode cX4_vend 86 = .ok (.aload_n 0, 1) := by decide +kernel
theorem dX4_vend_87 : decode cX4_vend 87 = .ok (.dup, 1) := by decide +kernel
theorem dX4_vend_88 : decode cX4_vend 88 = .ok (.getfield 105, 3) := by decide +kernel
theorem dX4_vend_91 : decode cX4_vend 91 = .ok (.iload_n 2, 1) := by decide +kernel
theorem dX4_vend_92 : decode cX4_vend 92 = .ok (.iload_n 1, 1) := by decide +kernel
theorem dX4_vend_93 : decode cX4_vend 93 = .ok (.isub, 1) := by decide +kernel
theorem dX4_vend_94 : decode cX4_vend 94 = .ok (.iadd, 1) := by decide +kernel
theorem dX4_vend_95 : decode cX4_vend 95 = .ok (.putfield 105, 3) := by decide +kernel
theorem dX4_vend_98 : decode cX4_vend 98 = .ok (.iload_n 2, 1) := by decide +kernel
theorem dX4_vend_99 : decode cX4_vend 99 = .ok (.iload_n 1, 1) := by decide +kernel
theorem dX4_vend_100 : decode cX4_vend 100 = .ok (.isub, 1) := by decide +kernel
theorem dX4_vend_101 : decode cX4_vend 101 = .ok (.ireturn, 1) := by decide +kernel
theorem dX4_stamps_0 : decode cX4_stamps 0 = .ok (.aload_n 0, 1) := by decide +kernel
theorem dX4_stamps_1 : decode cX4_stamps 1 = .ok (.aload_n 0, 1) := by decide +kernel
theorem dX4_stamps_2 : decode cX4_stamps 2 = .ok (.getfield 43, 3) := by decide +kernel
theorem dX4_stamps_5 : decode cX4_stamps 5 = .ok (.invokevirtual 108, 3) := by decide +kernel
theorem dX4_stamps_8 : decode cX4_stamps 8 = .ok (.ireturn, 1) := by decide +kernel
theorem dX4_room_0 : decode cX4_room 0 = .ok (.aload_n 0, 1) := by decide +kernel
theorem dX4_room_1 : decode cX4_room 1 = .ok (.aload_n 0, 1) := by decide +kernel
theorem dX4_room_2 : decode cX4_room 2 = .ok (.getfield 9, 3) := by decide +kernel
theorem dX4_room_5 : decode cX4_room 5 = .ok (.invokevirtual 108, 3) := by decide +kernel
theorem dX4_room_8 : decode cX4_room 8 = .ok (.ireturn, 1) := by decide +kernel
theorem dX4_of_0 : decode cX4_of 0 = .ok (.aload_n 0, 1) := by decide +kernel
theorem dX4_of_1 : decode cX4_of 1 = .ok (.iconst 0, 1) := by decide +kernel
theorem dX4_of_2 : decode cX4_of 2 = .ok (.putfield 40, 3) := by decide +kernel
theorem dX4_of_5 : decode cX4_of 5 = .ok (.aload_n 0, 1) := by decide +kernel
theorem dX4_of_6 : decode cX4_of 6 = .ok (.iload_n 1, 1) := by decide +kernel
theorem dX4_of_7 : decode cX4_of 7 = .ok (.invokevirtual 86, 3) := by decide +kernel
theorem dX4_of_10 : decode cX4_of 10 = .ok (.ifCond .eq 9, 3) := by decide +kernel
theorem dX4_of_13 : decode cX4_of 13 = .ok (.aload_n 2, 1) := by decide +kernel
theorem dX4_of_14 : decode cX4_of 14 = .ok (.iload_n 1, 1) := by decide +kernel
theorem dX4_of_15 : decode cX4_of 15 = .ok (.iaload, 1) := by decide +kernel
theorem dX4_of_16 : decode cX4_of 16 = .ok (.goto 8, 3) := by decide +kernel
theorem dX4_of_19 : decode cX4_of 19 = .ok (.aload_n 0, 1) := by decide +kernel
theorem dX4_of_20 : decode cX4_of 20 = .ok (.iconst 1, 1) := by decide +kernel
theorem dX4_of_21 : decode cX4_of 21 = .ok (.invokevirtual 80, 3) := by decide +kernel
theorem dX4_of_24 : decode cX4_of 24 = .ok (.ireturn, 1) := by decide +kernel
theorem dX4_valueOf_0 : decode cX4_valueOf 0 = .ok (.aload_n 0, 1) := by decide +kernel
theorem dX4_valueOf_1 : decode cX4_valueOf 1 = .ok (.iload_n 1, 1) := by decide +kernel
theorem dX4_valueOf_2 : decode cX4_valueOf 2 = .ok (.aload_n 0, 1) := by decide +kernel
theorem dX4_valueOf_3 : decode cX4_valueOf 3 = .ok (.getfield 13, 3) := by decide +kernel
theorem dX4_valueOf_6 : decode cX4_valueOf 6 = .ok (.invokevirtual 111, 3) := by decide +kernel
theorem dX4_valueOf_9 : decode cX4_valueOf 9 = .ok (.ireturn, 1) := by decide +kernel
theorem dX4_stockOf_0 : decode cX4_stockOf 0 = .ok (.aload_n 0, 1) := by decide +kernel
theorem dX4_stockOf_1 : decode cX4_stockOf 1 = .ok (.iload_n 1, 1) := by decide +kernel
theorem dX4_stockOf_2 : decode cX4_stockOf 2 = .ok (.aload_n 0, 1) := by decide +kernel
