theorem dX4_stockOf_3 : decode cX4_stockOf 3 = .ok (.getfield 17, 3) := by decide +kernel
theorem dX4_stockOf_6 : decode cX4_stockOf 6 = .ok (.invokevirtual 111, 3) := by decide +kernel
theorem dX4_stockOf_9 : decode cX4_stockOf 9 = .ok (.ireturn, 1) := by decide +kernel
theorem dX4_vendedOf_0 : decode cX4_vendedOf 0 = .ok (.aload_n 0, 1) := by decide +kernel
theorem dX4_vendedOf_1 : decode cX4_vendedOf 1 = .ok (.iload_n 1, 1) := by decide +kernel
theorem dX4_vendedOf_2 : decode cX4_vendedOf 2 = .ok (.aload_n 0, 1) := by decide +kernel
theorem dX4_vendedOf_3 : decode cX4_vendedOf 3 = .ok (.getfield 20, 3) := by decide +kernel
theorem dX4_vendedOf_6 : decode cX4_vendedOf 6 = .ok (.invokevirtual 111, 3) := by decide +kernel
theorem dX4_vendedOf_9 : decode cX4_vendedOf 9 = .ok (.ireturn, 1) := by decide +kernel
theorem dX4_letters_0 : decode cX4_letters 0 = .ok (.aload_n 0, 1) := by decide +kernel
theorem dX4_letters_1 : decode cX4_letters 1 = .ok (.aload_n 0, 1) := by decide +kernel
theorem dX4_letters_2 : decode cX4_letters 2 = .ok (.getfield 99, 3) := by decide +kernel
theorem dX4_letters_5 : decode cX4_letters 5 = .ok (.invokevirtual 108, 3) := by decide +kernel
theorem dX4_letters_8 : decode cX4_letters 8 = .ok (.ireturn, 1) := by decide +kernel
theorem dX4_taken_0 : decode cX4_taken 0 = .ok (.aload_n 0, 1) := by decide +kernel
theorem dX4_taken_1 : decode cX4_taken 1 = .ok (.aload_n 0, 1) := by decide +kernel
theorem dX4_taken_2 : decode cX4_taken 2 = .ok (.getfield 102, 3) := by decide +kernel
theorem dX4_taken_5 : decode cX4_taken 5 = .ok (.invokevirtual 108, 3) := by decide +kernel
theorem dX4_taken_8 : decode cX4_taken 8 = .ok (.ireturn, 1) := by decide +kernel
theorem dX4_overpaid_0 : decode cX4_overpaid 0 = .ok (.aload_n 0, 1) := by decide +kernel
theorem dX4_overpaid_1 : decode cX4_overpaid 1 = .ok (.aload_n 0, 1) := by decide +kernel
theorem dX4_overpaid_2 : decode cX4_overpaid 2 = .ok (.getfield 105, 3) := by decide +kernel
theorem dX4_overpaid_5 : decode cX4_overpaid 5 = .ok (.invokevirtual 108, 3) := by decide +kernel
theorem dX4_overpaid_8 : decode cX4_overpaid 8 = .ok (.ireturn, 1) := by decide +kernel
theorem dX4_scarce_0 : decode cX4_scarce 0 = .ok (.iconst (-1), 1) := by decide +kernel
theorem dX4_scarce_1 : decode cX4_scarce 1 = .ok (.istore_n 1, 1) := by decide +kernel
theorem dX4_scarce_2 : decode cX4_scarce 2 = .ok (.iconst 0, 1) := by decide +kernel
theorem dX4_scarce_3 : decode cX4_scarce 3 = .ok (.istore_n 2, 1) := by decide +kernel
theorem dX4_scarce_4 : decode cX4_scarce 4 = .ok (.iload_n 2, 1) := by decide +kernel
theorem dX4_scarce_5 : decode cX4_scarce 5 = .ok (.aload_n 0, 1) := by decide +kernel
theorem dX4_scarce_6 : decode cX4_scarce 6 = .ok (.getfield 43, 3) := by decide +kernel
theorem dX4_scarce_9 : decode cX4_scarce 9 = .ok (.if_icmp .ge 31, 3) := by decide +kernel
theorem dX4_scarce_12 : decode cX4_scarce 12 = .ok (.iload_n 1, 1) := by decide +kernel
theorem dX4_scarce_13 : decode cX4_scarce 13 = .ok (.iconst (-1), 1) := by decide +kernel
theorem dX4_scarce_14 : decode cX4_scarce 14 = .ok (.if_icmp .eq 18, 3) := by decide +kernel
theorem dX4_scarce_17 : decode cX4_scarce 17 = .ok (.aload_n 0, 1) := by decide +kernel
theorem dX4_scarce_18 : decode cX4_scarce 18 = .ok (.getfield 17, 3) := by decide +kernel
theorem dX4_scarce_21 : decode cX4_scarce 21 = .ok (.iload_n 2, 1) := by decide +kernel
theorem dX4_scarce_22 : decode cX4_scarce 22 = .ok (.iaload, 1) := by decide +kernel
theorem dX4_scarce_23 : decode cX4_scarce 23 = .ok (.aload_n 0, 1) := by decide +kernel
theorem dX4_scarce_24 : decode cX4_scarce 24 = .ok (.getfield 17, 3) := by decide +kernel
theorem dX4_scarce_27 : decode cX4_scarce 27 = .ok (.iload_n 1, 1) := by decide +kernel
theorem dX4_scarce_28 : decode cX4_scarce 28 = .ok (.iaload, 1) := by decide +kernel
theorem dX4_scarce_29 : decode cX4_scarce 29 = .ok (.if_icmp .ge 5, 3) := by decide +kernel
theorem dX4_scarce_32 : decode cX4_scarce 32 = .ok (.iload_n 2, 1) := by decide +kernel
theorem dX4_scarce_33 : decode cX4_scarce 33 = .ok (.istore_n 1, 1) := by decide +kernel
theorem dX4_scarce_34 : decode cX4_scarce 34 = .ok (.iinc 2 1, 3) := by decide +kernel
theorem dX4_scarce_37 : decode cX4_scarce 37 = .ok (.goto (-33), 3) := by decide +kernel
theorem dX4_scarce_40 : decode cX4_scarce 40 = .ok (.iload_n 1, 1) := by decide +kernel
theorem dX4_scarce_41 : decode cX4_scarce 41 = .ok (.ireturn, 1) := by decide +kernel
theorem dX4_scarcest_0 : decode cX4_scarcest 0 = .ok (.aload_n 0, 1) := by decide +kernel
theorem dX4_scarcest_1 : decode cX4_scarcest 1 = .ok (.aload_n 0, 1) := by decide +kernel
theorem dX4_scarcest_2 : decode cX4_scarcest 2 = .ok (.invokevirtual 115, 3) := by decide +kernel
theorem dX4_scarcest_5 : decode cX4_scarcest 5 = .ok (.invokevirtual 108, 3) := by decide +kernel
theorem dX4_scarcest_8 : decode cX4_scarcest 8 = .ok (.ireturn, 1) := by decide +kernel
theorem dX4_canPay_0 : decode cX4_canPay 0 = .ok (.aload_n 0, 1) := by decide +kernel
theorem dX4_canPay_1 : decode cX4_canPay 1 = .ok (.iconst 0, 1) := by decide +kernel
theorem dX4_canPay_2 : decode cX4_canPay 2 = .ok (.putfield 40, 3) := by decide +kernel
theorem dX4_canPay_5 : decode cX4_canPay 5 = .ok (.iload_n 1, 1) := by decide +kernel
theorem dX4_canPay_6 : decode cX4_canPay 6 = .ok (.invokestatic 93, 3) := by decide +kernel
theorem dX4_canPay_9 : decode cX4_canPay 9 = .ok (.ifCond .ne 9, 3) := by decide +kernel
theorem dX4_canPay_12 : decode cX4_canPay 12 = .ok (.aload_n 0, 1) := by decide +kernel
theorem dX4_canPay_13 : decode cX4_canPay 13 = .ok (.iconst 1, 1) := by decide +kernel
theorem dX4_canPay_14 : decode cX4_canPay 14 = .ok (.invokevirtual 119, 3) := by decide +kernel
theorem dX4_canPay_17 : decode cX4_canPay 17 = .ok (.ireturn, 1) := by decide +kernel
theorem dX4_canPay_18 : decode cX4_canPay 18 = .ok (.aload_n 0, 1) := by decide +kernel
theorem dX4_canPay_19 : decode cX4_canPay 19 = .ok (.invokevirtual 67, 3) := by decide +kernel
theorem dX4_canPay_22 : decode cX4_canPay 22 = .ok (.aload_n 0, 1) := by decide +kernel
theorem dX4_canPay_23 : decode cX4_canPay 23 = .ok (.iload_n 1, 1) := by decide +kernel
theorem dX4_canPay_24 : decode cX4_canPay 24 = .ok (.invokevirtual 63, 3) := by decide +kernel
theorem dX4_canPay_27 : decode cX4_canPay 27 = .ok (.ireturn, 1) := by decide +kernel
theorem dX4_over_0 : decode cX4_over 0 = .ok (.aload_n 0, 1) := by decide +kernel
theorem dX4_over_1 : decode cX4_over 1 = .ok (.iload_n 1, 1) := by decide +kernel
theorem dX4_over_2 : decode cX4_over 2 = .ok (.invokevirtual 70, 3) := by decide +kernel
theorem dX4_over_5 : decode cX4_over 5 = .ok (.istore_n 2, 1) := by decide +kernel
theorem dX4_over_6 : decode cX4_over 6 = .ok (.iload_n 2, 1) := by decide +kernel
theorem dX4_over_7 : decode cX4_over 7 = .ok (.iconst (-1), 1) := by decide +kernel
theorem dX4_over_8 : decode cX4_over 8 = .ok (.if_icmp .ne 7, 3) := by decide +kernel
theorem dX4_over_11 : decode cX4_over 11 = .ok (.iconst (-1), 1) := by decide +kernel
theorem dX4_over_12 : decode cX4_over 12 = .ok (.goto 6, 3) := by decide +kernel
theorem dX4_over_15 : decode cX4_over 15 = .ok (.iload_n 2, 1) := by decide +kernel
theorem dX4_over_16 : decode cX4_over 16 = .ok (.iload_n 1, 1) := by decide +kernel
theorem dX4_over_17 : decode cX4_over 17 = .ok (.isub, 1) := by decide +kernel
theorem dX4_over_18 : decode cX4_over 18 = .ok (.ireturn, 1) := by decide +kernel
theorem dX4_overpay_0 : decode cX4_overpay 0 = .ok (.aload_n 0, 1) := by decide +kernel
theorem dX4_overpay_1 : decode cX4_overpay 1 = .ok (.iconst 0, 1) := by decide +kernel
theorem dX4_overpay_2 : decode cX4_overpay 2 = .ok (.putfield 40, 3) := by decide +kernel
theorem dX4_overpay_5 : decode cX4_overpay 5 = .ok (.iload_n 1, 1) := by decide +kernel
theorem dX4_overpay_6 : decode cX4_overpay 6 = .ok (.invokestatic 93, 3) := by decide +kernel
theorem dX4_overpay_9 : decode cX4_overpay 9 = .ok (.ifCond .ne 9, 3) := by decide +kernel
theorem dX4_overpay_12 : decode cX4_overpay 12 = .ok (.aload_n 0, 1) := by decide +kernel
theorem dX4_overpay_13 : decode cX4_overpay 13 = .ok (.iconst 1, 1) := by decide +kernel
theorem dX4_overpay_14 : decode cX4_overpay 14 = .ok (.invokevirtual 80, 3) := by decide +kernel
theorem dX4_overpay_17 : decode cX4_overpay 17 = .ok (.ireturn, 1) := by decide +kernel
theorem dX4_overpay_18 : decode cX4_overpay 18 = .ok (.aload_n 0, 1) := by decide +kernel
theorem dX4_overpay_19 : decode cX4_overpay 19 = .ok (.invokevirtual 67, 3) := by decide +kernel
theorem dX4_overpay_22 : decode cX4_overpay 22 = .ok (.aload_n 0, 1) := by decide +kernel
theorem dX4_overpay_23 : decode cX4_overpay 23 = .ok (.iload_n 1, 1) := by decide +kernel
theorem dX4_overpay_24 : decode cX4_overpay 24 = .ok (.invokevirtual 122, 3) := by decide +kernel
theorem dX4_overpay_27 : decode cX4_overpay 27 = .ok (.ireturn, 1) := by decide +kernel
theorem dX4_many_0 : decode cX4_many 0 = .ok (.aload_n 0, 1) := by decide +kernel
theorem dX4_many_1 : decode cX4_many 1 = .ok (.iload_n 1, 1) := by decide +kernel
theorem dX4_many_2 : decode cX4_many 2 = .ok (.invokevirtual 70, 3) := by decide +kernel
theorem dX4_many_5 : decode cX4_many 5 = .ok (.istore_n 2, 1) := by decide +kernel
theorem dX4_many_6 : decode cX4_many 6 = .ok (.iload_n 2, 1) := by decide +kernel
theorem dX4_many_7 : decode cX4_many 7 = .ok (.iconst (-1), 1) := by decide +kernel
theorem dX4_many_8 : decode cX4_many 8 = .ok (.if_icmp .ne 7, 3) := by decide +kernel
theorem dX4_many_11 : decode cX4_many 11 = .ok (.iconst 0, 1) := by decide +kernel
theorem dX4_many_12 : decode cX4_many 12 = .ok (.goto 14, 3) := by decide +kernel
theorem dX4_many_15 : decode cX4_many 15 = .ok (.aload_n 0, 1) := by decide +kernel
theorem dX4_many_16 : decode cX4_many 16 = .ok (.getfield 28, 3) := by decide +kernel
theorem dX4_many_19 : decode cX4_many 19 = .ok (.aload_n 0, 1) := by decide +kernel
theorem dX4_many_20 : decode cX4_many 20 = .ok (.getfield 43, 3) := by decide +kernel
theorem dX4_many_23 : decode cX4_many 23 = .ok (.aaload, 1) := by decide +kernel
theorem dX4_many_24 : decode cX4_many 24 = .ok (.iload_n 2, 1) := by decide +kernel
theorem dX4_many_25 : decode cX4_many 25 = .ok (.iaload, 1) := by decide +kernel
theorem dX4_many_26 : decode cX4_many 26 = .ok (.ireturn, 1) := by decide +kernel
theorem dX4_stampsFor_0 : decode cX4_stampsFor 0 = .ok (.aload_n 0, 1) := by decide +kernel
theorem dX4_stampsFor_1 : decode cX4_stampsFor 1 = .ok (.iconst 0, 1) := by decide +kernel
theorem dX4_stampsFor_2 : decode cX4_stampsFor 2 = .ok (.putfield 40, 3) := by decide +kernel
theorem dX4_stampsFor_5 : decode cX4_stampsFor 5 = .ok (.iload_n 1, 1) := by decide +kernel
theorem dX4_stampsFor_6 : decode cX4_stampsFor 6 = .ok (.invokestatic 93, 3) := by decide +kernel
theorem dX4_stampsFor_9 : decode cX4_stampsFor 9 = .ok (.ifCond .ne 9, 3) := by decide +kernel
theorem dX4_stampsFor_12 : decode cX4_stampsFor 12 = .ok (.aload_n 0, 1) := by decide +kernel
theorem dX4_stampsFor_13 : decode cX4_stampsFor 13 = .ok (.iconst 1, 1) := by decide +kernel
theorem dX4_stampsFor_14 : decode cX4_stampsFor 14 = .ok (.invokevirtual 80, 3) := by decide +kernel
theorem dX4_stampsFor_17 : decode cX4_stampsFor 17 = .ok (.ireturn, 1) := by decide +kernel
theorem dX4_stampsFor_18 : decode cX4_stampsFor 18 = .ok (.aload_n 0, 1) := by decide +kernel
theorem dX4_stampsFor_19 : decode cX4_stampsFor 19 = .ok (.invokevirtual 67, 3) := by decide +kernel
theorem dX4_stampsFor_22 : decode cX4_stampsFor 22 = .ok (.aload_n 0, 1) := by decide +kernel
theorem dX4_stampsFor_23 : decode cX4_stampsFor 23 = .ok (.iload_n 1, 1) := by decide +kernel
theorem dX4_stampsFor_24 : decode cX4_stampsFor 24 = .ok (.invokevirtual 125, 3) := by decide +kernel
theorem dX4_stampsFor_27 : decode cX4_stampsFor 27 = .ok (.ireturn, 1) := by decide +kernel
theorem dX4_ofStampFor_0 : decode cX4_ofStampFor 0 = .ok (.aload_n 0, 1) := by decide +kernel
theorem dX4_ofStampFor_1 : decode cX4_ofStampFor 1 = .ok (.iconst 0, 1) := by decide +kernel
theorem dX4_ofStampFor_2 : decode cX4_ofStampFor 2 = .ok (.putfield 40, 3) := by decide +kernel
theorem dX4_ofStampFor_5 : decode cX4_ofStampFor 5 = .ok (.aload_n 0, 1) := by decide +kernel
theorem dX4_ofStampFor_6 : decode cX4_ofStampFor 6 = .ok (.iload_n 2, 1) := by decide +kernel
theorem dX4_ofStampFor_7 : decode cX4_ofStampFor 7 = .ok (.invokevirtual 86, 3) := by decide +kernel
theorem dX4_ofStampFor_10 : decode cX4_ofStampFor 10 = .ok (.ifCond .ne 9, 3) := by decide +kernel
theorem dX4_ofStampFor_13 : decode cX4_ofStampFor 13 = .ok (.aload_n 0, 1) := by decide +kernel
theorem dX4_ofStampFor_14 : decode cX4_ofStampFor 14 = .ok (.iconst 1, 1) := by decide +kernel
theorem dX4_ofStampFor_15 : decode cX4_ofStampFor 15 = .ok (.invokevirtual 80, 3) := by decide +kernel
theorem dX4_ofStampFor_18 : decode cX4_ofStampFor 18 = .ok (.ireturn, 1) := by decide +kernel
theorem dX4_ofStampFor_19 : decode cX4_ofStampFor 19 = .ok (.iload_n 1, 1) := by decide +kernel
theorem dX4_ofStampFor_20 : decode cX4_ofStampFor 20 = .ok (.invokestatic 93, 3) := by decide +kernel
theorem dX4_ofStampFor_23 : decode cX4_ofStampFor 23 = .ok (.ifCond .ne 9, 3) := by decide +kernel
theorem dX4_ofStampFor_26 : decode cX4_ofStampFor 26 = .ok (.aload_n 0, 1) := by decide +kernel
theorem dX4_ofStampFor_27 : decode cX4_ofStampFor 27 = .ok (.iconst 2, 1) := by decide +kernel
theorem dX4_ofStampFor_28 : decode cX4_ofStampFor 28 = .ok (.invokevirtual 80, 3) := by decide +kernel
theorem dX4_ofStampFor_31 : decode cX4_ofStampFor 31 = .ok (.ireturn, 1) := by decide +kernel
theorem dX4_ofStampFor_32 : decode cX4_ofStampFor 32 = .ok (.aload_n 0, 1) := by decide +kernel
theorem dX4_ofStampFor_33 : decode cX4_ofStampFor 33 = .ok (.invokevirtual 67, 3) := by decide +kernel
theorem dX4_ofStampFor_36 : decode cX4_ofStampFor 36 = .ok (.aload_n 0, 1) := by decide +kernel
theorem dX4_ofStampFor_37 : decode cX4_ofStampFor 37 = .ok (.iload_n 1, 1) := by decide +kernel
theorem dX4_ofStampFor_38 : decode cX4_ofStampFor 38 = .ok (.invokevirtual 70, 3) := by decide +kernel
theorem dX4_ofStampFor_41 : decode cX4_ofStampFor 41 = .ok (.istore_n 3, 1) := by decide +kernel
theorem dX4_ofStampFor_42 : decode cX4_ofStampFor 42 = .ok (.iload_n 3, 1) := by decide +kernel
theorem dX4_ofStampFor_43 : decode cX4_ofStampFor 43 = .ok (.iconst (-1), 1) := by decide +kernel
theorem dX4_ofStampFor_44 : decode cX4_ofStampFor 44 = .ok (.if_icmp .ne 5, 3) := by decide +kernel
theorem dX4_ofStampFor_47 : decode cX4_ofStampFor 47 = .ok (.iconst 0, 1) := by decide +kernel
theorem dX4_ofStampFor_48 : decode cX4_ofStampFor 48 = .ok (.ireturn, 1) := by decide +kernel
theorem dX4_ofStampFor_49 : decode cX4_ofStampFor 49 = .ok (.aload_n 0, 1) := by decide +kernel
theorem dX4_ofStampFor_50 : decode cX4_ofStampFor 50 = .ok (.iload_n 3, 1) := by decide +kernel
theorem dX4_ofStampFor_51 : decode cX4_ofStampFor 51 = .ok (.invokevirtual 74, 3) := by decide +kernel
theorem dX4_ofStampFor_54 : decode cX4_ofStampFor 54 = .ok (.aload_n 0, 1) := by decide +kernel
theorem dX4_ofStampFor_55 : decode cX4_ofStampFor 55 = .ok (.getfield 31, 3) := by decide +kernel
theorem dX4_ofStampFor_58 : decode cX4_ofStampFor 58 = .ok (.iload_n 2, 1) := by decide +kernel
theorem dX4_ofStampFor_59 : decode cX4_ofStampFor 59 = .ok (.iaload, 1) := by decide +kernel
theorem dX4_ofStampFor_60 : decode cX4_ofStampFor 60 = .ok (.ireturn, 1) := by decide +kernel
theorem dX4_reachNow_0 : decode cX4_reachNow 0 = .ok (.aload_n 0, 1) := by decide +kernel
theorem dX4_reachNow_1 : decode cX4_reachNow 1 = .ok (.aload_n 0, 1) := by decide +kernel
theorem dX4_reachNow_2 : decode cX4_reachNow 2 = .ok (.invokevirtual 128, 3) := by decide +kernel
theorem dX4_reachNow_5 : decode cX4_reachNow 5 = .ok (.invokevirtual 108, 3) := by decide +kernel
theorem dX4_reachNow_8 : decode cX4_reachNow 8 = .ok (.ireturn, 1) := by decide +kernel
theorem dX4_greatest_0 : decode cX4_greatest 0 = .ok (.aload_n 0, 1) := by decide +kernel
theorem dX4_greatest_1 : decode cX4_greatest 1 = .ok (.invokevirtual 56, 3) := by decide +kernel
theorem dX4_greatest_4 : decode cX4_greatest 4 = .ok (.aload_n 0, 1) := by decide +kernel
theorem dX4_greatest_5 : decode cX4_greatest 5 = .ok (.getfield 9, 3) := by decide +kernel
theorem dX4_greatest_8 : decode cX4_greatest 8 = .ok (.istore_n 1, 1) := by decide +kernel
theorem dX4_greatest_9 : decode cX4_greatest 9 = .ok (.iconst 0, 1) := by decide +kernel
theorem dX4_greatest_10 : decode cX4_greatest 10 = .ok (.istore_n 2, 1) := by decide +kernel
theorem dX4_greatest_11 : decode cX4_greatest 11 = .ok (.aload_n 0, 1) := by decide +kernel
theorem dX4_greatest_12 : decode cX4_greatest 12 = .ok (.getfield 43, 3) := by decide +kernel
theorem dX4_greatest_15 : decode cX4_greatest 15 = .ok (.iconst 1, 1) := by decide +kernel
theorem dX4_greatest_16 : decode cX4_greatest 16 = .ok (.isub, 1) := by decide +kernel
theorem dX4_greatest_17 : decode cX4_greatest 17 = .ok (.istore_n 3, 1) := by decide +kernel
theorem dX4_greatest_18 : decode cX4_greatest 18 = .ok (.iload_n 3, 1) := by decide +kernel
theorem dX4_greatest_19 : decode cX4_greatest 19 = .ok (.ifCond .lt 48, 3) := by decide +kernel
theorem dX4_greatest_22 : decode cX4_greatest 22 = .ok (.iload_n 1, 1) := by decide +kernel
theorem dX4_greatest_23 : decode cX4_greatest 23 = .ok (.aload_n 0, 1) := by decide +kernel
theorem dX4_greatest_24 : decode cX4_greatest 24 = .ok (.getfield 17, 3) := by decide +kernel
theorem dX4_greatest_27 : decode cX4_greatest 27 = .ok (.aload_n 0, 1) := by decide +kernel
theorem dX4_greatest_28 : decode cX4_greatest 28 = .ok (.getfield 23, 3) := by decide +kernel
theorem dX4_greatest_31 : decode cX4_greatest 31 = .ok (.iload_n 3, 1) := by decide +kernel
theorem dX4_greatest_32 : decode cX4_greatest 32 = .ok (.iaload, 1) := by decide +kernel
theorem dX4_greatest_33 : decode cX4_greatest 33 = .ok (.iaload, 1) := by decide +kernel
theorem dX4_greatest_34 : decode cX4_greatest 34 = .ok (.invokestatic 50, 3) := by decide +kernel
theorem dX4_greatest_37 : decode cX4_greatest 37 = .ok (.istore 4, 2) := by decide +kernel
theorem dX4_greatest_39 : decode cX4_greatest 39 = .ok (.iload_n 2, 1) := by decide +kernel
theorem dX4_greatest_40 : decode cX4_greatest 40 = .ok (.iload 4, 2) := by decide +kernel
theorem dX4_greatest_42 : decode cX4_greatest 42 = .ok (.aload_n 0, 1) := by decide +kernel
theorem dX4_greatest_43 : decode cX4_greatest 43 = .ok (.getfield 13, 3) := by decide +kernel
theorem dX4_greatest_46 : decode cX4_greatest 46 = .ok (.aload_n 0, 1) := by decide +kernel
theorem dX4_greatest_47 : decode cX4_greatest 47 = .ok (.getfield 23, 3) := by decide +kernel
theorem dX4_greatest_50 : decode cX4_greatest 50 = .ok (.iload_n 3, 1) := by decide +kernel
theorem dX4_greatest_51 : decode cX4_greatest 51 = .ok (.iaload, 1) := by decide +kernel
theorem dX4_greatest_52 : decode cX4_greatest 52 = .ok (.iaload, 1) := by decide +kernel
theorem dX4_greatest_53 : decode cX4_greatest 53 = .ok (.imul, 1) := by decide +kernel
theorem dX4_greatest_54 : decode cX4_greatest 54 = .ok (.iadd, 1) := by decide +kernel
theorem dX4_greatest_55 : decode cX4_greatest 55 = .ok (.istore_n 2, 1) := by decide +kernel
theorem dX4_greatest_56 : decode cX4_greatest 56 = .ok (.iload_n 1, 1) := by decide +kernel
theorem dX4_greatest_57 : decode cX4_greatest 57 = .ok (.iload 4, 2) := by decide +kernel
theorem dX4_greatest_59 : decode cX4_greatest 59 = .ok (.isub, 1) := by decide +kernel
theorem dX4_greatest_60 : decode cX4_greatest 60 = .ok (.istore_n 1, 1) := by decide +kernel
theorem dX4_greatest_61 : decode cX4_greatest 61 = .ok (.iinc 3 (-1), 3) := by decide +kernel
theorem dX4_greatest_64 : decode cX4_greatest 64 = .ok (.goto (-46), 3) := by decide +kernel
theorem dX4_greatest_67 : decode cX4_greatest 67 = .ok (.iload_n 2, 1) := by decide +kernel
theorem dX4_greatest_68 : decode cX4_greatest 68 = .ok (.ireturn, 1) := by decide +kernel
theorem dX4_most_0 : decode cX4_most 0 = .ok (.aload_n 0, 1) := by decide +kernel
theorem dX4_most_1 : decode cX4_most 1 = .ok (.aload_n 0, 1) := by decide +kernel
theorem dX4_most_2 : decode cX4_most 2 = .ok (.invokevirtual 131, 3) := by decide +kernel
theorem dX4_most_5 : decode cX4_most 5 = .ok (.invokevirtual 108, 3) := by decide +kernel
theorem dX4_most_8 : decode cX4_most 8 = .ok (.ireturn, 1) := by decide +kernel
theorem dX4_fewestFor_0 : decode cX4_fewestFor 0 = .ok (.aload_n 0, 1) := by decide +kernel
theorem dX4_fewestFor_1 : decode cX4_fewestFor 1 = .ok (.getfield 34, 3) := by decide +kernel
theorem dX4_fewestFor_4 : decode cX4_fewestFor 4 = .ok (.iload_n 1, 1) := by decide +kernel
theorem dX4_fewestFor_5 : decode cX4_fewestFor 5 = .ok (.iaload, 1) := by decide +kernel
theorem dX4_fewestFor_6 : decode cX4_fewestFor 6 = .ok (.aload_n 0, 1) := by decide +kernel
theorem dX4_fewestFor_7 : decode cX4_fewestFor 7 = .ok (.getfield 9, 3) := by decide +kernel
theorem dX4_fewestFor_10 : decode cX4_fewestFor 10 = .ok (.if_icmp .gt 12, 3) := by decide +kernel
theorem dX4_fewestFor_13 : decode cX4_fewestFor 13 = .ok (.aload_n 0, 1) := by decide +kernel
theorem dX4_fewestFor_14 : decode cX4_fewestFor 14 = .ok (.getfield 34, 3) := by decide +kernel
theorem dX4_fewestFor_17 : decode cX4_fewestFor 17 = .ok (.iload_n 1, 1) := by decide +kernel
theorem dX4_fewestFor_18 : decode cX4_fewestFor 18 = .ok (.iaload, 1) := by decide +kernel
theorem dX4_fewestFor_19 : decode cX4_fewestFor 19 = .ok (.goto 4, 3) := by decide +kernel
theorem dX4_fewestFor_22 : decode cX4_fewestFor 22 = .ok (.iconst (-1), 1) := by decide +kernel
theorem dX4_fewestFor_23 : decode cX4_fewestFor 23 = .ok (.ireturn, 1) := by decide +kernel
theorem dX4_fewest_0 : decode cX4_fewest 0 = .ok (.aload_n 0, 1) := by decide +kernel
theorem dX4_fewest_1 : decode cX4_fewest 1 = .ok (.iconst 0, 1) := by decide +kernel
theorem dX4_fewest_2 : decode cX4_fewest 2 = .ok (.putfield 40, 3) := by decide +kernel
theorem dX4_fewest_5 : decode cX4_fewest 5 = .ok (.iload_n 1, 1) := by decide +kernel
theorem dX4_fewest_6 : decode cX4_fewest 6 = .ok (.invokestatic 93, 3) := by decide +kernel
theorem dX4_fewest_9 : decode cX4_fewest 9 = .ok (.ifCond .ne 9, 3) := by decide +kernel
theorem dX4_fewest_12 : decode cX4_fewest 12 = .ok (.aload_n 0, 1) := by decide +kernel
theorem dX4_fewest_13 : decode cX4_fewest 13 = .ok (.iconst 1, 1) := by decide +kernel
theorem dX4_fewest_14 : decode cX4_fewest 14 = .ok (.invokevirtual 80, 3) := by decide +kernel
theorem dX4_fewest_17 : decode cX4_fewest 17 = .ok (.ireturn, 1) := by decide +kernel
theorem dX4_fewest_18 : decode cX4_fewest 18 = .ok (.aload_n 0, 1) := by decide +kernel
theorem dX4_fewest_19 : decode cX4_fewest 19 = .ok (.iconst 0, 1) := by decide +kernel
theorem dX4_fewest_20 : decode cX4_fewest 20 = .ok (.invokevirtual 77, 3) := by decide +kernel
theorem dX4_fewest_23 : decode cX4_fewest 23 = .ok (.aload_n 0, 1) := by decide +kernel
theorem dX4_fewest_24 : decode cX4_fewest 24 = .ok (.iload_n 1, 1) := by decide +kernel
theorem dX4_fewest_25 : decode cX4_fewest 25 = .ok (.invokevirtual 134, 3) := by decide +kernel
theorem dX4_fewest_28 : decode cX4_fewest 28 = .ok (.ireturn, 1) := by decide +kernel
theorem dX4_ways_0 : decode cX4_ways 0 = .ok (.aload_n 0, 1) := by decide +kernel
theorem dX4_ways_1 : decode cX4_ways 1 = .ok (.iconst 0, 1) := by decide +kernel
theorem dX4_ways_2 : decode cX4_ways 2 = .ok (.putfield 40, 3) := by decide +kernel
theorem dX4_ways_5 : decode cX4_ways 5 = .ok (.iload_n 1, 1) := by decide +kernel
theorem dX4_ways_6 : decode cX4_ways 6 = .ok (.invokestatic 93, 3) := by decide +kernel
theorem dX4_ways_9 : decode cX4_ways 9 = .ok (.ifCond .eq 11, 3) := by decide +kernel
theorem dX4_ways_12 : decode cX4_ways 12 = .ok (.aload_n 0, 1) := by decide +kernel
theorem dX4_ways_13 : decode cX4_ways 13 = .ok (.iload_n 1, 1) := by decide +kernel
theorem dX4_ways_14 : decode cX4_ways 14 = .ok (.invokevirtual 137, 3) := by decide +kernel
theorem dX4_ways_17 : decode cX4_ways 17 = .ok (.goto 8, 3) := by decide +kernel
theorem dX4_ways_20 : decode cX4_ways 20 = .ok (.aload_n 0, 1) := by decide +kernel
theorem dX4_ways_21 : decode cX4_ways 21 = .ok (.iconst 1, 1) := by decide +kernel
theorem dX4_ways_22 : decode cX4_ways 22 = .ok (.invokevirtual 80, 3) := by decide +kernel
theorem dX4_ways_25 : decode cX4_ways 25 = .ok (.ireturn, 1) := by decide +kernel
theorem dX4_reach_0 : decode cX4_reach 0 = .ok (.aload_n 0, 1) := by decide +kernel
theorem dX4_reach_1 : decode cX4_reach 1 = .ok (.aload_n 0, 1) := by decide +kernel
theorem dX4_reach_2 : decode cX4_reach 2 = .ok (.iconst 0, 1) := by decide +kernel
theorem dX4_reach_3 : decode cX4_reach 3 = .ok (.aload_n 0, 1) := by decide +kernel
theorem dX4_reach_4 : decode cX4_reach 4 = .ok (.getfield 9, 3) := by decide +kernel
theorem dX4_reach_7 : decode cX4_reach 7 = .ok (.invokevirtual 140, 3) := by decide +kernel
theorem dX4_reach_10 : decode cX4_reach 10 = .ok (.invokevirtual 108, 3) := by decide +kernel
theorem dX4_reach_13 : decode cX4_reach 13 = .ok (.ireturn, 1) := by decide +kernel
theorem dX4_gapFrom_0 : decode cX4_gapFrom 0 = .ok (.aload_n 0, 1) := by decide +kernel
theorem dX4_gapFrom_1 : decode cX4_gapFrom 1 = .ok (.iconst 0, 1) := by decide +kernel
theorem dX4_gapFrom_2 : decode cX4_gapFrom 2 = .ok (.putfield 40, 3) := by decide +kernel
theorem dX4_gapFrom_5 : decode cX4_gapFrom 5 = .ok (.iload_n 1, 1) := by decide +kernel
theorem dX4_gapFrom_6 : decode cX4_gapFrom 6 = .ok (.invokestatic 93, 3) := by decide +kernel
theorem dX4_gapFrom_9 : decode cX4_gapFrom 9 = .ok (.ifCond .ne 9, 3) := by decide +kernel
theorem dX4_gapFrom_12 : decode cX4_gapFrom 12 = .ok (.aload_n 0, 1) := by decide +kernel
theorem dX4_gapFrom_13 : decode cX4_gapFrom 13 = .ok (.iconst 1, 1) := by decide +kernel
theorem dX4_gapFrom_14 : decode cX4_gapFrom 14 = .ok (.invokevirtual 80, 3) := by decide +kernel
theorem dX4_gapFrom_17 : decode cX4_gapFrom 17 = .ok (.ireturn, 1) := by decide +kernel
theorem dX4_gapFrom_18 : decode cX4_gapFrom 18 = .ok (.aload_n 0, 1) := by decide +kernel
theorem dX4_gapFrom_19 : decode cX4_gapFrom 19 = .ok (.iconst 0, 1) := by decide +kernel
theorem dX4_gapFrom_20 : decode cX4_gapFrom 20 = .ok (.invokevirtual 77, 3) := by decide +kernel
theorem dX4_gapFrom_23 : decode cX4_gapFrom 23 = .ok (.iload_n 1, 1) := by decide +kernel
theorem dX4_gapFrom_24 : decode cX4_gapFrom 24 = .ok (.istore_n 2, 1) := by decide +kernel
theorem dX4_gapFrom_25 : decode cX4_gapFrom 25 = .ok (.iload_n 2, 1) := by decide +kernel
theorem dX4_gapFrom_26 : decode cX4_gapFrom 26 = .ok (.sipush 300, 3) := by decide +kernel
theorem dX4_gapFrom_29 : decode cX4_gapFrom 29 = .ok (.if_icmp .gt 24, 3) := by decide +kernel
theorem dX4_gapFrom_32 : decode cX4_gapFrom 32 = .ok (.aload_n 0, 1) := by decide +kernel
theorem dX4_gapFrom_33 : decode cX4_gapFrom 33 = .ok (.getfield 34, 3) := by decide +kernel
theorem dX4_gapFrom_36 : decode cX4_gapFrom 36 = .ok (.iload_n 2, 1) := by decide +kernel
theorem dX4_gapFrom_37 : decode cX4_gapFrom 37 = .ok (.iaload, 1) := by decide +kernel
theorem dX4_gapFrom_38 : decode cX4_gapFrom 38 = .ok (.aload_n 0, 1) := by decide +kernel
theorem dX4_gapFrom_39 : decode cX4_gapFrom 39 = .ok (.getfield 9, 3) := by decide +kernel
theorem dX4_gapFrom_42 : decode cX4_gapFrom 42 = .ok (.if_icmp .le 5, 3) := by decide +kernel
theorem dX4_gapFrom_45 : decode cX4_gapFrom 45 = .ok (.iload_n 2, 1) := by decide +kernel
theorem dX4_gapFrom_46 : decode cX4_gapFrom 46 = .ok (.ireturn, 1) := by decide +kernel
theorem dX4_gapFrom_47 : decode cX4_gapFrom 47 = .ok (.iinc 2 1, 3) := by decide +kernel
theorem dX4_gapFrom_50 : decode cX4_gapFrom 50 = .ok (.goto (-25), 3) := by decide +kernel
theorem dX4_gapFrom_53 : decode cX4_gapFrom 53 = .ok (.iconst (-1), 1) := by decide +kernel
theorem dX4_gapFrom_54 : decode cX4_gapFrom 54 = .ok (.ireturn, 1) := by decide +kernel
theorem dX4_gapsTo_0 : decode cX4_gapsTo 0 = .ok (.aload_n 0, 1) := by decide +kernel
theorem dX4_gapsTo_1 : decode cX4_gapsTo 1 = .ok (.iconst 0, 1) := by decide +kernel
theorem dX4_gapsTo_2 : decode cX4_gapsTo 2 = .ok (.putfield 40, 3) := by decide +kernel
theorem dX4_gapsTo_5 : decode cX4_gapsTo 5 = .ok (.iload_n 1, 1) := by decide +kernel
theorem dX4_gapsTo_6 : decode cX4_gapsTo 6 = .ok (.invokestatic 93, 3) := by decide +kernel
theorem dX4_gapsTo_9 : decode cX4_gapsTo 9 = .ok (.ifCond .ne 9, 3) := by decide +kernel
theorem dX4_gapsTo_12 : decode cX4_gapsTo 12 = .ok (.aload_n 0, 1) := by decide +kernel
theorem dX4_gapsTo_13 : decode cX4_gapsTo 13 = .ok (.iconst 1, 1) := by decide +kernel
theorem dX4_gapsTo_14 : decode cX4_gapsTo 14 = .ok (.invokevirtual 80, 3) := by decide +kernel
theorem dX4_gapsTo_17 : decode cX4_gapsTo 17 = .ok (.ireturn, 1) := by decide +kernel
theorem dX4_gapsTo_18 : decode cX4_gapsTo 18 = .ok (.aload_n 0, 1) := by decide +kernel
theorem dX4_gapsTo_19 : decode cX4_gapsTo 19 = .ok (.iconst 0, 1) := by decide +kernel
theorem dX4_gapsTo_20 : decode cX4_gapsTo 20 = .ok (.invokevirtual 77, 3) := by decide +kernel
theorem dX4_gapsTo_23 : decode cX4_gapsTo 23 = .ok (.iconst 0, 1) := by decide +kernel
theorem dX4_gapsTo_24 : decode cX4_gapsTo 24 = .ok (.istore_n 2, 1) := by decide +kernel
theorem dX4_gapsTo_25 : decode cX4_gapsTo 25 = .ok (.iconst 1, 1) := by decide +kernel
theorem dX4_gapsTo_26 : decode cX4_gapsTo 26 = .ok (.istore_n 3, 1) := by decide +kernel
theorem dX4_gapsTo_27 : decode cX4_gapsTo 27 = .ok (.iload_n 3, 1) := by decide +kernel
theorem dX4_gapsTo_28 : decode cX4_gapsTo 28 = .ok (.iload_n 1, 1) := by decide +kernel
theorem dX4_gapsTo_29 : decode cX4_gapsTo 29 = .ok (.if_icmp .gt 30, 3) := by decide +kernel
theorem dX4_gapsTo_32 : decode cX4_gapsTo 32 = .ok (.iload_n 2, 1) := by decide +kernel
theorem dX4_gapsTo_33 : decode cX4_gapsTo 33 = .ok (.aload_n 0, 1) := by decide +kernel
theorem dX4_gapsTo_34 : decode cX4_gapsTo 34 = .ok (.getfield 34, 3) := by decide +kernel
theorem dX4_gapsTo_37 : decode cX4_gapsTo 37 = .ok (.iload_n 3, 1) := by decide +kernel
theorem dX4_gapsTo_38 : decode cX4_gapsTo 38 = .ok (.iaload, 1) := by decide +kernel
theorem dX4_gapsTo_39 : decode cX4_gapsTo 39 = .ok (.aload_n 0, 1) := by decide +kernel
theorem dX4_gapsTo_40 : decode cX4_gapsTo 40 = .ok (.getfield 9, 3) := by decide +kernel
theorem dX4_gapsTo_43 : decode cX4_gapsTo 43 = .ok (.if_icmp .le 7, 3) := by decide +kernel
theorem dX4_gapsTo_46 : decode cX4_gapsTo 46 = .ok (.iconst 1, 1) := by decide +kernel
theorem dX4_gapsTo_47 : decode cX4_gapsTo 47 = .ok (.goto 4, 3) := by decide +kernel
theorem dX4_gapsTo_50 : decode cX4_gapsTo 50 = .ok (.iconst 0, 1) := by decide +kernel
theorem dX4_gapsTo_51 : decode cX4_gapsTo 51 = .ok (.iadd, 1) := by decide +kernel
theorem dX4_gapsTo_52 : decode cX4_gapsTo 52 = .ok (.istore_n 2, 1) := by decide +kernel
theorem dX4_gapsTo_53 : decode cX4_gapsTo 53 = .ok (.iinc 3 1, 3) := by decide +kernel
theorem dX4_gapsTo_56 : decode cX4_gapsTo 56 = .ok (.goto (-29), 3) := by decide +kernel
theorem dX4_gapsTo_59 : decode cX4_gapsTo 59 = .ok (.iload_n 2, 1) := by decide +kernel
theorem dX4_gapsTo_60 : decode cX4_gapsTo 60 = .ok (.ireturn, 1) := by decide +kernel
theorem dX4_lettersOf_0 : decode cX4_lettersOf 0 = .ok (.aload_n 0, 1) := by decide +kernel
theorem dX4_lettersOf_1 : decode cX4_lettersOf 1 = .ok (.iconst 0, 1) := by decide +kernel
theorem dX4_lettersOf_2 : decode cX4_lettersOf 2 = .ok (.putfield 40, 3) := by decide +kernel
theorem dX4_lettersOf_5 : decode cX4_lettersOf 5 = .ok (.iload_n 1, 1) := by decide +kernel
theorem dX4_lettersOf_6 : decode cX4_lettersOf 6 = .ok (.invokestatic 93, 3) := by decide +kernel
theorem dX4_lettersOf_9 : decode cX4_lettersOf 9 = .ok (.ifCond .ne 9, 3) := by decide +kernel
theorem dX4_lettersOf_12 : decode cX4_lettersOf 12 = .ok (.aload_n 0, 1) := by decide +kernel
theorem dX4_lettersOf_13 : decode cX4_lettersOf 13 = .ok (.iconst 1, 1) := by decide +kernel
theorem dX4_lettersOf_14 : decode cX4_lettersOf 14 = .ok (.invokevirtual 80, 3) := by decide +kernel
theorem dX4_lettersOf_17 : decode cX4_lettersOf 17 = .ok (.ireturn, 1) := by decide +kernel
theorem dX4_lettersOf_18 : decode cX4_lettersOf 18 = .ok (.bipush 8, 2) := by decide +kernel
theorem dX4_lettersOf_20 : decode cX4_lettersOf 20 = .ok (.newarray .int, 2) := by decide +kernel
theorem dX4_lettersOf_22 : decode cX4_lettersOf 22 = .ok (.astore_n 2, 1) := by decide +kernel
theorem dX4_lettersOf_23 : decode cX4_lettersOf 23 = .ok (.aload_n 0, 1) := by decide +kernel
theorem dX4_lettersOf_24 : decode cX4_lettersOf 24 = .ok (.getfield 17, 3) := by decide +kernel
theorem dX4_lettersOf_27 : decode cX4_lettersOf 27 = .ok (.iconst 0, 1) := by decide +kernel
theorem dX4_lettersOf_28 : decode cX4_lettersOf 28 = .ok (.aload_n 2, 1) := by decide +kernel
theorem dX4_lettersOf_29 : decode cX4_lettersOf 29 = .ok (.iconst 0, 1) := by decide +kernel
theorem dX4_lettersOf_30 : decode cX4_lettersOf 30 = .ok (.bipush 8, 2) := by decide +kernel
theorem dX4_lettersOf_32 : decode cX4_lettersOf 32 = .ok (.invokestatic 143, 3) := by decide +kernel
theorem dX4_lettersOf_35 : decode cX4_lettersOf 35 = .ok (.iconst 0, 1) := by decide +kernel
theorem dX4_lettersOf_36 : decode cX4_lettersOf 36 = .ok (.istore_n 3, 1) := by decide +kernel
theorem dX4_lettersOf_37 : decode cX4_lettersOf 37 = .ok (.iload_n 3, 1) := by decide +kernel
theorem dX4_lettersOf_38 : decode cX4_lettersOf 38 = .ok (.bipush 50, 2) := by decide +kernel
theorem dX4_lettersOf_40 : decode cX4_lettersOf 40 = .ok (.if_icmp .ge 18, 3) := by decide +kernel
theorem dX4_lettersOf_43 : decode cX4_lettersOf 43 = .ok (.aload_n 0, 1) := by decide +kernel
theorem dX4_lettersOf_44 : decode cX4_lettersOf 44 = .ok (.iload_n 1, 1) := by decide +kernel
theorem dX4_lettersOf_45 : decode cX4_lettersOf 45 = .ok (.invokevirtual 96, 3) := by decide +kernel
theorem dX4_lettersOf_48 : decode cX4_lettersOf 48 = .ok (.iconst (-1), 1) := by decide +kernel
theorem dX4_lettersOf_49 : decode cX4_lettersOf 49 = .ok (.if_icmp .eq 9, 3) := by decide +kernel
theorem dX4_lettersOf_52 : decode cX4_lettersOf 52 = .ok (.iinc 3 1, 3) := by decide +kernel
theorem dX4_lettersOf_55 : decode cX4_lettersOf 55 = .ok (.goto (-18), 3) := by decide +kernel
theorem dX4_lettersOf_58 : decode cX4_lettersOf 58 = .ok (.aload_n 2, 1) := by decide +kernel
theorem dX4_lettersOf_59 : decode cX4_lettersOf 59 = .ok (.iconst 0, 1) := by decide +kernel
theorem dX4_lettersOf_60 : decode cX4_lettersOf 60 = .ok (.aload_n 0, 1) := by decide +kernel
theorem dX4_lettersOf_61 : decode cX4_lettersOf 61 = .ok (.getfield 17, 3) := by decide +kernel
theorem dX4_lettersOf_64 : decode cX4_lettersOf 64 = .ok (.iconst 0, 1) := by decide +kernel
theorem dX4_lettersOf_65 : decode cX4_lettersOf 65 = .ok (.bipush 8, 2) := by decide +kernel
theorem dX4_lettersOf_67 : decode cX4_lettersOf 67 = .ok (.invokestatic 143, 3) := by decide +kernel
theorem dX4_lettersOf_70 : decode cX4_lettersOf 70 = .ok (.iload_n 3, 1) := by decide +kernel
theorem dX4_lettersOf_71 : decode cX4_lettersOf 71 = .ok (.ireturn, 1) := by decide +kernel
theorem dX4_valueBest_0 : decode cX4_valueBest 0 = .ok (.iconst (-1), 1) := by decide +kernel
theorem dX4_valueBest_1 : decode cX4_valueBest 1 = .ok (.istore_n 1, 1) := by decide +kernel
theorem dX4_valueBest_2 : decode cX4_valueBest 2 = .ok (.iconst (-1), 1) := by decide +kernel
theorem dX4_valueBest_3 : decode cX4_valueBest 3 = .ok (.istore_n 2, 1) := by decide +kernel
theorem dX4_valueBest_4 : decode cX4_valueBest 4 = .ok (.iconst 1, 1) := by decide +kernel
theorem dX4_valueBest_5 : decode cX4_valueBest 5 = .ok (.istore_n 3, 1) := by decide +kernel
theorem dX4_valueBest_6 : decode cX4_valueBest 6 = .ok (.iload_n 3, 1) := by decide +kernel
theorem dX4_valueBest_7 : decode cX4_valueBest 7 = .ok (.bipush 60, 2) := by decide +kernel
theorem dX4_valueBest_9 : decode cX4_valueBest 9 = .ok (.if_icmp .gt 45, 3) := by decide +kernel
theorem dX4_valueBest_12 : decode cX4_valueBest 12 = .ok (.aload_n 0, 1) := by decide +kernel
theorem dX4_valueBest_13 : decode cX4_valueBest 13 = .ok (.iload_n 3, 1) := by decide +kernel
theorem dX4_valueBest_14 : decode cX4_valueBest 14 = .ok (.invokevirtual 83, 3) := by decide +kernel
theorem dX4_valueBest_17 : decode cX4_valueBest 17 = .ok (.ifCond .eq 6, 3) := by decide +kernel
theorem dX4_valueBest_20 : decode cX4_valueBest 20 = .ok (.goto 28, 3) := by decide +kernel
theorem dX4_valueBest_23 : decode cX4_valueBest 23 = .ok (.aload_n 0, 1) := by decide +kernel
theorem dX4_valueBest_24 : decode cX4_valueBest 24 = .ok (.iload_n 3, 1) := by decide +kernel
theorem dX4_valueBest_25 : decode cX4_valueBest 25 = .ok (.aload_n 0, 1) := by decide +kernel
theorem dX4_valueBest_26 : decode cX4_valueBest 26 = .ok (.getfield 9, 3) := by decide +kernel
theorem dX4_valueBest_29 : decode cX4_valueBest 29 = .ok (.invokevirtual 140, 3) := by decide +kernel
theorem dX4_valueBest_32 : decode cX4_valueBest 32 = .ok (.istore 4, 2) := by decide +kernel
theorem dX4_valueBest_34 : decode cX4_valueBest 34 = .ok (.iload 4, 2) := by decide +kernel
theorem dX4_valueBest_36 : decode cX4_valueBest 36 = .ok (.iload_n 2, 1) := by decide +kernel
theorem dX4_valueBest_37 : decode cX4_valueBest 37 = .ok (.if_icmp .gt 6, 3) := by decide +kernel
theorem dX4_valueBest_40 : decode cX4_valueBest 40 = .ok (.goto 8, 3) := by decide +kernel
theorem dX4_valueBest_43 : decode cX4_valueBest 43 = .ok (.iload_n 3, 1) := by decide +kernel
theorem dX4_valueBest_44 : decode cX4_valueBest 44 = .ok (.istore_n 1, 1) := by decide +kernel
theorem dX4_valueBest_45 : decode cX4_valueBest 45 = .ok (.iload 4, 2) := by decide +kernel
theorem dX4_valueBest_47 : decode cX4_valueBest 47 = .ok (.istore_n 2, 1) := by decide +kernel
theorem dX4_valueBest_48 : decode cX4_valueBest 48 = .ok (.iinc 3 1, 3) := by decide +kernel
theorem dX4_valueBest_51 : decode cX4_valueBest 51 = .ok (.goto (-45), 3) := by decide +kernel
theorem dX4_valueBest_54 : decode cX4_valueBest 54 = .ok (.iload_n 1, 1) := by decide +kernel
theorem dX4_valueBest_55 : decode cX4_valueBest 55 = .ok (.ireturn, 1) := by decide +kernel
theorem dX4_bestValue_0 : decode cX4_bestValue 0 = .ok (.aload_n 0, 1) := by decide +kernel
theorem dX4_bestValue_1 : decode cX4_bestValue 1 = .ok (.aload_n 0, 1) := by decide +kernel
theorem dX4_bestValue_2 : decode cX4_bestValue 2 = .ok (.invokevirtual 149, 3) := by decide +kernel
theorem dX4_bestValue_5 : decode cX4_bestValue 5 = .ok (.invokevirtual 108, 3) := by decide +kernel
theorem dX4_bestValue_8 : decode cX4_bestValue 8 = .ok (.ireturn, 1) := by decide +kernel
theorem dX4_toPrint_0 : decode cX4_toPrint 0 = .ok (.iconst (-1), 1) := by decide +kernel
theorem dX4_toPrint_1 : decode cX4_toPrint 1 = .ok (.istore_n 1, 1) := by decide +kernel
theorem dX4_toPrint_2 : decode cX4_toPrint 2 = .ok (.iconst (-1), 1) := by decide +kernel
theorem dX4_toPrint_3 : decode cX4_toPrint 3 = .ok (.istore_n 2, 1) := by decide +kernel
theorem dX4_toPrint_4 : decode cX4_toPrint 4 = .ok (.iconst 0, 1) := by decide +kernel
theorem dX4_toPrint_5 : decode cX4_toPrint 5 = .ok (.istore_n 3, 1) := by decide +kernel
theorem dX4_toPrint_6 : decode cX4_toPrint 6 = .ok (.iload_n 3, 1) := by decide +kernel
theorem dX4_toPrint_7 : decode cX4_toPrint 7 = .ok (.aload_n 0, 1) := by decide +kernel
theorem dX4_toPrint_8 : decode cX4_toPrint 8 = .ok (.getfield 43, 3) := by decide +kernel
theorem dX4_toPrint_11 : decode cX4_toPrint 11 = .ok (.if_icmp .ge 61, 3) := by decide +kernel
theorem dX4_toPrint_14 : decode cX4_toPrint 14 = .ok (.aload_n 0, 1) := by decide +kernel
theorem dX4_toPrint_15 : decode cX4_toPrint 15 = .ok (.getfield 17, 3) := by decide +kernel
theorem dX4_toPrint_18 : decode cX4_toPrint 18 = .ok (.iload_n 3, 1) := by decide +kernel
theorem dX4_toPrint_19 : decode cX4_toPrint 19 = .ok (.iaload, 1) := by decide +kernel
theorem dX4_toPrint_20 : decode cX4_toPrint 20 = .ok (.istore 4, 2) := by decide +kernel
theorem dX4_toPrint_22 : decode cX4_toPrint 22 = .ok (.aload_n 0, 1) := by decide +kernel
theorem dX4_toPrint_23 : decode cX4_toPrint 23 = .ok (.getfield 17, 3) := by decide +kernel
theorem dX4_toPrint_26 : decode cX4_toPrint 26 = .ok (.iload_n 3, 1) := by decide +kernel
theorem dX4_toPrint_27 : decode cX4_toPrint 27 = .ok (.bipush 99, 2) := by decide +kernel
theorem dX4_toPrint_29 : decode cX4_toPrint 29 = .ok (.iload 4, 2) := by decide +kernel
theorem dX4_toPrint_31 : decode cX4_toPrint 31 = .ok (.bipush 20, 2) := by decide +kernel
theorem dX4_toPrint_33 : decode cX4_toPrint 33 = .ok (.iadd, 1) := by decide +kernel
theorem dX4_toPrint_34 : decode cX4_toPrint 34 = .ok (.invokestatic 50, 3) := by decide +kernel
theorem dX4_toPrint_37 : decode cX4_toPrint 37 = .ok (.iastore, 1) := by decide +kernel
theorem dX4_toPrint_38 : decode cX4_toPrint 38 = .ok (.aload_n 0, 1) := by decide +kernel
theorem dX4_toPrint_39 : decode cX4_toPrint 39 = .ok (.invokevirtual 128, 3) := by decide +kernel
theorem dX4_toPrint_42 : decode cX4_toPrint 42 = .ok (.istore 5, 2) := by decide +kernel
theorem dX4_toPrint_44 : decode cX4_toPrint 44 = .ok (.aload_n 0, 1) := by decide +kernel
theorem dX4_toPrint_45 : decode cX4_toPrint 45 = .ok (.getfield 17, 3) := by decide +kernel
theorem dX4_toPrint_48 : decode cX4_toPrint 48 = .ok (.iload_n 3, 1) := by decide +kernel
theorem dX4_toPrint_49 : decode cX4_toPrint 49 = .ok (.iload 4, 2) := by decide +kernel
theorem dX4_toPrint_51 : decode cX4_toPrint 51 = .ok (.iastore, 1) := by decide +kernel
theorem dX4_toPrint_52 : decode cX4_toPrint 52 = .ok (.iload 5, 2) := by decide +kernel
theorem dX4_toPrint_54 : decode cX4_toPrint 54 = .ok (.iload_n 2, 1) := by decide +kernel
theorem dX4_toPrint_55 : decode cX4_toPrint 55 = .ok (.if_icmp .gt 6, 3) := by decide +kernel
theorem dX4_toPrint_58 : decode cX4_toPrint 58 = .ok (.goto 8, 3) := by decide +kernel
theorem dX4_toPrint_61 : decode cX4_toPrint 61 = .ok (.iload_n 3, 1) := by decide +kernel
theorem dX4_toPrint_62 : decode cX4_toPrint 62 = .ok (.istore_n 1, 1) := by decide +kernel
theorem dX4_toPrint_63 : decode cX4_toPrint 63 = .ok (.iload 5, 2) := by decide +kernel
theorem dX4_toPrint_65 : decode cX4_toPrint 65 = .ok (.istore_n 2, 1) := by decide +kernel
theorem dX4_toPrint_66 : decode cX4_toPrint 66 = .ok (.iinc 3 1, 3) := by decide +kernel
theorem dX4_toPrint_69 : decode cX4_toPrint 69 = .ok (.goto (-63), 3) := by decide +kernel
theorem dX4_toPrint_72 : decode cX4_toPrint 72 = .ok (.iload_n 1, 1) := by decide +kernel
theorem dX4_toPrint_73 : decode cX4_toPrint 73 = .ok (.ireturn, 1) := by decide +kernel
theorem dX4_bestToPrint_0 : decode cX4_bestToPrint 0 = .ok (.aload_n 0, 1) := by decide +kernel
theorem dX4_bestToPrint_1 : decode cX4_bestToPrint 1 = .ok (.aload_n 0, 1) := by decide +kernel
theorem dX4_bestToPrint_2 : decode cX4_bestToPrint 2 = .ok (.invokevirtual 152, 3) := by decide +kernel
theorem dX4_bestToPrint_5 : decode cX4_bestToPrint 5 = .ok (.invokevirtual 108, 3) := by decide +kernel
theorem dX4_bestToPrint_8 : decode cX4_bestToPrint 8 = .ok (.ireturn, 1) := by decide +kernel
theorem dX4_reachWithRoom_0 : decode cX4_reachWithRoom 0 = .ok (.aload_n 0, 1) := by decide +kernel
theorem dX4_reachWithRoom_1 : decode cX4_reachWithRoom 1 = .ok (.iconst 0, 1) := by decide +kernel
theorem dX4_reachWithRoom_2 : decode cX4_reachWithRoom 2 = .ok (.putfield 40, 3) := by decide +kernel
theorem dX4_reachWithRoom_5 : decode cX4_reachWithRoom 5 = .ok (.iload_n 1, 1) := by decide +kernel
theorem dX4_reachWithRoom_6 : decode cX4_reachWithRoom 6 = .ok (.iconst 1, 1) := by decide +kernel
theorem dX4_reachWithRoom_7 : decode cX4_reachWithRoom 7 = .ok (.bipush 12, 2) := by decide +kernel
theorem dX4_reachWithRoom_9 : decode cX4_reachWithRoom 9 = .ok (.invokestatic 46, 3) := by decide +kernel
theorem dX4_reachWithRoom_12 : decode cX4_reachWithRoom 12 = .ok (.ifCond .eq 12, 3) := by decide +kernel
theorem dX4_reachWithRoom_15 : decode cX4_reachWithRoom 15 = .ok (.aload_n 0, 1) := by decide +kernel
theorem dX4_reachWithRoom_16 : decode cX4_reachWithRoom 16 = .ok (.iconst 0, 1) := by decide +kernel
theorem dX4_reachWithRoom_17 : decode cX4_reachWithRoom 17 = .ok (.iload_n 1, 1) := by decide +kernel
theorem dX4_reachWithRoom_18 : decode cX4_reachWithRoom 18 = .ok (.invokevirtual 140, 3) := by decide +kernel
theorem dX4_reachWithRoom_21 : decode cX4_reachWithRoom 21 = .ok (.goto 8, 3) := by decide +kernel
theorem dX4_reachWithRoom_24 : decode cX4_reachWithRoom 24 = .ok (.aload_n 0, 1) := by decide +kernel
theorem dX4_reachWithRoom_25 : decode cX4_reachWithRoom 25 = .ok (.iconst 1, 1) := by decide +kernel
theorem dX4_reachWithRoom_26 : decode cX4_reachWithRoom 26 = .ok (.invokevirtual 80, 3) := by decide +kernel
theorem dX4_reachWithRoom_29 : decode cX4_reachWithRoom 29 = .ok (.ireturn, 1) := by decide +kernel
theorem dX4_meanValue_0 : decode cX4_meanValue 0 = .ok (.aload_n 0, 1) := by decide +kernel
theorem dX4_meanValue_1 : decode cX4_meanValue 1 = .ok (.iconst 0, 1) := by decide +kernel
theorem dX4_meanValue_2 : decode cX4_meanValue 2 = .ok (.putfield 40, 3) := by decide +kernel
theorem dX4_meanValue_5 : decode cX4_meanValue 5 = .ok (.iconst 0, 1) := by decide +kernel
theorem dX4_meanValue_6 : decode cX4_meanValue 6 = .ok (.istore_n 1, 1) := by decide +kernel
theorem dX4_meanValue_7 : decode cX4_meanValue 7 = .ok (.iconst 0, 1) := by decide +kernel
theorem dX4_meanValue_8 : decode cX4_meanValue 8 = .ok (.istore_n 2, 1) := by decide +kernel
theorem dX4_meanValue_9 : decode cX4_meanValue 9 = .ok (.iload_n 2, 1) := by decide +kernel
theorem dX4_meanValue_10 : decode cX4_meanValue 10 = .ok (.aload_n 0, 1) := by decide +kernel
theorem dX4_meanValue_11 : decode cX4_meanValue 11 = .ok (.getfield 43, 3) := by decide +kernel
theorem dX4_meanValue_14 : decode cX4_meanValue 14 = .ok (.if_icmp .ge 18, 3) := by decide +kernel
theorem dX4_meanValue_17 : decode cX4_meanValue 17 = .ok (.iload_n 1, 1) := by decide +kernel
theorem dX4_meanValue_18 : decode cX4_meanValue 18 = .ok (.aload_n 0, 1) := by decide +kernel
theorem dX4_meanValue_19 : decode cX4_meanValue 19 = .ok (.getfield 13, 3) := by decide +kernel
theorem dX4_meanValue_22 : decode cX4_meanValue 22 = .ok (.iload_n 2, 1) := by decide +kernel
theorem dX4_meanValue_23 : decode cX4_meanValue 23 = .ok (.iaload, 1) := by decide +kernel
theorem dX4_meanValue_24 : decode cX4_meanValue 24 = .ok (.iadd, 1) := by decide +kernel
theorem dX4_meanValue_25 : decode cX4_meanValue 25 = .ok (.istore_n 1, 1) := by decide +kernel
theorem dX4_meanValue_26 : decode cX4_meanValue 26 = .ok (.iinc 2 1, 3) := by decide +kernel
theorem dX4_meanValue_29 : decode cX4_meanValue 29 = .ok (.goto (-20), 3) := by decide +kernel
theorem dX4_meanValue_32 : decode cX4_meanValue 32 = .ok (.aload_n 0, 1) := by decide +kernel
theorem dX4_meanValue_33 : decode cX4_meanValue 33 = .ok (.getfield 43, 3) := by decide +kernel
theorem dX4_meanValue_36 : decode cX4_meanValue 36 = .ok (.ifCond .ne 7, 3) := by decide +kernel
theorem dX4_meanValue_39 : decode cX4_meanValue 39 = .ok (.dconst 0, 1) := by decide +kernel
theorem dX4_meanValue_40 : decode cX4_meanValue 40 = .ok (.goto 11, 3) := by decide +kernel
theorem dX4_meanValue_43 : decode cX4_meanValue 43 = .ok (.iload_n 1, 1) := by decide +kernel
theorem dX4_meanValue_44 : decode cX4_meanValue 44 = .ok (.i2d, 1) := by decide +kernel
theorem dX4_meanValue_45 : decode cX4_meanValue 45 = .ok (.aload_n 0, 1) := by decide +kernel
theorem dX4_meanValue_46 : decode cX4_meanValue 46 = .ok (.getfield 43, 3) := by decide +kernel
theorem dX4_meanValue_49 : decode cX4_meanValue 49 = .ok (.i2d, 1) := by decide +kernel
theorem dX4_meanValue_50 : decode cX4_meanValue 50 = .ok (.ddiv, 1) := by decide +kernel
theorem dX4_meanValue_51 : decode cX4_meanValue 51 = .ok (.dreturn, 1) := by decide +kernel
theorem dX4_digest_0 : decode cX4_digest 0 = .ok (.aload_n 0, 1) := by decide +kernel
theorem dX4_digest_1 : decode cX4_digest 1 = .ok (.iconst 0, 1) := by decide +kernel
theorem dX4_digest_2 : decode cX4_digest 2 = .ok (.putfield 40, 3) := by decide +kernel
theorem dX4_digest_5 : decode cX4_digest 5 = .ok (.bipush 11, 2) := by decide +kernel
theorem dX4_digest_7 : decode cX4_digest 7 = .ok (.newarray .int, 2) := by decide +kernel
theorem dX4_digest_9 : decode cX4_digest 9 = .ok (.dup, 1) := by decide +kernel
theorem dX4_digest_10 : decode cX4_digest 10 = .ok (.iconst 0, 1) := by decide +kernel
theorem dX4_digest_11 : decode cX4_digest 11 = .ok (.aload_n 0, 1) := by decide +kernel
theorem dX4_digest_12 : decode cX4_digest 12 = .ok (.getfield 43, 3) := by decide +kernel
theorem dX4_digest_15 : decode cX4_digest 15 = .ok (.iastore, 1) := by decide +kernel
theorem dX4_digest_16 : decode cX4_digest 16 = .ok (.dup, 1) := by decide +kernel
theorem dX4_digest_17 : decode cX4_digest 17 = .ok (.iconst 1, 1) := by decide +kernel
theorem dX4_digest_18 : decode cX4_digest 18 = .ok (.aload_n 0, 1) := by decide +kernel
theorem dX4_digest_19 : decode cX4_digest 19 = .ok (.getfield 9, 3) := by decide +kernel
theorem dX4_digest_22 : decode cX4_digest 22 = .ok (.iastore, 1) := by decide +kernel
theorem dX4_digest_23 : decode cX4_digest 23 = .ok (.dup, 1) := by decide +kernel
theorem dX4_digest_24 : decode cX4_digest 24 = .ok (.iconst 2, 1) := by decide +kernel
theorem dX4_digest_25 : decode cX4_digest 25 = .ok (.aload_n 0, 1) := by decide +kernel
theorem dX4_digest_26 : decode cX4_digest 26 = .ok (.getfield 99, 3) := by decide +kernel
theorem dX4_digest_29 : decode cX4_digest 29 = .ok (.iastore, 1) := by decide +kernel
theorem dX4_digest_30 : decode cX4_digest 30 = .ok (.dup, 1) := by decide +kernel
theorem dX4_digest_31 : decode cX4_digest 31 = .ok (.iconst 3, 1) := by decide +kernel
theorem dX4_digest_32 : decode cX4_digest 32 = .ok (.aload_n 0, 1) := by decide +kernel
theorem dX4_digest_33 : decode cX4_digest 33 = .ok (.getfield 102, 3) := by decide +kernel
theorem dX4_digest_36 : decode cX4_digest 36 = .ok (.iastore, 1) := by decide +kernel
theorem dX4_digest_37 : decode cX4_digest 37 = .ok (.dup, 1) := by decide +kernel
theorem dX4_digest_38 : decode cX4_digest 38 = .ok (.iconst 4, 1) := by decide +kernel
theorem dX4_digest_39 : decode cX4_digest 39 = .ok (.aload_n 0, 1) := by decide +kernel
theorem dX4_digest_40 : decode cX4_digest 40 = .ok (.getfield 105, 3) := by decide +kernel
theorem dX4_digest_43 : decode cX4_digest 43 = .ok (.iastore, 1) := by decide +kernel
theorem dX4_digest_44 : decode cX4_digest 44 = .ok (.dup, 1) := by decide +kernel
theorem dX4_digest_45 : decode cX4_digest 45 = .ok (.iconst 5, 1) := by decide +kernel
theorem dX4_digest_46 : decode cX4_digest 46 = .ok (.aload_n 0, 1) := by decide +kernel
theorem dX4_digest_47 : decode cX4_digest 47 = .ok (.invokevirtual 115, 3) := by decide +kernel
theorem dX4_digest_50 : decode cX4_digest 50 = .ok (.iastore, 1) := by decide +kernel
theorem dX4_digest_51 : decode cX4_digest 51 = .ok (.dup, 1) := by decide +kernel
theorem dX4_digest_52 : decode cX4_digest 52 = .ok (.bipush 6, 2) := by decide +kernel
theorem dX4_digest_54 : decode cX4_digest 54 = .ok (.aload_n 0, 1) := by decide +kernel
theorem dX4_digest_55 : decode cX4_digest 55 = .ok (.invokevirtual 128, 3) := by decide +kernel
theorem dX4_digest_58 : decode cX4_digest 58 = .ok (.iastore, 1) := by decide +kernel
theorem dX4_digest_59 : decode cX4_digest 59 = .ok (.dup, 1) := by decide +kernel
theorem dX4_digest_60 : decode cX4_digest 60 = .ok (.bipush 7, 2) := by decide +kernel
theorem dX4_digest_62 : decode cX4_digest 62 = .ok (.aload_n 0, 1) := by decide +kernel
theorem dX4_digest_63 : decode cX4_digest 63 = .ok (.invokevirtual 131, 3) := by decide +kernel
theorem dX4_digest_66 : decode cX4_digest 66 = .ok (.iastore, 1) := by decide +kernel
theorem dX4_digest_67 : decode cX4_digest 67 = .ok (.dup, 1) := by decide +kernel
theorem dX4_digest_68 : decode cX4_digest 68 = .ok (.bipush 8, 2) := by decide +kernel
theorem dX4_digest_70 : decode cX4_digest 70 = .ok (.aload_n 0, 1) := by decide +kernel
theorem dX4_digest_71 : decode cX4_digest 71 = .ok (.iconst 0, 1) := by decide +kernel
theorem dX4_digest_72 : decode cX4_digest 72 = .ok (.aload_n 0, 1) := by decide +kernel
theorem dX4_digest_73 : decode cX4_digest 73 = .ok (.getfield 9, 3) := by decide +kernel
theorem dX4_digest_76 : decode cX4_digest 76 = .ok (.invokevirtual 140, 3) := by decide +kernel
theorem dX4_digest_79 : decode cX4_digest 79 = .ok (.iastore, 1) := by decide +kernel
theorem dX4_digest_80 : decode cX4_digest 80 = .ok (.dup, 1) := by decide +kernel
theorem dX4_digest_81 : decode cX4_digest 81 = .ok (.bipush 9, 2) := by decide +kernel
theorem dX4_digest_83 : decode cX4_digest 83 = .ok (.aload_n 0, 1) := by decide +kernel
theorem dX4_digest_84 : decode cX4_digest 84 = .ok (.invokevirtual 149, 3) := by decide +kernel
theorem dX4_digest_87 : decode cX4_digest 87 = .ok (.iastore, 1) := by decide +kernel
theorem dX4_digest_88 : decode cX4_digest 88 = .ok (.dup, 1) := by decide +kernel
theorem dX4_digest_89 : decode cX4_digest 89 = .ok (.bipush 10, 2) := by decide +kernel
theorem dX4_digest_91 : decode cX4_digest 91 = .ok (.aload_n 0, 1) := by decide +kernel
theorem dX4_digest_92 : decode cX4_digest 92 = .ok (.invokevirtual 152, 3) := by decide +kernel
theorem dX4_digest_95 : decode cX4_digest 95 = .ok (.iastore, 1) := by decide +kernel
theorem dX4_digest_96 : decode cX4_digest 96 = .ok (.astore_n 1, 1) := by decide +kernel
theorem dX4_digest_97 : decode cX4_digest 97 = .ok (.ldc2_w 155, 3) := by decide +kernel
theorem dX4_digest_100 : decode cX4_digest 100 = .ok (.lstore_n 2, 1) := by decide +kernel
theorem dX4_digest_101 : decode cX4_digest 101 = .ok (.aload_n 1, 1) := by decide +kernel
theorem dX4_digest_102 : decode cX4_digest 102 = .ok (.astore 4, 2) := by decide +kernel
theorem dX4_digest_104 : decode cX4_digest 104 = .ok (.aload 4, 2) := by decide +kernel
theorem dX4_digest_106 : decode cX4_digest 106 = .ok (.arraylength, 1) := by decide +kernel
theorem dX4_digest_107 : decode cX4_digest 107 = .ok (.istore 5, 2) := by decide +kernel
theorem dX4_digest_109 : decode cX4_digest 109 = .ok (.iconst 0, 1) := by decide +kernel
theorem dX4_digest_110 : decode cX4_digest 110 = .ok (.istore 6, 2) := by decide +kernel
theorem dX4_digest_112 : decode cX4_digest 112 = .ok (.iload 6, 2) := by decide +kernel
theorem dX4_digest_114 : decode cX4_digest 114 = .ok (.iload 5, 2) := by decide +kernel
theorem dX4_digest_116 : decode cX4_digest 116 = .ok (.if_icmp .ge 26, 3) := by decide +kernel
theorem dX4_digest_119 : decode cX4_digest 119 = .ok (.aload 4, 2) := by decide +kernel
theorem dX4_digest_121 : decode cX4_digest 121 = .ok (.iload 6, 2) := by decide +kernel
theorem dX4_digest_123 : decode cX4_digest 123 = .ok (.iaload, 1) := by decide +kernel
theorem dX4_digest_124 : decode cX4_digest 124 = .ok (.istore 7, 2) := by decide +kernel
theorem dX4_digest_126 : decode cX4_digest 126 = .ok (.lload_n 2, 1) := by decide +kernel
theorem dX4_digest_127 : decode cX4_digest 127 = .ok (.ldc2_w 157, 3) := by decide +kernel
theorem dX4_digest_130 : decode cX4_digest 130 = .ok (.lmul, 1) := by decide +kernel
theorem dX4_digest_131 : decode cX4_digest 131 = .ok (.iload 7, 2) := by decide +kernel
theorem dX4_digest_133 : decode cX4_digest 133 = .ok (.i2l, 1) := by decide +kernel
theorem dX4_digest_134 : decode cX4_digest 134 = .ok (.ladd, 1) := by decide +kernel
theorem dX4_digest_135 : decode cX4_digest 135 = .ok (.lstore_n 2, 1) := by decide +kernel
theorem dX4_digest_136 : decode cX4_digest 136 = .ok (.iinc 6 1, 3) := by decide +kernel
theorem dX4_digest_139 : decode cX4_digest 139 = .ok (.goto (-27), 3) := by decide +kernel
theorem dX4_digest_142 : decode cX4_digest 142 = .ok (.iconst 0, 1) := by decide +kernel
theorem dX4_digest_143 : decode cX4_digest 143 = .ok (.istore 4, 2) := by decide +kernel
theorem dX4_digest_145 : decode cX4_digest 145 = .ok (.iload 4, 2) := by decide +kernel
theorem dX4_digest_147 : decode cX4_digest 147 = .ok (.aload_n 0, 1) := by decide +kernel
theorem dX4_digest_148 : decode cX4_digest 148 = .ok (.getfield 43, 3) := by decide +kernel
theorem dX4_digest_151 : decode cX4_digest 151 = .ok (.if_icmp .ge 50, 3) := by decide +kernel
theorem dX4_digest_154 : decode cX4_digest 154 = .ok (.lload_n 2, 1) := by decide +kernel
theorem dX4_digest_155 : decode cX4_digest 155 = .ok (.ldc2_w 157, 3) := by decide +kernel
theorem dX4_digest_158 : decode cX4_digest 158 = .ok (.lmul, 1) := by decide +kernel
theorem dX4_digest_159 : decode cX4_digest 159 = .ok (.aload_n 0, 1) := by decide +kernel
theorem dX4_digest_160 : decode cX4_digest 160 = .ok (.getfield 13, 3) := by decide +kernel
theorem dX4_digest_163 : decode cX4_digest 163 = .ok (.iload 4, 2) := by decide +kernel
theorem dX4_digest_165 : decode cX4_digest 165 = .ok (.iaload, 1) := by decide +kernel
theorem dX4_digest_166 : decode cX4_digest 166 = .ok (.i2l, 1) := by decide +kernel
theorem dX4_digest_167 : decode cX4_digest 167 = .ok (.ladd, 1) := by decide +kernel
theorem dX4_digest_168 : decode cX4_digest 168 = .ok (.ldc2_w 157, 3) := by decide +kernel
theorem dX4_digest_171 : decode cX4_digest 171 = .ok (.lmul, 1) := by decide +kernel
theorem dX4_digest_172 : decode cX4_digest 172 = .ok (.aload_n 0, 1) := by decide +kernel
theorem dX4_digest_173 : decode cX4_digest 173 = .ok (.getfield 17, 3) := by decide +kernel
theorem dX4_digest_176 : decode cX4_digest 176 = .ok (.iload 4, 2) := by decide +kernel
theorem dX4_digest_178 : decode cX4_digest 178 = .ok (.iaload, 1) := by decide +kernel
theorem dX4_digest_179 : decode cX4_digest 179 = .ok (.i2l, 1) := by decide +kernel
theorem dX4_digest_180 : decode cX4_digest 180 = .ok (.ladd, 1) := by decide +kernel
theorem dX4_digest_181 : decode cX4_digest 181 = .ok (.ldc2_w 157, 3) := by decide +kernel
theorem dX4_digest_184 : decode cX4_digest 184 = .ok (.lmul, 1) := by decide +kernel
theorem dX4_digest_185 : decode cX4_digest 185 = .ok (.aload_n 0, 1) := by decide +kernel
theorem dX4_digest_186 : decode cX4_digest 186 = .ok (.getfield 20, 3) := by decide +kernel
theorem dX4_digest_189 : decode cX4_digest 189 = .ok (.iload 4, 2) := by decide +kernel
theorem dX4_digest_191 : decode cX4_digest 191 = .ok (.iaload, 1) := by decide +kernel
theorem dX4_digest_192 : decode cX4_digest 192 = .ok (.i2l, 1) := by decide +kernel
theorem dX4_digest_193 : decode cX4_digest 193 = .ok (.ladd, 1) := by decide +kernel
theorem dX4_digest_194 : decode cX4_digest 194 = .ok (.lstore_n 2, 1) := by decide +kernel
theorem dX4_digest_195 : decode cX4_digest 195 = .ok (.iinc 4 1, 3) := by decide +kernel
theorem dX4_digest_198 : decode cX4_digest 198 = .ok (.goto (-53), 3) := by decide +kernel
theorem dX4_digest_201 : decode cX4_digest 201 = .ok (.aload_n 0, 1) := by decide +kernel
theorem dX4_digest_202 : decode cX4_digest 202 = .ok (.invokevirtual 67, 3) := by decide +kernel
theorem dX4_digest_205 : decode cX4_digest 205 = .ok (.aload_n 0, 1) := by decide +kernel
theorem dX4_digest_206 : decode cX4_digest 206 = .ok (.iconst 0, 1) := by decide +kernel
theorem dX4_digest_207 : decode cX4_digest 207 = .ok (.invokevirtual 77, 3) := by decide +kernel
theorem dX4_digest_210 : decode cX4_digest 210 = .ok (.bipush 25, 2) := by decide +kernel
theorem dX4_digest_212 : decode cX4_digest 212 = .ok (.istore 4, 2) := by decide +kernel
theorem dX4_digest_214 : decode cX4_digest 214 = .ok (.iload 4, 2) := by decide +kernel
theorem dX4_digest_216 : decode cX4_digest 216 = .ok (.sipush 300, 3) := by decide +kernel
theorem dX4_digest_219 : decode cX4_digest 219 = .ok (.if_icmp .gt 47, 3) := by decide +kernel
theorem dX4_digest_222 : decode cX4_digest 222 = .ok (.lload_n 2, 1) := by decide +kernel
theorem dX4_digest_223 : decode cX4_digest 223 = .ok (.ldc2_w 157, 3) := by decide +kernel
theorem dX4_digest_226 : decode cX4_digest 226 = .ok (.lmul, 1) := by decide +kernel
theorem dX4_digest_227 : decode cX4_digest 227 = .ok (.aload_n 0, 1) := by decide +kernel
theorem dX4_digest_228 : decode cX4_digest 228 = .ok (.iload 4, 2) := by decide +kernel
theorem dX4_digest_230 : decode cX4_digest 230 = .ok (.invokevirtual 122, 3) := by decide +kernel
theorem dX4_digest_233 : decode cX4_digest 233 = .ok (.i2l, 1) := by decide +kernel
theorem dX4_digest_234 : decode cX4_digest 234 = .ok (.ladd, 1) := by decide +kernel
theorem dX4_digest_235 : decode cX4_digest 235 = .ok (.ldc2_w 157, 3) := by decide +kernel
theorem dX4_digest_238 : decode cX4_digest 238 = .ok (.lmul, 1) := by decide +kernel
theorem dX4_digest_239 : decode cX4_digest 239 = .ok (.aload_n 0, 1) := by decide +kernel
theorem dX4_digest_240 : decode cX4_digest 240 = .ok (.iload 4, 2) := by decide +kernel
theorem dX4_digest_242 : decode cX4_digest 242 = .ok (.invokevirtual 125, 3) := by decide +kernel
theorem dX4_digest_245 : decode cX4_digest 245 = .ok (.i2l, 1) := by decide +kernel
theorem dX4_digest_246 : decode cX4_digest 246 = .ok (.ladd, 1) := by decide +kernel
theorem dX4_digest_247 : decode cX4_digest 247 = .ok (.ldc2_w 157, 3) := by decide +kernel
theorem dX4_digest_250 : decode cX4_digest 250 = .ok (.lmul, 1) := by decide +kernel
theorem dX4_digest_251 : decode cX4_digest 251 = .ok (.aload_n 0, 1) := by decide +kernel
theorem dX4_digest_252 : decode cX4_digest 252 = .ok (.iload 4, 2) := by decide +kernel
theorem dX4_digest_254 : decode cX4_digest 254 = .ok (.invokevirtual 134, 3) := by decide +kernel
theorem dX4_digest_257 : decode cX4_digest 257 = .ok (.i2l, 1) := by decide +kernel
theorem dX4_digest_258 : decode cX4_digest 258 = .ok (.ladd, 1) := by decide +kernel
theorem dX4_digest_259 : decode cX4_digest 259 = .ok (.lstore_n 2, 1) := by decide +kernel
theorem dX4_digest_260 : decode cX4_digest 260 = .ok (.iinc 4 25, 3) := by decide +kernel
theorem dX4_digest_263 : decode cX4_digest 263 = .ok (.goto (-49), 3) := by decide +kernel
theorem dX4_digest_266 : decode cX4_digest 266 = .ok (.lload_n 2, 1) := by decide +kernel
theorem dX4_digest_267 : decode cX4_digest 267 = .ok (.lreturn, 1) := by decide +kernel
theorem dJ9_min_7cf53_0 : decode cJ9_min_7cf53 0 = .ok (.iload_n 0, 1) := by decide +kernel
theorem dJ9_min_7cf53_1 : decode cJ9_min_7cf53 1 = .ok (.iload_n 1, 1) := by decide +kernel
theorem dJ9_min_7cf53_2 : decode cJ9_min_7cf53 2 = .ok (.if_icmp .gt 7, 3) := by decide +kernel
theorem dJ9_min_7cf53_5 : decode cJ9_min_7cf53 5 = .ok (.iload_n 0, 1) := by decide +kernel
theorem dJ9_min_7cf53_6 : decode cJ9_min_7cf53 6 = .ok (.goto 4, 3) := by decide +kernel
theorem dJ9_min_7cf53_9 : decode cJ9_min_7cf53 9 = .ok (.iload_n 1, 1) := by decide +kernel
theorem dJ9_min_7cf53_10 : decode cJ9_min_7cf53 10 = .ok (.ireturn, 1) := by decide +kernel
theorem dL_addStamp_0 : decode cL_addStamp 0 = .ok (.aload_n 3, 1) := by decide +kernel
theorem dL_addStamp_1 : decode cL_addStamp 1 = .ok (.iconst 0, 1) := by decide +kernel
theorem dL_addStamp_2 : decode cL_addStamp 2 = .ok (.aload_n 0, 1) := by decide +kernel
theorem dL_addStamp_3 : decode cL_addStamp 3 = .ok (.iload_n 1, 1) := by decide +kernel
theorem dL_addStamp_4 : decode cL_addStamp 4 = .ok (.iload_n 2, 1) := by decide +kernel
theorem dL_addStamp_5 : decode cL_addStamp 5 = .ok (.invokevirtual 7, 3) := by decide +kernel
theorem dL_addStamp_8 : decode cL_addStamp 8 = .ok (.i2l, 1) := by decide +kernel
theorem dL_addStamp_9 : decode cL_addStamp 9 = .ok (.lastore, 1) := by decide +kernel
theorem dL_addStamp_10 : decode cL_addStamp 10 = .ok (.goto 11, 3) := by decide +kernel
theorem dL_addStamp_13 : decode cL_addStamp 13 = .ok (.astore 4, 2) := by decide +kernel
theorem dL_addStamp_15 : decode cL_addStamp 15 = .ok (.iconst 1, 1) := by decide +kernel
theorem dL_addStamp_16 : decode cL_addStamp 16 = .ok (.ireturn, 1) := by decide +kernel
theorem dL_addStamp_17 : decode cL_addStamp 17 = .ok (.astore 4, 2) := by decide +kernel
theorem dL_addStamp_19 : decode cL_addStamp 19 = .ok (.iconst 2, 1) := by decide +kernel
theorem dL_addStamp_20 : decode cL_addStamp 20 = .ok (.ireturn, 1) := by decide +kernel
theorem dL_addStamp_21 : decode cL_addStamp 21 = .ok (.iconst 0, 1) := by decide +kernel
theorem dL_addStamp_22 : decode cL_addStamp 22 = .ok (.ireturn, 1) := by decide +kernel
theorem dL_withdraw_0 : decode cL_withdraw 0 = .ok (.aload_n 2, 1) := by decide +kernel
theorem dL_withdraw_1 : decode cL_withdraw 1 = .ok (.iconst 0, 1) := by decide +kernel
theorem dL_withdraw_2 : decode cL_withdraw 2 = .ok (.aload_n 0, 1) := by decide +kernel
theorem dL_withdraw_3 : decode cL_withdraw 3 = .ok (.iload_n 1, 1) := by decide +kernel
theorem dL_withdraw_4 : decode cL_withdraw 4 = .ok (.invokevirtual 17, 3) := by decide +kernel
theorem dL_withdraw_7 : decode cL_withdraw 7 = .ok (.i2l, 1) := by decide +kernel
theorem dL_withdraw_8 : decode cL_withdraw 8 = .ok (.lastore, 1) := by decide +kernel
theorem dL_withdraw_9 : decode cL_withdraw 9 = .ok (.goto 6, 3) := by decide +kernel
theorem dL_withdraw_12 : decode cL_withdraw 12 = .ok (.astore_n 3, 1) := by decide +kernel
theorem dL_withdraw_13 : decode cL_withdraw 13 = .ok (.iconst 1, 1) := by decide +kernel
theorem dL_withdraw_14 : decode cL_withdraw 14 = .ok (.ireturn, 1) := by decide +kernel
theorem dL_withdraw_15 : decode cL_withdraw 15 = .ok (.iconst 0, 1) := by decide +kernel
theorem dL_withdraw_16 : decode cL_withdraw 16 = .ok (.ireturn, 1) := by decide +kernel
theorem dL_print_0 : decode cL_print 0 = .ok (.aload_n 3, 1) := by decide +kernel
theorem dL_print_1 : decode cL_print 1 = .ok (.iconst 0, 1) := by decide +kernel
theorem dL_print_2 : decode cL_print 2 = .ok (.aload_n 0, 1) := by decide +kernel
theorem dL_print_3 : decode cL_print 3 = .ok (.iload_n 1, 1) := by decide +kernel
theorem dL_print_4 : decode cL_print 4 = .ok (.iload_n 2, 1) := by decide +kernel
theorem dL_print_5 : decode cL_print 5 = .ok (.invokevirtual 23, 3) := by decide +kernel
theorem dL_print_8 : decode cL_print 8 = .ok (.i2l, 1) := by decide +kernel
theorem dL_print_9 : decode cL_print 9 = .ok (.lastore, 1) := by decide +kernel
theorem dL_print_10 : decode cL_print 10 = .ok (.goto 11, 3) := by decide +kernel
theorem dL_print_13 : decode cL_print 13 = .ok (.astore 4, 2) := by decide +kernel
theorem dL_print_15 : decode cL_print 15 = .ok (.iconst 1, 1) := by decide +kernel
theorem dL_print_16 : decode cL_print 16 = .ok (.ireturn, 1) := by decide +kernel
theorem dL_print_17 : decode cL_print 17 = .ok (.astore 4, 2) := by decide +kernel
theorem dL_print_19 : decode cL_print 19 = .ok (.iconst 2, 1) := by decide +kernel
theorem dL_print_20 : decode cL_print 20 = .ok (.ireturn, 1) := by decide +kernel
theorem dL_print_21 : decode cL_print 21 = .ok (.iconst 0, 1) := by decide +kernel
theorem dL_print_22 : decode cL_print 22 = .ok (.ireturn, 1) := by decide +kernel
theorem dL_setRoom_0 : decode cL_setRoom 0 = .ok (.aload_n 2, 1) := by decide +kernel
theorem dL_setRoom_1 : decode cL_setRoom 1 = .ok (.iconst 0, 1) := by decide +kernel
theorem dL_setRoom_2 : decode cL_setRoom 2 = .ok (.aload_n 0, 1) := by decide +kernel
theorem dL_setRoom_3 : decode cL_setRoom 3 = .ok (.iload_n 1, 1) := by decide +kernel
theorem dL_setRoom_4 : decode cL_setRoom 4 = .ok (.invokevirtual 26, 3) := by decide +kernel
theorem dL_setRoom_7 : decode cL_setRoom 7 = .ok (.i2l, 1) := by decide +kernel
theorem dL_setRoom_8 : decode cL_setRoom 8 = .ok (.lastore, 1) := by decide +kernel
theorem dL_setRoom_9 : decode cL_setRoom 9 = .ok (.goto 6, 3) := by decide +kernel
theorem dL_setRoom_12 : decode cL_setRoom 12 = .ok (.astore_n 3, 1) := by decide +kernel
theorem dL_setRoom_13 : decode cL_setRoom 13 = .ok (.iconst 1, 1) := by decide +kernel
theorem dL_setRoom_14 : decode cL_setRoom 14 = .ok (.ireturn, 1) := by decide +kernel
theorem dL_setRoom_15 : decode cL_setRoom 15 = .ok (.iconst 0, 1) := by decide +kernel
theorem dL_setRoom_16 : decode cL_setRoom 16 = .ok (.ireturn, 1) := by decide +kernel
theorem dL_vend_0 : decode cL_vend 0 = .ok (.aload_n 2, 1) := by decide +kernel
theorem dL_vend_1 : decode cL_vend 1 = .ok (.iconst 0, 1) := by decide +kernel
theorem dL_vend_2 : decode cL_vend 2 = .ok (.aload_n 0, 1) := by decide +kernel
theorem dL_vend_3 : decode cL_vend 3 = .ok (.iload_n 1, 1) := by decide +kernel
theorem dL_vend_4 : decode cL_vend 4 = .ok (.invokevirtual 29, 3) := by decide +kernel
theorem dL_vend_7 : decode cL_vend 7 = .ok (.i2l, 1) := by decide +kernel
theorem dL_vend_8 : decode cL_vend 8 = .ok (.lastore, 1) := by decide +kernel
theorem dL_vend_9 : decode cL_vend 9 = .ok (.goto 9, 3) := by decide +kernel
theorem dL_vend_12 : decode cL_vend 12 = .ok (.astore_n 3, 1) := by decide +kernel
theorem dL_vend_13 : decode cL_vend 13 = .ok (.iconst 1, 1) := by decide +kernel
theorem dL_vend_14 : decode cL_vend 14 = .ok (.ireturn, 1) := by decide +kernel
theorem dL_vend_15 : decode cL_vend 15 = .ok (.astore_n 3, 1) := by decide +kernel
theorem dL_vend_16 : decode cL_vend 16 = .ok (.iconst 2, 1) := by decide +kernel
theorem dL_vend_17 : decode cL_vend 17 = .ok (.ireturn, 1) := by decide +kernel
theorem dL_vend_18 : decode cL_vend 18 = .ok (.iconst 0, 1) := by decide +kernel
theorem dL_vend_19 : decode cL_vend 19 = .ok (.ireturn, 1) := by decide +kernel
theorem dL_valueOf_0 : decode cL_valueOf 0 = .ok (.aload_n 2, 1) := by decide +kernel
theorem dL_valueOf_1 : decode cL_valueOf 1 = .ok (.iconst 0, 1) := by decide +kernel
theorem dL_valueOf_2 : decode cL_valueOf 2 = .ok (.aload_n 0, 1) := by decide +kernel
theorem dL_valueOf_3 : decode cL_valueOf 3 = .ok (.iload_n 1, 1) := by decide +kernel
theorem dL_valueOf_4 : decode cL_valueOf 4 = .ok (.invokevirtual 32, 3) := by decide +kernel
theorem dL_valueOf_7 : decode cL_valueOf 7 = .ok (.i2l, 1) := by decide +kernel
theorem dL_valueOf_8 : decode cL_valueOf 8 = .ok (.lastore, 1) := by decide +kernel
theorem dL_valueOf_9 : decode cL_valueOf 9 = .ok (.goto 6, 3) := by decide +kernel
theorem dL_valueOf_12 : decode cL_valueOf 12 = .ok (.astore_n 3, 1) := by decide +kernel
theorem dL_valueOf_13 : decode cL_valueOf 13 = .ok (.iconst 1, 1) := by decide +kernel
theorem dL_valueOf_14 : decode cL_valueOf 14 = .ok (.ireturn, 1) := by decide +kernel
theorem dL_valueOf_15 : decode cL_valueOf 15 = .ok (.iconst 0, 1) := by decide +kernel
theorem dL_valueOf_16 : decode cL_valueOf 16 = .ok (.ireturn, 1) := by decide +kernel
theorem dL_stockOf_0 : decode cL_stockOf 0 = .ok (.aload_n 2, 1) := by decide +kernel
theorem dL_stockOf_1 : decode cL_stockOf 1 = .ok (.iconst 0, 1) := by decide +kernel
theorem dL_stockOf_2 : decode cL_stockOf 2 = .ok (.aload_n 0, 1) := by decide +kernel
theorem dL_stockOf_3 : decode cL_stockOf 3 = .ok (.iload_n 1, 1) := by decide +kernel
theorem dL_stockOf_4 : decode cL_stockOf 4 = .ok (.invokevirtual 35, 3) := by decide +kernel
theorem dL_stockOf_7 : decode cL_stockOf 7 = .ok (.i2l, 1) := by decide +kernel
theorem dL_stockOf_8 : decode cL_stockOf 8 = .ok (.lastore, 1) := by decide +kernel
theorem dL_stockOf_9 : decode cL_stockOf 9 = .ok (.goto 6, 3) := by decide +kernel
theorem dL_stockOf_12 : decode cL_stockOf 12 = .ok (.astore_n 3, 1) := by decide +kernel
theorem dL_stockOf_13 : decode cL_stockOf 13 = .ok (.iconst 1, 1) := by decide +kernel
theorem dL_stockOf_14 : decode cL_stockOf 14 = .ok (.ireturn, 1) := by decide +kernel
theorem dL_stockOf_15 : decode cL_stockOf 15 = .ok (.iconst 0, 1) := by decide +kernel
theorem dL_stockOf_16 : decode cL_stockOf 16 = .ok (.ireturn, 1) := by decide +kernel
theorem dL_vendedOf_0 : decode cL_vendedOf 0 = .ok (.aload_n 2, 1) := by decide +kernel
theorem dL_vendedOf_1 : decode cL_vendedOf 1 = .ok (.iconst 0, 1) := by decide +kernel
theorem dL_vendedOf_2 : decode cL_vendedOf 2 = .ok (.aload_n 0, 1) := by decide +kernel
theorem dL_vendedOf_3 : decode cL_vendedOf 3 = .ok (.iload_n 1, 1) := by decide +kernel
theorem dL_vendedOf_4 : decode cL_vendedOf 4 = .ok (.invokevirtual 38, 3) := by decide +kernel
theorem dL_vendedOf_7 : decode cL_vendedOf 7 = .ok (.i2l, 1) := by decide +kernel
theorem dL_vendedOf_8 : decode cL_vendedOf 8 = .ok (.lastore, 1) := by decide +kernel
theorem dL_vendedOf_9 : decode cL_vendedOf 9 = .ok (.goto 6, 3) := by decide +kernel
theorem dL_vendedOf_12 : decode cL_vendedOf 12 = .ok (.astore_n 3, 1) := by decide +kernel
theorem dL_vendedOf_13 : decode cL_vendedOf 13 = .ok (.iconst 1, 1) := by decide +kernel
theorem dL_vendedOf_14 : decode cL_vendedOf 14 = .ok (.ireturn, 1) := by decide +kernel
theorem dL_vendedOf_15 : decode cL_vendedOf 15 = .ok (.iconst 0, 1) := by decide +kernel
theorem dL_vendedOf_16 : decode cL_vendedOf 16 = .ok (.ireturn, 1) := by decide +kernel
theorem dL_canPay_0 : decode cL_canPay 0 = .ok (.aload_n 2, 1) := by decide +kernel
theorem dL_canPay_1 : decode cL_canPay 1 = .ok (.iconst 0, 1) := by decide +kernel
theorem dL_canPay_2 : decode cL_canPay 2 = .ok (.aload_n 0, 1) := by decide +kernel
theorem dL_canPay_3 : decode cL_canPay 3 = .ok (.iload_n 1, 1) := by decide +kernel
theorem dL_canPay_4 : decode cL_canPay 4 = .ok (.invokevirtual 41, 3) := by decide +kernel
theorem dL_canPay_7 : decode cL_canPay 7 = .ok (.ifCond .eq 7, 3) := by decide +kernel
theorem dL_canPay_10 : decode cL_canPay 10 = .ok (.lconst 1, 1) := by decide +kernel
theorem dL_canPay_11 : decode cL_canPay 11 = .ok (.goto 4, 3) := by decide +kernel
theorem dL_canPay_14 : decode cL_canPay 14 = .ok (.lconst 0, 1) := by decide +kernel
theorem dL_canPay_15 : decode cL_canPay 15 = .ok (.lastore, 1) := by decide +kernel
theorem dL_canPay_16 : decode cL_canPay 16 = .ok (.goto 6, 3) := by decide +kernel
theorem dL_canPay_19 : decode cL_canPay 19 = .ok (.astore_n 3, 1) := by decide +kernel
theorem dL_canPay_20 : decode cL_canPay 20 = .ok (.iconst 1, 1) := by decide +kernel
theorem dL_canPay_21 : decode cL_canPay 21 = .ok (.ireturn, 1) := by decide +kernel
theorem dL_canPay_22 : decode cL_canPay 22 = .ok (.iconst 0, 1) := by decide +kernel
theorem dL_canPay_23 : decode cL_canPay 23 = .ok (.ireturn, 1) := by decide +kernel
theorem dL_overpay_0 : decode cL_overpay 0 = .ok (.aload_n 2, 1) := by decide +kernel
theorem dL_overpay_1 : decode cL_overpay 1 = .ok (.iconst 0, 1) := by decide +kernel
theorem dL_overpay_2 : decode cL_overpay 2 = .ok (.aload_n 0, 1) := by decide +kernel
theorem dL_overpay_3 : decode cL_overpay 3 = .ok (.iload_n 1, 1) := by decide +kernel
theorem dL_overpay_4 : decode cL_overpay 4 = .ok (.invokevirtual 45, 3) := by decide +kernel
theorem dL_overpay_7 : decode cL_overpay 7 = .ok (.i2l, 1) := by decide +kernel
theorem dL_overpay_8 : decode cL_overpay 8 = .ok (.lastore, 1) := by decide +kernel
theorem dL_overpay_9 : decode cL_overpay 9 = .ok (.goto 6, 3) := by decide +kernel
theorem dL_overpay_12 : decode cL_overpay 12 = .ok (.astore_n 3, 1) := by decide +kernel
theorem dL_overpay_13 : decode cL_overpay 13 = .ok (.iconst 1, 1) := by decide +kernel
theorem dL_overpay_14 : decode cL_overpay 14 = .ok (.ireturn, 1) := by decide +kernel
theorem dL_overpay_15 : decode cL_overpay 15 = .ok (.iconst 0, 1) := by decide +kernel
theorem dL_overpay_16 : decode cL_overpay 16 = .ok (.ireturn, 1) := by decide +kernel
theorem dL_stampsFor_0 : decode cL_stampsFor 0 = .ok (.aload_n 2, 1) := by decide +kernel
theorem dL_stampsFor_1 : decode cL_stampsFor 1 = .ok (.iconst 0, 1) := by decide +kernel
theorem dL_stampsFor_2 : decode cL_stampsFor 2 = .ok (.aload_n 0, 1) := by decide +kernel
theorem dL_stampsFor_3 : decode cL_stampsFor 3 = .ok (.iload_n 1, 1) := by decide +kernel
theorem dL_stampsFor_4 : decode cL_stampsFor 4 = .ok (.invokevirtual 48, 3) := by decide +kernel
theorem dL_stampsFor_7 : decode cL_stampsFor 7 = .ok (.i2l, 1) := by decide +kernel
theorem dL_stampsFor_8 : decode cL_stampsFor 8 = .ok (.lastore, 1) := by decide +kernel
theorem dL_stampsFor_9 : decode cL_stampsFor 9 = .ok (.goto 6, 3) := by decide +kernel
theorem dL_stampsFor_12 : decode cL_stampsFor 12 = .ok (.astore_n 3, 1) := by decide +kernel
theorem dL_stampsFor_13 : decode cL_stampsFor 13 = .ok (.iconst 1, 1) := by decide +kernel
theorem dL_stampsFor_14 : decode cL_stampsFor 14 = .ok (.ireturn, 1) := by decide +kernel
theorem dL_stampsFor_15 : decode cL_stampsFor 15 = .ok (.iconst 0, 1) := by decide +kernel
theorem dL_stampsFor_16 : decode cL_stampsFor 16 = .ok (.ireturn, 1) := by decide +kernel
theorem dL_ofStampFor_0 : decode cL_ofStampFor 0 = .ok (.aload_n 3, 1) := by decide +kernel
theorem dL_ofStampFor_1 : decode cL_ofStampFor 1 = .ok (.iconst 0, 1) := by decide +kernel
theorem dL_ofStampFor_2 : decode cL_ofStampFor 2 = .ok (.aload_n 0, 1) := by decide +kernel
theorem dL_ofStampFor_3 : decode cL_ofStampFor 3 = .ok (.iload_n 1, 1) := by decide +kernel
theorem dL_ofStampFor_4 : decode cL_ofStampFor 4 = .ok (.iload_n 2, 1) := by decide +kernel
