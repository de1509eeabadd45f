theorem dc_M_outside_0 : decode bc_M_outside 0 = .ok (.iload_n 0, 1) := by decide +kernel
theorem dc_M_outside_1 : decode bc_M_outside 1 = .ok (.iload_n 1, 1) := by decide +kernel
theorem dc_M_outside_2 : decode bc_M_outside 2 = .ok (.if_icmp .lt 8, 3) := by decide +kernel
theorem dc_M_outside_5 : decode bc_M_outside 5 = .ok (.iload_n 0, 1) := by decide +kernel
theorem dc_M_outside_6 : decode bc_M_outside 6 = .ok (.iload_n 2, 1) := by decide +kernel
theorem dc_M_outside_7 : decode bc_M_outside 7 = .ok (.if_icmp .le 7, 3) := by decide +kernel
theorem dc_M_outside_10 : decode bc_M_outside 10 = .ok (.iconst 1, 1) := by decide +kernel
theorem dc_M_outside_11 : decode bc_M_outside 11 = .ok (.goto 4, 3) := by decide +kernel
theorem dc_M_outside_14 : decode bc_M_outside 14 = .ok (.iconst 0, 1) := by decide +kernel
theorem dc_M_outside_15 : decode bc_M_outside 15 = .ok (.ireturn, 1) := by decide +kernel
theorem dc_M_put_0 : decode bc_M_put 0 = .ok (.iload_n 1, 1) := by decide +kernel
theorem dc_M_put_1 : decode bc_M_put 1 = .ok (.iconst 0, 1) := by decide +kernel
theorem dc_M_put_2 : decode bc_M_put 2 = .ok (.iconst 3, 1) := by decide +kernel
theorem dc_M_put_3 : decode bc_M_put 3 = .ok (.invokestatic 144, 3) := by decide +kernel
theorem dc_M_put_6 : decode bc_M_put 6 = .ok (.ifCond .ne 26, 3) := by decide +kernel
theorem dc_M_put_9 : decode bc_M_put 9 = .ok (.iload_n 2, 1) := by decide +kernel
theorem dc_M_put_10 : decode bc_M_put 10 = .ok (.bipush 33, 2) := by decide +kernel
theorem dc_M_put_12 : decode bc_M_put 12 = .ok (.if_icmp .lt 20, 3) := by decide +kernel
theorem dc_M_put_15 : decode bc_M_put 15 = .ok (.iload_n 2, 1) := by decide +kernel
theorem dc_M_put_16 : decode bc_M_put 16 = .ok (.bipush 126, 2) := by decide +kernel
theorem dc_M_put_18 : decode bc_M_put 18 = .ok (.if_icmp .gt 14, 3) := by decide +kernel
theorem dc_M_put_21 : decode bc_M_put 21 = .ok (.aload_n 0, 1) := by decide +kernel
theorem dc_M_put_22 : decode bc_M_put 22 = .ok (.getfield 13, 3) := by decide +kernel
theorem dc_M_put_25 : decode bc_M_put 25 = .ok (.iload_n 1, 1) := by decide +kernel
theorem dc_M_put_26 : decode bc_M_put 26 = .ok (.iaload, 1) := by decide +kernel
theorem dc_M_put_27 : decode bc_M_put 27 = .ok (.bipush 40, 2) := by decide +kernel
theorem dc_M_put_29 : decode bc_M_put 29 = .ok (.if_icmp .lt 5, 3) := by decide +kernel
theorem dc_M_put_32 : decode bc_M_put 32 = .ok (.iconst 0, 1) := by decide +kernel
theorem dc_M_put_33 : decode bc_M_put 33 = .ok (.ireturn, 1) := by decide +kernel
theorem dc_M_put_34 : decode bc_M_put 34 = .ok (.aload_n 0, 1) := by decide +kernel
theorem dc_M_put_35 : decode bc_M_put 35 = .ok (.getfield 7, 3) := by decide +kernel
theorem dc_M_put_38 : decode bc_M_put 38 = .ok (.bipush 40, 2) := by decide +kernel
theorem dc_M_put_40 : decode bc_M_put 40 = .ok (.iload_n 1, 1) := by decide +kernel
theorem dc_M_put_41 : decode bc_M_put 41 = .ok (.imul, 1) := by decide +kernel
theorem dc_M_put_42 : decode bc_M_put 42 = .ok (.aload_n 0, 1) := by decide +kernel
theorem dc_M_put_43 : decode bc_M_put 43 = .ok (.getfield 13, 3) := by decide +kernel
theorem dc_M_put_46 : decode bc_M_put 46 = .ok (.iload_n 1, 1) := by decide +kernel
theorem dc_M_put_47 : decode bc_M_put 47 = .ok (.iaload, 1) := by decide +kernel
theorem dc_M_put_48 : decode bc_M_put 48 = .ok (.iadd, 1) := by decide +kernel
theorem dc_M_put_49 : decode bc_M_put 49 = .ok (.iload_n 2, 1) := by decide +kernel
theorem dc_M_put_50 : decode bc_M_put 50 = .ok (.castore, 1) := by decide +kernel
theorem dc_M_put_51 : decode bc_M_put 51 = .ok (.aload_n 0, 1) := by decide +kernel
theorem dc_M_put_52 : decode bc_M_put 52 = .ok (.getfield 13, 3) := by decide +kernel
theorem dc_M_put_55 : decode bc_M_put 55 = .ok (.iload_n 1, 1) := by decide +kernel
theorem dc_M_put_56 : decode bc_M_put 56 = .ok (.dup2, 1) := by decide +kernel
theorem dc_M_put_57 : decode bc_M_put 57 = .ok (.iaload, 1) := by decide +kernel
theorem dc_M_put_58 : decode bc_M_put 58 = .ok (.iconst 1, 1) := by decide +kernel
theorem dc_M_put_59 : decode bc_M_put 59 = .ok (.iadd, 1) := by decide +kernel
theorem dc_M_put_60 : decode bc_M_put 60 = .ok (.iastore, 1) := by decide +kernel
theorem dc_M_put_61 : decode bc_M_put 61 = .ok (.iconst 1, 1) := by decide +kernel
theorem dc_M_put_62 : decode bc_M_put 62 = .ok (.ireturn, 1) := by decide +kernel
theorem dc_M_clear_0 : decode bc_M_clear 0 = .ok (.iload_n 1, 1) := by decide +kernel
theorem dc_M_clear_1 : decode bc_M_clear 1 = .ok (.iconst 0, 1) := by decide +kernel
theorem dc_M_clear_2 : decode bc_M_clear 2 = .ok (.iconst 3, 1) := by decide +kernel
theorem dc_M_clear_3 : decode bc_M_clear 3 = .ok (.invokestatic 144, 3) := by decide +kernel
theorem dc_M_clear_6 : decode bc_M_clear 6 = .ok (.ifCond .eq 5, 3) := by decide +kernel
theorem dc_M_clear_9 : decode bc_M_clear 9 = .ok (.iconst 0, 1) := by decide +kernel
theorem dc_M_clear_10 : decode bc_M_clear 10 = .ok (.ireturn, 1) := by decide +kernel
theorem dc_M_clear_11 : decode bc_M_clear 11 = .ok (.aload_n 0, 1) := by decide +kernel
theorem dc_M_clear_12 : decode bc_M_clear 12 = .ok (.getfield 13, 3) := by decide +kernel
theorem dc_M_clear_15 : decode bc_M_clear 15 = .ok (.iload_n 1, 1) := by decide +kernel
theorem dc_M_clear_16 : decode bc_M_clear 16 = .ok (.iconst 0, 1) := by decide +kernel
theorem dc_M_clear_17 : decode bc_M_clear 17 = .ok (.iastore, 1) := by decide +kernel
theorem dc_M_clear_18 : decode bc_M_clear 18 = .ok (.iconst 1, 1) := by decide +kernel
theorem dc_M_clear_19 : decode bc_M_clear 19 = .ok (.ireturn, 1) := by decide +kernel
theorem dc_M_digit_0 : decode bc_M_digit 0 = .ok (.iload_n 0, 1) := by decide +kernel
theorem dc_M_digit_1 : decode bc_M_digit 1 = .ok (.bipush 48, 2) := by decide +kernel
theorem dc_M_digit_3 : decode bc_M_digit 3 = .ok (.if_icmp .lt 13, 3) := by decide +kernel
theorem dc_M_digit_6 : decode bc_M_digit 6 = .ok (.iload_n 0, 1) := by decide +kernel
theorem dc_M_digit_7 : decode bc_M_digit 7 = .ok (.bipush 57, 2) := by decide +kernel
theorem dc_M_digit_9 : decode bc_M_digit 9 = .ok (.if_icmp .gt 7, 3) := by decide +kernel
theorem dc_M_digit_12 : decode bc_M_digit 12 = .ok (.iconst 1, 1) := by decide +kernel
theorem dc_M_digit_13 : decode bc_M_digit 13 = .ok (.goto 4, 3) := by decide +kernel
theorem dc_M_digit_16 : decode bc_M_digit 16 = .ok (.iconst 0, 1) := by decide +kernel
theorem dc_M_digit_17 : decode bc_M_digit 17 = .ok (.ireturn, 1) := by decide +kernel
theorem dc_M_look_0 : decode bc_M_look 0 = .ok (.iload_n 2, 1) := by decide +kernel
theorem dc_M_look_1 : decode bc_M_look 1 = .ok (.aload_n 0, 1) := by decide +kernel
theorem dc_M_look_2 : decode bc_M_look 2 = .ok (.getfield 13, 3) := by decide +kernel
theorem dc_M_look_5 : decode bc_M_look 5 = .ok (.iload_n 1, 1) := by decide +kernel
theorem dc_M_look_6 : decode bc_M_look 6 = .ok (.iaload, 1) := by decide +kernel
theorem dc_M_look_7 : decode bc_M_look 7 = .ok (.if_icmp .ge 17, 3) := by decide +kernel
theorem dc_M_look_10 : decode bc_M_look 10 = .ok (.aload_n 0, 1) := by decide +kernel
theorem dc_M_look_11 : decode bc_M_look 11 = .ok (.getfield 7, 3) := by decide +kernel
theorem dc_M_look_14 : decode bc_M_look 14 = .ok (.bipush 40, 2) := by decide +kernel
theorem dc_M_look_16 : decode bc_M_look 16 = .ok (.iload_n 1, 1) := by decide +kernel
theorem dc_M_look_17 : decode bc_M_look 17 = .ok (.imul, 1) := by decide +kernel
theorem dc_M_look_18 : decode bc_M_look 18 = .ok (.iload_n 2, 1) := by decide +kernel
theorem dc_M_look_19 : decode bc_M_look 19 = .ok (.iadd, 1) := by decide +kernel
theorem dc_M_look_20 : decode bc_M_look 20 = .ok (.caload, 1) := by decide +kernel
theorem dc_M_look_21 : decode bc_M_look 21 = .ok (.goto 4, 3) := by decide +kernel
theorem dc_M_look_24 : decode bc_M_look 24 = .ok (.iconst 0, 1) := by decide +kernel
theorem dc_M_look_25 : decode bc_M_look 25 = .ok (.ireturn, 1) := by decide +kernel
theorem dc_M_must_0 : decode bc_M_must 0 = .ok (.aload_n 0, 1) := by decide +kernel
theorem dc_M_must_1 : decode bc_M_must 1 = .ok (.getfield 148, 3) := by decide +kernel
theorem dc_M_must_4 : decode bc_M_must 4 = .ok (.ifCond .ge 41, 3) := by decide +kernel
theorem dc_M_must_7 : decode bc_M_must 7 = .ok (.iload_n 2, 1) := by decide +kernel
theorem dc_M_must_8 : decode bc_M_must 8 = .ok (.aload_n 0, 1) := by decide +kernel
theorem dc_M_must_9 : decode bc_M_must 9 = .ok (.getfield 13, 3) := by decide +kernel
theorem dc_M_must_12 : decode bc_M_must 12 = .ok (.iload_n 1, 1) := by decide +kernel
theorem dc_M_must_13 : decode bc_M_must 13 = .ok (.iaload, 1) := by decide +kernel
theorem dc_M_must_14 : decode bc_M_must 14 = .ok (.if_icmp .ge 7, 3) := by decide +kernel
theorem dc_M_must_17 : decode bc_M_must 17 = .ok (.iload_n 3, 1) := by decide +kernel
theorem dc_M_must_18 : decode bc_M_must 18 = .ok (.ifCond .ne 27, 3) := by decide +kernel
theorem dc_M_must_21 : decode bc_M_must 21 = .ok (.aload_n 0, 1) := by decide +kernel
theorem dc_M_must_22 : decode bc_M_must 22 = .ok (.iload_n 2, 1) := by decide +kernel
theorem dc_M_must_23 : decode bc_M_must 23 = .ok (.aload_n 0, 1) := by decide +kernel
theorem dc_M_must_24 : decode bc_M_must 24 = .ok (.getfield 13, 3) := by decide +kernel
theorem dc_M_must_27 : decode bc_M_must 27 = .ok (.iload_n 1, 1) := by decide +kernel
theorem dc_M_must_28 : decode bc_M_must 28 = .ok (.iaload, 1) := by decide +kernel
theorem dc_M_must_29 : decode bc_M_must 29 = .ok (.if_icmp .ge 7, 3) := by decide +kernel
theorem dc_M_must_32 : decode bc_M_must 32 = .ok (.iload_n 2, 1) := by decide +kernel
theorem dc_M_must_33 : decode bc_M_must 33 = .ok (.goto 9, 3) := by decide +kernel
theorem dc_M_must_36 : decode bc_M_must 36 = .ok (.aload_n 0, 1) := by decide +kernel
theorem dc_M_must_37 : decode bc_M_must 37 = .ok (.getfield 13, 3) := by decide +kernel
theorem dc_M_must_40 : decode bc_M_must 40 = .ok (.iload_n 1, 1) := by decide +kernel
theorem dc_M_must_41 : decode bc_M_must 41 = .ok (.iaload, 1) := by decide +kernel
theorem dc_M_must_42 : decode bc_M_must 42 = .ok (.putfield 148, 3) := by decide +kernel
theorem dc_M_must_45 : decode bc_M_must 45 = .ok (.aload_n 0, 1) := by decide +kernel
theorem dc_M_must_46 : decode bc_M_must 46 = .ok (.getfield 148, 3) := by decide +kernel
theorem dc_M_must_49 : decode bc_M_must 49 = .ok (.ifCond .ge 7, 3) := by decide +kernel
theorem dc_M_must_52 : decode bc_M_must 52 = .ok (.iconst 1, 1) := by decide +kernel
theorem dc_M_must_53 : decode bc_M_must 53 = .ok (.goto 4, 3) := by decide +kernel
theorem dc_M_must_56 : decode bc_M_must 56 = .ok (.iconst 0, 1) := by decide +kernel
theorem dc_M_must_57 : decode bc_M_must 57 = .ok (.ireturn, 1) := by decide +kernel
theorem dc_M_number_0 : decode bc_M_number 0 = .ok (.aload_n 0, 1) := by decide +kernel
theorem dc_M_number_1 : decode bc_M_number 1 = .ok (.iload_n 1, 1) := by decide +kernel
theorem dc_M_number_2 : decode bc_M_number 2 = .ok (.iload_n 2, 1) := by decide +kernel
theorem dc_M_number_3 : decode bc_M_number 3 = .ok (.aload_n 0, 1) := by decide +kernel
theorem dc_M_number_4 : decode bc_M_number 4 = .ok (.iload_n 1, 1) := by decide +kernel
theorem dc_M_number_5 : decode bc_M_number 5 = .ok (.iload_n 2, 1) := by decide +kernel
theorem dc_M_number_6 : decode bc_M_number 6 = .ok (.invokevirtual 152, 3) := by decide +kernel
theorem dc_M_number_9 : decode bc_M_number 9 = .ok (.invokestatic 156, 3) := by decide +kernel
theorem dc_M_number_12 : decode bc_M_number 12 = .ok (.invokevirtual 160, 3) := by decide +kernel
theorem dc_M_number_15 : decode bc_M_number 15 = .ok (.ifCond .ne 5, 3) := by decide +kernel
theorem dc_M_number_18 : decode bc_M_number 18 = .ok (.iload_n 2, 1) := by decide +kernel
theorem dc_M_number_19 : decode bc_M_number 19 = .ok (.ireturn, 1) := by decide +kernel
theorem dc_M_number_20 : decode bc_M_number 20 = .ok (.iconst 0, 1) := by decide +kernel
theorem dc_M_number_21 : decode bc_M_number 21 = .ok (.istore 5, 2) := by decide +kernel
theorem dc_M_number_23 : decode bc_M_number 23 = .ok (.iload_n 2, 1) := by decide +kernel
theorem dc_M_number_24 : decode bc_M_number 24 = .ok (.istore 6, 2) := by decide +kernel
theorem dc_M_number_26 : decode bc_M_number 26 = .ok (.iload 6, 2) := by decide +kernel
theorem dc_M_number_28 : decode bc_M_number 28 = .ok (.iload_n 2, 1) := by decide +kernel
theorem dc_M_number_29 : decode bc_M_number 29 = .ok (.iconst 4, 1) := by decide +kernel
theorem dc_M_number_30 : decode bc_M_number 30 = .ok (.iadd, 1) := by decide +kernel
theorem dc_M_number_31 : decode bc_M_number 31 = .ok (.if_icmp .ge 51, 3) := by decide +kernel
theorem dc_M_number_34 : decode bc_M_number 34 = .ok (.iload 6, 2) := by decide +kernel
theorem dc_M_number_36 : decode bc_M_number 36 = .ok (.aload_n 0, 1) := by decide +kernel
theorem dc_M_number_37 : decode bc_M_number 37 = .ok (.getfield 13, 3) := by decide +kernel
theorem dc_M_number_40 : decode bc_M_number 40 = .ok (.iload_n 1, 1) := by decide +kernel
theorem dc_M_number_41 : decode bc_M_number 41 = .ok (.iaload, 1) := by decide +kernel
theorem dc_M_number_42 : decode bc_M_number 42 = .ok (.if_icmp .ge 40, 3) := by decide +kernel
theorem dc_M_number_45 : decode bc_M_number 45 = .ok (.aload_n 0, 1) := by decide +kernel
theorem dc_M_number_46 : decode bc_M_number 46 = .ok (.iload_n 1, 1) := by decide +kernel
theorem dc_M_number_47 : decode bc_M_number 47 = .ok (.iload 6, 2) := by decide +kernel
theorem dc_M_number_49 : decode bc_M_number 49 = .ok (.invokevirtual 152, 3) := by decide +kernel
theorem dc_M_number_52 : decode bc_M_number 52 = .ok (.invokestatic 156, 3) := by decide +kernel
theorem dc_M_number_55 : decode bc_M_number 55 = .ok (.ifCond .eq 27, 3) := by decide +kernel
theorem dc_M_number_58 : decode bc_M_number 58 = .ok (.iload 5, 2) := by decide +kernel
theorem dc_M_number_60 : decode bc_M_number 60 = .ok (.bipush 10, 2) := by decide +kernel
theorem dc_M_number_62 : decode bc_M_number 62 = .ok (.imul, 1) := by decide +kernel
theorem dc_M_number_63 : decode bc_M_number 63 = .ok (.aload_n 0, 1) := by decide +kernel
theorem dc_M_number_64 : decode bc_M_number 64 = .ok (.iload_n 1, 1) := by decide +kernel
theorem dc_M_number_65 : decode bc_M_number 65 = .ok (.iload 6, 2) := by decide +kernel
theorem dc_M_number_67 : decode bc_M_number 67 = .ok (.invokevirtual 152, 3) := by decide +kernel
theorem dc_M_number_70 : decode bc_M_number 70 = .ok (.iadd, 1) := by decide +kernel
theorem dc_M_number_71 : decode bc_M_number 71 = .ok (.bipush 48, 2) := by decide +kernel
theorem dc_M_number_73 : decode bc_M_number 73 = .ok (.isub, 1) := by decide +kernel
theorem dc_M_number_74 : decode bc_M_number 74 = .ok (.istore 5, 2) := by decide +kernel
theorem dc_M_number_76 : decode bc_M_number 76 = .ok (.iinc 6 1, 3) := by decide +kernel
theorem dc_M_number_79 : decode bc_M_number 79 = .ok (.goto (-53), 3) := by decide +kernel
theorem dc_M_number_82 : decode bc_M_number 82 = .ok (.iload 5, 2) := by decide +kernel
theorem dc_M_number_84 : decode bc_M_number 84 = .ok (.iload_n 3, 1) := by decide +kernel
theorem dc_M_number_85 : decode bc_M_number 85 = .ok (.if_icmp .lt 10, 3) := by decide +kernel
theorem dc_M_number_88 : decode bc_M_number 88 = .ok (.iload 5, 2) := by decide +kernel
theorem dc_M_number_90 : decode bc_M_number 90 = .ok (.iload 4, 2) := by decide +kernel
theorem dc_M_number_92 : decode bc_M_number 92 = .ok (.if_icmp .le 8, 3) := by decide +kernel
theorem dc_M_number_95 : decode bc_M_number 95 = .ok (.aload_n 0, 1) := by decide +kernel
theorem dc_M_number_96 : decode bc_M_number 96 = .ok (.iload_n 2, 1) := by decide +kernel
theorem dc_M_number_97 : decode bc_M_number 97 = .ok (.putfield 148, 3) := by decide +kernel
theorem dc_M_number_100 : decode bc_M_number 100 = .ok (.iload 6, 2) := by decide +kernel
theorem dc_M_number_102 : decode bc_M_number 102 = .ok (.ireturn, 1) := by decide +kernel
theorem dc_M_test_0 : decode bc_M_test 0 = .ok (.aload_n 0, 1) := by decide +kernel
theorem dc_M_test_1 : decode bc_M_test 1 = .ok (.iload_n 1, 1) := by decide +kernel
theorem dc_M_test_2 : decode bc_M_test 2 = .ok (.iload_n 2, 1) := by decide +kernel
theorem dc_M_test_3 : decode bc_M_test 3 = .ok (.invokevirtual 152, 3) := by decide +kernel
theorem dc_M_test_6 : decode bc_M_test 6 = .ok (.istore_n 3, 1) := by decide +kernel
theorem dc_M_test_7 : decode bc_M_test 7 = .ok (.aload_n 0, 1) := by decide +kernel
theorem dc_M_test_8 : decode bc_M_test 8 = .ok (.iload_n 1, 1) := by decide +kernel
theorem dc_M_test_9 : decode bc_M_test 9 = .ok (.iload_n 2, 1) := by decide +kernel
theorem dc_M_test_10 : decode bc_M_test 10 = .ok (.iload_n 3, 1) := by decide +kernel
theorem dc_M_test_11 : decode bc_M_test 11 = .ok (.bipush 98, 2) := by decide +kernel
theorem dc_M_test_13 : decode bc_M_test 13 = .ok (.if_icmp .eq 9, 3) := by decide +kernel
theorem dc_M_test_16 : decode bc_M_test 16 = .ok (.iload_n 3, 1) := by decide +kernel
theorem dc_M_test_17 : decode bc_M_test 17 = .ok (.bipush 107, 2) := by decide +kernel
theorem dc_M_test_19 : decode bc_M_test 19 = .ok (.if_icmp .ne 7, 3) := by decide +kernel
theorem dc_M_test_22 : decode bc_M_test 22 = .ok (.iconst 1, 1) := by decide +kernel
theorem dc_M_test_23 : decode bc_M_test 23 = .ok (.goto 4, 3) := by decide +kernel
theorem dc_M_test_26 : decode bc_M_test 26 = .ok (.iconst 0, 1) := by decide +kernel
theorem dc_M_test_27 : decode bc_M_test 27 = .ok (.invokevirtual 160, 3) := by decide +kernel
theorem dc_M_test_30 : decode bc_M_test 30 = .ok (.ifCond .ne 5, 3) := by decide +kernel
theorem dc_M_test_33 : decode bc_M_test 33 = .ok (.iload_n 2, 1) := by decide +kernel
theorem dc_M_test_34 : decode bc_M_test 34 = .ok (.ireturn, 1) := by decide +kernel
theorem dc_M_test_35 : decode bc_M_test 35 = .ok (.aload_n 0, 1) := by decide +kernel
theorem dc_M_test_36 : decode bc_M_test 36 = .ok (.iload_n 1, 1) := by decide +kernel
theorem dc_M_test_37 : decode bc_M_test 37 = .ok (.iload_n 2, 1) := by decide +kernel
theorem dc_M_test_38 : decode bc_M_test 38 = .ok (.iconst 1, 1) := by decide +kernel
theorem dc_M_test_39 : decode bc_M_test 39 = .ok (.iadd, 1) := by decide +kernel
theorem dc_M_test_40 : decode bc_M_test 40 = .ok (.invokevirtual 152, 3) := by decide +kernel
theorem dc_M_test_43 : decode bc_M_test 43 = .ok (.istore 4, 2) := by decide +kernel
theorem dc_M_test_45 : decode bc_M_test 45 = .ok (.aload_n 0, 1) := by decide +kernel
theorem dc_M_test_46 : decode bc_M_test 46 = .ok (.iload_n 1, 1) := by decide +kernel
theorem dc_M_test_47 : decode bc_M_test 47 = .ok (.iload_n 2, 1) := by decide +kernel
theorem dc_M_test_48 : decode bc_M_test 48 = .ok (.iconst 1, 1) := by decide +kernel
theorem dc_M_test_49 : decode bc_M_test 49 = .ok (.iadd, 1) := by decide +kernel
theorem dc_M_test_50 : decode bc_M_test 50 = .ok (.iload 4, 2) := by decide +kernel
theorem dc_M_test_52 : decode bc_M_test 52 = .ok (.bipush 60, 2) := by decide +kernel
theorem dc_M_test_54 : decode bc_M_test 54 = .ok (.if_icmp .eq 24, 3) := by decide +kernel
theorem dc_M_test_57 : decode bc_M_test 57 = .ok (.iload 4, 2) := by decide +kernel
theorem dc_M_test_59 : decode bc_M_test 59 = .ok (.bipush 62, 2) := by decide +kernel
theorem dc_M_test_61 : decode bc_M_test 61 = .ok (.if_icmp .eq 17, 3) := by decide +kernel
theorem dc_M_test_64 : decode bc_M_test 64 = .ok (.iload 4, 2) := by decide +kernel
theorem dc_M_test_66 : decode bc_M_test 66 = .ok (.bipush 61, 2) := by decide +kernel
theorem dc_M_test_68 : decode bc_M_test 68 = .ok (.if_icmp .eq 10, 3) := by decide +kernel
theorem dc_M_test_71 : decode bc_M_test 71 = .ok (.iload 4, 2) := by decide +kernel
theorem dc_M_test_73 : decode bc_M_test 73 = .ok (.bipush 37, 2) := by decide +kernel
theorem dc_M_test_75 : decode bc_M_test 75 = .ok (.if_icmp .ne 7, 3) := by decide +kernel
theorem dc_M_test_78 : decode bc_M_test 78 = .ok (.iconst 1, 1) := by decide +kernel
theorem dc_M_test_79 : decode bc_M_test 79 = .ok (.goto 4, 3) := by decide +kernel
theorem dc_M_test_82 : decode bc_M_test 82 = .ok (.iconst 0, 1) := by decide +kernel
theorem dc_M_test_83 : decode bc_M_test 83 = .ok (.invokevirtual 160, 3) := by decide +kernel
theorem dc_M_test_86 : decode bc_M_test 86 = .ok (.ifCond .ne 5, 3) := by decide +kernel
theorem dc_M_test_89 : decode bc_M_test 89 = .ok (.iload_n 2, 1) := by decide +kernel
theorem dc_M_test_90 : decode bc_M_test 90 = .ok (.ireturn, 1) := by decide +kernel
theorem dc_M_test_91 : decode bc_M_test 91 = .ok (.aload_n 0, 1) := by decide +kernel
theorem dc_M_test_92 : decode bc_M_test 92 = .ok (.iload_n 1, 1) := by decide +kernel
theorem dc_M_test_93 : decode bc_M_test 93 = .ok (.iload_n 2, 1) := by decide +kernel
theorem dc_M_test_94 : decode bc_M_test 94 = .ok (.iconst 2, 1) := by decide +kernel
theorem dc_M_test_95 : decode bc_M_test 95 = .ok (.iadd, 1) := by decide +kernel
theorem dc_M_test_96 : decode bc_M_test 96 = .ok (.iload 4, 2) := by decide +kernel
theorem dc_M_test_98 : decode bc_M_test 98 = .ok (.bipush 37, 2) := by decide +kernel
theorem dc_M_test_100 : decode bc_M_test 100 = .ok (.if_icmp .ne 7, 3) := by decide +kernel
theorem dc_M_test_103 : decode bc_M_test 103 = .ok (.iconst 1, 1) := by decide +kernel
theorem dc_M_test_104 : decode bc_M_test 104 = .ok (.goto 4, 3) := by decide +kernel
theorem dc_M_test_107 : decode bc_M_test 107 = .ok (.iconst 0, 1) := by decide +kernel
theorem dc_M_test_108 : decode bc_M_test 108 = .ok (.sipush 9999, 3) := by decide +kernel
theorem dc_M_test_111 : decode bc_M_test 111 = .ok (.invokevirtual 164, 3) := by decide +kernel
theorem dc_M_test_114 : decode bc_M_test 114 = .ok (.ireturn, 1) := by decide +kernel
theorem dc_M_enter_0 : decode bc_M_enter 0 = .ok (.aload_n 0, 1) := by decide +kernel
theorem dc_M_enter_1 : decode bc_M_enter 1 = .ok (.iload_n 1, 1) := by decide +kernel
theorem dc_M_enter_2 : decode bc_M_enter 2 = .ok (.iload_n 2, 1) := by decide +kernel
theorem dc_M_enter_3 : decode bc_M_enter 3 = .ok (.aload_n 0, 1) := by decide +kernel
theorem dc_M_enter_4 : decode bc_M_enter 4 = .ok (.iload_n 1, 1) := by decide +kernel
theorem dc_M_enter_5 : decode bc_M_enter 5 = .ok (.iload_n 2, 1) := by decide +kernel
theorem dc_M_enter_6 : decode bc_M_enter 6 = .ok (.invokevirtual 152, 3) := by decide +kernel
theorem dc_M_enter_9 : decode bc_M_enter 9 = .ok (.bipush 40, 2) := by decide +kernel
theorem dc_M_enter_11 : decode bc_M_enter 11 = .ok (.if_icmp .ne 15, 3) := by decide +kernel
theorem dc_M_enter_14 : decode bc_M_enter 14 = .ok (.aload_n 0, 1) := by decide +kernel
theorem dc_M_enter_15 : decode bc_M_enter 15 = .ok (.getfield 168, 3) := by decide +kernel
theorem dc_M_enter_18 : decode bc_M_enter 18 = .ok (.iconst 3, 1) := by decide +kernel
theorem dc_M_enter_19 : decode bc_M_enter 19 = .ok (.if_icmp .ge 7, 3) := by decide +kernel
theorem dc_M_enter_22 : decode bc_M_enter 22 = .ok (.iconst 1, 1) := by decide +kernel
theorem dc_M_enter_23 : decode bc_M_enter 23 = .ok (.goto 4, 3) := by decide +kernel
theorem dc_M_enter_26 : decode bc_M_enter 26 = .ok (.iconst 0, 1) := by decide +kernel
theorem dc_M_enter_27 : decode bc_M_enter 27 = .ok (.invokevirtual 160, 3) := by decide +kernel
theorem dc_M_enter_30 : decode bc_M_enter 30 = .ok (.ifCond .ne 5, 3) := by decide +kernel
theorem dc_M_enter_33 : decode bc_M_enter 33 = .ok (.iload_n 2, 1) := by decide +kernel
theorem dc_M_enter_34 : decode bc_M_enter 34 = .ok (.ireturn, 1) := by decide +kernel
theorem dc_M_enter_35 : decode bc_M_enter 35 = .ok (.aload_n 0, 1) := by decide +kernel
theorem dc_M_enter_36 : decode bc_M_enter 36 = .ok (.getfield 23, 3) := by decide +kernel
theorem dc_M_enter_39 : decode bc_M_enter 39 = .ok (.aload_n 0, 1) := by decide +kernel
theorem dc_M_enter_40 : decode bc_M_enter 40 = .ok (.getfield 168, 3) := by decide +kernel
theorem dc_M_enter_43 : decode bc_M_enter 43 = .ok (.iload_n 3, 1) := by decide +kernel
theorem dc_M_enter_44 : decode bc_M_enter 44 = .ok (.iastore, 1) := by decide +kernel
theorem dc_M_enter_45 : decode bc_M_enter 45 = .ok (.aload_n 0, 1) := by decide +kernel
theorem dc_M_enter_46 : decode bc_M_enter 46 = .ok (.dup, 1) := by decide +kernel
theorem dc_M_enter_47 : decode bc_M_enter 47 = .ok (.getfield 168, 3) := by decide +kernel
theorem dc_M_enter_50 : decode bc_M_enter 50 = .ok (.iconst 1, 1) := by decide +kernel
theorem dc_M_enter_51 : decode bc_M_enter 51 = .ok (.iadd, 1) := by decide +kernel
theorem dc_M_enter_52 : decode bc_M_enter 52 = .ok (.putfield 168, 3) := by decide +kernel
theorem dc_M_enter_55 : decode bc_M_enter 55 = .ok (.iload_n 2, 1) := by decide +kernel
theorem dc_M_enter_56 : decode bc_M_enter 56 = .ok (.iconst 1, 1) := by decide +kernel
theorem dc_M_enter_57 : decode bc_M_enter 57 = .ok (.iadd, 1) := by decide +kernel
theorem dc_M_enter_58 : decode bc_M_enter 58 = .ok (.ireturn, 1) := by decide +kernel
theorem dc_M_leave_0 : decode bc_M_leave 0 = .ok (.aload_n 0, 1) := by decide +kernel
theorem dc_M_leave_1 : decode bc_M_leave 1 = .ok (.iload_n 1, 1) := by decide +kernel
theorem dc_M_leave_2 : decode bc_M_leave 2 = .ok (.iload_n 2, 1) := by decide +kernel
theorem dc_M_leave_3 : decode bc_M_leave 3 = .ok (.aload_n 0, 1) := by decide +kernel
theorem dc_M_leave_4 : decode bc_M_leave 4 = .ok (.getfield 168, 3) := by decide +kernel
theorem dc_M_leave_7 : decode bc_M_leave 7 = .ok (.ifCond .le 7, 3) := by decide +kernel
theorem dc_M_leave_10 : decode bc_M_leave 10 = .ok (.iconst 1, 1) := by decide +kernel
theorem dc_M_leave_11 : decode bc_M_leave 11 = .ok (.goto 4, 3) := by decide +kernel
theorem dc_M_leave_14 : decode bc_M_leave 14 = .ok (.iconst 0, 1) := by decide +kernel
theorem dc_M_leave_15 : decode bc_M_leave 15 = .ok (.invokevirtual 160, 3) := by decide +kernel
theorem dc_M_leave_18 : decode bc_M_leave 18 = .ok (.ifCond .ne 5, 3) := by decide +kernel
theorem dc_M_leave_21 : decode bc_M_leave 21 = .ok (.iload_n 2, 1) := by decide +kernel
theorem dc_M_leave_22 : decode bc_M_leave 22 = .ok (.ireturn, 1) := by decide +kernel
theorem dc_M_leave_23 : decode bc_M_leave 23 = .ok (.aload_n 0, 1) := by decide +kernel
theorem dc_M_leave_24 : decode bc_M_leave 24 = .ok (.dup, 1) := by decide +kernel
theorem dc_M_leave_25 : decode bc_M_leave 25 = .ok (.getfield 168, 3) := by decide +kernel
theorem dc_M_leave_28 : decode bc_M_leave 28 = .ok (.iconst 1, 1) := by decide +kernel
theorem dc_M_leave_29 : decode bc_M_leave 29 = .ok (.isub, 1) := by decide +kernel
theorem dc_M_leave_30 : decode bc_M_leave 30 = .ok (.putfield 168, 3) := by decide +kernel
theorem dc_M_leave_33 : decode bc_M_leave 33 = .ok (.aload_n 0, 1) := by decide +kernel
theorem dc_M_leave_34 : decode bc_M_leave 34 = .ok (.getfield 23, 3) := by decide +kernel
theorem dc_M_leave_37 : decode bc_M_leave 37 = .ok (.aload_n 0, 1) := by decide +kernel
theorem dc_M_leave_38 : decode bc_M_leave 38 = .ok (.getfield 168, 3) := by decide +kernel
theorem dc_M_leave_41 : decode bc_M_leave 41 = .ok (.iaload, 1) := by decide +kernel
theorem dc_M_leave_42 : decode bc_M_leave 42 = .ok (.iconst 1, 1) := by decide +kernel
theorem dc_M_leave_43 : decode bc_M_leave 43 = .ok (.if_icmp .ne 32, 3) := by decide +kernel
theorem dc_M_leave_46 : decode bc_M_leave 46 = .ok (.iload_n 2, 1) := by decide +kernel
theorem dc_M_leave_47 : decode bc_M_leave 47 = .ok (.iconst 1, 1) := by decide +kernel
theorem dc_M_leave_48 : decode bc_M_leave 48 = .ok (.iadd, 1) := by decide +kernel
theorem dc_M_leave_49 : decode bc_M_leave 49 = .ok (.aload_n 0, 1) := by decide +kernel
theorem dc_M_leave_50 : decode bc_M_leave 50 = .ok (.getfield 13, 3) := by decide +kernel
theorem dc_M_leave_53 : decode bc_M_leave 53 = .ok (.iload_n 1, 1) := by decide +kernel
theorem dc_M_leave_54 : decode bc_M_leave 54 = .ok (.iaload, 1) := by decide +kernel
theorem dc_M_leave_55 : decode bc_M_leave 55 = .ok (.if_icmp .ge 20, 3) := by decide +kernel
theorem dc_M_leave_58 : decode bc_M_leave 58 = .ok (.aload_n 0, 1) := by decide +kernel
theorem dc_M_leave_59 : decode bc_M_leave 59 = .ok (.iload_n 1, 1) := by decide +kernel
theorem dc_M_leave_60 : decode bc_M_leave 60 = .ok (.iload_n 2, 1) := by decide +kernel
theorem dc_M_leave_61 : decode bc_M_leave 61 = .ok (.iconst 1, 1) := by decide +kernel
theorem dc_M_leave_62 : decode bc_M_leave 62 = .ok (.iadd, 1) := by decide +kernel
theorem dc_M_leave_63 : decode bc_M_leave 63 = .ok (.invokevirtual 152, 3) := by decide +kernel
theorem dc_M_leave_66 : decode bc_M_leave 66 = .ok (.bipush 58, 2) := by decide +kernel
theorem dc_M_leave_68 : decode bc_M_leave 68 = .ok (.if_icmp .ne 7, 3) := by decide +kernel
theorem dc_M_leave_71 : decode bc_M_leave 71 = .ok (.iconst 1, 1) := by decide +kernel
theorem dc_M_leave_72 : decode bc_M_leave 72 = .ok (.goto 4, 3) := by decide +kernel
theorem dc_M_leave_75 : decode bc_M_leave 75 = .ok (.iconst 0, 1) := by decide +kernel
theorem dc_M_leave_76 : decode bc_M_leave 76 = .ok (.istore_n 3, 1) := by decide +kernel
theorem dc_M_leave_77 : decode bc_M_leave 77 = .ok (.iload_n 3, 1) := by decide +kernel
theorem dc_M_leave_78 : decode bc_M_leave 78 = .ok (.ifCond .eq 15, 3) := by decide +kernel
theorem dc_M_leave_81 : decode bc_M_leave 81 = .ok (.aload_n 0, 1) := by decide +kernel
theorem dc_M_leave_82 : decode bc_M_leave 82 = .ok (.iload_n 1, 1) := by decide +kernel
theorem dc_M_leave_83 : decode bc_M_leave 83 = .ok (.iload_n 2, 1) := by decide +kernel
theorem dc_M_leave_84 : decode bc_M_leave 84 = .ok (.iconst 2, 1) := by decide +kernel
theorem dc_M_leave_85 : decode bc_M_leave 85 = .ok (.iadd, 1) := by decide +kernel
theorem dc_M_leave_86 : decode bc_M_leave 86 = .ok (.iconst 0, 1) := by decide +kernel
theorem dc_M_leave_87 : decode bc_M_leave 87 = .ok (.invokevirtual 171, 3) := by decide +kernel
theorem dc_M_leave_90 : decode bc_M_leave 90 = .ok (.goto 6, 3) := by decide +kernel
theorem dc_M_leave_93 : decode bc_M_leave 93 = .ok (.iload_n 2, 1) := by decide +kernel
theorem dc_M_leave_94 : decode bc_M_leave 94 = .ok (.iconst 1, 1) := by decide +kernel
theorem dc_M_leave_95 : decode bc_M_leave 95 = .ok (.iadd, 1) := by decide +kernel
theorem dc_M_leave_96 : decode bc_M_leave 96 = .ok (.ireturn, 1) := by decide +kernel
theorem dc_M_stepAt_0 : decode bc_M_stepAt 0 = .ok (.aload_n 0, 1) := by decide +kernel
theorem dc_M_stepAt_1 : decode bc_M_stepAt 1 = .ok (.iload_n 1, 1) := by decide +kernel
theorem dc_M_stepAt_2 : decode bc_M_stepAt 2 = .ok (.iload_n 2, 1) := by decide +kernel
theorem dc_M_stepAt_3 : decode bc_M_stepAt 3 = .ok (.invokevirtual 152, 3) := by decide +kernel
theorem dc_M_stepAt_6 : decode bc_M_stepAt 6 = .ok (.istore_n 3, 1) := by decide +kernel
theorem dc_M_stepAt_7 : decode bc_M_stepAt 7 = .ok (.iload_n 2, 1) := by decide +kernel
theorem dc_M_stepAt_8 : decode bc_M_stepAt 8 = .ok (.iconst 1, 1) := by decide +kernel
theorem dc_M_stepAt_9 : decode bc_M_stepAt 9 = .ok (.iadd, 1) := by decide +kernel
theorem dc_M_stepAt_10 : decode bc_M_stepAt 10 = .ok (.istore 4, 2) := by decide +kernel
theorem dc_M_stepAt_12 : decode bc_M_stepAt 12 = .ok (.iload_n 3, 1) := by decide +kernel
theorem dc_M_stepAt_13 : decode bc_M_stepAt 13 = .ok (.lookupswitch 363 #[(33, 228), (38, 228), (42, 131), (43, 131), (45, 131), (62, 216), (63, 154), (97, 274), (98, 143), (102, 146), (105, 143), (107, 143), (113, 238), (114, 143), (115, 184)], 131) := by decide +kernel
theorem dc_M_stepAt_144 : decode bc_M_stepAt 144 = .ok (.aload_n 0, 1) := by decide +kernel
theorem dc_M_stepAt_145 : decode bc_M_stepAt 145 = .ok (.iload_n 1, 1) := by decide +kernel
theorem dc_M_stepAt_146 : decode bc_M_stepAt 146 = .ok (.iload 4, 2) := by decide +kernel
theorem dc_M_stepAt_148 : decode bc_M_stepAt 148 = .ok (.iconst 0, 1) := by decide +kernel
theorem dc_M_stepAt_149 : decode bc_M_stepAt 149 = .ok (.sipush 9999, 3) := by decide +kernel
theorem dc_M_stepAt_152 : decode bc_M_stepAt 152 = .ok (.invokevirtual 164, 3) := by decide +kernel
theorem dc_M_stepAt_155 : decode bc_M_stepAt 155 = .ok (.ireturn, 1) := by decide +kernel
theorem dc_M_stepAt_156 : decode bc_M_stepAt 156 = .ok (.iload 4, 2) := by decide +kernel
theorem dc_M_stepAt_158 : decode bc_M_stepAt 158 = .ok (.ireturn, 1) := by decide +kernel
theorem dc_M_stepAt_159 : decode bc_M_stepAt 159 = .ok (.aload_n 0, 1) := by decide +kernel
theorem dc_M_stepAt_160 : decode bc_M_stepAt 160 = .ok (.iload_n 1, 1) := by decide +kernel
theorem dc_M_stepAt_161 : decode bc_M_stepAt 161 = .ok (.iload 4, 2) := by decide +kernel
theorem dc_M_stepAt_163 : decode bc_M_stepAt 163 = .ok (.invokevirtual 175, 3) := by decide +kernel
theorem dc_M_stepAt_166 : decode bc_M_stepAt 166 = .ok (.ireturn, 1) := by decide +kernel
theorem dc_M_stepAt_167 : decode bc_M_stepAt 167 = .ok (.aload_n 0, 1) := by decide +kernel
theorem dc_M_stepAt_168 : decode bc_M_stepAt 168 = .ok (.iload_n 1, 1) := by decide +kernel
theorem dc_M_stepAt_169 : decode bc_M_stepAt 169 = .ok (.iload 4, 2) := by decide +kernel
theorem dc_M_stepAt_171 : decode bc_M_stepAt 171 = .ok (.invokevirtual 175, 3) := by decide +kernel
theorem dc_M_stepAt_174 : decode bc_M_stepAt 174 = .ok (.istore 4, 2) := by decide +kernel
theorem dc_M_stepAt_176 : decode bc_M_stepAt 176 = .ok (.aload_n 0, 1) := by decide +kernel
theorem dc_M_stepAt_177 : decode bc_M_stepAt 177 = .ok (.getfield 148, 3) := by decide +kernel
theorem dc_M_stepAt_180 : decode bc_M_stepAt 180 = .ok (.ifCond .ge 14, 3) := by decide +kernel
theorem dc_M_stepAt_183 : decode bc_M_stepAt 183 = .ok (.aload_n 0, 1) := by decide +kernel
theorem dc_M_stepAt_184 : decode bc_M_stepAt 184 = .ok (.iload_n 1, 1) := by decide +kernel
theorem dc_M_stepAt_185 : decode bc_M_stepAt 185 = .ok (.iload 4, 2) := by decide +kernel
theorem dc_M_stepAt_187 : decode bc_M_stepAt 187 = .ok (.iconst 1, 1) := by decide +kernel
theorem dc_M_stepAt_188 : decode bc_M_stepAt 188 = .ok (.invokevirtual 171, 3) := by decide +kernel
theorem dc_M_stepAt_191 : decode bc_M_stepAt 191 = .ok (.goto 5, 3) := by decide +kernel
theorem dc_M_stepAt_194 : decode bc_M_stepAt 194 = .ok (.iload 4, 2) := by decide +kernel
theorem dc_M_stepAt_196 : decode bc_M_stepAt 196 = .ok (.ireturn, 1) := by decide +kernel
theorem dc_M_stepAt_197 : decode bc_M_stepAt 197 = .ok (.aload_n 0, 1) := by decide +kernel
theorem dc_M_stepAt_198 : decode bc_M_stepAt 198 = .ok (.iload_n 1, 1) := by decide +kernel
theorem dc_M_stepAt_199 : decode bc_M_stepAt 199 = .ok (.iload 4, 2) := by decide +kernel
theorem dc_M_stepAt_201 : decode bc_M_stepAt 201 = .ok (.iconst 1, 1) := by decide +kernel
theorem dc_M_stepAt_202 : decode bc_M_stepAt 202 = .ok (.iconst 4, 1) := by decide +kernel
theorem dc_M_stepAt_203 : decode bc_M_stepAt 203 = .ok (.invokevirtual 164, 3) := by decide +kernel
theorem dc_M_stepAt_206 : decode bc_M_stepAt 206 = .ok (.istore 4, 2) := by decide +kernel
theorem dc_M_stepAt_208 : decode bc_M_stepAt 208 = .ok (.aload_n 0, 1) := by decide +kernel
theorem dc_M_stepAt_209 : decode bc_M_stepAt 209 = .ok (.getfield 148, 3) := by decide +kernel
theorem dc_M_stepAt_212 : decode bc_M_stepAt 212 = .ok (.ifCond .ge 14, 3) := by decide +kernel
theorem dc_M_stepAt_215 : decode bc_M_stepAt 215 = .ok (.aload_n 0, 1) := by decide +kernel
theorem dc_M_stepAt_216 : decode bc_M_stepAt 216 = .ok (.iload_n 1, 1) := by decide +kernel
theorem dc_M_stepAt_217 : decode bc_M_stepAt 217 = .ok (.iload 4, 2) := by decide +kernel
theorem dc_M_stepAt_219 : decode bc_M_stepAt 219 = .ok (.iconst 0, 1) := by decide +kernel
theorem dc_M_stepAt_220 : decode bc_M_stepAt 220 = .ok (.invokevirtual 171, 3) := by decide +kernel
theorem dc_M_stepAt_223 : decode bc_M_stepAt 223 = .ok (.goto 5, 3) := by decide +kernel
theorem dc_M_stepAt_226 : decode bc_M_stepAt 226 = .ok (.iload 4, 2) := by decide +kernel
theorem dc_M_stepAt_228 : decode bc_M_stepAt 228 = .ok (.ireturn, 1) := by decide +kernel
theorem dc_M_stepAt_229 : decode bc_M_stepAt 229 = .ok (.aload_n 0, 1) := by decide +kernel
theorem dc_M_stepAt_230 : decode bc_M_stepAt 230 = .ok (.iload_n 1, 1) := by decide +kernel
theorem dc_M_stepAt_231 : decode bc_M_stepAt 231 = .ok (.iload 4, 2) := by decide +kernel
theorem dc_M_stepAt_233 : decode bc_M_stepAt 233 = .ok (.iload_n 1, 1) := by decide +kernel
theorem dc_M_stepAt_234 : decode bc_M_stepAt 234 = .ok (.iconst 1, 1) := by decide +kernel
theorem dc_M_stepAt_235 : decode bc_M_stepAt 235 = .ok (.iadd, 1) := by decide +kernel
theorem dc_M_stepAt_236 : decode bc_M_stepAt 236 = .ok (.iconst 3, 1) := by decide +kernel
theorem dc_M_stepAt_237 : decode bc_M_stepAt 237 = .ok (.invokevirtual 164, 3) := by decide +kernel
theorem dc_M_stepAt_240 : decode bc_M_stepAt 240 = .ok (.ireturn, 1) := by decide +kernel
theorem dc_M_stepAt_241 : decode bc_M_stepAt 241 = .ok (.aload_n 0, 1) := by decide +kernel
theorem dc_M_stepAt_242 : decode bc_M_stepAt 242 = .ok (.iload_n 1, 1) := by decide +kernel
theorem dc_M_stepAt_243 : decode bc_M_stepAt 243 = .ok (.iload 4, 2) := by decide +kernel
theorem dc_M_stepAt_245 : decode bc_M_stepAt 245 = .ok (.iconst 0, 1) := by decide +kernel
theorem dc_M_stepAt_246 : decode bc_M_stepAt 246 = .ok (.iconst 3, 1) := by decide +kernel
theorem dc_M_stepAt_247 : decode bc_M_stepAt 247 = .ok (.invokevirtual 164, 3) := by decide +kernel
theorem dc_M_stepAt_250 : decode bc_M_stepAt 250 = .ok (.ireturn, 1) := by decide +kernel
theorem dc_M_stepAt_251 : decode bc_M_stepAt 251 = .ok (.aload_n 0, 1) := by decide +kernel
theorem dc_M_stepAt_252 : decode bc_M_stepAt 252 = .ok (.iload_n 1, 1) := by decide +kernel
theorem dc_M_stepAt_253 : decode bc_M_stepAt 253 = .ok (.iload_n 2, 1) := by decide +kernel
theorem dc_M_stepAt_254 : decode bc_M_stepAt 254 = .ok (.aload_n 0, 1) := by decide +kernel
theorem dc_M_stepAt_255 : decode bc_M_stepAt 255 = .ok (.getfield 168, 3) := by decide +kernel
theorem dc_M_stepAt_258 : decode bc_M_stepAt 258 = .ok (.ifCond .ne 7, 3) := by decide +kernel
theorem dc_M_stepAt_261 : decode bc_M_stepAt 261 = .ok (.iconst 1, 1) := by decide +kernel
theorem dc_M_stepAt_262 : decode bc_M_stepAt 262 = .ok (.goto 4, 3) := by decide +kernel
theorem dc_M_stepAt_265 : decode bc_M_stepAt 265 = .ok (.iconst 0, 1) := by decide +kernel
theorem dc_M_stepAt_266 : decode bc_M_stepAt 266 = .ok (.invokevirtual 160, 3) := by decide +kernel
theorem dc_M_stepAt_269 : decode bc_M_stepAt 269 = .ok (.ifCond .eq 15, 3) := by decide +kernel
theorem dc_M_stepAt_272 : decode bc_M_stepAt 272 = .ok (.aload_n 0, 1) := by decide +kernel
theorem dc_M_stepAt_273 : decode bc_M_stepAt 273 = .ok (.iload_n 1, 1) := by decide +kernel
theorem dc_M_stepAt_274 : decode bc_M_stepAt 274 = .ok (.iload 4, 2) := by decide +kernel
theorem dc_M_stepAt_276 : decode bc_M_stepAt 276 = .ok (.iconst 2, 1) := by decide +kernel
theorem dc_M_stepAt_277 : decode bc_M_stepAt 277 = .ok (.iconst 4, 1) := by decide +kernel
theorem dc_M_stepAt_278 : decode bc_M_stepAt 278 = .ok (.invokevirtual 164, 3) := by decide +kernel
theorem dc_M_stepAt_281 : decode bc_M_stepAt 281 = .ok (.goto 5, 3) := by decide +kernel
theorem dc_M_stepAt_284 : decode bc_M_stepAt 284 = .ok (.iload 4, 2) := by decide +kernel
theorem dc_M_stepAt_286 : decode bc_M_stepAt 286 = .ok (.ireturn, 1) := by decide +kernel
theorem dc_M_stepAt_287 : decode bc_M_stepAt 287 = .ok (.aload_n 0, 1) := by decide +kernel
theorem dc_M_stepAt_288 : decode bc_M_stepAt 288 = .ok (.iload_n 1, 1) := by decide +kernel
theorem dc_M_stepAt_289 : decode bc_M_stepAt 289 = .ok (.iload_n 2, 1) := by decide +kernel
theorem dc_M_stepAt_290 : decode bc_M_stepAt 290 = .ok (.aload_n 0, 1) := by decide +kernel
theorem dc_M_stepAt_291 : decode bc_M_stepAt 291 = .ok (.getfield 168, 3) := by decide +kernel
theorem dc_M_stepAt_294 : decode bc_M_stepAt 294 = .ok (.ifCond .ne 7, 3) := by decide +kernel
theorem dc_M_stepAt_297 : decode bc_M_stepAt 297 = .ok (.iconst 1, 1) := by decide +kernel
theorem dc_M_stepAt_298 : decode bc_M_stepAt 298 = .ok (.goto 4, 3) := by decide +kernel
theorem dc_M_stepAt_301 : decode bc_M_stepAt 301 = .ok (.iconst 0, 1) := by decide +kernel
theorem dc_M_stepAt_302 : decode bc_M_stepAt 302 = .ok (.invokevirtual 160, 3) := by decide +kernel
theorem dc_M_stepAt_305 : decode bc_M_stepAt 305 = .ok (.ifCond .eq 15, 3) := by decide +kernel
theorem dc_M_stepAt_308 : decode bc_M_stepAt 308 = .ok (.aload_n 0, 1) := by decide +kernel
theorem dc_M_stepAt_309 : decode bc_M_stepAt 309 = .ok (.iload_n 1, 1) := by decide +kernel
theorem dc_M_stepAt_310 : decode bc_M_stepAt 310 = .ok (.iload 4, 2) := by decide +kernel
theorem dc_M_stepAt_312 : decode bc_M_stepAt 312 = .ok (.iconst 2, 1) := by decide +kernel
theorem dc_M_stepAt_313 : decode bc_M_stepAt 313 = .ok (.iconst 4, 1) := by decide +kernel
theorem dc_M_stepAt_314 : decode bc_M_stepAt 314 = .ok (.invokevirtual 164, 3) := by decide +kernel
theorem dc_M_stepAt_317 : decode bc_M_stepAt 317 = .ok (.goto 5, 3) := by decide +kernel
theorem dc_M_stepAt_320 : decode bc_M_stepAt 320 = .ok (.iload 4, 2) := by decide +kernel
theorem dc_M_stepAt_322 : decode bc_M_stepAt 322 = .ok (.istore 4, 2) := by decide +kernel
theorem dc_M_stepAt_324 : decode bc_M_stepAt 324 = .ok (.aload_n 0, 1) := by decide +kernel
theorem dc_M_stepAt_325 : decode bc_M_stepAt 325 = .ok (.getfield 148, 3) := by decide +kernel
theorem dc_M_stepAt_328 : decode bc_M_stepAt 328 = .ok (.ifCond .ge 45, 3) := by decide +kernel
theorem dc_M_stepAt_331 : decode bc_M_stepAt 331 = .ok (.aload_n 0, 1) := by decide +kernel
theorem dc_M_stepAt_332 : decode bc_M_stepAt 332 = .ok (.iload_n 1, 1) := by decide +kernel
theorem dc_M_stepAt_333 : decode bc_M_stepAt 333 = .ok (.iload 4, 2) := by decide +kernel
theorem dc_M_stepAt_335 : decode bc_M_stepAt 335 = .ok (.aload_n 0, 1) := by decide +kernel
theorem dc_M_stepAt_336 : decode bc_M_stepAt 336 = .ok (.iload_n 1, 1) := by decide +kernel
theorem dc_M_stepAt_337 : decode bc_M_stepAt 337 = .ok (.iload 4, 2) := by decide +kernel
theorem dc_M_stepAt_339 : decode bc_M_stepAt 339 = .ok (.invokevirtual 152, 3) := by decide +kernel
theorem dc_M_stepAt_342 : decode bc_M_stepAt 342 = .ok (.bipush 44, 2) := by decide +kernel
theorem dc_M_stepAt_344 : decode bc_M_stepAt 344 = .ok (.if_icmp .ne 7, 3) := by decide +kernel
theorem dc_M_stepAt_347 : decode bc_M_stepAt 347 = .ok (.iconst 1, 1) := by decide +kernel
theorem dc_M_stepAt_348 : decode bc_M_stepAt 348 = .ok (.goto 4, 3) := by decide +kernel
theorem dc_M_stepAt_351 : decode bc_M_stepAt 351 = .ok (.iconst 0, 1) := by decide +kernel
theorem dc_M_stepAt_352 : decode bc_M_stepAt 352 = .ok (.invokevirtual 160, 3) := by decide +kernel
theorem dc_M_stepAt_355 : decode bc_M_stepAt 355 = .ok (.ifCond .eq 18, 3) := by decide +kernel
theorem dc_M_stepAt_358 : decode bc_M_stepAt 358 = .ok (.aload_n 0, 1) := by decide +kernel
theorem dc_M_stepAt_359 : decode bc_M_stepAt 359 = .ok (.iload_n 1, 1) := by decide +kernel
theorem dc_M_stepAt_360 : decode bc_M_stepAt 360 = .ok (.iload 4, 2) := by decide +kernel
theorem dc_M_stepAt_362 : decode bc_M_stepAt 362 = .ok (.iconst 1, 1) := by decide +kernel
theorem dc_M_stepAt_363 : decode bc_M_stepAt 363 = .ok (.iadd, 1) := by decide +kernel
theorem dc_M_stepAt_364 : decode bc_M_stepAt 364 = .ok (.iconst 1, 1) := by decide +kernel
theorem dc_M_stepAt_365 : decode bc_M_stepAt 365 = .ok (.bipush 99, 2) := by decide +kernel
theorem dc_M_stepAt_367 : decode bc_M_stepAt 367 = .ok (.invokevirtual 164, 3) := by decide +kernel
theorem dc_M_stepAt_370 : decode bc_M_stepAt 370 = .ok (.goto 5, 3) := by decide +kernel
theorem dc_M_stepAt_373 : decode bc_M_stepAt 373 = .ok (.iload 4, 2) := by decide +kernel
theorem dc_M_stepAt_375 : decode bc_M_stepAt 375 = .ok (.ireturn, 1) := by decide +kernel
theorem dc_M_stepAt_376 : decode bc_M_stepAt 376 = .ok (.aload_n 0, 1) := by decide +kernel
theorem dc_M_stepAt_377 : decode bc_M_stepAt 377 = .ok (.iload_n 2, 1) := by decide +kernel
theorem dc_M_stepAt_378 : decode bc_M_stepAt 378 = .ok (.putfield 148, 3) := by decide +kernel
theorem dc_M_stepAt_381 : decode bc_M_stepAt 381 = .ok (.iload 4, 2) := by decide +kernel
theorem dc_M_stepAt_383 : decode bc_M_stepAt 383 = .ok (.ireturn, 1) := by decide +kernel
theorem dc_M_errorOf_0 : decode bc_M_errorOf 0 = .ok (.aload_n 0, 1) := by decide +kernel
theorem dc_M_errorOf_1 : decode bc_M_errorOf 1 = .ok (.iconst (-1), 1) := by decide +kernel
theorem dc_M_errorOf_2 : decode bc_M_errorOf 2 = .ok (.putfield 148, 3) := by decide +kernel
theorem dc_M_errorOf_5 : decode bc_M_errorOf 5 = .ok (.aload_n 0, 1) := by decide +kernel
theorem dc_M_errorOf_6 : decode bc_M_errorOf 6 = .ok (.iconst 0, 1) := by decide +kernel
theorem dc_M_errorOf_7 : decode bc_M_errorOf 7 = .ok (.putfield 168, 3) := by decide +kernel
theorem dc_M_errorOf_10 : decode bc_M_errorOf 10 = .ok (.iconst 0, 1) := by decide +kernel
theorem dc_M_errorOf_11 : decode bc_M_errorOf 11 = .ok (.istore_n 2, 1) := by decide +kernel
theorem dc_M_errorOf_12 : decode bc_M_errorOf 12 = .ok (.aload_n 0, 1) := by decide +kernel
theorem dc_M_errorOf_13 : decode bc_M_errorOf 13 = .ok (.getfield 148, 3) := by decide +kernel
theorem dc_M_errorOf_16 : decode bc_M_errorOf 16 = .ok (.ifCond .ge 43, 3) := by decide +kernel
theorem dc_M_errorOf_19 : decode bc_M_errorOf 19 = .ok (.iload_n 2, 1) := by decide +kernel
theorem dc_M_errorOf_20 : decode bc_M_errorOf 20 = .ok (.aload_n 0, 1) := by decide +kernel
theorem dc_M_errorOf_21 : decode bc_M_errorOf 21 = .ok (.getfield 13, 3) := by decide +kernel
theorem dc_M_errorOf_24 : decode bc_M_errorOf 24 = .ok (.iload_n 1, 1) := by decide +kernel
theorem dc_M_errorOf_25 : decode bc_M_errorOf 25 = .ok (.iaload, 1) := by decide +kernel
theorem dc_M_errorOf_26 : decode bc_M_errorOf 26 = .ok (.if_icmp .ge 33, 3) := by decide +kernel
theorem dc_M_errorOf_29 : decode bc_M_errorOf 29 = .ok (.aload_n 0, 1) := by decide +kernel
theorem dc_M_errorOf_30 : decode bc_M_errorOf 30 = .ok (.iload_n 1, 1) := by decide +kernel
theorem dc_M_errorOf_31 : decode bc_M_errorOf 31 = .ok (.iload_n 2, 1) := by decide +kernel
theorem dc_M_errorOf_32 : decode bc_M_errorOf 32 = .ok (.invokevirtual 152, 3) := by decide +kernel
theorem dc_M_errorOf_35 : decode bc_M_errorOf 35 = .ok (.bipush 41, 2) := by decide +kernel
theorem dc_M_errorOf_37 : decode bc_M_errorOf 37 = .ok (.if_icmp .ne 12, 3) := by decide +kernel
theorem dc_M_errorOf_40 : decode bc_M_errorOf 40 = .ok (.aload_n 0, 1) := by decide +kernel
theorem dc_M_errorOf_41 : decode bc_M_errorOf 41 = .ok (.iload_n 1, 1) := by decide +kernel
theorem dc_M_errorOf_42 : decode bc_M_errorOf 42 = .ok (.iload_n 2, 1) := by decide +kernel
theorem dc_M_errorOf_43 : decode bc_M_errorOf 43 = .ok (.invokevirtual 179, 3) := by decide +kernel
theorem dc_M_errorOf_46 : decode bc_M_errorOf 46 = .ok (.goto 9, 3) := by decide +kernel
theorem dc_M_errorOf_49 : decode bc_M_errorOf 49 = .ok (.aload_n 0, 1) := by decide +kernel
theorem dc_M_errorOf_50 : decode bc_M_errorOf 50 = .ok (.iload_n 1, 1) := by decide +kernel
theorem dc_M_errorOf_51 : decode bc_M_errorOf 51 = .ok (.iload_n 2, 1) := by decide +kernel
theorem dc_M_errorOf_52 : decode bc_M_errorOf 52 = .ok (.invokevirtual 182, 3) := by decide +kernel
theorem dc_M_errorOf_55 : decode bc_M_errorOf 55 = .ok (.istore_n 2, 1) := by decide +kernel
theorem dc_M_errorOf_56 : decode bc_M_errorOf 56 = .ok (.goto (-44), 3) := by decide +kernel
theorem dc_M_errorOf_59 : decode bc_M_errorOf 59 = .ok (.aload_n 0, 1) := by decide +kernel
theorem dc_M_errorOf_60 : decode bc_M_errorOf 60 = .ok (.getfield 148, 3) := by decide +kernel
theorem dc_M_errorOf_63 : decode bc_M_errorOf 63 = .ok (.ifCond .ge 20, 3) := by decide +kernel
theorem dc_M_errorOf_66 : decode bc_M_errorOf 66 = .ok (.aload_n 0, 1) := by decide +kernel
theorem dc_M_errorOf_67 : decode bc_M_errorOf 67 = .ok (.getfield 168, 3) := by decide +kernel
theorem dc_M_errorOf_70 : decode bc_M_errorOf 70 = .ok (.ifCond .le 13, 3) := by decide +kernel
theorem dc_M_errorOf_73 : decode bc_M_errorOf 73 = .ok (.aload_n 0, 1) := by decide +kernel
theorem dc_M_errorOf_74 : decode bc_M_errorOf 74 = .ok (.aload_n 0, 1) := by decide +kernel
theorem dc_M_errorOf_75 : decode bc_M_errorOf 75 = .ok (.getfield 13, 3) := by decide +kernel
theorem dc_M_errorOf_78 : decode bc_M_errorOf 78 = .ok (.iload_n 1, 1) := by decide +kernel
theorem dc_M_errorOf_79 : decode bc_M_errorOf 79 = .ok (.iaload, 1) := by decide +kernel
theorem dc_M_errorOf_80 : decode bc_M_errorOf 80 = .ok (.putfield 148, 3) := by decide +kernel
theorem dc_M_errorOf_83 : decode bc_M_errorOf 83 = .ok (.aload_n 0, 1) := by decide +kernel
theorem dc_M_errorOf_84 : decode bc_M_errorOf 84 = .ok (.getfield 148, 3) := by decide +kernel
theorem dc_M_errorOf_87 : decode bc_M_errorOf 87 = .ok (.ireturn, 1) := by decide +kernel
theorem dc_M_read_0 : decode bc_M_read 0 = .ok (.iconst 0, 1) := by decide +kernel
theorem dc_M_read_1 : decode bc_M_read 1 = .ok (.istore_n 1, 1) := by decide +kernel
theorem dc_M_read_2 : decode bc_M_read 2 = .ok (.iload_n 1, 1) := by decide +kernel
theorem dc_M_read_3 : decode bc_M_read 3 = .ok (.iconst 4, 1) := by decide +kernel
theorem dc_M_read_4 : decode bc_M_read 4 = .ok (.if_icmp .ge 28, 3) := by decide +kernel
theorem dc_M_read_7 : decode bc_M_read 7 = .ok (.aload_n 0, 1) := by decide +kernel
theorem dc_M_read_8 : decode bc_M_read 8 = .ok (.iload_n 1, 1) := by decide +kernel
theorem dc_M_read_9 : decode bc_M_read 9 = .ok (.invokevirtual 185, 3) := by decide +kernel
theorem dc_M_read_12 : decode bc_M_read 12 = .ok (.istore_n 2, 1) := by decide +kernel
theorem dc_M_read_13 : decode bc_M_read 13 = .ok (.iload_n 2, 1) := by decide +kernel
theorem dc_M_read_14 : decode bc_M_read 14 = .ok (.ifCond .lt 12, 3) := by decide +kernel
theorem dc_M_read_17 : decode bc_M_read 17 = .ok (.bipush 100, 2) := by decide +kernel
theorem dc_M_read_19 : decode bc_M_read 19 = .ok (.iload_n 1, 1) := by decide +kernel
theorem dc_M_read_20 : decode bc_M_read 20 = .ok (.iconst 1, 1) := by decide +kernel
theorem dc_M_read_21 : decode bc_M_read 21 = .ok (.iadd, 1) := by decide +kernel
theorem dc_M_read_22 : decode bc_M_read 22 = .ok (.imul, 1) := by decide +kernel
theorem dc_M_read_23 : decode bc_M_read 23 = .ok (.iload_n 2, 1) := by decide +kernel
theorem dc_M_read_24 : decode bc_M_read 24 = .ok (.iadd, 1) := by decide +kernel
theorem dc_M_read_25 : decode bc_M_read 25 = .ok (.ireturn, 1) := by decide +kernel
theorem dc_M_read_26 : decode bc_M_read 26 = .ok (.iinc 1 1, 3) := by decide +kernel
theorem dc_M_read_29 : decode bc_M_read 29 = .ok (.goto (-27), 3) := by decide +kernel
theorem dc_M_read_32 : decode bc_M_read 32 = .ok (.iconst 0, 1) := by decide +kernel
theorem dc_M_read_33 : decode bc_M_read 33 = .ok (.istore_n 1, 1) := by decide +kernel
theorem dc_M_read_34 : decode bc_M_read 34 = .ok (.iload_n 1, 1) := by decide +kernel
theorem dc_M_read_35 : decode bc_M_read 35 = .ok (.sipush 160, 3) := by decide +kernel
theorem dc_M_read_38 : decode bc_M_read 38 = .ok (.if_icmp .ge 28, 3) := by decide +kernel
theorem dc_M_read_41 : decode bc_M_read 41 = .ok (.aload_n 0, 1) := by decide +kernel
theorem dc_M_read_42 : decode bc_M_read 42 = .ok (.getfield 17, 3) := by decide +kernel
theorem dc_M_read_45 : decode bc_M_read 45 = .ok (.iload_n 1, 1) := by decide +kernel
theorem dc_M_read_46 : decode bc_M_read 46 = .ok (.aload_n 0, 1) := by decide +kernel
theorem dc_M_read_47 : decode bc_M_read 47 = .ok (.getfield 7, 3) := by decide +kernel
theorem dc_M_read_50 : decode bc_M_read 50 = .ok (.iload_n 1, 1) := by decide +kernel
theorem dc_M_read_51 : decode bc_M_read 51 = .ok (.caload, 1) := by decide +kernel
theorem dc_M_read_52 : decode bc_M_read 52 = .ok (.castore, 1) := by decide +kernel
theorem dc_M_read_53 : decode bc_M_read 53 = .ok (.aload_n 0, 1) := by decide +kernel
theorem dc_M_read_54 : decode bc_M_read 54 = .ok (.getfield 96, 3) := by decide +kernel
theorem dc_M_read_57 : decode bc_M_read 57 = .ok (.iload_n 1, 1) := by decide +kernel
theorem dc_M_read_58 : decode bc_M_read 58 = .ok (.iconst 0, 1) := by decide +kernel
theorem dc_M_read_59 : decode bc_M_read 59 = .ok (.iastore, 1) := by decide +kernel
theorem dc_M_read_60 : decode bc_M_read 60 = .ok (.iinc 1 1, 3) := by decide +kernel
theorem dc_M_read_63 : decode bc_M_read 63 = .ok (.goto (-29), 3) := by decide +kernel
theorem dc_M_read_66 : decode bc_M_read 66 = .ok (.iconst 0, 1) := by decide +kernel
theorem dc_M_read_67 : decode bc_M_read 67 = .ok (.istore_n 1, 1) := by decide +kernel
theorem dc_M_read_68 : decode bc_M_read 68 = .ok (.iload_n 1, 1) := by decide +kernel
theorem dc_M_read_69 : decode bc_M_read 69 = .ok (.iconst 4, 1) := by decide +kernel
theorem dc_M_read_70 : decode bc_M_read 70 = .ok (.if_icmp .ge 21, 3) := by decide +kernel
theorem dc_M_read_73 : decode bc_M_read 73 = .ok (.aload_n 0, 1) := by decide +kernel
theorem dc_M_read_74 : decode bc_M_read 74 = .ok (.getfield 20, 3) := by decide +kernel
theorem dc_M_read_77 : decode bc_M_read 77 = .ok (.iload_n 1, 1) := by decide +kernel
theorem dc_M_read_78 : decode bc_M_read 78 = .ok (.aload_n 0, 1) := by decide +kernel
theorem dc_M_read_79 : decode bc_M_read 79 = .ok (.getfield 13, 3) := by decide +kernel
theorem dc_M_read_82 : decode bc_M_read 82 = .ok (.iload_n 1, 1) := by decide +kernel
theorem dc_M_read_83 : decode bc_M_read 83 = .ok (.iaload, 1) := by decide +kernel
theorem dc_M_read_84 : decode bc_M_read 84 = .ok (.iastore, 1) := by decide +kernel
theorem dc_M_read_85 : decode bc_M_read 85 = .ok (.iinc 1 1, 3) := by decide +kernel
theorem dc_M_read_88 : decode bc_M_read 88 = .ok (.goto (-20), 3) := by decide +kernel
theorem dc_M_read_91 : decode bc_M_read 91 = .ok (.aload_n 0, 1) := by decide +kernel
theorem dc_M_read_92 : decode bc_M_read 92 = .ok (.iconst 0, 1) := by decide +kernel
theorem dc_M_read_93 : decode bc_M_read 93 = .ok (.putfield 189, 3) := by decide +kernel
theorem dc_M_read_96 : decode bc_M_read 96 = .ok (.aload_n 0, 1) := by decide +kernel
theorem dc_M_read_97 : decode bc_M_read 97 = .ok (.iconst 0, 1) := by decide +kernel
theorem dc_M_read_98 : decode bc_M_read 98 = .ok (.putfield 192, 3) := by decide +kernel
theorem dc_M_read_101 : decode bc_M_read 101 = .ok (.aload_n 0, 1) := by decide +kernel
theorem dc_M_read_102 : decode bc_M_read 102 = .ok (.iconst 0, 1) := by decide +kernel
theorem dc_M_read_103 : decode bc_M_read 103 = .ok (.putfield 195, 3) := by decide +kernel
theorem dc_M_read_106 : decode bc_M_read 106 = .ok (.iconst 0, 1) := by decide +kernel
theorem dc_M_read_107 : decode bc_M_read 107 = .ok (.ireturn, 1) := by decide +kernel
theorem dc_M_clause_0 : decode bc_M_clause 0 = .ok (.iload_n 1, 1) := by decide +kernel
theorem dc_M_clause_1 : decode bc_M_clause 1 = .ok (.iconst 1, 1) := by decide +kernel
theorem dc_M_clause_2 : decode bc_M_clause 2 = .ok (.bipush 7, 2) := by decide +kernel
theorem dc_M_clause_4 : decode bc_M_clause 4 = .ok (.invokestatic 144, 3) := by decide +kernel
theorem dc_M_clause_7 : decode bc_M_clause 7 = .ok (.ifCond .ne 30, 3) := by decide +kernel
theorem dc_M_clause_10 : decode bc_M_clause 10 = .ok (.iload_n 2, 1) := by decide +kernel
theorem dc_M_clause_11 : decode bc_M_clause 11 = .ok (.iconst 0, 1) := by decide +kernel
theorem dc_M_clause_12 : decode bc_M_clause 12 = .ok (.iconst 5, 1) := by decide +kernel
theorem dc_M_clause_13 : decode bc_M_clause 13 = .ok (.invokestatic 144, 3) := by decide +kernel
theorem dc_M_clause_16 : decode bc_M_clause 16 = .ok (.ifCond .ne 21, 3) := by decide +kernel
theorem dc_M_clause_19 : decode bc_M_clause 19 = .ok (.iload_n 3, 1) := by decide +kernel
theorem dc_M_clause_20 : decode bc_M_clause 20 = .ok (.iconst 0, 1) := by decide +kernel
theorem dc_M_clause_21 : decode bc_M_clause 21 = .ok (.bipush 20, 2) := by decide +kernel
theorem dc_M_clause_23 : decode bc_M_clause 23 = .ok (.invokestatic 144, 3) := by decide +kernel
theorem dc_M_clause_26 : decode bc_M_clause 26 = .ok (.ifCond .ne 11, 3) := by decide +kernel
theorem dc_M_clause_29 : decode bc_M_clause 29 = .ok (.aload_n 0, 1) := by decide +kernel
theorem dc_M_clause_30 : decode bc_M_clause 30 = .ok (.getfield 198, 3) := by decide +kernel
theorem dc_M_clause_33 : decode bc_M_clause 33 = .ok (.iconst 4, 1) := by decide +kernel
theorem dc_M_clause_34 : decode bc_M_clause 34 = .ok (.if_icmp .lt 5, 3) := by decide +kernel
theorem dc_M_clause_37 : decode bc_M_clause 37 = .ok (.iconst 0, 1) := by decide +kernel
theorem dc_M_clause_38 : decode bc_M_clause 38 = .ok (.ireturn, 1) := by decide +kernel
theorem dc_M_clause_39 : decode bc_M_clause 39 = .ok (.aload_n 0, 1) := by decide +kernel
theorem dc_M_clause_40 : decode bc_M_clause 40 = .ok (.getfield 26, 3) := by decide +kernel
theorem dc_M_clause_43 : decode bc_M_clause 43 = .ok (.aload_n 0, 1) := by decide +kernel
theorem dc_M_clause_44 : decode bc_M_clause 44 = .ok (.getfield 198, 3) := by decide +kernel
theorem dc_M_clause_47 : decode bc_M_clause 47 = .ok (.iload_n 1, 1) := by decide +kernel
theorem dc_M_clause_48 : decode bc_M_clause 48 = .ok (.iastore, 1) := by decide +kernel
theorem dc_M_clause_49 : decode bc_M_clause 49 = .ok (.aload_n 0, 1) := by decide +kernel
theorem dc_M_clause_50 : decode bc_M_clause 50 = .ok (.getfield 29, 3) := by decide +kernel
theorem dc_M_clause_53 : decode bc_M_clause 53 = .ok (.aload_n 0, 1) := by decide +kernel
theorem dc_M_clause_54 : decode bc_M_clause 54 = .ok (.getfield 198, 3) := by decide +kernel
theorem dc_M_clause_57 : decode bc_M_clause 57 = .ok (.iload_n 2, 1) := by decide +kernel
theorem dc_M_clause_58 : decode bc_M_clause 58 = .ok (.iastore, 1) := by decide +kernel
theorem dc_M_clause_59 : decode bc_M_clause 59 = .ok (.aload_n 0, 1) := by decide +kernel
theorem dc_M_clause_60 : decode bc_M_clause 60 = .ok (.getfield 32, 3) := by decide +kernel
theorem dc_M_clause_63 : decode bc_M_clause 63 = .ok (.aload_n 0, 1) := by decide +kernel
theorem dc_M_clause_64 : decode bc_M_clause 64 = .ok (.getfield 198, 3) := by decide +kernel
theorem dc_M_clause_67 : decode bc_M_clause 67 = .ok (.iload_n 3, 1) := by decide +kernel
theorem dc_M_clause_68 : decode bc_M_clause 68 = .ok (.iastore, 1) := by decide +kernel
theorem dc_M_clause_69 : decode bc_M_clause 69 = .ok (.aload_n 0, 1) := by decide +kernel
theorem dc_M_clause_70 : decode bc_M_clause 70 = .ok (.getfield 35, 3) := by decide +kernel
theorem dc_M_clause_73 : decode bc_M_clause 73 = .ok (.aload_n 0, 1) := by decide +kernel
theorem dc_M_clause_74 : decode bc_M_clause 74 = .ok (.getfield 198, 3) := by decide +kernel
theorem dc_M_clause_77 : decode bc_M_clause 77 = .ok (.iload 4, 2) := by decide +kernel
theorem dc_M_clause_79 : decode bc_M_clause 79 = .ok (.bastore, 1) := by decide +kernel
theorem dc_M_clause_80 : decode bc_M_clause 80 = .ok (.aload_n 0, 1) := by decide +kernel
theorem dc_M_clause_81 : decode bc_M_clause 81 = .ok (.getfield 39, 3) := by decide +kernel
theorem dc_M_clause_84 : decode bc_M_clause 84 = .ok (.aload_n 0, 1) := by decide +kernel
theorem dc_M_clause_85 : decode bc_M_clause 85 = .ok (.getfield 198, 3) := by decide +kernel
theorem dc_M_clause_88 : decode bc_M_clause 88 = .ok (.iload 5, 2) := by decide +kernel
theorem dc_M_clause_90 : decode bc_M_clause 90 = .ok (.bastore, 1) := by decide +kernel
theorem dc_M_clause_91 : decode bc_M_clause 91 = .ok (.aload_n 0, 1) := by decide +kernel
theorem dc_M_clause_92 : decode bc_M_clause 92 = .ok (.dup, 1) := by decide +kernel
theorem dc_M_clause_93 : decode bc_M_clause 93 = .ok (.getfield 198, 3) := by decide +kernel
theorem dc_M_clause_96 : decode bc_M_clause 96 = .ok (.iconst 1, 1) := by decide +kernel
theorem dc_M_clause_97 : decode bc_M_clause 97 = .ok (.iadd, 1) := by decide +kernel
theorem dc_M_clause_98 : decode bc_M_clause 98 = .ok (.putfield 198, 3) := by decide +kernel
theorem dc_M_clause_101 : decode bc_M_clause 101 = .ok (.iconst 1, 1) := by decide +kernel
theorem dc_M_clause_102 : decode bc_M_clause 102 = .ok (.ireturn, 1) := by decide +kernel
theorem dc_M_forget_0 : decode bc_M_forget 0 = .ok (.aload_n 0, 1) := by decide +kernel
theorem dc_M_forget_1 : decode bc_M_forget 1 = .ok (.iconst 0, 1) := by decide +kernel
theorem dc_M_forget_2 : decode bc_M_forget 2 = .ok (.putfield 198, 3) := by decide +kernel
theorem dc_M_forget_5 : decode bc_M_forget 5 = .ok (.return_, 1) := by decide +kernel
theorem dc_M_fail_0 : decode bc_M_fail 0 = .ok (.iload_n 1, 1) := by decide +kernel
theorem dc_M_fail_1 : decode bc_M_fail 1 = .ok (.iconst 0, 1) := by decide +kernel
theorem dc_M_fail_2 : decode bc_M_fail 2 = .ok (.iconst 3, 1) := by decide +kernel
theorem dc_M_fail_3 : decode bc_M_fail 3 = .ok (.invokestatic 144, 3) := by decide +kernel
theorem dc_M_fail_6 : decode bc_M_fail 6 = .ok (.ifCond .ne 23, 3) := by decide +kernel
theorem dc_M_fail_9 : decode bc_M_fail 9 = .ok (.iload_n 2, 1) := by decide +kernel
theorem dc_M_fail_10 : decode bc_M_fail 10 = .ok (.iconst 0, 1) := by decide +kernel
theorem dc_M_fail_11 : decode bc_M_fail 11 = .ok (.bipush 9, 2) := by decide +kernel
theorem dc_M_fail_13 : decode bc_M_fail 13 = .ok (.invokestatic 144, 3) := by decide +kernel
theorem dc_M_fail_16 : decode bc_M_fail 16 = .ok (.ifCond .ne 13, 3) := by decide +kernel
theorem dc_M_fail_19 : decode bc_M_fail 19 = .ok (.iload_n 3, 1) := by decide +kernel
theorem dc_M_fail_20 : decode bc_M_fail 20 = .ok (.iconst 1, 1) := by decide +kernel
theorem dc_M_fail_21 : decode bc_M_fail 21 = .ok (.bipush 7, 2) := by decide +kernel
theorem dc_M_fail_23 : decode bc_M_fail 23 = .ok (.invokestatic 144, 3) := by decide +kernel
theorem dc_M_fail_26 : decode bc_M_fail 26 = .ok (.ifCond .eq 5, 3) := by decide +kernel
theorem dc_M_fail_29 : decode bc_M_fail 29 = .ok (.iconst 0, 1) := by decide +kernel
theorem dc_M_fail_30 : decode bc_M_fail 30 = .ok (.ireturn, 1) := by decide +kernel
theorem dc_M_fail_31 : decode bc_M_fail 31 = .ok (.aload_n 0, 1) := by decide +kernel
theorem dc_M_fail_32 : decode bc_M_fail 32 = .ok (.getfield 42, 3) := by decide +kernel
theorem dc_M_fail_35 : decode bc_M_fail 35 = .ok (.iload_n 1, 1) := by decide +kernel
theorem dc_M_fail_36 : decode bc_M_fail 36 = .ok (.iload_n 2, 1) := by decide +kernel
theorem dc_M_fail_37 : decode bc_M_fail 37 = .ok (.iastore, 1) := by decide +kernel
theorem dc_M_fail_38 : decode bc_M_fail 38 = .ok (.aload_n 0, 1) := by decide +kernel
theorem dc_M_fail_39 : decode bc_M_fail 39 = .ok (.getfield 45, 3) := by decide +kernel
theorem dc_M_fail_42 : decode bc_M_fail 42 = .ok (.iload_n 1, 1) := by decide +kernel
theorem dc_M_fail_43 : decode bc_M_fail 43 = .ok (.iload_n 3, 1) := by decide +kernel
theorem dc_M_fail_44 : decode bc_M_fail 44 = .ok (.iastore, 1) := by decide +kernel
theorem dc_M_fail_45 : decode bc_M_fail 45 = .ok (.iconst 1, 1) := by decide +kernel
theorem dc_M_fail_46 : decode bc_M_fail 46 = .ok (.ireturn, 1) := by decide +kernel
theorem dc_M_clauseFor_0 : decode bc_M_clauseFor 0 = .ok (.iconst 0, 1) := by decide +kernel
theorem dc_M_clauseFor_1 : decode bc_M_clauseFor 1 = .ok (.istore_n 2, 1) := by decide +kernel
theorem dc_M_clauseFor_2 : decode bc_M_clauseFor 2 = .ok (.iload_n 2, 1) := by decide +kernel
theorem dc_M_clauseFor_3 : decode bc_M_clauseFor 3 = .ok (.aload_n 0, 1) := by decide +kernel
theorem dc_M_clauseFor_4 : decode bc_M_clauseFor 4 = .ok (.getfield 198, 3) := by decide +kernel
theorem dc_M_clauseFor_7 : decode bc_M_clauseFor 7 = .ok (.if_icmp .ge 34, 3) := by decide +kernel
theorem dc_M_clauseFor_10 : decode bc_M_clauseFor 10 = .ok (.iload_n 1, 1) := by decide +kernel
theorem dc_M_clauseFor_11 : decode bc_M_clauseFor 11 = .ok (.istore_n 3, 1) := by decide +kernel
theorem dc_M_clauseFor_12 : decode bc_M_clauseFor 12 = .ok (.iload_n 3, 1) := by decide +kernel
theorem dc_M_clauseFor_13 : decode bc_M_clauseFor 13 = .ok (.ifCond .le 22, 3) := by decide +kernel
theorem dc_M_clauseFor_16 : decode bc_M_clauseFor 16 = .ok (.aload_n 0, 1) := by decide +kernel
theorem dc_M_clauseFor_17 : decode bc_M_clauseFor 17 = .ok (.getfield 26, 3) := by decide +kernel
theorem dc_M_clauseFor_20 : decode bc_M_clauseFor 20 = .ok (.iload_n 2, 1) := by decide +kernel
theorem dc_M_clauseFor_21 : decode bc_M_clauseFor 21 = .ok (.iaload, 1) := by decide +kernel
theorem dc_M_clauseFor_22 : decode bc_M_clauseFor 22 = .ok (.iload_n 3, 1) := by decide +kernel
theorem dc_M_clauseFor_23 : decode bc_M_clauseFor 23 = .ok (.if_icmp .ne 5, 3) := by decide +kernel
theorem dc_M_clauseFor_26 : decode bc_M_clauseFor 26 = .ok (.iload_n 2, 1) := by decide +kernel
theorem dc_M_clauseFor_27 : decode bc_M_clauseFor 27 = .ok (.ireturn, 1) := by decide +kernel
theorem dc_M_clauseFor_28 : decode bc_M_clauseFor 28 = .ok (.iload_n 3, 1) := by decide +kernel
theorem dc_M_clauseFor_29 : decode bc_M_clauseFor 29 = .ok (.iconst 2, 1) := by decide +kernel
theorem dc_M_clauseFor_30 : decode bc_M_clauseFor 30 = .ok (.idiv, 1) := by decide +kernel
theorem dc_M_clauseFor_31 : decode bc_M_clauseFor 31 = .ok (.istore_n 3, 1) := by decide +kernel
theorem dc_M_clauseFor_32 : decode bc_M_clauseFor 32 = .ok (.goto (-20), 3) := by decide +kernel
theorem dc_M_clauseFor_35 : decode bc_M_clauseFor 35 = .ok (.iinc 2 1, 3) := by decide +kernel
theorem dc_M_clauseFor_38 : decode bc_M_clauseFor 38 = .ok (.goto (-36), 3) := by decide +kernel
theorem dc_M_clauseFor_41 : decode bc_M_clauseFor 41 = .ok (.iconst (-1), 1) := by decide +kernel
theorem dc_M_clauseFor_42 : decode bc_M_clauseFor 42 = .ok (.ireturn, 1) := by decide +kernel
theorem dc_M_here_0 : decode bc_M_here 0 = .ok (.iload_n 1, 1) := by decide +kernel
theorem dc_M_here_1 : decode bc_M_here 1 = .ok (.aload_n 0, 1) := by decide +kernel
theorem dc_M_here_2 : decode bc_M_here 2 = .ok (.getfield 20, 3) := by decide +kernel
theorem dc_M_here_5 : decode bc_M_here 5 = .ok (.aload_n 0, 1) := by decide +kernel
theorem dc_M_here_6 : decode bc_M_here 6 = .ok (.getfield 201, 3) := by decide +kernel
theorem dc_M_here_9 : decode bc_M_here 9 = .ok (.iaload, 1) := by decide +kernel
theorem dc_M_here_10 : decode bc_M_here 10 = .ok (.if_icmp .ge 20, 3) := by decide +kernel
theorem dc_M_here_13 : decode bc_M_here 13 = .ok (.aload_n 0, 1) := by decide +kernel
theorem dc_M_here_14 : decode bc_M_here 14 = .ok (.getfield 17, 3) := by decide +kernel
theorem dc_M_here_17 : decode bc_M_here 17 = .ok (.bipush 40, 2) := by decide +kernel
theorem dc_M_here_19 : decode bc_M_here 19 = .ok (.aload_n 0, 1) := by decide +kernel
theorem dc_M_here_20 : decode bc_M_here 20 = .ok (.getfield 201, 3) := by decide +kernel
theorem dc_M_here_23 : decode bc_M_here 23 = .ok (.imul, 1) := by decide +kernel
theorem dc_M_here_24 : decode bc_M_here 24 = .ok (.iload_n 1, 1) := by decide +kernel
theorem dc_M_here_25 : decode bc_M_here 25 = .ok (.iadd, 1) := by decide +kernel
theorem dc_M_here_26 : decode bc_M_here 26 = .ok (.caload, 1) := by decide +kernel
theorem dc_M_here_27 : decode bc_M_here 27 = .ok (.goto 4, 3) := by decide +kernel
theorem dc_M_here_30 : decode bc_M_here 30 = .ok (.iconst 0, 1) := by decide +kernel
theorem dc_M_here_31 : decode bc_M_here 31 = .ok (.ireturn, 1) := by decide +kernel
theorem dc_M_value_0 : decode bc_M_value 0 = .ok (.iconst 0, 1) := by decide +kernel
theorem dc_M_value_1 : decode bc_M_value 1 = .ok (.istore_n 2, 1) := by decide +kernel
theorem dc_M_value_2 : decode bc_M_value 2 = .ok (.aload_n 0, 1) := by decide +kernel
theorem dc_M_value_3 : decode bc_M_value 3 = .ok (.iload_n 1, 1) := by decide +kernel
theorem dc_M_value_4 : decode bc_M_value 4 = .ok (.putfield 204, 3) := by decide +kernel
theorem dc_M_value_7 : decode bc_M_value 7 = .ok (.aload_n 0, 1) := by decide +kernel
theorem dc_M_value_8 : decode bc_M_value 8 = .ok (.getfield 204, 3) := by decide +kernel
theorem dc_M_value_11 : decode bc_M_value 11 = .ok (.iload_n 1, 1) := by decide +kernel
theorem dc_M_value_12 : decode bc_M_value 12 = .ok (.iconst 4, 1) := by decide +kernel
theorem dc_M_value_13 : decode bc_M_value 13 = .ok (.iadd, 1) := by decide +kernel
theorem dc_M_value_14 : decode bc_M_value 14 = .ok (.if_icmp .ge 47, 3) := by decide +kernel
theorem dc_M_value_17 : decode bc_M_value 17 = .ok (.aload_n 0, 1) := by decide +kernel
theorem dc_M_value_18 : decode bc_M_value 18 = .ok (.aload_n 0, 1) := by decide +kernel
theorem dc_M_value_19 : decode bc_M_value 19 = .ok (.getfield 204, 3) := by decide +kernel
theorem dc_M_value_22 : decode bc_M_value 22 = .ok (.invokevirtual 207, 3) := by decide +kernel
theorem dc_M_value_25 : decode bc_M_value 25 = .ok (.invokestatic 156, 3) := by decide +kernel
theorem dc_M_value_28 : decode bc_M_value 28 = .ok (.ifCond .eq 33, 3) := by decide +kernel
theorem dc_M_value_31 : decode bc_M_value 31 = .ok (.iload_n 2, 1) := by decide +kernel
theorem dc_M_value_32 : decode bc_M_value 32 = .ok (.bipush 10, 2) := by decide +kernel
theorem dc_M_value_34 : decode bc_M_value 34 = .ok (.imul, 1) := by decide +kernel
theorem dc_M_value_35 : decode bc_M_value 35 = .ok (.aload_n 0, 1) := by decide +kernel
theorem dc_M_value_36 : decode bc_M_value 36 = .ok (.aload_n 0, 1) := by decide +kernel
theorem dc_M_value_37 : decode bc_M_value 37 = .ok (.getfield 204, 3) := by decide +kernel
theorem dc_M_value_40 : decode bc_M_value 40 = .ok (.invokevirtual 207, 3) := by decide +kernel
theorem dc_M_value_43 : decode bc_M_value 43 = .ok (.iadd, 1) := by decide +kernel
theorem dc_M_value_44 : decode bc_M_value 44 = .ok (.bipush 48, 2) := by decide +kernel
theorem dc_M_value_46 : decode bc_M_value 46 = .ok (.isub, 1) := by decide +kernel
theorem dc_M_value_47 : decode bc_M_value 47 = .ok (.istore_n 2, 1) := by decide +kernel
theorem dc_M_value_48 : decode bc_M_value 48 = .ok (.aload_n 0, 1) := by decide +kernel
theorem dc_M_value_49 : decode bc_M_value 49 = .ok (.dup, 1) := by decide +kernel
theorem dc_M_value_50 : decode bc_M_value 50 = .ok (.getfield 204, 3) := by decide +kernel
theorem dc_M_value_53 : decode bc_M_value 53 = .ok (.iconst 1, 1) := by decide +kernel
theorem dc_M_value_54 : decode bc_M_value 54 = .ok (.iadd, 1) := by decide +kernel
theorem dc_M_value_55 : decode bc_M_value 55 = .ok (.putfield 204, 3) := by decide +kernel
theorem dc_M_value_58 : decode bc_M_value 58 = .ok (.goto (-51), 3) := by decide +kernel
theorem dc_M_value_61 : decode bc_M_value 61 = .ok (.iload_n 2, 1) := by decide +kernel
theorem dc_M_value_62 : decode bc_M_value 62 = .ok (.ireturn, 1) := by decide +kernel
theorem dc_M_holds_0 : decode bc_M_holds 0 = .ok (.aload_n 0, 1) := by decide +kernel
theorem dc_M_holds_1 : decode bc_M_holds 1 = .ok (.iload_n 1, 1) := by decide +kernel
theorem dc_M_holds_2 : decode bc_M_holds 2 = .ok (.invokevirtual 207, 3) := by decide +kernel
theorem dc_M_holds_5 : decode bc_M_holds 5 = .ok (.bipush 98, 2) := by decide +kernel
theorem dc_M_holds_7 : decode bc_M_holds 7 = .ok (.if_icmp .ne 15, 3) := by decide +kernel
theorem dc_M_holds_10 : decode bc_M_holds 10 = .ok (.aload_n 0, 1) := by decide +kernel
theorem dc_M_holds_11 : decode bc_M_holds 11 = .ok (.getfield 108, 3) := by decide +kernel
theorem dc_M_holds_14 : decode bc_M_holds 14 = .ok (.aload_n 0, 1) := by decide +kernel
theorem dc_M_holds_15 : decode bc_M_holds 15 = .ok (.getfield 211, 3) := by decide +kernel
theorem dc_M_holds_18 : decode bc_M_holds 18 = .ok (.iaload, 1) := by decide +kernel
theorem dc_M_holds_19 : decode bc_M_holds 19 = .ok (.goto 12, 3) := by decide +kernel
theorem dc_M_holds_22 : decode bc_M_holds 22 = .ok (.aload_n 0, 1) := by decide +kernel
theorem dc_M_holds_23 : decode bc_M_holds 23 = .ok (.getfield 111, 3) := by decide +kernel
theorem dc_M_holds_26 : decode bc_M_holds 26 = .ok (.aload_n 0, 1) := by decide +kernel
theorem dc_M_holds_27 : decode bc_M_holds 27 = .ok (.getfield 211, 3) := by decide +kernel
theorem dc_M_holds_30 : decode bc_M_holds 30 = .ok (.iaload, 1) := by decide +kernel
theorem dc_M_holds_31 : decode bc_M_holds 31 = .ok (.istore_n 2, 1) := by decide +kernel
theorem dc_M_holds_32 : decode bc_M_holds 32 = .ok (.aload_n 0, 1) := by decide +kernel
theorem dc_M_holds_33 : decode bc_M_holds 33 = .ok (.iload_n 1, 1) := by decide +kernel
theorem dc_M_holds_34 : decode bc_M_holds 34 = .ok (.iconst 1, 1) := by decide +kernel
theorem dc_M_holds_35 : decode bc_M_holds 35 = .ok (.iadd, 1) := by decide +kernel
theorem dc_M_holds_36 : decode bc_M_holds 36 = .ok (.invokevirtual 207, 3) := by decide +kernel
theorem dc_M_holds_39 : decode bc_M_holds 39 = .ok (.istore_n 3, 1) := by decide +kernel
theorem dc_M_holds_40 : decode bc_M_holds 40 = .ok (.aload_n 0, 1) := by decide +kernel
theorem dc_M_holds_41 : decode bc_M_holds 41 = .ok (.iload_n 1, 1) := by decide +kernel
theorem dc_M_holds_42 : decode bc_M_holds 42 = .ok (.iconst 2, 1) := by decide +kernel
theorem dc_M_holds_43 : decode bc_M_holds 43 = .ok (.iadd, 1) := by decide +kernel
theorem dc_M_holds_44 : decode bc_M_holds 44 = .ok (.invokevirtual 214, 3) := by decide +kernel
theorem dc_M_holds_47 : decode bc_M_holds 47 = .ok (.istore 4, 2) := by decide +kernel
theorem dc_M_holds_49 : decode bc_M_holds 49 = .ok (.iload_n 3, 1) := by decide +kernel
theorem dc_M_holds_50 : decode bc_M_holds 50 = .ok (.bipush 60, 2) := by decide +kernel
theorem dc_M_holds_52 : decode bc_M_holds 52 = .ok (.if_icmp .ne 17, 3) := by decide +kernel
theorem dc_M_holds_55 : decode bc_M_holds 55 = .ok (.iload_n 2, 1) := by decide +kernel
theorem dc_M_holds_56 : decode bc_M_holds 56 = .ok (.iload 4, 2) := by decide +kernel
theorem dc_M_holds_58 : decode bc_M_holds 58 = .ok (.if_icmp .ge 7, 3) := by decide +kernel
theorem dc_M_holds_61 : decode bc_M_holds 61 = .ok (.iconst 1, 1) := by decide +kernel
theorem dc_M_holds_62 : decode bc_M_holds 62 = .ok (.goto 64, 3) := by decide +kernel
theorem dc_M_holds_65 : decode bc_M_holds 65 = .ok (.iconst 0, 1) := by decide +kernel
theorem dc_M_holds_66 : decode bc_M_holds 66 = .ok (.goto 60, 3) := by decide +kernel
theorem dc_M_holds_69 : decode bc_M_holds 69 = .ok (.iload_n 3, 1) := by decide +kernel
theorem dc_M_holds_70 : decode bc_M_holds 70 = .ok (.bipush 62, 2) := by decide +kernel
theorem dc_M_holds_72 : decode bc_M_holds 72 = .ok (.if_icmp .ne 17, 3) := by decide +kernel
theorem dc_M_holds_75 : decode bc_M_holds 75 = .ok (.iload_n 2, 1) := by decide +kernel
theorem dc_M_holds_76 : decode bc_M_holds 76 = .ok (.iload 4, 2) := by decide +kernel
theorem dc_M_holds_78 : decode bc_M_holds 78 = .ok (.if_icmp .le 7, 3) := by decide +kernel
theorem dc_M_holds_81 : decode bc_M_holds 81 = .ok (.iconst 1, 1) := by decide +kernel
theorem dc_M_holds_82 : decode bc_M_holds 82 = .ok (.goto 44, 3) := by decide +kernel
theorem dc_M_holds_85 : decode bc_M_holds 85 = .ok (.iconst 0, 1) := by decide +kernel
theorem dc_M_holds_86 : decode bc_M_holds 86 = .ok (.goto 40, 3) := by decide +kernel
theorem dc_M_holds_89 : decode bc_M_holds 89 = .ok (.iload_n 3, 1) := by decide +kernel
theorem dc_M_holds_90 : decode bc_M_holds 90 = .ok (.bipush 61, 2) := by decide +kernel
theorem dc_M_holds_92 : decode bc_M_holds 92 = .ok (.if_icmp .ne 17, 3) := by decide +kernel
theorem dc_M_holds_95 : decode bc_M_holds 95 = .ok (.iload_n 2, 1) := by decide +kernel
theorem dc_M_holds_96 : decode bc_M_holds 96 = .ok (.iload 4, 2) := by decide +kernel
theorem dc_M_holds_98 : decode bc_M_holds 98 = .ok (.if_icmp .ne 7, 3) := by decide +kernel
theorem dc_M_holds_101 : decode bc_M_holds 101 = .ok (.iconst 1, 1) := by decide +kernel
theorem dc_M_holds_102 : decode bc_M_holds 102 = .ok (.goto 24, 3) := by decide +kernel
theorem dc_M_holds_105 : decode bc_M_holds 105 = .ok (.iconst 0, 1) := by decide +kernel
theorem dc_M_holds_106 : decode bc_M_holds 106 = .ok (.goto 20, 3) := by decide +kernel
theorem dc_M_holds_109 : decode bc_M_holds 109 = .ok (.iload 4, 2) := by decide +kernel
theorem dc_M_holds_111 : decode bc_M_holds 111 = .ok (.ifCond .eq 14, 3) := by decide +kernel
theorem dc_M_holds_114 : decode bc_M_holds 114 = .ok (.iload_n 2, 1) := by decide +kernel
theorem dc_M_holds_115 : decode bc_M_holds 115 = .ok (.iload 4, 2) := by decide +kernel
theorem dc_M_holds_117 : decode bc_M_holds 117 = .ok (.irem, 1) := by decide +kernel
theorem dc_M_holds_118 : decode bc_M_holds 118 = .ok (.ifCond .ne 7, 3) := by decide +kernel
theorem dc_M_holds_121 : decode bc_M_holds 121 = .ok (.iconst 1, 1) := by decide +kernel
theorem dc_M_holds_122 : decode bc_M_holds 122 = .ok (.goto 4, 3) := by decide +kernel
theorem dc_M_holds_125 : decode bc_M_holds 125 = .ok (.iconst 0, 1) := by decide +kernel
theorem dc_M_holds_126 : decode bc_M_holds 126 = .ok (.ireturn, 1) := by decide +kernel
theorem dc_M_behind_0 : decode bc_M_behind 0 = .ok (.iconst 0, 1) := by decide +kernel
theorem dc_M_behind_1 : decode bc_M_behind 1 = .ok (.istore_n 2, 1) := by decide +kernel
theorem dc_M_behind_2 : decode bc_M_behind 2 = .ok (.iload_n 1, 1) := by decide +kernel
theorem dc_M_behind_3 : decode bc_M_behind 3 = .ok (.istore_n 3, 1) := by decide +kernel
theorem dc_M_behind_4 : decode bc_M_behind 4 = .ok (.iload_n 3, 1) := by decide +kernel
theorem dc_M_behind_5 : decode bc_M_behind 5 = .ok (.aload_n 0, 1) := by decide +kernel
theorem dc_M_behind_6 : decode bc_M_behind 6 = .ok (.getfield 20, 3) := by decide +kernel
theorem dc_M_behind_9 : decode bc_M_behind 9 = .ok (.aload_n 0, 1) := by decide +kernel
theorem dc_M_behind_10 : decode bc_M_behind 10 = .ok (.getfield 201, 3) := by decide +kernel
theorem dc_M_behind_13 : decode bc_M_behind 13 = .ok (.iaload, 1) := by decide +kernel
theorem dc_M_behind_14 : decode bc_M_behind 14 = .ok (.if_icmp .ge 52, 3) := by decide +kernel
theorem dc_M_behind_17 : decode bc_M_behind 17 = .ok (.aload_n 0, 1) := by decide +kernel
theorem dc_M_behind_18 : decode bc_M_behind 18 = .ok (.iload_n 3, 1) := by decide +kernel
theorem dc_M_behind_19 : decode bc_M_behind 19 = .ok (.invokevirtual 207, 3) := by decide +kernel
theorem dc_M_behind_22 : decode bc_M_behind 22 = .ok (.istore 4, 2) := by decide +kernel
theorem dc_M_behind_24 : decode bc_M_behind 24 = .ok (.iload 4, 2) := by decide +kernel
theorem dc_M_behind_26 : decode bc_M_behind 26 = .ok (.bipush 40, 2) := by decide +kernel
theorem dc_M_behind_28 : decode bc_M_behind 28 = .ok (.if_icmp .ne 9, 3) := by decide +kernel
theorem dc_M_behind_31 : decode bc_M_behind 31 = .ok (.iload_n 2, 1) := by decide +kernel
theorem dc_M_behind_32 : decode bc_M_behind 32 = .ok (.iconst 1, 1) := by decide +kernel
theorem dc_M_behind_33 : decode bc_M_behind 33 = .ok (.iadd, 1) := by decide +kernel
theorem dc_M_behind_34 : decode bc_M_behind 34 = .ok (.goto 17, 3) := by decide +kernel
theorem dc_M_behind_37 : decode bc_M_behind 37 = .ok (.iload 4, 2) := by decide +kernel
theorem dc_M_behind_39 : decode bc_M_behind 39 = .ok (.bipush 41, 2) := by decide +kernel
theorem dc_M_behind_41 : decode bc_M_behind 41 = .ok (.if_icmp .ne 9, 3) := by decide +kernel
theorem dc_M_behind_44 : decode bc_M_behind 44 = .ok (.iload_n 2, 1) := by decide +kernel
theorem dc_M_behind_45 : decode bc_M_behind 45 = .ok (.iconst 1, 1) := by decide +kernel
theorem dc_M_behind_46 : decode bc_M_behind 46 = .ok (.isub, 1) := by decide +kernel
theorem dc_M_behind_47 : decode bc_M_behind 47 = .ok (.goto 4, 3) := by decide +kernel
theorem dc_M_behind_50 : decode bc_M_behind 50 = .ok (.iload_n 2, 1) := by decide +kernel
theorem dc_M_behind_51 : decode bc_M_behind 51 = .ok (.istore_n 2, 1) := by decide +kernel
theorem dc_M_behind_52 : decode bc_M_behind 52 = .ok (.iload_n 2, 1) := by decide +kernel
theorem dc_M_behind_53 : decode bc_M_behind 53 = .ok (.ifCond .ne 7, 3) := by decide +kernel
theorem dc_M_behind_56 : decode bc_M_behind 56 = .ok (.iload_n 3, 1) := by decide +kernel
theorem dc_M_behind_57 : decode bc_M_behind 57 = .ok (.iconst 1, 1) := by decide +kernel
theorem dc_M_behind_58 : decode bc_M_behind 58 = .ok (.iadd, 1) := by decide +kernel
theorem dc_M_behind_59 : decode bc_M_behind 59 = .ok (.ireturn, 1) := by decide +kernel
theorem dc_M_behind_60 : decode bc_M_behind 60 = .ok (.iinc 3 1, 3) := by decide +kernel
theorem dc_M_behind_63 : decode bc_M_behind 63 = .ok (.goto (-59), 3) := by decide +kernel
theorem dc_M_behind_66 : decode bc_M_behind 66 = .ok (.aload_n 0, 1) := by decide +kernel
theorem dc_M_behind_67 : decode bc_M_behind 67 = .ok (.getfield 20, 3) := by decide +kernel
theorem dc_M_behind_70 : decode bc_M_behind 70 = .ok (.aload_n 0, 1) := by decide +kernel
theorem dc_M_behind_71 : decode bc_M_behind 71 = .ok (.getfield 201, 3) := by decide +kernel
theorem dc_M_behind_74 : decode bc_M_behind 74 = .ok (.iaload, 1) := by decide +kernel
theorem dc_M_behind_75 : decode bc_M_behind 75 = .ok (.ireturn, 1) := by decide +kernel
theorem dc_M_down_0 : decode bc_M_down 0 = .ok (.iload_n 0, 1) := by decide +kernel
theorem dc_M_down_1 : decode bc_M_down 1 = .ok (.iload_n 1, 1) := by decide +kernel
theorem dc_M_down_2 : decode bc_M_down 2 = .ok (.idiv, 1) := by decide +kernel
theorem dc_M_down_3 : decode bc_M_down 3 = .ok (.istore_n 2, 1) := by decide +kernel
theorem dc_M_down_4 : decode bc_M_down 4 = .ok (.iload_n 0, 1) := by decide +kernel
theorem dc_M_down_5 : decode bc_M_down 5 = .ok (.iload_n 1, 1) := by decide +kernel
theorem dc_M_down_6 : decode bc_M_down 6 = .ok (.irem, 1) := by decide +kernel
theorem dc_M_down_7 : decode bc_M_down 7 = .ok (.ifCond .ge 9, 3) := by decide +kernel
theorem dc_M_down_10 : decode bc_M_down 10 = .ok (.iload_n 2, 1) := by decide +kernel
theorem dc_M_down_11 : decode bc_M_down 11 = .ok (.iconst 1, 1) := by decide +kernel
theorem dc_M_down_12 : decode bc_M_down 12 = .ok (.isub, 1) := by decide +kernel
theorem dc_M_down_13 : decode bc_M_down 13 = .ok (.goto 4, 3) := by decide +kernel
theorem dc_M_down_16 : decode bc_M_down 16 = .ok (.iload_n 2, 1) := by decide +kernel
theorem dc_M_down_17 : decode bc_M_down 17 = .ok (.ireturn, 1) := by decide +kernel
