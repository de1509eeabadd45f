theorem dc_E_put_0 : decode bc_E_put 0 = .ok (.iload_n 1, 1) := by decide +kernel
theorem dc_E_put_1 : decode bc_E_put 1 = .ok (.invokestatic 82, 3) := by decide +kernel
theorem dc_E_put_4 : decode bc_E_put 4 = .ok (.ifCond .eq 26, 3) := by decide +kernel
theorem dc_E_put_7 : decode bc_E_put 7 = .ok (.iload_n 2, 1) := by decide +kernel
theorem dc_E_put_8 : decode bc_E_put 8 = .ok (.bipush 33, 2) := by decide +kernel
theorem dc_E_put_10 : decode bc_E_put 10 = .ok (.if_icmp .lt 20, 3) := by decide +kernel
theorem dc_E_put_13 : decode bc_E_put 13 = .ok (.iload_n 2, 1) := by decide +kernel
theorem dc_E_put_14 : decode bc_E_put 14 = .ok (.bipush 126, 2) := by decide +kernel
theorem dc_E_put_16 : decode bc_E_put 16 = .ok (.if_icmp .gt 14, 3) := by decide +kernel
theorem dc_E_put_19 : decode bc_E_put 19 = .ok (.aload_n 0, 1) := by decide +kernel
theorem dc_E_put_20 : decode bc_E_put 20 = .ok (.getfield 9, 3) := by decide +kernel
theorem dc_E_put_23 : decode bc_E_put 23 = .ok (.iload_n 1, 1) := by decide +kernel
theorem dc_E_put_24 : decode bc_E_put 24 = .ok (.iaload, 1) := by decide +kernel
theorem dc_E_put_25 : decode bc_E_put 25 = .ok (.bipush 40, 2) := by decide +kernel
theorem dc_E_put_27 : decode bc_E_put 27 = .ok (.if_icmp .lt 5, 3) := by decide +kernel
theorem dc_E_put_30 : decode bc_E_put 30 = .ok (.iconst 0, 1) := by decide +kernel
theorem dc_E_put_31 : decode bc_E_put 31 = .ok (.ireturn, 1) := by decide +kernel
theorem dc_E_put_32 : decode bc_E_put 32 = .ok (.aload_n 0, 1) := by decide +kernel
theorem dc_E_put_33 : decode bc_E_put 33 = .ok (.getfield 16, 3) := by decide +kernel
theorem dc_E_put_36 : decode bc_E_put 36 = .ok (.getfield 86, 3) := by decide +kernel
theorem dc_E_put_39 : decode bc_E_put 39 = .ok (.iload_n 1, 1) := by decide +kernel
theorem dc_E_put_40 : decode bc_E_put 40 = .ok (.bipush 41, 2) := by decide +kernel
theorem dc_E_put_42 : decode bc_E_put 42 = .ok (.imul, 1) := by decide +kernel
theorem dc_E_put_43 : decode bc_E_put 43 = .ok (.aload_n 0, 1) := by decide +kernel
theorem dc_E_put_44 : decode bc_E_put 44 = .ok (.getfield 9, 3) := by decide +kernel
theorem dc_E_put_47 : decode bc_E_put 47 = .ok (.iload_n 1, 1) := by decide +kernel
theorem dc_E_put_48 : decode bc_E_put 48 = .ok (.iaload, 1) := by decide +kernel
theorem dc_E_put_49 : decode bc_E_put 49 = .ok (.iadd, 1) := by decide +kernel
theorem dc_E_put_50 : decode bc_E_put 50 = .ok (.iload_n 2, 1) := by decide +kernel
theorem dc_E_put_51 : decode bc_E_put 51 = .ok (.castore, 1) := by decide +kernel
theorem dc_E_put_52 : decode bc_E_put 52 = .ok (.aload_n 0, 1) := by decide +kernel
theorem dc_E_put_53 : decode bc_E_put 53 = .ok (.getfield 9, 3) := by decide +kernel
theorem dc_E_put_56 : decode bc_E_put 56 = .ok (.iload_n 1, 1) := by decide +kernel
theorem dc_E_put_57 : decode bc_E_put 57 = .ok (.dup2, 1) := by decide +kernel
theorem dc_E_put_58 : decode bc_E_put 58 = .ok (.iaload, 1) := by decide +kernel
theorem dc_E_put_59 : decode bc_E_put 59 = .ok (.iconst 1, 1) := by decide +kernel
theorem dc_E_put_60 : decode bc_E_put 60 = .ok (.iadd, 1) := by decide +kernel
theorem dc_E_put_61 : decode bc_E_put 61 = .ok (.iastore, 1) := by decide +kernel
theorem dc_E_put_62 : decode bc_E_put 62 = .ok (.iconst 1, 1) := by decide +kernel
theorem dc_E_put_63 : decode bc_E_put 63 = .ok (.ireturn, 1) := by decide +kernel
theorem dc_E_clear_0 : decode bc_E_clear 0 = .ok (.iload_n 1, 1) := by decide +kernel
theorem dc_E_clear_1 : decode bc_E_clear 1 = .ok (.invokestatic 82, 3) := by decide +kernel
theorem dc_E_clear_4 : decode bc_E_clear 4 = .ok (.ifCond .ne 5, 3) := by decide +kernel
theorem dc_E_clear_7 : decode bc_E_clear 7 = .ok (.iconst 0, 1) := by decide +kernel
theorem dc_E_clear_8 : decode bc_E_clear 8 = .ok (.ireturn, 1) := by decide +kernel
theorem dc_E_clear_9 : decode bc_E_clear 9 = .ok (.iconst 0, 1) := by decide +kernel
theorem dc_E_clear_10 : decode bc_E_clear 10 = .ok (.istore_n 2, 1) := by decide +kernel
theorem dc_E_clear_11 : decode bc_E_clear 11 = .ok (.iload_n 2, 1) := by decide +kernel
theorem dc_E_clear_12 : decode bc_E_clear 12 = .ok (.bipush 40, 2) := by decide +kernel
theorem dc_E_clear_14 : decode bc_E_clear 14 = .ok (.if_icmp .ge 24, 3) := by decide +kernel
theorem dc_E_clear_17 : decode bc_E_clear 17 = .ok (.aload_n 0, 1) := by decide +kernel
theorem dc_E_clear_18 : decode bc_E_clear 18 = .ok (.getfield 16, 3) := by decide +kernel
theorem dc_E_clear_21 : decode bc_E_clear 21 = .ok (.getfield 86, 3) := by decide +kernel
theorem dc_E_clear_24 : decode bc_E_clear 24 = .ok (.iload_n 1, 1) := by decide +kernel
theorem dc_E_clear_25 : decode bc_E_clear 25 = .ok (.bipush 41, 2) := by decide +kernel
theorem dc_E_clear_27 : decode bc_E_clear 27 = .ok (.imul, 1) := by decide +kernel
theorem dc_E_clear_28 : decode bc_E_clear 28 = .ok (.iload_n 2, 1) := by decide +kernel
theorem dc_E_clear_29 : decode bc_E_clear 29 = .ok (.iadd, 1) := by decide +kernel
theorem dc_E_clear_30 : decode bc_E_clear 30 = .ok (.iconst 0, 1) := by decide +kernel
theorem dc_E_clear_31 : decode bc_E_clear 31 = .ok (.castore, 1) := by decide +kernel
theorem dc_E_clear_32 : decode bc_E_clear 32 = .ok (.iinc 2 1, 3) := by decide +kernel
theorem dc_E_clear_35 : decode bc_E_clear 35 = .ok (.goto (-24), 3) := by decide +kernel
theorem dc_E_clear_38 : decode bc_E_clear 38 = .ok (.aload_n 0, 1) := by decide +kernel
theorem dc_E_clear_39 : decode bc_E_clear 39 = .ok (.getfield 9, 3) := by decide +kernel
theorem dc_E_clear_42 : decode bc_E_clear 42 = .ok (.iload_n 1, 1) := by decide +kernel
theorem dc_E_clear_43 : decode bc_E_clear 43 = .ok (.iconst 0, 1) := by decide +kernel
theorem dc_E_clear_44 : decode bc_E_clear 44 = .ok (.iastore, 1) := by decide +kernel
theorem dc_E_clear_45 : decode bc_E_clear 45 = .ok (.iconst 1, 1) := by decide +kernel
theorem dc_E_clear_46 : decode bc_E_clear 46 = .ok (.ireturn, 1) := by decide +kernel
theorem dc_E_clause_0 : decode bc_E_clause 0 = .ok (.iload_n 1, 1) := by decide +kernel
theorem dc_E_clause_1 : decode bc_E_clause 1 = .ok (.invokestatic 108, 3) := by decide +kernel
theorem dc_E_clause_4 : decode bc_E_clause 4 = .ok (.ifCond .eq 22, 3) := by decide +kernel
theorem dc_E_clause_7 : decode bc_E_clause 7 = .ok (.iload_n 2, 1) := by decide +kernel
theorem dc_E_clause_8 : decode bc_E_clause 8 = .ok (.ifCond .lt 18, 3) := by decide +kernel
theorem dc_E_clause_11 : decode bc_E_clause 11 = .ok (.iload_n 2, 1) := by decide +kernel
theorem dc_E_clause_12 : decode bc_E_clause 12 = .ok (.iconst 5, 1) := by decide +kernel
theorem dc_E_clause_13 : decode bc_E_clause 13 = .ok (.if_icmp .gt 13, 3) := by decide +kernel
theorem dc_E_clause_16 : decode bc_E_clause 16 = .ok (.iload_n 3, 1) := by decide +kernel
theorem dc_E_clause_17 : decode bc_E_clause 17 = .ok (.ifCond .lt 9, 3) := by decide +kernel
theorem dc_E_clause_20 : decode bc_E_clause 20 = .ok (.iload_n 3, 1) := by decide +kernel
theorem dc_E_clause_21 : decode bc_E_clause 21 = .ok (.bipush 20, 2) := by decide +kernel
theorem dc_E_clause_23 : decode bc_E_clause 23 = .ok (.if_icmp .le 5, 3) := by decide +kernel
theorem dc_E_clause_26 : decode bc_E_clause 26 = .ok (.iconst 0, 1) := by decide +kernel
theorem dc_E_clause_27 : decode bc_E_clause 27 = .ok (.ireturn, 1) := by decide +kernel
theorem dc_E_clause_28 : decode bc_E_clause 28 = .ok (.aload_n 0, 1) := by decide +kernel
theorem dc_E_clause_29 : decode bc_E_clause 29 = .ok (.getfield 35, 3) := by decide +kernel
theorem dc_E_clause_32 : decode bc_E_clause 32 = .ok (.iload_n 1, 1) := by decide +kernel
theorem dc_E_clause_33 : decode bc_E_clause 33 = .ok (.iload_n 2, 1) := by decide +kernel
theorem dc_E_clause_34 : decode bc_E_clause 34 = .ok (.iload_n 3, 1) := by decide +kernel
theorem dc_E_clause_35 : decode bc_E_clause 35 = .ok (.iload 4, 2) := by decide +kernel
theorem dc_E_clause_37 : decode bc_E_clause 37 = .ok (.iload 5, 2) := by decide +kernel
theorem dc_E_clause_39 : decode bc_E_clause 39 = .ok (.invokevirtual 111, 3) := by decide +kernel
theorem dc_E_clause_42 : decode bc_E_clause 42 = .ok (.ireturn, 1) := by decide +kernel
theorem dc_E_forget_0 : decode bc_E_forget 0 = .ok (.aload_n 0, 1) := by decide +kernel
theorem dc_E_forget_1 : decode bc_E_forget 1 = .ok (.getfield 35, 3) := by decide +kernel
theorem dc_E_forget_4 : decode bc_E_forget 4 = .ok (.iconst 0, 1) := by decide +kernel
theorem dc_E_forget_5 : decode bc_E_forget 5 = .ok (.putfield 115, 3) := by decide +kernel
theorem dc_E_forget_8 : decode bc_E_forget 8 = .ok (.return_, 1) := by decide +kernel
theorem dc_E_fail_0 : decode bc_E_fail 0 = .ok (.iload_n 1, 1) := by decide +kernel
theorem dc_E_fail_1 : decode bc_E_fail 1 = .ok (.ifCond .lt 25, 3) := by decide +kernel
theorem dc_E_fail_4 : decode bc_E_fail 4 = .ok (.iload_n 1, 1) := by decide +kernel
theorem dc_E_fail_5 : decode bc_E_fail 5 = .ok (.iconst 4, 1) := by decide +kernel
theorem dc_E_fail_6 : decode bc_E_fail 6 = .ok (.if_icmp .ge 20, 3) := by decide +kernel
theorem dc_E_fail_9 : decode bc_E_fail 9 = .ok (.iload_n 2, 1) := by decide +kernel
theorem dc_E_fail_10 : decode bc_E_fail 10 = .ok (.ifCond .lt 16, 3) := by decide +kernel
theorem dc_E_fail_13 : decode bc_E_fail 13 = .ok (.iload_n 2, 1) := by decide +kernel
theorem dc_E_fail_14 : decode bc_E_fail 14 = .ok (.bipush 9, 2) := by decide +kernel
theorem dc_E_fail_16 : decode bc_E_fail 16 = .ok (.if_icmp .gt 10, 3) := by decide +kernel
theorem dc_E_fail_19 : decode bc_E_fail 19 = .ok (.iload_n 3, 1) := by decide +kernel
theorem dc_E_fail_20 : decode bc_E_fail 20 = .ok (.invokestatic 108, 3) := by decide +kernel
theorem dc_E_fail_23 : decode bc_E_fail 23 = .ok (.ifCond .ne 5, 3) := by decide +kernel
theorem dc_E_fail_26 : decode bc_E_fail 26 = .ok (.iconst 0, 1) := by decide +kernel
theorem dc_E_fail_27 : decode bc_E_fail 27 = .ok (.ireturn, 1) := by decide +kernel
theorem dc_E_fail_28 : decode bc_E_fail 28 = .ok (.aload_n 0, 1) := by decide +kernel
theorem dc_E_fail_29 : decode bc_E_fail 29 = .ok (.getfield 41, 3) := by decide +kernel
theorem dc_E_fail_32 : decode bc_E_fail 32 = .ok (.iload_n 1, 1) := by decide +kernel
theorem dc_E_fail_33 : decode bc_E_fail 33 = .ok (.aaload, 1) := by decide +kernel
theorem dc_E_fail_34 : decode bc_E_fail 34 = .ok (.iload_n 2, 1) := by decide +kernel
theorem dc_E_fail_35 : decode bc_E_fail 35 = .ok (.putfield 116, 3) := by decide +kernel
theorem dc_E_fail_38 : decode bc_E_fail 38 = .ok (.aload_n 0, 1) := by decide +kernel
theorem dc_E_fail_39 : decode bc_E_fail 39 = .ok (.getfield 41, 3) := by decide +kernel
theorem dc_E_fail_42 : decode bc_E_fail 42 = .ok (.iload_n 1, 1) := by decide +kernel
theorem dc_E_fail_43 : decode bc_E_fail 43 = .ok (.aaload, 1) := by decide +kernel
theorem dc_E_fail_44 : decode bc_E_fail 44 = .ok (.iload_n 3, 1) := by decide +kernel
theorem dc_E_fail_45 : decode bc_E_fail 45 = .ok (.putfield 119, 3) := by decide +kernel
theorem dc_E_fail_48 : decode bc_E_fail 48 = .ok (.iconst 1, 1) := by decide +kernel
theorem dc_E_fail_49 : decode bc_E_fail 49 = .ok (.ireturn, 1) := by decide +kernel
theorem dc_E_send_0 : decode bc_E_send 0 = .ok (.iload_n 1, 1) := by decide +kernel
theorem dc_E_send_1 : decode bc_E_send 1 = .ok (.invokestatic 82, 3) := by decide +kernel
theorem dc_E_send_4 : decode bc_E_send 4 = .ok (.ifCond .ne 5, 3) := by decide +kernel
theorem dc_E_send_7 : decode bc_E_send 7 = .ok (.iconst (-1), 1) := by decide +kernel
theorem dc_E_send_8 : decode bc_E_send 8 = .ok (.ireturn, 1) := by decide +kernel
theorem dc_E_send_9 : decode bc_E_send 9 = .ok (.aload_n 0, 1) := by decide +kernel
theorem dc_E_send_10 : decode bc_E_send 10 = .ok (.iconst 0, 1) := by decide +kernel
theorem dc_E_send_11 : decode bc_E_send 11 = .ok (.putfield 122, 3) := by decide +kernel
theorem dc_E_send_14 : decode bc_E_send 14 = .ok (.aload_n 0, 1) := by decide +kernel
theorem dc_E_send_15 : decode bc_E_send 15 = .ok (.getfield 55, 3) := by decide +kernel
theorem dc_E_send_18 : decode bc_E_send 18 = .ok (.iload_n 1, 1) := by decide +kernel
theorem dc_E_send_19 : decode bc_E_send 19 = .ok (.bipush 41, 2) := by decide +kernel
theorem dc_E_send_21 : decode bc_E_send 21 = .ok (.imul, 1) := by decide +kernel
theorem dc_E_send_22 : decode bc_E_send 22 = .ok (.iload_n 2, 1) := by decide +kernel
theorem dc_E_send_23 : decode bc_E_send 23 = .ok (.iload_n 3, 1) := by decide +kernel
theorem dc_E_send_24 : decode bc_E_send 24 = .ok (.invokevirtual 125, 3) := by decide +kernel
theorem dc_E_send_27 : decode bc_E_send 27 = .ok (.pop, 1) := by decide +kernel
theorem dc_E_send_28 : decode bc_E_send 28 = .ok (.aload_n 0, 1) := by decide +kernel
theorem dc_E_send_29 : decode bc_E_send 29 = .ok (.invokevirtual 128, 3) := by decide +kernel
theorem dc_E_send_32 : decode bc_E_send 32 = .ok (.ireturn, 1) := by decide +kernel
theorem dc_E_work_0 : decode bc_E_work 0 = .ok (.aload_n 0, 1) := by decide +kernel
theorem dc_E_work_1 : decode bc_E_work 1 = .ok (.getfield 51, 3) := by decide +kernel
theorem dc_E_work_4 : decode bc_E_work 4 = .ok (.getfield 132, 3) := by decide +kernel
theorem dc_E_work_7 : decode bc_E_work 7 = .ok (.ifCond .ne 5, 3) := by decide +kernel
theorem dc_E_work_10 : decode bc_E_work 10 = .ok (.iconst (-1), 1) := by decide +kernel
theorem dc_E_work_11 : decode bc_E_work 11 = .ok (.ireturn, 1) := by decide +kernel
theorem dc_E_work_12 : decode bc_E_work 12 = .ok (.aload_n 0, 1) := by decide +kernel
theorem dc_E_work_13 : decode bc_E_work 13 = .ok (.iconst 0, 1) := by decide +kernel
theorem dc_E_work_14 : decode bc_E_work 14 = .ok (.putfield 122, 3) := by decide +kernel
theorem dc_E_work_17 : decode bc_E_work 17 = .ok (.aload_n 0, 1) := by decide +kernel
theorem dc_E_work_18 : decode bc_E_work 18 = .ok (.getfield 51, 3) := by decide +kernel
theorem dc_E_work_21 : decode bc_E_work 21 = .ok (.getfield 133, 3) := by decide +kernel
theorem dc_E_work_24 : decode bc_E_work 24 = .ok (.istore_n 1, 1) := by decide +kernel
theorem dc_E_work_25 : decode bc_E_work 25 = .ok (.aload_n 0, 1) := by decide +kernel
theorem dc_E_work_26 : decode bc_E_work 26 = .ok (.getfield 55, 3) := by decide +kernel
theorem dc_E_work_29 : decode bc_E_work 29 = .ok (.aload_n 0, 1) := by decide +kernel
theorem dc_E_work_30 : decode bc_E_work 30 = .ok (.getfield 51, 3) := by decide +kernel
theorem dc_E_work_33 : decode bc_E_work 33 = .ok (.getfield 136, 3) := by decide +kernel
theorem dc_E_work_36 : decode bc_E_work 36 = .ok (.iload_n 1, 1) := by decide +kernel
theorem dc_E_work_37 : decode bc_E_work 37 = .ok (.iaload, 1) := by decide +kernel
theorem dc_E_work_38 : decode bc_E_work 38 = .ok (.aload_n 0, 1) := by decide +kernel
theorem dc_E_work_39 : decode bc_E_work 39 = .ok (.getfield 51, 3) := by decide +kernel
theorem dc_E_work_42 : decode bc_E_work 42 = .ok (.getfield 139, 3) := by decide +kernel
theorem dc_E_work_45 : decode bc_E_work 45 = .ok (.iload_n 1, 1) := by decide +kernel
theorem dc_E_work_46 : decode bc_E_work 46 = .ok (.iaload, 1) := by decide +kernel
theorem dc_E_work_47 : decode bc_E_work 47 = .ok (.aload_n 0, 1) := by decide +kernel
theorem dc_E_work_48 : decode bc_E_work 48 = .ok (.getfield 51, 3) := by decide +kernel
theorem dc_E_work_51 : decode bc_E_work 51 = .ok (.getfield 142, 3) := by decide +kernel
theorem dc_E_work_54 : decode bc_E_work 54 = .ok (.iload_n 1, 1) := by decide +kernel
theorem dc_E_work_55 : decode bc_E_work 55 = .ok (.iaload, 1) := by decide +kernel
theorem dc_E_work_56 : decode bc_E_work 56 = .ok (.invokevirtual 125, 3) := by decide +kernel
theorem dc_E_work_59 : decode bc_E_work 59 = .ok (.pop, 1) := by decide +kernel
theorem dc_E_work_60 : decode bc_E_work 60 = .ok (.aload_n 0, 1) := by decide +kernel
theorem dc_E_work_61 : decode bc_E_work 61 = .ok (.getfield 51, 3) := by decide +kernel
theorem dc_E_work_64 : decode bc_E_work 64 = .ok (.invokevirtual 145, 3) := by decide +kernel
theorem dc_E_work_67 : decode bc_E_work 67 = .ok (.aload_n 0, 1) := by decide +kernel
theorem dc_E_work_68 : decode bc_E_work 68 = .ok (.invokevirtual 128, 3) := by decide +kernel
theorem dc_E_work_71 : decode bc_E_work 71 = .ok (.ireturn, 1) := by decide +kernel
theorem dc_E_pass_0 : decode bc_E_pass 0 = .ok (.iload_n 1, 1) := by decide +kernel
theorem dc_E_pass_1 : decode bc_E_pass 1 = .ok (.iconst 1, 1) := by decide +kernel
theorem dc_E_pass_2 : decode bc_E_pass 2 = .ok (.if_icmp .lt 9, 3) := by decide +kernel
theorem dc_E_pass_5 : decode bc_E_pass 5 = .ok (.iload_n 1, 1) := by decide +kernel
theorem dc_E_pass_6 : decode bc_E_pass 6 = .ok (.bipush 100, 2) := by decide +kernel
theorem dc_E_pass_8 : decode bc_E_pass 8 = .ok (.if_icmp .le 5, 3) := by decide +kernel
theorem dc_E_pass_11 : decode bc_E_pass 11 = .ok (.iconst (-1), 1) := by decide +kernel
theorem dc_E_pass_12 : decode bc_E_pass 12 = .ok (.ireturn, 1) := by decide +kernel
theorem dc_E_pass_13 : decode bc_E_pass 13 = .ok (.aload_n 0, 1) := by decide +kernel
theorem dc_E_pass_14 : decode bc_E_pass 14 = .ok (.iconst 0, 1) := by decide +kernel
theorem dc_E_pass_15 : decode bc_E_pass 15 = .ok (.putfield 122, 3) := by decide +kernel
theorem dc_E_pass_18 : decode bc_E_pass 18 = .ok (.iconst 0, 1) := by decide +kernel
theorem dc_E_pass_19 : decode bc_E_pass 19 = .ok (.istore_n 2, 1) := by decide +kernel
theorem dc_E_pass_20 : decode bc_E_pass 20 = .ok (.iconst 0, 1) := by decide +kernel
theorem dc_E_pass_21 : decode bc_E_pass 21 = .ok (.istore_n 3, 1) := by decide +kernel
theorem dc_E_pass_22 : decode bc_E_pass 22 = .ok (.iload_n 3, 1) := by decide +kernel
theorem dc_E_pass_23 : decode bc_E_pass 23 = .ok (.iload_n 1, 1) := by decide +kernel
theorem dc_E_pass_24 : decode bc_E_pass 24 = .ok (.if_icmp .ge 81, 3) := by decide +kernel
theorem dc_E_pass_27 : decode bc_E_pass 27 = .ok (.aload_n 0, 1) := by decide +kernel
theorem dc_E_pass_28 : decode bc_E_pass 28 = .ok (.dup, 1) := by decide +kernel
theorem dc_E_pass_29 : decode bc_E_pass 29 = .ok (.getfield 148, 3) := by decide +kernel
theorem dc_E_pass_32 : decode bc_E_pass 32 = .ok (.iconst 1, 1) := by decide +kernel
theorem dc_E_pass_33 : decode bc_E_pass 33 = .ok (.iadd, 1) := by decide +kernel
theorem dc_E_pass_34 : decode bc_E_pass 34 = .ok (.putfield 148, 3) := by decide +kernel
theorem dc_E_pass_37 : decode bc_E_pass 37 = .ok (.aload_n 0, 1) := by decide +kernel
theorem dc_E_pass_38 : decode bc_E_pass 38 = .ok (.getfield 61, 3) := by decide +kernel
theorem dc_E_pass_41 : decode bc_E_pass 41 = .ok (.aload_n 0, 1) := by decide +kernel
theorem dc_E_pass_42 : decode bc_E_pass 42 = .ok (.getfield 148, 3) := by decide +kernel
theorem dc_E_pass_45 : decode bc_E_pass 45 = .ok (.invokevirtual 151, 3) := by decide +kernel
theorem dc_E_pass_48 : decode bc_E_pass 48 = .ok (.istore 4, 2) := by decide +kernel
theorem dc_E_pass_50 : decode bc_E_pass 50 = .ok (.iconst 0, 1) := by decide +kernel
theorem dc_E_pass_51 : decode bc_E_pass 51 = .ok (.istore 5, 2) := by decide +kernel
theorem dc_E_pass_53 : decode bc_E_pass 53 = .ok (.iload 5, 2) := by decide +kernel
theorem dc_E_pass_55 : decode bc_E_pass 55 = .ok (.ldc 154, 2) := by decide +kernel
theorem dc_E_pass_57 : decode bc_E_pass 57 = .ok (.if_icmp .ge 42, 3) := by decide +kernel
theorem dc_E_pass_60 : decode bc_E_pass 60 = .ok (.iload 4, 2) := by decide +kernel
theorem dc_E_pass_62 : decode bc_E_pass 62 = .ok (.iconst (-1), 1) := by decide +kernel
theorem dc_E_pass_63 : decode bc_E_pass 63 = .ok (.if_icmp .eq 36, 3) := by decide +kernel
theorem dc_E_pass_66 : decode bc_E_pass 66 = .ok (.aload_n 0, 1) := by decide +kernel
theorem dc_E_pass_67 : decode bc_E_pass 67 = .ok (.iload 4, 2) := by decide +kernel
theorem dc_E_pass_69 : decode bc_E_pass 69 = .ok (.invokevirtual 155, 3) := by decide +kernel
theorem dc_E_pass_72 : decode bc_E_pass 72 = .ok (.iinc 2 1, 3) := by decide +kernel
theorem dc_E_pass_75 : decode bc_E_pass 75 = .ok (.aload_n 0, 1) := by decide +kernel
theorem dc_E_pass_76 : decode bc_E_pass 76 = .ok (.invokevirtual 128, 3) := by decide +kernel
theorem dc_E_pass_79 : decode bc_E_pass 79 = .ok (.pop, 1) := by decide +kernel
theorem dc_E_pass_80 : decode bc_E_pass 80 = .ok (.aload_n 0, 1) := by decide +kernel
theorem dc_E_pass_81 : decode bc_E_pass 81 = .ok (.getfield 61, 3) := by decide +kernel
theorem dc_E_pass_84 : decode bc_E_pass 84 = .ok (.aload_n 0, 1) := by decide +kernel
theorem dc_E_pass_85 : decode bc_E_pass 85 = .ok (.getfield 148, 3) := by decide +kernel
theorem dc_E_pass_88 : decode bc_E_pass 88 = .ok (.invokevirtual 151, 3) := by decide +kernel
theorem dc_E_pass_91 : decode bc_E_pass 91 = .ok (.istore 4, 2) := by decide +kernel
theorem dc_E_pass_93 : decode bc_E_pass 93 = .ok (.iinc 5 1, 3) := by decide +kernel
theorem dc_E_pass_96 : decode bc_E_pass 96 = .ok (.goto (-43), 3) := by decide +kernel
theorem dc_E_pass_99 : decode bc_E_pass 99 = .ok (.iinc 3 1, 3) := by decide +kernel
theorem dc_E_pass_102 : decode bc_E_pass 102 = .ok (.goto (-80), 3) := by decide +kernel
theorem dc_E_pass_105 : decode bc_E_pass 105 = .ok (.iload_n 2, 1) := by decide +kernel
theorem dc_E_pass_106 : decode bc_E_pass 106 = .ok (.ireturn, 1) := by decide +kernel
theorem dc_E_delivered_0 : decode bc_E_delivered 0 = .ok (.iload_n 1, 1) := by decide +kernel
theorem dc_E_delivered_1 : decode bc_E_delivered 1 = .ok (.ifCond .lt 20, 3) := by decide +kernel
theorem dc_E_delivered_4 : decode bc_E_delivered 4 = .ok (.iload_n 1, 1) := by decide +kernel
theorem dc_E_delivered_5 : decode bc_E_delivered 5 = .ok (.iconst 4, 1) := by decide +kernel
theorem dc_E_delivered_6 : decode bc_E_delivered 6 = .ok (.if_icmp .gt 15, 3) := by decide +kernel
theorem dc_E_delivered_9 : decode bc_E_delivered 9 = .ok (.aload_n 0, 1) := by decide +kernel
theorem dc_E_delivered_10 : decode bc_E_delivered 10 = .ok (.getfield 41, 3) := by decide +kernel
theorem dc_E_delivered_13 : decode bc_E_delivered 13 = .ok (.iload_n 1, 1) := by decide +kernel
theorem dc_E_delivered_14 : decode bc_E_delivered 14 = .ok (.aaload, 1) := by decide +kernel
theorem dc_E_delivered_15 : decode bc_E_delivered 15 = .ok (.getfield 158, 3) := by decide +kernel
theorem dc_E_delivered_18 : decode bc_E_delivered 18 = .ok (.goto 4, 3) := by decide +kernel
theorem dc_E_delivered_21 : decode bc_E_delivered 21 = .ok (.iconst (-1), 1) := by decide +kernel
theorem dc_E_delivered_22 : decode bc_E_delivered 22 = .ok (.ireturn, 1) := by decide +kernel
theorem dc_E_body_0 : decode bc_E_body 0 = .ok (.aload_n 0, 1) := by decide +kernel
theorem dc_E_body_1 : decode bc_E_body 1 = .ok (.iload_n 1, 1) := by decide +kernel
theorem dc_E_body_2 : decode bc_E_body 2 = .ok (.iload_n 2, 1) := by decide +kernel
theorem dc_E_body_3 : decode bc_E_body 3 = .ok (.invokevirtual 161, 3) := by decide +kernel
theorem dc_E_body_6 : decode bc_E_body 6 = .ok (.ifCond .eq 26, 3) := by decide +kernel
theorem dc_E_body_9 : decode bc_E_body 9 = .ok (.aload_n 0, 1) := by decide +kernel
theorem dc_E_body_10 : decode bc_E_body 10 = .ok (.getfield 41, 3) := by decide +kernel
theorem dc_E_body_13 : decode bc_E_body 13 = .ok (.iload_n 1, 1) := by decide +kernel
theorem dc_E_body_14 : decode bc_E_body 14 = .ok (.aaload, 1) := by decide +kernel
theorem dc_E_body_15 : decode bc_E_body 15 = .ok (.getfield 165, 3) := by decide +kernel
theorem dc_E_body_18 : decode bc_E_body 18 = .ok (.aload_n 0, 1) := by decide +kernel
theorem dc_E_body_19 : decode bc_E_body 19 = .ok (.getfield 41, 3) := by decide +kernel
theorem dc_E_body_22 : decode bc_E_body 22 = .ok (.iload_n 1, 1) := by decide +kernel
theorem dc_E_body_23 : decode bc_E_body 23 = .ok (.aaload, 1) := by decide +kernel
theorem dc_E_body_24 : decode bc_E_body 24 = .ok (.iload_n 2, 1) := by decide +kernel
theorem dc_E_body_25 : decode bc_E_body 25 = .ok (.invokevirtual 166, 3) := by decide +kernel
theorem dc_E_body_28 : decode bc_E_body 28 = .ok (.iaload, 1) := by decide +kernel
theorem dc_E_body_29 : decode bc_E_body 29 = .ok (.goto 4, 3) := by decide +kernel
theorem dc_E_body_32 : decode bc_E_body 32 = .ok (.iconst 0, 1) := by decide +kernel
theorem dc_E_body_33 : decode bc_E_body 33 = .ok (.ireturn, 1) := by decide +kernel
theorem dc_E_key_0 : decode bc_E_key 0 = .ok (.aload_n 0, 1) := by decide +kernel
theorem dc_E_key_1 : decode bc_E_key 1 = .ok (.iload_n 1, 1) := by decide +kernel
theorem dc_E_key_2 : decode bc_E_key 2 = .ok (.iload_n 2, 1) := by decide +kernel
theorem dc_E_key_3 : decode bc_E_key 3 = .ok (.invokevirtual 161, 3) := by decide +kernel
theorem dc_E_key_6 : decode bc_E_key 6 = .ok (.ifCond .eq 26, 3) := by decide +kernel
theorem dc_E_key_9 : decode bc_E_key 9 = .ok (.aload_n 0, 1) := by decide +kernel
theorem dc_E_key_10 : decode bc_E_key 10 = .ok (.getfield 41, 3) := by decide +kernel
theorem dc_E_key_13 : decode bc_E_key 13 = .ok (.iload_n 1, 1) := by decide +kernel
theorem dc_E_key_14 : decode bc_E_key 14 = .ok (.aaload, 1) := by decide +kernel
theorem dc_E_key_15 : decode bc_E_key 15 = .ok (.getfield 169, 3) := by decide +kernel
theorem dc_E_key_18 : decode bc_E_key 18 = .ok (.aload_n 0, 1) := by decide +kernel
theorem dc_E_key_19 : decode bc_E_key 19 = .ok (.getfield 41, 3) := by decide +kernel
theorem dc_E_key_22 : decode bc_E_key 22 = .ok (.iload_n 1, 1) := by decide +kernel
theorem dc_E_key_23 : decode bc_E_key 23 = .ok (.aaload, 1) := by decide +kernel
theorem dc_E_key_24 : decode bc_E_key 24 = .ok (.iload_n 2, 1) := by decide +kernel
theorem dc_E_key_25 : decode bc_E_key 25 = .ok (.invokevirtual 166, 3) := by decide +kernel
theorem dc_E_key_28 : decode bc_E_key 28 = .ok (.iaload, 1) := by decide +kernel
theorem dc_E_key_29 : decode bc_E_key 29 = .ok (.goto 4, 3) := by decide +kernel
theorem dc_E_key_32 : decode bc_E_key 32 = .ok (.iconst 0, 1) := by decide +kernel
theorem dc_E_key_33 : decode bc_E_key 33 = .ok (.ireturn, 1) := by decide +kernel
theorem dc_E_group_0 : decode bc_E_group 0 = .ok (.iload_n 1, 1) := by decide +kernel
theorem dc_E_group_1 : decode bc_E_group 1 = .ok (.ifCond .lt 14, 3) := by decide +kernel
theorem dc_E_group_4 : decode bc_E_group 4 = .ok (.iload_n 1, 1) := by decide +kernel
theorem dc_E_group_5 : decode bc_E_group 5 = .ok (.aload_n 0, 1) := by decide +kernel
theorem dc_E_group_6 : decode bc_E_group 6 = .ok (.getfield 61, 3) := by decide +kernel
theorem dc_E_group_9 : decode bc_E_group 9 = .ok (.getfield 100, 3) := by decide +kernel
theorem dc_E_group_12 : decode bc_E_group 12 = .ok (.if_icmp .lt 5, 3) := by decide +kernel
theorem dc_E_group_15 : decode bc_E_group 15 = .ok (.iconst 0, 1) := by decide +kernel
theorem dc_E_group_16 : decode bc_E_group 16 = .ok (.ireturn, 1) := by decide +kernel
theorem dc_E_group_17 : decode bc_E_group 17 = .ok (.iload_n 2, 1) := by decide +kernel
theorem dc_E_group_18 : decode bc_E_group 18 = .ok (.tableswitch 70 0 3 #[30, 40, 50, 60], 30) := by decide +kernel
theorem dc_E_group_48 : decode bc_E_group 48 = .ok (.aload_n 0, 1) := by decide +kernel
theorem dc_E_group_49 : decode bc_E_group 49 = .ok (.getfield 61, 3) := by decide +kernel
theorem dc_E_group_52 : decode bc_E_group 52 = .ok (.getfield 170, 3) := by decide +kernel
theorem dc_E_group_55 : decode bc_E_group 55 = .ok (.iload_n 1, 1) := by decide +kernel
theorem dc_E_group_56 : decode bc_E_group 56 = .ok (.iaload, 1) := by decide +kernel
theorem dc_E_group_57 : decode bc_E_group 57 = .ok (.ireturn, 1) := by decide +kernel
theorem dc_E_group_58 : decode bc_E_group 58 = .ok (.aload_n 0, 1) := by decide +kernel
theorem dc_E_group_59 : decode bc_E_group 59 = .ok (.getfield 61, 3) := by decide +kernel
theorem dc_E_group_62 : decode bc_E_group 62 = .ok (.getfield 171, 3) := by decide +kernel
theorem dc_E_group_65 : decode bc_E_group 65 = .ok (.iload_n 1, 1) := by decide +kernel
theorem dc_E_group_66 : decode bc_E_group 66 = .ok (.iaload, 1) := by decide +kernel
theorem dc_E_group_67 : decode bc_E_group 67 = .ok (.ireturn, 1) := by decide +kernel
theorem dc_E_group_68 : decode bc_E_group 68 = .ok (.aload_n 0, 1) := by decide +kernel
theorem dc_E_group_69 : decode bc_E_group 69 = .ok (.getfield 61, 3) := by decide +kernel
theorem dc_E_group_72 : decode bc_E_group 72 = .ok (.getfield 174, 3) := by decide +kernel
theorem dc_E_group_75 : decode bc_E_group 75 = .ok (.iload_n 1, 1) := by decide +kernel
theorem dc_E_group_76 : decode bc_E_group 76 = .ok (.iaload, 1) := by decide +kernel
theorem dc_E_group_77 : decode bc_E_group 77 = .ok (.ireturn, 1) := by decide +kernel
theorem dc_E_group_78 : decode bc_E_group 78 = .ok (.aload_n 0, 1) := by decide +kernel
theorem dc_E_group_79 : decode bc_E_group 79 = .ok (.getfield 61, 3) := by decide +kernel
theorem dc_E_group_82 : decode bc_E_group 82 = .ok (.getfield 177, 3) := by decide +kernel
theorem dc_E_group_85 : decode bc_E_group 85 = .ok (.iload_n 1, 1) := by decide +kernel
theorem dc_E_group_86 : decode bc_E_group 86 = .ok (.iaload, 1) := by decide +kernel
theorem dc_E_group_87 : decode bc_E_group 87 = .ok (.ireturn, 1) := by decide +kernel
theorem dc_E_group_88 : decode bc_E_group 88 = .ok (.iconst 0, 1) := by decide +kernel
theorem dc_E_group_89 : decode bc_E_group 89 = .ok (.ireturn, 1) := by decide +kernel
theorem dc_E_count_0 : decode bc_E_count 0 = .ok (.iload_n 1, 1) := by decide +kernel
theorem dc_E_count_1 : decode bc_E_count 1 = .ok (.ifCond .lt 16, 3) := by decide +kernel
theorem dc_E_count_4 : decode bc_E_count 4 = .ok (.iload_n 1, 1) := by decide +kernel
theorem dc_E_count_5 : decode bc_E_count 5 = .ok (.bipush 7, 2) := by decide +kernel
theorem dc_E_count_7 : decode bc_E_count 7 = .ok (.if_icmp .gt 10, 3) := by decide +kernel
theorem dc_E_count_10 : decode bc_E_count 10 = .ok (.aload_n 0, 1) := by decide +kernel
theorem dc_E_count_11 : decode bc_E_count 11 = .ok (.getfield 79, 3) := by decide +kernel
theorem dc_E_count_14 : decode bc_E_count 14 = .ok (.iload_n 1, 1) := by decide +kernel
theorem dc_E_count_15 : decode bc_E_count 15 = .ok (.iaload, 1) := by decide +kernel
theorem dc_E_count_16 : decode bc_E_count 16 = .ok (.ireturn, 1) := by decide +kernel
theorem dc_E_count_17 : decode bc_E_count 17 = .ok (.iload_n 1, 1) := by decide +kernel
theorem dc_E_count_18 : decode bc_E_count 18 = .ok (.tableswitch 65 8 12 #[34, 39, 47, 55, 60], 34) := by decide +kernel
theorem dc_E_count_52 : decode bc_E_count 52 = .ok (.aload_n 0, 1) := by decide +kernel
theorem dc_E_count_53 : decode bc_E_count 53 = .ok (.getfield 148, 3) := by decide +kernel
theorem dc_E_count_56 : decode bc_E_count 56 = .ok (.ireturn, 1) := by decide +kernel
theorem dc_E_count_57 : decode bc_E_count 57 = .ok (.aload_n 0, 1) := by decide +kernel
theorem dc_E_count_58 : decode bc_E_count 58 = .ok (.getfield 51, 3) := by decide +kernel
theorem dc_E_count_61 : decode bc_E_count 61 = .ok (.getfield 132, 3) := by decide +kernel
theorem dc_E_count_64 : decode bc_E_count 64 = .ok (.ireturn, 1) := by decide +kernel
theorem dc_E_count_65 : decode bc_E_count 65 = .ok (.aload_n 0, 1) := by decide +kernel
theorem dc_E_count_66 : decode bc_E_count 66 = .ok (.getfield 61, 3) := by decide +kernel
theorem dc_E_count_69 : decode bc_E_count 69 = .ok (.getfield 100, 3) := by decide +kernel
theorem dc_E_count_72 : decode bc_E_count 72 = .ok (.ireturn, 1) := by decide +kernel
theorem dc_E_count_73 : decode bc_E_count 73 = .ok (.aload_n 0, 1) := by decide +kernel
theorem dc_E_count_74 : decode bc_E_count 74 = .ok (.getfield 105, 3) := by decide +kernel
theorem dc_E_count_77 : decode bc_E_count 77 = .ok (.ireturn, 1) := by decide +kernel
theorem dc_E_count_78 : decode bc_E_count 78 = .ok (.aload_n 0, 1) := by decide +kernel
theorem dc_E_count_79 : decode bc_E_count 79 = .ok (.getfield 180, 3) := by decide +kernel
theorem dc_E_count_82 : decode bc_E_count 82 = .ok (.ireturn, 1) := by decide +kernel
theorem dc_E_count_83 : decode bc_E_count 83 = .ok (.iconst (-1), 1) := by decide +kernel
theorem dc_E_count_84 : decode bc_E_count 84 = .ok (.ireturn, 1) := by decide +kernel
theorem dc_E_isRoute_0 : decode bc_E_isRoute 0 = .ok (.iload_n 0, 1) := by decide +kernel
theorem dc_E_isRoute_1 : decode bc_E_isRoute 1 = .ok (.ifCond .lt 12, 3) := by decide +kernel
theorem dc_E_isRoute_4 : decode bc_E_isRoute 4 = .ok (.iload_n 0, 1) := by decide +kernel
theorem dc_E_isRoute_5 : decode bc_E_isRoute 5 = .ok (.iconst 4, 1) := by decide +kernel
theorem dc_E_isRoute_6 : decode bc_E_isRoute 6 = .ok (.if_icmp .ge 7, 3) := by decide +kernel
theorem dc_E_isRoute_9 : decode bc_E_isRoute 9 = .ok (.iconst 1, 1) := by decide +kernel
theorem dc_E_isRoute_10 : decode bc_E_isRoute 10 = .ok (.goto 4, 3) := by decide +kernel
theorem dc_E_isRoute_13 : decode bc_E_isRoute 13 = .ok (.iconst 0, 1) := by decide +kernel
theorem dc_E_isRoute_14 : decode bc_E_isRoute 14 = .ok (.ireturn, 1) := by decide +kernel
theorem dc_E_isThrown_0 : decode bc_E_isThrown 0 = .ok (.iload_n 0, 1) := by decide +kernel
theorem dc_E_isThrown_1 : decode bc_E_isThrown 1 = .ok (.iconst 1, 1) := by decide +kernel
theorem dc_E_isThrown_2 : decode bc_E_isThrown 2 = .ok (.if_icmp .lt 13, 3) := by decide +kernel
theorem dc_E_isThrown_5 : decode bc_E_isThrown 5 = .ok (.iload_n 0, 1) := by decide +kernel
theorem dc_E_isThrown_6 : decode bc_E_isThrown 6 = .ok (.bipush 7, 2) := by decide +kernel
theorem dc_E_isThrown_8 : decode bc_E_isThrown 8 = .ok (.if_icmp .gt 7, 3) := by decide +kernel
theorem dc_E_isThrown_11 : decode bc_E_isThrown 11 = .ok (.iconst 1, 1) := by decide +kernel
theorem dc_E_isThrown_12 : decode bc_E_isThrown 12 = .ok (.goto 4, 3) := by decide +kernel
theorem dc_E_isThrown_15 : decode bc_E_isThrown 15 = .ok (.iconst 0, 1) := by decide +kernel
theorem dc_E_isThrown_16 : decode bc_E_isThrown 16 = .ok (.ireturn, 1) := by decide +kernel
theorem dc_E_isDelivery_0 : decode bc_E_isDelivery 0 = .ok (.iload_n 1, 1) := by decide +kernel
theorem dc_E_isDelivery_1 : decode bc_E_isDelivery 1 = .ok (.ifCond .lt 35, 3) := by decide +kernel
theorem dc_E_isDelivery_4 : decode bc_E_isDelivery 4 = .ok (.iload_n 1, 1) := by decide +kernel
theorem dc_E_isDelivery_5 : decode bc_E_isDelivery 5 = .ok (.iconst 4, 1) := by decide +kernel
theorem dc_E_isDelivery_6 : decode bc_E_isDelivery 6 = .ok (.if_icmp .gt 30, 3) := by decide +kernel
theorem dc_E_isDelivery_9 : decode bc_E_isDelivery 9 = .ok (.iload_n 2, 1) := by decide +kernel
theorem dc_E_isDelivery_10 : decode bc_E_isDelivery 10 = .ok (.ifCond .lt 26, 3) := by decide +kernel
theorem dc_E_isDelivery_13 : decode bc_E_isDelivery 13 = .ok (.iload_n 2, 1) := by decide +kernel
theorem dc_E_isDelivery_14 : decode bc_E_isDelivery 14 = .ok (.bipush 8, 2) := by decide +kernel
theorem dc_E_isDelivery_16 : decode bc_E_isDelivery 16 = .ok (.if_icmp .ge 20, 3) := by decide +kernel
theorem dc_E_isDelivery_19 : decode bc_E_isDelivery 19 = .ok (.iload_n 2, 1) := by decide +kernel
theorem dc_E_isDelivery_20 : decode bc_E_isDelivery 20 = .ok (.aload_n 0, 1) := by decide +kernel
theorem dc_E_isDelivery_21 : decode bc_E_isDelivery 21 = .ok (.getfield 41, 3) := by decide +kernel
theorem dc_E_isDelivery_24 : decode bc_E_isDelivery 24 = .ok (.iload_n 1, 1) := by decide +kernel
theorem dc_E_isDelivery_25 : decode bc_E_isDelivery 25 = .ok (.aaload, 1) := by decide +kernel
theorem dc_E_isDelivery_26 : decode bc_E_isDelivery 26 = .ok (.getfield 158, 3) := by decide +kernel
theorem dc_E_isDelivery_29 : decode bc_E_isDelivery 29 = .ok (.if_icmp .ge 7, 3) := by decide +kernel
theorem dc_E_isDelivery_32 : decode bc_E_isDelivery 32 = .ok (.iconst 1, 1) := by decide +kernel
theorem dc_E_isDelivery_33 : decode bc_E_isDelivery 33 = .ok (.goto 4, 3) := by decide +kernel
theorem dc_E_isDelivery_36 : decode bc_E_isDelivery 36 = .ok (.iconst 0, 1) := by decide +kernel
theorem dc_E_isDelivery_37 : decode bc_E_isDelivery 37 = .ok (.ireturn, 1) := by decide +kernel
theorem dc_E_begin_0 : decode bc_E_begin 0 = .ok (.aload_n 1, 1) := by decide +kernel
theorem dc_E_begin_1 : decode bc_E_begin 1 = .ok (.iload_n 2, 1) := by decide +kernel
theorem dc_E_begin_2 : decode bc_E_begin 2 = .ok (.putfield 183, 3) := by decide +kernel
theorem dc_E_begin_5 : decode bc_E_begin 5 = .ok (.aload_n 1, 1) := by decide +kernel
theorem dc_E_begin_6 : decode bc_E_begin 6 = .ok (.iload_n 3, 1) := by decide +kernel
theorem dc_E_begin_7 : decode bc_E_begin 7 = .ok (.putfield 186, 3) := by decide +kernel
theorem dc_E_begin_10 : decode bc_E_begin 10 = .ok (.aload_n 1, 1) := by decide +kernel
theorem dc_E_begin_11 : decode bc_E_begin 11 = .ok (.iload_n 2, 1) := by decide +kernel
theorem dc_E_begin_12 : decode bc_E_begin 12 = .ok (.putfield 189, 3) := by decide +kernel
theorem dc_E_begin_15 : decode bc_E_begin 15 = .ok (.aload_n 1, 1) := by decide +kernel
theorem dc_E_begin_16 : decode bc_E_begin 16 = .ok (.iconst 0, 1) := by decide +kernel
theorem dc_E_begin_17 : decode bc_E_begin 17 = .ok (.putfield 192, 3) := by decide +kernel
theorem dc_E_begin_20 : decode bc_E_begin 20 = .ok (.aload_n 0, 1) := by decide +kernel
theorem dc_E_begin_21 : decode bc_E_begin 21 = .ok (.getfield 79, 3) := by decide +kernel
theorem dc_E_begin_24 : decode bc_E_begin 24 = .ok (.iconst 0, 1) := by decide +kernel
theorem dc_E_begin_25 : decode bc_E_begin 25 = .ok (.dup2, 1) := by decide +kernel
theorem dc_E_begin_26 : decode bc_E_begin 26 = .ok (.iaload, 1) := by decide +kernel
theorem dc_E_begin_27 : decode bc_E_begin 27 = .ok (.iconst 1, 1) := by decide +kernel
theorem dc_E_begin_28 : decode bc_E_begin 28 = .ok (.iadd, 1) := by decide +kernel
theorem dc_E_begin_29 : decode bc_E_begin 29 = .ok (.iastore, 1) := by decide +kernel
theorem dc_E_begin_30 : decode bc_E_begin 30 = .ok (.return_, 1) := by decide +kernel
theorem dc_E_end_0 : decode bc_E_end 0 = .ok (.aload_n 1, 1) := by decide +kernel
theorem dc_E_end_1 : decode bc_E_end 1 = .ok (.iload_n 2, 1) := by decide +kernel
theorem dc_E_end_2 : decode bc_E_end 2 = .ok (.putfield 192, 3) := by decide +kernel
theorem dc_E_end_5 : decode bc_E_end 5 = .ok (.aload_n 0, 1) := by decide +kernel
theorem dc_E_end_6 : decode bc_E_end 6 = .ok (.getfield 79, 3) := by decide +kernel
theorem dc_E_end_9 : decode bc_E_end 9 = .ok (.iload_n 2, 1) := by decide +kernel
theorem dc_E_end_10 : decode bc_E_end 10 = .ok (.dup2, 1) := by decide +kernel
theorem dc_E_end_11 : decode bc_E_end 11 = .ok (.iaload, 1) := by decide +kernel
theorem dc_E_end_12 : decode bc_E_end 12 = .ok (.iconst 1, 1) := by decide +kernel
theorem dc_E_end_13 : decode bc_E_end 13 = .ok (.iadd, 1) := by decide +kernel
theorem dc_E_end_14 : decode bc_E_end 14 = .ok (.iastore, 1) := by decide +kernel
theorem dc_E_end_15 : decode bc_E_end 15 = .ok (.return_, 1) := by decide +kernel
theorem dc_E_runReady_0 : decode bc_E_runReady 0 = .ok (.iconst (-1), 1) := by decide +kernel
theorem dc_E_runReady_1 : decode bc_E_runReady 1 = .ok (.istore_n 1, 1) := by decide +kernel
theorem dc_E_runReady_2 : decode bc_E_runReady 2 = .ok (.aload_n 0, 1) := by decide +kernel
theorem dc_E_runReady_3 : decode bc_E_runReady 3 = .ok (.getfield 74, 3) := by decide +kernel
theorem dc_E_runReady_6 : decode bc_E_runReady 6 = .ok (.iconst 0, 1) := by decide +kernel
theorem dc_E_runReady_7 : decode bc_E_runReady 7 = .ok (.aaload, 1) := by decide +kernel
theorem dc_E_runReady_8 : decode bc_E_runReady 8 = .ok (.astore_n 2, 1) := by decide +kernel
theorem dc_E_runReady_9 : decode bc_E_runReady 9 = .ok (.iconst 0, 1) := by decide +kernel
theorem dc_E_runReady_10 : decode bc_E_runReady 10 = .ok (.istore_n 3, 1) := by decide +kernel
theorem dc_E_runReady_11 : decode bc_E_runReady 11 = .ok (.iload_n 3, 1) := by decide +kernel
theorem dc_E_runReady_12 : decode bc_E_runReady 12 = .ok (.ldc 154, 2) := by decide +kernel
theorem dc_E_runReady_14 : decode bc_E_runReady 14 = .ok (.if_icmp .ge 102, 3) := by decide +kernel
theorem dc_E_runReady_17 : decode bc_E_runReady 17 = .ok (.aload_n 0, 1) := by decide +kernel
theorem dc_E_runReady_18 : decode bc_E_runReady 18 = .ok (.getfield 55, 3) := by decide +kernel
theorem dc_E_runReady_21 : decode bc_E_runReady 21 = .ok (.getfield 132, 3) := by decide +kernel
theorem dc_E_runReady_24 : decode bc_E_runReady 24 = .ok (.ifCond .le 92, 3) := by decide +kernel
theorem dc_E_runReady_27 : decode bc_E_runReady 27 = .ok (.aload_n 0, 1) := by decide +kernel
theorem dc_E_runReady_28 : decode bc_E_runReady 28 = .ok (.getfield 55, 3) := by decide +kernel
theorem dc_E_runReady_31 : decode bc_E_runReady 31 = .ok (.getfield 133, 3) := by decide +kernel
theorem dc_E_runReady_34 : decode bc_E_runReady 34 = .ok (.istore 4, 2) := by decide +kernel
theorem dc_E_runReady_36 : decode bc_E_runReady 36 = .ok (.aload_n 0, 1) := by decide +kernel
theorem dc_E_runReady_37 : decode bc_E_runReady 37 = .ok (.getfield 55, 3) := by decide +kernel
theorem dc_E_runReady_40 : decode bc_E_runReady 40 = .ok (.getfield 136, 3) := by decide +kernel
theorem dc_E_runReady_43 : decode bc_E_runReady 43 = .ok (.iload 4, 2) := by decide +kernel
theorem dc_E_runReady_45 : decode bc_E_runReady 45 = .ok (.iaload, 1) := by decide +kernel
theorem dc_E_runReady_46 : decode bc_E_runReady 46 = .ok (.istore 5, 2) := by decide +kernel
theorem dc_E_runReady_48 : decode bc_E_runReady 48 = .ok (.aload_n 0, 1) := by decide +kernel
theorem dc_E_runReady_49 : decode bc_E_runReady 49 = .ok (.aload_n 2, 1) := by decide +kernel
theorem dc_E_runReady_50 : decode bc_E_runReady 50 = .ok (.aload_n 0, 1) := by decide +kernel
theorem dc_E_runReady_51 : decode bc_E_runReady 51 = .ok (.getfield 55, 3) := by decide +kernel
theorem dc_E_runReady_54 : decode bc_E_runReady 54 = .ok (.getfield 139, 3) := by decide +kernel
theorem dc_E_runReady_57 : decode bc_E_runReady 57 = .ok (.iload 4, 2) := by decide +kernel
theorem dc_E_runReady_59 : decode bc_E_runReady 59 = .ok (.iaload, 1) := by decide +kernel
theorem dc_E_runReady_60 : decode bc_E_runReady 60 = .ok (.aload_n 0, 1) := by decide +kernel
theorem dc_E_runReady_61 : decode bc_E_runReady 61 = .ok (.getfield 55, 3) := by decide +kernel
theorem dc_E_runReady_64 : decode bc_E_runReady 64 = .ok (.getfield 142, 3) := by decide +kernel
theorem dc_E_runReady_67 : decode bc_E_runReady 67 = .ok (.iload 4, 2) := by decide +kernel
theorem dc_E_runReady_69 : decode bc_E_runReady 69 = .ok (.iaload, 1) := by decide +kernel
theorem dc_E_runReady_70 : decode bc_E_runReady 70 = .ok (.invokevirtual 195, 3) := by decide +kernel
theorem dc_E_runReady_73 : decode bc_E_runReady 73 = .ok (.aload_n 0, 1) := by decide +kernel
theorem dc_E_runReady_74 : decode bc_E_runReady 74 = .ok (.getfield 55, 3) := by decide +kernel
theorem dc_E_runReady_77 : decode bc_E_runReady 77 = .ok (.invokevirtual 145, 3) := by decide +kernel
theorem dc_E_runReady_80 : decode bc_E_runReady 80 = .ok (.aload_n 0, 1) := by decide +kernel
theorem dc_E_runReady_81 : decode bc_E_runReady 81 = .ok (.aload_n 2, 1) := by decide +kernel
theorem dc_E_runReady_82 : decode bc_E_runReady 82 = .ok (.iload 5, 2) := by decide +kernel
theorem dc_E_runReady_84 : decode bc_E_runReady 84 = .ok (.iconst 0, 1) := by decide +kernel
theorem dc_E_runReady_85 : decode bc_E_runReady 85 = .ok (.invokevirtual 199, 3) := by decide +kernel
theorem dc_E_runReady_88 : decode bc_E_runReady 88 = .ok (.aload_n 2, 1) := by decide +kernel
theorem dc_E_runReady_89 : decode bc_E_runReady 89 = .ok (.getfield 192, 3) := by decide +kernel
theorem dc_E_runReady_92 : decode bc_E_runReady 92 = .ok (.ifCond .ne 9, 3) := by decide +kernel
theorem dc_E_runReady_95 : decode bc_E_runReady 95 = .ok (.aload_n 0, 1) := by decide +kernel
theorem dc_E_runReady_96 : decode bc_E_runReady 96 = .ok (.aload_n 2, 1) := by decide +kernel
theorem dc_E_runReady_97 : decode bc_E_runReady 97 = .ok (.iconst 1, 1) := by decide +kernel
theorem dc_E_runReady_98 : decode bc_E_runReady 98 = .ok (.invokevirtual 202, 3) := by decide +kernel
theorem dc_E_runReady_101 : decode bc_E_runReady 101 = .ok (.iload_n 3, 1) := by decide +kernel
theorem dc_E_runReady_102 : decode bc_E_runReady 102 = .ok (.ifCond .ne 8, 3) := by decide +kernel
theorem dc_E_runReady_105 : decode bc_E_runReady 105 = .ok (.aload_n 2, 1) := by decide +kernel
theorem dc_E_runReady_106 : decode bc_E_runReady 106 = .ok (.getfield 192, 3) := by decide +kernel
theorem dc_E_runReady_109 : decode bc_E_runReady 109 = .ok (.istore_n 1, 1) := by decide +kernel
theorem dc_E_runReady_110 : decode bc_E_runReady 110 = .ok (.iinc 3 1, 3) := by decide +kernel
theorem dc_E_runReady_113 : decode bc_E_runReady 113 = .ok (.goto (-102), 3) := by decide +kernel
theorem dc_E_runReady_116 : decode bc_E_runReady 116 = .ok (.iload_n 1, 1) := by decide +kernel
theorem dc_E_runReady_117 : decode bc_E_runReady 117 = .ok (.ireturn, 1) := by decide +kernel
theorem dc_E_runList_0 : decode bc_E_runList 0 = .ok (.iload_n 3, 1) := by decide +kernel
theorem dc_E_runList_1 : decode bc_E_runList 1 = .ok (.bipush 16, 2) := by decide +kernel
theorem dc_E_runList_3 : decode bc_E_runList 3 = .ok (.if_icmp .lt 11, 3) := by decide +kernel
theorem dc_E_runList_6 : decode bc_E_runList 6 = .ok (.aload_n 0, 1) := by decide +kernel
theorem dc_E_runList_7 : decode bc_E_runList 7 = .ok (.aload_n 1, 1) := by decide +kernel
theorem dc_E_runList_8 : decode bc_E_runList 8 = .ok (.bipush 6, 2) := by decide +kernel
theorem dc_E_runList_10 : decode bc_E_runList 10 = .ok (.invokevirtual 202, 3) := by decide +kernel
theorem dc_E_runList_13 : decode bc_E_runList 13 = .ok (.return_, 1) := by decide +kernel
theorem dc_E_runList_14 : decode bc_E_runList 14 = .ok (.iload_n 2, 1) := by decide +kernel
theorem dc_E_runList_15 : decode bc_E_runList 15 = .ok (.istore 4, 2) := by decide +kernel
theorem dc_E_runList_17 : decode bc_E_runList 17 = .ok (.iconst 0, 1) := by decide +kernel
theorem dc_E_runList_18 : decode bc_E_runList 18 = .ok (.istore 5, 2) := by decide +kernel
theorem dc_E_runList_20 : decode bc_E_runList 20 = .ok (.iload 5, 2) := by decide +kernel
theorem dc_E_runList_22 : decode bc_E_runList 22 = .ok (.bipush 40, 2) := by decide +kernel
theorem dc_E_runList_24 : decode bc_E_runList 24 = .ok (.if_icmp .ge 48, 3) := by decide +kernel
theorem dc_E_runList_27 : decode bc_E_runList 27 = .ok (.aload_n 1, 1) := by decide +kernel
theorem dc_E_runList_28 : decode bc_E_runList 28 = .ok (.getfield 192, 3) := by decide +kernel
theorem dc_E_runList_31 : decode bc_E_runList 31 = .ok (.ifCond .ne 41, 3) := by decide +kernel
theorem dc_E_runList_34 : decode bc_E_runList 34 = .ok (.aload_n 0, 1) := by decide +kernel
theorem dc_E_runList_35 : decode bc_E_runList 35 = .ok (.getfield 20, 3) := by decide +kernel
theorem dc_E_runList_38 : decode bc_E_runList 38 = .ok (.iload 4, 2) := by decide +kernel
theorem dc_E_runList_40 : decode bc_E_runList 40 = .ok (.invokevirtual 206, 3) := by decide +kernel
theorem dc_E_runList_43 : decode bc_E_runList 43 = .ok (.ifCond .eq 29, 3) := by decide +kernel
theorem dc_E_runList_46 : decode bc_E_runList 46 = .ok (.aload_n 0, 1) := by decide +kernel
theorem dc_E_runList_47 : decode bc_E_runList 47 = .ok (.aload_n 1, 1) := by decide +kernel
theorem dc_E_runList_48 : decode bc_E_runList 48 = .ok (.iload 4, 2) := by decide +kernel
theorem dc_E_runList_50 : decode bc_E_runList 50 = .ok (.iload_n 3, 1) := by decide +kernel
theorem dc_E_runList_51 : decode bc_E_runList 51 = .ok (.invokevirtual 209, 3) := by decide +kernel
theorem dc_E_runList_54 : decode bc_E_runList 54 = .ok (.aload_n 0, 1) := by decide +kernel
theorem dc_E_runList_55 : decode bc_E_runList 55 = .ok (.getfield 20, 3) := by decide +kernel
theorem dc_E_runList_58 : decode bc_E_runList 58 = .ok (.getfield 212, 3) := by decide +kernel
theorem dc_E_runList_61 : decode bc_E_runList 61 = .ok (.iload 4, 2) := by decide +kernel
theorem dc_E_runList_63 : decode bc_E_runList 63 = .ok (.iaload, 1) := by decide +kernel
theorem dc_E_runList_64 : decode bc_E_runList 64 = .ok (.istore 4, 2) := by decide +kernel
theorem dc_E_runList_66 : decode bc_E_runList 66 = .ok (.iinc 5 1, 3) := by decide +kernel
theorem dc_E_runList_69 : decode bc_E_runList 69 = .ok (.goto (-49), 3) := by decide +kernel
theorem dc_E_runList_72 : decode bc_E_runList 72 = .ok (.return_, 1) := by decide +kernel
theorem dc_E_runStep_0 : decode bc_E_runStep 0 = .ok (.iconst 1, 1) := by decide +kernel
theorem dc_E_runStep_1 : decode bc_E_runStep 1 = .ok (.istore 4, 2) := by decide +kernel
theorem dc_E_runStep_3 : decode bc_E_runStep 3 = .ok (.iload 4, 2) := by decide +kernel
theorem dc_E_runStep_5 : decode bc_E_runStep 5 = .ok (.bipush 6, 2) := by decide +kernel
theorem dc_E_runStep_7 : decode bc_E_runStep 7 = .ok (.if_icmp .gt 63, 3) := by decide +kernel
theorem dc_E_runStep_10 : decode bc_E_runStep 10 = .ok (.aload_n 0, 1) := by decide +kernel
theorem dc_E_runStep_11 : decode bc_E_runStep 11 = .ok (.getfield 122, 3) := by decide +kernel
theorem dc_E_runStep_14 : decode bc_E_runStep 14 = .ok (.bipush 100, 2) := by decide +kernel
theorem dc_E_runStep_16 : decode bc_E_runStep 16 = .ok (.if_icmp .lt 11, 3) := by decide +kernel
theorem dc_E_runStep_19 : decode bc_E_runStep 19 = .ok (.aload_n 0, 1) := by decide +kernel
theorem dc_E_runStep_20 : decode bc_E_runStep 20 = .ok (.aload_n 1, 1) := by decide +kernel
theorem dc_E_runStep_21 : decode bc_E_runStep 21 = .ok (.bipush 7, 2) := by decide +kernel
theorem dc_E_runStep_23 : decode bc_E_runStep 23 = .ok (.invokevirtual 202, 3) := by decide +kernel
theorem dc_E_runStep_26 : decode bc_E_runStep 26 = .ok (.return_, 1) := by decide +kernel
theorem dc_E_runStep_27 : decode bc_E_runStep 27 = .ok (.aload_n 0, 1) := by decide +kernel
theorem dc_E_runStep_28 : decode bc_E_runStep 28 = .ok (.dup, 1) := by decide +kernel
theorem dc_E_runStep_29 : decode bc_E_runStep 29 = .ok (.getfield 122, 3) := by decide +kernel
theorem dc_E_runStep_32 : decode bc_E_runStep 32 = .ok (.iconst 1, 1) := by decide +kernel
theorem dc_E_runStep_33 : decode bc_E_runStep 33 = .ok (.iadd, 1) := by decide +kernel
theorem dc_E_runStep_34 : decode bc_E_runStep 34 = .ok (.putfield 122, 3) := by decide +kernel
theorem dc_E_runStep_37 : decode bc_E_runStep 37 = .ok (.aload_n 0, 1) := by decide +kernel
theorem dc_E_runStep_38 : decode bc_E_runStep 38 = .ok (.aload_n 1, 1) := by decide +kernel
theorem dc_E_runStep_39 : decode bc_E_runStep 39 = .ok (.iload_n 2, 1) := by decide +kernel
theorem dc_E_runStep_40 : decode bc_E_runStep 40 = .ok (.iload_n 3, 1) := by decide +kernel
theorem dc_E_runStep_41 : decode bc_E_runStep 41 = .ok (.invokevirtual 215, 3) := by decide +kernel
theorem dc_E_runStep_44 : decode bc_E_runStep 44 = .ok (.istore 5, 2) := by decide +kernel
theorem dc_E_runStep_46 : decode bc_E_runStep 46 = .ok (.iload 5, 2) := by decide +kernel
theorem dc_E_runStep_48 : decode bc_E_runStep 48 = .ok (.ifCond .eq 15, 3) := by decide +kernel
theorem dc_E_runStep_51 : decode bc_E_runStep 51 = .ok (.aload_n 0, 1) := by decide +kernel
theorem dc_E_runStep_52 : decode bc_E_runStep 52 = .ok (.aload_n 1, 1) := by decide +kernel
theorem dc_E_runStep_53 : decode bc_E_runStep 53 = .ok (.iload 5, 2) := by decide +kernel
theorem dc_E_runStep_55 : decode bc_E_runStep 55 = .ok (.iload 4, 2) := by decide +kernel
theorem dc_E_runStep_57 : decode bc_E_runStep 57 = .ok (.invokevirtual 219, 3) := by decide +kernel
theorem dc_E_runStep_60 : decode bc_E_runStep 60 = .ok (.ifCond .ne 4, 3) := by decide +kernel
theorem dc_E_runStep_63 : decode bc_E_runStep 63 = .ok (.return_, 1) := by decide +kernel
theorem dc_E_runStep_64 : decode bc_E_runStep 64 = .ok (.iinc 4 1, 3) := by decide +kernel
theorem dc_E_runStep_67 : decode bc_E_runStep 67 = .ok (.goto (-64), 3) := by decide +kernel
theorem dc_E_runStep_70 : decode bc_E_runStep 70 = .ok (.return_, 1) := by decide +kernel
theorem dc_E_attempt_0 : decode bc_E_attempt 0 = .ok (.aload_n 0, 1) := by decide +kernel
theorem dc_E_attempt_1 : decode bc_E_attempt 1 = .ok (.getfield 20, 3) := by decide +kernel
theorem dc_E_attempt_4 : decode bc_E_attempt 4 = .ok (.getfield 223, 3) := by decide +kernel
theorem dc_E_attempt_7 : decode bc_E_attempt 7 = .ok (.iload_n 2, 1) := by decide +kernel
theorem dc_E_attempt_8 : decode bc_E_attempt 8 = .ok (.iaload, 1) := by decide +kernel
theorem dc_E_attempt_9 : decode bc_E_attempt 9 = .ok (.istore 4, 2) := by decide +kernel
theorem dc_E_attempt_11 : decode bc_E_attempt 11 = .ok (.aload_n 0, 1) := by decide +kernel
theorem dc_E_attempt_12 : decode bc_E_attempt 12 = .ok (.getfield 20, 3) := by decide +kernel
theorem dc_E_attempt_15 : decode bc_E_attempt 15 = .ok (.getfield 86, 3) := by decide +kernel
theorem dc_E_attempt_18 : decode bc_E_attempt 18 = .ok (.iload_n 2, 1) := by decide +kernel
theorem dc_E_attempt_19 : decode bc_E_attempt 19 = .ok (.caload, 1) := by decide +kernel
theorem dc_E_attempt_20 : decode bc_E_attempt 20 = .ok (.lookupswitch 309 #[(33, 286), (38, 278), (42, 160), (43, 132), (45, 146), (62, 216), (63, 196), (97, 271), (98, 185), (102, 244), (105, 253), (107, 174), (113, 262), (114, 296), (115, 232)], 132) := by decide +kernel
theorem dc_E_attempt_152 : decode bc_E_attempt 152 = .ok (.aload_n 1, 1) := by decide +kernel
theorem dc_E_attempt_153 : decode bc_E_attempt 153 = .ok (.dup, 1) := by decide +kernel
theorem dc_E_attempt_154 : decode bc_E_attempt 154 = .ok (.getfield 183, 3) := by decide +kernel
theorem dc_E_attempt_157 : decode bc_E_attempt 157 = .ok (.iload 4, 2) := by decide +kernel
theorem dc_E_attempt_159 : decode bc_E_attempt 159 = .ok (.iadd, 1) := by decide +kernel
theorem dc_E_attempt_160 : decode bc_E_attempt 160 = .ok (.putfield 183, 3) := by decide +kernel
theorem dc_E_attempt_163 : decode bc_E_attempt 163 = .ok (.goto 166, 3) := by decide +kernel
theorem dc_E_attempt_166 : decode bc_E_attempt 166 = .ok (.aload_n 1, 1) := by decide +kernel
theorem dc_E_attempt_167 : decode bc_E_attempt 167 = .ok (.dup, 1) := by decide +kernel
theorem dc_E_attempt_168 : decode bc_E_attempt 168 = .ok (.getfield 183, 3) := by decide +kernel
theorem dc_E_attempt_171 : decode bc_E_attempt 171 = .ok (.iload 4, 2) := by decide +kernel
theorem dc_E_attempt_173 : decode bc_E_attempt 173 = .ok (.isub, 1) := by decide +kernel
theorem dc_E_attempt_174 : decode bc_E_attempt 174 = .ok (.putfield 183, 3) := by decide +kernel
theorem dc_E_attempt_177 : decode bc_E_attempt 177 = .ok (.goto 152, 3) := by decide +kernel
theorem dc_E_attempt_180 : decode bc_E_attempt 180 = .ok (.aload_n 1, 1) := by decide +kernel
theorem dc_E_attempt_181 : decode bc_E_attempt 181 = .ok (.dup, 1) := by decide +kernel
theorem dc_E_attempt_182 : decode bc_E_attempt 182 = .ok (.getfield 183, 3) := by decide +kernel
theorem dc_E_attempt_185 : decode bc_E_attempt 185 = .ok (.iload 4, 2) := by decide +kernel
theorem dc_E_attempt_187 : decode bc_E_attempt 187 = .ok (.imul, 1) := by decide +kernel
theorem dc_E_attempt_188 : decode bc_E_attempt 188 = .ok (.putfield 183, 3) := by decide +kernel
theorem dc_E_attempt_191 : decode bc_E_attempt 191 = .ok (.goto 138, 3) := by decide +kernel
theorem dc_E_attempt_194 : decode bc_E_attempt 194 = .ok (.aload_n 1, 1) := by decide +kernel
theorem dc_E_attempt_195 : decode bc_E_attempt 195 = .ok (.aload_n 1, 1) := by decide +kernel
theorem dc_E_attempt_196 : decode bc_E_attempt 196 = .ok (.getfield 183, 3) := by decide +kernel
theorem dc_E_attempt_199 : decode bc_E_attempt 199 = .ok (.putfield 186, 3) := by decide +kernel
theorem dc_E_attempt_202 : decode bc_E_attempt 202 = .ok (.goto 127, 3) := by decide +kernel
theorem dc_E_attempt_205 : decode bc_E_attempt 205 = .ok (.aload_n 1, 1) := by decide +kernel
theorem dc_E_attempt_206 : decode bc_E_attempt 206 = .ok (.aload_n 1, 1) := by decide +kernel
theorem dc_E_attempt_207 : decode bc_E_attempt 207 = .ok (.getfield 186, 3) := by decide +kernel
theorem dc_E_attempt_210 : decode bc_E_attempt 210 = .ok (.putfield 183, 3) := by decide +kernel
theorem dc_E_attempt_213 : decode bc_E_attempt 213 = .ok (.goto 116, 3) := by decide +kernel
theorem dc_E_attempt_216 : decode bc_E_attempt 216 = .ok (.aload_n 0, 1) := by decide +kernel
theorem dc_E_attempt_217 : decode bc_E_attempt 217 = .ok (.aload_n 1, 1) := by decide +kernel
theorem dc_E_attempt_218 : decode bc_E_attempt 218 = .ok (.aload_n 0, 1) := by decide +kernel
theorem dc_E_attempt_219 : decode bc_E_attempt 219 = .ok (.getfield 20, 3) := by decide +kernel
theorem dc_E_attempt_222 : decode bc_E_attempt 222 = .ok (.aload_n 1, 1) := by decide +kernel
theorem dc_E_attempt_223 : decode bc_E_attempt 223 = .ok (.iload_n 2, 1) := by decide +kernel
theorem dc_E_attempt_224 : decode bc_E_attempt 224 = .ok (.invokevirtual 226, 3) := by decide +kernel
theorem dc_E_attempt_227 : decode bc_E_attempt 227 = .ok (.iload_n 3, 1) := by decide +kernel
theorem dc_E_attempt_228 : decode bc_E_attempt 228 = .ok (.iconst 1, 1) := by decide +kernel
theorem dc_E_attempt_229 : decode bc_E_attempt 229 = .ok (.iadd, 1) := by decide +kernel
theorem dc_E_attempt_230 : decode bc_E_attempt 230 = .ok (.invokevirtual 199, 3) := by decide +kernel
theorem dc_E_attempt_233 : decode bc_E_attempt 233 = .ok (.goto 96, 3) := by decide +kernel
theorem dc_E_attempt_236 : decode bc_E_attempt 236 = .ok (.aload_n 0, 1) := by decide +kernel
theorem dc_E_attempt_237 : decode bc_E_attempt 237 = .ok (.aload_n 1, 1) := by decide +kernel
theorem dc_E_attempt_238 : decode bc_E_attempt 238 = .ok (.iload 4, 2) := by decide +kernel
theorem dc_E_attempt_240 : decode bc_E_attempt 240 = .ok (.bipush 41, 2) := by decide +kernel
theorem dc_E_attempt_242 : decode bc_E_attempt 242 = .ok (.imul, 1) := by decide +kernel
theorem dc_E_attempt_243 : decode bc_E_attempt 243 = .ok (.iload_n 3, 1) := by decide +kernel
theorem dc_E_attempt_244 : decode bc_E_attempt 244 = .ok (.iconst 1, 1) := by decide +kernel
theorem dc_E_attempt_245 : decode bc_E_attempt 245 = .ok (.iadd, 1) := by decide +kernel
theorem dc_E_attempt_246 : decode bc_E_attempt 246 = .ok (.invokevirtual 199, 3) := by decide +kernel
theorem dc_E_attempt_249 : decode bc_E_attempt 249 = .ok (.goto 80, 3) := by decide +kernel
theorem dc_E_attempt_252 : decode bc_E_attempt 252 = .ok (.aload_n 0, 1) := by decide +kernel
theorem dc_E_attempt_253 : decode bc_E_attempt 253 = .ok (.aload_n 1, 1) := by decide +kernel
theorem dc_E_attempt_254 : decode bc_E_attempt 254 = .ok (.iload_n 2, 1) := by decide +kernel
theorem dc_E_attempt_255 : decode bc_E_attempt 255 = .ok (.iload_n 3, 1) := by decide +kernel
theorem dc_E_attempt_256 : decode bc_E_attempt 256 = .ok (.iconst 1, 1) := by decide +kernel
theorem dc_E_attempt_257 : decode bc_E_attempt 257 = .ok (.iadd, 1) := by decide +kernel
theorem dc_E_attempt_258 : decode bc_E_attempt 258 = .ok (.invokevirtual 230, 3) := by decide +kernel
theorem dc_E_attempt_261 : decode bc_E_attempt 261 = .ok (.goto 68, 3) := by decide +kernel
theorem dc_E_attempt_264 : decode bc_E_attempt 264 = .ok (.aload_n 0, 1) := by decide +kernel
theorem dc_E_attempt_265 : decode bc_E_attempt 265 = .ok (.aload_n 1, 1) := by decide +kernel
theorem dc_E_attempt_266 : decode bc_E_attempt 266 = .ok (.iload_n 2, 1) := by decide +kernel
theorem dc_E_attempt_267 : decode bc_E_attempt 267 = .ok (.invokevirtual 233, 3) := by decide +kernel
theorem dc_E_attempt_270 : decode bc_E_attempt 270 = .ok (.goto 59, 3) := by decide +kernel
theorem dc_E_attempt_273 : decode bc_E_attempt 273 = .ok (.aload_n 0, 1) := by decide +kernel
theorem dc_E_attempt_274 : decode bc_E_attempt 274 = .ok (.aload_n 1, 1) := by decide +kernel
theorem dc_E_attempt_275 : decode bc_E_attempt 275 = .ok (.iload_n 2, 1) := by decide +kernel
theorem dc_E_attempt_276 : decode bc_E_attempt 276 = .ok (.invokevirtual 236, 3) := by decide +kernel
theorem dc_E_attempt_279 : decode bc_E_attempt 279 = .ok (.goto 50, 3) := by decide +kernel
theorem dc_E_attempt_282 : decode bc_E_attempt 282 = .ok (.aload_n 0, 1) := by decide +kernel
theorem dc_E_attempt_283 : decode bc_E_attempt 283 = .ok (.aload_n 1, 1) := by decide +kernel
theorem dc_E_attempt_284 : decode bc_E_attempt 284 = .ok (.iload_n 2, 1) := by decide +kernel
theorem dc_E_attempt_285 : decode bc_E_attempt 285 = .ok (.invokevirtual 239, 3) := by decide +kernel
theorem dc_E_attempt_288 : decode bc_E_attempt 288 = .ok (.goto 41, 3) := by decide +kernel
theorem dc_E_attempt_291 : decode bc_E_attempt 291 = .ok (.aload_n 0, 1) := by decide +kernel
theorem dc_E_attempt_292 : decode bc_E_attempt 292 = .ok (.aload_n 1, 1) := by decide +kernel
theorem dc_E_attempt_293 : decode bc_E_attempt 293 = .ok (.iload_n 2, 1) := by decide +kernel
theorem dc_E_attempt_294 : decode bc_E_attempt 294 = .ok (.invokevirtual 242, 3) := by decide +kernel
theorem dc_E_attempt_297 : decode bc_E_attempt 297 = .ok (.ireturn, 1) := by decide +kernel
theorem dc_E_attempt_298 : decode bc_E_attempt 298 = .ok (.aload_n 0, 1) := by decide +kernel
theorem dc_E_attempt_299 : decode bc_E_attempt 299 = .ok (.aload_n 1, 1) := by decide +kernel
theorem dc_E_attempt_300 : decode bc_E_attempt 300 = .ok (.iload 4, 2) := by decide +kernel
theorem dc_E_attempt_302 : decode bc_E_attempt 302 = .ok (.invokevirtual 245, 3) := by decide +kernel
theorem dc_E_attempt_305 : decode bc_E_attempt 305 = .ok (.ireturn, 1) := by decide +kernel
theorem dc_E_attempt_306 : decode bc_E_attempt 306 = .ok (.aload_n 0, 1) := by decide +kernel
theorem dc_E_attempt_307 : decode bc_E_attempt 307 = .ok (.aload_n 1, 1) := by decide +kernel
theorem dc_E_attempt_308 : decode bc_E_attempt 308 = .ok (.iconst 1, 1) := by decide +kernel
theorem dc_E_attempt_309 : decode bc_E_attempt 309 = .ok (.iload 4, 2) := by decide +kernel
theorem dc_E_attempt_311 : decode bc_E_attempt 311 = .ok (.ishl, 1) := by decide +kernel
theorem dc_E_attempt_312 : decode bc_E_attempt 312 = .ok (.invokevirtual 248, 3) := by decide +kernel
theorem dc_E_attempt_315 : decode bc_E_attempt 315 = .ok (.ireturn, 1) := by decide +kernel
theorem dc_E_attempt_316 : decode bc_E_attempt 316 = .ok (.aload_n 0, 1) := by decide +kernel
theorem dc_E_attempt_317 : decode bc_E_attempt 317 = .ok (.aload_n 1, 1) := by decide +kernel
theorem dc_E_attempt_318 : decode bc_E_attempt 318 = .ok (.aload_n 1, 1) := by decide +kernel
theorem dc_E_attempt_319 : decode bc_E_attempt 319 = .ok (.getfield 186, 3) := by decide +kernel
theorem dc_E_attempt_322 : decode bc_E_attempt 322 = .ok (.bipush 15, 2) := by decide +kernel
theorem dc_E_attempt_324 : decode bc_E_attempt 324 = .ok (.iand, 1) := by decide +kernel
theorem dc_E_attempt_325 : decode bc_E_attempt 325 = .ok (.invokevirtual 248, 3) := by decide +kernel
theorem dc_E_attempt_328 : decode bc_E_attempt 328 = .ok (.ireturn, 1) := by decide +kernel
theorem dc_E_attempt_329 : decode bc_E_attempt 329 = .ok (.iconst 0, 1) := by decide +kernel
theorem dc_E_attempt_330 : decode bc_E_attempt 330 = .ok (.ireturn, 1) := by decide +kernel
theorem dc_E_isRedelivered_0 : decode bc_E_isRedelivered 0 = .ok (.aload_n 0, 1) := by decide +kernel
theorem dc_E_isRedelivered_1 : decode bc_E_isRedelivered 1 = .ok (.getfield 35, 3) := by decide +kernel
theorem dc_E_isRedelivered_4 : decode bc_E_isRedelivered 4 = .ok (.iload_n 2, 1) := by decide +kernel
theorem dc_E_isRedelivered_5 : decode bc_E_isRedelivered 5 = .ok (.invokevirtual 251, 3) := by decide +kernel
theorem dc_E_isRedelivered_8 : decode bc_E_isRedelivered 8 = .ok (.istore 4, 2) := by decide +kernel
theorem dc_E_isRedelivered_10 : decode bc_E_isRedelivered 10 = .ok (.iload 4, 2) := by decide +kernel
theorem dc_E_isRedelivered_12 : decode bc_E_isRedelivered 12 = .ok (.iconst (-1), 1) := by decide +kernel
theorem dc_E_isRedelivered_13 : decode bc_E_isRedelivered 13 = .ok (.if_icmp .ne 12, 3) := by decide +kernel
theorem dc_E_isRedelivered_16 : decode bc_E_isRedelivered 16 = .ok (.aload_n 0, 1) := by decide +kernel
theorem dc_E_isRedelivered_17 : decode bc_E_isRedelivered 17 = .ok (.aload_n 1, 1) := by decide +kernel
theorem dc_E_isRedelivered_18 : decode bc_E_isRedelivered 18 = .ok (.bipush 6, 2) := by decide +kernel
theorem dc_E_isRedelivered_20 : decode bc_E_isRedelivered 20 = .ok (.invokevirtual 202, 3) := by decide +kernel
theorem dc_E_isRedelivered_23 : decode bc_E_isRedelivered 23 = .ok (.iconst 0, 1) := by decide +kernel
theorem dc_E_isRedelivered_24 : decode bc_E_isRedelivered 24 = .ok (.ireturn, 1) := by decide +kernel
theorem dc_E_isRedelivered_25 : decode bc_E_isRedelivered 25 = .ok (.iload_n 3, 1) := by decide +kernel
theorem dc_E_isRedelivered_26 : decode bc_E_isRedelivered 26 = .ok (.aload_n 0, 1) := by decide +kernel
theorem dc_E_isRedelivered_27 : decode bc_E_isRedelivered 27 = .ok (.getfield 35, 3) := by decide +kernel
theorem dc_E_isRedelivered_30 : decode bc_E_isRedelivered 30 = .ok (.getfield 254, 3) := by decide +kernel
theorem dc_E_isRedelivered_33 : decode bc_E_isRedelivered 33 = .ok (.iload 4, 2) := by decide +kernel
theorem dc_E_isRedelivered_35 : decode bc_E_isRedelivered 35 = .ok (.iaload, 1) := by decide +kernel
theorem dc_E_isRedelivered_36 : decode bc_E_isRedelivered 36 = .ok (.if_icmp .gt 43, 3) := by decide +kernel
theorem dc_E_isRedelivered_39 : decode bc_E_isRedelivered 39 = .ok (.aload_n 0, 1) := by decide +kernel
theorem dc_E_isRedelivered_40 : decode bc_E_isRedelivered 40 = .ok (.dup, 1) := by decide +kernel
theorem dc_E_isRedelivered_41 : decode bc_E_isRedelivered 41 = .ok (.getfield 180, 3) := by decide +kernel
theorem dc_E_isRedelivered_44 : decode bc_E_isRedelivered 44 = .ok (.iconst 1, 1) := by decide +kernel
theorem dc_E_isRedelivered_45 : decode bc_E_isRedelivered 45 = .ok (.iadd, 1) := by decide +kernel
theorem dc_E_isRedelivered_46 : decode bc_E_isRedelivered 46 = .ok (.putfield 180, 3) := by decide +kernel
theorem dc_E_isRedelivered_49 : decode bc_E_isRedelivered 49 = .ok (.aload_n 0, 1) := by decide +kernel
theorem dc_E_isRedelivered_50 : decode bc_E_isRedelivered 50 = .ok (.dup, 1) := by decide +kernel
theorem dc_E_isRedelivered_51 : decode bc_E_isRedelivered 51 = .ok (.getfield 148, 3) := by decide +kernel
theorem dc_E_isRedelivered_54 : decode bc_E_isRedelivered 54 = .ok (.aload_n 0, 1) := by decide +kernel
theorem dc_E_isRedelivered_55 : decode bc_E_isRedelivered 55 = .ok (.getfield 35, 3) := by decide +kernel
theorem dc_E_isRedelivered_58 : decode bc_E_isRedelivered 58 = .ok (.getfield 257, 3) := by decide +kernel
theorem dc_E_isRedelivered_61 : decode bc_E_isRedelivered 61 = .ok (.iload 4, 2) := by decide +kernel
theorem dc_E_isRedelivered_63 : decode bc_E_isRedelivered 63 = .ok (.iaload, 1) := by decide +kernel
theorem dc_E_isRedelivered_64 : decode bc_E_isRedelivered 64 = .ok (.iload_n 3, 1) := by decide +kernel
theorem dc_E_isRedelivered_65 : decode bc_E_isRedelivered 65 = .ok (.iconst 1, 1) := by decide +kernel
theorem dc_E_isRedelivered_66 : decode bc_E_isRedelivered 66 = .ok (.isub, 1) := by decide +kernel
theorem dc_E_isRedelivered_67 : decode bc_E_isRedelivered 67 = .ok (.ishl, 1) := by decide +kernel
theorem dc_E_isRedelivered_68 : decode bc_E_isRedelivered 68 = .ok (.bipush 60, 2) := by decide +kernel
theorem dc_E_isRedelivered_70 : decode bc_E_isRedelivered 70 = .ok (.invokestatic 260, 3) := by decide +kernel
theorem dc_E_isRedelivered_73 : decode bc_E_isRedelivered 73 = .ok (.iadd, 1) := by decide +kernel
theorem dc_E_isRedelivered_74 : decode bc_E_isRedelivered 74 = .ok (.putfield 148, 3) := by decide +kernel
theorem dc_E_isRedelivered_77 : decode bc_E_isRedelivered 77 = .ok (.iconst 1, 1) := by decide +kernel
theorem dc_E_isRedelivered_78 : decode bc_E_isRedelivered 78 = .ok (.ireturn, 1) := by decide +kernel
theorem dc_E_isRedelivered_79 : decode bc_E_isRedelivered 79 = .ok (.aload_n 0, 1) := by decide +kernel
theorem dc_E_isRedelivered_80 : decode bc_E_isRedelivered 80 = .ok (.getfield 35, 3) := by decide +kernel
theorem dc_E_isRedelivered_83 : decode bc_E_isRedelivered 83 = .ok (.getfield 266, 3) := by decide +kernel
theorem dc_E_isRedelivered_86 : decode bc_E_isRedelivered 86 = .ok (.iload 4, 2) := by decide +kernel
theorem dc_E_isRedelivered_88 : decode bc_E_isRedelivered 88 = .ok (.baload, 1) := by decide +kernel
theorem dc_E_isRedelivered_89 : decode bc_E_isRedelivered 89 = .ok (.ifCond .eq 53, 3) := by decide +kernel
theorem dc_E_isRedelivered_92 : decode bc_E_isRedelivered 92 = .ok (.aload_n 0, 1) := by decide +kernel
theorem dc_E_isRedelivered_93 : decode bc_E_isRedelivered 93 = .ok (.getfield 35, 3) := by decide +kernel
theorem dc_E_isRedelivered_96 : decode bc_E_isRedelivered 96 = .ok (.getfield 270, 3) := by decide +kernel
theorem dc_E_isRedelivered_99 : decode bc_E_isRedelivered 99 = .ok (.iload 4, 2) := by decide +kernel
theorem dc_E_isRedelivered_101 : decode bc_E_isRedelivered 101 = .ok (.baload, 1) := by decide +kernel
theorem dc_E_isRedelivered_102 : decode bc_E_isRedelivered 102 = .ok (.ifCond .eq 10, 3) := by decide +kernel
theorem dc_E_isRedelivered_105 : decode bc_E_isRedelivered 105 = .ok (.aload_n 1, 1) := by decide +kernel
theorem dc_E_isRedelivered_106 : decode bc_E_isRedelivered 106 = .ok (.getfield 189, 3) := by decide +kernel
theorem dc_E_isRedelivered_109 : decode bc_E_isRedelivered 109 = .ok (.goto 7, 3) := by decide +kernel
theorem dc_E_isRedelivered_112 : decode bc_E_isRedelivered 112 = .ok (.aload_n 1, 1) := by decide +kernel
theorem dc_E_isRedelivered_113 : decode bc_E_isRedelivered 113 = .ok (.getfield 183, 3) := by decide +kernel
theorem dc_E_isRedelivered_116 : decode bc_E_isRedelivered 116 = .ok (.istore 5, 2) := by decide +kernel
theorem dc_E_isRedelivered_118 : decode bc_E_isRedelivered 118 = .ok (.aload_n 0, 1) := by decide +kernel
theorem dc_E_isRedelivered_119 : decode bc_E_isRedelivered 119 = .ok (.getfield 41, 3) := by decide +kernel
theorem dc_E_isRedelivered_122 : decode bc_E_isRedelivered 122 = .ok (.iconst 4, 1) := by decide +kernel
theorem dc_E_isRedelivered_123 : decode bc_E_isRedelivered 123 = .ok (.aaload, 1) := by decide +kernel
theorem dc_E_isRedelivered_124 : decode bc_E_isRedelivered 124 = .ok (.iload 5, 2) := by decide +kernel
theorem dc_E_isRedelivered_126 : decode bc_E_isRedelivered 126 = .ok (.aload_n 1, 1) := by decide +kernel
theorem dc_E_isRedelivered_127 : decode bc_E_isRedelivered 127 = .ok (.getfield 186, 3) := by decide +kernel
theorem dc_E_isRedelivered_130 : decode bc_E_isRedelivered 130 = .ok (.invokevirtual 272, 3) := by decide +kernel
theorem dc_E_isRedelivered_133 : decode bc_E_isRedelivered 133 = .ok (.aload_n 0, 1) := by decide +kernel
theorem dc_E_isRedelivered_134 : decode bc_E_isRedelivered 134 = .ok (.aload_n 1, 1) := by decide +kernel
theorem dc_E_isRedelivered_135 : decode bc_E_isRedelivered 135 = .ok (.iconst 5, 1) := by decide +kernel
theorem dc_E_isRedelivered_136 : decode bc_E_isRedelivered 136 = .ok (.invokevirtual 202, 3) := by decide +kernel
theorem dc_E_isRedelivered_139 : decode bc_E_isRedelivered 139 = .ok (.goto 10, 3) := by decide +kernel
theorem dc_E_isRedelivered_142 : decode bc_E_isRedelivered 142 = .ok (.aload_n 0, 1) := by decide +kernel
theorem dc_E_isRedelivered_143 : decode bc_E_isRedelivered 143 = .ok (.aload_n 1, 1) := by decide +kernel
theorem dc_E_isRedelivered_144 : decode bc_E_isRedelivered 144 = .ok (.bipush 6, 2) := by decide +kernel
theorem dc_E_isRedelivered_146 : decode bc_E_isRedelivered 146 = .ok (.invokevirtual 202, 3) := by decide +kernel
theorem dc_E_isRedelivered_149 : decode bc_E_isRedelivered 149 = .ok (.iconst 0, 1) := by decide +kernel
theorem dc_E_isRedelivered_150 : decode bc_E_isRedelivered 150 = .ok (.ireturn, 1) := by decide +kernel
theorem dc_E_runParts_0 : decode bc_E_runParts 0 = .ok (.aload_n 0, 1) := by decide +kernel
theorem dc_E_runParts_1 : decode bc_E_runParts 1 = .ok (.getfield 20, 3) := by decide +kernel
theorem dc_E_runParts_4 : decode bc_E_runParts 4 = .ok (.getfield 223, 3) := by decide +kernel
theorem dc_E_runParts_7 : decode bc_E_runParts 7 = .ok (.iload_n 2, 1) := by decide +kernel
theorem dc_E_runParts_8 : decode bc_E_runParts 8 = .ok (.iaload, 1) := by decide +kernel
theorem dc_E_runParts_9 : decode bc_E_runParts 9 = .ok (.istore 4, 2) := by decide +kernel
theorem dc_E_runParts_11 : decode bc_E_runParts 11 = .ok (.iload_n 3, 1) := by decide +kernel
theorem dc_E_runParts_12 : decode bc_E_runParts 12 = .ok (.bipush 16, 2) := by decide +kernel
theorem dc_E_runParts_14 : decode bc_E_runParts 14 = .ok (.if_icmp .ge 9, 3) := by decide +kernel
theorem dc_E_runParts_17 : decode bc_E_runParts 17 = .ok (.iload 4, 2) := by decide +kernel
theorem dc_E_runParts_19 : decode bc_E_runParts 19 = .ok (.iconst 1, 1) := by decide +kernel
theorem dc_E_runParts_20 : decode bc_E_runParts 20 = .ok (.if_icmp .ge 11, 3) := by decide +kernel
theorem dc_E_runParts_23 : decode bc_E_runParts 23 = .ok (.aload_n 0, 1) := by decide +kernel
theorem dc_E_runParts_24 : decode bc_E_runParts 24 = .ok (.aload_n 1, 1) := by decide +kernel
theorem dc_E_runParts_25 : decode bc_E_runParts 25 = .ok (.bipush 6, 2) := by decide +kernel
theorem dc_E_runParts_27 : decode bc_E_runParts 27 = .ok (.invokevirtual 202, 3) := by decide +kernel
theorem dc_E_runParts_30 : decode bc_E_runParts 30 = .ok (.return_, 1) := by decide +kernel
theorem dc_E_runParts_31 : decode bc_E_runParts 31 = .ok (.aload_n 0, 1) := by decide +kernel
theorem dc_E_runParts_32 : decode bc_E_runParts 32 = .ok (.getfield 74, 3) := by decide +kernel
theorem dc_E_runParts_35 : decode bc_E_runParts 35 = .ok (.iload_n 3, 1) := by decide +kernel
theorem dc_E_runParts_36 : decode bc_E_runParts 36 = .ok (.aaload, 1) := by decide +kernel
theorem dc_E_runParts_37 : decode bc_E_runParts 37 = .ok (.astore 5, 2) := by decide +kernel
theorem dc_E_runParts_39 : decode bc_E_runParts 39 = .ok (.iconst 0, 1) := by decide +kernel
theorem dc_E_runParts_40 : decode bc_E_runParts 40 = .ok (.istore 6, 2) := by decide +kernel
theorem dc_E_runParts_42 : decode bc_E_runParts 42 = .ok (.iconst 0, 1) := by decide +kernel
theorem dc_E_runParts_43 : decode bc_E_runParts 43 = .ok (.istore 7, 2) := by decide +kernel
theorem dc_E_runParts_45 : decode bc_E_runParts 45 = .ok (.iload 7, 2) := by decide +kernel
theorem dc_E_runParts_47 : decode bc_E_runParts 47 = .ok (.iload 4, 2) := by decide +kernel
theorem dc_E_runParts_49 : decode bc_E_runParts 49 = .ok (.if_icmp .ge 72, 3) := by decide +kernel
theorem dc_E_runParts_52 : decode bc_E_runParts 52 = .ok (.aload_n 0, 1) := by decide +kernel
theorem dc_E_runParts_53 : decode bc_E_runParts 53 = .ok (.aload 5, 2) := by decide +kernel
theorem dc_E_runParts_55 : decode bc_E_runParts 55 = .ok (.aload_n 1, 1) := by decide +kernel
theorem dc_E_runParts_56 : decode bc_E_runParts 56 = .ok (.getfield 183, 3) := by decide +kernel
theorem dc_E_runParts_59 : decode bc_E_runParts 59 = .ok (.iload 7, 2) := by decide +kernel
theorem dc_E_runParts_61 : decode bc_E_runParts 61 = .ok (.iadd, 1) := by decide +kernel
theorem dc_E_runParts_62 : decode bc_E_runParts 62 = .ok (.iload 4, 2) := by decide +kernel
theorem dc_E_runParts_64 : decode bc_E_runParts 64 = .ok (.invokestatic 276, 3) := by decide +kernel
theorem dc_E_runParts_67 : decode bc_E_runParts 67 = .ok (.aload_n 1, 1) := by decide +kernel
theorem dc_E_runParts_68 : decode bc_E_runParts 68 = .ok (.getfield 186, 3) := by decide +kernel
theorem dc_E_runParts_71 : decode bc_E_runParts 71 = .ok (.invokevirtual 195, 3) := by decide +kernel
theorem dc_E_runParts_74 : decode bc_E_runParts 74 = .ok (.aload_n 0, 1) := by decide +kernel
theorem dc_E_runParts_75 : decode bc_E_runParts 75 = .ok (.aload 5, 2) := by decide +kernel
theorem dc_E_runParts_77 : decode bc_E_runParts 77 = .ok (.aload_n 0, 1) := by decide +kernel
theorem dc_E_runParts_78 : decode bc_E_runParts 78 = .ok (.getfield 20, 3) := by decide +kernel
theorem dc_E_runParts_81 : decode bc_E_runParts 81 = .ok (.getfield 279, 3) := by decide +kernel
theorem dc_E_runParts_84 : decode bc_E_runParts 84 = .ok (.iload_n 2, 1) := by decide +kernel
theorem dc_E_runParts_85 : decode bc_E_runParts 85 = .ok (.iaload, 1) := by decide +kernel
theorem dc_E_runParts_86 : decode bc_E_runParts 86 = .ok (.iload_n 3, 1) := by decide +kernel
theorem dc_E_runParts_87 : decode bc_E_runParts 87 = .ok (.invokevirtual 199, 3) := by decide +kernel
theorem dc_E_runParts_90 : decode bc_E_runParts 90 = .ok (.aload 5, 2) := by decide +kernel
theorem dc_E_runParts_92 : decode bc_E_runParts 92 = .ok (.getfield 192, 3) := by decide +kernel
theorem dc_E_runParts_95 : decode bc_E_runParts 95 = .ok (.ifCond .ne 20, 3) := by decide +kernel
theorem dc_E_runParts_98 : decode bc_E_runParts 98 = .ok (.aload_n 0, 1) := by decide +kernel
theorem dc_E_runParts_99 : decode bc_E_runParts 99 = .ok (.aload 5, 2) := by decide +kernel
theorem dc_E_runParts_101 : decode bc_E_runParts 101 = .ok (.iconst 1, 1) := by decide +kernel
theorem dc_E_runParts_102 : decode bc_E_runParts 102 = .ok (.invokevirtual 202, 3) := by decide +kernel
theorem dc_E_runParts_105 : decode bc_E_runParts 105 = .ok (.iload 6, 2) := by decide +kernel
theorem dc_E_runParts_107 : decode bc_E_runParts 107 = .ok (.aload 5, 2) := by decide +kernel
theorem dc_E_runParts_109 : decode bc_E_runParts 109 = .ok (.getfield 183, 3) := by decide +kernel
theorem dc_E_runParts_112 : decode bc_E_runParts 112 = .ok (.iadd, 1) := by decide +kernel
theorem dc_E_runParts_113 : decode bc_E_runParts 113 = .ok (.istore 6, 2) := by decide +kernel
theorem dc_E_runParts_115 : decode bc_E_runParts 115 = .ok (.iinc 7 1, 3) := by decide +kernel
theorem dc_E_runParts_118 : decode bc_E_runParts 118 = .ok (.goto (-73), 3) := by decide +kernel
theorem dc_E_runParts_121 : decode bc_E_runParts 121 = .ok (.aload_n 1, 1) := by decide +kernel
theorem dc_E_runParts_122 : decode bc_E_runParts 122 = .ok (.iload 6, 2) := by decide +kernel
theorem dc_E_runParts_124 : decode bc_E_runParts 124 = .ok (.putfield 183, 3) := by decide +kernel
theorem dc_E_runParts_127 : decode bc_E_runParts 127 = .ok (.return_, 1) := by decide +kernel
theorem dc_E_filter_0 : decode bc_E_filter 0 = .ok (.aload_n 0, 1) := by decide +kernel
theorem dc_E_filter_1 : decode bc_E_filter 1 = .ok (.getfield 20, 3) := by decide +kernel
theorem dc_E_filter_4 : decode bc_E_filter 4 = .ok (.aload_n 1, 1) := by decide +kernel
theorem dc_E_filter_5 : decode bc_E_filter 5 = .ok (.iload_n 2, 1) := by decide +kernel
theorem dc_E_filter_6 : decode bc_E_filter 6 = .ok (.invokevirtual 282, 3) := by decide +kernel
theorem dc_E_filter_9 : decode bc_E_filter 9 = .ok (.ifCond .ne 9, 3) := by decide +kernel
theorem dc_E_filter_12 : decode bc_E_filter 12 = .ok (.aload_n 0, 1) := by decide +kernel
theorem dc_E_filter_13 : decode bc_E_filter 13 = .ok (.aload_n 1, 1) := by decide +kernel
theorem dc_E_filter_14 : decode bc_E_filter 14 = .ok (.iconst 2, 1) := by decide +kernel
theorem dc_E_filter_15 : decode bc_E_filter 15 = .ok (.invokevirtual 202, 3) := by decide +kernel
theorem dc_E_filter_18 : decode bc_E_filter 18 = .ok (.return_, 1) := by decide +kernel
theorem dc_E_endIfDuplicate_0 : decode bc_E_endIfDuplicate 0 = .ok (.aload_n 0, 1) := by decide +kernel
theorem dc_E_endIfDuplicate_1 : decode bc_E_endIfDuplicate 1 = .ok (.getfield 68, 3) := by decide +kernel
theorem dc_E_endIfDuplicate_4 : decode bc_E_endIfDuplicate 4 = .ok (.iload_n 2, 1) := by decide +kernel
theorem dc_E_endIfDuplicate_5 : decode bc_E_endIfDuplicate 5 = .ok (.aload_n 1, 1) := by decide +kernel
theorem dc_E_endIfDuplicate_6 : decode bc_E_endIfDuplicate 6 = .ok (.getfield 186, 3) := by decide +kernel
theorem dc_E_endIfDuplicate_9 : decode bc_E_endIfDuplicate 9 = .ok (.invokevirtual 286, 3) := by decide +kernel
theorem dc_E_endIfDuplicate_12 : decode bc_E_endIfDuplicate 12 = .ok (.ifCond .eq 12, 3) := by decide +kernel
theorem dc_E_endIfDuplicate_15 : decode bc_E_endIfDuplicate 15 = .ok (.aload_n 0, 1) := by decide +kernel
theorem dc_E_endIfDuplicate_16 : decode bc_E_endIfDuplicate 16 = .ok (.aload_n 1, 1) := by decide +kernel
theorem dc_E_endIfDuplicate_17 : decode bc_E_endIfDuplicate 17 = .ok (.iconst 4, 1) := by decide +kernel
theorem dc_E_endIfDuplicate_18 : decode bc_E_endIfDuplicate 18 = .ok (.invokevirtual 202, 3) := by decide +kernel
theorem dc_E_endIfDuplicate_21 : decode bc_E_endIfDuplicate 21 = .ok (.goto 15, 3) := by decide +kernel
theorem dc_E_endIfDuplicate_24 : decode bc_E_endIfDuplicate 24 = .ok (.aload_n 0, 1) := by decide +kernel
theorem dc_E_endIfDuplicate_25 : decode bc_E_endIfDuplicate 25 = .ok (.getfield 68, 3) := by decide +kernel
theorem dc_E_endIfDuplicate_28 : decode bc_E_endIfDuplicate 28 = .ok (.iload_n 2, 1) := by decide +kernel
theorem dc_E_endIfDuplicate_29 : decode bc_E_endIfDuplicate 29 = .ok (.aload_n 1, 1) := by decide +kernel
theorem dc_E_endIfDuplicate_30 : decode bc_E_endIfDuplicate 30 = .ok (.getfield 186, 3) := by decide +kernel
theorem dc_E_endIfDuplicate_33 : decode bc_E_endIfDuplicate 33 = .ok (.invokevirtual 289, 3) := by decide +kernel
theorem dc_E_endIfDuplicate_36 : decode bc_E_endIfDuplicate 36 = .ok (.return_, 1) := by decide +kernel
theorem dc_E_hold_0 : decode bc_E_hold 0 = .ok (.aload_n 0, 1) := by decide +kernel
theorem dc_E_hold_1 : decode bc_E_hold 1 = .ok (.getfield 68, 3) := by decide +kernel
theorem dc_E_hold_4 : decode bc_E_hold 4 = .ok (.iload_n 2, 1) := by decide +kernel
theorem dc_E_hold_5 : decode bc_E_hold 5 = .ok (.aload_n 1, 1) := by decide +kernel
theorem dc_E_hold_6 : decode bc_E_hold 6 = .ok (.getfield 183, 3) := by decide +kernel
theorem dc_E_hold_9 : decode bc_E_hold 9 = .ok (.aload_n 1, 1) := by decide +kernel
theorem dc_E_hold_10 : decode bc_E_hold 10 = .ok (.getfield 186, 3) := by decide +kernel
theorem dc_E_hold_13 : decode bc_E_hold 13 = .ok (.invokevirtual 292, 3) := by decide +kernel
theorem dc_E_hold_16 : decode bc_E_hold 16 = .ok (.aload_n 0, 1) := by decide +kernel
theorem dc_E_hold_17 : decode bc_E_hold 17 = .ok (.dup, 1) := by decide +kernel
theorem dc_E_hold_18 : decode bc_E_hold 18 = .ok (.getfield 105, 3) := by decide +kernel
theorem dc_E_hold_21 : decode bc_E_hold 21 = .ok (.iconst 1, 1) := by decide +kernel
theorem dc_E_hold_22 : decode bc_E_hold 22 = .ok (.iadd, 1) := by decide +kernel
theorem dc_E_hold_23 : decode bc_E_hold 23 = .ok (.putfield 105, 3) := by decide +kernel
theorem dc_E_hold_26 : decode bc_E_hold 26 = .ok (.aload_n 0, 1) := by decide +kernel
theorem dc_E_hold_27 : decode bc_E_hold 27 = .ok (.aload_n 1, 1) := by decide +kernel
theorem dc_E_hold_28 : decode bc_E_hold 28 = .ok (.iconst 3, 1) := by decide +kernel
theorem dc_E_hold_29 : decode bc_E_hold 29 = .ok (.invokevirtual 202, 3) := by decide +kernel
theorem dc_E_hold_32 : decode bc_E_hold 32 = .ok (.aload_n 0, 1) := by decide +kernel
theorem dc_E_hold_33 : decode bc_E_hold 33 = .ok (.getfield 68, 3) := by decide +kernel
theorem dc_E_hold_36 : decode bc_E_hold 36 = .ok (.getfield 296, 3) := by decide +kernel
theorem dc_E_hold_39 : decode bc_E_hold 39 = .ok (.iload_n 2, 1) := by decide +kernel
theorem dc_E_hold_40 : decode bc_E_hold 40 = .ok (.iaload, 1) := by decide +kernel
theorem dc_E_hold_41 : decode bc_E_hold 41 = .ok (.istore_n 3, 1) := by decide +kernel
theorem dc_E_hold_42 : decode bc_E_hold 42 = .ok (.iload_n 3, 1) := by decide +kernel
theorem dc_E_hold_43 : decode bc_E_hold 43 = .ok (.aload_n 0, 1) := by decide +kernel
theorem dc_E_hold_44 : decode bc_E_hold 44 = .ok (.getfield 20, 3) := by decide +kernel
theorem dc_E_hold_47 : decode bc_E_hold 47 = .ok (.getfield 223, 3) := by decide +kernel
theorem dc_E_hold_50 : decode bc_E_hold 50 = .ok (.iload_n 2, 1) := by decide +kernel
theorem dc_E_hold_51 : decode bc_E_hold 51 = .ok (.iaload, 1) := by decide +kernel
theorem dc_E_hold_52 : decode bc_E_hold 52 = .ok (.if_icmp .ge 4, 3) := by decide +kernel
theorem dc_E_hold_55 : decode bc_E_hold 55 = .ok (.return_, 1) := by decide +kernel
theorem dc_E_hold_56 : decode bc_E_hold 56 = .ok (.iconst 0, 1) := by decide +kernel
theorem dc_E_hold_57 : decode bc_E_hold 57 = .ok (.istore 4, 2) := by decide +kernel
theorem dc_E_hold_59 : decode bc_E_hold 59 = .ok (.iload 4, 2) := by decide +kernel
theorem dc_E_hold_61 : decode bc_E_hold 61 = .ok (.iload_n 3, 1) := by decide +kernel
theorem dc_E_hold_62 : decode bc_E_hold 62 = .ok (.if_icmp .ge 54, 3) := by decide +kernel
theorem dc_E_hold_65 : decode bc_E_hold 65 = .ok (.iload_n 2, 1) := by decide +kernel
theorem dc_E_hold_66 : decode bc_E_hold 66 = .ok (.iconst 4, 1) := by decide +kernel
theorem dc_E_hold_67 : decode bc_E_hold 67 = .ok (.imul, 1) := by decide +kernel
theorem dc_E_hold_68 : decode bc_E_hold 68 = .ok (.iload 4, 2) := by decide +kernel
theorem dc_E_hold_70 : decode bc_E_hold 70 = .ok (.iadd, 1) := by decide +kernel
theorem dc_E_hold_71 : decode bc_E_hold 71 = .ok (.istore 5, 2) := by decide +kernel
theorem dc_E_hold_73 : decode bc_E_hold 73 = .ok (.aload_n 0, 1) := by decide +kernel
theorem dc_E_hold_74 : decode bc_E_hold 74 = .ok (.getfield 55, 3) := by decide +kernel
theorem dc_E_hold_77 : decode bc_E_hold 77 = .ok (.aload_n 0, 1) := by decide +kernel
theorem dc_E_hold_78 : decode bc_E_hold 78 = .ok (.getfield 20, 3) := by decide +kernel
theorem dc_E_hold_81 : decode bc_E_hold 81 = .ok (.getfield 212, 3) := by decide +kernel
theorem dc_E_hold_84 : decode bc_E_hold 84 = .ok (.iload_n 2, 1) := by decide +kernel
theorem dc_E_hold_85 : decode bc_E_hold 85 = .ok (.iaload, 1) := by decide +kernel
theorem dc_E_hold_86 : decode bc_E_hold 86 = .ok (.aload_n 0, 1) := by decide +kernel
theorem dc_E_hold_87 : decode bc_E_hold 87 = .ok (.getfield 68, 3) := by decide +kernel
theorem dc_E_hold_90 : decode bc_E_hold 90 = .ok (.getfield 299, 3) := by decide +kernel
theorem dc_E_hold_93 : decode bc_E_hold 93 = .ok (.iload 5, 2) := by decide +kernel
theorem dc_E_hold_95 : decode bc_E_hold 95 = .ok (.iaload, 1) := by decide +kernel
theorem dc_E_hold_96 : decode bc_E_hold 96 = .ok (.aload_n 0, 1) := by decide +kernel
theorem dc_E_hold_97 : decode bc_E_hold 97 = .ok (.getfield 68, 3) := by decide +kernel
theorem dc_E_hold_100 : decode bc_E_hold 100 = .ok (.getfield 300, 3) := by decide +kernel
theorem dc_E_hold_103 : decode bc_E_hold 103 = .ok (.iload 5, 2) := by decide +kernel
theorem dc_E_hold_105 : decode bc_E_hold 105 = .ok (.iaload, 1) := by decide +kernel
theorem dc_E_hold_106 : decode bc_E_hold 106 = .ok (.invokevirtual 125, 3) := by decide +kernel
theorem dc_E_hold_109 : decode bc_E_hold 109 = .ok (.pop, 1) := by decide +kernel
theorem dc_E_hold_110 : decode bc_E_hold 110 = .ok (.iinc 4 1, 3) := by decide +kernel
theorem dc_E_hold_113 : decode bc_E_hold 113 = .ok (.goto (-54), 3) := by decide +kernel
theorem dc_E_hold_116 : decode bc_E_hold 116 = .ok (.aload_n 0, 1) := by decide +kernel
theorem dc_E_hold_117 : decode bc_E_hold 117 = .ok (.getfield 68, 3) := by decide +kernel
theorem dc_E_hold_120 : decode bc_E_hold 120 = .ok (.getfield 296, 3) := by decide +kernel
theorem dc_E_hold_123 : decode bc_E_hold 123 = .ok (.iload_n 2, 1) := by decide +kernel
theorem dc_E_hold_124 : decode bc_E_hold 124 = .ok (.iconst 0, 1) := by decide +kernel
theorem dc_E_hold_125 : decode bc_E_hold 125 = .ok (.iastore, 1) := by decide +kernel
theorem dc_E_hold_126 : decode bc_E_hold 126 = .ok (.aload_n 0, 1) := by decide +kernel
theorem dc_E_hold_127 : decode bc_E_hold 127 = .ok (.dup, 1) := by decide +kernel
theorem dc_E_hold_128 : decode bc_E_hold 128 = .ok (.getfield 105, 3) := by decide +kernel
theorem dc_E_hold_131 : decode bc_E_hold 131 = .ok (.iload_n 3, 1) := by decide +kernel
theorem dc_E_hold_132 : decode bc_E_hold 132 = .ok (.isub, 1) := by decide +kernel
theorem dc_E_hold_133 : decode bc_E_hold 133 = .ok (.putfield 105, 3) := by decide +kernel
theorem dc_E_hold_136 : decode bc_E_hold 136 = .ok (.return_, 1) := by decide +kernel
theorem dc_E_gather_0 : decode bc_E_gather 0 = .ok (.aload_n 0, 1) := by decide +kernel
theorem dc_E_gather_1 : decode bc_E_gather 1 = .ok (.getfield 61, 3) := by decide +kernel
theorem dc_E_gather_4 : decode bc_E_gather 4 = .ok (.iload_n 2, 1) := by decide +kernel
theorem dc_E_gather_5 : decode bc_E_gather 5 = .ok (.aload_n 1, 1) := by decide +kernel
theorem dc_E_gather_6 : decode bc_E_gather 6 = .ok (.getfield 186, 3) := by decide +kernel
theorem dc_E_gather_9 : decode bc_E_gather 9 = .ok (.invokevirtual 301, 3) := by decide +kernel
theorem dc_E_gather_12 : decode bc_E_gather 12 = .ok (.istore_n 3, 1) := by decide +kernel
theorem dc_E_gather_13 : decode bc_E_gather 13 = .ok (.iload_n 3, 1) := by decide +kernel
theorem dc_E_gather_14 : decode bc_E_gather 14 = .ok (.iconst (-1), 1) := by decide +kernel
theorem dc_E_gather_15 : decode bc_E_gather 15 = .ok (.if_icmp .ne 30, 3) := by decide +kernel
theorem dc_E_gather_18 : decode bc_E_gather 18 = .ok (.aload_n 0, 1) := by decide +kernel
theorem dc_E_gather_19 : decode bc_E_gather 19 = .ok (.getfield 61, 3) := by decide +kernel
theorem dc_E_gather_22 : decode bc_E_gather 22 = .ok (.iload_n 2, 1) := by decide +kernel
theorem dc_E_gather_23 : decode bc_E_gather 23 = .ok (.aload_n 1, 1) := by decide +kernel
theorem dc_E_gather_24 : decode bc_E_gather 24 = .ok (.getfield 186, 3) := by decide +kernel
theorem dc_E_gather_27 : decode bc_E_gather 27 = .ok (.aload_n 0, 1) := by decide +kernel
theorem dc_E_gather_28 : decode bc_E_gather 28 = .ok (.getfield 148, 3) := by decide +kernel
theorem dc_E_gather_31 : decode bc_E_gather 31 = .ok (.aload_n 0, 1) := by decide +kernel
theorem dc_E_gather_32 : decode bc_E_gather 32 = .ok (.getfield 20, 3) := by decide +kernel
theorem dc_E_gather_35 : decode bc_E_gather 35 = .ok (.getfield 304, 3) := by decide +kernel
theorem dc_E_gather_38 : decode bc_E_gather 38 = .ok (.iload_n 2, 1) := by decide +kernel
theorem dc_E_gather_39 : decode bc_E_gather 39 = .ok (.iaload, 1) := by decide +kernel
theorem dc_E_gather_40 : decode bc_E_gather 40 = .ok (.iadd, 1) := by decide +kernel
theorem dc_E_gather_41 : decode bc_E_gather 41 = .ok (.invokevirtual 307, 3) := by decide +kernel
theorem dc_E_gather_44 : decode bc_E_gather 44 = .ok (.istore_n 3, 1) := by decide +kernel
theorem dc_E_gather_45 : decode bc_E_gather 45 = .ok (.iload_n 3, 1) := by decide +kernel
theorem dc_E_gather_46 : decode bc_E_gather 46 = .ok (.iconst (-1), 1) := by decide +kernel
theorem dc_E_gather_47 : decode bc_E_gather 47 = .ok (.if_icmp .ne 5, 3) := by decide +kernel
theorem dc_E_gather_50 : decode bc_E_gather 50 = .ok (.iconst 5, 1) := by decide +kernel
theorem dc_E_gather_51 : decode bc_E_gather 51 = .ok (.ireturn, 1) := by decide +kernel
theorem dc_E_gather_52 : decode bc_E_gather 52 = .ok (.aload_n 0, 1) := by decide +kernel
theorem dc_E_gather_53 : decode bc_E_gather 53 = .ok (.getfield 61, 3) := by decide +kernel
theorem dc_E_gather_56 : decode bc_E_gather 56 = .ok (.getfield 171, 3) := by decide +kernel
theorem dc_E_gather_59 : decode bc_E_gather 59 = .ok (.iload_n 3, 1) := by decide +kernel
theorem dc_E_gather_60 : decode bc_E_gather 60 = .ok (.dup2, 1) := by decide +kernel
theorem dc_E_gather_61 : decode bc_E_gather 61 = .ok (.iaload, 1) := by decide +kernel
theorem dc_E_gather_62 : decode bc_E_gather 62 = .ok (.aload_n 1, 1) := by decide +kernel
theorem dc_E_gather_63 : decode bc_E_gather 63 = .ok (.getfield 183, 3) := by decide +kernel
theorem dc_E_gather_66 : decode bc_E_gather 66 = .ok (.iadd, 1) := by decide +kernel
theorem dc_E_gather_67 : decode bc_E_gather 67 = .ok (.iastore, 1) := by decide +kernel
theorem dc_E_gather_68 : decode bc_E_gather 68 = .ok (.aload_n 0, 1) := by decide +kernel
theorem dc_E_gather_69 : decode bc_E_gather 69 = .ok (.getfield 61, 3) := by decide +kernel
theorem dc_E_gather_72 : decode bc_E_gather 72 = .ok (.getfield 174, 3) := by decide +kernel
theorem dc_E_gather_75 : decode bc_E_gather 75 = .ok (.iload_n 3, 1) := by decide +kernel
theorem dc_E_gather_76 : decode bc_E_gather 76 = .ok (.dup2, 1) := by decide +kernel
theorem dc_E_gather_77 : decode bc_E_gather 77 = .ok (.iaload, 1) := by decide +kernel
theorem dc_E_gather_78 : decode bc_E_gather 78 = .ok (.iconst 1, 1) := by decide +kernel
theorem dc_E_gather_79 : decode bc_E_gather 79 = .ok (.iadd, 1) := by decide +kernel
theorem dc_E_gather_80 : decode bc_E_gather 80 = .ok (.iastore, 1) := by decide +kernel
theorem dc_E_gather_81 : decode bc_E_gather 81 = .ok (.aload_n 0, 1) := by decide +kernel
theorem dc_E_gather_82 : decode bc_E_gather 82 = .ok (.aload_n 1, 1) := by decide +kernel
theorem dc_E_gather_83 : decode bc_E_gather 83 = .ok (.iconst 3, 1) := by decide +kernel
theorem dc_E_gather_84 : decode bc_E_gather 84 = .ok (.invokevirtual 202, 3) := by decide +kernel
theorem dc_E_gather_87 : decode bc_E_gather 87 = .ok (.aload_n 0, 1) := by decide +kernel
theorem dc_E_gather_88 : decode bc_E_gather 88 = .ok (.getfield 61, 3) := by decide +kernel
theorem dc_E_gather_91 : decode bc_E_gather 91 = .ok (.getfield 174, 3) := by decide +kernel
theorem dc_E_gather_94 : decode bc_E_gather 94 = .ok (.iload_n 3, 1) := by decide +kernel
theorem dc_E_gather_95 : decode bc_E_gather 95 = .ok (.iaload, 1) := by decide +kernel
theorem dc_E_gather_96 : decode bc_E_gather 96 = .ok (.aload_n 0, 1) := by decide +kernel
theorem dc_E_gather_97 : decode bc_E_gather 97 = .ok (.getfield 20, 3) := by decide +kernel
theorem dc_E_gather_100 : decode bc_E_gather 100 = .ok (.getfield 223, 3) := by decide +kernel
theorem dc_E_gather_103 : decode bc_E_gather 103 = .ok (.iload_n 2, 1) := by decide +kernel
theorem dc_E_gather_104 : decode bc_E_gather 104 = .ok (.iaload, 1) := by decide +kernel
theorem dc_E_gather_105 : decode bc_E_gather 105 = .ok (.if_icmp .lt 8, 3) := by decide +kernel
theorem dc_E_gather_108 : decode bc_E_gather 108 = .ok (.aload_n 0, 1) := by decide +kernel
theorem dc_E_gather_109 : decode bc_E_gather 109 = .ok (.iload_n 3, 1) := by decide +kernel
theorem dc_E_gather_110 : decode bc_E_gather 110 = .ok (.invokevirtual 155, 3) := by decide +kernel
theorem dc_E_gather_113 : decode bc_E_gather 113 = .ok (.iconst 0, 1) := by decide +kernel
theorem dc_E_gather_114 : decode bc_E_gather 114 = .ok (.ireturn, 1) := by decide +kernel
theorem dc_E_release_0 : decode bc_E_release 0 = .ok (.aload_n 0, 1) := by decide +kernel
theorem dc_E_release_1 : decode bc_E_release 1 = .ok (.getfield 55, 3) := by decide +kernel
theorem dc_E_release_4 : decode bc_E_release 4 = .ok (.aload_n 0, 1) := by decide +kernel
theorem dc_E_release_5 : decode bc_E_release 5 = .ok (.getfield 20, 3) := by decide +kernel
theorem dc_E_release_8 : decode bc_E_release 8 = .ok (.getfield 212, 3) := by decide +kernel
theorem dc_E_release_11 : decode bc_E_release 11 = .ok (.aload_n 0, 1) := by decide +kernel
theorem dc_E_release_12 : decode bc_E_release 12 = .ok (.getfield 61, 3) := by decide +kernel
theorem dc_E_release_15 : decode bc_E_release 15 = .ok (.getfield 311, 3) := by decide +kernel
theorem dc_E_release_18 : decode bc_E_release 18 = .ok (.iload_n 1, 1) := by decide +kernel
theorem dc_E_release_19 : decode bc_E_release 19 = .ok (.iaload, 1) := by decide +kernel
theorem dc_E_release_20 : decode bc_E_release 20 = .ok (.iaload, 1) := by decide +kernel
theorem dc_E_release_21 : decode bc_E_release 21 = .ok (.aload_n 0, 1) := by decide +kernel
theorem dc_E_release_22 : decode bc_E_release 22 = .ok (.getfield 61, 3) := by decide +kernel
theorem dc_E_release_25 : decode bc_E_release 25 = .ok (.getfield 171, 3) := by decide +kernel
theorem dc_E_release_28 : decode bc_E_release 28 = .ok (.iload_n 1, 1) := by decide +kernel
theorem dc_E_release_29 : decode bc_E_release 29 = .ok (.iaload, 1) := by decide +kernel
theorem dc_E_release_30 : decode bc_E_release 30 = .ok (.aload_n 0, 1) := by decide +kernel
theorem dc_E_release_31 : decode bc_E_release 31 = .ok (.getfield 61, 3) := by decide +kernel
theorem dc_E_release_34 : decode bc_E_release 34 = .ok (.getfield 170, 3) := by decide +kernel
theorem dc_E_release_37 : decode bc_E_release 37 = .ok (.iload_n 1, 1) := by decide +kernel
theorem dc_E_release_38 : decode bc_E_release 38 = .ok (.iaload, 1) := by decide +kernel
theorem dc_E_release_39 : decode bc_E_release 39 = .ok (.invokevirtual 125, 3) := by decide +kernel
theorem dc_E_release_42 : decode bc_E_release 42 = .ok (.pop, 1) := by decide +kernel
theorem dc_E_release_43 : decode bc_E_release 43 = .ok (.aload_n 0, 1) := by decide +kernel
theorem dc_E_release_44 : decode bc_E_release 44 = .ok (.getfield 61, 3) := by decide +kernel
theorem dc_E_release_47 : decode bc_E_release 47 = .ok (.iload_n 1, 1) := by decide +kernel
theorem dc_E_release_48 : decode bc_E_release 48 = .ok (.invokevirtual 312, 3) := by decide +kernel
theorem dc_E_release_51 : decode bc_E_release 51 = .ok (.return_, 1) := by decide +kernel
theorem dc_E_copyToQueue_0 : decode bc_E_copyToQueue 0 = .ok (.aload_n 0, 1) := by decide +kernel
theorem dc_E_copyToQueue_1 : decode bc_E_copyToQueue 1 = .ok (.getfield 51, 3) := by decide +kernel
theorem dc_E_copyToQueue_4 : decode bc_E_copyToQueue 4 = .ok (.iload_n 2, 1) := by decide +kernel
theorem dc_E_copyToQueue_5 : decode bc_E_copyToQueue 5 = .ok (.bipush 41, 2) := by decide +kernel
theorem dc_E_copyToQueue_7 : decode bc_E_copyToQueue 7 = .ok (.imul, 1) := by decide +kernel
theorem dc_E_copyToQueue_8 : decode bc_E_copyToQueue 8 = .ok (.aload_n 1, 1) := by decide +kernel
theorem dc_E_copyToQueue_9 : decode bc_E_copyToQueue 9 = .ok (.getfield 183, 3) := by decide +kernel
theorem dc_E_copyToQueue_12 : decode bc_E_copyToQueue 12 = .ok (.aload_n 1, 1) := by decide +kernel
theorem dc_E_copyToQueue_13 : decode bc_E_copyToQueue 13 = .ok (.getfield 186, 3) := by decide +kernel
theorem dc_E_copyToQueue_16 : decode bc_E_copyToQueue 16 = .ok (.invokevirtual 125, 3) := by decide +kernel
theorem dc_E_copyToQueue_19 : decode bc_E_copyToQueue 19 = .ok (.istore_n 3, 1) := by decide +kernel
theorem dc_E_copyToQueue_20 : decode bc_E_copyToQueue 20 = .ok (.iload_n 3, 1) := by decide +kernel
theorem dc_E_copyToQueue_21 : decode bc_E_copyToQueue 21 = .ok (.ifCond .eq 7, 3) := by decide +kernel
theorem dc_E_copyToQueue_24 : decode bc_E_copyToQueue 24 = .ok (.iconst 0, 1) := by decide +kernel
theorem dc_E_copyToQueue_25 : decode bc_E_copyToQueue 25 = .ok (.goto 5, 3) := by decide +kernel
theorem dc_E_copyToQueue_28 : decode bc_E_copyToQueue 28 = .ok (.bipush 6, 2) := by decide +kernel
theorem dc_E_copyToQueue_30 : decode bc_E_copyToQueue 30 = .ok (.ireturn, 1) := by decide +kernel
theorem dc_E_deliver_0 : decode bc_E_deliver 0 = .ok (.iconst 0, 1) := by decide +kernel
theorem dc_E_deliver_1 : decode bc_E_deliver 1 = .ok (.istore_n 3, 1) := by decide +kernel
theorem dc_E_deliver_2 : decode bc_E_deliver 2 = .ok (.iload_n 3, 1) := by decide +kernel
theorem dc_E_deliver_3 : decode bc_E_deliver 3 = .ok (.iconst 4, 1) := by decide +kernel
theorem dc_E_deliver_4 : decode bc_E_deliver 4 = .ok (.if_icmp .ge 74, 3) := by decide +kernel
theorem dc_E_deliver_7 : decode bc_E_deliver 7 = .ok (.iload_n 2, 1) := by decide +kernel
theorem dc_E_deliver_8 : decode bc_E_deliver 8 = .ok (.iload_n 3, 1) := by decide +kernel
theorem dc_E_deliver_9 : decode bc_E_deliver 9 = .ok (.ishr, 1) := by decide +kernel
theorem dc_E_deliver_10 : decode bc_E_deliver 10 = .ok (.iconst 1, 1) := by decide +kernel
theorem dc_E_deliver_11 : decode bc_E_deliver 11 = .ok (.iand, 1) := by decide +kernel
theorem dc_E_deliver_12 : decode bc_E_deliver 12 = .ok (.ifCond .ne 6, 3) := by decide +kernel
theorem dc_E_deliver_15 : decode bc_E_deliver 15 = .ok (.goto 57, 3) := by decide +kernel
theorem dc_E_deliver_18 : decode bc_E_deliver 18 = .ok (.aload_n 0, 1) := by decide +kernel
theorem dc_E_deliver_19 : decode bc_E_deliver 19 = .ok (.getfield 41, 3) := by decide +kernel
theorem dc_E_deliver_22 : decode bc_E_deliver 22 = .ok (.iload_n 3, 1) := by decide +kernel
theorem dc_E_deliver_23 : decode bc_E_deliver 23 = .ok (.aaload, 1) := by decide +kernel
theorem dc_E_deliver_24 : decode bc_E_deliver 24 = .ok (.getfield 116, 3) := by decide +kernel
theorem dc_E_deliver_27 : decode bc_E_deliver 27 = .ok (.ifCond .le 28, 3) := by decide +kernel
theorem dc_E_deliver_30 : decode bc_E_deliver 30 = .ok (.aload_n 0, 1) := by decide +kernel
theorem dc_E_deliver_31 : decode bc_E_deliver 31 = .ok (.getfield 41, 3) := by decide +kernel
theorem dc_E_deliver_34 : decode bc_E_deliver 34 = .ok (.iload_n 3, 1) := by decide +kernel
theorem dc_E_deliver_35 : decode bc_E_deliver 35 = .ok (.aaload, 1) := by decide +kernel
theorem dc_E_deliver_36 : decode bc_E_deliver 36 = .ok (.dup, 1) := by decide +kernel
theorem dc_E_deliver_37 : decode bc_E_deliver 37 = .ok (.getfield 116, 3) := by decide +kernel
theorem dc_E_deliver_40 : decode bc_E_deliver 40 = .ok (.iconst 1, 1) := by decide +kernel
theorem dc_E_deliver_41 : decode bc_E_deliver 41 = .ok (.isub, 1) := by decide +kernel
theorem dc_E_deliver_42 : decode bc_E_deliver 42 = .ok (.putfield 116, 3) := by decide +kernel
theorem dc_E_deliver_45 : decode bc_E_deliver 45 = .ok (.aload_n 0, 1) := by decide +kernel
theorem dc_E_deliver_46 : decode bc_E_deliver 46 = .ok (.getfield 41, 3) := by decide +kernel
theorem dc_E_deliver_49 : decode bc_E_deliver 49 = .ok (.iload_n 3, 1) := by decide +kernel
theorem dc_E_deliver_50 : decode bc_E_deliver 50 = .ok (.aaload, 1) := by decide +kernel
theorem dc_E_deliver_51 : decode bc_E_deliver 51 = .ok (.getfield 119, 3) := by decide +kernel
theorem dc_E_deliver_54 : decode bc_E_deliver 54 = .ok (.ireturn, 1) := by decide +kernel
theorem dc_E_deliver_55 : decode bc_E_deliver 55 = .ok (.aload_n 0, 1) := by decide +kernel
theorem dc_E_deliver_56 : decode bc_E_deliver 56 = .ok (.getfield 41, 3) := by decide +kernel
theorem dc_E_deliver_59 : decode bc_E_deliver 59 = .ok (.iload_n 3, 1) := by decide +kernel
theorem dc_E_deliver_60 : decode bc_E_deliver 60 = .ok (.aaload, 1) := by decide +kernel
theorem dc_E_deliver_61 : decode bc_E_deliver 61 = .ok (.aload_n 1, 1) := by decide +kernel
theorem dc_E_deliver_62 : decode bc_E_deliver 62 = .ok (.getfield 183, 3) := by decide +kernel
theorem dc_E_deliver_65 : decode bc_E_deliver 65 = .ok (.aload_n 1, 1) := by decide +kernel
theorem dc_E_deliver_66 : decode bc_E_deliver 66 = .ok (.getfield 186, 3) := by decide +kernel
theorem dc_E_deliver_69 : decode bc_E_deliver 69 = .ok (.invokevirtual 272, 3) := by decide +kernel
theorem dc_E_deliver_72 : decode bc_E_deliver 72 = .ok (.iinc 3 1, 3) := by decide +kernel
theorem dc_E_deliver_75 : decode bc_E_deliver 75 = .ok (.goto (-73), 3) := by decide +kernel
theorem dc_E_deliver_78 : decode bc_E_deliver 78 = .ok (.iconst 0, 1) := by decide +kernel
theorem dc_E_deliver_79 : decode bc_E_deliver 79 = .ok (.ireturn, 1) := by decide +kernel
