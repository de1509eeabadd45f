theorem dc_JM_floorMod_0 : decode bc_JM_floorMod 0 = .ok (.iload_n 0, 1) := by decide +kernel
theorem dc_JM_floorMod_1 : decode bc_JM_floorMod 1 = .ok (.iload_n 1, 1) := by decide +kernel
theorem dc_JM_floorMod_2 : decode bc_JM_floorMod 2 = .ok (.irem, 1) := by decide +kernel
theorem dc_JM_floorMod_3 : decode bc_JM_floorMod 3 = .ok (.istore_n 2, 1) := by decide +kernel
theorem dc_JM_floorMod_4 : decode bc_JM_floorMod 4 = .ok (.iload_n 0, 1) := by decide +kernel
theorem dc_JM_floorMod_5 : decode bc_JM_floorMod 5 = .ok (.iload_n 1, 1) := by decide +kernel
theorem dc_JM_floorMod_6 : decode bc_JM_floorMod 6 = .ok (.ixor, 1) := by decide +kernel
theorem dc_JM_floorMod_7 : decode bc_JM_floorMod 7 = .ok (.ifCond .ge 11, 3) := by decide +kernel
theorem dc_JM_floorMod_10 : decode bc_JM_floorMod 10 = .ok (.iload_n 2, 1) := by decide +kernel
theorem dc_JM_floorMod_11 : decode bc_JM_floorMod 11 = .ok (.ifCond .eq 7, 3) := by decide +kernel
theorem dc_JM_floorMod_14 : decode bc_JM_floorMod 14 = .ok (.iload_n 2, 1) := by decide +kernel
theorem dc_JM_floorMod_15 : decode bc_JM_floorMod 15 = .ok (.iload_n 1, 1) := by decide +kernel
theorem dc_JM_floorMod_16 : decode bc_JM_floorMod 16 = .ok (.iadd, 1) := by decide +kernel
theorem dc_JM_floorMod_17 : decode bc_JM_floorMod 17 = .ok (.ireturn, 1) := by decide +kernel
theorem dc_JM_floorMod_18 : decode bc_JM_floorMod 18 = .ok (.iload_n 2, 1) := by decide +kernel
theorem dc_JM_floorMod_19 : decode bc_JM_floorMod 19 = .ok (.ireturn, 1) := by decide +kernel
theorem dc_JM_floorDiv_0 : decode bc_JM_floorDiv 0 = .ok (.iload_n 0, 1) := by decide +kernel
theorem dc_JM_floorDiv_1 : decode bc_JM_floorDiv 1 = .ok (.iload_n 1, 1) := by decide +kernel
theorem dc_JM_floorDiv_2 : decode bc_JM_floorDiv 2 = .ok (.idiv, 1) := by decide +kernel
theorem dc_JM_floorDiv_3 : decode bc_JM_floorDiv 3 = .ok (.istore_n 2, 1) := by decide +kernel
theorem dc_JM_floorDiv_4 : decode bc_JM_floorDiv 4 = .ok (.iload_n 0, 1) := by decide +kernel
theorem dc_JM_floorDiv_5 : decode bc_JM_floorDiv 5 = .ok (.iload_n 1, 1) := by decide +kernel
theorem dc_JM_floorDiv_6 : decode bc_JM_floorDiv 6 = .ok (.ixor, 1) := by decide +kernel
theorem dc_JM_floorDiv_7 : decode bc_JM_floorDiv 7 = .ok (.ifCond .ge 14, 3) := by decide +kernel
theorem dc_JM_floorDiv_10 : decode bc_JM_floorDiv 10 = .ok (.iload_n 2, 1) := by decide +kernel
theorem dc_JM_floorDiv_11 : decode bc_JM_floorDiv 11 = .ok (.iload_n 1, 1) := by decide +kernel
theorem dc_JM_floorDiv_12 : decode bc_JM_floorDiv 12 = .ok (.imul, 1) := by decide +kernel
theorem dc_JM_floorDiv_13 : decode bc_JM_floorDiv 13 = .ok (.iload_n 0, 1) := by decide +kernel
theorem dc_JM_floorDiv_14 : decode bc_JM_floorDiv 14 = .ok (.if_icmp .eq 7, 3) := by decide +kernel
theorem dc_JM_floorDiv_17 : decode bc_JM_floorDiv 17 = .ok (.iload_n 2, 1) := by decide +kernel
theorem dc_JM_floorDiv_18 : decode bc_JM_floorDiv 18 = .ok (.iconst 1, 1) := by decide +kernel
theorem dc_JM_floorDiv_19 : decode bc_JM_floorDiv 19 = .ok (.isub, 1) := by decide +kernel
theorem dc_JM_floorDiv_20 : decode bc_JM_floorDiv 20 = .ok (.ireturn, 1) := by decide +kernel
theorem dc_JM_floorDiv_21 : decode bc_JM_floorDiv 21 = .ok (.iload_n 2, 1) := by decide +kernel
theorem dc_JM_floorDiv_22 : decode bc_JM_floorDiv 22 = .ok (.ireturn, 1) := by decide +kernel
theorem dc_JA_fill_0 : decode bc_JA_fill 0 = .ok (.iconst 0, 1) := by decide +kernel
theorem dc_JA_fill_1 : decode bc_JA_fill 1 = .ok (.istore_n 2, 1) := by decide +kernel
theorem dc_JA_fill_2 : decode bc_JA_fill 2 = .ok (.aload_n 0, 1) := by decide +kernel
theorem dc_JA_fill_3 : decode bc_JA_fill 3 = .ok (.arraylength, 1) := by decide +kernel
theorem dc_JA_fill_4 : decode bc_JA_fill 4 = .ok (.istore_n 3, 1) := by decide +kernel
theorem dc_JA_fill_5 : decode bc_JA_fill 5 = .ok (.iload_n 2, 1) := by decide +kernel
theorem dc_JA_fill_6 : decode bc_JA_fill 6 = .ok (.iload_n 3, 1) := by decide +kernel
theorem dc_JA_fill_7 : decode bc_JA_fill 7 = .ok (.if_icmp .ge 13, 3) := by decide +kernel
theorem dc_JA_fill_10 : decode bc_JA_fill 10 = .ok (.aload_n 0, 1) := by decide +kernel
theorem dc_JA_fill_11 : decode bc_JA_fill 11 = .ok (.iload_n 2, 1) := by decide +kernel
theorem dc_JA_fill_12 : decode bc_JA_fill 12 = .ok (.iload_n 1, 1) := by decide +kernel
theorem dc_JA_fill_13 : decode bc_JA_fill 13 = .ok (.iastore, 1) := by decide +kernel
theorem dc_JA_fill_14 : decode bc_JA_fill 14 = .ok (.iinc 2 1, 3) := by decide +kernel
theorem dc_JA_fill_17 : decode bc_JA_fill 17 = .ok (.goto (-12), 3) := by decide +kernel
theorem dc_JA_fill_20 : decode bc_JA_fill 20 = .ok (.return_, 1) := by decide +kernel
theorem dc_P_at_0 : decode bc_P_at 0 = .ok (.iload_n 1, 1) := by decide +kernel
theorem dc_P_at_1 : decode bc_P_at 1 = .ok (.ifCond .lt 19, 3) := by decide +kernel
theorem dc_P_at_4 : decode bc_P_at 4 = .ok (.iload_n 1, 1) := by decide +kernel
theorem dc_P_at_5 : decode bc_P_at 5 = .ok (.sipush 164, 3) := by decide +kernel
theorem dc_P_at_8 : decode bc_P_at 8 = .ok (.if_icmp .ge 12, 3) := by decide +kernel
theorem dc_P_at_11 : decode bc_P_at 11 = .ok (.aload_n 0, 1) := by decide +kernel
theorem dc_P_at_12 : decode bc_P_at 12 = .ok (.getfield 9, 3) := by decide +kernel
theorem dc_P_at_15 : decode bc_P_at 15 = .ok (.iload_n 1, 1) := by decide +kernel
theorem dc_P_at_16 : decode bc_P_at 16 = .ok (.caload, 1) := by decide +kernel
theorem dc_P_at_17 : decode bc_P_at 17 = .ok (.goto 4, 3) := by decide +kernel
theorem dc_P_at_20 : decode bc_P_at 20 = .ok (.iconst 0, 1) := by decide +kernel
theorem dc_P_at_21 : decode bc_P_at 21 = .ok (.ireturn, 1) := by decide +kernel
theorem dc_P_isStep_0 : decode bc_P_isStep 0 = .ok (.aload_n 0, 1) := by decide +kernel
theorem dc_P_isStep_1 : decode bc_P_isStep 1 = .ok (.iload_n 1, 1) := by decide +kernel
theorem dc_P_isStep_2 : decode bc_P_isStep 2 = .ok (.invokevirtual 31, 3) := by decide +kernel
theorem dc_P_isStep_5 : decode bc_P_isStep 5 = .ok (.ifCond .eq 17, 3) := by decide +kernel
theorem dc_P_isStep_8 : decode bc_P_isStep 8 = .ok (.aload_n 0, 1) := by decide +kernel
theorem dc_P_isStep_9 : decode bc_P_isStep 9 = .ok (.iload_n 1, 1) := by decide +kernel
theorem dc_P_isStep_10 : decode bc_P_isStep 10 = .ok (.invokevirtual 31, 3) := by decide +kernel
theorem dc_P_isStep_13 : decode bc_P_isStep 13 = .ok (.bipush 41, 2) := by decide +kernel
theorem dc_P_isStep_15 : decode bc_P_isStep 15 = .ok (.if_icmp .eq 7, 3) := by decide +kernel
theorem dc_P_isStep_18 : decode bc_P_isStep 18 = .ok (.iconst 1, 1) := by decide +kernel
theorem dc_P_isStep_19 : decode bc_P_isStep 19 = .ok (.goto 4, 3) := by decide +kernel
theorem dc_P_isStep_22 : decode bc_P_isStep 22 = .ok (.iconst 0, 1) := by decide +kernel
theorem dc_P_isStep_23 : decode bc_P_isStep 23 = .ok (.ireturn, 1) := by decide +kernel
theorem dc_P_holds_0 : decode bc_P_holds 0 = .ok (.aload_n 0, 1) := by decide +kernel
theorem dc_P_holds_1 : decode bc_P_holds 1 = .ok (.iload_n 2, 1) := by decide +kernel
theorem dc_P_holds_2 : decode bc_P_holds 2 = .ok (.iconst 1, 1) := by decide +kernel
theorem dc_P_holds_3 : decode bc_P_holds 3 = .ok (.iadd, 1) := by decide +kernel
theorem dc_P_holds_4 : decode bc_P_holds 4 = .ok (.invokevirtual 31, 3) := by decide +kernel
theorem dc_P_holds_7 : decode bc_P_holds 7 = .ok (.bipush 98, 2) := by decide +kernel
theorem dc_P_holds_9 : decode bc_P_holds 9 = .ok (.if_icmp .ne 10, 3) := by decide +kernel
theorem dc_P_holds_12 : decode bc_P_holds 12 = .ok (.aload_n 1, 1) := by decide +kernel
theorem dc_P_holds_13 : decode bc_P_holds 13 = .ok (.getfield 35, 3) := by decide +kernel
theorem dc_P_holds_16 : decode bc_P_holds 16 = .ok (.goto 7, 3) := by decide +kernel
theorem dc_P_holds_19 : decode bc_P_holds 19 = .ok (.aload_n 1, 1) := by decide +kernel
theorem dc_P_holds_20 : decode bc_P_holds 20 = .ok (.getfield 41, 3) := by decide +kernel
theorem dc_P_holds_23 : decode bc_P_holds 23 = .ok (.istore_n 3, 1) := by decide +kernel
theorem dc_P_holds_24 : decode bc_P_holds 24 = .ok (.aload_n 0, 1) := by decide +kernel
theorem dc_P_holds_25 : decode bc_P_holds 25 = .ok (.getfield 15, 3) := by decide +kernel
theorem dc_P_holds_28 : decode bc_P_holds 28 = .ok (.iload_n 2, 1) := by decide +kernel
theorem dc_P_holds_29 : decode bc_P_holds 29 = .ok (.iaload, 1) := by decide +kernel
theorem dc_P_holds_30 : decode bc_P_holds 30 = .ok (.istore 4, 2) := by decide +kernel
theorem dc_P_holds_32 : decode bc_P_holds 32 = .ok (.aload_n 0, 1) := by decide +kernel
theorem dc_P_holds_33 : decode bc_P_holds 33 = .ok (.iload_n 2, 1) := by decide +kernel
theorem dc_P_holds_34 : decode bc_P_holds 34 = .ok (.iconst 2, 1) := by decide +kernel
theorem dc_P_holds_35 : decode bc_P_holds 35 = .ok (.iadd, 1) := by decide +kernel
theorem dc_P_holds_36 : decode bc_P_holds 36 = .ok (.invokevirtual 31, 3) := by decide +kernel
theorem dc_P_holds_39 : decode bc_P_holds 39 = .ok (.tableswitch 61 60 62 #[25, 49, 37], 25) := by decide +kernel
theorem dc_P_holds_64 : decode bc_P_holds 64 = .ok (.iload_n 3, 1) := by decide +kernel
theorem dc_P_holds_65 : decode bc_P_holds 65 = .ok (.iload 4, 2) := by decide +kernel
theorem dc_P_holds_67 : decode bc_P_holds 67 = .ok (.if_icmp .ge 7, 3) := by decide +kernel
theorem dc_P_holds_70 : decode bc_P_holds 70 = .ok (.iconst 1, 1) := by decide +kernel
theorem dc_P_holds_71 : decode bc_P_holds 71 = .ok (.goto 4, 3) := by decide +kernel
theorem dc_P_holds_74 : decode bc_P_holds 74 = .ok (.iconst 0, 1) := by decide +kernel
theorem dc_P_holds_75 : decode bc_P_holds 75 = .ok (.ireturn, 1) := by decide +kernel
theorem dc_P_holds_76 : decode bc_P_holds 76 = .ok (.iload_n 3, 1) := by decide +kernel
theorem dc_P_holds_77 : decode bc_P_holds 77 = .ok (.iload 4, 2) := by decide +kernel
theorem dc_P_holds_79 : decode bc_P_holds 79 = .ok (.if_icmp .le 7, 3) := by decide +kernel
theorem dc_P_holds_82 : decode bc_P_holds 82 = .ok (.iconst 1, 1) := by decide +kernel
theorem dc_P_holds_83 : decode bc_P_holds 83 = .ok (.goto 4, 3) := by decide +kernel
theorem dc_P_holds_86 : decode bc_P_holds 86 = .ok (.iconst 0, 1) := by decide +kernel
theorem dc_P_holds_87 : decode bc_P_holds 87 = .ok (.ireturn, 1) := by decide +kernel
theorem dc_P_holds_88 : decode bc_P_holds 88 = .ok (.iload_n 3, 1) := by decide +kernel
theorem dc_P_holds_89 : decode bc_P_holds 89 = .ok (.iload 4, 2) := by decide +kernel
theorem dc_P_holds_91 : decode bc_P_holds 91 = .ok (.if_icmp .ne 7, 3) := by decide +kernel
theorem dc_P_holds_94 : decode bc_P_holds 94 = .ok (.iconst 1, 1) := by decide +kernel
theorem dc_P_holds_95 : decode bc_P_holds 95 = .ok (.goto 4, 3) := by decide +kernel
theorem dc_P_holds_98 : decode bc_P_holds 98 = .ok (.iconst 0, 1) := by decide +kernel
theorem dc_P_holds_99 : decode bc_P_holds 99 = .ok (.ireturn, 1) := by decide +kernel
theorem dc_P_holds_100 : decode bc_P_holds 100 = .ok (.iload 4, 2) := by decide +kernel
theorem dc_P_holds_102 : decode bc_P_holds 102 = .ok (.ifCond .eq 14, 3) := by decide +kernel
theorem dc_P_holds_105 : decode bc_P_holds 105 = .ok (.iload_n 3, 1) := by decide +kernel
theorem dc_P_holds_106 : decode bc_P_holds 106 = .ok (.iload 4, 2) := by decide +kernel
theorem dc_P_holds_108 : decode bc_P_holds 108 = .ok (.irem, 1) := by decide +kernel
theorem dc_P_holds_109 : decode bc_P_holds 109 = .ok (.ifCond .ne 7, 3) := by decide +kernel
theorem dc_P_holds_112 : decode bc_P_holds 112 = .ok (.iconst 1, 1) := by decide +kernel
theorem dc_P_holds_113 : decode bc_P_holds 113 = .ok (.goto 4, 3) := by decide +kernel
theorem dc_P_holds_116 : decode bc_P_holds 116 = .ok (.iconst 0, 1) := by decide +kernel
theorem dc_P_holds_117 : decode bc_P_holds 117 = .ok (.ireturn, 1) := by decide +kernel
theorem dc_P_listFor_0 : decode bc_P_listFor 0 = .ok (.aload_n 0, 1) := by decide +kernel
theorem dc_P_listFor_1 : decode bc_P_listFor 1 = .ok (.aload_n 1, 1) := by decide +kernel
theorem dc_P_listFor_2 : decode bc_P_listFor 2 = .ok (.iload_n 2, 1) := by decide +kernel
theorem dc_P_listFor_3 : decode bc_P_listFor 3 = .ok (.invokevirtual 44, 3) := by decide +kernel
theorem dc_P_listFor_6 : decode bc_P_listFor 6 = .ok (.ifCond .eq 12, 3) := by decide +kernel
theorem dc_P_listFor_9 : decode bc_P_listFor 9 = .ok (.aload_n 0, 1) := by decide +kernel
theorem dc_P_listFor_10 : decode bc_P_listFor 10 = .ok (.getfield 22, 3) := by decide +kernel
theorem dc_P_listFor_13 : decode bc_P_listFor 13 = .ok (.iload_n 2, 1) := by decide +kernel
theorem dc_P_listFor_14 : decode bc_P_listFor 14 = .ok (.iaload, 1) := by decide +kernel
theorem dc_P_listFor_15 : decode bc_P_listFor 15 = .ok (.goto 9, 3) := by decide +kernel
theorem dc_P_listFor_18 : decode bc_P_listFor 18 = .ok (.aload_n 0, 1) := by decide +kernel
theorem dc_P_listFor_19 : decode bc_P_listFor 19 = .ok (.getfield 25, 3) := by decide +kernel
theorem dc_P_listFor_22 : decode bc_P_listFor 22 = .ok (.iload_n 2, 1) := by decide +kernel
theorem dc_P_listFor_23 : decode bc_P_listFor 23 = .ok (.iaload, 1) := by decide +kernel
theorem dc_P_listFor_24 : decode bc_P_listFor 24 = .ok (.ireturn, 1) := by decide +kernel
theorem dc_P_copyFrom_0 : decode bc_P_copyFrom 0 = .ok (.aload_n 1, 1) := by decide +kernel
theorem dc_P_copyFrom_1 : decode bc_P_copyFrom 1 = .ok (.getfield 9, 3) := by decide +kernel
theorem dc_P_copyFrom_4 : decode bc_P_copyFrom 4 = .ok (.iconst 0, 1) := by decide +kernel
theorem dc_P_copyFrom_5 : decode bc_P_copyFrom 5 = .ok (.aload_n 0, 1) := by decide +kernel
theorem dc_P_copyFrom_6 : decode bc_P_copyFrom 6 = .ok (.getfield 9, 3) := by decide +kernel
theorem dc_P_copyFrom_9 : decode bc_P_copyFrom 9 = .ok (.iconst 0, 1) := by decide +kernel
theorem dc_P_copyFrom_10 : decode bc_P_copyFrom 10 = .ok (.sipush 164, 3) := by decide +kernel
theorem dc_P_copyFrom_13 : decode bc_P_copyFrom 13 = .ok (.invokestatic 48, 3) := by decide +kernel
theorem dc_P_copyFrom_16 : decode bc_P_copyFrom 16 = .ok (.aload_n 1, 1) := by decide +kernel
theorem dc_P_copyFrom_17 : decode bc_P_copyFrom 17 = .ok (.getfield 15, 3) := by decide +kernel
theorem dc_P_copyFrom_20 : decode bc_P_copyFrom 20 = .ok (.iconst 0, 1) := by decide +kernel
theorem dc_P_copyFrom_21 : decode bc_P_copyFrom 21 = .ok (.aload_n 0, 1) := by decide +kernel
theorem dc_P_copyFrom_22 : decode bc_P_copyFrom 22 = .ok (.getfield 15, 3) := by decide +kernel
theorem dc_P_copyFrom_25 : decode bc_P_copyFrom 25 = .ok (.iconst 0, 1) := by decide +kernel
theorem dc_P_copyFrom_26 : decode bc_P_copyFrom 26 = .ok (.sipush 164, 3) := by decide +kernel
theorem dc_P_copyFrom_29 : decode bc_P_copyFrom 29 = .ok (.invokestatic 48, 3) := by decide +kernel
theorem dc_P_copyFrom_32 : decode bc_P_copyFrom 32 = .ok (.aload_n 1, 1) := by decide +kernel
theorem dc_P_copyFrom_33 : decode bc_P_copyFrom 33 = .ok (.getfield 19, 3) := by decide +kernel
theorem dc_P_copyFrom_36 : decode bc_P_copyFrom 36 = .ok (.iconst 0, 1) := by decide +kernel
theorem dc_P_copyFrom_37 : decode bc_P_copyFrom 37 = .ok (.aload_n 0, 1) := by decide +kernel
theorem dc_P_copyFrom_38 : decode bc_P_copyFrom 38 = .ok (.getfield 19, 3) := by decide +kernel
theorem dc_P_copyFrom_41 : decode bc_P_copyFrom 41 = .ok (.iconst 0, 1) := by decide +kernel
theorem dc_P_copyFrom_42 : decode bc_P_copyFrom 42 = .ok (.sipush 164, 3) := by decide +kernel
theorem dc_P_copyFrom_45 : decode bc_P_copyFrom 45 = .ok (.invokestatic 48, 3) := by decide +kernel
theorem dc_P_copyFrom_48 : decode bc_P_copyFrom 48 = .ok (.aload_n 1, 1) := by decide +kernel
theorem dc_P_copyFrom_49 : decode bc_P_copyFrom 49 = .ok (.getfield 22, 3) := by decide +kernel
theorem dc_P_copyFrom_52 : decode bc_P_copyFrom 52 = .ok (.iconst 0, 1) := by decide +kernel
theorem dc_P_copyFrom_53 : decode bc_P_copyFrom 53 = .ok (.aload_n 0, 1) := by decide +kernel
theorem dc_P_copyFrom_54 : decode bc_P_copyFrom 54 = .ok (.getfield 22, 3) := by decide +kernel
theorem dc_P_copyFrom_57 : decode bc_P_copyFrom 57 = .ok (.iconst 0, 1) := by decide +kernel
theorem dc_P_copyFrom_58 : decode bc_P_copyFrom 58 = .ok (.sipush 164, 3) := by decide +kernel
theorem dc_P_copyFrom_61 : decode bc_P_copyFrom 61 = .ok (.invokestatic 48, 3) := by decide +kernel
theorem dc_P_copyFrom_64 : decode bc_P_copyFrom 64 = .ok (.aload_n 1, 1) := by decide +kernel
theorem dc_P_copyFrom_65 : decode bc_P_copyFrom 65 = .ok (.getfield 25, 3) := by decide +kernel
theorem dc_P_copyFrom_68 : decode bc_P_copyFrom 68 = .ok (.iconst 0, 1) := by decide +kernel
theorem dc_P_copyFrom_69 : decode bc_P_copyFrom 69 = .ok (.aload_n 0, 1) := by decide +kernel
theorem dc_P_copyFrom_70 : decode bc_P_copyFrom 70 = .ok (.getfield 25, 3) := by decide +kernel
theorem dc_P_copyFrom_73 : decode bc_P_copyFrom 73 = .ok (.iconst 0, 1) := by decide +kernel
theorem dc_P_copyFrom_74 : decode bc_P_copyFrom 74 = .ok (.sipush 164, 3) := by decide +kernel
theorem dc_P_copyFrom_77 : decode bc_P_copyFrom 77 = .ok (.invokestatic 48, 3) := by decide +kernel
theorem dc_P_copyFrom_80 : decode bc_P_copyFrom 80 = .ok (.aload_n 1, 1) := by decide +kernel
theorem dc_P_copyFrom_81 : decode bc_P_copyFrom 81 = .ok (.getfield 28, 3) := by decide +kernel
theorem dc_P_copyFrom_84 : decode bc_P_copyFrom 84 = .ok (.iconst 0, 1) := by decide +kernel
theorem dc_P_copyFrom_85 : decode bc_P_copyFrom 85 = .ok (.aload_n 0, 1) := by decide +kernel
theorem dc_P_copyFrom_86 : decode bc_P_copyFrom 86 = .ok (.getfield 28, 3) := by decide +kernel
theorem dc_P_copyFrom_89 : decode bc_P_copyFrom 89 = .ok (.iconst 0, 1) := by decide +kernel
theorem dc_P_copyFrom_90 : decode bc_P_copyFrom 90 = .ok (.sipush 164, 3) := by decide +kernel
theorem dc_P_copyFrom_93 : decode bc_P_copyFrom 93 = .ok (.invokestatic 48, 3) := by decide +kernel
theorem dc_P_copyFrom_96 : decode bc_P_copyFrom 96 = .ok (.return_, 1) := by decide +kernel
theorem dc_L_add_0 : decode bc_L_add 0 = .ok (.aload_n 0, 1) := by decide +kernel
theorem dc_L_add_1 : decode bc_L_add 1 = .ok (.getfield 29, 3) := by decide +kernel
theorem dc_L_add_4 : decode bc_L_add 4 = .ok (.aload_n 0, 1) := by decide +kernel
theorem dc_L_add_5 : decode bc_L_add 5 = .ok (.getfield 13, 3) := by decide +kernel
theorem dc_L_add_8 : decode bc_L_add 8 = .ok (.if_icmp .lt 5, 3) := by decide +kernel
theorem dc_L_add_11 : decode bc_L_add 11 = .ok (.iconst 0, 1) := by decide +kernel
theorem dc_L_add_12 : decode bc_L_add 12 = .ok (.ireturn, 1) := by decide +kernel
theorem dc_L_add_13 : decode bc_L_add 13 = .ok (.aload_n 0, 1) := by decide +kernel
theorem dc_L_add_14 : decode bc_L_add 14 = .ok (.getfield 32, 3) := by decide +kernel
theorem dc_L_add_17 : decode bc_L_add 17 = .ok (.aload_n 0, 1) := by decide +kernel
theorem dc_L_add_18 : decode bc_L_add 18 = .ok (.getfield 29, 3) := by decide +kernel
theorem dc_L_add_21 : decode bc_L_add 21 = .ok (.iadd, 1) := by decide +kernel
theorem dc_L_add_22 : decode bc_L_add 22 = .ok (.aload_n 0, 1) := by decide +kernel
theorem dc_L_add_23 : decode bc_L_add 23 = .ok (.getfield 13, 3) := by decide +kernel
theorem dc_L_add_26 : decode bc_L_add 26 = .ok (.irem, 1) := by decide +kernel
theorem dc_L_add_27 : decode bc_L_add 27 = .ok (.istore 4, 2) := by decide +kernel
theorem dc_L_add_29 : decode bc_L_add 29 = .ok (.aload_n 0, 1) := by decide +kernel
theorem dc_L_add_30 : decode bc_L_add 30 = .ok (.getfield 19, 3) := by decide +kernel
theorem dc_L_add_33 : decode bc_L_add 33 = .ok (.iload 4, 2) := by decide +kernel
theorem dc_L_add_35 : decode bc_L_add 35 = .ok (.iload_n 1, 1) := by decide +kernel
theorem dc_L_add_36 : decode bc_L_add 36 = .ok (.iastore, 1) := by decide +kernel
theorem dc_L_add_37 : decode bc_L_add 37 = .ok (.aload_n 0, 1) := by decide +kernel
theorem dc_L_add_38 : decode bc_L_add 38 = .ok (.getfield 23, 3) := by decide +kernel
theorem dc_L_add_41 : decode bc_L_add 41 = .ok (.iload 4, 2) := by decide +kernel
theorem dc_L_add_43 : decode bc_L_add 43 = .ok (.iload_n 2, 1) := by decide +kernel
theorem dc_L_add_44 : decode bc_L_add 44 = .ok (.iastore, 1) := by decide +kernel
theorem dc_L_add_45 : decode bc_L_add 45 = .ok (.aload_n 0, 1) := by decide +kernel
theorem dc_L_add_46 : decode bc_L_add 46 = .ok (.getfield 26, 3) := by decide +kernel
theorem dc_L_add_49 : decode bc_L_add 49 = .ok (.iload 4, 2) := by decide +kernel
theorem dc_L_add_51 : decode bc_L_add 51 = .ok (.iload_n 3, 1) := by decide +kernel
theorem dc_L_add_52 : decode bc_L_add 52 = .ok (.iastore, 1) := by decide +kernel
theorem dc_L_add_53 : decode bc_L_add 53 = .ok (.aload_n 0, 1) := by decide +kernel
theorem dc_L_add_54 : decode bc_L_add 54 = .ok (.dup, 1) := by decide +kernel
theorem dc_L_add_55 : decode bc_L_add 55 = .ok (.getfield 29, 3) := by decide +kernel
theorem dc_L_add_58 : decode bc_L_add 58 = .ok (.iconst 1, 1) := by decide +kernel
theorem dc_L_add_59 : decode bc_L_add 59 = .ok (.iadd, 1) := by decide +kernel
theorem dc_L_add_60 : decode bc_L_add 60 = .ok (.putfield 29, 3) := by decide +kernel
theorem dc_L_add_63 : decode bc_L_add 63 = .ok (.iconst 1, 1) := by decide +kernel
theorem dc_L_add_64 : decode bc_L_add 64 = .ok (.ireturn, 1) := by decide +kernel
theorem dc_L_dropFirst_0 : decode bc_L_dropFirst 0 = .ok (.aload_n 0, 1) := by decide +kernel
theorem dc_L_dropFirst_1 : decode bc_L_dropFirst 1 = .ok (.getfield 29, 3) := by decide +kernel
theorem dc_L_dropFirst_4 : decode bc_L_dropFirst 4 = .ok (.ifCond .le 28, 3) := by decide +kernel
theorem dc_L_dropFirst_7 : decode bc_L_dropFirst 7 = .ok (.aload_n 0, 1) := by decide +kernel
theorem dc_L_dropFirst_8 : decode bc_L_dropFirst 8 = .ok (.aload_n 0, 1) := by decide +kernel
theorem dc_L_dropFirst_9 : decode bc_L_dropFirst 9 = .ok (.getfield 32, 3) := by decide +kernel
theorem dc_L_dropFirst_12 : decode bc_L_dropFirst 12 = .ok (.iconst 1, 1) := by decide +kernel
theorem dc_L_dropFirst_13 : decode bc_L_dropFirst 13 = .ok (.iadd, 1) := by decide +kernel
theorem dc_L_dropFirst_14 : decode bc_L_dropFirst 14 = .ok (.aload_n 0, 1) := by decide +kernel
theorem dc_L_dropFirst_15 : decode bc_L_dropFirst 15 = .ok (.getfield 13, 3) := by decide +kernel
theorem dc_L_dropFirst_18 : decode bc_L_dropFirst 18 = .ok (.irem, 1) := by decide +kernel
theorem dc_L_dropFirst_19 : decode bc_L_dropFirst 19 = .ok (.putfield 32, 3) := by decide +kernel
theorem dc_L_dropFirst_22 : decode bc_L_dropFirst 22 = .ok (.aload_n 0, 1) := by decide +kernel
theorem dc_L_dropFirst_23 : decode bc_L_dropFirst 23 = .ok (.dup, 1) := by decide +kernel
theorem dc_L_dropFirst_24 : decode bc_L_dropFirst 24 = .ok (.getfield 29, 3) := by decide +kernel
theorem dc_L_dropFirst_27 : decode bc_L_dropFirst 27 = .ok (.iconst 1, 1) := by decide +kernel
theorem dc_L_dropFirst_28 : decode bc_L_dropFirst 28 = .ok (.isub, 1) := by decide +kernel
theorem dc_L_dropFirst_29 : decode bc_L_dropFirst 29 = .ok (.putfield 29, 3) := by decide +kernel
theorem dc_L_dropFirst_32 : decode bc_L_dropFirst 32 = .ok (.return_, 1) := by decide +kernel
theorem dc_L_empty_0 : decode bc_L_empty 0 = .ok (.aload_n 0, 1) := by decide +kernel
theorem dc_L_empty_1 : decode bc_L_empty 1 = .ok (.iconst 0, 1) := by decide +kernel
theorem dc_L_empty_2 : decode bc_L_empty 2 = .ok (.putfield 29, 3) := by decide +kernel
theorem dc_L_empty_5 : decode bc_L_empty 5 = .ok (.return_, 1) := by decide +kernel
theorem dc_C_add_0 : decode bc_C_add 0 = .ok (.aload_n 0, 1) := by decide +kernel
theorem dc_C_add_1 : decode bc_C_add 1 = .ok (.getfield 28, 3) := by decide +kernel
theorem dc_C_add_4 : decode bc_C_add 4 = .ok (.iconst 4, 1) := by decide +kernel
theorem dc_C_add_5 : decode bc_C_add 5 = .ok (.if_icmp .lt 5, 3) := by decide +kernel
theorem dc_C_add_8 : decode bc_C_add 8 = .ok (.iconst 0, 1) := by decide +kernel
theorem dc_C_add_9 : decode bc_C_add 9 = .ok (.ireturn, 1) := by decide +kernel
theorem dc_C_add_10 : decode bc_C_add 10 = .ok (.aload_n 0, 1) := by decide +kernel
theorem dc_C_add_11 : decode bc_C_add 11 = .ok (.getfield 9, 3) := by decide +kernel
theorem dc_C_add_14 : decode bc_C_add 14 = .ok (.aload_n 0, 1) := by decide +kernel
theorem dc_C_add_15 : decode bc_C_add 15 = .ok (.getfield 28, 3) := by decide +kernel
theorem dc_C_add_18 : decode bc_C_add 18 = .ok (.iload_n 1, 1) := by decide +kernel
theorem dc_C_add_19 : decode bc_C_add 19 = .ok (.iastore, 1) := by decide +kernel
theorem dc_C_add_20 : decode bc_C_add 20 = .ok (.aload_n 0, 1) := by decide +kernel
theorem dc_C_add_21 : decode bc_C_add 21 = .ok (.getfield 15, 3) := by decide +kernel
theorem dc_C_add_24 : decode bc_C_add 24 = .ok (.aload_n 0, 1) := by decide +kernel
theorem dc_C_add_25 : decode bc_C_add 25 = .ok (.getfield 28, 3) := by decide +kernel
theorem dc_C_add_28 : decode bc_C_add 28 = .ok (.iload_n 2, 1) := by decide +kernel
theorem dc_C_add_29 : decode bc_C_add 29 = .ok (.iastore, 1) := by decide +kernel
theorem dc_C_add_30 : decode bc_C_add 30 = .ok (.aload_n 0, 1) := by decide +kernel
theorem dc_C_add_31 : decode bc_C_add 31 = .ok (.getfield 18, 3) := by decide +kernel
theorem dc_C_add_34 : decode bc_C_add 34 = .ok (.aload_n 0, 1) := by decide +kernel
theorem dc_C_add_35 : decode bc_C_add 35 = .ok (.getfield 28, 3) := by decide +kernel
theorem dc_C_add_38 : decode bc_C_add 38 = .ok (.iload_n 3, 1) := by decide +kernel
theorem dc_C_add_39 : decode bc_C_add 39 = .ok (.iastore, 1) := by decide +kernel
theorem dc_C_add_40 : decode bc_C_add 40 = .ok (.aload_n 0, 1) := by decide +kernel
theorem dc_C_add_41 : decode bc_C_add 41 = .ok (.getfield 21, 3) := by decide +kernel
theorem dc_C_add_44 : decode bc_C_add 44 = .ok (.aload_n 0, 1) := by decide +kernel
theorem dc_C_add_45 : decode bc_C_add 45 = .ok (.getfield 28, 3) := by decide +kernel
theorem dc_C_add_48 : decode bc_C_add 48 = .ok (.iload 4, 2) := by decide +kernel
theorem dc_C_add_50 : decode bc_C_add 50 = .ok (.bastore, 1) := by decide +kernel
theorem dc_C_add_51 : decode bc_C_add 51 = .ok (.aload_n 0, 1) := by decide +kernel
theorem dc_C_add_52 : decode bc_C_add 52 = .ok (.getfield 25, 3) := by decide +kernel
theorem dc_C_add_55 : decode bc_C_add 55 = .ok (.aload_n 0, 1) := by decide +kernel
theorem dc_C_add_56 : decode bc_C_add 56 = .ok (.getfield 28, 3) := by decide +kernel
theorem dc_C_add_59 : decode bc_C_add 59 = .ok (.iload 5, 2) := by decide +kernel
theorem dc_C_add_61 : decode bc_C_add 61 = .ok (.bastore, 1) := by decide +kernel
theorem dc_C_add_62 : decode bc_C_add 62 = .ok (.aload_n 0, 1) := by decide +kernel
theorem dc_C_add_63 : decode bc_C_add 63 = .ok (.dup, 1) := by decide +kernel
theorem dc_C_add_64 : decode bc_C_add 64 = .ok (.getfield 28, 3) := by decide +kernel
theorem dc_C_add_67 : decode bc_C_add 67 = .ok (.iconst 1, 1) := by decide +kernel
theorem dc_C_add_68 : decode bc_C_add 68 = .ok (.iadd, 1) := by decide +kernel
theorem dc_C_add_69 : decode bc_C_add 69 = .ok (.putfield 28, 3) := by decide +kernel
theorem dc_C_add_72 : decode bc_C_add 72 = .ok (.iconst 1, 1) := by decide +kernel
theorem dc_C_add_73 : decode bc_C_add 73 = .ok (.ireturn, 1) := by decide +kernel
theorem dc_C_firstFor_0 : decode bc_C_firstFor 0 = .ok (.iconst 0, 1) := by decide +kernel
theorem dc_C_firstFor_1 : decode bc_C_firstFor 1 = .ok (.istore_n 2, 1) := by decide +kernel
theorem dc_C_firstFor_2 : decode bc_C_firstFor 2 = .ok (.iload_n 2, 1) := by decide +kernel
theorem dc_C_firstFor_3 : decode bc_C_firstFor 3 = .ok (.aload_n 0, 1) := by decide +kernel
theorem dc_C_firstFor_4 : decode bc_C_firstFor 4 = .ok (.getfield 28, 3) := by decide +kernel
theorem dc_C_firstFor_7 : decode bc_C_firstFor 7 = .ok (.if_icmp .ge 45, 3) := by decide +kernel
theorem dc_C_firstFor_10 : decode bc_C_firstFor 10 = .ok (.aload_n 0, 1) := by decide +kernel
theorem dc_C_firstFor_11 : decode bc_C_firstFor 11 = .ok (.getfield 9, 3) := by decide +kernel
theorem dc_C_firstFor_14 : decode bc_C_firstFor 14 = .ok (.iload_n 2, 1) := by decide +kernel
theorem dc_C_firstFor_15 : decode bc_C_firstFor 15 = .ok (.iaload, 1) := by decide +kernel
theorem dc_C_firstFor_16 : decode bc_C_firstFor 16 = .ok (.iload_n 1, 1) := by decide +kernel
theorem dc_C_firstFor_17 : decode bc_C_firstFor 17 = .ok (.if_icmp .eq 27, 3) := by decide +kernel
theorem dc_C_firstFor_20 : decode bc_C_firstFor 20 = .ok (.aload_n 0, 1) := by decide +kernel
theorem dc_C_firstFor_21 : decode bc_C_firstFor 21 = .ok (.getfield 9, 3) := by decide +kernel
theorem dc_C_firstFor_24 : decode bc_C_firstFor 24 = .ok (.iload_n 2, 1) := by decide +kernel
theorem dc_C_firstFor_25 : decode bc_C_firstFor 25 = .ok (.iaload, 1) := by decide +kernel
theorem dc_C_firstFor_26 : decode bc_C_firstFor 26 = .ok (.iload_n 1, 1) := by decide +kernel
theorem dc_C_firstFor_27 : decode bc_C_firstFor 27 = .ok (.iconst 2, 1) := by decide +kernel
theorem dc_C_firstFor_28 : decode bc_C_firstFor 28 = .ok (.idiv, 1) := by decide +kernel
theorem dc_C_firstFor_29 : decode bc_C_firstFor 29 = .ok (.if_icmp .eq 15, 3) := by decide +kernel
theorem dc_C_firstFor_32 : decode bc_C_firstFor 32 = .ok (.aload_n 0, 1) := by decide +kernel
theorem dc_C_firstFor_33 : decode bc_C_firstFor 33 = .ok (.getfield 9, 3) := by decide +kernel
theorem dc_C_firstFor_36 : decode bc_C_firstFor 36 = .ok (.iload_n 2, 1) := by decide +kernel
theorem dc_C_firstFor_37 : decode bc_C_firstFor 37 = .ok (.iaload, 1) := by decide +kernel
theorem dc_C_firstFor_38 : decode bc_C_firstFor 38 = .ok (.iload_n 1, 1) := by decide +kernel
theorem dc_C_firstFor_39 : decode bc_C_firstFor 39 = .ok (.iconst 4, 1) := by decide +kernel
theorem dc_C_firstFor_40 : decode bc_C_firstFor 40 = .ok (.idiv, 1) := by decide +kernel
theorem dc_C_firstFor_41 : decode bc_C_firstFor 41 = .ok (.if_icmp .ne 5, 3) := by decide +kernel
theorem dc_C_firstFor_44 : decode bc_C_firstFor 44 = .ok (.iload_n 2, 1) := by decide +kernel
theorem dc_C_firstFor_45 : decode bc_C_firstFor 45 = .ok (.ireturn, 1) := by decide +kernel
theorem dc_C_firstFor_46 : decode bc_C_firstFor 46 = .ok (.iinc 2 1, 3) := by decide +kernel
theorem dc_C_firstFor_49 : decode bc_C_firstFor 49 = .ok (.goto (-47), 3) := by decide +kernel
theorem dc_C_firstFor_52 : decode bc_C_firstFor 52 = .ok (.iconst (-1), 1) := by decide +kernel
theorem dc_C_firstFor_53 : decode bc_C_firstFor 53 = .ok (.ireturn, 1) := by decide +kernel
theorem dc_G_find_0 : decode bc_G_find 0 = .ok (.iconst 0, 1) := by decide +kernel
theorem dc_G_find_1 : decode bc_G_find 1 = .ok (.istore_n 3, 1) := by decide +kernel
theorem dc_G_find_2 : decode bc_G_find 2 = .ok (.iload_n 3, 1) := by decide +kernel
theorem dc_G_find_3 : decode bc_G_find 3 = .ok (.aload_n 0, 1) := by decide +kernel
theorem dc_G_find_4 : decode bc_G_find 4 = .ok (.getfield 27, 3) := by decide +kernel
theorem dc_G_find_7 : decode bc_G_find 7 = .ok (.if_icmp .ge 31, 3) := by decide +kernel
theorem dc_G_find_10 : decode bc_G_find 10 = .ok (.aload_n 0, 1) := by decide +kernel
theorem dc_G_find_11 : decode bc_G_find 11 = .ok (.getfield 9, 3) := by decide +kernel
theorem dc_G_find_14 : decode bc_G_find 14 = .ok (.iload_n 3, 1) := by decide +kernel
theorem dc_G_find_15 : decode bc_G_find 15 = .ok (.iaload, 1) := by decide +kernel
theorem dc_G_find_16 : decode bc_G_find 16 = .ok (.iload_n 1, 1) := by decide +kernel
theorem dc_G_find_17 : decode bc_G_find 17 = .ok (.if_icmp .ne 15, 3) := by decide +kernel
theorem dc_G_find_20 : decode bc_G_find 20 = .ok (.aload_n 0, 1) := by decide +kernel
theorem dc_G_find_21 : decode bc_G_find 21 = .ok (.getfield 15, 3) := by decide +kernel
theorem dc_G_find_24 : decode bc_G_find 24 = .ok (.iload_n 3, 1) := by decide +kernel
theorem dc_G_find_25 : decode bc_G_find 25 = .ok (.iaload, 1) := by decide +kernel
theorem dc_G_find_26 : decode bc_G_find 26 = .ok (.iload_n 2, 1) := by decide +kernel
theorem dc_G_find_27 : decode bc_G_find 27 = .ok (.if_icmp .ne 5, 3) := by decide +kernel
theorem dc_G_find_30 : decode bc_G_find 30 = .ok (.iload_n 3, 1) := by decide +kernel
theorem dc_G_find_31 : decode bc_G_find 31 = .ok (.ireturn, 1) := by decide +kernel
theorem dc_G_find_32 : decode bc_G_find 32 = .ok (.iinc 3 1, 3) := by decide +kernel
theorem dc_G_find_35 : decode bc_G_find 35 = .ok (.goto (-33), 3) := by decide +kernel
theorem dc_G_find_38 : decode bc_G_find 38 = .ok (.iconst (-1), 1) := by decide +kernel
theorem dc_G_find_39 : decode bc_G_find 39 = .ok (.ireturn, 1) := by decide +kernel
theorem dc_G_firstDue_0 : decode bc_G_firstDue 0 = .ok (.iconst 0, 1) := by decide +kernel
theorem dc_G_firstDue_1 : decode bc_G_firstDue 1 = .ok (.istore_n 2, 1) := by decide +kernel
theorem dc_G_firstDue_2 : decode bc_G_firstDue 2 = .ok (.iload_n 2, 1) := by decide +kernel
theorem dc_G_firstDue_3 : decode bc_G_firstDue 3 = .ok (.aload_n 0, 1) := by decide +kernel
theorem dc_G_firstDue_4 : decode bc_G_firstDue 4 = .ok (.getfield 27, 3) := by decide +kernel
theorem dc_G_firstDue_7 : decode bc_G_firstDue 7 = .ok (.if_icmp .ge 21, 3) := by decide +kernel
theorem dc_G_firstDue_10 : decode bc_G_firstDue 10 = .ok (.aload_n 0, 1) := by decide +kernel
theorem dc_G_firstDue_11 : decode bc_G_firstDue 11 = .ok (.getfield 24, 3) := by decide +kernel
theorem dc_G_firstDue_14 : decode bc_G_firstDue 14 = .ok (.iload_n 2, 1) := by decide +kernel
theorem dc_G_firstDue_15 : decode bc_G_firstDue 15 = .ok (.iaload, 1) := by decide +kernel
theorem dc_G_firstDue_16 : decode bc_G_firstDue 16 = .ok (.iload_n 1, 1) := by decide +kernel
theorem dc_G_firstDue_17 : decode bc_G_firstDue 17 = .ok (.if_icmp .gt 5, 3) := by decide +kernel
theorem dc_G_firstDue_20 : decode bc_G_firstDue 20 = .ok (.iload_n 2, 1) := by decide +kernel
theorem dc_G_firstDue_21 : decode bc_G_firstDue 21 = .ok (.ireturn, 1) := by decide +kernel
theorem dc_G_firstDue_22 : decode bc_G_firstDue 22 = .ok (.iinc 2 1, 3) := by decide +kernel
theorem dc_G_firstDue_25 : decode bc_G_firstDue 25 = .ok (.goto (-23), 3) := by decide +kernel
theorem dc_G_firstDue_28 : decode bc_G_firstDue 28 = .ok (.iconst (-1), 1) := by decide +kernel
theorem dc_G_firstDue_29 : decode bc_G_firstDue 29 = .ok (.ireturn, 1) := by decide +kernel
theorem dc_G_open_0 : decode bc_G_open 0 = .ok (.aload_n 0, 1) := by decide +kernel
theorem dc_G_open_1 : decode bc_G_open 1 = .ok (.getfield 27, 3) := by decide +kernel
theorem dc_G_open_4 : decode bc_G_open 4 = .ok (.bipush 120, 2) := by decide +kernel
theorem dc_G_open_6 : decode bc_G_open 6 = .ok (.if_icmp .ge 12, 3) := by decide +kernel
theorem dc_G_open_9 : decode bc_G_open 9 = .ok (.aload_n 0, 1) := by decide +kernel
theorem dc_G_open_10 : decode bc_G_open 10 = .ok (.iload_n 1, 1) := by decide +kernel
theorem dc_G_open_11 : decode bc_G_open 11 = .ok (.invokevirtual 31, 3) := by decide +kernel
theorem dc_G_open_14 : decode bc_G_open 14 = .ok (.iconst 3, 1) := by decide +kernel
theorem dc_G_open_15 : decode bc_G_open 15 = .ok (.if_icmp .lt 5, 3) := by decide +kernel
theorem dc_G_open_18 : decode bc_G_open 18 = .ok (.iconst (-1), 1) := by decide +kernel
theorem dc_G_open_19 : decode bc_G_open 19 = .ok (.ireturn, 1) := by decide +kernel
theorem dc_G_open_20 : decode bc_G_open 20 = .ok (.aload_n 0, 1) := by decide +kernel
theorem dc_G_open_21 : decode bc_G_open 21 = .ok (.getfield 9, 3) := by decide +kernel
theorem dc_G_open_24 : decode bc_G_open 24 = .ok (.aload_n 0, 1) := by decide +kernel
theorem dc_G_open_25 : decode bc_G_open 25 = .ok (.getfield 27, 3) := by decide +kernel
theorem dc_G_open_28 : decode bc_G_open 28 = .ok (.iload_n 1, 1) := by decide +kernel
theorem dc_G_open_29 : decode bc_G_open 29 = .ok (.iastore, 1) := by decide +kernel
theorem dc_G_open_30 : decode bc_G_open 30 = .ok (.aload_n 0, 1) := by decide +kernel
theorem dc_G_open_31 : decode bc_G_open 31 = .ok (.getfield 15, 3) := by decide +kernel
theorem dc_G_open_34 : decode bc_G_open 34 = .ok (.aload_n 0, 1) := by decide +kernel
theorem dc_G_open_35 : decode bc_G_open 35 = .ok (.getfield 27, 3) := by decide +kernel
theorem dc_G_open_38 : decode bc_G_open 38 = .ok (.iload_n 2, 1) := by decide +kernel
theorem dc_G_open_39 : decode bc_G_open 39 = .ok (.iastore, 1) := by decide +kernel
theorem dc_G_open_40 : decode bc_G_open 40 = .ok (.aload_n 0, 1) := by decide +kernel
theorem dc_G_open_41 : decode bc_G_open 41 = .ok (.getfield 18, 3) := by decide +kernel
theorem dc_G_open_44 : decode bc_G_open 44 = .ok (.aload_n 0, 1) := by decide +kernel
theorem dc_G_open_45 : decode bc_G_open 45 = .ok (.getfield 27, 3) := by decide +kernel
theorem dc_G_open_48 : decode bc_G_open 48 = .ok (.iconst 0, 1) := by decide +kernel
theorem dc_G_open_49 : decode bc_G_open 49 = .ok (.iastore, 1) := by decide +kernel
theorem dc_G_open_50 : decode bc_G_open 50 = .ok (.aload_n 0, 1) := by decide +kernel
theorem dc_G_open_51 : decode bc_G_open 51 = .ok (.getfield 21, 3) := by decide +kernel
theorem dc_G_open_54 : decode bc_G_open 54 = .ok (.aload_n 0, 1) := by decide +kernel
theorem dc_G_open_55 : decode bc_G_open 55 = .ok (.getfield 27, 3) := by decide +kernel
theorem dc_G_open_58 : decode bc_G_open 58 = .ok (.iconst 0, 1) := by decide +kernel
theorem dc_G_open_59 : decode bc_G_open 59 = .ok (.iastore, 1) := by decide +kernel
theorem dc_G_open_60 : decode bc_G_open 60 = .ok (.aload_n 0, 1) := by decide +kernel
theorem dc_G_open_61 : decode bc_G_open 61 = .ok (.getfield 24, 3) := by decide +kernel
theorem dc_G_open_64 : decode bc_G_open 64 = .ok (.aload_n 0, 1) := by decide +kernel
theorem dc_G_open_65 : decode bc_G_open 65 = .ok (.getfield 27, 3) := by decide +kernel
theorem dc_G_open_68 : decode bc_G_open 68 = .ok (.iload_n 3, 1) := by decide +kernel
theorem dc_G_open_69 : decode bc_G_open 69 = .ok (.iastore, 1) := by decide +kernel
theorem dc_G_open_70 : decode bc_G_open 70 = .ok (.aload_n 0, 1) := by decide +kernel
theorem dc_G_open_71 : decode bc_G_open 71 = .ok (.dup, 1) := by decide +kernel
theorem dc_G_open_72 : decode bc_G_open 72 = .ok (.getfield 27, 3) := by decide +kernel
theorem dc_G_open_75 : decode bc_G_open 75 = .ok (.iconst 1, 1) := by decide +kernel
theorem dc_G_open_76 : decode bc_G_open 76 = .ok (.iadd, 1) := by decide +kernel
theorem dc_G_open_77 : decode bc_G_open 77 = .ok (.putfield 27, 3) := by decide +kernel
theorem dc_G_open_80 : decode bc_G_open 80 = .ok (.aload_n 0, 1) := by decide +kernel
theorem dc_G_open_81 : decode bc_G_open 81 = .ok (.getfield 27, 3) := by decide +kernel
theorem dc_G_open_84 : decode bc_G_open 84 = .ok (.iconst 1, 1) := by decide +kernel
theorem dc_G_open_85 : decode bc_G_open 85 = .ok (.isub, 1) := by decide +kernel
theorem dc_G_open_86 : decode bc_G_open 86 = .ok (.ireturn, 1) := by decide +kernel
theorem dc_G_openOf_0 : decode bc_G_openOf 0 = .ok (.iconst 0, 1) := by decide +kernel
theorem dc_G_openOf_1 : decode bc_G_openOf 1 = .ok (.istore_n 2, 1) := by decide +kernel
theorem dc_G_openOf_2 : decode bc_G_openOf 2 = .ok (.iconst 0, 1) := by decide +kernel
theorem dc_G_openOf_3 : decode bc_G_openOf 3 = .ok (.istore_n 3, 1) := by decide +kernel
theorem dc_G_openOf_4 : decode bc_G_openOf 4 = .ok (.iload_n 3, 1) := by decide +kernel
theorem dc_G_openOf_5 : decode bc_G_openOf 5 = .ok (.aload_n 0, 1) := by decide +kernel
theorem dc_G_openOf_6 : decode bc_G_openOf 6 = .ok (.getfield 27, 3) := by decide +kernel
theorem dc_G_openOf_9 : decode bc_G_openOf 9 = .ok (.if_icmp .ge 22, 3) := by decide +kernel
theorem dc_G_openOf_12 : decode bc_G_openOf 12 = .ok (.aload_n 0, 1) := by decide +kernel
theorem dc_G_openOf_13 : decode bc_G_openOf 13 = .ok (.getfield 9, 3) := by decide +kernel
theorem dc_G_openOf_16 : decode bc_G_openOf 16 = .ok (.iload_n 3, 1) := by decide +kernel
theorem dc_G_openOf_17 : decode bc_G_openOf 17 = .ok (.iaload, 1) := by decide +kernel
theorem dc_G_openOf_18 : decode bc_G_openOf 18 = .ok (.iload_n 1, 1) := by decide +kernel
theorem dc_G_openOf_19 : decode bc_G_openOf 19 = .ok (.if_icmp .ne 6, 3) := by decide +kernel
theorem dc_G_openOf_22 : decode bc_G_openOf 22 = .ok (.iinc 2 1, 3) := by decide +kernel
theorem dc_G_openOf_25 : decode bc_G_openOf 25 = .ok (.iinc 3 1, 3) := by decide +kernel
theorem dc_G_openOf_28 : decode bc_G_openOf 28 = .ok (.goto (-24), 3) := by decide +kernel
theorem dc_G_openOf_31 : decode bc_G_openOf 31 = .ok (.iload_n 2, 1) := by decide +kernel
theorem dc_G_openOf_32 : decode bc_G_openOf 32 = .ok (.ireturn, 1) := by decide +kernel
theorem dc_G_remove_0 : decode bc_G_remove 0 = .ok (.iload_n 1, 1) := by decide +kernel
theorem dc_G_remove_1 : decode bc_G_remove 1 = .ok (.ifCond .lt 11, 3) := by decide +kernel
theorem dc_G_remove_4 : decode bc_G_remove 4 = .ok (.iload_n 1, 1) := by decide +kernel
theorem dc_G_remove_5 : decode bc_G_remove 5 = .ok (.aload_n 0, 1) := by decide +kernel
theorem dc_G_remove_6 : decode bc_G_remove 6 = .ok (.getfield 27, 3) := by decide +kernel
theorem dc_G_remove_9 : decode bc_G_remove 9 = .ok (.if_icmp .lt 4, 3) := by decide +kernel
theorem dc_G_remove_12 : decode bc_G_remove 12 = .ok (.return_, 1) := by decide +kernel
theorem dc_G_remove_13 : decode bc_G_remove 13 = .ok (.iload_n 1, 1) := by decide +kernel
theorem dc_G_remove_14 : decode bc_G_remove 14 = .ok (.istore_n 2, 1) := by decide +kernel
theorem dc_G_remove_15 : decode bc_G_remove 15 = .ok (.iload_n 2, 1) := by decide +kernel
theorem dc_G_remove_16 : decode bc_G_remove 16 = .ok (.aload_n 0, 1) := by decide +kernel
theorem dc_G_remove_17 : decode bc_G_remove 17 = .ok (.getfield 27, 3) := by decide +kernel
theorem dc_G_remove_20 : decode bc_G_remove 20 = .ok (.iconst 1, 1) := by decide +kernel
theorem dc_G_remove_21 : decode bc_G_remove 21 = .ok (.isub, 1) := by decide +kernel
theorem dc_G_remove_22 : decode bc_G_remove 22 = .ok (.if_icmp .ge 79, 3) := by decide +kernel
theorem dc_G_remove_25 : decode bc_G_remove 25 = .ok (.aload_n 0, 1) := by decide +kernel
theorem dc_G_remove_26 : decode bc_G_remove 26 = .ok (.getfield 9, 3) := by decide +kernel
theorem dc_G_remove_29 : decode bc_G_remove 29 = .ok (.iload_n 2, 1) := by decide +kernel
theorem dc_G_remove_30 : decode bc_G_remove 30 = .ok (.aload_n 0, 1) := by decide +kernel
theorem dc_G_remove_31 : decode bc_G_remove 31 = .ok (.getfield 9, 3) := by decide +kernel
theorem dc_G_remove_34 : decode bc_G_remove 34 = .ok (.iload_n 2, 1) := by decide +kernel
theorem dc_G_remove_35 : decode bc_G_remove 35 = .ok (.iconst 1, 1) := by decide +kernel
theorem dc_G_remove_36 : decode bc_G_remove 36 = .ok (.iadd, 1) := by decide +kernel
theorem dc_G_remove_37 : decode bc_G_remove 37 = .ok (.iaload, 1) := by decide +kernel
theorem dc_G_remove_38 : decode bc_G_remove 38 = .ok (.iastore, 1) := by decide +kernel
theorem dc_G_remove_39 : decode bc_G_remove 39 = .ok (.aload_n 0, 1) := by decide +kernel
theorem dc_G_remove_40 : decode bc_G_remove 40 = .ok (.getfield 15, 3) := by decide +kernel
theorem dc_G_remove_43 : decode bc_G_remove 43 = .ok (.iload_n 2, 1) := by decide +kernel
theorem dc_G_remove_44 : decode bc_G_remove 44 = .ok (.aload_n 0, 1) := by decide +kernel
theorem dc_G_remove_45 : decode bc_G_remove 45 = .ok (.getfield 15, 3) := by decide +kernel
theorem dc_G_remove_48 : decode bc_G_remove 48 = .ok (.iload_n 2, 1) := by decide +kernel
theorem dc_G_remove_49 : decode bc_G_remove 49 = .ok (.iconst 1, 1) := by decide +kernel
theorem dc_G_remove_50 : decode bc_G_remove 50 = .ok (.iadd, 1) := by decide +kernel
theorem dc_G_remove_51 : decode bc_G_remove 51 = .ok (.iaload, 1) := by decide +kernel
theorem dc_G_remove_52 : decode bc_G_remove 52 = .ok (.iastore, 1) := by decide +kernel
theorem dc_G_remove_53 : decode bc_G_remove 53 = .ok (.aload_n 0, 1) := by decide +kernel
theorem dc_G_remove_54 : decode bc_G_remove 54 = .ok (.getfield 18, 3) := by decide +kernel
theorem dc_G_remove_57 : decode bc_G_remove 57 = .ok (.iload_n 2, 1) := by decide +kernel
theorem dc_G_remove_58 : decode bc_G_remove 58 = .ok (.aload_n 0, 1) := by decide +kernel
theorem dc_G_remove_59 : decode bc_G_remove 59 = .ok (.getfield 18, 3) := by decide +kernel
theorem dc_G_remove_62 : decode bc_G_remove 62 = .ok (.iload_n 2, 1) := by decide +kernel
theorem dc_G_remove_63 : decode bc_G_remove 63 = .ok (.iconst 1, 1) := by decide +kernel
theorem dc_G_remove_64 : decode bc_G_remove 64 = .ok (.iadd, 1) := by decide +kernel
theorem dc_G_remove_65 : decode bc_G_remove 65 = .ok (.iaload, 1) := by decide +kernel
theorem dc_G_remove_66 : decode bc_G_remove 66 = .ok (.iastore, 1) := by decide +kernel
theorem dc_G_remove_67 : decode bc_G_remove 67 = .ok (.aload_n 0, 1) := by decide +kernel
theorem dc_G_remove_68 : decode bc_G_remove 68 = .ok (.getfield 21, 3) := by decide +kernel
theorem dc_G_remove_71 : decode bc_G_remove 71 = .ok (.iload_n 2, 1) := by decide +kernel
theorem dc_G_remove_72 : decode bc_G_remove 72 = .ok (.aload_n 0, 1) := by decide +kernel
theorem dc_G_remove_73 : decode bc_G_remove 73 = .ok (.getfield 21, 3) := by decide +kernel
theorem dc_G_remove_76 : decode bc_G_remove 76 = .ok (.iload_n 2, 1) := by decide +kernel
theorem dc_G_remove_77 : decode bc_G_remove 77 = .ok (.iconst 1, 1) := by decide +kernel
theorem dc_G_remove_78 : decode bc_G_remove 78 = .ok (.iadd, 1) := by decide +kernel
theorem dc_G_remove_79 : decode bc_G_remove 79 = .ok (.iaload, 1) := by decide +kernel
theorem dc_G_remove_80 : decode bc_G_remove 80 = .ok (.iastore, 1) := by decide +kernel
theorem dc_G_remove_81 : decode bc_G_remove 81 = .ok (.aload_n 0, 1) := by decide +kernel
theorem dc_G_remove_82 : decode bc_G_remove 82 = .ok (.getfield 24, 3) := by decide +kernel
theorem dc_G_remove_85 : decode bc_G_remove 85 = .ok (.iload_n 2, 1) := by decide +kernel
theorem dc_G_remove_86 : decode bc_G_remove 86 = .ok (.aload_n 0, 1) := by decide +kernel
theorem dc_G_remove_87 : decode bc_G_remove 87 = .ok (.getfield 24, 3) := by decide +kernel
theorem dc_G_remove_90 : decode bc_G_remove 90 = .ok (.iload_n 2, 1) := by decide +kernel
theorem dc_G_remove_91 : decode bc_G_remove 91 = .ok (.iconst 1, 1) := by decide +kernel
theorem dc_G_remove_92 : decode bc_G_remove 92 = .ok (.iadd, 1) := by decide +kernel
theorem dc_G_remove_93 : decode bc_G_remove 93 = .ok (.iaload, 1) := by decide +kernel
theorem dc_G_remove_94 : decode bc_G_remove 94 = .ok (.iastore, 1) := by decide +kernel
theorem dc_G_remove_95 : decode bc_G_remove 95 = .ok (.iinc 2 1, 3) := by decide +kernel
theorem dc_G_remove_98 : decode bc_G_remove 98 = .ok (.goto (-83), 3) := by decide +kernel
theorem dc_G_remove_101 : decode bc_G_remove 101 = .ok (.aload_n 0, 1) := by decide +kernel
theorem dc_G_remove_102 : decode bc_G_remove 102 = .ok (.dup, 1) := by decide +kernel
theorem dc_G_remove_103 : decode bc_G_remove 103 = .ok (.getfield 27, 3) := by decide +kernel
theorem dc_G_remove_106 : decode bc_G_remove 106 = .ok (.iconst 1, 1) := by decide +kernel
theorem dc_G_remove_107 : decode bc_G_remove 107 = .ok (.isub, 1) := by decide +kernel
theorem dc_G_remove_108 : decode bc_G_remove 108 = .ok (.putfield 27, 3) := by decide +kernel
theorem dc_G_remove_111 : decode bc_G_remove 111 = .ok (.return_, 1) := by decide +kernel
theorem dc_K_empty_0 : decode bc_K_empty 0 = .ok (.aload_n 0, 1) := by decide +kernel
theorem dc_K_empty_1 : decode bc_K_empty 1 = .ok (.getfield 9, 3) := by decide +kernel
theorem dc_K_empty_4 : decode bc_K_empty 4 = .ok (.iconst 0, 1) := by decide +kernel
theorem dc_K_empty_5 : decode bc_K_empty 5 = .ok (.invokestatic 21, 3) := by decide +kernel
theorem dc_K_empty_8 : decode bc_K_empty 8 = .ok (.return_, 1) := by decide +kernel
theorem dc_K_has_0 : decode bc_K_has 0 = .ok (.iload_n 1, 1) := by decide +kernel
theorem dc_K_has_1 : decode bc_K_has 1 = .ok (.iconst 4, 1) := by decide +kernel
theorem dc_K_has_2 : decode bc_K_has 2 = .ok (.imul, 1) := by decide +kernel
theorem dc_K_has_3 : decode bc_K_has 3 = .ok (.istore_n 3, 1) := by decide +kernel
theorem dc_K_has_4 : decode bc_K_has 4 = .ok (.iconst 0, 1) := by decide +kernel
theorem dc_K_has_5 : decode bc_K_has 5 = .ok (.istore 4, 2) := by decide +kernel
theorem dc_K_has_7 : decode bc_K_has 7 = .ok (.iload 4, 2) := by decide +kernel
theorem dc_K_has_9 : decode bc_K_has 9 = .ok (.aload_n 0, 1) := by decide +kernel
theorem dc_K_has_10 : decode bc_K_has 10 = .ok (.getfield 9, 3) := by decide +kernel
theorem dc_K_has_13 : decode bc_K_has 13 = .ok (.iload_n 1, 1) := by decide +kernel
theorem dc_K_has_14 : decode bc_K_has 14 = .ok (.iaload, 1) := by decide +kernel
theorem dc_K_has_15 : decode bc_K_has 15 = .ok (.if_icmp .ge 24, 3) := by decide +kernel
theorem dc_K_has_18 : decode bc_K_has 18 = .ok (.aload_n 0, 1) := by decide +kernel
theorem dc_K_has_19 : decode bc_K_has 19 = .ok (.getfield 18, 3) := by decide +kernel
theorem dc_K_has_22 : decode bc_K_has 22 = .ok (.iload_n 3, 1) := by decide +kernel
theorem dc_K_has_23 : decode bc_K_has 23 = .ok (.iload 4, 2) := by decide +kernel
theorem dc_K_has_25 : decode bc_K_has 25 = .ok (.iadd, 1) := by decide +kernel
theorem dc_K_has_26 : decode bc_K_has 26 = .ok (.iaload, 1) := by decide +kernel
theorem dc_K_has_27 : decode bc_K_has 27 = .ok (.iload_n 2, 1) := by decide +kernel
theorem dc_K_has_28 : decode bc_K_has 28 = .ok (.if_icmp .ne 5, 3) := by decide +kernel
theorem dc_K_has_31 : decode bc_K_has 31 = .ok (.iconst 1, 1) := by decide +kernel
theorem dc_K_has_32 : decode bc_K_has 32 = .ok (.ireturn, 1) := by decide +kernel
theorem dc_K_has_33 : decode bc_K_has 33 = .ok (.iinc 4 1, 3) := by decide +kernel
theorem dc_K_has_36 : decode bc_K_has 36 = .ok (.goto (-29), 3) := by decide +kernel
theorem dc_K_has_39 : decode bc_K_has 39 = .ok (.iconst 0, 1) := by decide +kernel
theorem dc_K_has_40 : decode bc_K_has 40 = .ok (.ireturn, 1) := by decide +kernel
theorem dc_K_addLatest_0 : decode bc_K_addLatest 0 = .ok (.iload_n 1, 1) := by decide +kernel
theorem dc_K_addLatest_1 : decode bc_K_addLatest 1 = .ok (.iconst 4, 1) := by decide +kernel
theorem dc_K_addLatest_2 : decode bc_K_addLatest 2 = .ok (.imul, 1) := by decide +kernel
theorem dc_K_addLatest_3 : decode bc_K_addLatest 3 = .ok (.istore_n 3, 1) := by decide +kernel
theorem dc_K_addLatest_4 : decode bc_K_addLatest 4 = .ok (.aload_n 0, 1) := by decide +kernel
theorem dc_K_addLatest_5 : decode bc_K_addLatest 5 = .ok (.getfield 9, 3) := by decide +kernel
theorem dc_K_addLatest_8 : decode bc_K_addLatest 8 = .ok (.iload_n 1, 1) := by decide +kernel
theorem dc_K_addLatest_9 : decode bc_K_addLatest 9 = .ok (.iaload, 1) := by decide +kernel
theorem dc_K_addLatest_10 : decode bc_K_addLatest 10 = .ok (.iconst 4, 1) := by decide +kernel
theorem dc_K_addLatest_11 : decode bc_K_addLatest 11 = .ok (.if_icmp .lt 26, 3) := by decide +kernel
theorem dc_K_addLatest_14 : decode bc_K_addLatest 14 = .ok (.aload_n 0, 1) := by decide +kernel
theorem dc_K_addLatest_15 : decode bc_K_addLatest 15 = .ok (.getfield 18, 3) := by decide +kernel
theorem dc_K_addLatest_18 : decode bc_K_addLatest 18 = .ok (.iload_n 3, 1) := by decide +kernel
theorem dc_K_addLatest_19 : decode bc_K_addLatest 19 = .ok (.iconst 1, 1) := by decide +kernel
theorem dc_K_addLatest_20 : decode bc_K_addLatest 20 = .ok (.iadd, 1) := by decide +kernel
theorem dc_K_addLatest_21 : decode bc_K_addLatest 21 = .ok (.aload_n 0, 1) := by decide +kernel
theorem dc_K_addLatest_22 : decode bc_K_addLatest 22 = .ok (.getfield 18, 3) := by decide +kernel
theorem dc_K_addLatest_25 : decode bc_K_addLatest 25 = .ok (.iload_n 3, 1) := by decide +kernel
theorem dc_K_addLatest_26 : decode bc_K_addLatest 26 = .ok (.iconst 3, 1) := by decide +kernel
theorem dc_K_addLatest_27 : decode bc_K_addLatest 27 = .ok (.invokestatic 27, 3) := by decide +kernel
theorem dc_K_addLatest_30 : decode bc_K_addLatest 30 = .ok (.aload_n 0, 1) := by decide +kernel
theorem dc_K_addLatest_31 : decode bc_K_addLatest 31 = .ok (.getfield 9, 3) := by decide +kernel
theorem dc_K_addLatest_34 : decode bc_K_addLatest 34 = .ok (.iload_n 1, 1) := by decide +kernel
theorem dc_K_addLatest_35 : decode bc_K_addLatest 35 = .ok (.iconst 3, 1) := by decide +kernel
theorem dc_K_addLatest_36 : decode bc_K_addLatest 36 = .ok (.iastore, 1) := by decide +kernel
theorem dc_K_addLatest_37 : decode bc_K_addLatest 37 = .ok (.aload_n 0, 1) := by decide +kernel
theorem dc_K_addLatest_38 : decode bc_K_addLatest 38 = .ok (.getfield 18, 3) := by decide +kernel
theorem dc_K_addLatest_41 : decode bc_K_addLatest 41 = .ok (.iload_n 3, 1) := by decide +kernel
theorem dc_K_addLatest_42 : decode bc_K_addLatest 42 = .ok (.aload_n 0, 1) := by decide +kernel
theorem dc_K_addLatest_43 : decode bc_K_addLatest 43 = .ok (.getfield 9, 3) := by decide +kernel
theorem dc_K_addLatest_46 : decode bc_K_addLatest 46 = .ok (.iload_n 1, 1) := by decide +kernel
theorem dc_K_addLatest_47 : decode bc_K_addLatest 47 = .ok (.iaload, 1) := by decide +kernel
theorem dc_K_addLatest_48 : decode bc_K_addLatest 48 = .ok (.iadd, 1) := by decide +kernel
theorem dc_K_addLatest_49 : decode bc_K_addLatest 49 = .ok (.iload_n 2, 1) := by decide +kernel
theorem dc_K_addLatest_50 : decode bc_K_addLatest 50 = .ok (.iastore, 1) := by decide +kernel
theorem dc_K_addLatest_51 : decode bc_K_addLatest 51 = .ok (.aload_n 0, 1) := by decide +kernel
theorem dc_K_addLatest_52 : decode bc_K_addLatest 52 = .ok (.getfield 9, 3) := by decide +kernel
theorem dc_K_addLatest_55 : decode bc_K_addLatest 55 = .ok (.iload_n 1, 1) := by decide +kernel
theorem dc_K_addLatest_56 : decode bc_K_addLatest 56 = .ok (.dup2, 1) := by decide +kernel
theorem dc_K_addLatest_57 : decode bc_K_addLatest 57 = .ok (.iaload, 1) := by decide +kernel
theorem dc_K_addLatest_58 : decode bc_K_addLatest 58 = .ok (.iconst 1, 1) := by decide +kernel
theorem dc_K_addLatest_59 : decode bc_K_addLatest 59 = .ok (.iadd, 1) := by decide +kernel
theorem dc_K_addLatest_60 : decode bc_K_addLatest 60 = .ok (.iastore, 1) := by decide +kernel
theorem dc_K_addLatest_61 : decode bc_K_addLatest 61 = .ok (.return_, 1) := by decide +kernel
theorem dc_K_addInOrder_0 : decode bc_K_addInOrder 0 = .ok (.aload_n 0, 1) := by decide +kernel
theorem dc_K_addInOrder_1 : decode bc_K_addInOrder 1 = .ok (.getfield 9, 3) := by decide +kernel
theorem dc_K_addInOrder_4 : decode bc_K_addInOrder 4 = .ok (.iload_n 1, 1) := by decide +kernel
theorem dc_K_addInOrder_5 : decode bc_K_addInOrder 5 = .ok (.iaload, 1) := by decide +kernel
theorem dc_K_addInOrder_6 : decode bc_K_addInOrder 6 = .ok (.iconst 4, 1) := by decide +kernel
theorem dc_K_addInOrder_7 : decode bc_K_addInOrder 7 = .ok (.if_icmp .lt 4, 3) := by decide +kernel
theorem dc_K_addInOrder_10 : decode bc_K_addInOrder 10 = .ok (.return_, 1) := by decide +kernel
theorem dc_K_addInOrder_11 : decode bc_K_addInOrder 11 = .ok (.iload_n 1, 1) := by decide +kernel
theorem dc_K_addInOrder_12 : decode bc_K_addInOrder 12 = .ok (.iconst 4, 1) := by decide +kernel
theorem dc_K_addInOrder_13 : decode bc_K_addInOrder 13 = .ok (.imul, 1) := by decide +kernel
theorem dc_K_addInOrder_14 : decode bc_K_addInOrder 14 = .ok (.istore 4, 2) := by decide +kernel
theorem dc_K_addInOrder_16 : decode bc_K_addInOrder 16 = .ok (.iload 4, 2) := by decide +kernel
theorem dc_K_addInOrder_18 : decode bc_K_addInOrder 18 = .ok (.aload_n 0, 1) := by decide +kernel
theorem dc_K_addInOrder_19 : decode bc_K_addInOrder 19 = .ok (.getfield 9, 3) := by decide +kernel
theorem dc_K_addInOrder_22 : decode bc_K_addInOrder 22 = .ok (.iload_n 1, 1) := by decide +kernel
theorem dc_K_addInOrder_23 : decode bc_K_addInOrder 23 = .ok (.iaload, 1) := by decide +kernel
theorem dc_K_addInOrder_24 : decode bc_K_addInOrder 24 = .ok (.iadd, 1) := by decide +kernel
theorem dc_K_addInOrder_25 : decode bc_K_addInOrder 25 = .ok (.istore 5, 2) := by decide +kernel
theorem dc_K_addInOrder_27 : decode bc_K_addInOrder 27 = .ok (.iload 5, 2) := by decide +kernel
theorem dc_K_addInOrder_29 : decode bc_K_addInOrder 29 = .ok (.iload 4, 2) := by decide +kernel
theorem dc_K_addInOrder_31 : decode bc_K_addInOrder 31 = .ok (.if_icmp .le 54, 3) := by decide +kernel
theorem dc_K_addInOrder_34 : decode bc_K_addInOrder 34 = .ok (.aload_n 0, 1) := by decide +kernel
theorem dc_K_addInOrder_35 : decode bc_K_addInOrder 35 = .ok (.getfield 18, 3) := by decide +kernel
theorem dc_K_addInOrder_38 : decode bc_K_addInOrder 38 = .ok (.iload 5, 2) := by decide +kernel
theorem dc_K_addInOrder_40 : decode bc_K_addInOrder 40 = .ok (.iconst 1, 1) := by decide +kernel
theorem dc_K_addInOrder_41 : decode bc_K_addInOrder 41 = .ok (.isub, 1) := by decide +kernel
theorem dc_K_addInOrder_42 : decode bc_K_addInOrder 42 = .ok (.iaload, 1) := by decide +kernel
theorem dc_K_addInOrder_43 : decode bc_K_addInOrder 43 = .ok (.iload_n 3, 1) := by decide +kernel
theorem dc_K_addInOrder_44 : decode bc_K_addInOrder 44 = .ok (.if_icmp .le 41, 3) := by decide +kernel
theorem dc_K_addInOrder_47 : decode bc_K_addInOrder 47 = .ok (.aload_n 0, 1) := by decide +kernel
theorem dc_K_addInOrder_48 : decode bc_K_addInOrder 48 = .ok (.getfield 15, 3) := by decide +kernel
theorem dc_K_addInOrder_51 : decode bc_K_addInOrder 51 = .ok (.iload 5, 2) := by decide +kernel
theorem dc_K_addInOrder_53 : decode bc_K_addInOrder 53 = .ok (.aload_n 0, 1) := by decide +kernel
theorem dc_K_addInOrder_54 : decode bc_K_addInOrder 54 = .ok (.getfield 15, 3) := by decide +kernel
theorem dc_K_addInOrder_57 : decode bc_K_addInOrder 57 = .ok (.iload 5, 2) := by decide +kernel
theorem dc_K_addInOrder_59 : decode bc_K_addInOrder 59 = .ok (.iconst 1, 1) := by decide +kernel
theorem dc_K_addInOrder_60 : decode bc_K_addInOrder 60 = .ok (.isub, 1) := by decide +kernel
theorem dc_K_addInOrder_61 : decode bc_K_addInOrder 61 = .ok (.iaload, 1) := by decide +kernel
theorem dc_K_addInOrder_62 : decode bc_K_addInOrder 62 = .ok (.iastore, 1) := by decide +kernel
theorem dc_K_addInOrder_63 : decode bc_K_addInOrder 63 = .ok (.aload_n 0, 1) := by decide +kernel
theorem dc_K_addInOrder_64 : decode bc_K_addInOrder 64 = .ok (.getfield 18, 3) := by decide +kernel
theorem dc_K_addInOrder_67 : decode bc_K_addInOrder 67 = .ok (.iload 5, 2) := by decide +kernel
theorem dc_K_addInOrder_69 : decode bc_K_addInOrder 69 = .ok (.aload_n 0, 1) := by decide +kernel
theorem dc_K_addInOrder_70 : decode bc_K_addInOrder 70 = .ok (.getfield 18, 3) := by decide +kernel
theorem dc_K_addInOrder_73 : decode bc_K_addInOrder 73 = .ok (.iload 5, 2) := by decide +kernel
theorem dc_K_addInOrder_75 : decode bc_K_addInOrder 75 = .ok (.iconst 1, 1) := by decide +kernel
theorem dc_K_addInOrder_76 : decode bc_K_addInOrder 76 = .ok (.isub, 1) := by decide +kernel
theorem dc_K_addInOrder_77 : decode bc_K_addInOrder 77 = .ok (.iaload, 1) := by decide +kernel
theorem dc_K_addInOrder_78 : decode bc_K_addInOrder 78 = .ok (.iastore, 1) := by decide +kernel
theorem dc_K_addInOrder_79 : decode bc_K_addInOrder 79 = .ok (.iinc 5 (-1), 3) := by decide +kernel
theorem dc_K_addInOrder_82 : decode bc_K_addInOrder 82 = .ok (.goto (-55), 3) := by decide +kernel
theorem dc_K_addInOrder_85 : decode bc_K_addInOrder 85 = .ok (.aload_n 0, 1) := by decide +kernel
theorem dc_K_addInOrder_86 : decode bc_K_addInOrder 86 = .ok (.getfield 15, 3) := by decide +kernel
theorem dc_K_addInOrder_89 : decode bc_K_addInOrder 89 = .ok (.iload 5, 2) := by decide +kernel
theorem dc_K_addInOrder_91 : decode bc_K_addInOrder 91 = .ok (.iload_n 2, 1) := by decide +kernel
theorem dc_K_addInOrder_92 : decode bc_K_addInOrder 92 = .ok (.iastore, 1) := by decide +kernel
theorem dc_K_addInOrder_93 : decode bc_K_addInOrder 93 = .ok (.aload_n 0, 1) := by decide +kernel
theorem dc_K_addInOrder_94 : decode bc_K_addInOrder 94 = .ok (.getfield 18, 3) := by decide +kernel
theorem dc_K_addInOrder_97 : decode bc_K_addInOrder 97 = .ok (.iload 5, 2) := by decide +kernel
theorem dc_K_addInOrder_99 : decode bc_K_addInOrder 99 = .ok (.iload_n 3, 1) := by decide +kernel
theorem dc_K_addInOrder_100 : decode bc_K_addInOrder 100 = .ok (.iastore, 1) := by decide +kernel
theorem dc_K_addInOrder_101 : decode bc_K_addInOrder 101 = .ok (.aload_n 0, 1) := by decide +kernel
theorem dc_K_addInOrder_102 : decode bc_K_addInOrder 102 = .ok (.getfield 9, 3) := by decide +kernel
theorem dc_K_addInOrder_105 : decode bc_K_addInOrder 105 = .ok (.iload_n 1, 1) := by decide +kernel
theorem dc_K_addInOrder_106 : decode bc_K_addInOrder 106 = .ok (.dup2, 1) := by decide +kernel
theorem dc_K_addInOrder_107 : decode bc_K_addInOrder 107 = .ok (.iaload, 1) := by decide +kernel
theorem dc_K_addInOrder_108 : decode bc_K_addInOrder 108 = .ok (.iconst 1, 1) := by decide +kernel
theorem dc_K_addInOrder_109 : decode bc_K_addInOrder 109 = .ok (.iadd, 1) := by decide +kernel
theorem dc_K_addInOrder_110 : decode bc_K_addInOrder 110 = .ok (.iastore, 1) := by decide +kernel
theorem dc_K_addInOrder_111 : decode bc_K_addInOrder 111 = .ok (.return_, 1) := by decide +kernel
theorem dc_N_accept_0 : decode bc_N_accept 0 = .ok (.aload_n 0, 1) := by decide +kernel
theorem dc_N_accept_1 : decode bc_N_accept 1 = .ok (.getfield 18, 3) := by decide +kernel
theorem dc_N_accept_4 : decode bc_N_accept 4 = .ok (.bipush 8, 2) := by decide +kernel
theorem dc_N_accept_6 : decode bc_N_accept 6 = .ok (.invokestatic 22, 3) := by decide +kernel
theorem dc_N_accept_9 : decode bc_N_accept 9 = .ok (.istore_n 3, 1) := by decide +kernel
theorem dc_N_accept_10 : decode bc_N_accept 10 = .ok (.aload_n 0, 1) := by decide +kernel
theorem dc_N_accept_11 : decode bc_N_accept 11 = .ok (.getfield 9, 3) := by decide +kernel
theorem dc_N_accept_14 : decode bc_N_accept 14 = .ok (.iload_n 3, 1) := by decide +kernel
theorem dc_N_accept_15 : decode bc_N_accept 15 = .ok (.iload_n 1, 1) := by decide +kernel
theorem dc_N_accept_16 : decode bc_N_accept 16 = .ok (.iastore, 1) := by decide +kernel
theorem dc_N_accept_17 : decode bc_N_accept 17 = .ok (.aload_n 0, 1) := by decide +kernel
theorem dc_N_accept_18 : decode bc_N_accept 18 = .ok (.getfield 15, 3) := by decide +kernel
theorem dc_N_accept_21 : decode bc_N_accept 21 = .ok (.iload_n 3, 1) := by decide +kernel
theorem dc_N_accept_22 : decode bc_N_accept 22 = .ok (.iload_n 2, 1) := by decide +kernel
theorem dc_N_accept_23 : decode bc_N_accept 23 = .ok (.iastore, 1) := by decide +kernel
theorem dc_N_accept_24 : decode bc_N_accept 24 = .ok (.aload_n 0, 1) := by decide +kernel
theorem dc_N_accept_25 : decode bc_N_accept 25 = .ok (.dup, 1) := by decide +kernel
theorem dc_N_accept_26 : decode bc_N_accept 26 = .ok (.getfield 18, 3) := by decide +kernel
theorem dc_N_accept_29 : decode bc_N_accept 29 = .ok (.iconst 1, 1) := by decide +kernel
theorem dc_N_accept_30 : decode bc_N_accept 30 = .ok (.iadd, 1) := by decide +kernel
theorem dc_N_accept_31 : decode bc_N_accept 31 = .ok (.putfield 18, 3) := by decide +kernel
theorem dc_N_accept_34 : decode bc_N_accept 34 = .ok (.return_, 1) := by decide +kernel
theorem dc_N_slotBefore_0 : decode bc_N_slotBefore 0 = .ok (.aload_n 0, 1) := by decide +kernel
theorem dc_N_slotBefore_1 : decode bc_N_slotBefore 1 = .ok (.getfield 18, 3) := by decide +kernel
theorem dc_N_slotBefore_4 : decode bc_N_slotBefore 4 = .ok (.iconst 1, 1) := by decide +kernel
theorem dc_N_slotBefore_5 : decode bc_N_slotBefore 5 = .ok (.isub, 1) := by decide +kernel
theorem dc_N_slotBefore_6 : decode bc_N_slotBefore 6 = .ok (.iload_n 1, 1) := by decide +kernel
theorem dc_N_slotBefore_7 : decode bc_N_slotBefore 7 = .ok (.isub, 1) := by decide +kernel
theorem dc_N_slotBefore_8 : decode bc_N_slotBefore 8 = .ok (.bipush 8, 2) := by decide +kernel
theorem dc_N_slotBefore_10 : decode bc_N_slotBefore 10 = .ok (.invokestatic 22, 3) := by decide +kernel
theorem dc_N_slotBefore_13 : decode bc_N_slotBefore 13 = .ok (.ireturn, 1) := by decide +kernel
