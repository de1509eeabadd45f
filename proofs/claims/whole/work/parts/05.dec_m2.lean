theorem dc_M_begin_0 : decode bc_M_begin 0 = .ok (.aload_n 0, 1) := by decide +kernel
theorem dc_M_begin_1 : decode bc_M_begin 1 = .ok (.getfield 108, 3) := by decide +kernel
theorem dc_M_begin_4 : decode bc_M_begin 4 = .ok (.aload_n 0, 1) := by decide +kernel
theorem dc_M_begin_5 : decode bc_M_begin 5 = .ok (.getfield 211, 3) := by decide +kernel
theorem dc_M_begin_8 : decode bc_M_begin 8 = .ok (.iload_n 1, 1) := by decide +kernel
theorem dc_M_begin_9 : decode bc_M_begin 9 = .ok (.iastore, 1) := by decide +kernel
theorem dc_M_begin_10 : decode bc_M_begin 10 = .ok (.aload_n 0, 1) := by decide +kernel
theorem dc_M_begin_11 : decode bc_M_begin 11 = .ok (.getfield 111, 3) := by decide +kernel
theorem dc_M_begin_14 : decode bc_M_begin 14 = .ok (.aload_n 0, 1) := by decide +kernel
theorem dc_M_begin_15 : decode bc_M_begin 15 = .ok (.getfield 211, 3) := by decide +kernel
theorem dc_M_begin_18 : decode bc_M_begin 18 = .ok (.iload_n 2, 1) := by decide +kernel
theorem dc_M_begin_19 : decode bc_M_begin 19 = .ok (.iastore, 1) := by decide +kernel
theorem dc_M_begin_20 : decode bc_M_begin 20 = .ok (.aload_n 0, 1) := by decide +kernel
theorem dc_M_begin_21 : decode bc_M_begin 21 = .ok (.getfield 114, 3) := by decide +kernel
theorem dc_M_begin_24 : decode bc_M_begin 24 = .ok (.aload_n 0, 1) := by decide +kernel
theorem dc_M_begin_25 : decode bc_M_begin 25 = .ok (.getfield 211, 3) := by decide +kernel
theorem dc_M_begin_28 : decode bc_M_begin 28 = .ok (.iload_n 1, 1) := by decide +kernel
theorem dc_M_begin_29 : decode bc_M_begin 29 = .ok (.iastore, 1) := by decide +kernel
theorem dc_M_begin_30 : decode bc_M_begin 30 = .ok (.aload_n 0, 1) := by decide +kernel
theorem dc_M_begin_31 : decode bc_M_begin 31 = .ok (.getfield 141, 3) := by decide +kernel
theorem dc_M_begin_34 : decode bc_M_begin 34 = .ok (.iconst 0, 1) := by decide +kernel
theorem dc_M_begin_35 : decode bc_M_begin 35 = .ok (.dup2, 1) := by decide +kernel
theorem dc_M_begin_36 : decode bc_M_begin 36 = .ok (.iaload, 1) := by decide +kernel
theorem dc_M_begin_37 : decode bc_M_begin 37 = .ok (.iconst 1, 1) := by decide +kernel
theorem dc_M_begin_38 : decode bc_M_begin 38 = .ok (.iadd, 1) := by decide +kernel
theorem dc_M_begin_39 : decode bc_M_begin 39 = .ok (.iastore, 1) := by decide +kernel
theorem dc_M_begin_40 : decode bc_M_begin 40 = .ok (.return_, 1) := by decide +kernel
theorem dc_M_push_0 : decode bc_M_push 0 = .ok (.aload_n 0, 1) := by decide +kernel
theorem dc_M_push_1 : decode bc_M_push 1 = .ok (.getfield 117, 3) := by decide +kernel
theorem dc_M_push_4 : decode bc_M_push 4 = .ok (.aload_n 0, 1) := by decide +kernel
theorem dc_M_push_5 : decode bc_M_push 5 = .ok (.getfield 217, 3) := by decide +kernel
theorem dc_M_push_8 : decode bc_M_push 8 = .ok (.iload_n 1, 1) := by decide +kernel
theorem dc_M_push_9 : decode bc_M_push 9 = .ok (.iastore, 1) := by decide +kernel
theorem dc_M_push_10 : decode bc_M_push 10 = .ok (.aload_n 0, 1) := by decide +kernel
theorem dc_M_push_11 : decode bc_M_push 11 = .ok (.getfield 120, 3) := by decide +kernel
theorem dc_M_push_14 : decode bc_M_push 14 = .ok (.aload_n 0, 1) := by decide +kernel
theorem dc_M_push_15 : decode bc_M_push 15 = .ok (.getfield 217, 3) := by decide +kernel
theorem dc_M_push_18 : decode bc_M_push 18 = .ok (.aload_n 0, 1) := by decide +kernel
theorem dc_M_push_19 : decode bc_M_push 19 = .ok (.getfield 201, 3) := by decide +kernel
theorem dc_M_push_22 : decode bc_M_push 22 = .ok (.iastore, 1) := by decide +kernel
theorem dc_M_push_23 : decode bc_M_push 23 = .ok (.aload_n 0, 1) := by decide +kernel
theorem dc_M_push_24 : decode bc_M_push 24 = .ok (.getfield 123, 3) := by decide +kernel
theorem dc_M_push_27 : decode bc_M_push 27 = .ok (.aload_n 0, 1) := by decide +kernel
theorem dc_M_push_28 : decode bc_M_push 28 = .ok (.getfield 217, 3) := by decide +kernel
theorem dc_M_push_31 : decode bc_M_push 31 = .ok (.iload_n 2, 1) := by decide +kernel
theorem dc_M_push_32 : decode bc_M_push 32 = .ok (.iastore, 1) := by decide +kernel
theorem dc_M_push_33 : decode bc_M_push 33 = .ok (.aload_n 0, 1) := by decide +kernel
theorem dc_M_push_34 : decode bc_M_push 34 = .ok (.dup, 1) := by decide +kernel
theorem dc_M_push_35 : decode bc_M_push 35 = .ok (.getfield 217, 3) := by decide +kernel
theorem dc_M_push_38 : decode bc_M_push 38 = .ok (.iconst 1, 1) := by decide +kernel
theorem dc_M_push_39 : decode bc_M_push 39 = .ok (.iadd, 1) := by decide +kernel
theorem dc_M_push_40 : decode bc_M_push 40 = .ok (.putfield 217, 3) := by decide +kernel
theorem dc_M_push_43 : decode bc_M_push 43 = .ok (.return_, 1) := by decide +kernel
theorem dc_M_part_0 : decode bc_M_part 0 = .ok (.aload_n 0, 1) := by decide +kernel
theorem dc_M_part_1 : decode bc_M_part 1 = .ok (.getfield 217, 3) := by decide +kernel
theorem dc_M_part_4 : decode bc_M_part 4 = .ok (.iconst 1, 1) := by decide +kernel
theorem dc_M_part_5 : decode bc_M_part 5 = .ok (.isub, 1) := by decide +kernel
theorem dc_M_part_6 : decode bc_M_part 6 = .ok (.istore_n 1, 1) := by decide +kernel
theorem dc_M_part_7 : decode bc_M_part 7 = .ok (.aload_n 0, 1) := by decide +kernel
theorem dc_M_part_8 : decode bc_M_part 8 = .ok (.aload_n 0, 1) := by decide +kernel
theorem dc_M_part_9 : decode bc_M_part 9 = .ok (.getfield 120, 3) := by decide +kernel
theorem dc_M_part_12 : decode bc_M_part 12 = .ok (.iload_n 1, 1) := by decide +kernel
theorem dc_M_part_13 : decode bc_M_part 13 = .ok (.iaload, 1) := by decide +kernel
theorem dc_M_part_14 : decode bc_M_part 14 = .ok (.putfield 201, 3) := by decide +kernel
theorem dc_M_part_17 : decode bc_M_part 17 = .ok (.aload_n 0, 1) := by decide +kernel
theorem dc_M_part_18 : decode bc_M_part 18 = .ok (.getfield 132, 3) := by decide +kernel
theorem dc_M_part_21 : decode bc_M_part 21 = .ok (.iload_n 1, 1) := by decide +kernel
theorem dc_M_part_22 : decode bc_M_part 22 = .ok (.iaload, 1) := by decide +kernel
theorem dc_M_part_23 : decode bc_M_part 23 = .ok (.aload_n 0, 1) := by decide +kernel
theorem dc_M_part_24 : decode bc_M_part 24 = .ok (.getfield 129, 3) := by decide +kernel
theorem dc_M_part_27 : decode bc_M_part 27 = .ok (.iload_n 1, 1) := by decide +kernel
theorem dc_M_part_28 : decode bc_M_part 28 = .ok (.iaload, 1) := by decide +kernel
theorem dc_M_part_29 : decode bc_M_part 29 = .ok (.if_icmp .ge 73, 3) := by decide +kernel
theorem dc_M_part_32 : decode bc_M_part 32 = .ok (.aload_n 0, 1) := by decide +kernel
theorem dc_M_part_33 : decode bc_M_part 33 = .ok (.getfield 111, 3) := by decide +kernel
theorem dc_M_part_36 : decode bc_M_part 36 = .ok (.aload_n 0, 1) := by decide +kernel
theorem dc_M_part_37 : decode bc_M_part 37 = .ok (.getfield 211, 3) := by decide +kernel
theorem dc_M_part_40 : decode bc_M_part 40 = .ok (.iaload, 1) := by decide +kernel
theorem dc_M_part_41 : decode bc_M_part 41 = .ok (.istore_n 2, 1) := by decide +kernel
theorem dc_M_part_42 : decode bc_M_part 42 = .ok (.aload_n 0, 1) := by decide +kernel
theorem dc_M_part_43 : decode bc_M_part 43 = .ok (.dup, 1) := by decide +kernel
theorem dc_M_part_44 : decode bc_M_part 44 = .ok (.getfield 211, 3) := by decide +kernel
theorem dc_M_part_47 : decode bc_M_part 47 = .ok (.iconst 1, 1) := by decide +kernel
theorem dc_M_part_48 : decode bc_M_part 48 = .ok (.iadd, 1) := by decide +kernel
theorem dc_M_part_49 : decode bc_M_part 49 = .ok (.putfield 211, 3) := by decide +kernel
theorem dc_M_part_52 : decode bc_M_part 52 = .ok (.aload_n 0, 1) := by decide +kernel
theorem dc_M_part_53 : decode bc_M_part 53 = .ok (.aload_n 0, 1) := by decide +kernel
theorem dc_M_part_54 : decode bc_M_part 54 = .ok (.getfield 138, 3) := by decide +kernel
theorem dc_M_part_57 : decode bc_M_part 57 = .ok (.iload_n 1, 1) := by decide +kernel
theorem dc_M_part_58 : decode bc_M_part 58 = .ok (.iaload, 1) := by decide +kernel
theorem dc_M_part_59 : decode bc_M_part 59 = .ok (.aload_n 0, 1) := by decide +kernel
theorem dc_M_part_60 : decode bc_M_part 60 = .ok (.getfield 132, 3) := by decide +kernel
theorem dc_M_part_63 : decode bc_M_part 63 = .ok (.iload_n 1, 1) := by decide +kernel
theorem dc_M_part_64 : decode bc_M_part 64 = .ok (.iaload, 1) := by decide +kernel
theorem dc_M_part_65 : decode bc_M_part 65 = .ok (.iadd, 1) := by decide +kernel
theorem dc_M_part_66 : decode bc_M_part 66 = .ok (.aload_n 0, 1) := by decide +kernel
theorem dc_M_part_67 : decode bc_M_part 67 = .ok (.getfield 129, 3) := by decide +kernel
theorem dc_M_part_70 : decode bc_M_part 70 = .ok (.iload_n 1, 1) := by decide +kernel
theorem dc_M_part_71 : decode bc_M_part 71 = .ok (.iaload, 1) := by decide +kernel
theorem dc_M_part_72 : decode bc_M_part 72 = .ok (.invokestatic 220, 3) := by decide +kernel
theorem dc_M_part_75 : decode bc_M_part 75 = .ok (.iload_n 2, 1) := by decide +kernel
theorem dc_M_part_76 : decode bc_M_part 76 = .ok (.invokevirtual 223, 3) := by decide +kernel
theorem dc_M_part_79 : decode bc_M_part 79 = .ok (.aload_n 0, 1) := by decide +kernel
theorem dc_M_part_80 : decode bc_M_part 80 = .ok (.getfield 132, 3) := by decide +kernel
theorem dc_M_part_83 : decode bc_M_part 83 = .ok (.iload_n 1, 1) := by decide +kernel
theorem dc_M_part_84 : decode bc_M_part 84 = .ok (.dup2, 1) := by decide +kernel
theorem dc_M_part_85 : decode bc_M_part 85 = .ok (.iaload, 1) := by decide +kernel
theorem dc_M_part_86 : decode bc_M_part 86 = .ok (.iconst 1, 1) := by decide +kernel
theorem dc_M_part_87 : decode bc_M_part 87 = .ok (.iadd, 1) := by decide +kernel
theorem dc_M_part_88 : decode bc_M_part 88 = .ok (.iastore, 1) := by decide +kernel
theorem dc_M_part_89 : decode bc_M_part 89 = .ok (.aload_n 0, 1) := by decide +kernel
theorem dc_M_part_90 : decode bc_M_part 90 = .ok (.aload_n 0, 1) := by decide +kernel
theorem dc_M_part_91 : decode bc_M_part 91 = .ok (.getfield 126, 3) := by decide +kernel
theorem dc_M_part_94 : decode bc_M_part 94 = .ok (.iload_n 1, 1) := by decide +kernel
theorem dc_M_part_95 : decode bc_M_part 95 = .ok (.iaload, 1) := by decide +kernel
theorem dc_M_part_96 : decode bc_M_part 96 = .ok (.putfield 227, 3) := by decide +kernel
theorem dc_M_part_99 : decode bc_M_part 99 = .ok (.goto 38, 3) := by decide +kernel
theorem dc_M_part_102 : decode bc_M_part 102 = .ok (.aload_n 0, 1) := by decide +kernel
theorem dc_M_part_103 : decode bc_M_part 103 = .ok (.getfield 108, 3) := by decide +kernel
theorem dc_M_part_106 : decode bc_M_part 106 = .ok (.aload_n 0, 1) := by decide +kernel
theorem dc_M_part_107 : decode bc_M_part 107 = .ok (.getfield 211, 3) := by decide +kernel
theorem dc_M_part_110 : decode bc_M_part 110 = .ok (.aload_n 0, 1) := by decide +kernel
theorem dc_M_part_111 : decode bc_M_part 111 = .ok (.getfield 135, 3) := by decide +kernel
theorem dc_M_part_114 : decode bc_M_part 114 = .ok (.iload_n 1, 1) := by decide +kernel
theorem dc_M_part_115 : decode bc_M_part 115 = .ok (.iaload, 1) := by decide +kernel
theorem dc_M_part_116 : decode bc_M_part 116 = .ok (.iastore, 1) := by decide +kernel
theorem dc_M_part_117 : decode bc_M_part 117 = .ok (.aload_n 0, 1) := by decide +kernel
theorem dc_M_part_118 : decode bc_M_part 118 = .ok (.aload_n 0, 1) := by decide +kernel
theorem dc_M_part_119 : decode bc_M_part 119 = .ok (.getfield 123, 3) := by decide +kernel
theorem dc_M_part_122 : decode bc_M_part 122 = .ok (.iload_n 1, 1) := by decide +kernel
theorem dc_M_part_123 : decode bc_M_part 123 = .ok (.iaload, 1) := by decide +kernel
theorem dc_M_part_124 : decode bc_M_part 124 = .ok (.putfield 227, 3) := by decide +kernel
theorem dc_M_part_127 : decode bc_M_part 127 = .ok (.aload_n 0, 1) := by decide +kernel
theorem dc_M_part_128 : decode bc_M_part 128 = .ok (.dup, 1) := by decide +kernel
theorem dc_M_part_129 : decode bc_M_part 129 = .ok (.getfield 217, 3) := by decide +kernel
theorem dc_M_part_132 : decode bc_M_part 132 = .ok (.iconst 1, 1) := by decide +kernel
theorem dc_M_part_133 : decode bc_M_part 133 = .ok (.isub, 1) := by decide +kernel
theorem dc_M_part_134 : decode bc_M_part 134 = .ok (.putfield 217, 3) := by decide +kernel
theorem dc_M_part_137 : decode bc_M_part 137 = .ok (.return_, 1) := by decide +kernel
theorem dc_M_finish_0 : decode bc_M_finish 0 = .ok (.aload_n 0, 1) := by decide +kernel
theorem dc_M_finish_1 : decode bc_M_finish 1 = .ok (.getfield 141, 3) := by decide +kernel
theorem dc_M_finish_4 : decode bc_M_finish 4 = .ok (.iload_n 1, 1) := by decide +kernel
theorem dc_M_finish_5 : decode bc_M_finish 5 = .ok (.dup2, 1) := by decide +kernel
theorem dc_M_finish_6 : decode bc_M_finish 6 = .ok (.iaload, 1) := by decide +kernel
theorem dc_M_finish_7 : decode bc_M_finish 7 = .ok (.iconst 1, 1) := by decide +kernel
theorem dc_M_finish_8 : decode bc_M_finish 8 = .ok (.iadd, 1) := by decide +kernel
theorem dc_M_finish_9 : decode bc_M_finish 9 = .ok (.iastore, 1) := by decide +kernel
theorem dc_M_finish_10 : decode bc_M_finish 10 = .ok (.aload_n 0, 1) := by decide +kernel
theorem dc_M_finish_11 : decode bc_M_finish 11 = .ok (.getfield 211, 3) := by decide +kernel
theorem dc_M_finish_14 : decode bc_M_finish 14 = .ok (.ifCond .ne 5, 3) := by decide +kernel
theorem dc_M_finish_17 : decode bc_M_finish 17 = .ok (.iload_n 1, 1) := by decide +kernel
theorem dc_M_finish_18 : decode bc_M_finish 18 = .ok (.ireturn, 1) := by decide +kernel
theorem dc_M_finish_19 : decode bc_M_finish 19 = .ok (.aload_n 0, 1) := by decide +kernel
theorem dc_M_finish_20 : decode bc_M_finish 20 = .ok (.getfield 117, 3) := by decide +kernel
theorem dc_M_finish_23 : decode bc_M_finish 23 = .ok (.aload_n 0, 1) := by decide +kernel
theorem dc_M_finish_24 : decode bc_M_finish 24 = .ok (.getfield 217, 3) := by decide +kernel
theorem dc_M_finish_27 : decode bc_M_finish 27 = .ok (.iconst 1, 1) := by decide +kernel
theorem dc_M_finish_28 : decode bc_M_finish 28 = .ok (.isub, 1) := by decide +kernel
theorem dc_M_finish_29 : decode bc_M_finish 29 = .ok (.iaload, 1) := by decide +kernel
theorem dc_M_finish_30 : decode bc_M_finish 30 = .ok (.iconst 2, 1) := by decide +kernel
theorem dc_M_finish_31 : decode bc_M_finish 31 = .ok (.if_icmp .eq 16, 3) := by decide +kernel
theorem dc_M_finish_34 : decode bc_M_finish 34 = .ok (.aload_n 0, 1) := by decide +kernel
theorem dc_M_finish_35 : decode bc_M_finish 35 = .ok (.dup, 1) := by decide +kernel
theorem dc_M_finish_36 : decode bc_M_finish 36 = .ok (.getfield 217, 3) := by decide +kernel
theorem dc_M_finish_39 : decode bc_M_finish 39 = .ok (.iconst 1, 1) := by decide +kernel
theorem dc_M_finish_40 : decode bc_M_finish 40 = .ok (.isub, 1) := by decide +kernel
theorem dc_M_finish_41 : decode bc_M_finish 41 = .ok (.putfield 217, 3) := by decide +kernel
theorem dc_M_finish_44 : decode bc_M_finish 44 = .ok (.goto (-25), 3) := by decide +kernel
theorem dc_M_finish_47 : decode bc_M_finish 47 = .ok (.iload_n 1, 1) := by decide +kernel
theorem dc_M_finish_48 : decode bc_M_finish 48 = .ok (.iconst 1, 1) := by decide +kernel
theorem dc_M_finish_49 : decode bc_M_finish 49 = .ok (.if_icmp .ne 26, 3) := by decide +kernel
theorem dc_M_finish_52 : decode bc_M_finish 52 = .ok (.aload_n 0, 1) := by decide +kernel
theorem dc_M_finish_53 : decode bc_M_finish 53 = .ok (.getfield 135, 3) := by decide +kernel
theorem dc_M_finish_56 : decode bc_M_finish 56 = .ok (.aload_n 0, 1) := by decide +kernel
theorem dc_M_finish_57 : decode bc_M_finish 57 = .ok (.getfield 217, 3) := by decide +kernel
theorem dc_M_finish_60 : decode bc_M_finish 60 = .ok (.iconst 1, 1) := by decide +kernel
theorem dc_M_finish_61 : decode bc_M_finish 61 = .ok (.isub, 1) := by decide +kernel
theorem dc_M_finish_62 : decode bc_M_finish 62 = .ok (.dup2, 1) := by decide +kernel
theorem dc_M_finish_63 : decode bc_M_finish 63 = .ok (.iaload, 1) := by decide +kernel
theorem dc_M_finish_64 : decode bc_M_finish 64 = .ok (.aload_n 0, 1) := by decide +kernel
theorem dc_M_finish_65 : decode bc_M_finish 65 = .ok (.getfield 108, 3) := by decide +kernel
theorem dc_M_finish_68 : decode bc_M_finish 68 = .ok (.aload_n 0, 1) := by decide +kernel
theorem dc_M_finish_69 : decode bc_M_finish 69 = .ok (.getfield 211, 3) := by decide +kernel
theorem dc_M_finish_72 : decode bc_M_finish 72 = .ok (.iaload, 1) := by decide +kernel
theorem dc_M_finish_73 : decode bc_M_finish 73 = .ok (.iadd, 1) := by decide +kernel
theorem dc_M_finish_74 : decode bc_M_finish 74 = .ok (.iastore, 1) := by decide +kernel
theorem dc_M_finish_75 : decode bc_M_finish 75 = .ok (.aload_n 0, 1) := by decide +kernel
theorem dc_M_finish_76 : decode bc_M_finish 76 = .ok (.dup, 1) := by decide +kernel
theorem dc_M_finish_77 : decode bc_M_finish 77 = .ok (.getfield 211, 3) := by decide +kernel
theorem dc_M_finish_80 : decode bc_M_finish 80 = .ok (.iconst 1, 1) := by decide +kernel
theorem dc_M_finish_81 : decode bc_M_finish 81 = .ok (.isub, 1) := by decide +kernel
theorem dc_M_finish_82 : decode bc_M_finish 82 = .ok (.putfield 211, 3) := by decide +kernel
theorem dc_M_finish_85 : decode bc_M_finish 85 = .ok (.aload_n 0, 1) := by decide +kernel
theorem dc_M_finish_86 : decode bc_M_finish 86 = .ok (.invokevirtual 230, 3) := by decide +kernel
theorem dc_M_finish_89 : decode bc_M_finish 89 = .ok (.iconst 0, 1) := by decide +kernel
theorem dc_M_finish_90 : decode bc_M_finish 90 = .ok (.ireturn, 1) := by decide +kernel
theorem dc_M_close_0 : decode bc_M_close 0 = .ok (.aload_n 0, 1) := by decide +kernel
theorem dc_M_close_1 : decode bc_M_close 1 = .ok (.getfield 217, 3) := by decide +kernel
theorem dc_M_close_4 : decode bc_M_close 4 = .ok (.ifCond .eq 18, 3) := by decide +kernel
theorem dc_M_close_7 : decode bc_M_close 7 = .ok (.aload_n 0, 1) := by decide +kernel
theorem dc_M_close_8 : decode bc_M_close 8 = .ok (.getfield 117, 3) := by decide +kernel
theorem dc_M_close_11 : decode bc_M_close 11 = .ok (.aload_n 0, 1) := by decide +kernel
theorem dc_M_close_12 : decode bc_M_close 12 = .ok (.getfield 217, 3) := by decide +kernel
theorem dc_M_close_15 : decode bc_M_close 15 = .ok (.iconst 1, 1) := by decide +kernel
theorem dc_M_close_16 : decode bc_M_close 16 = .ok (.isub, 1) := by decide +kernel
theorem dc_M_close_17 : decode bc_M_close 17 = .ok (.iaload, 1) := by decide +kernel
theorem dc_M_close_18 : decode bc_M_close 18 = .ok (.iconst 2, 1) := by decide +kernel
theorem dc_M_close_19 : decode bc_M_close 19 = .ok (.if_icmp .ne 9, 3) := by decide +kernel
theorem dc_M_close_22 : decode bc_M_close 22 = .ok (.aload_n 0, 1) := by decide +kernel
theorem dc_M_close_23 : decode bc_M_close 23 = .ok (.iconst 1, 1) := by decide +kernel
theorem dc_M_close_24 : decode bc_M_close 24 = .ok (.invokevirtual 233, 3) := by decide +kernel
theorem dc_M_close_27 : decode bc_M_close 27 = .ok (.ireturn, 1) := by decide +kernel
theorem dc_M_close_28 : decode bc_M_close 28 = .ok (.aload_n 0, 1) := by decide +kernel
theorem dc_M_close_29 : decode bc_M_close 29 = .ok (.dup, 1) := by decide +kernel
theorem dc_M_close_30 : decode bc_M_close 30 = .ok (.getfield 217, 3) := by decide +kernel
theorem dc_M_close_33 : decode bc_M_close 33 = .ok (.iconst 1, 1) := by decide +kernel
theorem dc_M_close_34 : decode bc_M_close 34 = .ok (.isub, 1) := by decide +kernel
theorem dc_M_close_35 : decode bc_M_close 35 = .ok (.putfield 217, 3) := by decide +kernel
theorem dc_M_close_38 : decode bc_M_close 38 = .ok (.aload_n 0, 1) := by decide +kernel
theorem dc_M_close_39 : decode bc_M_close 39 = .ok (.aload_n 0, 1) := by decide +kernel
theorem dc_M_close_40 : decode bc_M_close 40 = .ok (.getfield 120, 3) := by decide +kernel
theorem dc_M_close_43 : decode bc_M_close 43 = .ok (.aload_n 0, 1) := by decide +kernel
theorem dc_M_close_44 : decode bc_M_close 44 = .ok (.getfield 217, 3) := by decide +kernel
theorem dc_M_close_47 : decode bc_M_close 47 = .ok (.iaload, 1) := by decide +kernel
theorem dc_M_close_48 : decode bc_M_close 48 = .ok (.putfield 201, 3) := by decide +kernel
theorem dc_M_close_51 : decode bc_M_close 51 = .ok (.aload_n 0, 1) := by decide +kernel
theorem dc_M_close_52 : decode bc_M_close 52 = .ok (.aload_n 0, 1) := by decide +kernel
theorem dc_M_close_53 : decode bc_M_close 53 = .ok (.getfield 123, 3) := by decide +kernel
theorem dc_M_close_56 : decode bc_M_close 56 = .ok (.aload_n 0, 1) := by decide +kernel
theorem dc_M_close_57 : decode bc_M_close 57 = .ok (.getfield 217, 3) := by decide +kernel
theorem dc_M_close_60 : decode bc_M_close 60 = .ok (.iaload, 1) := by decide +kernel
theorem dc_M_close_61 : decode bc_M_close 61 = .ok (.putfield 227, 3) := by decide +kernel
theorem dc_M_close_64 : decode bc_M_close 64 = .ok (.iconst 0, 1) := by decide +kernel
theorem dc_M_close_65 : decode bc_M_close 65 = .ok (.ireturn, 1) := by decide +kernel
theorem dc_M_run_0 : decode bc_M_run 0 = .ok (.aload_n 0, 1) := by decide +kernel
theorem dc_M_run_1 : decode bc_M_run 1 = .ok (.iconst 0, 1) := by decide +kernel
theorem dc_M_run_2 : decode bc_M_run 2 = .ok (.putfield 211, 3) := by decide +kernel
theorem dc_M_run_5 : decode bc_M_run 5 = .ok (.aload_n 0, 1) := by decide +kernel
theorem dc_M_run_6 : decode bc_M_run 6 = .ok (.iconst 0, 1) := by decide +kernel
theorem dc_M_run_7 : decode bc_M_run 7 = .ok (.putfield 217, 3) := by decide +kernel
theorem dc_M_run_10 : decode bc_M_run 10 = .ok (.aload_n 0, 1) := by decide +kernel
theorem dc_M_run_11 : decode bc_M_run 11 = .ok (.iload_n 1, 1) := by decide +kernel
theorem dc_M_run_12 : decode bc_M_run 12 = .ok (.putfield 201, 3) := by decide +kernel
theorem dc_M_run_15 : decode bc_M_run 15 = .ok (.aload_n 0, 1) := by decide +kernel
theorem dc_M_run_16 : decode bc_M_run 16 = .ok (.iload_n 2, 1) := by decide +kernel
theorem dc_M_run_17 : decode bc_M_run 17 = .ok (.putfield 227, 3) := by decide +kernel
theorem dc_M_run_20 : decode bc_M_run 20 = .ok (.aload_n 0, 1) := by decide +kernel
theorem dc_M_run_21 : decode bc_M_run 21 = .ok (.iload_n 3, 1) := by decide +kernel
theorem dc_M_run_22 : decode bc_M_run 22 = .ok (.iload 4, 2) := by decide +kernel
theorem dc_M_run_24 : decode bc_M_run 24 = .ok (.invokevirtual 223, 3) := by decide +kernel
theorem dc_M_run_27 : decode bc_M_run 27 = .ok (.iconst 0, 1) := by decide +kernel
theorem dc_M_run_28 : decode bc_M_run 28 = .ok (.istore 5, 2) := by decide +kernel
theorem dc_M_run_30 : decode bc_M_run 30 = .ok (.iconst 0, 1) := by decide +kernel
theorem dc_M_run_31 : decode bc_M_run 31 = .ok (.istore 6, 2) := by decide +kernel
theorem dc_M_run_33 : decode bc_M_run 33 = .ok (.iload 6, 2) := by decide +kernel
theorem dc_M_run_35 : decode bc_M_run 35 = .ok (.ldc 236, 2) := by decide +kernel
theorem dc_M_run_37 : decode bc_M_run 37 = .ok (.if_icmp .ge 71, 3) := by decide +kernel
theorem dc_M_run_40 : decode bc_M_run 40 = .ok (.iload 5, 2) := by decide +kernel
theorem dc_M_run_42 : decode bc_M_run 42 = .ok (.ifCond .ne 66, 3) := by decide +kernel
theorem dc_M_run_45 : decode bc_M_run 45 = .ok (.aload_n 0, 1) := by decide +kernel
theorem dc_M_run_46 : decode bc_M_run 46 = .ok (.getfield 227, 3) := by decide +kernel
theorem dc_M_run_49 : decode bc_M_run 49 = .ok (.aload_n 0, 1) := by decide +kernel
theorem dc_M_run_50 : decode bc_M_run 50 = .ok (.getfield 20, 3) := by decide +kernel
theorem dc_M_run_53 : decode bc_M_run 53 = .ok (.aload_n 0, 1) := by decide +kernel
theorem dc_M_run_54 : decode bc_M_run 54 = .ok (.getfield 201, 3) := by decide +kernel
theorem dc_M_run_57 : decode bc_M_run 57 = .ok (.iaload, 1) := by decide +kernel
theorem dc_M_run_58 : decode bc_M_run 58 = .ok (.if_icmp .ge 16, 3) := by decide +kernel
theorem dc_M_run_61 : decode bc_M_run 61 = .ok (.aload_n 0, 1) := by decide +kernel
theorem dc_M_run_62 : decode bc_M_run 62 = .ok (.aload_n 0, 1) := by decide +kernel
theorem dc_M_run_63 : decode bc_M_run 63 = .ok (.getfield 227, 3) := by decide +kernel
theorem dc_M_run_66 : decode bc_M_run 66 = .ok (.invokevirtual 207, 3) := by decide +kernel
theorem dc_M_run_69 : decode bc_M_run 69 = .ok (.bipush 41, 2) := by decide +kernel
theorem dc_M_run_71 : decode bc_M_run 71 = .ok (.if_icmp .ne 12, 3) := by decide +kernel
theorem dc_M_run_74 : decode bc_M_run 74 = .ok (.aload_n 0, 1) := by decide +kernel
theorem dc_M_run_75 : decode bc_M_run 75 = .ok (.invokevirtual 237, 3) := by decide +kernel
theorem dc_M_run_78 : decode bc_M_run 78 = .ok (.istore 5, 2) := by decide +kernel
theorem dc_M_run_80 : decode bc_M_run 80 = .ok (.goto 22, 3) := by decide +kernel
theorem dc_M_run_83 : decode bc_M_run 83 = .ok (.aload_n 0, 1) := by decide +kernel
theorem dc_M_run_84 : decode bc_M_run 84 = .ok (.invokevirtual 241, 3) := by decide +kernel
theorem dc_M_run_87 : decode bc_M_run 87 = .ok (.istore 7, 2) := by decide +kernel
theorem dc_M_run_89 : decode bc_M_run 89 = .ok (.iload 7, 2) := by decide +kernel
theorem dc_M_run_91 : decode bc_M_run 91 = .ok (.ifCond .le 11, 3) := by decide +kernel
theorem dc_M_run_94 : decode bc_M_run 94 = .ok (.aload_n 0, 1) := by decide +kernel
theorem dc_M_run_95 : decode bc_M_run 95 = .ok (.iload 7, 2) := by decide +kernel
theorem dc_M_run_97 : decode bc_M_run 97 = .ok (.invokevirtual 233, 3) := by decide +kernel
theorem dc_M_run_100 : decode bc_M_run 100 = .ok (.istore 5, 2) := by decide +kernel
theorem dc_M_run_102 : decode bc_M_run 102 = .ok (.iinc 6 1, 3) := by decide +kernel
theorem dc_M_run_105 : decode bc_M_run 105 = .ok (.goto (-72), 3) := by decide +kernel
theorem dc_M_run_108 : decode bc_M_run 108 = .ok (.iload 5, 2) := by decide +kernel
theorem dc_M_run_110 : decode bc_M_run 110 = .ok (.ireturn, 1) := by decide +kernel
theorem dc_M_step_0 : decode bc_M_step 0 = .ok (.iconst 1, 1) := by decide +kernel
theorem dc_M_step_1 : decode bc_M_step 1 = .ok (.istore_n 1, 1) := by decide +kernel
theorem dc_M_step_2 : decode bc_M_step 2 = .ok (.iload_n 1, 1) := by decide +kernel
theorem dc_M_step_3 : decode bc_M_step 3 = .ok (.bipush 10, 2) := by decide +kernel
theorem dc_M_step_5 : decode bc_M_step 5 = .ok (.if_icmp .gt 201, 3) := by decide +kernel
theorem dc_M_step_8 : decode bc_M_step 8 = .ok (.aload_n 0, 1) := by decide +kernel
theorem dc_M_step_9 : decode bc_M_step 9 = .ok (.getfield 244, 3) := by decide +kernel
theorem dc_M_step_12 : decode bc_M_step 12 = .ok (.bipush 100, 2) := by decide +kernel
theorem dc_M_step_14 : decode bc_M_step 14 = .ok (.if_icmp .lt 6, 3) := by decide +kernel
theorem dc_M_step_17 : decode bc_M_step 17 = .ok (.bipush 7, 2) := by decide +kernel
theorem dc_M_step_19 : decode bc_M_step 19 = .ok (.ireturn, 1) := by decide +kernel
theorem dc_M_step_20 : decode bc_M_step 20 = .ok (.aload_n 0, 1) := by decide +kernel
theorem dc_M_step_21 : decode bc_M_step 21 = .ok (.dup, 1) := by decide +kernel
theorem dc_M_step_22 : decode bc_M_step 22 = .ok (.getfield 244, 3) := by decide +kernel
theorem dc_M_step_25 : decode bc_M_step 25 = .ok (.iconst 1, 1) := by decide +kernel
theorem dc_M_step_26 : decode bc_M_step 26 = .ok (.iadd, 1) := by decide +kernel
theorem dc_M_step_27 : decode bc_M_step 27 = .ok (.putfield 244, 3) := by decide +kernel
theorem dc_M_step_30 : decode bc_M_step 30 = .ok (.aload_n 0, 1) := by decide +kernel
theorem dc_M_step_31 : decode bc_M_step 31 = .ok (.iconst 0, 1) := by decide +kernel
theorem dc_M_step_32 : decode bc_M_step 32 = .ok (.putfield 247, 3) := by decide +kernel
theorem dc_M_step_35 : decode bc_M_step 35 = .ok (.aload_n 0, 1) := by decide +kernel
theorem dc_M_step_36 : decode bc_M_step 36 = .ok (.aload_n 0, 1) := by decide +kernel
theorem dc_M_step_37 : decode bc_M_step 37 = .ok (.aload_n 0, 1) := by decide +kernel
theorem dc_M_step_38 : decode bc_M_step 38 = .ok (.getfield 227, 3) := by decide +kernel
theorem dc_M_step_41 : decode bc_M_step 41 = .ok (.invokevirtual 207, 3) := by decide +kernel
theorem dc_M_step_44 : decode bc_M_step 44 = .ok (.invokevirtual 250, 3) := by decide +kernel
theorem dc_M_step_47 : decode bc_M_step 47 = .ok (.istore_n 2, 1) := by decide +kernel
theorem dc_M_step_48 : decode bc_M_step 48 = .ok (.iload_n 2, 1) := by decide +kernel
theorem dc_M_step_49 : decode bc_M_step 49 = .ok (.ifCond .ne 8, 3) := by decide +kernel
theorem dc_M_step_52 : decode bc_M_step 52 = .ok (.aload_n 0, 1) := by decide +kernel
theorem dc_M_step_53 : decode bc_M_step 53 = .ok (.getfield 247, 3) := by decide +kernel
theorem dc_M_step_56 : decode bc_M_step 56 = .ok (.ireturn, 1) := by decide +kernel
theorem dc_M_step_57 : decode bc_M_step 57 = .ok (.aload_n 0, 1) := by decide +kernel
theorem dc_M_step_58 : decode bc_M_step 58 = .ok (.iload_n 2, 1) := by decide +kernel
theorem dc_M_step_59 : decode bc_M_step 59 = .ok (.invokevirtual 254, 3) := by decide +kernel
theorem dc_M_step_62 : decode bc_M_step 62 = .ok (.istore_n 3, 1) := by decide +kernel
theorem dc_M_step_63 : decode bc_M_step 63 = .ok (.iload_n 3, 1) := by decide +kernel
theorem dc_M_step_64 : decode bc_M_step 64 = .ok (.ifCond .ge 6, 3) := by decide +kernel
theorem dc_M_step_67 : decode bc_M_step 67 = .ok (.bipush 6, 2) := by decide +kernel
theorem dc_M_step_69 : decode bc_M_step 69 = .ok (.ireturn, 1) := by decide +kernel
theorem dc_M_step_70 : decode bc_M_step 70 = .ok (.iload_n 1, 1) := by decide +kernel
theorem dc_M_step_71 : decode bc_M_step 71 = .ok (.aload_n 0, 1) := by decide +kernel
theorem dc_M_step_72 : decode bc_M_step 72 = .ok (.getfield 29, 3) := by decide +kernel
theorem dc_M_step_75 : decode bc_M_step 75 = .ok (.iload_n 3, 1) := by decide +kernel
theorem dc_M_step_76 : decode bc_M_step 76 = .ok (.iaload, 1) := by decide +kernel
theorem dc_M_step_77 : decode bc_M_step 77 = .ok (.if_icmp .le 61, 3) := by decide +kernel
theorem dc_M_step_80 : decode bc_M_step 80 = .ok (.aload_n 0, 1) := by decide +kernel
theorem dc_M_step_81 : decode bc_M_step 81 = .ok (.getfield 35, 3) := by decide +kernel
theorem dc_M_step_84 : decode bc_M_step 84 = .ok (.iload_n 3, 1) := by decide +kernel
theorem dc_M_step_85 : decode bc_M_step 85 = .ok (.baload, 1) := by decide +kernel
theorem dc_M_step_86 : decode bc_M_step 86 = .ok (.ifCond .ne 6, 3) := by decide +kernel
theorem dc_M_step_89 : decode bc_M_step 89 = .ok (.bipush 6, 2) := by decide +kernel
theorem dc_M_step_91 : decode bc_M_step 91 = .ok (.ireturn, 1) := by decide +kernel
theorem dc_M_step_92 : decode bc_M_step 92 = .ok (.aload_n 0, 1) := by decide +kernel
theorem dc_M_step_93 : decode bc_M_step 93 = .ok (.iconst 4, 1) := by decide +kernel
theorem dc_M_step_94 : decode bc_M_step 94 = .ok (.aload_n 0, 1) := by decide +kernel
theorem dc_M_step_95 : decode bc_M_step 95 = .ok (.getfield 39, 3) := by decide +kernel
theorem dc_M_step_98 : decode bc_M_step 98 = .ok (.iload_n 3, 1) := by decide +kernel
theorem dc_M_step_99 : decode bc_M_step 99 = .ok (.baload, 1) := by decide +kernel
theorem dc_M_step_100 : decode bc_M_step 100 = .ok (.ifCond .eq 15, 3) := by decide +kernel
theorem dc_M_step_103 : decode bc_M_step 103 = .ok (.aload_n 0, 1) := by decide +kernel
theorem dc_M_step_104 : decode bc_M_step 104 = .ok (.getfield 114, 3) := by decide +kernel
theorem dc_M_step_107 : decode bc_M_step 107 = .ok (.aload_n 0, 1) := by decide +kernel
theorem dc_M_step_108 : decode bc_M_step 108 = .ok (.getfield 211, 3) := by decide +kernel
theorem dc_M_step_111 : decode bc_M_step 111 = .ok (.iaload, 1) := by decide +kernel
theorem dc_M_step_112 : decode bc_M_step 112 = .ok (.goto 12, 3) := by decide +kernel
theorem dc_M_step_115 : decode bc_M_step 115 = .ok (.aload_n 0, 1) := by decide +kernel
theorem dc_M_step_116 : decode bc_M_step 116 = .ok (.getfield 108, 3) := by decide +kernel
theorem dc_M_step_119 : decode bc_M_step 119 = .ok (.aload_n 0, 1) := by decide +kernel
theorem dc_M_step_120 : decode bc_M_step 120 = .ok (.getfield 211, 3) := by decide +kernel
theorem dc_M_step_123 : decode bc_M_step 123 = .ok (.iaload, 1) := by decide +kernel
theorem dc_M_step_124 : decode bc_M_step 124 = .ok (.aload_n 0, 1) := by decide +kernel
theorem dc_M_step_125 : decode bc_M_step 125 = .ok (.getfield 111, 3) := by decide +kernel
theorem dc_M_step_128 : decode bc_M_step 128 = .ok (.aload_n 0, 1) := by decide +kernel
theorem dc_M_step_129 : decode bc_M_step 129 = .ok (.getfield 211, 3) := by decide +kernel
theorem dc_M_step_132 : decode bc_M_step 132 = .ok (.iaload, 1) := by decide +kernel
theorem dc_M_step_133 : decode bc_M_step 133 = .ok (.invokevirtual 257, 3) := by decide +kernel
theorem dc_M_step_136 : decode bc_M_step 136 = .ok (.iconst 5, 1) := by decide +kernel
theorem dc_M_step_137 : decode bc_M_step 137 = .ok (.ireturn, 1) := by decide +kernel
theorem dc_M_step_138 : decode bc_M_step 138 = .ok (.aload_n 0, 1) := by decide +kernel
theorem dc_M_step_139 : decode bc_M_step 139 = .ok (.getfield 32, 3) := by decide +kernel
theorem dc_M_step_142 : decode bc_M_step 142 = .ok (.iload_n 3, 1) := by decide +kernel
theorem dc_M_step_143 : decode bc_M_step 143 = .ok (.iaload, 1) := by decide +kernel
theorem dc_M_step_144 : decode bc_M_step 144 = .ok (.istore 4, 2) := by decide +kernel
theorem dc_M_step_146 : decode bc_M_step 146 = .ok (.iconst 1, 1) := by decide +kernel
theorem dc_M_step_147 : decode bc_M_step 147 = .ok (.istore 5, 2) := by decide +kernel
theorem dc_M_step_149 : decode bc_M_step 149 = .ok (.iload 5, 2) := by decide +kernel
theorem dc_M_step_151 : decode bc_M_step 151 = .ok (.iload_n 1, 1) := by decide +kernel
theorem dc_M_step_152 : decode bc_M_step 152 = .ok (.if_icmp .ge 15, 3) := by decide +kernel
theorem dc_M_step_155 : decode bc_M_step 155 = .ok (.iconst 2, 1) := by decide +kernel
theorem dc_M_step_156 : decode bc_M_step 156 = .ok (.iload 4, 2) := by decide +kernel
theorem dc_M_step_158 : decode bc_M_step 158 = .ok (.imul, 1) := by decide +kernel
theorem dc_M_step_159 : decode bc_M_step 159 = .ok (.istore 4, 2) := by decide +kernel
theorem dc_M_step_161 : decode bc_M_step 161 = .ok (.iinc 5 1, 3) := by decide +kernel
theorem dc_M_step_164 : decode bc_M_step 164 = .ok (.goto (-15), 3) := by decide +kernel
theorem dc_M_step_167 : decode bc_M_step 167 = .ok (.aload_n 0, 1) := by decide +kernel
theorem dc_M_step_168 : decode bc_M_step 168 = .ok (.dup, 1) := by decide +kernel
theorem dc_M_step_169 : decode bc_M_step 169 = .ok (.getfield 261, 3) := by decide +kernel
theorem dc_M_step_172 : decode bc_M_step 172 = .ok (.iload 4, 2) := by decide +kernel
theorem dc_M_step_174 : decode bc_M_step 174 = .ok (.bipush 60, 2) := by decide +kernel
theorem dc_M_step_176 : decode bc_M_step 176 = .ok (.if_icmp .le 8, 3) := by decide +kernel
theorem dc_M_step_179 : decode bc_M_step 179 = .ok (.bipush 60, 2) := by decide +kernel
theorem dc_M_step_181 : decode bc_M_step 181 = .ok (.goto 5, 3) := by decide +kernel
theorem dc_M_step_184 : decode bc_M_step 184 = .ok (.iload 4, 2) := by decide +kernel
theorem dc_M_step_186 : decode bc_M_step 186 = .ok (.iadd, 1) := by decide +kernel
theorem dc_M_step_187 : decode bc_M_step 187 = .ok (.putfield 261, 3) := by decide +kernel
theorem dc_M_step_190 : decode bc_M_step 190 = .ok (.aload_n 0, 1) := by decide +kernel
theorem dc_M_step_191 : decode bc_M_step 191 = .ok (.dup, 1) := by decide +kernel
theorem dc_M_step_192 : decode bc_M_step 192 = .ok (.getfield 264, 3) := by decide +kernel
theorem dc_M_step_195 : decode bc_M_step 195 = .ok (.iconst 1, 1) := by decide +kernel
theorem dc_M_step_196 : decode bc_M_step 196 = .ok (.iadd, 1) := by decide +kernel
theorem dc_M_step_197 : decode bc_M_step 197 = .ok (.putfield 264, 3) := by decide +kernel
theorem dc_M_step_200 : decode bc_M_step 200 = .ok (.iinc 1 1, 3) := by decide +kernel
theorem dc_M_step_203 : decode bc_M_step 203 = .ok (.goto (-201), 3) := by decide +kernel
theorem dc_M_step_206 : decode bc_M_step 206 = .ok (.bipush 6, 2) := by decide +kernel
theorem dc_M_step_208 : decode bc_M_step 208 = .ok (.ireturn, 1) := by decide +kernel
theorem dc_M_act_0 : decode bc_M_act 0 = .ok (.iload_n 1, 1) := by decide +kernel
theorem dc_M_act_1 : decode bc_M_act 1 = .ok (.lookupswitch 350 #[(33, 295), (38, 280), (42, 123), (43, 123), (45, 123), (62, 264), (63, 200), (97, 333), (98, 170), (102, 216), (105, 315), (107, 140), (114, 310), (115, 248)], 123) := by decide +kernel
theorem dc_M_act_124 : decode bc_M_act 124 = .ok (.aload_n 0, 1) := by decide +kernel
theorem dc_M_act_125 : decode bc_M_act 125 = .ok (.iload_n 1, 1) := by decide +kernel
theorem dc_M_act_126 : decode bc_M_act 126 = .ok (.aload_n 0, 1) := by decide +kernel
theorem dc_M_act_127 : decode bc_M_act 127 = .ok (.aload_n 0, 1) := by decide +kernel
theorem dc_M_act_128 : decode bc_M_act 128 = .ok (.getfield 227, 3) := by decide +kernel
theorem dc_M_act_131 : decode bc_M_act 131 = .ok (.iconst 1, 1) := by decide +kernel
theorem dc_M_act_132 : decode bc_M_act 132 = .ok (.iadd, 1) := by decide +kernel
theorem dc_M_act_133 : decode bc_M_act 133 = .ok (.invokevirtual 214, 3) := by decide +kernel
theorem dc_M_act_136 : decode bc_M_act 136 = .ok (.invokevirtual 267, 3) := by decide +kernel
theorem dc_M_act_139 : decode bc_M_act 139 = .ok (.iconst 0, 1) := by decide +kernel
theorem dc_M_act_140 : decode bc_M_act 140 = .ok (.ireturn, 1) := by decide +kernel
theorem dc_M_act_141 : decode bc_M_act 141 = .ok (.aload_n 0, 1) := by decide +kernel
theorem dc_M_act_142 : decode bc_M_act 142 = .ok (.getfield 111, 3) := by decide +kernel
theorem dc_M_act_145 : decode bc_M_act 145 = .ok (.aload_n 0, 1) := by decide +kernel
theorem dc_M_act_146 : decode bc_M_act 146 = .ok (.getfield 211, 3) := by decide +kernel
theorem dc_M_act_149 : decode bc_M_act 149 = .ok (.aload_n 0, 1) := by decide +kernel
theorem dc_M_act_150 : decode bc_M_act 150 = .ok (.getfield 108, 3) := by decide +kernel
theorem dc_M_act_153 : decode bc_M_act 153 = .ok (.aload_n 0, 1) := by decide +kernel
theorem dc_M_act_154 : decode bc_M_act 154 = .ok (.getfield 211, 3) := by decide +kernel
theorem dc_M_act_157 : decode bc_M_act 157 = .ok (.iaload, 1) := by decide +kernel
theorem dc_M_act_158 : decode bc_M_act 158 = .ok (.iastore, 1) := by decide +kernel
theorem dc_M_act_159 : decode bc_M_act 159 = .ok (.aload_n 0, 1) := by decide +kernel
theorem dc_M_act_160 : decode bc_M_act 160 = .ok (.dup, 1) := by decide +kernel
theorem dc_M_act_161 : decode bc_M_act 161 = .ok (.getfield 227, 3) := by decide +kernel
theorem dc_M_act_164 : decode bc_M_act 164 = .ok (.iconst 1, 1) := by decide +kernel
theorem dc_M_act_165 : decode bc_M_act 165 = .ok (.iadd, 1) := by decide +kernel
theorem dc_M_act_166 : decode bc_M_act 166 = .ok (.putfield 227, 3) := by decide +kernel
theorem dc_M_act_169 : decode bc_M_act 169 = .ok (.iconst 0, 1) := by decide +kernel
theorem dc_M_act_170 : decode bc_M_act 170 = .ok (.ireturn, 1) := by decide +kernel
theorem dc_M_act_171 : decode bc_M_act 171 = .ok (.aload_n 0, 1) := by decide +kernel
theorem dc_M_act_172 : decode bc_M_act 172 = .ok (.getfield 108, 3) := by decide +kernel
theorem dc_M_act_175 : decode bc_M_act 175 = .ok (.aload_n 0, 1) := by decide +kernel
theorem dc_M_act_176 : decode bc_M_act 176 = .ok (.getfield 211, 3) := by decide +kernel
theorem dc_M_act_179 : decode bc_M_act 179 = .ok (.aload_n 0, 1) := by decide +kernel
theorem dc_M_act_180 : decode bc_M_act 180 = .ok (.getfield 111, 3) := by decide +kernel
theorem dc_M_act_183 : decode bc_M_act 183 = .ok (.aload_n 0, 1) := by decide +kernel
theorem dc_M_act_184 : decode bc_M_act 184 = .ok (.getfield 211, 3) := by decide +kernel
theorem dc_M_act_187 : decode bc_M_act 187 = .ok (.iaload, 1) := by decide +kernel
theorem dc_M_act_188 : decode bc_M_act 188 = .ok (.iastore, 1) := by decide +kernel
theorem dc_M_act_189 : decode bc_M_act 189 = .ok (.aload_n 0, 1) := by decide +kernel
theorem dc_M_act_190 : decode bc_M_act 190 = .ok (.dup, 1) := by decide +kernel
theorem dc_M_act_191 : decode bc_M_act 191 = .ok (.getfield 227, 3) := by decide +kernel
theorem dc_M_act_194 : decode bc_M_act 194 = .ok (.iconst 1, 1) := by decide +kernel
theorem dc_M_act_195 : decode bc_M_act 195 = .ok (.iadd, 1) := by decide +kernel
theorem dc_M_act_196 : decode bc_M_act 196 = .ok (.putfield 227, 3) := by decide +kernel
theorem dc_M_act_199 : decode bc_M_act 199 = .ok (.iconst 0, 1) := by decide +kernel
theorem dc_M_act_200 : decode bc_M_act 200 = .ok (.ireturn, 1) := by decide +kernel
theorem dc_M_act_201 : decode bc_M_act 201 = .ok (.aload_n 0, 1) := by decide +kernel
theorem dc_M_act_202 : decode bc_M_act 202 = .ok (.aload_n 0, 1) := by decide +kernel
theorem dc_M_act_203 : decode bc_M_act 203 = .ok (.aload_n 0, 1) := by decide +kernel
theorem dc_M_act_204 : decode bc_M_act 204 = .ok (.getfield 227, 3) := by decide +kernel
theorem dc_M_act_207 : decode bc_M_act 207 = .ok (.iconst 1, 1) := by decide +kernel
theorem dc_M_act_208 : decode bc_M_act 208 = .ok (.iadd, 1) := by decide +kernel
theorem dc_M_act_209 : decode bc_M_act 209 = .ok (.invokevirtual 271, 3) := by decide +kernel
theorem dc_M_act_212 : decode bc_M_act 212 = .ok (.invokevirtual 275, 3) := by decide +kernel
theorem dc_M_act_215 : decode bc_M_act 215 = .ok (.iconst 0, 1) := by decide +kernel
theorem dc_M_act_216 : decode bc_M_act 216 = .ok (.ireturn, 1) := by decide +kernel
theorem dc_M_act_217 : decode bc_M_act 217 = .ok (.aload_n 0, 1) := by decide +kernel
theorem dc_M_act_218 : decode bc_M_act 218 = .ok (.aload_n 0, 1) := by decide +kernel
theorem dc_M_act_219 : decode bc_M_act 219 = .ok (.aload_n 0, 1) := by decide +kernel
theorem dc_M_act_220 : decode bc_M_act 220 = .ok (.getfield 227, 3) := by decide +kernel
theorem dc_M_act_223 : decode bc_M_act 223 = .ok (.iconst 1, 1) := by decide +kernel
theorem dc_M_act_224 : decode bc_M_act 224 = .ok (.iadd, 1) := by decide +kernel
theorem dc_M_act_225 : decode bc_M_act 225 = .ok (.invokevirtual 271, 3) := by decide +kernel
theorem dc_M_act_228 : decode bc_M_act 228 = .ok (.ifCond .eq 7, 3) := by decide +kernel
theorem dc_M_act_231 : decode bc_M_act 231 = .ok (.iconst 0, 1) := by decide +kernel
theorem dc_M_act_232 : decode bc_M_act 232 = .ok (.goto 4, 3) := by decide +kernel
theorem dc_M_act_235 : decode bc_M_act 235 = .ok (.iconst 2, 1) := by decide +kernel
theorem dc_M_act_236 : decode bc_M_act 236 = .ok (.putfield 247, 3) := by decide +kernel
theorem dc_M_act_239 : decode bc_M_act 239 = .ok (.aload_n 0, 1) := by decide +kernel
theorem dc_M_act_240 : decode bc_M_act 240 = .ok (.aload_n 0, 1) := by decide +kernel
theorem dc_M_act_241 : decode bc_M_act 241 = .ok (.getfield 204, 3) := by decide +kernel
theorem dc_M_act_244 : decode bc_M_act 244 = .ok (.putfield 227, 3) := by decide +kernel
theorem dc_M_act_247 : decode bc_M_act 247 = .ok (.iconst 0, 1) := by decide +kernel
theorem dc_M_act_248 : decode bc_M_act 248 = .ok (.ireturn, 1) := by decide +kernel
theorem dc_M_act_249 : decode bc_M_act 249 = .ok (.aload_n 0, 1) := by decide +kernel
theorem dc_M_act_250 : decode bc_M_act 250 = .ok (.aload_n 0, 1) := by decide +kernel
theorem dc_M_act_251 : decode bc_M_act 251 = .ok (.aload_n 0, 1) := by decide +kernel
theorem dc_M_act_252 : decode bc_M_act 252 = .ok (.getfield 227, 3) := by decide +kernel
theorem dc_M_act_255 : decode bc_M_act 255 = .ok (.iconst 1, 1) := by decide +kernel
theorem dc_M_act_256 : decode bc_M_act 256 = .ok (.iadd, 1) := by decide +kernel
theorem dc_M_act_257 : decode bc_M_act 257 = .ok (.invokevirtual 214, 3) := by decide +kernel
theorem dc_M_act_260 : decode bc_M_act 260 = .ok (.invokevirtual 279, 3) := by decide +kernel
theorem dc_M_act_263 : decode bc_M_act 263 = .ok (.iconst 0, 1) := by decide +kernel
theorem dc_M_act_264 : decode bc_M_act 264 = .ok (.ireturn, 1) := by decide +kernel
theorem dc_M_act_265 : decode bc_M_act 265 = .ok (.aload_n 0, 1) := by decide +kernel
theorem dc_M_act_266 : decode bc_M_act 266 = .ok (.aload_n 0, 1) := by decide +kernel
theorem dc_M_act_267 : decode bc_M_act 267 = .ok (.aload_n 0, 1) := by decide +kernel
theorem dc_M_act_268 : decode bc_M_act 268 = .ok (.getfield 227, 3) := by decide +kernel
theorem dc_M_act_271 : decode bc_M_act 271 = .ok (.iconst 1, 1) := by decide +kernel
theorem dc_M_act_272 : decode bc_M_act 272 = .ok (.iadd, 1) := by decide +kernel
theorem dc_M_act_273 : decode bc_M_act 273 = .ok (.invokevirtual 214, 3) := by decide +kernel
theorem dc_M_act_276 : decode bc_M_act 276 = .ok (.invokevirtual 283, 3) := by decide +kernel
theorem dc_M_act_279 : decode bc_M_act 279 = .ok (.iconst 0, 1) := by decide +kernel
theorem dc_M_act_280 : decode bc_M_act 280 = .ok (.ireturn, 1) := by decide +kernel
theorem dc_M_act_281 : decode bc_M_act 281 = .ok (.aload_n 0, 1) := by decide +kernel
theorem dc_M_act_282 : decode bc_M_act 282 = .ok (.aload_n 0, 1) := by decide +kernel
theorem dc_M_act_283 : decode bc_M_act 283 = .ok (.aload_n 0, 1) := by decide +kernel
theorem dc_M_act_284 : decode bc_M_act 284 = .ok (.getfield 227, 3) := by decide +kernel
theorem dc_M_act_287 : decode bc_M_act 287 = .ok (.iconst 1, 1) := by decide +kernel
theorem dc_M_act_288 : decode bc_M_act 288 = .ok (.iadd, 1) := by decide +kernel
theorem dc_M_act_289 : decode bc_M_act 289 = .ok (.invokevirtual 214, 3) := by decide +kernel
theorem dc_M_act_292 : decode bc_M_act 292 = .ok (.invokevirtual 286, 3) := by decide +kernel
theorem dc_M_act_295 : decode bc_M_act 295 = .ok (.ireturn, 1) := by decide +kernel
theorem dc_M_act_296 : decode bc_M_act 296 = .ok (.aload_n 0, 1) := by decide +kernel
theorem dc_M_act_297 : decode bc_M_act 297 = .ok (.aload_n 0, 1) := by decide +kernel
theorem dc_M_act_298 : decode bc_M_act 298 = .ok (.aload_n 0, 1) := by decide +kernel
theorem dc_M_act_299 : decode bc_M_act 299 = .ok (.getfield 227, 3) := by decide +kernel
theorem dc_M_act_302 : decode bc_M_act 302 = .ok (.iconst 1, 1) := by decide +kernel
theorem dc_M_act_303 : decode bc_M_act 303 = .ok (.iadd, 1) := by decide +kernel
theorem dc_M_act_304 : decode bc_M_act 304 = .ok (.invokevirtual 214, 3) := by decide +kernel
theorem dc_M_act_307 : decode bc_M_act 307 = .ok (.invokevirtual 289, 3) := by decide +kernel
theorem dc_M_act_310 : decode bc_M_act 310 = .ok (.ireturn, 1) := by decide +kernel
theorem dc_M_act_311 : decode bc_M_act 311 = .ok (.aload_n 0, 1) := by decide +kernel
theorem dc_M_act_312 : decode bc_M_act 312 = .ok (.invokevirtual 292, 3) := by decide +kernel
theorem dc_M_act_315 : decode bc_M_act 315 = .ok (.ireturn, 1) := by decide +kernel
theorem dc_M_act_316 : decode bc_M_act 316 = .ok (.aload_n 0, 1) := by decide +kernel
theorem dc_M_act_317 : decode bc_M_act 317 = .ok (.bipush 40, 2) := by decide +kernel
theorem dc_M_act_319 : decode bc_M_act 319 = .ok (.aload_n 0, 1) := by decide +kernel
theorem dc_M_act_320 : decode bc_M_act 320 = .ok (.getfield 201, 3) := by decide +kernel
theorem dc_M_act_323 : decode bc_M_act 323 = .ok (.imul, 1) := by decide +kernel
theorem dc_M_act_324 : decode bc_M_act 324 = .ok (.aload_n 0, 1) := by decide +kernel
theorem dc_M_act_325 : decode bc_M_act 325 = .ok (.getfield 227, 3) := by decide +kernel
theorem dc_M_act_328 : decode bc_M_act 328 = .ok (.iadd, 1) := by decide +kernel
theorem dc_M_act_329 : decode bc_M_act 329 = .ok (.invokevirtual 295, 3) := by decide +kernel
theorem dc_M_act_332 : decode bc_M_act 332 = .ok (.iconst 0, 1) := by decide +kernel
theorem dc_M_act_333 : decode bc_M_act 333 = .ok (.ireturn, 1) := by decide +kernel
theorem dc_M_act_334 : decode bc_M_act 334 = .ok (.aload_n 0, 1) := by decide +kernel
theorem dc_M_act_335 : decode bc_M_act 335 = .ok (.bipush 40, 2) := by decide +kernel
theorem dc_M_act_337 : decode bc_M_act 337 = .ok (.aload_n 0, 1) := by decide +kernel
theorem dc_M_act_338 : decode bc_M_act 338 = .ok (.getfield 201, 3) := by decide +kernel
theorem dc_M_act_341 : decode bc_M_act 341 = .ok (.imul, 1) := by decide +kernel
theorem dc_M_act_342 : decode bc_M_act 342 = .ok (.aload_n 0, 1) := by decide +kernel
theorem dc_M_act_343 : decode bc_M_act 343 = .ok (.getfield 227, 3) := by decide +kernel
theorem dc_M_act_346 : decode bc_M_act 346 = .ok (.iadd, 1) := by decide +kernel
theorem dc_M_act_347 : decode bc_M_act 347 = .ok (.invokevirtual 298, 3) := by decide +kernel
theorem dc_M_act_350 : decode bc_M_act 350 = .ok (.ireturn, 1) := by decide +kernel
theorem dc_M_act_351 : decode bc_M_act 351 = .ok (.aload_n 0, 1) := by decide +kernel
theorem dc_M_act_352 : decode bc_M_act 352 = .ok (.bipush 40, 2) := by decide +kernel
theorem dc_M_act_354 : decode bc_M_act 354 = .ok (.aload_n 0, 1) := by decide +kernel
theorem dc_M_act_355 : decode bc_M_act 355 = .ok (.getfield 201, 3) := by decide +kernel
theorem dc_M_act_358 : decode bc_M_act 358 = .ok (.imul, 1) := by decide +kernel
theorem dc_M_act_359 : decode bc_M_act 359 = .ok (.aload_n 0, 1) := by decide +kernel
theorem dc_M_act_360 : decode bc_M_act 360 = .ok (.getfield 227, 3) := by decide +kernel
theorem dc_M_act_363 : decode bc_M_act 363 = .ok (.iadd, 1) := by decide +kernel
theorem dc_M_act_364 : decode bc_M_act 364 = .ok (.invokevirtual 301, 3) := by decide +kernel
theorem dc_M_act_367 : decode bc_M_act 367 = .ok (.iconst 0, 1) := by decide +kernel
theorem dc_M_act_368 : decode bc_M_act 368 = .ok (.ireturn, 1) := by decide +kernel
theorem dc_M_change_0 : decode bc_M_change 0 = .ok (.aload_n 0, 1) := by decide +kernel
theorem dc_M_change_1 : decode bc_M_change 1 = .ok (.getfield 108, 3) := by decide +kernel
theorem dc_M_change_4 : decode bc_M_change 4 = .ok (.aload_n 0, 1) := by decide +kernel
theorem dc_M_change_5 : decode bc_M_change 5 = .ok (.getfield 211, 3) := by decide +kernel
theorem dc_M_change_8 : decode bc_M_change 8 = .ok (.iaload, 1) := by decide +kernel
theorem dc_M_change_9 : decode bc_M_change 9 = .ok (.istore_n 3, 1) := by decide +kernel
theorem dc_M_change_10 : decode bc_M_change 10 = .ok (.aload_n 0, 1) := by decide +kernel
theorem dc_M_change_11 : decode bc_M_change 11 = .ok (.getfield 108, 3) := by decide +kernel
theorem dc_M_change_14 : decode bc_M_change 14 = .ok (.aload_n 0, 1) := by decide +kernel
theorem dc_M_change_15 : decode bc_M_change 15 = .ok (.getfield 211, 3) := by decide +kernel
theorem dc_M_change_18 : decode bc_M_change 18 = .ok (.iload_n 1, 1) := by decide +kernel
theorem dc_M_change_19 : decode bc_M_change 19 = .ok (.bipush 43, 2) := by decide +kernel
theorem dc_M_change_21 : decode bc_M_change 21 = .ok (.if_icmp .ne 9, 3) := by decide +kernel
theorem dc_M_change_24 : decode bc_M_change 24 = .ok (.iload_n 3, 1) := by decide +kernel
theorem dc_M_change_25 : decode bc_M_change 25 = .ok (.iload_n 2, 1) := by decide +kernel
theorem dc_M_change_26 : decode bc_M_change 26 = .ok (.iadd, 1) := by decide +kernel
theorem dc_M_change_27 : decode bc_M_change 27 = .ok (.goto 18, 3) := by decide +kernel
theorem dc_M_change_30 : decode bc_M_change 30 = .ok (.iload_n 1, 1) := by decide +kernel
theorem dc_M_change_31 : decode bc_M_change 31 = .ok (.bipush 45, 2) := by decide +kernel
theorem dc_M_change_33 : decode bc_M_change 33 = .ok (.if_icmp .ne 9, 3) := by decide +kernel
theorem dc_M_change_36 : decode bc_M_change 36 = .ok (.iload_n 3, 1) := by decide +kernel
theorem dc_M_change_37 : decode bc_M_change 37 = .ok (.iload_n 2, 1) := by decide +kernel
theorem dc_M_change_38 : decode bc_M_change 38 = .ok (.isub, 1) := by decide +kernel
theorem dc_M_change_39 : decode bc_M_change 39 = .ok (.goto 6, 3) := by decide +kernel
theorem dc_M_change_42 : decode bc_M_change 42 = .ok (.iload_n 3, 1) := by decide +kernel
theorem dc_M_change_43 : decode bc_M_change 43 = .ok (.iload_n 2, 1) := by decide +kernel
theorem dc_M_change_44 : decode bc_M_change 44 = .ok (.imul, 1) := by decide +kernel
theorem dc_M_change_45 : decode bc_M_change 45 = .ok (.iastore, 1) := by decide +kernel
theorem dc_M_change_46 : decode bc_M_change 46 = .ok (.aload_n 0, 1) := by decide +kernel
theorem dc_M_change_47 : decode bc_M_change 47 = .ok (.aload_n 0, 1) := by decide +kernel
theorem dc_M_change_48 : decode bc_M_change 48 = .ok (.getfield 204, 3) := by decide +kernel
theorem dc_M_change_51 : decode bc_M_change 51 = .ok (.putfield 227, 3) := by decide +kernel
theorem dc_M_change_54 : decode bc_M_change 54 = .ok (.return_, 1) := by decide +kernel
theorem dc_M_choose_0 : decode bc_M_choose 0 = .ok (.aload_n 0, 1) := by decide +kernel
theorem dc_M_choose_1 : decode bc_M_choose 1 = .ok (.getfield 204, 3) := by decide +kernel
theorem dc_M_choose_4 : decode bc_M_choose 4 = .ok (.istore_n 2, 1) := by decide +kernel
theorem dc_M_choose_5 : decode bc_M_choose 5 = .ok (.aload_n 0, 1) := by decide +kernel
theorem dc_M_choose_6 : decode bc_M_choose 6 = .ok (.iload_n 2, 1) := by decide +kernel
theorem dc_M_choose_7 : decode bc_M_choose 7 = .ok (.invokevirtual 304, 3) := by decide +kernel
theorem dc_M_choose_10 : decode bc_M_choose 10 = .ok (.istore_n 3, 1) := by decide +kernel
theorem dc_M_choose_11 : decode bc_M_choose 11 = .ok (.aload_n 0, 1) := by decide +kernel
theorem dc_M_choose_12 : decode bc_M_choose 12 = .ok (.iload_n 3, 1) := by decide +kernel
theorem dc_M_choose_13 : decode bc_M_choose 13 = .ok (.invokevirtual 207, 3) := by decide +kernel
theorem dc_M_choose_16 : decode bc_M_choose 16 = .ok (.bipush 58, 2) := by decide +kernel
theorem dc_M_choose_18 : decode bc_M_choose 18 = .ok (.if_icmp .ne 7, 3) := by decide +kernel
theorem dc_M_choose_21 : decode bc_M_choose 21 = .ok (.iconst 1, 1) := by decide +kernel
theorem dc_M_choose_22 : decode bc_M_choose 22 = .ok (.goto 4, 3) := by decide +kernel
theorem dc_M_choose_25 : decode bc_M_choose 25 = .ok (.iconst 0, 1) := by decide +kernel
theorem dc_M_choose_26 : decode bc_M_choose 26 = .ok (.istore 4, 2) := by decide +kernel
theorem dc_M_choose_28 : decode bc_M_choose 28 = .ok (.iload 4, 2) := by decide +kernel
theorem dc_M_choose_30 : decode bc_M_choose 30 = .ok (.ifCond .eq 13, 3) := by decide +kernel
theorem dc_M_choose_33 : decode bc_M_choose 33 = .ok (.aload_n 0, 1) := by decide +kernel
theorem dc_M_choose_34 : decode bc_M_choose 34 = .ok (.iload_n 3, 1) := by decide +kernel
theorem dc_M_choose_35 : decode bc_M_choose 35 = .ok (.iconst 1, 1) := by decide +kernel
theorem dc_M_choose_36 : decode bc_M_choose 36 = .ok (.iadd, 1) := by decide +kernel
theorem dc_M_choose_37 : decode bc_M_choose 37 = .ok (.invokevirtual 304, 3) := by decide +kernel
theorem dc_M_choose_40 : decode bc_M_choose 40 = .ok (.goto 4, 3) := by decide +kernel
theorem dc_M_choose_43 : decode bc_M_choose 43 = .ok (.iload_n 3, 1) := by decide +kernel
theorem dc_M_choose_44 : decode bc_M_choose 44 = .ok (.istore 5, 2) := by decide +kernel
theorem dc_M_choose_46 : decode bc_M_choose 46 = .ok (.iload_n 1, 1) := by decide +kernel
theorem dc_M_choose_47 : decode bc_M_choose 47 = .ok (.ifCond .ne 8, 3) := by decide +kernel
theorem dc_M_choose_50 : decode bc_M_choose 50 = .ok (.iload 4, 2) := by decide +kernel
theorem dc_M_choose_52 : decode bc_M_choose 52 = .ok (.ifCond .eq 10, 3) := by decide +kernel
theorem dc_M_choose_55 : decode bc_M_choose 55 = .ok (.aload_n 0, 1) := by decide +kernel
theorem dc_M_choose_56 : decode bc_M_choose 56 = .ok (.iconst 1, 1) := by decide +kernel
theorem dc_M_choose_57 : decode bc_M_choose 57 = .ok (.iload 5, 2) := by decide +kernel
theorem dc_M_choose_59 : decode bc_M_choose 59 = .ok (.invokevirtual 307, 3) := by decide +kernel
theorem dc_M_choose_62 : decode bc_M_choose 62 = .ok (.aload_n 0, 1) := by decide +kernel
theorem dc_M_choose_63 : decode bc_M_choose 63 = .ok (.iload_n 1, 1) := by decide +kernel
theorem dc_M_choose_64 : decode bc_M_choose 64 = .ok (.ifCond .eq 9, 3) := by decide +kernel
theorem dc_M_choose_67 : decode bc_M_choose 67 = .ok (.iload_n 2, 1) := by decide +kernel
theorem dc_M_choose_68 : decode bc_M_choose 68 = .ok (.iconst 1, 1) := by decide +kernel
theorem dc_M_choose_69 : decode bc_M_choose 69 = .ok (.iadd, 1) := by decide +kernel
theorem dc_M_choose_70 : decode bc_M_choose 70 = .ok (.goto 16, 3) := by decide +kernel
theorem dc_M_choose_73 : decode bc_M_choose 73 = .ok (.iload 4, 2) := by decide +kernel
theorem dc_M_choose_75 : decode bc_M_choose 75 = .ok (.ifCond .eq 9, 3) := by decide +kernel
theorem dc_M_choose_78 : decode bc_M_choose 78 = .ok (.iload_n 3, 1) := by decide +kernel
theorem dc_M_choose_79 : decode bc_M_choose 79 = .ok (.iconst 2, 1) := by decide +kernel
theorem dc_M_choose_80 : decode bc_M_choose 80 = .ok (.iadd, 1) := by decide +kernel
theorem dc_M_choose_81 : decode bc_M_choose 81 = .ok (.goto 5, 3) := by decide +kernel
theorem dc_M_choose_84 : decode bc_M_choose 84 = .ok (.iload 5, 2) := by decide +kernel
theorem dc_M_choose_86 : decode bc_M_choose 86 = .ok (.putfield 227, 3) := by decide +kernel
theorem dc_M_choose_89 : decode bc_M_choose 89 = .ok (.return_, 1) := by decide +kernel
theorem dc_M_split_0 : decode bc_M_split 0 = .ok (.aload_n 0, 1) := by decide +kernel
theorem dc_M_split_1 : decode bc_M_split 1 = .ok (.iconst 2, 1) := by decide +kernel
theorem dc_M_split_2 : decode bc_M_split 2 = .ok (.aload_n 0, 1) := by decide +kernel
theorem dc_M_split_3 : decode bc_M_split 3 = .ok (.aload_n 0, 1) := by decide +kernel
theorem dc_M_split_4 : decode bc_M_split 4 = .ok (.getfield 204, 3) := by decide +kernel
theorem dc_M_split_7 : decode bc_M_split 7 = .ok (.invokevirtual 304, 3) := by decide +kernel
theorem dc_M_split_10 : decode bc_M_split 10 = .ok (.invokevirtual 307, 3) := by decide +kernel
theorem dc_M_split_13 : decode bc_M_split 13 = .ok (.aload_n 0, 1) := by decide +kernel
theorem dc_M_split_14 : decode bc_M_split 14 = .ok (.getfield 126, 3) := by decide +kernel
theorem dc_M_split_17 : decode bc_M_split 17 = .ok (.aload_n 0, 1) := by decide +kernel
theorem dc_M_split_18 : decode bc_M_split 18 = .ok (.getfield 217, 3) := by decide +kernel
theorem dc_M_split_21 : decode bc_M_split 21 = .ok (.iconst 1, 1) := by decide +kernel
theorem dc_M_split_22 : decode bc_M_split 22 = .ok (.isub, 1) := by decide +kernel
theorem dc_M_split_23 : decode bc_M_split 23 = .ok (.aload_n 0, 1) := by decide +kernel
theorem dc_M_split_24 : decode bc_M_split 24 = .ok (.getfield 204, 3) := by decide +kernel
theorem dc_M_split_27 : decode bc_M_split 27 = .ok (.iconst 1, 1) := by decide +kernel
theorem dc_M_split_28 : decode bc_M_split 28 = .ok (.iadd, 1) := by decide +kernel
theorem dc_M_split_29 : decode bc_M_split 29 = .ok (.iastore, 1) := by decide +kernel
theorem dc_M_split_30 : decode bc_M_split 30 = .ok (.aload_n 0, 1) := by decide +kernel
theorem dc_M_split_31 : decode bc_M_split 31 = .ok (.getfield 129, 3) := by decide +kernel
theorem dc_M_split_34 : decode bc_M_split 34 = .ok (.aload_n 0, 1) := by decide +kernel
theorem dc_M_split_35 : decode bc_M_split 35 = .ok (.getfield 217, 3) := by decide +kernel
theorem dc_M_split_38 : decode bc_M_split 38 = .ok (.iconst 1, 1) := by decide +kernel
theorem dc_M_split_39 : decode bc_M_split 39 = .ok (.isub, 1) := by decide +kernel
theorem dc_M_split_40 : decode bc_M_split 40 = .ok (.iload_n 1, 1) := by decide +kernel
theorem dc_M_split_41 : decode bc_M_split 41 = .ok (.iastore, 1) := by decide +kernel
theorem dc_M_split_42 : decode bc_M_split 42 = .ok (.aload_n 0, 1) := by decide +kernel
theorem dc_M_split_43 : decode bc_M_split 43 = .ok (.getfield 132, 3) := by decide +kernel
theorem dc_M_split_46 : decode bc_M_split 46 = .ok (.aload_n 0, 1) := by decide +kernel
theorem dc_M_split_47 : decode bc_M_split 47 = .ok (.getfield 217, 3) := by decide +kernel
theorem dc_M_split_50 : decode bc_M_split 50 = .ok (.iconst 1, 1) := by decide +kernel
theorem dc_M_split_51 : decode bc_M_split 51 = .ok (.isub, 1) := by decide +kernel
theorem dc_M_split_52 : decode bc_M_split 52 = .ok (.iconst 0, 1) := by decide +kernel
theorem dc_M_split_53 : decode bc_M_split 53 = .ok (.iastore, 1) := by decide +kernel
theorem dc_M_split_54 : decode bc_M_split 54 = .ok (.aload_n 0, 1) := by decide +kernel
theorem dc_M_split_55 : decode bc_M_split 55 = .ok (.getfield 135, 3) := by decide +kernel
theorem dc_M_split_58 : decode bc_M_split 58 = .ok (.aload_n 0, 1) := by decide +kernel
theorem dc_M_split_59 : decode bc_M_split 59 = .ok (.getfield 217, 3) := by decide +kernel
theorem dc_M_split_62 : decode bc_M_split 62 = .ok (.iconst 1, 1) := by decide +kernel
theorem dc_M_split_63 : decode bc_M_split 63 = .ok (.isub, 1) := by decide +kernel
theorem dc_M_split_64 : decode bc_M_split 64 = .ok (.iconst 0, 1) := by decide +kernel
theorem dc_M_split_65 : decode bc_M_split 65 = .ok (.iastore, 1) := by decide +kernel
theorem dc_M_split_66 : decode bc_M_split 66 = .ok (.aload_n 0, 1) := by decide +kernel
theorem dc_M_split_67 : decode bc_M_split 67 = .ok (.getfield 138, 3) := by decide +kernel
theorem dc_M_split_70 : decode bc_M_split 70 = .ok (.aload_n 0, 1) := by decide +kernel
theorem dc_M_split_71 : decode bc_M_split 71 = .ok (.getfield 217, 3) := by decide +kernel
theorem dc_M_split_74 : decode bc_M_split 74 = .ok (.iconst 1, 1) := by decide +kernel
theorem dc_M_split_75 : decode bc_M_split 75 = .ok (.isub, 1) := by decide +kernel
theorem dc_M_split_76 : decode bc_M_split 76 = .ok (.aload_n 0, 1) := by decide +kernel
theorem dc_M_split_77 : decode bc_M_split 77 = .ok (.getfield 108, 3) := by decide +kernel
theorem dc_M_split_80 : decode bc_M_split 80 = .ok (.aload_n 0, 1) := by decide +kernel
theorem dc_M_split_81 : decode bc_M_split 81 = .ok (.getfield 211, 3) := by decide +kernel
theorem dc_M_split_84 : decode bc_M_split 84 = .ok (.iaload, 1) := by decide +kernel
theorem dc_M_split_85 : decode bc_M_split 85 = .ok (.iastore, 1) := by decide +kernel
theorem dc_M_split_86 : decode bc_M_split 86 = .ok (.aload_n 0, 1) := by decide +kernel
theorem dc_M_split_87 : decode bc_M_split 87 = .ok (.invokevirtual 230, 3) := by decide +kernel
theorem dc_M_split_90 : decode bc_M_split 90 = .ok (.return_, 1) := by decide +kernel
theorem dc_M_visit_0 : decode bc_M_visit 0 = .ok (.aload_n 0, 1) := by decide +kernel
theorem dc_M_visit_1 : decode bc_M_visit 1 = .ok (.iconst 0, 1) := by decide +kernel
theorem dc_M_visit_2 : decode bc_M_visit 2 = .ok (.aload_n 0, 1) := by decide +kernel
theorem dc_M_visit_3 : decode bc_M_visit 3 = .ok (.getfield 204, 3) := by decide +kernel
theorem dc_M_visit_6 : decode bc_M_visit 6 = .ok (.invokevirtual 307, 3) := by decide +kernel
theorem dc_M_visit_9 : decode bc_M_visit 9 = .ok (.aload_n 0, 1) := by decide +kernel
theorem dc_M_visit_10 : decode bc_M_visit 10 = .ok (.iload_n 1, 1) := by decide +kernel
theorem dc_M_visit_11 : decode bc_M_visit 11 = .ok (.putfield 201, 3) := by decide +kernel
theorem dc_M_visit_14 : decode bc_M_visit 14 = .ok (.aload_n 0, 1) := by decide +kernel
theorem dc_M_visit_15 : decode bc_M_visit 15 = .ok (.iconst 0, 1) := by decide +kernel
theorem dc_M_visit_16 : decode bc_M_visit 16 = .ok (.putfield 227, 3) := by decide +kernel
theorem dc_M_visit_19 : decode bc_M_visit 19 = .ok (.return_, 1) := by decide +kernel
theorem dc_M_copy_0 : decode bc_M_copy 0 = .ok (.aload_n 0, 1) := by decide +kernel
theorem dc_M_copy_1 : decode bc_M_copy 1 = .ok (.getfield 189, 3) := by decide +kernel
theorem dc_M_copy_4 : decode bc_M_copy 4 = .ok (.bipush 8, 2) := by decide +kernel
theorem dc_M_copy_6 : decode bc_M_copy 6 = .ok (.if_icmp .lt 6, 3) := by decide +kernel
theorem dc_M_copy_9 : decode bc_M_copy 9 = .ok (.bipush 6, 2) := by decide +kernel
theorem dc_M_copy_11 : decode bc_M_copy 11 = .ok (.ireturn, 1) := by decide +kernel
theorem dc_M_copy_12 : decode bc_M_copy 12 = .ok (.aload_n 0, 1) := by decide +kernel
theorem dc_M_copy_13 : decode bc_M_copy 13 = .ok (.getfield 57, 3) := by decide +kernel
theorem dc_M_copy_16 : decode bc_M_copy 16 = .ok (.aload_n 0, 1) := by decide +kernel
theorem dc_M_copy_17 : decode bc_M_copy 17 = .ok (.getfield 189, 3) := by decide +kernel
theorem dc_M_copy_20 : decode bc_M_copy 20 = .ok (.iload_n 1, 1) := by decide +kernel
theorem dc_M_copy_21 : decode bc_M_copy 21 = .ok (.iastore, 1) := by decide +kernel
theorem dc_M_copy_22 : decode bc_M_copy 22 = .ok (.aload_n 0, 1) := by decide +kernel
theorem dc_M_copy_23 : decode bc_M_copy 23 = .ok (.getfield 60, 3) := by decide +kernel
theorem dc_M_copy_26 : decode bc_M_copy 26 = .ok (.aload_n 0, 1) := by decide +kernel
theorem dc_M_copy_27 : decode bc_M_copy 27 = .ok (.getfield 189, 3) := by decide +kernel
theorem dc_M_copy_30 : decode bc_M_copy 30 = .ok (.aload_n 0, 1) := by decide +kernel
theorem dc_M_copy_31 : decode bc_M_copy 31 = .ok (.getfield 108, 3) := by decide +kernel
theorem dc_M_copy_34 : decode bc_M_copy 34 = .ok (.aload_n 0, 1) := by decide +kernel
theorem dc_M_copy_35 : decode bc_M_copy 35 = .ok (.getfield 211, 3) := by decide +kernel
theorem dc_M_copy_38 : decode bc_M_copy 38 = .ok (.iaload, 1) := by decide +kernel
theorem dc_M_copy_39 : decode bc_M_copy 39 = .ok (.iastore, 1) := by decide +kernel
theorem dc_M_copy_40 : decode bc_M_copy 40 = .ok (.aload_n 0, 1) := by decide +kernel
theorem dc_M_copy_41 : decode bc_M_copy 41 = .ok (.getfield 63, 3) := by decide +kernel
theorem dc_M_copy_44 : decode bc_M_copy 44 = .ok (.aload_n 0, 1) := by decide +kernel
theorem dc_M_copy_45 : decode bc_M_copy 45 = .ok (.getfield 189, 3) := by decide +kernel
theorem dc_M_copy_48 : decode bc_M_copy 48 = .ok (.aload_n 0, 1) := by decide +kernel
theorem dc_M_copy_49 : decode bc_M_copy 49 = .ok (.getfield 111, 3) := by decide +kernel
theorem dc_M_copy_52 : decode bc_M_copy 52 = .ok (.aload_n 0, 1) := by decide +kernel
theorem dc_M_copy_53 : decode bc_M_copy 53 = .ok (.getfield 211, 3) := by decide +kernel
theorem dc_M_copy_56 : decode bc_M_copy 56 = .ok (.iaload, 1) := by decide +kernel
theorem dc_M_copy_57 : decode bc_M_copy 57 = .ok (.iastore, 1) := by decide +kernel
theorem dc_M_copy_58 : decode bc_M_copy 58 = .ok (.aload_n 0, 1) := by decide +kernel
theorem dc_M_copy_59 : decode bc_M_copy 59 = .ok (.dup, 1) := by decide +kernel
theorem dc_M_copy_60 : decode bc_M_copy 60 = .ok (.getfield 189, 3) := by decide +kernel
theorem dc_M_copy_63 : decode bc_M_copy 63 = .ok (.iconst 1, 1) := by decide +kernel
theorem dc_M_copy_64 : decode bc_M_copy 64 = .ok (.iadd, 1) := by decide +kernel
theorem dc_M_copy_65 : decode bc_M_copy 65 = .ok (.putfield 189, 3) := by decide +kernel
theorem dc_M_copy_68 : decode bc_M_copy 68 = .ok (.aload_n 0, 1) := by decide +kernel
theorem dc_M_copy_69 : decode bc_M_copy 69 = .ok (.aload_n 0, 1) := by decide +kernel
theorem dc_M_copy_70 : decode bc_M_copy 70 = .ok (.getfield 204, 3) := by decide +kernel
theorem dc_M_copy_73 : decode bc_M_copy 73 = .ok (.putfield 227, 3) := by decide +kernel
theorem dc_M_copy_76 : decode bc_M_copy 76 = .ok (.iconst 0, 1) := by decide +kernel
theorem dc_M_copy_77 : decode bc_M_copy 77 = .ok (.ireturn, 1) := by decide +kernel
theorem dc_M_deliver_0 : decode bc_M_deliver 0 = .ok (.aload_n 0, 1) := by decide +kernel
theorem dc_M_deliver_1 : decode bc_M_deliver 1 = .ok (.getfield 51, 3) := by decide +kernel
theorem dc_M_deliver_4 : decode bc_M_deliver 4 = .ok (.bipush 8, 2) := by decide +kernel
theorem dc_M_deliver_6 : decode bc_M_deliver 6 = .ok (.iload_n 1, 1) := by decide +kernel
theorem dc_M_deliver_7 : decode bc_M_deliver 7 = .ok (.imul, 1) := by decide +kernel
theorem dc_M_deliver_8 : decode bc_M_deliver 8 = .ok (.aload_n 0, 1) := by decide +kernel
theorem dc_M_deliver_9 : decode bc_M_deliver 9 = .ok (.getfield 48, 3) := by decide +kernel
theorem dc_M_deliver_12 : decode bc_M_deliver 12 = .ok (.iload_n 1, 1) := by decide +kernel
theorem dc_M_deliver_13 : decode bc_M_deliver 13 = .ok (.iaload, 1) := by decide +kernel
theorem dc_M_deliver_14 : decode bc_M_deliver 14 = .ok (.bipush 8, 2) := by decide +kernel
theorem dc_M_deliver_16 : decode bc_M_deliver 16 = .ok (.irem, 1) := by decide +kernel
theorem dc_M_deliver_17 : decode bc_M_deliver 17 = .ok (.iadd, 1) := by decide +kernel
theorem dc_M_deliver_18 : decode bc_M_deliver 18 = .ok (.iload_n 2, 1) := by decide +kernel
theorem dc_M_deliver_19 : decode bc_M_deliver 19 = .ok (.iastore, 1) := by decide +kernel
theorem dc_M_deliver_20 : decode bc_M_deliver 20 = .ok (.aload_n 0, 1) := by decide +kernel
theorem dc_M_deliver_21 : decode bc_M_deliver 21 = .ok (.getfield 54, 3) := by decide +kernel
theorem dc_M_deliver_24 : decode bc_M_deliver 24 = .ok (.bipush 8, 2) := by decide +kernel
theorem dc_M_deliver_26 : decode bc_M_deliver 26 = .ok (.iload_n 1, 1) := by decide +kernel
theorem dc_M_deliver_27 : decode bc_M_deliver 27 = .ok (.imul, 1) := by decide +kernel
theorem dc_M_deliver_28 : decode bc_M_deliver 28 = .ok (.aload_n 0, 1) := by decide +kernel
theorem dc_M_deliver_29 : decode bc_M_deliver 29 = .ok (.getfield 48, 3) := by decide +kernel
theorem dc_M_deliver_32 : decode bc_M_deliver 32 = .ok (.iload_n 1, 1) := by decide +kernel
theorem dc_M_deliver_33 : decode bc_M_deliver 33 = .ok (.iaload, 1) := by decide +kernel
theorem dc_M_deliver_34 : decode bc_M_deliver 34 = .ok (.bipush 8, 2) := by decide +kernel
theorem dc_M_deliver_36 : decode bc_M_deliver 36 = .ok (.irem, 1) := by decide +kernel
theorem dc_M_deliver_37 : decode bc_M_deliver 37 = .ok (.iadd, 1) := by decide +kernel
theorem dc_M_deliver_38 : decode bc_M_deliver 38 = .ok (.iload_n 3, 1) := by decide +kernel
theorem dc_M_deliver_39 : decode bc_M_deliver 39 = .ok (.iastore, 1) := by decide +kernel
theorem dc_M_deliver_40 : decode bc_M_deliver 40 = .ok (.aload_n 0, 1) := by decide +kernel
theorem dc_M_deliver_41 : decode bc_M_deliver 41 = .ok (.getfield 48, 3) := by decide +kernel
theorem dc_M_deliver_44 : decode bc_M_deliver 44 = .ok (.iload_n 1, 1) := by decide +kernel
theorem dc_M_deliver_45 : decode bc_M_deliver 45 = .ok (.dup2, 1) := by decide +kernel
theorem dc_M_deliver_46 : decode bc_M_deliver 46 = .ok (.iaload, 1) := by decide +kernel
theorem dc_M_deliver_47 : decode bc_M_deliver 47 = .ok (.iconst 1, 1) := by decide +kernel
theorem dc_M_deliver_48 : decode bc_M_deliver 48 = .ok (.iadd, 1) := by decide +kernel
theorem dc_M_deliver_49 : decode bc_M_deliver 49 = .ok (.iastore, 1) := by decide +kernel
theorem dc_M_deliver_50 : decode bc_M_deliver 50 = .ok (.return_, 1) := by decide +kernel
theorem dc_M_to_0 : decode bc_M_to 0 = .ok (.aload_n 0, 1) := by decide +kernel
theorem dc_M_to_1 : decode bc_M_to 1 = .ok (.getfield 42, 3) := by decide +kernel
theorem dc_M_to_4 : decode bc_M_to 4 = .ok (.iload_n 1, 1) := by decide +kernel
theorem dc_M_to_5 : decode bc_M_to 5 = .ok (.iaload, 1) := by decide +kernel
theorem dc_M_to_6 : decode bc_M_to 6 = .ok (.ifCond .le 20, 3) := by decide +kernel
theorem dc_M_to_9 : decode bc_M_to 9 = .ok (.aload_n 0, 1) := by decide +kernel
theorem dc_M_to_10 : decode bc_M_to 10 = .ok (.getfield 42, 3) := by decide +kernel
theorem dc_M_to_13 : decode bc_M_to 13 = .ok (.iload_n 1, 1) := by decide +kernel
theorem dc_M_to_14 : decode bc_M_to 14 = .ok (.dup2, 1) := by decide +kernel
theorem dc_M_to_15 : decode bc_M_to 15 = .ok (.iaload, 1) := by decide +kernel
theorem dc_M_to_16 : decode bc_M_to 16 = .ok (.iconst 1, 1) := by decide +kernel
theorem dc_M_to_17 : decode bc_M_to 17 = .ok (.isub, 1) := by decide +kernel
theorem dc_M_to_18 : decode bc_M_to 18 = .ok (.iastore, 1) := by decide +kernel
theorem dc_M_to_19 : decode bc_M_to 19 = .ok (.aload_n 0, 1) := by decide +kernel
theorem dc_M_to_20 : decode bc_M_to 20 = .ok (.getfield 45, 3) := by decide +kernel
theorem dc_M_to_23 : decode bc_M_to 23 = .ok (.iload_n 1, 1) := by decide +kernel
theorem dc_M_to_24 : decode bc_M_to 24 = .ok (.iaload, 1) := by decide +kernel
theorem dc_M_to_25 : decode bc_M_to 25 = .ok (.ireturn, 1) := by decide +kernel
theorem dc_M_to_26 : decode bc_M_to 26 = .ok (.aload_n 0, 1) := by decide +kernel
theorem dc_M_to_27 : decode bc_M_to 27 = .ok (.iload_n 1, 1) := by decide +kernel
theorem dc_M_to_28 : decode bc_M_to 28 = .ok (.aload_n 0, 1) := by decide +kernel
theorem dc_M_to_29 : decode bc_M_to 29 = .ok (.getfield 108, 3) := by decide +kernel
theorem dc_M_to_32 : decode bc_M_to 32 = .ok (.aload_n 0, 1) := by decide +kernel
theorem dc_M_to_33 : decode bc_M_to 33 = .ok (.getfield 211, 3) := by decide +kernel
theorem dc_M_to_36 : decode bc_M_to 36 = .ok (.iaload, 1) := by decide +kernel
theorem dc_M_to_37 : decode bc_M_to 37 = .ok (.aload_n 0, 1) := by decide +kernel
theorem dc_M_to_38 : decode bc_M_to 38 = .ok (.getfield 111, 3) := by decide +kernel
theorem dc_M_to_41 : decode bc_M_to 41 = .ok (.aload_n 0, 1) := by decide +kernel
theorem dc_M_to_42 : decode bc_M_to 42 = .ok (.getfield 211, 3) := by decide +kernel
theorem dc_M_to_45 : decode bc_M_to 45 = .ok (.iaload, 1) := by decide +kernel
theorem dc_M_to_46 : decode bc_M_to 46 = .ok (.invokevirtual 257, 3) := by decide +kernel
theorem dc_M_to_49 : decode bc_M_to 49 = .ok (.iconst 0, 1) := by decide +kernel
theorem dc_M_to_50 : decode bc_M_to 50 = .ok (.ireturn, 1) := by decide +kernel
theorem dc_M_one_0 : decode bc_M_one 0 = .ok (.aload_n 0, 1) := by decide +kernel
theorem dc_M_one_1 : decode bc_M_one 1 = .ok (.getfield 204, 3) := by decide +kernel
theorem dc_M_one_4 : decode bc_M_one 4 = .ok (.istore_n 2, 1) := by decide +kernel
theorem dc_M_one_5 : decode bc_M_one 5 = .ok (.aload_n 0, 1) := by decide +kernel
theorem dc_M_one_6 : decode bc_M_one 6 = .ok (.iload_n 1, 1) := by decide +kernel
theorem dc_M_one_7 : decode bc_M_one 7 = .ok (.invokevirtual 310, 3) := by decide +kernel
theorem dc_M_one_10 : decode bc_M_one 10 = .ok (.istore_n 3, 1) := by decide +kernel
theorem dc_M_one_11 : decode bc_M_one 11 = .ok (.aload_n 0, 1) := by decide +kernel
theorem dc_M_one_12 : decode bc_M_one 12 = .ok (.iload_n 3, 1) := by decide +kernel
theorem dc_M_one_13 : decode bc_M_one 13 = .ok (.ifCond .ne 7, 3) := by decide +kernel
theorem dc_M_one_16 : decode bc_M_one 16 = .ok (.iload_n 2, 1) := by decide +kernel
theorem dc_M_one_17 : decode bc_M_one 17 = .ok (.goto 7, 3) := by decide +kernel
theorem dc_M_one_20 : decode bc_M_one 20 = .ok (.aload_n 0, 1) := by decide +kernel
theorem dc_M_one_21 : decode bc_M_one 21 = .ok (.getfield 227, 3) := by decide +kernel
theorem dc_M_one_24 : decode bc_M_one 24 = .ok (.putfield 227, 3) := by decide +kernel
theorem dc_M_one_27 : decode bc_M_one 27 = .ok (.iload_n 3, 1) := by decide +kernel
theorem dc_M_one_28 : decode bc_M_one 28 = .ok (.ireturn, 1) := by decide +kernel
theorem dc_M_several_0 : decode bc_M_several 0 = .ok (.iconst 0, 1) := by decide +kernel
theorem dc_M_several_1 : decode bc_M_several 1 = .ok (.istore_n 1, 1) := by decide +kernel
theorem dc_M_several_2 : decode bc_M_several 2 = .ok (.iload_n 1, 1) := by decide +kernel
theorem dc_M_several_3 : decode bc_M_several 3 = .ok (.iconst 4, 1) := by decide +kernel
theorem dc_M_several_4 : decode bc_M_several 4 = .ok (.if_icmp .ge 42, 3) := by decide +kernel
theorem dc_M_several_7 : decode bc_M_several 7 = .ok (.aload_n 0, 1) := by decide +kernel
theorem dc_M_several_8 : decode bc_M_several 8 = .ok (.getfield 111, 3) := by decide +kernel
theorem dc_M_several_11 : decode bc_M_several 11 = .ok (.aload_n 0, 1) := by decide +kernel
theorem dc_M_several_12 : decode bc_M_several 12 = .ok (.getfield 211, 3) := by decide +kernel
theorem dc_M_several_15 : decode bc_M_several 15 = .ok (.iaload, 1) := by decide +kernel
theorem dc_M_several_16 : decode bc_M_several 16 = .ok (.iload_n 1, 1) := by decide +kernel
theorem dc_M_several_17 : decode bc_M_several 17 = .ok (.ishr, 1) := by decide +kernel
theorem dc_M_several_18 : decode bc_M_several 18 = .ok (.iconst 1, 1) := by decide +kernel
theorem dc_M_several_19 : decode bc_M_several 19 = .ok (.iand, 1) := by decide +kernel
theorem dc_M_several_20 : decode bc_M_several 20 = .ok (.iconst 1, 1) := by decide +kernel
theorem dc_M_several_21 : decode bc_M_several 21 = .ok (.if_icmp .ne 11, 3) := by decide +kernel
theorem dc_M_several_24 : decode bc_M_several 24 = .ok (.aload_n 0, 1) := by decide +kernel
theorem dc_M_several_25 : decode bc_M_several 25 = .ok (.iload_n 1, 1) := by decide +kernel
theorem dc_M_several_26 : decode bc_M_several 26 = .ok (.invokevirtual 310, 3) := by decide +kernel
theorem dc_M_several_29 : decode bc_M_several 29 = .ok (.goto 4, 3) := by decide +kernel
theorem dc_M_several_32 : decode bc_M_several 32 = .ok (.iconst 0, 1) := by decide +kernel
theorem dc_M_several_33 : decode bc_M_several 33 = .ok (.istore_n 2, 1) := by decide +kernel
theorem dc_M_several_34 : decode bc_M_several 34 = .ok (.iload_n 2, 1) := by decide +kernel
theorem dc_M_several_35 : decode bc_M_several 35 = .ok (.ifCond .le 5, 3) := by decide +kernel
theorem dc_M_several_38 : decode bc_M_several 38 = .ok (.iload_n 2, 1) := by decide +kernel
theorem dc_M_several_39 : decode bc_M_several 39 = .ok (.ireturn, 1) := by decide +kernel
theorem dc_M_several_40 : decode bc_M_several 40 = .ok (.iinc 1 1, 3) := by decide +kernel
theorem dc_M_several_43 : decode bc_M_several 43 = .ok (.goto (-41), 3) := by decide +kernel
theorem dc_M_several_46 : decode bc_M_several 46 = .ok (.aload_n 0, 1) := by decide +kernel
theorem dc_M_several_47 : decode bc_M_several 47 = .ok (.dup, 1) := by decide +kernel
theorem dc_M_several_48 : decode bc_M_several 48 = .ok (.getfield 227, 3) := by decide +kernel
theorem dc_M_several_51 : decode bc_M_several 51 = .ok (.iconst 1, 1) := by decide +kernel
theorem dc_M_several_52 : decode bc_M_several 52 = .ok (.iadd, 1) := by decide +kernel
theorem dc_M_several_53 : decode bc_M_several 53 = .ok (.putfield 227, 3) := by decide +kernel
theorem dc_M_several_56 : decode bc_M_several 56 = .ok (.iconst 0, 1) := by decide +kernel
theorem dc_M_several_57 : decode bc_M_several 57 = .ok (.ireturn, 1) := by decide +kernel
theorem dc_M_once_0 : decode bc_M_once 0 = .ok (.aload_n 0, 1) := by decide +kernel
theorem dc_M_once_1 : decode bc_M_once 1 = .ok (.getfield 111, 3) := by decide +kernel
theorem dc_M_once_4 : decode bc_M_once 4 = .ok (.aload_n 0, 1) := by decide +kernel
theorem dc_M_once_5 : decode bc_M_once 5 = .ok (.getfield 211, 3) := by decide +kernel
theorem dc_M_once_8 : decode bc_M_once 8 = .ok (.iaload, 1) := by decide +kernel
theorem dc_M_once_9 : decode bc_M_once 9 = .ok (.istore_n 2, 1) := by decide +kernel
theorem dc_M_once_10 : decode bc_M_once 10 = .ok (.iconst 4, 1) := by decide +kernel
theorem dc_M_once_11 : decode bc_M_once 11 = .ok (.iload_n 1, 1) := by decide +kernel
theorem dc_M_once_12 : decode bc_M_once 12 = .ok (.imul, 1) := by decide +kernel
theorem dc_M_once_13 : decode bc_M_once 13 = .ok (.istore_n 3, 1) := by decide +kernel
theorem dc_M_once_14 : decode bc_M_once 14 = .ok (.aload_n 0, 1) := by decide +kernel
theorem dc_M_once_15 : decode bc_M_once 15 = .ok (.dup, 1) := by decide +kernel
theorem dc_M_once_16 : decode bc_M_once 16 = .ok (.getfield 227, 3) := by decide +kernel
theorem dc_M_once_19 : decode bc_M_once 19 = .ok (.iconst 1, 1) := by decide +kernel
theorem dc_M_once_20 : decode bc_M_once 20 = .ok (.iadd, 1) := by decide +kernel
theorem dc_M_once_21 : decode bc_M_once 21 = .ok (.putfield 227, 3) := by decide +kernel
theorem dc_M_once_24 : decode bc_M_once 24 = .ok (.iconst 0, 1) := by decide +kernel
theorem dc_M_once_25 : decode bc_M_once 25 = .ok (.istore 4, 2) := by decide +kernel
theorem dc_M_once_27 : decode bc_M_once 27 = .ok (.iload 4, 2) := by decide +kernel
theorem dc_M_once_29 : decode bc_M_once 29 = .ok (.aload_n 0, 1) := by decide +kernel
theorem dc_M_once_30 : decode bc_M_once 30 = .ok (.getfield 96, 3) := by decide +kernel
theorem dc_M_once_33 : decode bc_M_once 33 = .ok (.iload_n 1, 1) := by decide +kernel
theorem dc_M_once_34 : decode bc_M_once 34 = .ok (.iaload, 1) := by decide +kernel
theorem dc_M_once_35 : decode bc_M_once 35 = .ok (.if_icmp .ge 27, 3) := by decide +kernel
theorem dc_M_once_38 : decode bc_M_once 38 = .ok (.aload_n 0, 1) := by decide +kernel
theorem dc_M_once_39 : decode bc_M_once 39 = .ok (.getfield 93, 3) := by decide +kernel
theorem dc_M_once_42 : decode bc_M_once 42 = .ok (.iload_n 3, 1) := by decide +kernel
theorem dc_M_once_43 : decode bc_M_once 43 = .ok (.iload 4, 2) := by decide +kernel
theorem dc_M_once_45 : decode bc_M_once 45 = .ok (.iadd, 1) := by decide +kernel
theorem dc_M_once_46 : decode bc_M_once 46 = .ok (.iaload, 1) := by decide +kernel
theorem dc_M_once_47 : decode bc_M_once 47 = .ok (.iload_n 2, 1) := by decide +kernel
theorem dc_M_once_48 : decode bc_M_once 48 = .ok (.if_icmp .ne 8, 3) := by decide +kernel
theorem dc_M_once_51 : decode bc_M_once 51 = .ok (.aload_n 0, 1) := by decide +kernel
theorem dc_M_once_52 : decode bc_M_once 52 = .ok (.iconst 4, 1) := by decide +kernel
theorem dc_M_once_53 : decode bc_M_once 53 = .ok (.putfield 247, 3) := by decide +kernel
theorem dc_M_once_56 : decode bc_M_once 56 = .ok (.iinc 4 1, 3) := by decide +kernel
theorem dc_M_once_59 : decode bc_M_once 59 = .ok (.goto (-32), 3) := by decide +kernel
theorem dc_M_once_62 : decode bc_M_once 62 = .ok (.aload_n 0, 1) := by decide +kernel
theorem dc_M_once_63 : decode bc_M_once 63 = .ok (.getfield 247, 3) := by decide +kernel
theorem dc_M_once_66 : decode bc_M_once 66 = .ok (.ifCond .le 4, 3) := by decide +kernel
theorem dc_M_once_69 : decode bc_M_once 69 = .ok (.return_, 1) := by decide +kernel
theorem dc_M_once_70 : decode bc_M_once 70 = .ok (.aload_n 0, 1) := by decide +kernel
theorem dc_M_once_71 : decode bc_M_once 71 = .ok (.getfield 96, 3) := by decide +kernel
theorem dc_M_once_74 : decode bc_M_once 74 = .ok (.iload_n 1, 1) := by decide +kernel
theorem dc_M_once_75 : decode bc_M_once 75 = .ok (.iaload, 1) := by decide +kernel
theorem dc_M_once_76 : decode bc_M_once 76 = .ok (.iconst 4, 1) := by decide +kernel
theorem dc_M_once_77 : decode bc_M_once 77 = .ok (.if_icmp .ne 45, 3) := by decide +kernel
theorem dc_M_once_80 : decode bc_M_once 80 = .ok (.iconst 0, 1) := by decide +kernel
theorem dc_M_once_81 : decode bc_M_once 81 = .ok (.istore 4, 2) := by decide +kernel
theorem dc_M_once_83 : decode bc_M_once 83 = .ok (.iload 4, 2) := by decide +kernel
theorem dc_M_once_85 : decode bc_M_once 85 = .ok (.iconst 3, 1) := by decide +kernel
theorem dc_M_once_86 : decode bc_M_once 86 = .ok (.if_icmp .ge 29, 3) := by decide +kernel
theorem dc_M_once_89 : decode bc_M_once 89 = .ok (.aload_n 0, 1) := by decide +kernel
theorem dc_M_once_90 : decode bc_M_once 90 = .ok (.getfield 93, 3) := by decide +kernel
theorem dc_M_once_93 : decode bc_M_once 93 = .ok (.iload_n 3, 1) := by decide +kernel
theorem dc_M_once_94 : decode bc_M_once 94 = .ok (.iload 4, 2) := by decide +kernel
theorem dc_M_once_96 : decode bc_M_once 96 = .ok (.iadd, 1) := by decide +kernel
theorem dc_M_once_97 : decode bc_M_once 97 = .ok (.aload_n 0, 1) := by decide +kernel
theorem dc_M_once_98 : decode bc_M_once 98 = .ok (.getfield 93, 3) := by decide +kernel
theorem dc_M_once_101 : decode bc_M_once 101 = .ok (.iload_n 3, 1) := by decide +kernel
theorem dc_M_once_102 : decode bc_M_once 102 = .ok (.iload 4, 2) := by decide +kernel
theorem dc_M_once_104 : decode bc_M_once 104 = .ok (.iadd, 1) := by decide +kernel
theorem dc_M_once_105 : decode bc_M_once 105 = .ok (.iconst 1, 1) := by decide +kernel
theorem dc_M_once_106 : decode bc_M_once 106 = .ok (.iadd, 1) := by decide +kernel
theorem dc_M_once_107 : decode bc_M_once 107 = .ok (.iaload, 1) := by decide +kernel
theorem dc_M_once_108 : decode bc_M_once 108 = .ok (.iastore, 1) := by decide +kernel
theorem dc_M_once_109 : decode bc_M_once 109 = .ok (.iinc 4 1, 3) := by decide +kernel
theorem dc_M_once_112 : decode bc_M_once 112 = .ok (.goto (-29), 3) := by decide +kernel
theorem dc_M_once_115 : decode bc_M_once 115 = .ok (.aload_n 0, 1) := by decide +kernel
theorem dc_M_once_116 : decode bc_M_once 116 = .ok (.getfield 96, 3) := by decide +kernel
theorem dc_M_once_119 : decode bc_M_once 119 = .ok (.iload_n 1, 1) := by decide +kernel
theorem dc_M_once_120 : decode bc_M_once 120 = .ok (.iconst 3, 1) := by decide +kernel
theorem dc_M_once_121 : decode bc_M_once 121 = .ok (.iastore, 1) := by decide +kernel
theorem dc_M_once_122 : decode bc_M_once 122 = .ok (.aload_n 0, 1) := by decide +kernel
theorem dc_M_once_123 : decode bc_M_once 123 = .ok (.getfield 93, 3) := by decide +kernel
theorem dc_M_once_126 : decode bc_M_once 126 = .ok (.iload_n 3, 1) := by decide +kernel
theorem dc_M_once_127 : decode bc_M_once 127 = .ok (.aload_n 0, 1) := by decide +kernel
theorem dc_M_once_128 : decode bc_M_once 128 = .ok (.getfield 96, 3) := by decide +kernel
theorem dc_M_once_131 : decode bc_M_once 131 = .ok (.iload_n 1, 1) := by decide +kernel
theorem dc_M_once_132 : decode bc_M_once 132 = .ok (.iaload, 1) := by decide +kernel
theorem dc_M_once_133 : decode bc_M_once 133 = .ok (.iadd, 1) := by decide +kernel
theorem dc_M_once_134 : decode bc_M_once 134 = .ok (.iload_n 2, 1) := by decide +kernel
theorem dc_M_once_135 : decode bc_M_once 135 = .ok (.iastore, 1) := by decide +kernel
theorem dc_M_once_136 : decode bc_M_once 136 = .ok (.aload_n 0, 1) := by decide +kernel
theorem dc_M_once_137 : decode bc_M_once 137 = .ok (.getfield 96, 3) := by decide +kernel
theorem dc_M_once_140 : decode bc_M_once 140 = .ok (.iload_n 1, 1) := by decide +kernel
theorem dc_M_once_141 : decode bc_M_once 141 = .ok (.dup2, 1) := by decide +kernel
theorem dc_M_once_142 : decode bc_M_once 142 = .ok (.iaload, 1) := by decide +kernel
theorem dc_M_once_143 : decode bc_M_once 143 = .ok (.iconst 1, 1) := by decide +kernel
theorem dc_M_once_144 : decode bc_M_once 144 = .ok (.iadd, 1) := by decide +kernel
theorem dc_M_once_145 : decode bc_M_once 145 = .ok (.iastore, 1) := by decide +kernel
theorem dc_M_once_146 : decode bc_M_once 146 = .ok (.return_, 1) := by decide +kernel
theorem dc_M_makeReady_0 : decode bc_M_makeReady 0 = .ok (.aload_n 0, 1) := by decide +kernel
theorem dc_M_makeReady_1 : decode bc_M_makeReady 1 = .ok (.getfield 99, 3) := by decide +kernel
theorem dc_M_makeReady_4 : decode bc_M_makeReady 4 = .ok (.aload_n 0, 1) := by decide +kernel
theorem dc_M_makeReady_5 : decode bc_M_makeReady 5 = .ok (.getfield 313, 3) := by decide +kernel
theorem dc_M_makeReady_8 : decode bc_M_makeReady 8 = .ok (.iload_n 1, 1) := by decide +kernel
theorem dc_M_makeReady_9 : decode bc_M_makeReady 9 = .ok (.iastore, 1) := by decide +kernel
theorem dc_M_makeReady_10 : decode bc_M_makeReady 10 = .ok (.aload_n 0, 1) := by decide +kernel
theorem dc_M_makeReady_11 : decode bc_M_makeReady 11 = .ok (.getfield 102, 3) := by decide +kernel
theorem dc_M_makeReady_14 : decode bc_M_makeReady 14 = .ok (.aload_n 0, 1) := by decide +kernel
theorem dc_M_makeReady_15 : decode bc_M_makeReady 15 = .ok (.getfield 313, 3) := by decide +kernel
theorem dc_M_makeReady_18 : decode bc_M_makeReady 18 = .ok (.iload_n 2, 1) := by decide +kernel
theorem dc_M_makeReady_19 : decode bc_M_makeReady 19 = .ok (.iastore, 1) := by decide +kernel
theorem dc_M_makeReady_20 : decode bc_M_makeReady 20 = .ok (.aload_n 0, 1) := by decide +kernel
theorem dc_M_makeReady_21 : decode bc_M_makeReady 21 = .ok (.getfield 105, 3) := by decide +kernel
theorem dc_M_makeReady_24 : decode bc_M_makeReady 24 = .ok (.aload_n 0, 1) := by decide +kernel
theorem dc_M_makeReady_25 : decode bc_M_makeReady 25 = .ok (.getfield 313, 3) := by decide +kernel
theorem dc_M_makeReady_28 : decode bc_M_makeReady 28 = .ok (.iload_n 3, 1) := by decide +kernel
theorem dc_M_makeReady_29 : decode bc_M_makeReady 29 = .ok (.iastore, 1) := by decide +kernel
theorem dc_M_makeReady_30 : decode bc_M_makeReady 30 = .ok (.aload_n 0, 1) := by decide +kernel
theorem dc_M_makeReady_31 : decode bc_M_makeReady 31 = .ok (.dup, 1) := by decide +kernel
theorem dc_M_makeReady_32 : decode bc_M_makeReady 32 = .ok (.getfield 313, 3) := by decide +kernel
theorem dc_M_makeReady_35 : decode bc_M_makeReady 35 = .ok (.iconst 1, 1) := by decide +kernel
theorem dc_M_makeReady_36 : decode bc_M_makeReady 36 = .ok (.iadd, 1) := by decide +kernel
theorem dc_M_makeReady_37 : decode bc_M_makeReady 37 = .ok (.putfield 313, 3) := by decide +kernel
theorem dc_M_makeReady_40 : decode bc_M_makeReady 40 = .ok (.return_, 1) := by decide +kernel
theorem dc_M_release_0 : decode bc_M_release 0 = .ok (.aload_n 0, 1) := by decide +kernel
theorem dc_M_release_1 : decode bc_M_release 1 = .ok (.aload_n 0, 1) := by decide +kernel
theorem dc_M_release_2 : decode bc_M_release 2 = .ok (.getfield 81, 3) := by decide +kernel
theorem dc_M_release_5 : decode bc_M_release 5 = .ok (.iload_n 1, 1) := by decide +kernel
theorem dc_M_release_6 : decode bc_M_release 6 = .ok (.iaload, 1) := by decide +kernel
theorem dc_M_release_7 : decode bc_M_release 7 = .ok (.aload_n 0, 1) := by decide +kernel
theorem dc_M_release_8 : decode bc_M_release 8 = .ok (.getfield 72, 3) := by decide +kernel
theorem dc_M_release_11 : decode bc_M_release 11 = .ok (.iload_n 1, 1) := by decide +kernel
theorem dc_M_release_12 : decode bc_M_release 12 = .ok (.iaload, 1) := by decide +kernel
theorem dc_M_release_13 : decode bc_M_release 13 = .ok (.aload_n 0, 1) := by decide +kernel
theorem dc_M_release_14 : decode bc_M_release 14 = .ok (.getfield 69, 3) := by decide +kernel
theorem dc_M_release_17 : decode bc_M_release 17 = .ok (.iload_n 1, 1) := by decide +kernel
theorem dc_M_release_18 : decode bc_M_release 18 = .ok (.iaload, 1) := by decide +kernel
theorem dc_M_release_19 : decode bc_M_release 19 = .ok (.invokevirtual 316, 3) := by decide +kernel
theorem dc_M_release_22 : decode bc_M_release 22 = .ok (.aload_n 0, 1) := by decide +kernel
theorem dc_M_release_23 : decode bc_M_release 23 = .ok (.dup, 1) := by decide +kernel
theorem dc_M_release_24 : decode bc_M_release 24 = .ok (.getfield 192, 3) := by decide +kernel
theorem dc_M_release_27 : decode bc_M_release 27 = .ok (.iconst 1, 1) := by decide +kernel
theorem dc_M_release_28 : decode bc_M_release 28 = .ok (.isub, 1) := by decide +kernel
theorem dc_M_release_29 : decode bc_M_release 29 = .ok (.putfield 192, 3) := by decide +kernel
theorem dc_M_release_32 : decode bc_M_release 32 = .ok (.iload_n 1, 1) := by decide +kernel
theorem dc_M_release_33 : decode bc_M_release 33 = .ok (.istore_n 2, 1) := by decide +kernel
theorem dc_M_release_34 : decode bc_M_release 34 = .ok (.iload_n 2, 1) := by decide +kernel
theorem dc_M_release_35 : decode bc_M_release 35 = .ok (.aload_n 0, 1) := by decide +kernel
theorem dc_M_release_36 : decode bc_M_release 36 = .ok (.getfield 192, 3) := by decide +kernel
theorem dc_M_release_39 : decode bc_M_release 39 = .ok (.if_icmp .ge 93, 3) := by decide +kernel
theorem dc_M_release_42 : decode bc_M_release 42 = .ok (.aload_n 0, 1) := by decide +kernel
theorem dc_M_release_43 : decode bc_M_release 43 = .ok (.getfield 66, 3) := by decide +kernel
theorem dc_M_release_46 : decode bc_M_release 46 = .ok (.iload_n 2, 1) := by decide +kernel
theorem dc_M_release_47 : decode bc_M_release 47 = .ok (.aload_n 0, 1) := by decide +kernel
theorem dc_M_release_48 : decode bc_M_release 48 = .ok (.getfield 66, 3) := by decide +kernel
theorem dc_M_release_51 : decode bc_M_release 51 = .ok (.iload_n 2, 1) := by decide +kernel
theorem dc_M_release_52 : decode bc_M_release 52 = .ok (.iconst 1, 1) := by decide +kernel
theorem dc_M_release_53 : decode bc_M_release 53 = .ok (.iadd, 1) := by decide +kernel
theorem dc_M_release_54 : decode bc_M_release 54 = .ok (.iaload, 1) := by decide +kernel
theorem dc_M_release_55 : decode bc_M_release 55 = .ok (.iastore, 1) := by decide +kernel
theorem dc_M_release_56 : decode bc_M_release 56 = .ok (.aload_n 0, 1) := by decide +kernel
theorem dc_M_release_57 : decode bc_M_release 57 = .ok (.getfield 69, 3) := by decide +kernel
theorem dc_M_release_60 : decode bc_M_release 60 = .ok (.iload_n 2, 1) := by decide +kernel
theorem dc_M_release_61 : decode bc_M_release 61 = .ok (.aload_n 0, 1) := by decide +kernel
theorem dc_M_release_62 : decode bc_M_release 62 = .ok (.getfield 69, 3) := by decide +kernel
theorem dc_M_release_65 : decode bc_M_release 65 = .ok (.iload_n 2, 1) := by decide +kernel
theorem dc_M_release_66 : decode bc_M_release 66 = .ok (.iconst 1, 1) := by decide +kernel
theorem dc_M_release_67 : decode bc_M_release 67 = .ok (.iadd, 1) := by decide +kernel
theorem dc_M_release_68 : decode bc_M_release 68 = .ok (.iaload, 1) := by decide +kernel
theorem dc_M_release_69 : decode bc_M_release 69 = .ok (.iastore, 1) := by decide +kernel
theorem dc_M_release_70 : decode bc_M_release 70 = .ok (.aload_n 0, 1) := by decide +kernel
theorem dc_M_release_71 : decode bc_M_release 71 = .ok (.getfield 72, 3) := by decide +kernel
theorem dc_M_release_74 : decode bc_M_release 74 = .ok (.iload_n 2, 1) := by decide +kernel
theorem dc_M_release_75 : decode bc_M_release 75 = .ok (.aload_n 0, 1) := by decide +kernel
theorem dc_M_release_76 : decode bc_M_release 76 = .ok (.getfield 72, 3) := by decide +kernel
theorem dc_M_release_79 : decode bc_M_release 79 = .ok (.iload_n 2, 1) := by decide +kernel
theorem dc_M_release_80 : decode bc_M_release 80 = .ok (.iconst 1, 1) := by decide +kernel
theorem dc_M_release_81 : decode bc_M_release 81 = .ok (.iadd, 1) := by decide +kernel
theorem dc_M_release_82 : decode bc_M_release 82 = .ok (.iaload, 1) := by decide +kernel
theorem dc_M_release_83 : decode bc_M_release 83 = .ok (.iastore, 1) := by decide +kernel
theorem dc_M_release_84 : decode bc_M_release 84 = .ok (.aload_n 0, 1) := by decide +kernel
theorem dc_M_release_85 : decode bc_M_release 85 = .ok (.getfield 75, 3) := by decide +kernel
theorem dc_M_release_88 : decode bc_M_release 88 = .ok (.iload_n 2, 1) := by decide +kernel
theorem dc_M_release_89 : decode bc_M_release 89 = .ok (.aload_n 0, 1) := by decide +kernel
theorem dc_M_release_90 : decode bc_M_release 90 = .ok (.getfield 75, 3) := by decide +kernel
theorem dc_M_release_93 : decode bc_M_release 93 = .ok (.iload_n 2, 1) := by decide +kernel
theorem dc_M_release_94 : decode bc_M_release 94 = .ok (.iconst 1, 1) := by decide +kernel
theorem dc_M_release_95 : decode bc_M_release 95 = .ok (.iadd, 1) := by decide +kernel
theorem dc_M_release_96 : decode bc_M_release 96 = .ok (.iaload, 1) := by decide +kernel
theorem dc_M_release_97 : decode bc_M_release 97 = .ok (.iastore, 1) := by decide +kernel
theorem dc_M_release_98 : decode bc_M_release 98 = .ok (.aload_n 0, 1) := by decide +kernel
theorem dc_M_release_99 : decode bc_M_release 99 = .ok (.getfield 78, 3) := by decide +kernel
theorem dc_M_release_102 : decode bc_M_release 102 = .ok (.iload_n 2, 1) := by decide +kernel
theorem dc_M_release_103 : decode bc_M_release 103 = .ok (.aload_n 0, 1) := by decide +kernel
theorem dc_M_release_104 : decode bc_M_release 104 = .ok (.getfield 78, 3) := by decide +kernel
theorem dc_M_release_107 : decode bc_M_release 107 = .ok (.iload_n 2, 1) := by decide +kernel
theorem dc_M_release_108 : decode bc_M_release 108 = .ok (.iconst 1, 1) := by decide +kernel
theorem dc_M_release_109 : decode bc_M_release 109 = .ok (.iadd, 1) := by decide +kernel
theorem dc_M_release_110 : decode bc_M_release 110 = .ok (.iaload, 1) := by decide +kernel
theorem dc_M_release_111 : decode bc_M_release 111 = .ok (.iastore, 1) := by decide +kernel
theorem dc_M_release_112 : decode bc_M_release 112 = .ok (.aload_n 0, 1) := by decide +kernel
theorem dc_M_release_113 : decode bc_M_release 113 = .ok (.getfield 81, 3) := by decide +kernel
theorem dc_M_release_116 : decode bc_M_release 116 = .ok (.iload_n 2, 1) := by decide +kernel
theorem dc_M_release_117 : decode bc_M_release 117 = .ok (.aload_n 0, 1) := by decide +kernel
theorem dc_M_release_118 : decode bc_M_release 118 = .ok (.getfield 81, 3) := by decide +kernel
theorem dc_M_release_121 : decode bc_M_release 121 = .ok (.iload_n 2, 1) := by decide +kernel
theorem dc_M_release_122 : decode bc_M_release 122 = .ok (.iconst 1, 1) := by decide +kernel
theorem dc_M_release_123 : decode bc_M_release 123 = .ok (.iadd, 1) := by decide +kernel
theorem dc_M_release_124 : decode bc_M_release 124 = .ok (.iaload, 1) := by decide +kernel
theorem dc_M_release_125 : decode bc_M_release 125 = .ok (.iastore, 1) := by decide +kernel
theorem dc_M_release_126 : decode bc_M_release 126 = .ok (.iinc 2 1, 3) := by decide +kernel
theorem dc_M_release_129 : decode bc_M_release 129 = .ok (.goto (-95), 3) := by decide +kernel
theorem dc_M_release_132 : decode bc_M_release 132 = .ok (.return_, 1) := by decide +kernel
theorem dc_M_gather_0 : decode bc_M_gather 0 = .ok (.aload_n 0, 1) := by decide +kernel
theorem dc_M_gather_1 : decode bc_M_gather 1 = .ok (.aload_n 0, 1) := by decide +kernel
theorem dc_M_gather_2 : decode bc_M_gather 2 = .ok (.getfield 227, 3) := by decide +kernel
theorem dc_M_gather_5 : decode bc_M_gather 5 = .ok (.iconst 1, 1) := by decide +kernel
theorem dc_M_gather_6 : decode bc_M_gather 6 = .ok (.iadd, 1) := by decide +kernel
theorem dc_M_gather_7 : decode bc_M_gather 7 = .ok (.invokevirtual 214, 3) := by decide +kernel
theorem dc_M_gather_10 : decode bc_M_gather 10 = .ok (.istore_n 2, 1) := by decide +kernel
theorem dc_M_gather_11 : decode bc_M_gather 11 = .ok (.aload_n 0, 1) := by decide +kernel
theorem dc_M_gather_12 : decode bc_M_gather 12 = .ok (.aload_n 0, 1) := by decide +kernel
theorem dc_M_gather_13 : decode bc_M_gather 13 = .ok (.getfield 204, 3) := by decide +kernel
theorem dc_M_gather_16 : decode bc_M_gather 16 = .ok (.iconst 1, 1) := by decide +kernel
theorem dc_M_gather_17 : decode bc_M_gather 17 = .ok (.iadd, 1) := by decide +kernel
theorem dc_M_gather_18 : decode bc_M_gather 18 = .ok (.invokevirtual 214, 3) := by decide +kernel
theorem dc_M_gather_21 : decode bc_M_gather 21 = .ok (.istore_n 3, 1) := by decide +kernel
theorem dc_M_gather_22 : decode bc_M_gather 22 = .ok (.iconst 0, 1) := by decide +kernel
theorem dc_M_gather_23 : decode bc_M_gather 23 = .ok (.istore 4, 2) := by decide +kernel
theorem dc_M_gather_25 : decode bc_M_gather 25 = .ok (.iconst (-1), 1) := by decide +kernel
theorem dc_M_gather_26 : decode bc_M_gather 26 = .ok (.istore 5, 2) := by decide +kernel
theorem dc_M_gather_28 : decode bc_M_gather 28 = .ok (.iconst 0, 1) := by decide +kernel
theorem dc_M_gather_29 : decode bc_M_gather 29 = .ok (.istore 6, 2) := by decide +kernel
theorem dc_M_gather_31 : decode bc_M_gather 31 = .ok (.iload 6, 2) := by decide +kernel
theorem dc_M_gather_33 : decode bc_M_gather 33 = .ok (.aload_n 0, 1) := by decide +kernel
theorem dc_M_gather_34 : decode bc_M_gather 34 = .ok (.getfield 192, 3) := by decide +kernel
theorem dc_M_gather_37 : decode bc_M_gather 37 = .ok (.if_icmp .ge 57, 3) := by decide +kernel
theorem dc_M_gather_40 : decode bc_M_gather 40 = .ok (.aload_n 0, 1) := by decide +kernel
theorem dc_M_gather_41 : decode bc_M_gather 41 = .ok (.getfield 66, 3) := by decide +kernel
theorem dc_M_gather_44 : decode bc_M_gather 44 = .ok (.iload 6, 2) := by decide +kernel
theorem dc_M_gather_46 : decode bc_M_gather 46 = .ok (.iaload, 1) := by decide +kernel
theorem dc_M_gather_47 : decode bc_M_gather 47 = .ok (.iload_n 1, 1) := by decide +kernel
theorem dc_M_gather_48 : decode bc_M_gather 48 = .ok (.if_icmp .ne 6, 3) := by decide +kernel
theorem dc_M_gather_51 : decode bc_M_gather 51 = .ok (.iinc 4 1, 3) := by decide +kernel
theorem dc_M_gather_54 : decode bc_M_gather 54 = .ok (.aload_n 0, 1) := by decide +kernel
theorem dc_M_gather_55 : decode bc_M_gather 55 = .ok (.getfield 66, 3) := by decide +kernel
theorem dc_M_gather_58 : decode bc_M_gather 58 = .ok (.iload 6, 2) := by decide +kernel
theorem dc_M_gather_60 : decode bc_M_gather 60 = .ok (.iaload, 1) := by decide +kernel
theorem dc_M_gather_61 : decode bc_M_gather 61 = .ok (.iload_n 1, 1) := by decide +kernel
theorem dc_M_gather_62 : decode bc_M_gather 62 = .ok (.if_icmp .ne 26, 3) := by decide +kernel
theorem dc_M_gather_65 : decode bc_M_gather 65 = .ok (.aload_n 0, 1) := by decide +kernel
theorem dc_M_gather_66 : decode bc_M_gather 66 = .ok (.getfield 69, 3) := by decide +kernel
theorem dc_M_gather_69 : decode bc_M_gather 69 = .ok (.iload 6, 2) := by decide +kernel
theorem dc_M_gather_71 : decode bc_M_gather 71 = .ok (.iaload, 1) := by decide +kernel
theorem dc_M_gather_72 : decode bc_M_gather 72 = .ok (.aload_n 0, 1) := by decide +kernel
theorem dc_M_gather_73 : decode bc_M_gather 73 = .ok (.getfield 111, 3) := by decide +kernel
theorem dc_M_gather_76 : decode bc_M_gather 76 = .ok (.aload_n 0, 1) := by decide +kernel
theorem dc_M_gather_77 : decode bc_M_gather 77 = .ok (.getfield 211, 3) := by decide +kernel
theorem dc_M_gather_80 : decode bc_M_gather 80 = .ok (.iaload, 1) := by decide +kernel
theorem dc_M_gather_81 : decode bc_M_gather 81 = .ok (.if_icmp .ne 7, 3) := by decide +kernel
theorem dc_M_gather_84 : decode bc_M_gather 84 = .ok (.iload 6, 2) := by decide +kernel
theorem dc_M_gather_86 : decode bc_M_gather 86 = .ok (.istore 5, 2) := by decide +kernel
theorem dc_M_gather_88 : decode bc_M_gather 88 = .ok (.iinc 6 1, 3) := by decide +kernel
theorem dc_M_gather_91 : decode bc_M_gather 91 = .ok (.goto (-60), 3) := by decide +kernel
theorem dc_M_gather_94 : decode bc_M_gather 94 = .ok (.iload 5, 2) := by decide +kernel
theorem dc_M_gather_96 : decode bc_M_gather 96 = .ok (.ifCond .ge 11, 3) := by decide +kernel
theorem dc_M_gather_99 : decode bc_M_gather 99 = .ok (.iload 4, 2) := by decide +kernel
theorem dc_M_gather_101 : decode bc_M_gather 101 = .ok (.iconst 3, 1) := by decide +kernel
theorem dc_M_gather_102 : decode bc_M_gather 102 = .ok (.if_icmp .lt 5, 3) := by decide +kernel
theorem dc_M_gather_105 : decode bc_M_gather 105 = .ok (.iconst 5, 1) := by decide +kernel
theorem dc_M_gather_106 : decode bc_M_gather 106 = .ok (.ireturn, 1) := by decide +kernel
theorem dc_M_gather_107 : decode bc_M_gather 107 = .ok (.iload 5, 2) := by decide +kernel
theorem dc_M_gather_109 : decode bc_M_gather 109 = .ok (.ifCond .ge 91, 3) := by decide +kernel
theorem dc_M_gather_112 : decode bc_M_gather 112 = .ok (.aload_n 0, 1) := by decide +kernel
theorem dc_M_gather_113 : decode bc_M_gather 113 = .ok (.getfield 192, 3) := by decide +kernel
theorem dc_M_gather_116 : decode bc_M_gather 116 = .ok (.istore 5, 2) := by decide +kernel
theorem dc_M_gather_118 : decode bc_M_gather 118 = .ok (.aload_n 0, 1) := by decide +kernel
theorem dc_M_gather_119 : decode bc_M_gather 119 = .ok (.dup, 1) := by decide +kernel
theorem dc_M_gather_120 : decode bc_M_gather 120 = .ok (.getfield 192, 3) := by decide +kernel
theorem dc_M_gather_123 : decode bc_M_gather 123 = .ok (.iconst 1, 1) := by decide +kernel
theorem dc_M_gather_124 : decode bc_M_gather 124 = .ok (.iadd, 1) := by decide +kernel
theorem dc_M_gather_125 : decode bc_M_gather 125 = .ok (.putfield 192, 3) := by decide +kernel
theorem dc_M_gather_128 : decode bc_M_gather 128 = .ok (.aload_n 0, 1) := by decide +kernel
theorem dc_M_gather_129 : decode bc_M_gather 129 = .ok (.getfield 66, 3) := by decide +kernel
theorem dc_M_gather_132 : decode bc_M_gather 132 = .ok (.iload 5, 2) := by decide +kernel
theorem dc_M_gather_134 : decode bc_M_gather 134 = .ok (.iload_n 1, 1) := by decide +kernel
theorem dc_M_gather_135 : decode bc_M_gather 135 = .ok (.iastore, 1) := by decide +kernel
theorem dc_M_gather_136 : decode bc_M_gather 136 = .ok (.aload_n 0, 1) := by decide +kernel
theorem dc_M_gather_137 : decode bc_M_gather 137 = .ok (.getfield 69, 3) := by decide +kernel
theorem dc_M_gather_140 : decode bc_M_gather 140 = .ok (.iload 5, 2) := by decide +kernel
theorem dc_M_gather_142 : decode bc_M_gather 142 = .ok (.aload_n 0, 1) := by decide +kernel
theorem dc_M_gather_143 : decode bc_M_gather 143 = .ok (.getfield 111, 3) := by decide +kernel
theorem dc_M_gather_146 : decode bc_M_gather 146 = .ok (.aload_n 0, 1) := by decide +kernel
theorem dc_M_gather_147 : decode bc_M_gather 147 = .ok (.getfield 211, 3) := by decide +kernel
theorem dc_M_gather_150 : decode bc_M_gather 150 = .ok (.iaload, 1) := by decide +kernel
theorem dc_M_gather_151 : decode bc_M_gather 151 = .ok (.iastore, 1) := by decide +kernel
theorem dc_M_gather_152 : decode bc_M_gather 152 = .ok (.aload_n 0, 1) := by decide +kernel
theorem dc_M_gather_153 : decode bc_M_gather 153 = .ok (.getfield 72, 3) := by decide +kernel
theorem dc_M_gather_156 : decode bc_M_gather 156 = .ok (.iload 5, 2) := by decide +kernel
theorem dc_M_gather_158 : decode bc_M_gather 158 = .ok (.iconst 0, 1) := by decide +kernel
theorem dc_M_gather_159 : decode bc_M_gather 159 = .ok (.iastore, 1) := by decide +kernel
theorem dc_M_gather_160 : decode bc_M_gather 160 = .ok (.aload_n 0, 1) := by decide +kernel
theorem dc_M_gather_161 : decode bc_M_gather 161 = .ok (.getfield 75, 3) := by decide +kernel
theorem dc_M_gather_164 : decode bc_M_gather 164 = .ok (.iload 5, 2) := by decide +kernel
theorem dc_M_gather_166 : decode bc_M_gather 166 = .ok (.iconst 0, 1) := by decide +kernel
theorem dc_M_gather_167 : decode bc_M_gather 167 = .ok (.iastore, 1) := by decide +kernel
theorem dc_M_gather_168 : decode bc_M_gather 168 = .ok (.aload_n 0, 1) := by decide +kernel
theorem dc_M_gather_169 : decode bc_M_gather 169 = .ok (.getfield 78, 3) := by decide +kernel
theorem dc_M_gather_172 : decode bc_M_gather 172 = .ok (.iload 5, 2) := by decide +kernel
theorem dc_M_gather_174 : decode bc_M_gather 174 = .ok (.aload_n 0, 1) := by decide +kernel
theorem dc_M_gather_175 : decode bc_M_gather 175 = .ok (.getfield 261, 3) := by decide +kernel
theorem dc_M_gather_178 : decode bc_M_gather 178 = .ok (.iload_n 3, 1) := by decide +kernel
theorem dc_M_gather_179 : decode bc_M_gather 179 = .ok (.iadd, 1) := by decide +kernel
theorem dc_M_gather_180 : decode bc_M_gather 180 = .ok (.iastore, 1) := by decide +kernel
theorem dc_M_gather_181 : decode bc_M_gather 181 = .ok (.aload_n 0, 1) := by decide +kernel
theorem dc_M_gather_182 : decode bc_M_gather 182 = .ok (.getfield 81, 3) := by decide +kernel
theorem dc_M_gather_185 : decode bc_M_gather 185 = .ok (.iload 5, 2) := by decide +kernel
theorem dc_M_gather_187 : decode bc_M_gather 187 = .ok (.bipush 64, 2) := by decide +kernel
theorem dc_M_gather_189 : decode bc_M_gather 189 = .ok (.aload_n 0, 1) := by decide +kernel
theorem dc_M_gather_190 : decode bc_M_gather 190 = .ok (.getfield 201, 3) := by decide +kernel
theorem dc_M_gather_193 : decode bc_M_gather 193 = .ok (.imul, 1) := by decide +kernel
theorem dc_M_gather_194 : decode bc_M_gather 194 = .ok (.aload_n 0, 1) := by decide +kernel
theorem dc_M_gather_195 : decode bc_M_gather 195 = .ok (.getfield 204, 3) := by decide +kernel
theorem dc_M_gather_198 : decode bc_M_gather 198 = .ok (.iadd, 1) := by decide +kernel
theorem dc_M_gather_199 : decode bc_M_gather 199 = .ok (.iastore, 1) := by decide +kernel
theorem dc_M_gather_200 : decode bc_M_gather 200 = .ok (.aload_n 0, 1) := by decide +kernel
theorem dc_M_gather_201 : decode bc_M_gather 201 = .ok (.getfield 72, 3) := by decide +kernel
theorem dc_M_gather_204 : decode bc_M_gather 204 = .ok (.iload 5, 2) := by decide +kernel
theorem dc_M_gather_206 : decode bc_M_gather 206 = .ok (.dup2, 1) := by decide +kernel
theorem dc_M_gather_207 : decode bc_M_gather 207 = .ok (.iaload, 1) := by decide +kernel
theorem dc_M_gather_208 : decode bc_M_gather 208 = .ok (.aload_n 0, 1) := by decide +kernel
theorem dc_M_gather_209 : decode bc_M_gather 209 = .ok (.getfield 108, 3) := by decide +kernel
theorem dc_M_gather_212 : decode bc_M_gather 212 = .ok (.aload_n 0, 1) := by decide +kernel
theorem dc_M_gather_213 : decode bc_M_gather 213 = .ok (.getfield 211, 3) := by decide +kernel
theorem dc_M_gather_216 : decode bc_M_gather 216 = .ok (.iaload, 1) := by decide +kernel
theorem dc_M_gather_217 : decode bc_M_gather 217 = .ok (.iadd, 1) := by decide +kernel
theorem dc_M_gather_218 : decode bc_M_gather 218 = .ok (.iastore, 1) := by decide +kernel
theorem dc_M_gather_219 : decode bc_M_gather 219 = .ok (.aload_n 0, 1) := by decide +kernel
theorem dc_M_gather_220 : decode bc_M_gather 220 = .ok (.getfield 75, 3) := by decide +kernel
theorem dc_M_gather_223 : decode bc_M_gather 223 = .ok (.iload 5, 2) := by decide +kernel
theorem dc_M_gather_225 : decode bc_M_gather 225 = .ok (.dup2, 1) := by decide +kernel
theorem dc_M_gather_226 : decode bc_M_gather 226 = .ok (.iaload, 1) := by decide +kernel
theorem dc_M_gather_227 : decode bc_M_gather 227 = .ok (.iconst 1, 1) := by decide +kernel
theorem dc_M_gather_228 : decode bc_M_gather 228 = .ok (.iadd, 1) := by decide +kernel
theorem dc_M_gather_229 : decode bc_M_gather 229 = .ok (.iastore, 1) := by decide +kernel
theorem dc_M_gather_230 : decode bc_M_gather 230 = .ok (.aload_n 0, 1) := by decide +kernel
theorem dc_M_gather_231 : decode bc_M_gather 231 = .ok (.getfield 75, 3) := by decide +kernel
theorem dc_M_gather_234 : decode bc_M_gather 234 = .ok (.iload 5, 2) := by decide +kernel
theorem dc_M_gather_236 : decode bc_M_gather 236 = .ok (.iaload, 1) := by decide +kernel
theorem dc_M_gather_237 : decode bc_M_gather 237 = .ok (.iload_n 2, 1) := by decide +kernel
theorem dc_M_gather_238 : decode bc_M_gather 238 = .ok (.if_icmp .ne 9, 3) := by decide +kernel
theorem dc_M_gather_241 : decode bc_M_gather 241 = .ok (.aload_n 0, 1) := by decide +kernel
theorem dc_M_gather_242 : decode bc_M_gather 242 = .ok (.iload 5, 2) := by decide +kernel
theorem dc_M_gather_244 : decode bc_M_gather 244 = .ok (.invokevirtual 319, 3) := by decide +kernel
theorem dc_M_gather_247 : decode bc_M_gather 247 = .ok (.aload_n 0, 1) := by decide +kernel
theorem dc_M_gather_248 : decode bc_M_gather 248 = .ok (.iconst 3, 1) := by decide +kernel
theorem dc_M_gather_249 : decode bc_M_gather 249 = .ok (.putfield 247, 3) := by decide +kernel
theorem dc_M_gather_252 : decode bc_M_gather 252 = .ok (.iconst 0, 1) := by decide +kernel
theorem dc_M_gather_253 : decode bc_M_gather 253 = .ok (.ireturn, 1) := by decide +kernel
theorem dc_M_order_0 : decode bc_M_order 0 = .ok (.aload_n 0, 1) := by decide +kernel
theorem dc_M_order_1 : decode bc_M_order 1 = .ok (.aload_n 0, 1) := by decide +kernel
theorem dc_M_order_2 : decode bc_M_order 2 = .ok (.getfield 227, 3) := by decide +kernel
theorem dc_M_order_5 : decode bc_M_order 5 = .ok (.iconst 1, 1) := by decide +kernel
theorem dc_M_order_6 : decode bc_M_order 6 = .ok (.iadd, 1) := by decide +kernel
theorem dc_M_order_7 : decode bc_M_order 7 = .ok (.invokevirtual 214, 3) := by decide +kernel
theorem dc_M_order_10 : decode bc_M_order 10 = .ok (.istore_n 2, 1) := by decide +kernel
theorem dc_M_order_11 : decode bc_M_order 11 = .ok (.aload_n 0, 1) := by decide +kernel
theorem dc_M_order_12 : decode bc_M_order 12 = .ok (.getfield 84, 3) := by decide +kernel
theorem dc_M_order_15 : decode bc_M_order 15 = .ok (.aload_n 0, 1) := by decide +kernel
theorem dc_M_order_16 : decode bc_M_order 16 = .ok (.getfield 195, 3) := by decide +kernel
theorem dc_M_order_19 : decode bc_M_order 19 = .ok (.iload_n 1, 1) := by decide +kernel
theorem dc_M_order_20 : decode bc_M_order 20 = .ok (.iastore, 1) := by decide +kernel
theorem dc_M_order_21 : decode bc_M_order 21 = .ok (.aload_n 0, 1) := by decide +kernel
theorem dc_M_order_22 : decode bc_M_order 22 = .ok (.getfield 87, 3) := by decide +kernel
theorem dc_M_order_25 : decode bc_M_order 25 = .ok (.aload_n 0, 1) := by decide +kernel
theorem dc_M_order_26 : decode bc_M_order 26 = .ok (.getfield 195, 3) := by decide +kernel
theorem dc_M_order_29 : decode bc_M_order 29 = .ok (.aload_n 0, 1) := by decide +kernel
theorem dc_M_order_30 : decode bc_M_order 30 = .ok (.getfield 108, 3) := by decide +kernel
theorem dc_M_order_33 : decode bc_M_order 33 = .ok (.aload_n 0, 1) := by decide +kernel
theorem dc_M_order_34 : decode bc_M_order 34 = .ok (.getfield 211, 3) := by decide +kernel
theorem dc_M_order_37 : decode bc_M_order 37 = .ok (.iaload, 1) := by decide +kernel
theorem dc_M_order_38 : decode bc_M_order 38 = .ok (.iastore, 1) := by decide +kernel
theorem dc_M_order_39 : decode bc_M_order 39 = .ok (.aload_n 0, 1) := by decide +kernel
theorem dc_M_order_40 : decode bc_M_order 40 = .ok (.getfield 90, 3) := by decide +kernel
theorem dc_M_order_43 : decode bc_M_order 43 = .ok (.aload_n 0, 1) := by decide +kernel
theorem dc_M_order_44 : decode bc_M_order 44 = .ok (.getfield 195, 3) := by decide +kernel
theorem dc_M_order_47 : decode bc_M_order 47 = .ok (.aload_n 0, 1) := by decide +kernel
theorem dc_M_order_48 : decode bc_M_order 48 = .ok (.getfield 111, 3) := by decide +kernel
theorem dc_M_order_51 : decode bc_M_order 51 = .ok (.aload_n 0, 1) := by decide +kernel
theorem dc_M_order_52 : decode bc_M_order 52 = .ok (.getfield 211, 3) := by decide +kernel
theorem dc_M_order_55 : decode bc_M_order 55 = .ok (.iaload, 1) := by decide +kernel
theorem dc_M_order_56 : decode bc_M_order 56 = .ok (.iastore, 1) := by decide +kernel
theorem dc_M_order_57 : decode bc_M_order 57 = .ok (.aload_n 0, 1) := by decide +kernel
theorem dc_M_order_58 : decode bc_M_order 58 = .ok (.dup, 1) := by decide +kernel
theorem dc_M_order_59 : decode bc_M_order 59 = .ok (.getfield 195, 3) := by decide +kernel
theorem dc_M_order_62 : decode bc_M_order 62 = .ok (.iconst 1, 1) := by decide +kernel
theorem dc_M_order_63 : decode bc_M_order 63 = .ok (.iadd, 1) := by decide +kernel
theorem dc_M_order_64 : decode bc_M_order 64 = .ok (.putfield 195, 3) := by decide +kernel
theorem dc_M_order_67 : decode bc_M_order 67 = .ok (.iconst 0, 1) := by decide +kernel
theorem dc_M_order_68 : decode bc_M_order 68 = .ok (.istore_n 3, 1) := by decide +kernel
theorem dc_M_order_69 : decode bc_M_order 69 = .ok (.iconst 0, 1) := by decide +kernel
theorem dc_M_order_70 : decode bc_M_order 70 = .ok (.istore 4, 2) := by decide +kernel
theorem dc_M_order_72 : decode bc_M_order 72 = .ok (.iload 4, 2) := by decide +kernel
theorem dc_M_order_74 : decode bc_M_order 74 = .ok (.aload_n 0, 1) := by decide +kernel
theorem dc_M_order_75 : decode bc_M_order 75 = .ok (.getfield 195, 3) := by decide +kernel
theorem dc_M_order_78 : decode bc_M_order 78 = .ok (.if_icmp .ge 28, 3) := by decide +kernel
theorem dc_M_order_81 : decode bc_M_order 81 = .ok (.iload_n 3, 1) := by decide +kernel
theorem dc_M_order_82 : decode bc_M_order 82 = .ok (.aload_n 0, 1) := by decide +kernel
theorem dc_M_order_83 : decode bc_M_order 83 = .ok (.getfield 84, 3) := by decide +kernel
theorem dc_M_order_86 : decode bc_M_order 86 = .ok (.iload 4, 2) := by decide +kernel
theorem dc_M_order_88 : decode bc_M_order 88 = .ok (.iaload, 1) := by decide +kernel
theorem dc_M_order_89 : decode bc_M_order 89 = .ok (.iload_n 1, 1) := by decide +kernel
theorem dc_M_order_90 : decode bc_M_order 90 = .ok (.if_icmp .ne 7, 3) := by decide +kernel
theorem dc_M_order_93 : decode bc_M_order 93 = .ok (.iconst 1, 1) := by decide +kernel
theorem dc_M_order_94 : decode bc_M_order 94 = .ok (.goto 4, 3) := by decide +kernel
theorem dc_M_order_97 : decode bc_M_order 97 = .ok (.iconst 0, 1) := by decide +kernel
theorem dc_M_order_98 : decode bc_M_order 98 = .ok (.iadd, 1) := by decide +kernel
theorem dc_M_order_99 : decode bc_M_order 99 = .ok (.istore_n 3, 1) := by decide +kernel
theorem dc_M_order_100 : decode bc_M_order 100 = .ok (.iinc 4 1, 3) := by decide +kernel
theorem dc_M_order_103 : decode bc_M_order 103 = .ok (.goto (-31), 3) := by decide +kernel
theorem dc_M_order_106 : decode bc_M_order 106 = .ok (.iconst 0, 1) := by decide +kernel
theorem dc_M_order_107 : decode bc_M_order 107 = .ok (.istore 4, 2) := by decide +kernel
theorem dc_M_order_109 : decode bc_M_order 109 = .ok (.iload 4, 2) := by decide +kernel
theorem dc_M_order_111 : decode bc_M_order 111 = .ok (.iload_n 3, 1) := by decide +kernel
theorem dc_M_order_112 : decode bc_M_order 112 = .ok (.if_icmp .ge 31, 3) := by decide +kernel
theorem dc_M_order_115 : decode bc_M_order 115 = .ok (.iload_n 3, 1) := by decide +kernel
theorem dc_M_order_116 : decode bc_M_order 116 = .ok (.iload_n 2, 1) := by decide +kernel
theorem dc_M_order_117 : decode bc_M_order 117 = .ok (.if_icmp .ne 26, 3) := by decide +kernel
theorem dc_M_order_120 : decode bc_M_order 120 = .ok (.aload_n 0, 1) := by decide +kernel
theorem dc_M_order_121 : decode bc_M_order 121 = .ok (.iload_n 1, 1) := by decide +kernel
theorem dc_M_order_122 : decode bc_M_order 122 = .ok (.bipush 64, 2) := by decide +kernel
theorem dc_M_order_124 : decode bc_M_order 124 = .ok (.aload_n 0, 1) := by decide +kernel
theorem dc_M_order_125 : decode bc_M_order 125 = .ok (.getfield 201, 3) := by decide +kernel
theorem dc_M_order_128 : decode bc_M_order 128 = .ok (.imul, 1) := by decide +kernel
theorem dc_M_order_129 : decode bc_M_order 129 = .ok (.aload_n 0, 1) := by decide +kernel
theorem dc_M_order_130 : decode bc_M_order 130 = .ok (.getfield 204, 3) := by decide +kernel
theorem dc_M_order_133 : decode bc_M_order 133 = .ok (.iadd, 1) := by decide +kernel
theorem dc_M_order_134 : decode bc_M_order 134 = .ok (.invokevirtual 322, 3) := by decide +kernel
theorem dc_M_order_137 : decode bc_M_order 137 = .ok (.iinc 4 1, 3) := by decide +kernel
theorem dc_M_order_140 : decode bc_M_order 140 = .ok (.goto (-31), 3) := by decide +kernel
theorem dc_M_order_143 : decode bc_M_order 143 = .ok (.aload_n 0, 1) := by decide +kernel
theorem dc_M_order_144 : decode bc_M_order 144 = .ok (.iconst 3, 1) := by decide +kernel
theorem dc_M_order_145 : decode bc_M_order 145 = .ok (.putfield 247, 3) := by decide +kernel
theorem dc_M_order_148 : decode bc_M_order 148 = .ok (.return_, 1) := by decide +kernel
theorem dc_M_takeLeast_0 : decode bc_M_takeLeast 0 = .ok (.iconst (-1), 1) := by decide +kernel
theorem dc_M_takeLeast_1 : decode bc_M_takeLeast 1 = .ok (.istore_n 3, 1) := by decide +kernel
theorem dc_M_takeLeast_2 : decode bc_M_takeLeast 2 = .ok (.iconst 0, 1) := by decide +kernel
theorem dc_M_takeLeast_3 : decode bc_M_takeLeast 3 = .ok (.istore 4, 2) := by decide +kernel
theorem dc_M_takeLeast_5 : decode bc_M_takeLeast 5 = .ok (.iload 4, 2) := by decide +kernel
theorem dc_M_takeLeast_7 : decode bc_M_takeLeast 7 = .ok (.aload_n 0, 1) := by decide +kernel
theorem dc_M_takeLeast_8 : decode bc_M_takeLeast 8 = .ok (.getfield 195, 3) := by decide +kernel
theorem dc_M_takeLeast_11 : decode bc_M_takeLeast 11 = .ok (.if_icmp .ge 43, 3) := by decide +kernel
theorem dc_M_takeLeast_14 : decode bc_M_takeLeast 14 = .ok (.aload_n 0, 1) := by decide +kernel
theorem dc_M_takeLeast_15 : decode bc_M_takeLeast 15 = .ok (.getfield 84, 3) := by decide +kernel
theorem dc_M_takeLeast_18 : decode bc_M_takeLeast 18 = .ok (.iload 4, 2) := by decide +kernel
theorem dc_M_takeLeast_20 : decode bc_M_takeLeast 20 = .ok (.iaload, 1) := by decide +kernel
theorem dc_M_takeLeast_21 : decode bc_M_takeLeast 21 = .ok (.iload_n 1, 1) := by decide +kernel
theorem dc_M_takeLeast_22 : decode bc_M_takeLeast 22 = .ok (.if_icmp .ne 26, 3) := by decide +kernel
theorem dc_M_takeLeast_25 : decode bc_M_takeLeast 25 = .ok (.iload_n 3, 1) := by decide +kernel
theorem dc_M_takeLeast_26 : decode bc_M_takeLeast 26 = .ok (.ifCond .lt 19, 3) := by decide +kernel
theorem dc_M_takeLeast_29 : decode bc_M_takeLeast 29 = .ok (.aload_n 0, 1) := by decide +kernel
theorem dc_M_takeLeast_30 : decode bc_M_takeLeast 30 = .ok (.getfield 90, 3) := by decide +kernel
theorem dc_M_takeLeast_33 : decode bc_M_takeLeast 33 = .ok (.iload 4, 2) := by decide +kernel
theorem dc_M_takeLeast_35 : decode bc_M_takeLeast 35 = .ok (.iaload, 1) := by decide +kernel
theorem dc_M_takeLeast_36 : decode bc_M_takeLeast 36 = .ok (.aload_n 0, 1) := by decide +kernel
theorem dc_M_takeLeast_37 : decode bc_M_takeLeast 37 = .ok (.getfield 90, 3) := by decide +kernel
theorem dc_M_takeLeast_40 : decode bc_M_takeLeast 40 = .ok (.iload_n 3, 1) := by decide +kernel
theorem dc_M_takeLeast_41 : decode bc_M_takeLeast 41 = .ok (.iaload, 1) := by decide +kernel
theorem dc_M_takeLeast_42 : decode bc_M_takeLeast 42 = .ok (.if_icmp .ge 6, 3) := by decide +kernel
theorem dc_M_takeLeast_45 : decode bc_M_takeLeast 45 = .ok (.iload 4, 2) := by decide +kernel
theorem dc_M_takeLeast_47 : decode bc_M_takeLeast 47 = .ok (.istore_n 3, 1) := by decide +kernel
theorem dc_M_takeLeast_48 : decode bc_M_takeLeast 48 = .ok (.iinc 4 1, 3) := by decide +kernel
theorem dc_M_takeLeast_51 : decode bc_M_takeLeast 51 = .ok (.goto (-46), 3) := by decide +kernel
theorem dc_M_takeLeast_54 : decode bc_M_takeLeast 54 = .ok (.aload_n 0, 1) := by decide +kernel
theorem dc_M_takeLeast_55 : decode bc_M_takeLeast 55 = .ok (.iload_n 2, 1) := by decide +kernel
theorem dc_M_takeLeast_56 : decode bc_M_takeLeast 56 = .ok (.aload_n 0, 1) := by decide +kernel
theorem dc_M_takeLeast_57 : decode bc_M_takeLeast 57 = .ok (.getfield 87, 3) := by decide +kernel
theorem dc_M_takeLeast_60 : decode bc_M_takeLeast 60 = .ok (.iload_n 3, 1) := by decide +kernel
theorem dc_M_takeLeast_61 : decode bc_M_takeLeast 61 = .ok (.iaload, 1) := by decide +kernel
theorem dc_M_takeLeast_62 : decode bc_M_takeLeast 62 = .ok (.aload_n 0, 1) := by decide +kernel
theorem dc_M_takeLeast_63 : decode bc_M_takeLeast 63 = .ok (.getfield 90, 3) := by decide +kernel
theorem dc_M_takeLeast_66 : decode bc_M_takeLeast 66 = .ok (.iload_n 3, 1) := by decide +kernel
theorem dc_M_takeLeast_67 : decode bc_M_takeLeast 67 = .ok (.iaload, 1) := by decide +kernel
theorem dc_M_takeLeast_68 : decode bc_M_takeLeast 68 = .ok (.invokevirtual 316, 3) := by decide +kernel
theorem dc_M_takeLeast_71 : decode bc_M_takeLeast 71 = .ok (.aload_n 0, 1) := by decide +kernel
theorem dc_M_takeLeast_72 : decode bc_M_takeLeast 72 = .ok (.dup, 1) := by decide +kernel
theorem dc_M_takeLeast_73 : decode bc_M_takeLeast 73 = .ok (.getfield 195, 3) := by decide +kernel
theorem dc_M_takeLeast_76 : decode bc_M_takeLeast 76 = .ok (.iconst 1, 1) := by decide +kernel
theorem dc_M_takeLeast_77 : decode bc_M_takeLeast 77 = .ok (.isub, 1) := by decide +kernel
theorem dc_M_takeLeast_78 : decode bc_M_takeLeast 78 = .ok (.putfield 195, 3) := by decide +kernel
theorem dc_M_takeLeast_81 : decode bc_M_takeLeast 81 = .ok (.iload_n 3, 1) := by decide +kernel
theorem dc_M_takeLeast_82 : decode bc_M_takeLeast 82 = .ok (.istore 4, 2) := by decide +kernel
theorem dc_M_takeLeast_84 : decode bc_M_takeLeast 84 = .ok (.iload 4, 2) := by decide +kernel
theorem dc_M_takeLeast_86 : decode bc_M_takeLeast 86 = .ok (.aload_n 0, 1) := by decide +kernel
theorem dc_M_takeLeast_87 : decode bc_M_takeLeast 87 = .ok (.getfield 195, 3) := by decide +kernel
theorem dc_M_takeLeast_90 : decode bc_M_takeLeast 90 = .ok (.if_icmp .ge 57, 3) := by decide +kernel
theorem dc_M_takeLeast_93 : decode bc_M_takeLeast 93 = .ok (.aload_n 0, 1) := by decide +kernel
theorem dc_M_takeLeast_94 : decode bc_M_takeLeast 94 = .ok (.getfield 84, 3) := by decide +kernel
theorem dc_M_takeLeast_97 : decode bc_M_takeLeast 97 = .ok (.iload 4, 2) := by decide +kernel
theorem dc_M_takeLeast_99 : decode bc_M_takeLeast 99 = .ok (.aload_n 0, 1) := by decide +kernel
theorem dc_M_takeLeast_100 : decode bc_M_takeLeast 100 = .ok (.getfield 84, 3) := by decide +kernel
theorem dc_M_takeLeast_103 : decode bc_M_takeLeast 103 = .ok (.iload 4, 2) := by decide +kernel
theorem dc_M_takeLeast_105 : decode bc_M_takeLeast 105 = .ok (.iconst 1, 1) := by decide +kernel
theorem dc_M_takeLeast_106 : decode bc_M_takeLeast 106 = .ok (.iadd, 1) := by decide +kernel
theorem dc_M_takeLeast_107 : decode bc_M_takeLeast 107 = .ok (.iaload, 1) := by decide +kernel
theorem dc_M_takeLeast_108 : decode bc_M_takeLeast 108 = .ok (.iastore, 1) := by decide +kernel
theorem dc_M_takeLeast_109 : decode bc_M_takeLeast 109 = .ok (.aload_n 0, 1) := by decide +kernel
theorem dc_M_takeLeast_110 : decode bc_M_takeLeast 110 = .ok (.getfield 87, 3) := by decide +kernel
theorem dc_M_takeLeast_113 : decode bc_M_takeLeast 113 = .ok (.iload 4, 2) := by decide +kernel
theorem dc_M_takeLeast_115 : decode bc_M_takeLeast 115 = .ok (.aload_n 0, 1) := by decide +kernel
theorem dc_M_takeLeast_116 : decode bc_M_takeLeast 116 = .ok (.getfield 87, 3) := by decide +kernel
theorem dc_M_takeLeast_119 : decode bc_M_takeLeast 119 = .ok (.iload 4, 2) := by decide +kernel
theorem dc_M_takeLeast_121 : decode bc_M_takeLeast 121 = .ok (.iconst 1, 1) := by decide +kernel
theorem dc_M_takeLeast_122 : decode bc_M_takeLeast 122 = .ok (.iadd, 1) := by decide +kernel
theorem dc_M_takeLeast_123 : decode bc_M_takeLeast 123 = .ok (.iaload, 1) := by decide +kernel
theorem dc_M_takeLeast_124 : decode bc_M_takeLeast 124 = .ok (.iastore, 1) := by decide +kernel
theorem dc_M_takeLeast_125 : decode bc_M_takeLeast 125 = .ok (.aload_n 0, 1) := by decide +kernel
theorem dc_M_takeLeast_126 : decode bc_M_takeLeast 126 = .ok (.getfield 90, 3) := by decide +kernel
theorem dc_M_takeLeast_129 : decode bc_M_takeLeast 129 = .ok (.iload 4, 2) := by decide +kernel
theorem dc_M_takeLeast_131 : decode bc_M_takeLeast 131 = .ok (.aload_n 0, 1) := by decide +kernel
theorem dc_M_takeLeast_132 : decode bc_M_takeLeast 132 = .ok (.getfield 90, 3) := by decide +kernel
theorem dc_M_takeLeast_135 : decode bc_M_takeLeast 135 = .ok (.iload 4, 2) := by decide +kernel
theorem dc_M_takeLeast_137 : decode bc_M_takeLeast 137 = .ok (.iconst 1, 1) := by decide +kernel
theorem dc_M_takeLeast_138 : decode bc_M_takeLeast 138 = .ok (.iadd, 1) := by decide +kernel
theorem dc_M_takeLeast_139 : decode bc_M_takeLeast 139 = .ok (.iaload, 1) := by decide +kernel
theorem dc_M_takeLeast_140 : decode bc_M_takeLeast 140 = .ok (.iastore, 1) := by decide +kernel
theorem dc_M_takeLeast_141 : decode bc_M_takeLeast 141 = .ok (.iinc 4 1, 3) := by decide +kernel
theorem dc_M_takeLeast_144 : decode bc_M_takeLeast 144 = .ok (.goto (-60), 3) := by decide +kernel
theorem dc_M_takeLeast_147 : decode bc_M_takeLeast 147 = .ok (.return_, 1) := by decide +kernel
theorem dc_M_runReady_0 : decode bc_M_runReady 0 = .ok (.aload_n 0, 1) := by decide +kernel
theorem dc_M_runReady_1 : decode bc_M_runReady 1 = .ok (.getfield 325, 3) := by decide +kernel
theorem dc_M_runReady_4 : decode bc_M_runReady 4 = .ok (.aload_n 0, 1) := by decide +kernel
theorem dc_M_runReady_5 : decode bc_M_runReady 5 = .ok (.getfield 313, 3) := by decide +kernel
theorem dc_M_runReady_8 : decode bc_M_runReady 8 = .ok (.if_icmp .ge 56, 3) := by decide +kernel
theorem dc_M_runReady_11 : decode bc_M_runReady 11 = .ok (.aload_n 0, 1) := by decide +kernel
theorem dc_M_runReady_12 : decode bc_M_runReady 12 = .ok (.getfield 325, 3) := by decide +kernel
theorem dc_M_runReady_15 : decode bc_M_runReady 15 = .ok (.istore_n 1, 1) := by decide +kernel
theorem dc_M_runReady_16 : decode bc_M_runReady 16 = .ok (.aload_n 0, 1) := by decide +kernel
theorem dc_M_runReady_17 : decode bc_M_runReady 17 = .ok (.dup, 1) := by decide +kernel
theorem dc_M_runReady_18 : decode bc_M_runReady 18 = .ok (.getfield 325, 3) := by decide +kernel
theorem dc_M_runReady_21 : decode bc_M_runReady 21 = .ok (.iconst 1, 1) := by decide +kernel
theorem dc_M_runReady_22 : decode bc_M_runReady 22 = .ok (.iadd, 1) := by decide +kernel
theorem dc_M_runReady_23 : decode bc_M_runReady 23 = .ok (.putfield 325, 3) := by decide +kernel
theorem dc_M_runReady_26 : decode bc_M_runReady 26 = .ok (.aload_n 0, 1) := by decide +kernel
theorem dc_M_runReady_27 : decode bc_M_runReady 27 = .ok (.aload_n 0, 1) := by decide +kernel
theorem dc_M_runReady_28 : decode bc_M_runReady 28 = .ok (.getfield 99, 3) := by decide +kernel
theorem dc_M_runReady_31 : decode bc_M_runReady 31 = .ok (.iload_n 1, 1) := by decide +kernel
theorem dc_M_runReady_32 : decode bc_M_runReady 32 = .ok (.iaload, 1) := by decide +kernel
theorem dc_M_runReady_33 : decode bc_M_runReady 33 = .ok (.bipush 64, 2) := by decide +kernel
theorem dc_M_runReady_35 : decode bc_M_runReady 35 = .ok (.idiv, 1) := by decide +kernel
theorem dc_M_runReady_36 : decode bc_M_runReady 36 = .ok (.aload_n 0, 1) := by decide +kernel
theorem dc_M_runReady_37 : decode bc_M_runReady 37 = .ok (.getfield 99, 3) := by decide +kernel
theorem dc_M_runReady_40 : decode bc_M_runReady 40 = .ok (.iload_n 1, 1) := by decide +kernel
theorem dc_M_runReady_41 : decode bc_M_runReady 41 = .ok (.iaload, 1) := by decide +kernel
theorem dc_M_runReady_42 : decode bc_M_runReady 42 = .ok (.bipush 64, 2) := by decide +kernel
theorem dc_M_runReady_44 : decode bc_M_runReady 44 = .ok (.irem, 1) := by decide +kernel
theorem dc_M_runReady_45 : decode bc_M_runReady 45 = .ok (.aload_n 0, 1) := by decide +kernel
theorem dc_M_runReady_46 : decode bc_M_runReady 46 = .ok (.getfield 102, 3) := by decide +kernel
theorem dc_M_runReady_49 : decode bc_M_runReady 49 = .ok (.iload_n 1, 1) := by decide +kernel
theorem dc_M_runReady_50 : decode bc_M_runReady 50 = .ok (.iaload, 1) := by decide +kernel
theorem dc_M_runReady_51 : decode bc_M_runReady 51 = .ok (.aload_n 0, 1) := by decide +kernel
theorem dc_M_runReady_52 : decode bc_M_runReady 52 = .ok (.getfield 105, 3) := by decide +kernel
theorem dc_M_runReady_55 : decode bc_M_runReady 55 = .ok (.iload_n 1, 1) := by decide +kernel
theorem dc_M_runReady_56 : decode bc_M_runReady 56 = .ok (.iaload, 1) := by decide +kernel
theorem dc_M_runReady_57 : decode bc_M_runReady 57 = .ok (.invokevirtual 328, 3) := by decide +kernel
theorem dc_M_runReady_60 : decode bc_M_runReady 60 = .ok (.pop, 1) := by decide +kernel
theorem dc_M_runReady_61 : decode bc_M_runReady 61 = .ok (.goto (-61), 3) := by decide +kernel
theorem dc_M_runReady_64 : decode bc_M_runReady 64 = .ok (.aload_n 0, 1) := by decide +kernel
theorem dc_M_runReady_65 : decode bc_M_runReady 65 = .ok (.iconst 0, 1) := by decide +kernel
theorem dc_M_runReady_66 : decode bc_M_runReady 66 = .ok (.putfield 325, 3) := by decide +kernel
theorem dc_M_runReady_69 : decode bc_M_runReady 69 = .ok (.aload_n 0, 1) := by decide +kernel
theorem dc_M_runReady_70 : decode bc_M_runReady 70 = .ok (.iconst 0, 1) := by decide +kernel
theorem dc_M_runReady_71 : decode bc_M_runReady 71 = .ok (.putfield 313, 3) := by decide +kernel
theorem dc_M_runReady_74 : decode bc_M_runReady 74 = .ok (.return_, 1) := by decide +kernel
theorem dc_M_send_0 : decode bc_M_send 0 = .ok (.iload_n 1, 1) := by decide +kernel
theorem dc_M_send_1 : decode bc_M_send 1 = .ok (.iconst 0, 1) := by decide +kernel
theorem dc_M_send_2 : decode bc_M_send 2 = .ok (.iconst 3, 1) := by decide +kernel
theorem dc_M_send_3 : decode bc_M_send 3 = .ok (.invokestatic 144, 3) := by decide +kernel
theorem dc_M_send_6 : decode bc_M_send 6 = .ok (.ifCond .eq 5, 3) := by decide +kernel
theorem dc_M_send_9 : decode bc_M_send 9 = .ok (.iconst (-1), 1) := by decide +kernel
theorem dc_M_send_10 : decode bc_M_send 10 = .ok (.ireturn, 1) := by decide +kernel
theorem dc_M_send_11 : decode bc_M_send 11 = .ok (.aload_n 0, 1) := by decide +kernel
theorem dc_M_send_12 : decode bc_M_send 12 = .ok (.iconst 0, 1) := by decide +kernel
theorem dc_M_send_13 : decode bc_M_send 13 = .ok (.putfield 244, 3) := by decide +kernel
theorem dc_M_send_16 : decode bc_M_send 16 = .ok (.aload_n 0, 1) := by decide +kernel
theorem dc_M_send_17 : decode bc_M_send 17 = .ok (.iload_n 1, 1) := by decide +kernel
theorem dc_M_send_18 : decode bc_M_send 18 = .ok (.iconst 0, 1) := by decide +kernel
theorem dc_M_send_19 : decode bc_M_send 19 = .ok (.iload_n 2, 1) := by decide +kernel
theorem dc_M_send_20 : decode bc_M_send 20 = .ok (.iload_n 3, 1) := by decide +kernel
theorem dc_M_send_21 : decode bc_M_send 21 = .ok (.invokevirtual 328, 3) := by decide +kernel
theorem dc_M_send_24 : decode bc_M_send 24 = .ok (.istore 4, 2) := by decide +kernel
theorem dc_M_send_26 : decode bc_M_send 26 = .ok (.aload_n 0, 1) := by decide +kernel
theorem dc_M_send_27 : decode bc_M_send 27 = .ok (.invokevirtual 331, 3) := by decide +kernel
theorem dc_M_send_30 : decode bc_M_send 30 = .ok (.iload 4, 2) := by decide +kernel
theorem dc_M_send_32 : decode bc_M_send 32 = .ok (.ireturn, 1) := by decide +kernel
theorem dc_M_work_0 : decode bc_M_work 0 = .ok (.aload_n 0, 1) := by decide +kernel
theorem dc_M_work_1 : decode bc_M_work 1 = .ok (.getfield 189, 3) := by decide +kernel
theorem dc_M_work_4 : decode bc_M_work 4 = .ok (.ifCond .ne 5, 3) := by decide +kernel
theorem dc_M_work_7 : decode bc_M_work 7 = .ok (.iconst (-1), 1) := by decide +kernel
theorem dc_M_work_8 : decode bc_M_work 8 = .ok (.ireturn, 1) := by decide +kernel
theorem dc_M_work_9 : decode bc_M_work 9 = .ok (.aload_n 0, 1) := by decide +kernel
theorem dc_M_work_10 : decode bc_M_work 10 = .ok (.getfield 57, 3) := by decide +kernel
theorem dc_M_work_13 : decode bc_M_work 13 = .ok (.iconst 0, 1) := by decide +kernel
theorem dc_M_work_14 : decode bc_M_work 14 = .ok (.iaload, 1) := by decide +kernel
theorem dc_M_work_15 : decode bc_M_work 15 = .ok (.istore_n 1, 1) := by decide +kernel
theorem dc_M_work_16 : decode bc_M_work 16 = .ok (.aload_n 0, 1) := by decide +kernel
theorem dc_M_work_17 : decode bc_M_work 17 = .ok (.getfield 60, 3) := by decide +kernel
theorem dc_M_work_20 : decode bc_M_work 20 = .ok (.iconst 0, 1) := by decide +kernel
theorem dc_M_work_21 : decode bc_M_work 21 = .ok (.iaload, 1) := by decide +kernel
theorem dc_M_work_22 : decode bc_M_work 22 = .ok (.istore_n 2, 1) := by decide +kernel
theorem dc_M_work_23 : decode bc_M_work 23 = .ok (.aload_n 0, 1) := by decide +kernel
theorem dc_M_work_24 : decode bc_M_work 24 = .ok (.getfield 63, 3) := by decide +kernel
theorem dc_M_work_27 : decode bc_M_work 27 = .ok (.iconst 0, 1) := by decide +kernel
theorem dc_M_work_28 : decode bc_M_work 28 = .ok (.iaload, 1) := by decide +kernel
theorem dc_M_work_29 : decode bc_M_work 29 = .ok (.istore_n 3, 1) := by decide +kernel
theorem dc_M_work_30 : decode bc_M_work 30 = .ok (.aload_n 0, 1) := by decide +kernel
theorem dc_M_work_31 : decode bc_M_work 31 = .ok (.dup, 1) := by decide +kernel
theorem dc_M_work_32 : decode bc_M_work 32 = .ok (.getfield 189, 3) := by decide +kernel
theorem dc_M_work_35 : decode bc_M_work 35 = .ok (.iconst 1, 1) := by decide +kernel
theorem dc_M_work_36 : decode bc_M_work 36 = .ok (.isub, 1) := by decide +kernel
theorem dc_M_work_37 : decode bc_M_work 37 = .ok (.putfield 189, 3) := by decide +kernel
theorem dc_M_work_40 : decode bc_M_work 40 = .ok (.iconst 0, 1) := by decide +kernel
theorem dc_M_work_41 : decode bc_M_work 41 = .ok (.istore 4, 2) := by decide +kernel
theorem dc_M_work_43 : decode bc_M_work 43 = .ok (.iload 4, 2) := by decide +kernel
theorem dc_M_work_45 : decode bc_M_work 45 = .ok (.aload_n 0, 1) := by decide +kernel
theorem dc_M_work_46 : decode bc_M_work 46 = .ok (.getfield 189, 3) := by decide +kernel
theorem dc_M_work_49 : decode bc_M_work 49 = .ok (.if_icmp .ge 57, 3) := by decide +kernel
theorem dc_M_work_52 : decode bc_M_work 52 = .ok (.aload_n 0, 1) := by decide +kernel
theorem dc_M_work_53 : decode bc_M_work 53 = .ok (.getfield 57, 3) := by decide +kernel
theorem dc_M_work_56 : decode bc_M_work 56 = .ok (.iload 4, 2) := by decide +kernel
theorem dc_M_work_58 : decode bc_M_work 58 = .ok (.aload_n 0, 1) := by decide +kernel
theorem dc_M_work_59 : decode bc_M_work 59 = .ok (.getfield 57, 3) := by decide +kernel
theorem dc_M_work_62 : decode bc_M_work 62 = .ok (.iload 4, 2) := by decide +kernel
theorem dc_M_work_64 : decode bc_M_work 64 = .ok (.iconst 1, 1) := by decide +kernel
theorem dc_M_work_65 : decode bc_M_work 65 = .ok (.iadd, 1) := by decide +kernel
theorem dc_M_work_66 : decode bc_M_work 66 = .ok (.iaload, 1) := by decide +kernel
theorem dc_M_work_67 : decode bc_M_work 67 = .ok (.iastore, 1) := by decide +kernel
theorem dc_M_work_68 : decode bc_M_work 68 = .ok (.aload_n 0, 1) := by decide +kernel
theorem dc_M_work_69 : decode bc_M_work 69 = .ok (.getfield 60, 3) := by decide +kernel
theorem dc_M_work_72 : decode bc_M_work 72 = .ok (.iload 4, 2) := by decide +kernel
theorem dc_M_work_74 : decode bc_M_work 74 = .ok (.aload_n 0, 1) := by decide +kernel
theorem dc_M_work_75 : decode bc_M_work 75 = .ok (.getfield 60, 3) := by decide +kernel
theorem dc_M_work_78 : decode bc_M_work 78 = .ok (.iload 4, 2) := by decide +kernel
theorem dc_M_work_80 : decode bc_M_work 80 = .ok (.iconst 1, 1) := by decide +kernel
theorem dc_M_work_81 : decode bc_M_work 81 = .ok (.iadd, 1) := by decide +kernel
theorem dc_M_work_82 : decode bc_M_work 82 = .ok (.iaload, 1) := by decide +kernel
theorem dc_M_work_83 : decode bc_M_work 83 = .ok (.iastore, 1) := by decide +kernel
theorem dc_M_work_84 : decode bc_M_work 84 = .ok (.aload_n 0, 1) := by decide +kernel
theorem dc_M_work_85 : decode bc_M_work 85 = .ok (.getfield 63, 3) := by decide +kernel
theorem dc_M_work_88 : decode bc_M_work 88 = .ok (.iload 4, 2) := by decide +kernel
theorem dc_M_work_90 : decode bc_M_work 90 = .ok (.aload_n 0, 1) := by decide +kernel
theorem dc_M_work_91 : decode bc_M_work 91 = .ok (.getfield 63, 3) := by decide +kernel
theorem dc_M_work_94 : decode bc_M_work 94 = .ok (.iload 4, 2) := by decide +kernel
theorem dc_M_work_96 : decode bc_M_work 96 = .ok (.iconst 1, 1) := by decide +kernel
theorem dc_M_work_97 : decode bc_M_work 97 = .ok (.iadd, 1) := by decide +kernel
theorem dc_M_work_98 : decode bc_M_work 98 = .ok (.iaload, 1) := by decide +kernel
theorem dc_M_work_99 : decode bc_M_work 99 = .ok (.iastore, 1) := by decide +kernel
theorem dc_M_work_100 : decode bc_M_work 100 = .ok (.iinc 4 1, 3) := by decide +kernel
theorem dc_M_work_103 : decode bc_M_work 103 = .ok (.goto (-60), 3) := by decide +kernel
theorem dc_M_work_106 : decode bc_M_work 106 = .ok (.aload_n 0, 1) := by decide +kernel
theorem dc_M_work_107 : decode bc_M_work 107 = .ok (.iload_n 1, 1) := by decide +kernel
theorem dc_M_work_108 : decode bc_M_work 108 = .ok (.iload_n 2, 1) := by decide +kernel
theorem dc_M_work_109 : decode bc_M_work 109 = .ok (.iload_n 3, 1) := by decide +kernel
theorem dc_M_work_110 : decode bc_M_work 110 = .ok (.invokevirtual 334, 3) := by decide +kernel
theorem dc_M_work_113 : decode bc_M_work 113 = .ok (.ireturn, 1) := by decide +kernel
theorem dc_M_dueGroup_0 : decode bc_M_dueGroup 0 = .ok (.iconst 0, 1) := by decide +kernel
theorem dc_M_dueGroup_1 : decode bc_M_dueGroup 1 = .ok (.istore_n 1, 1) := by decide +kernel
theorem dc_M_dueGroup_2 : decode bc_M_dueGroup 2 = .ok (.iload_n 1, 1) := by decide +kernel
theorem dc_M_dueGroup_3 : decode bc_M_dueGroup 3 = .ok (.aload_n 0, 1) := by decide +kernel
theorem dc_M_dueGroup_4 : decode bc_M_dueGroup 4 = .ok (.getfield 192, 3) := by decide +kernel
theorem dc_M_dueGroup_7 : decode bc_M_dueGroup 7 = .ok (.if_icmp .ge 24, 3) := by decide +kernel
theorem dc_M_dueGroup_10 : decode bc_M_dueGroup 10 = .ok (.aload_n 0, 1) := by decide +kernel
theorem dc_M_dueGroup_11 : decode bc_M_dueGroup 11 = .ok (.getfield 78, 3) := by decide +kernel
theorem dc_M_dueGroup_14 : decode bc_M_dueGroup 14 = .ok (.iload_n 1, 1) := by decide +kernel
theorem dc_M_dueGroup_15 : decode bc_M_dueGroup 15 = .ok (.iaload, 1) := by decide +kernel
theorem dc_M_dueGroup_16 : decode bc_M_dueGroup 16 = .ok (.aload_n 0, 1) := by decide +kernel
theorem dc_M_dueGroup_17 : decode bc_M_dueGroup 17 = .ok (.getfield 261, 3) := by decide +kernel
theorem dc_M_dueGroup_20 : decode bc_M_dueGroup 20 = .ok (.if_icmp .gt 5, 3) := by decide +kernel
theorem dc_M_dueGroup_23 : decode bc_M_dueGroup 23 = .ok (.iload_n 1, 1) := by decide +kernel
theorem dc_M_dueGroup_24 : decode bc_M_dueGroup 24 = .ok (.ireturn, 1) := by decide +kernel
theorem dc_M_dueGroup_25 : decode bc_M_dueGroup 25 = .ok (.iinc 1 1, 3) := by decide +kernel
theorem dc_M_dueGroup_28 : decode bc_M_dueGroup 28 = .ok (.goto (-26), 3) := by decide +kernel
theorem dc_M_dueGroup_31 : decode bc_M_dueGroup 31 = .ok (.iconst (-1), 1) := by decide +kernel
theorem dc_M_dueGroup_32 : decode bc_M_dueGroup 32 = .ok (.ireturn, 1) := by decide +kernel
theorem dc_M_pass_0 : decode bc_M_pass 0 = .ok (.iload_n 1, 1) := by decide +kernel
theorem dc_M_pass_1 : decode bc_M_pass 1 = .ok (.iconst 1, 1) := by decide +kernel
theorem dc_M_pass_2 : decode bc_M_pass 2 = .ok (.bipush 100, 2) := by decide +kernel
theorem dc_M_pass_4 : decode bc_M_pass 4 = .ok (.invokestatic 144, 3) := by decide +kernel
theorem dc_M_pass_7 : decode bc_M_pass 7 = .ok (.ifCond .eq 5, 3) := by decide +kernel
theorem dc_M_pass_10 : decode bc_M_pass 10 = .ok (.iconst (-1), 1) := by decide +kernel
theorem dc_M_pass_11 : decode bc_M_pass 11 = .ok (.ireturn, 1) := by decide +kernel
theorem dc_M_pass_12 : decode bc_M_pass 12 = .ok (.aload_n 0, 1) := by decide +kernel
theorem dc_M_pass_13 : decode bc_M_pass 13 = .ok (.iconst 0, 1) := by decide +kernel
theorem dc_M_pass_14 : decode bc_M_pass 14 = .ok (.putfield 244, 3) := by decide +kernel
theorem dc_M_pass_17 : decode bc_M_pass 17 = .ok (.iconst 0, 1) := by decide +kernel
theorem dc_M_pass_18 : decode bc_M_pass 18 = .ok (.istore_n 2, 1) := by decide +kernel
theorem dc_M_pass_19 : decode bc_M_pass 19 = .ok (.iconst 0, 1) := by decide +kernel
theorem dc_M_pass_20 : decode bc_M_pass 20 = .ok (.istore_n 3, 1) := by decide +kernel
theorem dc_M_pass_21 : decode bc_M_pass 21 = .ok (.iload_n 3, 1) := by decide +kernel
theorem dc_M_pass_22 : decode bc_M_pass 22 = .ok (.iload_n 1, 1) := by decide +kernel
theorem dc_M_pass_23 : decode bc_M_pass 23 = .ok (.if_icmp .ge 65, 3) := by decide +kernel
theorem dc_M_pass_26 : decode bc_M_pass 26 = .ok (.aload_n 0, 1) := by decide +kernel
theorem dc_M_pass_27 : decode bc_M_pass 27 = .ok (.dup, 1) := by decide +kernel
theorem dc_M_pass_28 : decode bc_M_pass 28 = .ok (.getfield 261, 3) := by decide +kernel
theorem dc_M_pass_31 : decode bc_M_pass 31 = .ok (.iconst 1, 1) := by decide +kernel
theorem dc_M_pass_32 : decode bc_M_pass 32 = .ok (.iadd, 1) := by decide +kernel
theorem dc_M_pass_33 : decode bc_M_pass 33 = .ok (.putfield 261, 3) := by decide +kernel
theorem dc_M_pass_36 : decode bc_M_pass 36 = .ok (.aload_n 0, 1) := by decide +kernel
theorem dc_M_pass_37 : decode bc_M_pass 37 = .ok (.invokevirtual 337, 3) := by decide +kernel
theorem dc_M_pass_40 : decode bc_M_pass 40 = .ok (.istore 4, 2) := by decide +kernel
theorem dc_M_pass_42 : decode bc_M_pass 42 = .ok (.iconst 0, 1) := by decide +kernel
theorem dc_M_pass_43 : decode bc_M_pass 43 = .ok (.istore 5, 2) := by decide +kernel
theorem dc_M_pass_45 : decode bc_M_pass 45 = .ok (.iload 5, 2) := by decide +kernel
theorem dc_M_pass_47 : decode bc_M_pass 47 = .ok (.ldc 236, 2) := by decide +kernel
theorem dc_M_pass_49 : decode bc_M_pass 49 = .ok (.if_icmp .ge 33, 3) := by decide +kernel
theorem dc_M_pass_52 : decode bc_M_pass 52 = .ok (.iload 4, 2) := by decide +kernel
theorem dc_M_pass_54 : decode bc_M_pass 54 = .ok (.ifCond .lt 28, 3) := by decide +kernel
theorem dc_M_pass_57 : decode bc_M_pass 57 = .ok (.aload_n 0, 1) := by decide +kernel
theorem dc_M_pass_58 : decode bc_M_pass 58 = .ok (.iload 4, 2) := by decide +kernel
theorem dc_M_pass_60 : decode bc_M_pass 60 = .ok (.invokevirtual 319, 3) := by decide +kernel
theorem dc_M_pass_63 : decode bc_M_pass 63 = .ok (.iinc 2 1, 3) := by decide +kernel
theorem dc_M_pass_66 : decode bc_M_pass 66 = .ok (.aload_n 0, 1) := by decide +kernel
theorem dc_M_pass_67 : decode bc_M_pass 67 = .ok (.invokevirtual 331, 3) := by decide +kernel
theorem dc_M_pass_70 : decode bc_M_pass 70 = .ok (.aload_n 0, 1) := by decide +kernel
theorem dc_M_pass_71 : decode bc_M_pass 71 = .ok (.invokevirtual 337, 3) := by decide +kernel
theorem dc_M_pass_74 : decode bc_M_pass 74 = .ok (.istore 4, 2) := by decide +kernel
theorem dc_M_pass_76 : decode bc_M_pass 76 = .ok (.iinc 5 1, 3) := by decide +kernel
theorem dc_M_pass_79 : decode bc_M_pass 79 = .ok (.goto (-34), 3) := by decide +kernel
theorem dc_M_pass_82 : decode bc_M_pass 82 = .ok (.iinc 3 1, 3) := by decide +kernel
theorem dc_M_pass_85 : decode bc_M_pass 85 = .ok (.goto (-64), 3) := by decide +kernel
theorem dc_M_pass_88 : decode bc_M_pass 88 = .ok (.iload_n 2, 1) := by decide +kernel
theorem dc_M_pass_89 : decode bc_M_pass 89 = .ok (.ireturn, 1) := by decide +kernel
theorem dc_M_delivered_0 : decode bc_M_delivered 0 = .ok (.iload_n 1, 1) := by decide +kernel
theorem dc_M_delivered_1 : decode bc_M_delivered 1 = .ok (.iconst 0, 1) := by decide +kernel
theorem dc_M_delivered_2 : decode bc_M_delivered 2 = .ok (.iconst 4, 1) := by decide +kernel
theorem dc_M_delivered_3 : decode bc_M_delivered 3 = .ok (.invokestatic 144, 3) := by decide +kernel
theorem dc_M_delivered_6 : decode bc_M_delivered 6 = .ok (.ifCond .eq 7, 3) := by decide +kernel
theorem dc_M_delivered_9 : decode bc_M_delivered 9 = .ok (.iconst (-1), 1) := by decide +kernel
theorem dc_M_delivered_10 : decode bc_M_delivered 10 = .ok (.goto 9, 3) := by decide +kernel
theorem dc_M_delivered_13 : decode bc_M_delivered 13 = .ok (.aload_n 0, 1) := by decide +kernel
theorem dc_M_delivered_14 : decode bc_M_delivered 14 = .ok (.getfield 48, 3) := by decide +kernel
theorem dc_M_delivered_17 : decode bc_M_delivered 17 = .ok (.iload_n 1, 1) := by decide +kernel
theorem dc_M_delivered_18 : decode bc_M_delivered 18 = .ok (.iaload, 1) := by decide +kernel
theorem dc_M_delivered_19 : decode bc_M_delivered 19 = .ok (.ireturn, 1) := by decide +kernel
theorem dc_M_slot_0 : decode bc_M_slot 0 = .ok (.iload_n 1, 1) := by decide +kernel
theorem dc_M_slot_1 : decode bc_M_slot 1 = .ok (.iconst 0, 1) := by decide +kernel
theorem dc_M_slot_2 : decode bc_M_slot 2 = .ok (.iconst 4, 1) := by decide +kernel
theorem dc_M_slot_3 : decode bc_M_slot 3 = .ok (.invokestatic 144, 3) := by decide +kernel
theorem dc_M_slot_6 : decode bc_M_slot 6 = .ok (.ifCond .ne 23, 3) := by decide +kernel
theorem dc_M_slot_9 : decode bc_M_slot 9 = .ok (.iload_n 2, 1) := by decide +kernel
theorem dc_M_slot_10 : decode bc_M_slot 10 = .ok (.iconst 0, 1) := by decide +kernel
theorem dc_M_slot_11 : decode bc_M_slot 11 = .ok (.bipush 7, 2) := by decide +kernel
theorem dc_M_slot_13 : decode bc_M_slot 13 = .ok (.invokestatic 144, 3) := by decide +kernel
theorem dc_M_slot_16 : decode bc_M_slot 16 = .ok (.ifCond .ne 13, 3) := by decide +kernel
theorem dc_M_slot_19 : decode bc_M_slot 19 = .ok (.iload_n 2, 1) := by decide +kernel
theorem dc_M_slot_20 : decode bc_M_slot 20 = .ok (.aload_n 0, 1) := by decide +kernel
theorem dc_M_slot_21 : decode bc_M_slot 21 = .ok (.getfield 48, 3) := by decide +kernel
theorem dc_M_slot_24 : decode bc_M_slot 24 = .ok (.iload_n 1, 1) := by decide +kernel
theorem dc_M_slot_25 : decode bc_M_slot 25 = .ok (.iaload, 1) := by decide +kernel
theorem dc_M_slot_26 : decode bc_M_slot 26 = .ok (.if_icmp .lt 7, 3) := by decide +kernel
theorem dc_M_slot_29 : decode bc_M_slot 29 = .ok (.iconst (-1), 1) := by decide +kernel
theorem dc_M_slot_30 : decode bc_M_slot 30 = .ok (.goto 21, 3) := by decide +kernel
theorem dc_M_slot_33 : decode bc_M_slot 33 = .ok (.bipush 8, 2) := by decide +kernel
theorem dc_M_slot_35 : decode bc_M_slot 35 = .ok (.iload_n 1, 1) := by decide +kernel
theorem dc_M_slot_36 : decode bc_M_slot 36 = .ok (.imul, 1) := by decide +kernel
theorem dc_M_slot_37 : decode bc_M_slot 37 = .ok (.aload_n 0, 1) := by decide +kernel
theorem dc_M_slot_38 : decode bc_M_slot 38 = .ok (.getfield 48, 3) := by decide +kernel
theorem dc_M_slot_41 : decode bc_M_slot 41 = .ok (.iload_n 1, 1) := by decide +kernel
theorem dc_M_slot_42 : decode bc_M_slot 42 = .ok (.iaload, 1) := by decide +kernel
theorem dc_M_slot_43 : decode bc_M_slot 43 = .ok (.iconst 1, 1) := by decide +kernel
theorem dc_M_slot_44 : decode bc_M_slot 44 = .ok (.isub, 1) := by decide +kernel
theorem dc_M_slot_45 : decode bc_M_slot 45 = .ok (.iload_n 2, 1) := by decide +kernel
theorem dc_M_slot_46 : decode bc_M_slot 46 = .ok (.isub, 1) := by decide +kernel
theorem dc_M_slot_47 : decode bc_M_slot 47 = .ok (.bipush 8, 2) := by decide +kernel
theorem dc_M_slot_49 : decode bc_M_slot 49 = .ok (.irem, 1) := by decide +kernel
theorem dc_M_slot_50 : decode bc_M_slot 50 = .ok (.iadd, 1) := by decide +kernel
theorem dc_M_slot_51 : decode bc_M_slot 51 = .ok (.ireturn, 1) := by decide +kernel
theorem dc_M_body_0 : decode bc_M_body 0 = .ok (.aload_n 0, 1) := by decide +kernel
theorem dc_M_body_1 : decode bc_M_body 1 = .ok (.iload_n 1, 1) := by decide +kernel
theorem dc_M_body_2 : decode bc_M_body 2 = .ok (.iload_n 2, 1) := by decide +kernel
theorem dc_M_body_3 : decode bc_M_body 3 = .ok (.invokevirtual 340, 3) := by decide +kernel
theorem dc_M_body_6 : decode bc_M_body 6 = .ok (.istore_n 3, 1) := by decide +kernel
theorem dc_M_body_7 : decode bc_M_body 7 = .ok (.iload_n 3, 1) := by decide +kernel
theorem dc_M_body_8 : decode bc_M_body 8 = .ok (.ifCond .ge 7, 3) := by decide +kernel
theorem dc_M_body_11 : decode bc_M_body 11 = .ok (.iconst 0, 1) := by decide +kernel
theorem dc_M_body_12 : decode bc_M_body 12 = .ok (.goto 9, 3) := by decide +kernel
theorem dc_M_body_15 : decode bc_M_body 15 = .ok (.aload_n 0, 1) := by decide +kernel
theorem dc_M_body_16 : decode bc_M_body 16 = .ok (.getfield 51, 3) := by decide +kernel
theorem dc_M_body_19 : decode bc_M_body 19 = .ok (.iload_n 3, 1) := by decide +kernel
theorem dc_M_body_20 : decode bc_M_body 20 = .ok (.iaload, 1) := by decide +kernel
theorem dc_M_body_21 : decode bc_M_body 21 = .ok (.ireturn, 1) := by decide +kernel
theorem dc_M_key_0 : decode bc_M_key 0 = .ok (.aload_n 0, 1) := by decide +kernel
theorem dc_M_key_1 : decode bc_M_key 1 = .ok (.iload_n 1, 1) := by decide +kernel
theorem dc_M_key_2 : decode bc_M_key 2 = .ok (.iload_n 2, 1) := by decide +kernel
theorem dc_M_key_3 : decode bc_M_key 3 = .ok (.invokevirtual 340, 3) := by decide +kernel
theorem dc_M_key_6 : decode bc_M_key 6 = .ok (.istore_n 3, 1) := by decide +kernel
theorem dc_M_key_7 : decode bc_M_key 7 = .ok (.iload_n 3, 1) := by decide +kernel
theorem dc_M_key_8 : decode bc_M_key 8 = .ok (.ifCond .ge 7, 3) := by decide +kernel
theorem dc_M_key_11 : decode bc_M_key 11 = .ok (.iconst 0, 1) := by decide +kernel
theorem dc_M_key_12 : decode bc_M_key 12 = .ok (.goto 9, 3) := by decide +kernel
theorem dc_M_key_15 : decode bc_M_key 15 = .ok (.aload_n 0, 1) := by decide +kernel
theorem dc_M_key_16 : decode bc_M_key 16 = .ok (.getfield 54, 3) := by decide +kernel
theorem dc_M_key_19 : decode bc_M_key 19 = .ok (.iload_n 3, 1) := by decide +kernel
theorem dc_M_key_20 : decode bc_M_key 20 = .ok (.iaload, 1) := by decide +kernel
theorem dc_M_key_21 : decode bc_M_key 21 = .ok (.ireturn, 1) := by decide +kernel
theorem dc_M_group_0 : decode bc_M_group 0 = .ok (.iload_n 1, 1) := by decide +kernel
theorem dc_M_group_1 : decode bc_M_group 1 = .ok (.ifCond .lt 11, 3) := by decide +kernel
theorem dc_M_group_4 : decode bc_M_group 4 = .ok (.iload_n 1, 1) := by decide +kernel
theorem dc_M_group_5 : decode bc_M_group 5 = .ok (.aload_n 0, 1) := by decide +kernel
theorem dc_M_group_6 : decode bc_M_group 6 = .ok (.getfield 192, 3) := by decide +kernel
theorem dc_M_group_9 : decode bc_M_group 9 = .ok (.if_icmp .lt 5, 3) := by decide +kernel
theorem dc_M_group_12 : decode bc_M_group 12 = .ok (.iconst 0, 1) := by decide +kernel
theorem dc_M_group_13 : decode bc_M_group 13 = .ok (.ireturn, 1) := by decide +kernel
theorem dc_M_group_14 : decode bc_M_group 14 = .ok (.iload_n 2, 1) := by decide +kernel
theorem dc_M_group_15 : decode bc_M_group 15 = .ok (.ifCond .ne 12, 3) := by decide +kernel
theorem dc_M_group_18 : decode bc_M_group 18 = .ok (.aload_n 0, 1) := by decide +kernel
theorem dc_M_group_19 : decode bc_M_group 19 = .ok (.getfield 69, 3) := by decide +kernel
theorem dc_M_group_22 : decode bc_M_group 22 = .ok (.iload_n 1, 1) := by decide +kernel
theorem dc_M_group_23 : decode bc_M_group 23 = .ok (.iaload, 1) := by decide +kernel
theorem dc_M_group_24 : decode bc_M_group 24 = .ok (.goto 46, 3) := by decide +kernel
theorem dc_M_group_27 : decode bc_M_group 27 = .ok (.iload_n 2, 1) := by decide +kernel
theorem dc_M_group_28 : decode bc_M_group 28 = .ok (.iconst 1, 1) := by decide +kernel
theorem dc_M_group_29 : decode bc_M_group 29 = .ok (.if_icmp .ne 12, 3) := by decide +kernel
theorem dc_M_group_32 : decode bc_M_group 32 = .ok (.aload_n 0, 1) := by decide +kernel
theorem dc_M_group_33 : decode bc_M_group 33 = .ok (.getfield 72, 3) := by decide +kernel
theorem dc_M_group_36 : decode bc_M_group 36 = .ok (.iload_n 1, 1) := by decide +kernel
theorem dc_M_group_37 : decode bc_M_group 37 = .ok (.iaload, 1) := by decide +kernel
theorem dc_M_group_38 : decode bc_M_group 38 = .ok (.goto 32, 3) := by decide +kernel
theorem dc_M_group_41 : decode bc_M_group 41 = .ok (.iload_n 2, 1) := by decide +kernel
theorem dc_M_group_42 : decode bc_M_group 42 = .ok (.iconst 2, 1) := by decide +kernel
theorem dc_M_group_43 : decode bc_M_group 43 = .ok (.if_icmp .ne 12, 3) := by decide +kernel
theorem dc_M_group_46 : decode bc_M_group 46 = .ok (.aload_n 0, 1) := by decide +kernel
theorem dc_M_group_47 : decode bc_M_group 47 = .ok (.getfield 75, 3) := by decide +kernel
theorem dc_M_group_50 : decode bc_M_group 50 = .ok (.iload_n 1, 1) := by decide +kernel
theorem dc_M_group_51 : decode bc_M_group 51 = .ok (.iaload, 1) := by decide +kernel
theorem dc_M_group_52 : decode bc_M_group 52 = .ok (.goto 18, 3) := by decide +kernel
theorem dc_M_group_55 : decode bc_M_group 55 = .ok (.iload_n 2, 1) := by decide +kernel
theorem dc_M_group_56 : decode bc_M_group 56 = .ok (.iconst 3, 1) := by decide +kernel
theorem dc_M_group_57 : decode bc_M_group 57 = .ok (.if_icmp .ne 12, 3) := by decide +kernel
theorem dc_M_group_60 : decode bc_M_group 60 = .ok (.aload_n 0, 1) := by decide +kernel
theorem dc_M_group_61 : decode bc_M_group 61 = .ok (.getfield 78, 3) := by decide +kernel
theorem dc_M_group_64 : decode bc_M_group 64 = .ok (.iload_n 1, 1) := by decide +kernel
theorem dc_M_group_65 : decode bc_M_group 65 = .ok (.iaload, 1) := by decide +kernel
theorem dc_M_group_66 : decode bc_M_group 66 = .ok (.goto 4, 3) := by decide +kernel
theorem dc_M_group_69 : decode bc_M_group 69 = .ok (.iconst 0, 1) := by decide +kernel
theorem dc_M_group_70 : decode bc_M_group 70 = .ok (.ireturn, 1) := by decide +kernel
theorem dc_M_count_0 : decode bc_M_count 0 = .ok (.iload_n 1, 1) := by decide +kernel
theorem dc_M_count_1 : decode bc_M_count 1 = .ok (.ifCond .lt 16, 3) := by decide +kernel
theorem dc_M_count_4 : decode bc_M_count 4 = .ok (.iload_n 1, 1) := by decide +kernel
theorem dc_M_count_5 : decode bc_M_count 5 = .ok (.bipush 7, 2) := by decide +kernel
theorem dc_M_count_7 : decode bc_M_count 7 = .ok (.if_icmp .gt 10, 3) := by decide +kernel
theorem dc_M_count_10 : decode bc_M_count 10 = .ok (.aload_n 0, 1) := by decide +kernel
theorem dc_M_count_11 : decode bc_M_count 11 = .ok (.getfield 141, 3) := by decide +kernel
theorem dc_M_count_14 : decode bc_M_count 14 = .ok (.iload_n 1, 1) := by decide +kernel
theorem dc_M_count_15 : decode bc_M_count 15 = .ok (.iaload, 1) := by decide +kernel
theorem dc_M_count_16 : decode bc_M_count 16 = .ok (.ireturn, 1) := by decide +kernel
theorem dc_M_count_17 : decode bc_M_count 17 = .ok (.iload_n 1, 1) := by decide +kernel
theorem dc_M_count_18 : decode bc_M_count 18 = .ok (.bipush 8, 2) := by decide +kernel
theorem dc_M_count_20 : decode bc_M_count 20 = .ok (.if_icmp .ne 10, 3) := by decide +kernel
theorem dc_M_count_23 : decode bc_M_count 23 = .ok (.aload_n 0, 1) := by decide +kernel
theorem dc_M_count_24 : decode bc_M_count 24 = .ok (.getfield 261, 3) := by decide +kernel
theorem dc_M_count_27 : decode bc_M_count 27 = .ok (.goto 56, 3) := by decide +kernel
theorem dc_M_count_30 : decode bc_M_count 30 = .ok (.iload_n 1, 1) := by decide +kernel
theorem dc_M_count_31 : decode bc_M_count 31 = .ok (.bipush 9, 2) := by decide +kernel
theorem dc_M_count_33 : decode bc_M_count 33 = .ok (.if_icmp .ne 10, 3) := by decide +kernel
theorem dc_M_count_36 : decode bc_M_count 36 = .ok (.aload_n 0, 1) := by decide +kernel
theorem dc_M_count_37 : decode bc_M_count 37 = .ok (.getfield 189, 3) := by decide +kernel
theorem dc_M_count_40 : decode bc_M_count 40 = .ok (.goto 43, 3) := by decide +kernel
theorem dc_M_count_43 : decode bc_M_count 43 = .ok (.iload_n 1, 1) := by decide +kernel
theorem dc_M_count_44 : decode bc_M_count 44 = .ok (.bipush 10, 2) := by decide +kernel
theorem dc_M_count_46 : decode bc_M_count 46 = .ok (.if_icmp .ne 10, 3) := by decide +kernel
theorem dc_M_count_49 : decode bc_M_count 49 = .ok (.aload_n 0, 1) := by decide +kernel
theorem dc_M_count_50 : decode bc_M_count 50 = .ok (.getfield 192, 3) := by decide +kernel
theorem dc_M_count_53 : decode bc_M_count 53 = .ok (.goto 30, 3) := by decide +kernel
theorem dc_M_count_56 : decode bc_M_count 56 = .ok (.iload_n 1, 1) := by decide +kernel
theorem dc_M_count_57 : decode bc_M_count 57 = .ok (.bipush 11, 2) := by decide +kernel
theorem dc_M_count_59 : decode bc_M_count 59 = .ok (.if_icmp .ne 10, 3) := by decide +kernel
theorem dc_M_count_62 : decode bc_M_count 62 = .ok (.aload_n 0, 1) := by decide +kernel
theorem dc_M_count_63 : decode bc_M_count 63 = .ok (.getfield 195, 3) := by decide +kernel
theorem dc_M_count_66 : decode bc_M_count 66 = .ok (.goto 17, 3) := by decide +kernel
theorem dc_M_count_69 : decode bc_M_count 69 = .ok (.iload_n 1, 1) := by decide +kernel
theorem dc_M_count_70 : decode bc_M_count 70 = .ok (.bipush 12, 2) := by decide +kernel
theorem dc_M_count_72 : decode bc_M_count 72 = .ok (.if_icmp .ne 10, 3) := by decide +kernel
theorem dc_M_count_75 : decode bc_M_count 75 = .ok (.aload_n 0, 1) := by decide +kernel
theorem dc_M_count_76 : decode bc_M_count 76 = .ok (.getfield 264, 3) := by decide +kernel
theorem dc_M_count_79 : decode bc_M_count 79 = .ok (.goto 4, 3) := by decide +kernel
theorem dc_M_count_82 : decode bc_M_count 82 = .ok (.iconst (-1), 1) := by decide +kernel
theorem dc_M_count_83 : decode bc_M_count 83 = .ok (.ireturn, 1) := by decide +kernel
