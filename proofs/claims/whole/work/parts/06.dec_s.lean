theorem dc_E_init_0 : decode bc_E_init 0 = .ok (.aload_n 0, 1) := by decide +kernel
theorem dc_E_init_1 : decode bc_E_init 1 = .ok (.invokespecial 3, 3) := by decide +kernel
theorem dc_E_init_4 : decode bc_E_init 4 = .ok (.aload_n 0, 1) := by decide +kernel
theorem dc_E_init_5 : decode bc_E_init 5 = .ok (.iconst 4, 1) := by decide +kernel
theorem dc_E_init_6 : decode bc_E_init 6 = .ok (.newarray .int, 2) := by decide +kernel
theorem dc_E_init_8 : decode bc_E_init 8 = .ok (.putfield 9, 3) := by decide +kernel
theorem dc_E_init_11 : decode bc_E_init 11 = .ok (.aload_n 0, 1) := by decide +kernel
theorem dc_E_init_12 : decode bc_E_init 12 = .ok (.new 13, 3) := by decide +kernel
theorem dc_E_init_15 : decode bc_E_init 15 = .ok (.dup, 1) := by decide +kernel
theorem dc_E_init_16 : decode bc_E_init 16 = .ok (.invokespecial 15, 3) := by decide +kernel
theorem dc_E_init_19 : decode bc_E_init 19 = .ok (.putfield 16, 3) := by decide +kernel
theorem dc_E_init_22 : decode bc_E_init 22 = .ok (.aload_n 0, 1) := by decide +kernel
theorem dc_E_init_23 : decode bc_E_init 23 = .ok (.new 13, 3) := by decide +kernel
theorem dc_E_init_26 : decode bc_E_init 26 = .ok (.dup, 1) := by decide +kernel
theorem dc_E_init_27 : decode bc_E_init 27 = .ok (.invokespecial 15, 3) := by decide +kernel
theorem dc_E_init_30 : decode bc_E_init 30 = .ok (.putfield 20, 3) := by decide +kernel
theorem dc_E_init_33 : decode bc_E_init 33 = .ok (.aload_n 0, 1) := by decide +kernel
theorem dc_E_init_34 : decode bc_E_init 34 = .ok (.new 23, 3) := by decide +kernel
theorem dc_E_init_37 : decode bc_E_init 37 = .ok (.dup, 1) := by decide +kernel
theorem dc_E_init_38 : decode bc_E_init 38 = .ok (.aload_n 0, 1) := by decide +kernel
theorem dc_E_init_39 : decode bc_E_init 39 = .ok (.getfield 16, 3) := by decide +kernel
theorem dc_E_init_42 : decode bc_E_init 42 = .ok (.invokespecial 25, 3) := by decide +kernel
theorem dc_E_init_45 : decode bc_E_init 45 = .ok (.putfield 28, 3) := by decide +kernel
theorem dc_E_init_48 : decode bc_E_init 48 = .ok (.aload_n 0, 1) := by decide +kernel
theorem dc_E_init_49 : decode bc_E_init 49 = .ok (.new 32, 3) := by decide +kernel
theorem dc_E_init_52 : decode bc_E_init 52 = .ok (.dup, 1) := by decide +kernel
theorem dc_E_init_53 : decode bc_E_init 53 = .ok (.invokespecial 34, 3) := by decide +kernel
theorem dc_E_init_56 : decode bc_E_init 56 = .ok (.putfield 35, 3) := by decide +kernel
theorem dc_E_init_59 : decode bc_E_init 59 = .ok (.aload_n 0, 1) := by decide +kernel
theorem dc_E_init_60 : decode bc_E_init 60 = .ok (.iconst 5, 1) := by decide +kernel
theorem dc_E_init_61 : decode bc_E_init 61 = .ok (.anewarray 39, 3) := by decide +kernel
theorem dc_E_init_64 : decode bc_E_init 64 = .ok (.putfield 41, 3) := by decide +kernel
theorem dc_E_init_67 : decode bc_E_init 67 = .ok (.iconst 0, 1) := by decide +kernel
theorem dc_E_init_68 : decode bc_E_init 68 = .ok (.istore_n 1, 1) := by decide +kernel
theorem dc_E_init_69 : decode bc_E_init 69 = .ok (.iload_n 1, 1) := by decide +kernel
theorem dc_E_init_70 : decode bc_E_init 70 = .ok (.iconst 4, 1) := by decide +kernel
theorem dc_E_init_71 : decode bc_E_init 71 = .ok (.if_icmp .gt 22, 3) := by decide +kernel
theorem dc_E_init_74 : decode bc_E_init 74 = .ok (.aload_n 0, 1) := by decide +kernel
theorem dc_E_init_75 : decode bc_E_init 75 = .ok (.getfield 41, 3) := by decide +kernel
theorem dc_E_init_78 : decode bc_E_init 78 = .ok (.iload_n 1, 1) := by decide +kernel
theorem dc_E_init_79 : decode bc_E_init 79 = .ok (.new 39, 3) := by decide +kernel
theorem dc_E_init_82 : decode bc_E_init 82 = .ok (.dup, 1) := by decide +kernel
theorem dc_E_init_83 : decode bc_E_init 83 = .ok (.invokespecial 45, 3) := by decide +kernel
theorem dc_E_init_86 : decode bc_E_init 86 = .ok (.aastore, 1) := by decide +kernel
theorem dc_E_init_87 : decode bc_E_init 87 = .ok (.iinc 1 1, 3) := by decide +kernel
theorem dc_E_init_90 : decode bc_E_init 90 = .ok (.goto (-21), 3) := by decide +kernel
theorem dc_E_init_93 : decode bc_E_init 93 = .ok (.aload_n 0, 1) := by decide +kernel
theorem dc_E_init_94 : decode bc_E_init 94 = .ok (.new 46, 3) := by decide +kernel
theorem dc_E_init_97 : decode bc_E_init 97 = .ok (.dup, 1) := by decide +kernel
theorem dc_E_init_98 : decode bc_E_init 98 = .ok (.bipush 8, 2) := by decide +kernel
theorem dc_E_init_100 : decode bc_E_init 100 = .ok (.invokespecial 48, 3) := by decide +kernel
theorem dc_E_init_103 : decode bc_E_init 103 = .ok (.putfield 51, 3) := by decide +kernel
theorem dc_E_init_106 : decode bc_E_init 106 = .ok (.aload_n 0, 1) := by decide +kernel
theorem dc_E_init_107 : decode bc_E_init 107 = .ok (.new 46, 3) := by decide +kernel
theorem dc_E_init_110 : decode bc_E_init 110 = .ok (.dup, 1) := by decide +kernel
theorem dc_E_init_111 : decode bc_E_init 111 = .ok (.sipush 401, 3) := by decide +kernel
theorem dc_E_init_114 : decode bc_E_init 114 = .ok (.invokespecial 48, 3) := by decide +kernel
theorem dc_E_init_117 : decode bc_E_init 117 = .ok (.putfield 55, 3) := by decide +kernel
theorem dc_E_init_120 : decode bc_E_init 120 = .ok (.aload_n 0, 1) := by decide +kernel
theorem dc_E_init_121 : decode bc_E_init 121 = .ok (.new 58, 3) := by decide +kernel
theorem dc_E_init_124 : decode bc_E_init 124 = .ok (.dup, 1) := by decide +kernel
theorem dc_E_init_125 : decode bc_E_init 125 = .ok (.invokespecial 60, 3) := by decide +kernel
theorem dc_E_init_128 : decode bc_E_init 128 = .ok (.putfield 61, 3) := by decide +kernel
theorem dc_E_init_131 : decode bc_E_init 131 = .ok (.aload_n 0, 1) := by decide +kernel
theorem dc_E_init_132 : decode bc_E_init 132 = .ok (.new 65, 3) := by decide +kernel
theorem dc_E_init_135 : decode bc_E_init 135 = .ok (.dup, 1) := by decide +kernel
theorem dc_E_init_136 : decode bc_E_init 136 = .ok (.invokespecial 67, 3) := by decide +kernel
theorem dc_E_init_139 : decode bc_E_init 139 = .ok (.putfield 68, 3) := by decide +kernel
theorem dc_E_init_142 : decode bc_E_init 142 = .ok (.aload_n 0, 1) := by decide +kernel
theorem dc_E_init_143 : decode bc_E_init 143 = .ok (.bipush 16, 2) := by decide +kernel
theorem dc_E_init_145 : decode bc_E_init 145 = .ok (.anewarray 72, 3) := by decide +kernel
theorem dc_E_init_148 : decode bc_E_init 148 = .ok (.putfield 74, 3) := by decide +kernel
theorem dc_E_init_151 : decode bc_E_init 151 = .ok (.iconst 0, 1) := by decide +kernel
theorem dc_E_init_152 : decode bc_E_init 152 = .ok (.istore_n 1, 1) := by decide +kernel
theorem dc_E_init_153 : decode bc_E_init 153 = .ok (.iload_n 1, 1) := by decide +kernel
theorem dc_E_init_154 : decode bc_E_init 154 = .ok (.bipush 16, 2) := by decide +kernel
theorem dc_E_init_156 : decode bc_E_init 156 = .ok (.if_icmp .ge 22, 3) := by decide +kernel
theorem dc_E_init_159 : decode bc_E_init 159 = .ok (.aload_n 0, 1) := by decide +kernel
theorem dc_E_init_160 : decode bc_E_init 160 = .ok (.getfield 74, 3) := by decide +kernel
theorem dc_E_init_163 : decode bc_E_init 163 = .ok (.iload_n 1, 1) := by decide +kernel
theorem dc_E_init_164 : decode bc_E_init 164 = .ok (.new 72, 3) := by decide +kernel
theorem dc_E_init_167 : decode bc_E_init 167 = .ok (.dup, 1) := by decide +kernel
theorem dc_E_init_168 : decode bc_E_init 168 = .ok (.invokespecial 78, 3) := by decide +kernel
theorem dc_E_init_171 : decode bc_E_init 171 = .ok (.aastore, 1) := by decide +kernel
theorem dc_E_init_172 : decode bc_E_init 172 = .ok (.iinc 1 1, 3) := by decide +kernel
theorem dc_E_init_175 : decode bc_E_init 175 = .ok (.goto (-22), 3) := by decide +kernel
theorem dc_E_init_178 : decode bc_E_init 178 = .ok (.aload_n 0, 1) := by decide +kernel
theorem dc_E_init_179 : decode bc_E_init 179 = .ok (.bipush 8, 2) := by decide +kernel
theorem dc_E_init_181 : decode bc_E_init 181 = .ok (.newarray .int, 2) := by decide +kernel
theorem dc_E_init_183 : decode bc_E_init 183 = .ok (.putfield 79, 3) := by decide +kernel
theorem dc_E_init_186 : decode bc_E_init 186 = .ok (.return_, 1) := by decide +kernel
theorem dc_P_init_0 : decode bc_P_init 0 = .ok (.aload_n 0, 1) := by decide +kernel
theorem dc_P_init_1 : decode bc_P_init 1 = .ok (.invokespecial 3, 3) := by decide +kernel
theorem dc_P_init_4 : decode bc_P_init 4 = .ok (.aload_n 0, 1) := by decide +kernel
theorem dc_P_init_5 : decode bc_P_init 5 = .ok (.sipush 164, 3) := by decide +kernel
theorem dc_P_init_8 : decode bc_P_init 8 = .ok (.newarray .char, 2) := by decide +kernel
theorem dc_P_init_10 : decode bc_P_init 10 = .ok (.putfield 9, 3) := by decide +kernel
theorem dc_P_init_13 : decode bc_P_init 13 = .ok (.aload_n 0, 1) := by decide +kernel
theorem dc_P_init_14 : decode bc_P_init 14 = .ok (.sipush 164, 3) := by decide +kernel
theorem dc_P_init_17 : decode bc_P_init 17 = .ok (.newarray .int, 2) := by decide +kernel
theorem dc_P_init_19 : decode bc_P_init 19 = .ok (.putfield 15, 3) := by decide +kernel
theorem dc_P_init_22 : decode bc_P_init 22 = .ok (.aload_n 0, 1) := by decide +kernel
theorem dc_P_init_23 : decode bc_P_init 23 = .ok (.sipush 164, 3) := by decide +kernel
theorem dc_P_init_26 : decode bc_P_init 26 = .ok (.newarray .int, 2) := by decide +kernel
theorem dc_P_init_28 : decode bc_P_init 28 = .ok (.putfield 19, 3) := by decide +kernel
theorem dc_P_init_31 : decode bc_P_init 31 = .ok (.aload_n 0, 1) := by decide +kernel
theorem dc_P_init_32 : decode bc_P_init 32 = .ok (.sipush 164, 3) := by decide +kernel
theorem dc_P_init_35 : decode bc_P_init 35 = .ok (.newarray .int, 2) := by decide +kernel
theorem dc_P_init_37 : decode bc_P_init 37 = .ok (.putfield 22, 3) := by decide +kernel
theorem dc_P_init_40 : decode bc_P_init 40 = .ok (.aload_n 0, 1) := by decide +kernel
theorem dc_P_init_41 : decode bc_P_init 41 = .ok (.sipush 164, 3) := by decide +kernel
theorem dc_P_init_44 : decode bc_P_init 44 = .ok (.newarray .int, 2) := by decide +kernel
theorem dc_P_init_46 : decode bc_P_init 46 = .ok (.putfield 25, 3) := by decide +kernel
theorem dc_P_init_49 : decode bc_P_init 49 = .ok (.aload_n 0, 1) := by decide +kernel
theorem dc_P_init_50 : decode bc_P_init 50 = .ok (.sipush 164, 3) := by decide +kernel
theorem dc_P_init_53 : decode bc_P_init 53 = .ok (.newarray .int, 2) := by decide +kernel
theorem dc_P_init_55 : decode bc_P_init 55 = .ok (.putfield 28, 3) := by decide +kernel
theorem dc_P_init_58 : decode bc_P_init 58 = .ok (.return_, 1) := by decide +kernel
theorem dc_R_init_0 : decode bc_R_init 0 = .ok (.aload_n 0, 1) := by decide +kernel
theorem dc_R_init_1 : decode bc_R_init 1 = .ok (.invokespecial 3, 3) := by decide +kernel
theorem dc_R_init_4 : decode bc_R_init 4 = .ok (.aload_n 0, 1) := by decide +kernel
theorem dc_R_init_5 : decode bc_R_init 5 = .ok (.aload_n 1, 1) := by decide +kernel
theorem dc_R_init_6 : decode bc_R_init 6 = .ok (.putfield 9, 3) := by decide +kernel
theorem dc_R_init_9 : decode bc_R_init 9 = .ok (.aload_n 0, 1) := by decide +kernel
theorem dc_R_init_10 : decode bc_R_init 10 = .ok (.iconst (-1), 1) := by decide +kernel
theorem dc_R_init_11 : decode bc_R_init 11 = .ok (.putfield 15, 3) := by decide +kernel
theorem dc_R_init_14 : decode bc_R_init 14 = .ok (.return_, 1) := by decide +kernel
theorem dc_C_init_0 : decode bc_C_init 0 = .ok (.aload_n 0, 1) := by decide +kernel
theorem dc_C_init_1 : decode bc_C_init 1 = .ok (.invokespecial 3, 3) := by decide +kernel
theorem dc_C_init_4 : decode bc_C_init 4 = .ok (.aload_n 0, 1) := by decide +kernel
theorem dc_C_init_5 : decode bc_C_init 5 = .ok (.iconst 4, 1) := by decide +kernel
theorem dc_C_init_6 : decode bc_C_init 6 = .ok (.newarray .int, 2) := by decide +kernel
theorem dc_C_init_8 : decode bc_C_init 8 = .ok (.putfield 9, 3) := by decide +kernel
theorem dc_C_init_11 : decode bc_C_init 11 = .ok (.aload_n 0, 1) := by decide +kernel
theorem dc_C_init_12 : decode bc_C_init 12 = .ok (.iconst 4, 1) := by decide +kernel
theorem dc_C_init_13 : decode bc_C_init 13 = .ok (.newarray .int, 2) := by decide +kernel
theorem dc_C_init_15 : decode bc_C_init 15 = .ok (.putfield 15, 3) := by decide +kernel
theorem dc_C_init_18 : decode bc_C_init 18 = .ok (.aload_n 0, 1) := by decide +kernel
theorem dc_C_init_19 : decode bc_C_init 19 = .ok (.iconst 4, 1) := by decide +kernel
theorem dc_C_init_20 : decode bc_C_init 20 = .ok (.newarray .int, 2) := by decide +kernel
theorem dc_C_init_22 : decode bc_C_init 22 = .ok (.putfield 18, 3) := by decide +kernel
theorem dc_C_init_25 : decode bc_C_init 25 = .ok (.aload_n 0, 1) := by decide +kernel
theorem dc_C_init_26 : decode bc_C_init 26 = .ok (.iconst 4, 1) := by decide +kernel
theorem dc_C_init_27 : decode bc_C_init 27 = .ok (.newarray .boolean, 2) := by decide +kernel
theorem dc_C_init_29 : decode bc_C_init 29 = .ok (.putfield 21, 3) := by decide +kernel
theorem dc_C_init_32 : decode bc_C_init 32 = .ok (.aload_n 0, 1) := by decide +kernel
theorem dc_C_init_33 : decode bc_C_init 33 = .ok (.iconst 4, 1) := by decide +kernel
theorem dc_C_init_34 : decode bc_C_init 34 = .ok (.newarray .boolean, 2) := by decide +kernel
theorem dc_C_init_36 : decode bc_C_init 36 = .ok (.putfield 25, 3) := by decide +kernel
theorem dc_C_init_39 : decode bc_C_init 39 = .ok (.return_, 1) := by decide +kernel
theorem dc_N_init_0 : decode bc_N_init 0 = .ok (.aload_n 0, 1) := by decide +kernel
theorem dc_N_init_1 : decode bc_N_init 1 = .ok (.invokespecial 3, 3) := by decide +kernel
theorem dc_N_init_4 : decode bc_N_init 4 = .ok (.aload_n 0, 1) := by decide +kernel
theorem dc_N_init_5 : decode bc_N_init 5 = .ok (.bipush 8, 2) := by decide +kernel
theorem dc_N_init_7 : decode bc_N_init 7 = .ok (.newarray .int, 2) := by decide +kernel
theorem dc_N_init_9 : decode bc_N_init 9 = .ok (.putfield 9, 3) := by decide +kernel
theorem dc_N_init_12 : decode bc_N_init 12 = .ok (.aload_n 0, 1) := by decide +kernel
theorem dc_N_init_13 : decode bc_N_init 13 = .ok (.bipush 8, 2) := by decide +kernel
theorem dc_N_init_15 : decode bc_N_init 15 = .ok (.newarray .int, 2) := by decide +kernel
theorem dc_N_init_17 : decode bc_N_init 17 = .ok (.putfield 15, 3) := by decide +kernel
theorem dc_N_init_20 : decode bc_N_init 20 = .ok (.return_, 1) := by decide +kernel
theorem dc_L_init_0 : decode bc_L_init 0 = .ok (.aload_n 0, 1) := by decide +kernel
theorem dc_L_init_1 : decode bc_L_init 1 = .ok (.invokespecial 1, 3) := by decide +kernel
theorem dc_L_init_4 : decode bc_L_init 4 = .ok (.aload_n 0, 1) := by decide +kernel
theorem dc_L_init_5 : decode bc_L_init 5 = .ok (.iload_n 1, 1) := by decide +kernel
theorem dc_L_init_6 : decode bc_L_init 6 = .ok (.iconst 1, 1) := by decide +kernel
theorem dc_L_init_7 : decode bc_L_init 7 = .ok (.invokestatic 7, 3) := by decide +kernel
theorem dc_L_init_10 : decode bc_L_init 10 = .ok (.putfield 13, 3) := by decide +kernel
theorem dc_L_init_13 : decode bc_L_init 13 = .ok (.aload_n 0, 1) := by decide +kernel
theorem dc_L_init_14 : decode bc_L_init 14 = .ok (.aload_n 0, 1) := by decide +kernel
theorem dc_L_init_15 : decode bc_L_init 15 = .ok (.getfield 13, 3) := by decide +kernel
theorem dc_L_init_18 : decode bc_L_init 18 = .ok (.newarray .int, 2) := by decide +kernel
theorem dc_L_init_20 : decode bc_L_init 20 = .ok (.putfield 19, 3) := by decide +kernel
theorem dc_L_init_23 : decode bc_L_init 23 = .ok (.aload_n 0, 1) := by decide +kernel
theorem dc_L_init_24 : decode bc_L_init 24 = .ok (.aload_n 0, 1) := by decide +kernel
theorem dc_L_init_25 : decode bc_L_init 25 = .ok (.getfield 13, 3) := by decide +kernel
theorem dc_L_init_28 : decode bc_L_init 28 = .ok (.newarray .int, 2) := by decide +kernel
theorem dc_L_init_30 : decode bc_L_init 30 = .ok (.putfield 23, 3) := by decide +kernel
theorem dc_L_init_33 : decode bc_L_init 33 = .ok (.aload_n 0, 1) := by decide +kernel
theorem dc_L_init_34 : decode bc_L_init 34 = .ok (.aload_n 0, 1) := by decide +kernel
theorem dc_L_init_35 : decode bc_L_init 35 = .ok (.getfield 13, 3) := by decide +kernel
theorem dc_L_init_38 : decode bc_L_init 38 = .ok (.newarray .int, 2) := by decide +kernel
theorem dc_L_init_40 : decode bc_L_init 40 = .ok (.putfield 26, 3) := by decide +kernel
theorem dc_L_init_43 : decode bc_L_init 43 = .ok (.return_, 1) := by decide +kernel
theorem dc_G_init_0 : decode bc_G_init 0 = .ok (.aload_n 0, 1) := by decide +kernel
theorem dc_G_init_1 : decode bc_G_init 1 = .ok (.invokespecial 3, 3) := by decide +kernel
theorem dc_G_init_4 : decode bc_G_init 4 = .ok (.aload_n 0, 1) := by decide +kernel
theorem dc_G_init_5 : decode bc_G_init 5 = .ok (.bipush 120, 2) := by decide +kernel
theorem dc_G_init_7 : decode bc_G_init 7 = .ok (.newarray .int, 2) := by decide +kernel
theorem dc_G_init_9 : decode bc_G_init 9 = .ok (.putfield 9, 3) := by decide +kernel
theorem dc_G_init_12 : decode bc_G_init 12 = .ok (.aload_n 0, 1) := by decide +kernel
theorem dc_G_init_13 : decode bc_G_init 13 = .ok (.bipush 120, 2) := by decide +kernel
theorem dc_G_init_15 : decode bc_G_init 15 = .ok (.newarray .int, 2) := by decide +kernel
theorem dc_G_init_17 : decode bc_G_init 17 = .ok (.putfield 15, 3) := by decide +kernel
theorem dc_G_init_20 : decode bc_G_init 20 = .ok (.aload_n 0, 1) := by decide +kernel
theorem dc_G_init_21 : decode bc_G_init 21 = .ok (.bipush 120, 2) := by decide +kernel
theorem dc_G_init_23 : decode bc_G_init 23 = .ok (.newarray .int, 2) := by decide +kernel
theorem dc_G_init_25 : decode bc_G_init 25 = .ok (.putfield 18, 3) := by decide +kernel
theorem dc_G_init_28 : decode bc_G_init 28 = .ok (.aload_n 0, 1) := by decide +kernel
theorem dc_G_init_29 : decode bc_G_init 29 = .ok (.bipush 120, 2) := by decide +kernel
theorem dc_G_init_31 : decode bc_G_init 31 = .ok (.newarray .int, 2) := by decide +kernel
theorem dc_G_init_33 : decode bc_G_init 33 = .ok (.putfield 21, 3) := by decide +kernel
theorem dc_G_init_36 : decode bc_G_init 36 = .ok (.aload_n 0, 1) := by decide +kernel
theorem dc_G_init_37 : decode bc_G_init 37 = .ok (.bipush 120, 2) := by decide +kernel
theorem dc_G_init_39 : decode bc_G_init 39 = .ok (.newarray .int, 2) := by decide +kernel
theorem dc_G_init_41 : decode bc_G_init 41 = .ok (.putfield 24, 3) := by decide +kernel
theorem dc_G_init_44 : decode bc_G_init 44 = .ok (.return_, 1) := by decide +kernel
theorem dc_K_init_0 : decode bc_K_init 0 = .ok (.aload_n 0, 1) := by decide +kernel
theorem dc_K_init_1 : decode bc_K_init 1 = .ok (.invokespecial 3, 3) := by decide +kernel
theorem dc_K_init_4 : decode bc_K_init 4 = .ok (.aload_n 0, 1) := by decide +kernel
theorem dc_K_init_5 : decode bc_K_init 5 = .ok (.sipush 164, 3) := by decide +kernel
theorem dc_K_init_8 : decode bc_K_init 8 = .ok (.newarray .int, 2) := by decide +kernel
theorem dc_K_init_10 : decode bc_K_init 10 = .ok (.putfield 9, 3) := by decide +kernel
theorem dc_K_init_13 : decode bc_K_init 13 = .ok (.aload_n 0, 1) := by decide +kernel
theorem dc_K_init_14 : decode bc_K_init 14 = .ok (.sipush 656, 3) := by decide +kernel
theorem dc_K_init_17 : decode bc_K_init 17 = .ok (.newarray .int, 2) := by decide +kernel
theorem dc_K_init_19 : decode bc_K_init 19 = .ok (.putfield 15, 3) := by decide +kernel
theorem dc_K_init_22 : decode bc_K_init 22 = .ok (.aload_n 0, 1) := by decide +kernel
theorem dc_K_init_23 : decode bc_K_init 23 = .ok (.sipush 656, 3) := by decide +kernel
theorem dc_K_init_26 : decode bc_K_init 26 = .ok (.newarray .int, 2) := by decide +kernel
theorem dc_K_init_28 : decode bc_K_init 28 = .ok (.putfield 18, 3) := by decide +kernel
theorem dc_K_init_31 : decode bc_K_init 31 = .ok (.return_, 1) := by decide +kernel
theorem dc_H_init_0 : decode bc_H_init 0 = .ok (.aload_n 0, 1) := by decide +kernel
theorem dc_H_init_1 : decode bc_H_init 1 = .ok (.invokespecial 1, 3) := by decide +kernel
theorem dc_H_init_4 : decode bc_H_init 4 = .ok (.return_, 1) := by decide +kernel
theorem dc_M_init_0 : decode bc_M_init 0 = .ok (.aload_n 0, 1) := by decide +kernel
theorem dc_M_init_1 : decode bc_M_init 1 = .ok (.invokespecial 1, 3) := by decide +kernel
theorem dc_M_init_4 : decode bc_M_init 4 = .ok (.aload_n 0, 1) := by decide +kernel
theorem dc_M_init_5 : decode bc_M_init 5 = .ok (.sipush 160, 3) := by decide +kernel
theorem dc_M_init_8 : decode bc_M_init 8 = .ok (.newarray .char, 2) := by decide +kernel
theorem dc_M_init_10 : decode bc_M_init 10 = .ok (.putfield 7, 3) := by decide +kernel
theorem dc_M_init_13 : decode bc_M_init 13 = .ok (.aload_n 0, 1) := by decide +kernel
theorem dc_M_init_14 : decode bc_M_init 14 = .ok (.iconst 4, 1) := by decide +kernel
theorem dc_M_init_15 : decode bc_M_init 15 = .ok (.newarray .int, 2) := by decide +kernel
theorem dc_M_init_17 : decode bc_M_init 17 = .ok (.putfield 13, 3) := by decide +kernel
theorem dc_M_init_20 : decode bc_M_init 20 = .ok (.aload_n 0, 1) := by decide +kernel
theorem dc_M_init_21 : decode bc_M_init 21 = .ok (.sipush 160, 3) := by decide +kernel
theorem dc_M_init_24 : decode bc_M_init 24 = .ok (.newarray .char, 2) := by decide +kernel
theorem dc_M_init_26 : decode bc_M_init 26 = .ok (.putfield 17, 3) := by decide +kernel
theorem dc_M_init_29 : decode bc_M_init 29 = .ok (.aload_n 0, 1) := by decide +kernel
theorem dc_M_init_30 : decode bc_M_init 30 = .ok (.iconst 4, 1) := by decide +kernel
theorem dc_M_init_31 : decode bc_M_init 31 = .ok (.newarray .int, 2) := by decide +kernel
theorem dc_M_init_33 : decode bc_M_init 33 = .ok (.putfield 20, 3) := by decide +kernel
theorem dc_M_init_36 : decode bc_M_init 36 = .ok (.aload_n 0, 1) := by decide +kernel
theorem dc_M_init_37 : decode bc_M_init 37 = .ok (.iconst 4, 1) := by decide +kernel
theorem dc_M_init_38 : decode bc_M_init 38 = .ok (.newarray .int, 2) := by decide +kernel
theorem dc_M_init_40 : decode bc_M_init 40 = .ok (.putfield 23, 3) := by decide +kernel
theorem dc_M_init_43 : decode bc_M_init 43 = .ok (.aload_n 0, 1) := by decide +kernel
theorem dc_M_init_44 : decode bc_M_init 44 = .ok (.iconst 4, 1) := by decide +kernel
theorem dc_M_init_45 : decode bc_M_init 45 = .ok (.newarray .int, 2) := by decide +kernel
theorem dc_M_init_47 : decode bc_M_init 47 = .ok (.putfield 26, 3) := by decide +kernel
theorem dc_M_init_50 : decode bc_M_init 50 = .ok (.aload_n 0, 1) := by decide +kernel
theorem dc_M_init_51 : decode bc_M_init 51 = .ok (.iconst 4, 1) := by decide +kernel
theorem dc_M_init_52 : decode bc_M_init 52 = .ok (.newarray .int, 2) := by decide +kernel
theorem dc_M_init_54 : decode bc_M_init 54 = .ok (.putfield 29, 3) := by decide +kernel
theorem dc_M_init_57 : decode bc_M_init 57 = .ok (.aload_n 0, 1) := by decide +kernel
theorem dc_M_init_58 : decode bc_M_init 58 = .ok (.iconst 4, 1) := by decide +kernel
theorem dc_M_init_59 : decode bc_M_init 59 = .ok (.newarray .int, 2) := by decide +kernel
theorem dc_M_init_61 : decode bc_M_init 61 = .ok (.putfield 32, 3) := by decide +kernel
theorem dc_M_init_64 : decode bc_M_init 64 = .ok (.aload_n 0, 1) := by decide +kernel
theorem dc_M_init_65 : decode bc_M_init 65 = .ok (.iconst 4, 1) := by decide +kernel
theorem dc_M_init_66 : decode bc_M_init 66 = .ok (.newarray .boolean, 2) := by decide +kernel
theorem dc_M_init_68 : decode bc_M_init 68 = .ok (.putfield 35, 3) := by decide +kernel
theorem dc_M_init_71 : decode bc_M_init 71 = .ok (.aload_n 0, 1) := by decide +kernel
theorem dc_M_init_72 : decode bc_M_init 72 = .ok (.iconst 4, 1) := by decide +kernel
theorem dc_M_init_73 : decode bc_M_init 73 = .ok (.newarray .boolean, 2) := by decide +kernel
theorem dc_M_init_75 : decode bc_M_init 75 = .ok (.putfield 39, 3) := by decide +kernel
theorem dc_M_init_78 : decode bc_M_init 78 = .ok (.aload_n 0, 1) := by decide +kernel
theorem dc_M_init_79 : decode bc_M_init 79 = .ok (.iconst 4, 1) := by decide +kernel
theorem dc_M_init_80 : decode bc_M_init 80 = .ok (.newarray .int, 2) := by decide +kernel
theorem dc_M_init_82 : decode bc_M_init 82 = .ok (.putfield 42, 3) := by decide +kernel
theorem dc_M_init_85 : decode bc_M_init 85 = .ok (.aload_n 0, 1) := by decide +kernel
theorem dc_M_init_86 : decode bc_M_init 86 = .ok (.iconst 4, 1) := by decide +kernel
theorem dc_M_init_87 : decode bc_M_init 87 = .ok (.newarray .int, 2) := by decide +kernel
theorem dc_M_init_89 : decode bc_M_init 89 = .ok (.putfield 45, 3) := by decide +kernel
theorem dc_M_init_92 : decode bc_M_init 92 = .ok (.aload_n 0, 1) := by decide +kernel
theorem dc_M_init_93 : decode bc_M_init 93 = .ok (.iconst 5, 1) := by decide +kernel
theorem dc_M_init_94 : decode bc_M_init 94 = .ok (.newarray .int, 2) := by decide +kernel
theorem dc_M_init_96 : decode bc_M_init 96 = .ok (.putfield 48, 3) := by decide +kernel
theorem dc_M_init_99 : decode bc_M_init 99 = .ok (.aload_n 0, 1) := by decide +kernel
theorem dc_M_init_100 : decode bc_M_init 100 = .ok (.bipush 40, 2) := by decide +kernel
theorem dc_M_init_102 : decode bc_M_init 102 = .ok (.newarray .int, 2) := by decide +kernel
theorem dc_M_init_104 : decode bc_M_init 104 = .ok (.putfield 51, 3) := by decide +kernel
theorem dc_M_init_107 : decode bc_M_init 107 = .ok (.aload_n 0, 1) := by decide +kernel
theorem dc_M_init_108 : decode bc_M_init 108 = .ok (.bipush 40, 2) := by decide +kernel
theorem dc_M_init_110 : decode bc_M_init 110 = .ok (.newarray .int, 2) := by decide +kernel
theorem dc_M_init_112 : decode bc_M_init 112 = .ok (.putfield 54, 3) := by decide +kernel
theorem dc_M_init_115 : decode bc_M_init 115 = .ok (.aload_n 0, 1) := by decide +kernel
theorem dc_M_init_116 : decode bc_M_init 116 = .ok (.bipush 8, 2) := by decide +kernel
theorem dc_M_init_118 : decode bc_M_init 118 = .ok (.newarray .int, 2) := by decide +kernel
theorem dc_M_init_120 : decode bc_M_init 120 = .ok (.putfield 57, 3) := by decide +kernel
theorem dc_M_init_123 : decode bc_M_init 123 = .ok (.aload_n 0, 1) := by decide +kernel
theorem dc_M_init_124 : decode bc_M_init 124 = .ok (.bipush 8, 2) := by decide +kernel
theorem dc_M_init_126 : decode bc_M_init 126 = .ok (.newarray .int, 2) := by decide +kernel
theorem dc_M_init_128 : decode bc_M_init 128 = .ok (.putfield 60, 3) := by decide +kernel
theorem dc_M_init_131 : decode bc_M_init 131 = .ok (.aload_n 0, 1) := by decide +kernel
theorem dc_M_init_132 : decode bc_M_init 132 = .ok (.bipush 8, 2) := by decide +kernel
theorem dc_M_init_134 : decode bc_M_init 134 = .ok (.newarray .int, 2) := by decide +kernel
theorem dc_M_init_136 : decode bc_M_init 136 = .ok (.putfield 63, 3) := by decide +kernel
theorem dc_M_init_139 : decode bc_M_init 139 = .ok (.aload_n 0, 1) := by decide +kernel
theorem dc_M_init_140 : decode bc_M_init 140 = .ok (.bipush 120, 2) := by decide +kernel
theorem dc_M_init_142 : decode bc_M_init 142 = .ok (.newarray .int, 2) := by decide +kernel
theorem dc_M_init_144 : decode bc_M_init 144 = .ok (.putfield 66, 3) := by decide +kernel
theorem dc_M_init_147 : decode bc_M_init 147 = .ok (.aload_n 0, 1) := by decide +kernel
theorem dc_M_init_148 : decode bc_M_init 148 = .ok (.bipush 120, 2) := by decide +kernel
theorem dc_M_init_150 : decode bc_M_init 150 = .ok (.newarray .int, 2) := by decide +kernel
theorem dc_M_init_152 : decode bc_M_init 152 = .ok (.putfield 69, 3) := by decide +kernel
theorem dc_M_init_155 : decode bc_M_init 155 = .ok (.aload_n 0, 1) := by decide +kernel
theorem dc_M_init_156 : decode bc_M_init 156 = .ok (.bipush 120, 2) := by decide +kernel
theorem dc_M_init_158 : decode bc_M_init 158 = .ok (.newarray .int, 2) := by decide +kernel
theorem dc_M_init_160 : decode bc_M_init 160 = .ok (.putfield 72, 3) := by decide +kernel
theorem dc_M_init_163 : decode bc_M_init 163 = .ok (.aload_n 0, 1) := by decide +kernel
theorem dc_M_init_164 : decode bc_M_init 164 = .ok (.bipush 120, 2) := by decide +kernel
theorem dc_M_init_166 : decode bc_M_init 166 = .ok (.newarray .int, 2) := by decide +kernel
theorem dc_M_init_168 : decode bc_M_init 168 = .ok (.putfield 75, 3) := by decide +kernel
theorem dc_M_init_171 : decode bc_M_init 171 = .ok (.aload_n 0, 1) := by decide +kernel
theorem dc_M_init_172 : decode bc_M_init 172 = .ok (.bipush 120, 2) := by decide +kernel
theorem dc_M_init_174 : decode bc_M_init 174 = .ok (.newarray .int, 2) := by decide +kernel
theorem dc_M_init_176 : decode bc_M_init 176 = .ok (.putfield 78, 3) := by decide +kernel
theorem dc_M_init_179 : decode bc_M_init 179 = .ok (.aload_n 0, 1) := by decide +kernel
theorem dc_M_init_180 : decode bc_M_init 180 = .ok (.bipush 120, 2) := by decide +kernel
theorem dc_M_init_182 : decode bc_M_init 182 = .ok (.newarray .int, 2) := by decide +kernel
theorem dc_M_init_184 : decode bc_M_init 184 = .ok (.putfield 81, 3) := by decide +kernel
theorem dc_M_init_187 : decode bc_M_init 187 = .ok (.aload_n 0, 1) := by decide +kernel
theorem dc_M_init_188 : decode bc_M_init 188 = .ok (.sipush 242, 3) := by decide +kernel
theorem dc_M_init_191 : decode bc_M_init 191 = .ok (.newarray .int, 2) := by decide +kernel
theorem dc_M_init_193 : decode bc_M_init 193 = .ok (.putfield 84, 3) := by decide +kernel
theorem dc_M_init_196 : decode bc_M_init 196 = .ok (.aload_n 0, 1) := by decide +kernel
theorem dc_M_init_197 : decode bc_M_init 197 = .ok (.sipush 242, 3) := by decide +kernel
theorem dc_M_init_200 : decode bc_M_init 200 = .ok (.newarray .int, 2) := by decide +kernel
theorem dc_M_init_202 : decode bc_M_init 202 = .ok (.putfield 87, 3) := by decide +kernel
theorem dc_M_init_205 : decode bc_M_init 205 = .ok (.aload_n 0, 1) := by decide +kernel
theorem dc_M_init_206 : decode bc_M_init 206 = .ok (.sipush 242, 3) := by decide +kernel
theorem dc_M_init_209 : decode bc_M_init 209 = .ok (.newarray .int, 2) := by decide +kernel
theorem dc_M_init_211 : decode bc_M_init 211 = .ok (.putfield 90, 3) := by decide +kernel
theorem dc_M_init_214 : decode bc_M_init 214 = .ok (.aload_n 0, 1) := by decide +kernel
theorem dc_M_init_215 : decode bc_M_init 215 = .ok (.sipush 640, 3) := by decide +kernel
theorem dc_M_init_218 : decode bc_M_init 218 = .ok (.newarray .int, 2) := by decide +kernel
theorem dc_M_init_220 : decode bc_M_init 220 = .ok (.putfield 93, 3) := by decide +kernel
theorem dc_M_init_223 : decode bc_M_init 223 = .ok (.aload_n 0, 1) := by decide +kernel
theorem dc_M_init_224 : decode bc_M_init 224 = .ok (.sipush 160, 3) := by decide +kernel
theorem dc_M_init_227 : decode bc_M_init 227 = .ok (.newarray .int, 2) := by decide +kernel
theorem dc_M_init_229 : decode bc_M_init 229 = .ok (.putfield 96, 3) := by decide +kernel
theorem dc_M_init_232 : decode bc_M_init 232 = .ok (.aload_n 0, 1) := by decide +kernel
theorem dc_M_init_233 : decode bc_M_init 233 = .ok (.sipush 420, 3) := by decide +kernel
theorem dc_M_init_236 : decode bc_M_init 236 = .ok (.newarray .int, 2) := by decide +kernel
theorem dc_M_init_238 : decode bc_M_init 238 = .ok (.putfield 99, 3) := by decide +kernel
theorem dc_M_init_241 : decode bc_M_init 241 = .ok (.aload_n 0, 1) := by decide +kernel
theorem dc_M_init_242 : decode bc_M_init 242 = .ok (.sipush 420, 3) := by decide +kernel
theorem dc_M_init_245 : decode bc_M_init 245 = .ok (.newarray .int, 2) := by decide +kernel
theorem dc_M_init_247 : decode bc_M_init 247 = .ok (.putfield 102, 3) := by decide +kernel
theorem dc_M_init_250 : decode bc_M_init 250 = .ok (.aload_n 0, 1) := by decide +kernel
theorem dc_M_init_251 : decode bc_M_init 251 = .ok (.sipush 420, 3) := by decide +kernel
theorem dc_M_init_254 : decode bc_M_init 254 = .ok (.newarray .int, 2) := by decide +kernel
theorem dc_M_init_256 : decode bc_M_init 256 = .ok (.putfield 105, 3) := by decide +kernel
theorem dc_M_init_259 : decode bc_M_init 259 = .ok (.aload_n 0, 1) := by decide +kernel
theorem dc_M_init_260 : decode bc_M_init 260 = .ok (.bipush 16, 2) := by decide +kernel
theorem dc_M_init_262 : decode bc_M_init 262 = .ok (.newarray .int, 2) := by decide +kernel
theorem dc_M_init_264 : decode bc_M_init 264 = .ok (.putfield 108, 3) := by decide +kernel
theorem dc_M_init_267 : decode bc_M_init 267 = .ok (.aload_n 0, 1) := by decide +kernel
theorem dc_M_init_268 : decode bc_M_init 268 = .ok (.bipush 16, 2) := by decide +kernel
theorem dc_M_init_270 : decode bc_M_init 270 = .ok (.newarray .int, 2) := by decide +kernel
theorem dc_M_init_272 : decode bc_M_init 272 = .ok (.putfield 111, 3) := by decide +kernel
theorem dc_M_init_275 : decode bc_M_init 275 = .ok (.aload_n 0, 1) := by decide +kernel
theorem dc_M_init_276 : decode bc_M_init 276 = .ok (.bipush 16, 2) := by decide +kernel
theorem dc_M_init_278 : decode bc_M_init 278 = .ok (.newarray .int, 2) := by decide +kernel
theorem dc_M_init_280 : decode bc_M_init 280 = .ok (.putfield 114, 3) := by decide +kernel
theorem dc_M_init_283 : decode bc_M_init 283 = .ok (.aload_n 0, 1) := by decide +kernel
theorem dc_M_init_284 : decode bc_M_init 284 = .ok (.bipush 20, 2) := by decide +kernel
theorem dc_M_init_286 : decode bc_M_init 286 = .ok (.newarray .int, 2) := by decide +kernel
theorem dc_M_init_288 : decode bc_M_init 288 = .ok (.putfield 117, 3) := by decide +kernel
theorem dc_M_init_291 : decode bc_M_init 291 = .ok (.aload_n 0, 1) := by decide +kernel
theorem dc_M_init_292 : decode bc_M_init 292 = .ok (.bipush 20, 2) := by decide +kernel
theorem dc_M_init_294 : decode bc_M_init 294 = .ok (.newarray .int, 2) := by decide +kernel
theorem dc_M_init_296 : decode bc_M_init 296 = .ok (.putfield 120, 3) := by decide +kernel
theorem dc_M_init_299 : decode bc_M_init 299 = .ok (.aload_n 0, 1) := by decide +kernel
theorem dc_M_init_300 : decode bc_M_init 300 = .ok (.bipush 20, 2) := by decide +kernel
theorem dc_M_init_302 : decode bc_M_init 302 = .ok (.newarray .int, 2) := by decide +kernel
theorem dc_M_init_304 : decode bc_M_init 304 = .ok (.putfield 123, 3) := by decide +kernel
theorem dc_M_init_307 : decode bc_M_init 307 = .ok (.aload_n 0, 1) := by decide +kernel
theorem dc_M_init_308 : decode bc_M_init 308 = .ok (.bipush 20, 2) := by decide +kernel
theorem dc_M_init_310 : decode bc_M_init 310 = .ok (.newarray .int, 2) := by decide +kernel
theorem dc_M_init_312 : decode bc_M_init 312 = .ok (.putfield 126, 3) := by decide +kernel
theorem dc_M_init_315 : decode bc_M_init 315 = .ok (.aload_n 0, 1) := by decide +kernel
theorem dc_M_init_316 : decode bc_M_init 316 = .ok (.bipush 20, 2) := by decide +kernel
theorem dc_M_init_318 : decode bc_M_init 318 = .ok (.newarray .int, 2) := by decide +kernel
theorem dc_M_init_320 : decode bc_M_init 320 = .ok (.putfield 129, 3) := by decide +kernel
theorem dc_M_init_323 : decode bc_M_init 323 = .ok (.aload_n 0, 1) := by decide +kernel
theorem dc_M_init_324 : decode bc_M_init 324 = .ok (.bipush 20, 2) := by decide +kernel
theorem dc_M_init_326 : decode bc_M_init 326 = .ok (.newarray .int, 2) := by decide +kernel
theorem dc_M_init_328 : decode bc_M_init 328 = .ok (.putfield 132, 3) := by decide +kernel
theorem dc_M_init_331 : decode bc_M_init 331 = .ok (.aload_n 0, 1) := by decide +kernel
theorem dc_M_init_332 : decode bc_M_init 332 = .ok (.bipush 20, 2) := by decide +kernel
theorem dc_M_init_334 : decode bc_M_init 334 = .ok (.newarray .int, 2) := by decide +kernel
theorem dc_M_init_336 : decode bc_M_init 336 = .ok (.putfield 135, 3) := by decide +kernel
theorem dc_M_init_339 : decode bc_M_init 339 = .ok (.aload_n 0, 1) := by decide +kernel
theorem dc_M_init_340 : decode bc_M_init 340 = .ok (.bipush 20, 2) := by decide +kernel
theorem dc_M_init_342 : decode bc_M_init 342 = .ok (.newarray .int, 2) := by decide +kernel
theorem dc_M_init_344 : decode bc_M_init 344 = .ok (.putfield 138, 3) := by decide +kernel
theorem dc_M_init_347 : decode bc_M_init 347 = .ok (.aload_n 0, 1) := by decide +kernel
theorem dc_M_init_348 : decode bc_M_init 348 = .ok (.bipush 8, 2) := by decide +kernel
theorem dc_M_init_350 : decode bc_M_init 350 = .ok (.newarray .int, 2) := by decide +kernel
theorem dc_M_init_352 : decode bc_M_init 352 = .ok (.putfield 141, 3) := by decide +kernel
theorem dc_M_init_355 : decode bc_M_init 355 = .ok (.return_, 1) := by decide +kernel
theorem dc_W_law_0 : decode code 0 = .ok (.new 7, 3) := by decide +kernel
theorem dc_W_law_3 : decode code 3 = .ok (.dup, 1) := by decide +kernel
theorem dc_W_law_4 : decode code 4 = .ok (.invokespecial 9, 3) := by decide +kernel
theorem dc_W_law_7 : decode code 7 = .ok (.astore_n 1, 1) := by decide +kernel
theorem dc_W_law_8 : decode code 8 = .ok (.new 10, 3) := by decide +kernel
theorem dc_W_law_11 : decode code 11 = .ok (.dup, 1) := by decide +kernel
theorem dc_W_law_12 : decode code 12 = .ok (.invokespecial 12, 3) := by decide +kernel
theorem dc_W_law_15 : decode code 15 = .ok (.astore_n 2, 1) := by decide +kernel
theorem dc_W_law_16 : decode code 16 = .ok (.iconst 0, 1) := by decide +kernel
theorem dc_W_law_17 : decode code 17 = .ok (.istore_n 3, 1) := by decide +kernel
theorem dc_W_law_18 : decode code 18 = .ok (.iload_n 3, 1) := by decide +kernel
theorem dc_W_law_19 : decode code 19 = .ok (.aload_n 0, 1) := by decide +kernel
theorem dc_W_law_20 : decode code 20 = .ok (.arraylength, 1) := by decide +kernel
theorem dc_W_law_21 : decode code 21 = .ok (.bipush 6, 2) := by decide +kernel
theorem dc_W_law_23 : decode code 23 = .ok (.isub, 1) := by decide +kernel
theorem dc_W_law_24 : decode code 24 = .ok (.if_icmp .gt 530, 3) := by decide +kernel
theorem dc_W_law_27 : decode code 27 = .ok (.aload_n 0, 1) := by decide +kernel
theorem dc_W_law_28 : decode code 28 = .ok (.iload_n 3, 1) := by decide +kernel
theorem dc_W_law_29 : decode code 29 = .ok (.iaload, 1) := by decide +kernel
theorem dc_W_law_30 : decode code 30 = .ok (.bipush 15, 2) := by decide +kernel
theorem dc_W_law_32 : decode code 32 = .ok (.iand, 1) := by decide +kernel
theorem dc_W_law_33 : decode code 33 = .ok (.tableswitch 515 0 13 #[71, 106, 129, 142, 237, 248, 291, 334, 347, 370, 393, 426, 459, 492], 71) := by decide +kernel
theorem dc_W_law_104 : decode code 104 = .ok (.aload_n 1, 1) := by decide +kernel
theorem dc_W_law_105 : decode code 105 = .ok (.aload_n 0, 1) := by decide +kernel
theorem dc_W_law_106 : decode code 106 = .ok (.iload_n 3, 1) := by decide +kernel
theorem dc_W_law_107 : decode code 107 = .ok (.iconst 1, 1) := by decide +kernel
theorem dc_W_law_108 : decode code 108 = .ok (.iadd, 1) := by decide +kernel
theorem dc_W_law_109 : decode code 109 = .ok (.iaload, 1) := by decide +kernel
theorem dc_W_law_110 : decode code 110 = .ok (.aload_n 0, 1) := by decide +kernel
theorem dc_W_law_111 : decode code 111 = .ok (.iload_n 3, 1) := by decide +kernel
theorem dc_W_law_112 : decode code 112 = .ok (.iconst 2, 1) := by decide +kernel
theorem dc_W_law_113 : decode code 113 = .ok (.iadd, 1) := by decide +kernel
theorem dc_W_law_114 : decode code 114 = .ok (.iaload, 1) := by decide +kernel
theorem dc_W_law_115 : decode code 115 = .ok (.i2c, 1) := by decide +kernel
theorem dc_W_law_116 : decode code 116 = .ok (.invokevirtual 13, 3) := by decide +kernel
theorem dc_W_law_119 : decode code 119 = .ok (.aload_n 2, 1) := by decide +kernel
theorem dc_W_law_120 : decode code 120 = .ok (.aload_n 0, 1) := by decide +kernel
theorem dc_W_law_121 : decode code 121 = .ok (.iload_n 3, 1) := by decide +kernel
theorem dc_W_law_122 : decode code 122 = .ok (.iconst 1, 1) := by decide +kernel
theorem dc_W_law_123 : decode code 123 = .ok (.iadd, 1) := by decide +kernel
theorem dc_W_law_124 : decode code 124 = .ok (.iaload, 1) := by decide +kernel
theorem dc_W_law_125 : decode code 125 = .ok (.aload_n 0, 1) := by decide +kernel
theorem dc_W_law_126 : decode code 126 = .ok (.iload_n 3, 1) := by decide +kernel
theorem dc_W_law_127 : decode code 127 = .ok (.iconst 2, 1) := by decide +kernel
theorem dc_W_law_128 : decode code 128 = .ok (.iadd, 1) := by decide +kernel
theorem dc_W_law_129 : decode code 129 = .ok (.iaload, 1) := by decide +kernel
theorem dc_W_law_130 : decode code 130 = .ok (.i2c, 1) := by decide +kernel
theorem dc_W_law_131 : decode code 131 = .ok (.invokevirtual 17, 3) := by decide +kernel
theorem dc_W_law_134 : decode code 134 = .ok (.if_icmp .eq 414, 3) := by decide +kernel
theorem dc_W_law_137 : decode code 137 = .ok (.iconst 0, 1) := by decide +kernel
theorem dc_W_law_138 : decode code 138 = .ok (.ireturn, 1) := by decide +kernel
theorem dc_W_law_139 : decode code 139 = .ok (.aload_n 1, 1) := by decide +kernel
theorem dc_W_law_140 : decode code 140 = .ok (.aload_n 0, 1) := by decide +kernel
theorem dc_W_law_141 : decode code 141 = .ok (.iload_n 3, 1) := by decide +kernel
theorem dc_W_law_142 : decode code 142 = .ok (.iconst 1, 1) := by decide +kernel
theorem dc_W_law_143 : decode code 143 = .ok (.iadd, 1) := by decide +kernel
theorem dc_W_law_144 : decode code 144 = .ok (.iaload, 1) := by decide +kernel
theorem dc_W_law_145 : decode code 145 = .ok (.invokevirtual 18, 3) := by decide +kernel
theorem dc_W_law_148 : decode code 148 = .ok (.aload_n 2, 1) := by decide +kernel
theorem dc_W_law_149 : decode code 149 = .ok (.aload_n 0, 1) := by decide +kernel
theorem dc_W_law_150 : decode code 150 = .ok (.iload_n 3, 1) := by decide +kernel
theorem dc_W_law_151 : decode code 151 = .ok (.iconst 1, 1) := by decide +kernel
theorem dc_W_law_152 : decode code 152 = .ok (.iadd, 1) := by decide +kernel
theorem dc_W_law_153 : decode code 153 = .ok (.iaload, 1) := by decide +kernel
theorem dc_W_law_154 : decode code 154 = .ok (.invokevirtual 22, 3) := by decide +kernel
theorem dc_W_law_157 : decode code 157 = .ok (.if_icmp .eq 391, 3) := by decide +kernel
theorem dc_W_law_160 : decode code 160 = .ok (.iconst 0, 1) := by decide +kernel
theorem dc_W_law_161 : decode code 161 = .ok (.ireturn, 1) := by decide +kernel
theorem dc_W_law_162 : decode code 162 = .ok (.aload_n 1, 1) := by decide +kernel
theorem dc_W_law_163 : decode code 163 = .ok (.invokevirtual 23, 3) := by decide +kernel
theorem dc_W_law_166 : decode code 166 = .ok (.aload_n 2, 1) := by decide +kernel
theorem dc_W_law_167 : decode code 167 = .ok (.invokevirtual 27, 3) := by decide +kernel
theorem dc_W_law_170 : decode code 170 = .ok (.if_icmp .eq 378, 3) := by decide +kernel
theorem dc_W_law_173 : decode code 173 = .ok (.iconst 0, 1) := by decide +kernel
theorem dc_W_law_174 : decode code 174 = .ok (.ireturn, 1) := by decide +kernel
theorem dc_W_law_175 : decode code 175 = .ok (.aload_n 1, 1) := by decide +kernel
theorem dc_W_law_176 : decode code 176 = .ok (.aload_n 0, 1) := by decide +kernel
theorem dc_W_law_177 : decode code 177 = .ok (.iload_n 3, 1) := by decide +kernel
theorem dc_W_law_178 : decode code 178 = .ok (.iconst 1, 1) := by decide +kernel
theorem dc_W_law_179 : decode code 179 = .ok (.iadd, 1) := by decide +kernel
theorem dc_W_law_180 : decode code 180 = .ok (.iaload, 1) := by decide +kernel
theorem dc_W_law_181 : decode code 181 = .ok (.aload_n 0, 1) := by decide +kernel
theorem dc_W_law_182 : decode code 182 = .ok (.iload_n 3, 1) := by decide +kernel
theorem dc_W_law_183 : decode code 183 = .ok (.iconst 2, 1) := by decide +kernel
theorem dc_W_law_184 : decode code 184 = .ok (.iadd, 1) := by decide +kernel
theorem dc_W_law_185 : decode code 185 = .ok (.iaload, 1) := by decide +kernel
theorem dc_W_law_186 : decode code 186 = .ok (.aload_n 0, 1) := by decide +kernel
theorem dc_W_law_187 : decode code 187 = .ok (.iload_n 3, 1) := by decide +kernel
theorem dc_W_law_188 : decode code 188 = .ok (.iconst 3, 1) := by decide +kernel
theorem dc_W_law_189 : decode code 189 = .ok (.iadd, 1) := by decide +kernel
theorem dc_W_law_190 : decode code 190 = .ok (.iaload, 1) := by decide +kernel
theorem dc_W_law_191 : decode code 191 = .ok (.aload_n 0, 1) := by decide +kernel
theorem dc_W_law_192 : decode code 192 = .ok (.iload_n 3, 1) := by decide +kernel
theorem dc_W_law_193 : decode code 193 = .ok (.iconst 4, 1) := by decide +kernel
theorem dc_W_law_194 : decode code 194 = .ok (.iadd, 1) := by decide +kernel
theorem dc_W_law_195 : decode code 195 = .ok (.iaload, 1) := by decide +kernel
theorem dc_W_law_196 : decode code 196 = .ok (.ifCond .eq 7, 3) := by decide +kernel
theorem dc_W_law_199 : decode code 199 = .ok (.iconst 1, 1) := by decide +kernel
theorem dc_W_law_200 : decode code 200 = .ok (.goto 4, 3) := by decide +kernel
theorem dc_W_law_203 : decode code 203 = .ok (.iconst 0, 1) := by decide +kernel
theorem dc_W_law_204 : decode code 204 = .ok (.aload_n 0, 1) := by decide +kernel
theorem dc_W_law_205 : decode code 205 = .ok (.iload_n 3, 1) := by decide +kernel
theorem dc_W_law_206 : decode code 206 = .ok (.iconst 5, 1) := by decide +kernel
theorem dc_W_law_207 : decode code 207 = .ok (.iadd, 1) := by decide +kernel
theorem dc_W_law_208 : decode code 208 = .ok (.iaload, 1) := by decide +kernel
theorem dc_W_law_209 : decode code 209 = .ok (.ifCond .eq 7, 3) := by decide +kernel
theorem dc_W_law_212 : decode code 212 = .ok (.iconst 1, 1) := by decide +kernel
theorem dc_W_law_213 : decode code 213 = .ok (.goto 4, 3) := by decide +kernel
theorem dc_W_law_216 : decode code 216 = .ok (.iconst 0, 1) := by decide +kernel
theorem dc_W_law_217 : decode code 217 = .ok (.invokevirtual 28, 3) := by decide +kernel
theorem dc_W_law_220 : decode code 220 = .ok (.aload_n 2, 1) := by decide +kernel
theorem dc_W_law_221 : decode code 221 = .ok (.aload_n 0, 1) := by decide +kernel
theorem dc_W_law_222 : decode code 222 = .ok (.iload_n 3, 1) := by decide +kernel
theorem dc_W_law_223 : decode code 223 = .ok (.iconst 1, 1) := by decide +kernel
theorem dc_W_law_224 : decode code 224 = .ok (.iadd, 1) := by decide +kernel
theorem dc_W_law_225 : decode code 225 = .ok (.iaload, 1) := by decide +kernel
theorem dc_W_law_226 : decode code 226 = .ok (.aload_n 0, 1) := by decide +kernel
theorem dc_W_law_227 : decode code 227 = .ok (.iload_n 3, 1) := by decide +kernel
theorem dc_W_law_228 : decode code 228 = .ok (.iconst 2, 1) := by decide +kernel
theorem dc_W_law_229 : decode code 229 = .ok (.iadd, 1) := by decide +kernel
theorem dc_W_law_230 : decode code 230 = .ok (.iaload, 1) := by decide +kernel
theorem dc_W_law_231 : decode code 231 = .ok (.aload_n 0, 1) := by decide +kernel
theorem dc_W_law_232 : decode code 232 = .ok (.iload_n 3, 1) := by decide +kernel
theorem dc_W_law_233 : decode code 233 = .ok (.iconst 3, 1) := by decide +kernel
theorem dc_W_law_234 : decode code 234 = .ok (.iadd, 1) := by decide +kernel
theorem dc_W_law_235 : decode code 235 = .ok (.iaload, 1) := by decide +kernel
theorem dc_W_law_236 : decode code 236 = .ok (.aload_n 0, 1) := by decide +kernel
theorem dc_W_law_237 : decode code 237 = .ok (.iload_n 3, 1) := by decide +kernel
theorem dc_W_law_238 : decode code 238 = .ok (.iconst 4, 1) := by decide +kernel
theorem dc_W_law_239 : decode code 239 = .ok (.iadd, 1) := by decide +kernel
theorem dc_W_law_240 : decode code 240 = .ok (.iaload, 1) := by decide +kernel
theorem dc_W_law_241 : decode code 241 = .ok (.ifCond .eq 7, 3) := by decide +kernel
theorem dc_W_law_244 : decode code 244 = .ok (.iconst 1, 1) := by decide +kernel
theorem dc_W_law_245 : decode code 245 = .ok (.goto 4, 3) := by decide +kernel
theorem dc_W_law_248 : decode code 248 = .ok (.iconst 0, 1) := by decide +kernel
theorem dc_W_law_249 : decode code 249 = .ok (.aload_n 0, 1) := by decide +kernel
theorem dc_W_law_250 : decode code 250 = .ok (.iload_n 3, 1) := by decide +kernel
theorem dc_W_law_251 : decode code 251 = .ok (.iconst 5, 1) := by decide +kernel
theorem dc_W_law_252 : decode code 252 = .ok (.iadd, 1) := by decide +kernel
theorem dc_W_law_253 : decode code 253 = .ok (.iaload, 1) := by decide +kernel
theorem dc_W_law_254 : decode code 254 = .ok (.ifCond .eq 7, 3) := by decide +kernel
theorem dc_W_law_257 : decode code 257 = .ok (.iconst 1, 1) := by decide +kernel
theorem dc_W_law_258 : decode code 258 = .ok (.goto 4, 3) := by decide +kernel
theorem dc_W_law_261 : decode code 261 = .ok (.iconst 0, 1) := by decide +kernel
theorem dc_W_law_262 : decode code 262 = .ok (.invokevirtual 32, 3) := by decide +kernel
theorem dc_W_law_265 : decode code 265 = .ok (.if_icmp .eq 283, 3) := by decide +kernel
theorem dc_W_law_268 : decode code 268 = .ok (.iconst 0, 1) := by decide +kernel
theorem dc_W_law_269 : decode code 269 = .ok (.ireturn, 1) := by decide +kernel
theorem dc_W_law_270 : decode code 270 = .ok (.aload_n 1, 1) := by decide +kernel
theorem dc_W_law_271 : decode code 271 = .ok (.invokevirtual 33, 3) := by decide +kernel
theorem dc_W_law_274 : decode code 274 = .ok (.aload_n 2, 1) := by decide +kernel
theorem dc_W_law_275 : decode code 275 = .ok (.invokevirtual 36, 3) := by decide +kernel
theorem dc_W_law_278 : decode code 278 = .ok (.goto 270, 3) := by decide +kernel
theorem dc_W_law_281 : decode code 281 = .ok (.aload_n 1, 1) := by decide +kernel
theorem dc_W_law_282 : decode code 282 = .ok (.aload_n 0, 1) := by decide +kernel
theorem dc_W_law_283 : decode code 283 = .ok (.iload_n 3, 1) := by decide +kernel
theorem dc_W_law_284 : decode code 284 = .ok (.iconst 1, 1) := by decide +kernel
theorem dc_W_law_285 : decode code 285 = .ok (.iadd, 1) := by decide +kernel
theorem dc_W_law_286 : decode code 286 = .ok (.iaload, 1) := by decide +kernel
theorem dc_W_law_287 : decode code 287 = .ok (.aload_n 0, 1) := by decide +kernel
theorem dc_W_law_288 : decode code 288 = .ok (.iload_n 3, 1) := by decide +kernel
theorem dc_W_law_289 : decode code 289 = .ok (.iconst 2, 1) := by decide +kernel
theorem dc_W_law_290 : decode code 290 = .ok (.iadd, 1) := by decide +kernel
theorem dc_W_law_291 : decode code 291 = .ok (.iaload, 1) := by decide +kernel
theorem dc_W_law_292 : decode code 292 = .ok (.aload_n 0, 1) := by decide +kernel
theorem dc_W_law_293 : decode code 293 = .ok (.iload_n 3, 1) := by decide +kernel
theorem dc_W_law_294 : decode code 294 = .ok (.iconst 3, 1) := by decide +kernel
theorem dc_W_law_295 : decode code 295 = .ok (.iadd, 1) := by decide +kernel
theorem dc_W_law_296 : decode code 296 = .ok (.iaload, 1) := by decide +kernel
theorem dc_W_law_297 : decode code 297 = .ok (.invokevirtual 37, 3) := by decide +kernel
theorem dc_W_law_300 : decode code 300 = .ok (.aload_n 2, 1) := by decide +kernel
theorem dc_W_law_301 : decode code 301 = .ok (.aload_n 0, 1) := by decide +kernel
theorem dc_W_law_302 : decode code 302 = .ok (.iload_n 3, 1) := by decide +kernel
theorem dc_W_law_303 : decode code 303 = .ok (.iconst 1, 1) := by decide +kernel
theorem dc_W_law_304 : decode code 304 = .ok (.iadd, 1) := by decide +kernel
theorem dc_W_law_305 : decode code 305 = .ok (.iaload, 1) := by decide +kernel
theorem dc_W_law_306 : decode code 306 = .ok (.aload_n 0, 1) := by decide +kernel
theorem dc_W_law_307 : decode code 307 = .ok (.iload_n 3, 1) := by decide +kernel
theorem dc_W_law_308 : decode code 308 = .ok (.iconst 2, 1) := by decide +kernel
theorem dc_W_law_309 : decode code 309 = .ok (.iadd, 1) := by decide +kernel
theorem dc_W_law_310 : decode code 310 = .ok (.iaload, 1) := by decide +kernel
theorem dc_W_law_311 : decode code 311 = .ok (.aload_n 0, 1) := by decide +kernel
theorem dc_W_law_312 : decode code 312 = .ok (.iload_n 3, 1) := by decide +kernel
theorem dc_W_law_313 : decode code 313 = .ok (.iconst 3, 1) := by decide +kernel
theorem dc_W_law_314 : decode code 314 = .ok (.iadd, 1) := by decide +kernel
theorem dc_W_law_315 : decode code 315 = .ok (.iaload, 1) := by decide +kernel
theorem dc_W_law_316 : decode code 316 = .ok (.invokevirtual 41, 3) := by decide +kernel
theorem dc_W_law_319 : decode code 319 = .ok (.if_icmp .eq 229, 3) := by decide +kernel
theorem dc_W_law_322 : decode code 322 = .ok (.iconst 0, 1) := by decide +kernel
theorem dc_W_law_323 : decode code 323 = .ok (.ireturn, 1) := by decide +kernel
theorem dc_W_law_324 : decode code 324 = .ok (.aload_n 1, 1) := by decide +kernel
theorem dc_W_law_325 : decode code 325 = .ok (.aload_n 0, 1) := by decide +kernel
theorem dc_W_law_326 : decode code 326 = .ok (.iload_n 3, 1) := by decide +kernel
theorem dc_W_law_327 : decode code 327 = .ok (.iconst 1, 1) := by decide +kernel
theorem dc_W_law_328 : decode code 328 = .ok (.iadd, 1) := by decide +kernel
theorem dc_W_law_329 : decode code 329 = .ok (.iaload, 1) := by decide +kernel
theorem dc_W_law_330 : decode code 330 = .ok (.aload_n 0, 1) := by decide +kernel
theorem dc_W_law_331 : decode code 331 = .ok (.iload_n 3, 1) := by decide +kernel
theorem dc_W_law_332 : decode code 332 = .ok (.iconst 2, 1) := by decide +kernel
theorem dc_W_law_333 : decode code 333 = .ok (.iadd, 1) := by decide +kernel
theorem dc_W_law_334 : decode code 334 = .ok (.iaload, 1) := by decide +kernel
theorem dc_W_law_335 : decode code 335 = .ok (.aload_n 0, 1) := by decide +kernel
theorem dc_W_law_336 : decode code 336 = .ok (.iload_n 3, 1) := by decide +kernel
theorem dc_W_law_337 : decode code 337 = .ok (.iconst 3, 1) := by decide +kernel
theorem dc_W_law_338 : decode code 338 = .ok (.iadd, 1) := by decide +kernel
theorem dc_W_law_339 : decode code 339 = .ok (.iaload, 1) := by decide +kernel
theorem dc_W_law_340 : decode code 340 = .ok (.invokevirtual 42, 3) := by decide +kernel
theorem dc_W_law_343 : decode code 343 = .ok (.aload_n 2, 1) := by decide +kernel
theorem dc_W_law_344 : decode code 344 = .ok (.aload_n 0, 1) := by decide +kernel
theorem dc_W_law_345 : decode code 345 = .ok (.iload_n 3, 1) := by decide +kernel
theorem dc_W_law_346 : decode code 346 = .ok (.iconst 1, 1) := by decide +kernel
theorem dc_W_law_347 : decode code 347 = .ok (.iadd, 1) := by decide +kernel
theorem dc_W_law_348 : decode code 348 = .ok (.iaload, 1) := by decide +kernel
theorem dc_W_law_349 : decode code 349 = .ok (.aload_n 0, 1) := by decide +kernel
theorem dc_W_law_350 : decode code 350 = .ok (.iload_n 3, 1) := by decide +kernel
theorem dc_W_law_351 : decode code 351 = .ok (.iconst 2, 1) := by decide +kernel
theorem dc_W_law_352 : decode code 352 = .ok (.iadd, 1) := by decide +kernel
theorem dc_W_law_353 : decode code 353 = .ok (.iaload, 1) := by decide +kernel
theorem dc_W_law_354 : decode code 354 = .ok (.aload_n 0, 1) := by decide +kernel
theorem dc_W_law_355 : decode code 355 = .ok (.iload_n 3, 1) := by decide +kernel
theorem dc_W_law_356 : decode code 356 = .ok (.iconst 3, 1) := by decide +kernel
theorem dc_W_law_357 : decode code 357 = .ok (.iadd, 1) := by decide +kernel
theorem dc_W_law_358 : decode code 358 = .ok (.iaload, 1) := by decide +kernel
theorem dc_W_law_359 : decode code 359 = .ok (.invokevirtual 46, 3) := by decide +kernel
theorem dc_W_law_362 : decode code 362 = .ok (.if_icmp .eq 186, 3) := by decide +kernel
theorem dc_W_law_365 : decode code 365 = .ok (.iconst 0, 1) := by decide +kernel
theorem dc_W_law_366 : decode code 366 = .ok (.ireturn, 1) := by decide +kernel
theorem dc_W_law_367 : decode code 367 = .ok (.aload_n 1, 1) := by decide +kernel
theorem dc_W_law_368 : decode code 368 = .ok (.invokevirtual 47, 3) := by decide +kernel
theorem dc_W_law_371 : decode code 371 = .ok (.aload_n 2, 1) := by decide +kernel
theorem dc_W_law_372 : decode code 372 = .ok (.invokevirtual 50, 3) := by decide +kernel
theorem dc_W_law_375 : decode code 375 = .ok (.if_icmp .eq 173, 3) := by decide +kernel
theorem dc_W_law_378 : decode code 378 = .ok (.iconst 0, 1) := by decide +kernel
theorem dc_W_law_379 : decode code 379 = .ok (.ireturn, 1) := by decide +kernel
theorem dc_W_law_380 : decode code 380 = .ok (.aload_n 1, 1) := by decide +kernel
theorem dc_W_law_381 : decode code 381 = .ok (.aload_n 0, 1) := by decide +kernel
theorem dc_W_law_382 : decode code 382 = .ok (.iload_n 3, 1) := by decide +kernel
theorem dc_W_law_383 : decode code 383 = .ok (.iconst 1, 1) := by decide +kernel
theorem dc_W_law_384 : decode code 384 = .ok (.iadd, 1) := by decide +kernel
theorem dc_W_law_385 : decode code 385 = .ok (.iaload, 1) := by decide +kernel
theorem dc_W_law_386 : decode code 386 = .ok (.invokevirtual 51, 3) := by decide +kernel
theorem dc_W_law_389 : decode code 389 = .ok (.aload_n 2, 1) := by decide +kernel
theorem dc_W_law_390 : decode code 390 = .ok (.aload_n 0, 1) := by decide +kernel
theorem dc_W_law_391 : decode code 391 = .ok (.iload_n 3, 1) := by decide +kernel
theorem dc_W_law_392 : decode code 392 = .ok (.iconst 1, 1) := by decide +kernel
theorem dc_W_law_393 : decode code 393 = .ok (.iadd, 1) := by decide +kernel
theorem dc_W_law_394 : decode code 394 = .ok (.iaload, 1) := by decide +kernel
theorem dc_W_law_395 : decode code 395 = .ok (.invokevirtual 55, 3) := by decide +kernel
theorem dc_W_law_398 : decode code 398 = .ok (.if_icmp .eq 150, 3) := by decide +kernel
theorem dc_W_law_401 : decode code 401 = .ok (.iconst 0, 1) := by decide +kernel
theorem dc_W_law_402 : decode code 402 = .ok (.ireturn, 1) := by decide +kernel
theorem dc_W_law_403 : decode code 403 = .ok (.aload_n 1, 1) := by decide +kernel
theorem dc_W_law_404 : decode code 404 = .ok (.aload_n 0, 1) := by decide +kernel
theorem dc_W_law_405 : decode code 405 = .ok (.iload_n 3, 1) := by decide +kernel
theorem dc_W_law_406 : decode code 406 = .ok (.iconst 1, 1) := by decide +kernel
theorem dc_W_law_407 : decode code 407 = .ok (.iadd, 1) := by decide +kernel
theorem dc_W_law_408 : decode code 408 = .ok (.iaload, 1) := by decide +kernel
theorem dc_W_law_409 : decode code 409 = .ok (.invokevirtual 56, 3) := by decide +kernel
theorem dc_W_law_412 : decode code 412 = .ok (.aload_n 2, 1) := by decide +kernel
theorem dc_W_law_413 : decode code 413 = .ok (.aload_n 0, 1) := by decide +kernel
theorem dc_W_law_414 : decode code 414 = .ok (.iload_n 3, 1) := by decide +kernel
theorem dc_W_law_415 : decode code 415 = .ok (.iconst 1, 1) := by decide +kernel
theorem dc_W_law_416 : decode code 416 = .ok (.iadd, 1) := by decide +kernel
theorem dc_W_law_417 : decode code 417 = .ok (.iaload, 1) := by decide +kernel
theorem dc_W_law_418 : decode code 418 = .ok (.invokevirtual 59, 3) := by decide +kernel
theorem dc_W_law_421 : decode code 421 = .ok (.if_icmp .eq 127, 3) := by decide +kernel
theorem dc_W_law_424 : decode code 424 = .ok (.iconst 0, 1) := by decide +kernel
theorem dc_W_law_425 : decode code 425 = .ok (.ireturn, 1) := by decide +kernel
theorem dc_W_law_426 : decode code 426 = .ok (.aload_n 1, 1) := by decide +kernel
theorem dc_W_law_427 : decode code 427 = .ok (.aload_n 0, 1) := by decide +kernel
theorem dc_W_law_428 : decode code 428 = .ok (.iload_n 3, 1) := by decide +kernel
theorem dc_W_law_429 : decode code 429 = .ok (.iconst 1, 1) := by decide +kernel
theorem dc_W_law_430 : decode code 430 = .ok (.iadd, 1) := by decide +kernel
theorem dc_W_law_431 : decode code 431 = .ok (.iaload, 1) := by decide +kernel
theorem dc_W_law_432 : decode code 432 = .ok (.aload_n 0, 1) := by decide +kernel
theorem dc_W_law_433 : decode code 433 = .ok (.iload_n 3, 1) := by decide +kernel
theorem dc_W_law_434 : decode code 434 = .ok (.iconst 2, 1) := by decide +kernel
theorem dc_W_law_435 : decode code 435 = .ok (.iadd, 1) := by decide +kernel
theorem dc_W_law_436 : decode code 436 = .ok (.iaload, 1) := by decide +kernel
theorem dc_W_law_437 : decode code 437 = .ok (.invokevirtual 60, 3) := by decide +kernel
theorem dc_W_law_440 : decode code 440 = .ok (.aload_n 2, 1) := by decide +kernel
theorem dc_W_law_441 : decode code 441 = .ok (.aload_n 0, 1) := by decide +kernel
theorem dc_W_law_442 : decode code 442 = .ok (.iload_n 3, 1) := by decide +kernel
theorem dc_W_law_443 : decode code 443 = .ok (.iconst 1, 1) := by decide +kernel
theorem dc_W_law_444 : decode code 444 = .ok (.iadd, 1) := by decide +kernel
theorem dc_W_law_445 : decode code 445 = .ok (.iaload, 1) := by decide +kernel
theorem dc_W_law_446 : decode code 446 = .ok (.aload_n 0, 1) := by decide +kernel
theorem dc_W_law_447 : decode code 447 = .ok (.iload_n 3, 1) := by decide +kernel
theorem dc_W_law_448 : decode code 448 = .ok (.iconst 2, 1) := by decide +kernel
theorem dc_W_law_449 : decode code 449 = .ok (.iadd, 1) := by decide +kernel
theorem dc_W_law_450 : decode code 450 = .ok (.iaload, 1) := by decide +kernel
theorem dc_W_law_451 : decode code 451 = .ok (.invokevirtual 64, 3) := by decide +kernel
theorem dc_W_law_454 : decode code 454 = .ok (.if_icmp .eq 94, 3) := by decide +kernel
theorem dc_W_law_457 : decode code 457 = .ok (.iconst 0, 1) := by decide +kernel
theorem dc_W_law_458 : decode code 458 = .ok (.ireturn, 1) := by decide +kernel
theorem dc_W_law_459 : decode code 459 = .ok (.aload_n 1, 1) := by decide +kernel
theorem dc_W_law_460 : decode code 460 = .ok (.aload_n 0, 1) := by decide +kernel
theorem dc_W_law_461 : decode code 461 = .ok (.iload_n 3, 1) := by decide +kernel
theorem dc_W_law_462 : decode code 462 = .ok (.iconst 1, 1) := by decide +kernel
theorem dc_W_law_463 : decode code 463 = .ok (.iadd, 1) := by decide +kernel
theorem dc_W_law_464 : decode code 464 = .ok (.iaload, 1) := by decide +kernel
theorem dc_W_law_465 : decode code 465 = .ok (.aload_n 0, 1) := by decide +kernel
theorem dc_W_law_466 : decode code 466 = .ok (.iload_n 3, 1) := by decide +kernel
theorem dc_W_law_467 : decode code 467 = .ok (.iconst 2, 1) := by decide +kernel
theorem dc_W_law_468 : decode code 468 = .ok (.iadd, 1) := by decide +kernel
theorem dc_W_law_469 : decode code 469 = .ok (.iaload, 1) := by decide +kernel
theorem dc_W_law_470 : decode code 470 = .ok (.invokevirtual 65, 3) := by decide +kernel
theorem dc_W_law_473 : decode code 473 = .ok (.aload_n 2, 1) := by decide +kernel
theorem dc_W_law_474 : decode code 474 = .ok (.aload_n 0, 1) := by decide +kernel
theorem dc_W_law_475 : decode code 475 = .ok (.iload_n 3, 1) := by decide +kernel
theorem dc_W_law_476 : decode code 476 = .ok (.iconst 1, 1) := by decide +kernel
theorem dc_W_law_477 : decode code 477 = .ok (.iadd, 1) := by decide +kernel
theorem dc_W_law_478 : decode code 478 = .ok (.iaload, 1) := by decide +kernel
theorem dc_W_law_479 : decode code 479 = .ok (.aload_n 0, 1) := by decide +kernel
theorem dc_W_law_480 : decode code 480 = .ok (.iload_n 3, 1) := by decide +kernel
theorem dc_W_law_481 : decode code 481 = .ok (.iconst 2, 1) := by decide +kernel
theorem dc_W_law_482 : decode code 482 = .ok (.iadd, 1) := by decide +kernel
theorem dc_W_law_483 : decode code 483 = .ok (.iaload, 1) := by decide +kernel
theorem dc_W_law_484 : decode code 484 = .ok (.invokevirtual 68, 3) := by decide +kernel
theorem dc_W_law_487 : decode code 487 = .ok (.if_icmp .eq 61, 3) := by decide +kernel
theorem dc_W_law_490 : decode code 490 = .ok (.iconst 0, 1) := by decide +kernel
theorem dc_W_law_491 : decode code 491 = .ok (.ireturn, 1) := by decide +kernel
theorem dc_W_law_492 : decode code 492 = .ok (.aload_n 1, 1) := by decide +kernel
theorem dc_W_law_493 : decode code 493 = .ok (.aload_n 0, 1) := by decide +kernel
theorem dc_W_law_494 : decode code 494 = .ok (.iload_n 3, 1) := by decide +kernel
theorem dc_W_law_495 : decode code 495 = .ok (.iconst 1, 1) := by decide +kernel
theorem dc_W_law_496 : decode code 496 = .ok (.iadd, 1) := by decide +kernel
theorem dc_W_law_497 : decode code 497 = .ok (.iaload, 1) := by decide +kernel
theorem dc_W_law_498 : decode code 498 = .ok (.aload_n 0, 1) := by decide +kernel
theorem dc_W_law_499 : decode code 499 = .ok (.iload_n 3, 1) := by decide +kernel
theorem dc_W_law_500 : decode code 500 = .ok (.iconst 2, 1) := by decide +kernel
theorem dc_W_law_501 : decode code 501 = .ok (.iadd, 1) := by decide +kernel
theorem dc_W_law_502 : decode code 502 = .ok (.iaload, 1) := by decide +kernel
theorem dc_W_law_503 : decode code 503 = .ok (.invokevirtual 69, 3) := by decide +kernel
theorem dc_W_law_506 : decode code 506 = .ok (.aload_n 2, 1) := by decide +kernel
theorem dc_W_law_507 : decode code 507 = .ok (.aload_n 0, 1) := by decide +kernel
theorem dc_W_law_508 : decode code 508 = .ok (.iload_n 3, 1) := by decide +kernel
theorem dc_W_law_509 : decode code 509 = .ok (.iconst 1, 1) := by decide +kernel
theorem dc_W_law_510 : decode code 510 = .ok (.iadd, 1) := by decide +kernel
theorem dc_W_law_511 : decode code 511 = .ok (.iaload, 1) := by decide +kernel
theorem dc_W_law_512 : decode code 512 = .ok (.aload_n 0, 1) := by decide +kernel
theorem dc_W_law_513 : decode code 513 = .ok (.iload_n 3, 1) := by decide +kernel
theorem dc_W_law_514 : decode code 514 = .ok (.iconst 2, 1) := by decide +kernel
theorem dc_W_law_515 : decode code 515 = .ok (.iadd, 1) := by decide +kernel
theorem dc_W_law_516 : decode code 516 = .ok (.iaload, 1) := by decide +kernel
theorem dc_W_law_517 : decode code 517 = .ok (.invokevirtual 72, 3) := by decide +kernel
theorem dc_W_law_520 : decode code 520 = .ok (.if_icmp .eq 28, 3) := by decide +kernel
theorem dc_W_law_523 : decode code 523 = .ok (.iconst 0, 1) := by decide +kernel
theorem dc_W_law_524 : decode code 524 = .ok (.ireturn, 1) := by decide +kernel
theorem dc_W_law_525 : decode code 525 = .ok (.aload_n 1, 1) := by decide +kernel
theorem dc_W_law_526 : decode code 526 = .ok (.aload_n 0, 1) := by decide +kernel
theorem dc_W_law_527 : decode code 527 = .ok (.iload_n 3, 1) := by decide +kernel
theorem dc_W_law_528 : decode code 528 = .ok (.iconst 1, 1) := by decide +kernel
theorem dc_W_law_529 : decode code 529 = .ok (.iadd, 1) := by decide +kernel
theorem dc_W_law_530 : decode code 530 = .ok (.iaload, 1) := by decide +kernel
theorem dc_W_law_531 : decode code 531 = .ok (.invokevirtual 73, 3) := by decide +kernel
theorem dc_W_law_534 : decode code 534 = .ok (.aload_n 2, 1) := by decide +kernel
theorem dc_W_law_535 : decode code 535 = .ok (.aload_n 0, 1) := by decide +kernel
theorem dc_W_law_536 : decode code 536 = .ok (.iload_n 3, 1) := by decide +kernel
theorem dc_W_law_537 : decode code 537 = .ok (.iconst 1, 1) := by decide +kernel
theorem dc_W_law_538 : decode code 538 = .ok (.iadd, 1) := by decide +kernel
theorem dc_W_law_539 : decode code 539 = .ok (.iaload, 1) := by decide +kernel
theorem dc_W_law_540 : decode code 540 = .ok (.invokevirtual 76, 3) := by decide +kernel
theorem dc_W_law_543 : decode code 543 = .ok (.if_icmp .eq 5, 3) := by decide +kernel
theorem dc_W_law_546 : decode code 546 = .ok (.iconst 0, 1) := by decide +kernel
theorem dc_W_law_547 : decode code 547 = .ok (.ireturn, 1) := by decide +kernel
theorem dc_W_law_548 : decode code 548 = .ok (.iinc 3 6, 3) := by decide +kernel
theorem dc_W_law_551 : decode code 551 = .ok (.goto (-533), 3) := by decide +kernel
theorem dc_W_law_554 : decode code 554 = .ok (.iconst 1, 1) := by decide +kernel
theorem dc_W_law_555 : decode code 555 = .ok (.ireturn, 1) := by decide +kernel
