theorem d_O_init_0 : decode prog_1_method_1_code 0 = .ok (.aload_n 0, 1) := by decide +kernel
theorem d_O_init_1 : decode prog_1_method_1_code 1 = .ok (.invokespecial 1, 3) := by decide +kernel
theorem d_O_init_4 : decode prog_1_method_1_code 4 = .ok (.aload_n 0, 1) := by decide +kernel
theorem d_O_init_5 : decode prog_1_method_1_code 5 = .ok (.sipush 300, 3) := by decide +kernel
theorem d_O_init_8 : decode prog_1_method_1_code 8 = .ok (.newarray .int, 2) := by decide +kernel
theorem d_O_init_10 : decode prog_1_method_1_code 10 = .ok (.putfield 9, 3) := by decide +kernel
theorem d_O_init_13 : decode prog_1_method_1_code 13 = .ok (.aload_n 0, 1) := by decide +kernel
theorem d_O_init_14 : decode prog_1_method_1_code 14 = .ok (.iconst 0, 1) := by decide +kernel
theorem d_O_init_15 : decode prog_1_method_1_code 15 = .ok (.putfield 13, 3) := by decide +kernel
theorem d_O_init_18 : decode prog_1_method_1_code 18 = .ok (.aload_n 0, 1) := by decide +kernel
theorem d_O_init_19 : decode prog_1_method_1_code 19 = .ok (.iconst (-1), 1) := by decide +kernel
theorem d_O_init_20 : decode prog_1_method_1_code 20 = .ok (.putfield 17, 3) := by decide +kernel
theorem d_O_init_23 : decode prog_1_method_1_code 23 = .ok (.aload_n 0, 1) := by decide +kernel
theorem d_O_init_24 : decode prog_1_method_1_code 24 = .ok (.iconst (-1), 1) := by decide +kernel
theorem d_O_init_25 : decode prog_1_method_1_code 25 = .ok (.putfield 20, 3) := by decide +kernel
theorem d_O_init_28 : decode prog_1_method_1_code 28 = .ok (.aload_n 0, 1) := by decide +kernel
theorem d_O_init_29 : decode prog_1_method_1_code 29 = .ok (.iconst 4, 1) := by decide +kernel
theorem d_O_init_30 : decode prog_1_method_1_code 30 = .ok (.anewarray 23, 3) := by decide +kernel
theorem d_O_init_33 : decode prog_1_method_1_code 33 = .ok (.putfield 25, 3) := by decide +kernel
theorem d_O_init_36 : decode prog_1_method_1_code 36 = .ok (.aload_n 0, 1) := by decide +kernel
theorem d_O_init_37 : decode prog_1_method_1_code 37 = .ok (.new 29, 3) := by decide +kernel
theorem d_O_init_40 : decode prog_1_method_1_code 40 = .ok (.dup, 1) := by decide +kernel
theorem d_O_init_41 : decode prog_1_method_1_code 41 = .ok (.aload_n 0, 1) := by decide +kernel
theorem d_O_init_42 : decode prog_1_method_1_code 42 = .ok (.getfield 9, 3) := by decide +kernel
theorem d_O_init_45 : decode prog_1_method_1_code 45 = .ok (.invokespecial 31, 3) := by decide +kernel
theorem d_O_init_48 : decode prog_1_method_1_code 48 = .ok (.putfield 34, 3) := by decide +kernel
theorem d_O_init_51 : decode prog_1_method_1_code 51 = .ok (.aload_n 0, 1) := by decide +kernel
theorem d_O_init_52 : decode prog_1_method_1_code 52 = .ok (.new 38, 3) := by decide +kernel
theorem d_O_init_55 : decode prog_1_method_1_code 55 = .ok (.dup, 1) := by decide +kernel
theorem d_O_init_56 : decode prog_1_method_1_code 56 = .ok (.invokespecial 40, 3) := by decide +kernel
theorem d_O_init_59 : decode prog_1_method_1_code 59 = .ok (.putfield 41, 3) := by decide +kernel
theorem d_O_init_62 : decode prog_1_method_1_code 62 = .ok (.aload_n 0, 1) := by decide +kernel
theorem d_O_init_63 : decode prog_1_method_1_code 63 = .ok (.new 45, 3) := by decide +kernel
theorem d_O_init_66 : decode prog_1_method_1_code 66 = .ok (.dup, 1) := by decide +kernel
theorem d_O_init_67 : decode prog_1_method_1_code 67 = .ok (.invokespecial 47, 3) := by decide +kernel
theorem d_O_init_70 : decode prog_1_method_1_code 70 = .ok (.putfield 48, 3) := by decide +kernel
theorem d_O_init_73 : decode prog_1_method_1_code 73 = .ok (.aload_n 0, 1) := by decide +kernel
theorem d_O_init_74 : decode prog_1_method_1_code 74 = .ok (.new 45, 3) := by decide +kernel
theorem d_O_init_77 : decode prog_1_method_1_code 77 = .ok (.dup, 1) := by decide +kernel
theorem d_O_init_78 : decode prog_1_method_1_code 78 = .ok (.invokespecial 47, 3) := by decide +kernel
theorem d_O_init_81 : decode prog_1_method_1_code 81 = .ok (.putfield 52, 3) := by decide +kernel
theorem d_O_init_84 : decode prog_1_method_1_code 84 = .ok (.aload_n 0, 1) := by decide +kernel
theorem d_O_init_85 : decode prog_1_method_1_code 85 = .ok (.new 55, 3) := by decide +kernel
theorem d_O_init_88 : decode prog_1_method_1_code 88 = .ok (.dup, 1) := by decide +kernel
theorem d_O_init_89 : decode prog_1_method_1_code 89 = .ok (.invokespecial 57, 3) := by decide +kernel
theorem d_O_init_92 : decode prog_1_method_1_code 92 = .ok (.putfield 58, 3) := by decide +kernel
theorem d_O_init_95 : decode prog_1_method_1_code 95 = .ok (.aload_n 0, 1) := by decide +kernel
theorem d_O_init_96 : decode prog_1_method_1_code 96 = .ok (.bipush 64, 2) := by decide +kernel
theorem d_O_init_98 : decode prog_1_method_1_code 98 = .ok (.newarray .int, 2) := by decide +kernel
theorem d_O_init_100 : decode prog_1_method_1_code 100 = .ok (.putfield 62, 3) := by decide +kernel
theorem d_O_init_103 : decode prog_1_method_1_code 103 = .ok (.aload_n 0, 1) := by decide +kernel
theorem d_O_init_104 : decode prog_1_method_1_code 104 = .ok (.bipush 21, 2) := by decide +kernel
theorem d_O_init_106 : decode prog_1_method_1_code 106 = .ok (.newarray .int, 2) := by decide +kernel
theorem d_O_init_108 : decode prog_1_method_1_code 108 = .ok (.putfield 65, 3) := by decide +kernel
theorem d_O_init_111 : decode prog_1_method_1_code 111 = .ok (.aload_n 0, 1) := by decide +kernel
theorem d_O_init_112 : decode prog_1_method_1_code 112 = .ok (.bipush 21, 2) := by decide +kernel
theorem d_O_init_114 : decode prog_1_method_1_code 114 = .ok (.newarray .long, 2) := by decide +kernel
theorem d_O_init_116 : decode prog_1_method_1_code 116 = .ok (.putfield 68, 3) := by decide +kernel
theorem d_O_init_119 : decode prog_1_method_1_code 119 = .ok (.iconst 0, 1) := by decide +kernel
theorem d_O_init_120 : decode prog_1_method_1_code 120 = .ok (.istore_n 1, 1) := by decide +kernel
theorem d_O_init_121 : decode prog_1_method_1_code 121 = .ok (.iload_n 1, 1) := by decide +kernel
theorem d_O_init_122 : decode prog_1_method_1_code 122 = .ok (.iconst 4, 1) := by decide +kernel
theorem d_O_init_123 : decode prog_1_method_1_code 123 = .ok (.if_icmp .ge 22, 3) := by decide +kernel
theorem d_O_init_126 : decode prog_1_method_1_code 126 = .ok (.aload_n 0, 1) := by decide +kernel
theorem d_O_init_127 : decode prog_1_method_1_code 127 = .ok (.getfield 25, 3) := by decide +kernel
theorem d_O_init_130 : decode prog_1_method_1_code 130 = .ok (.iload_n 1, 1) := by decide +kernel
theorem d_O_init_131 : decode prog_1_method_1_code 131 = .ok (.new 23, 3) := by decide +kernel
theorem d_O_init_134 : decode prog_1_method_1_code 134 = .ok (.dup, 1) := by decide +kernel
theorem d_O_init_135 : decode prog_1_method_1_code 135 = .ok (.invokespecial 72, 3) := by decide +kernel
theorem d_O_init_138 : decode prog_1_method_1_code 138 = .ok (.aastore, 1) := by decide +kernel
theorem d_O_init_139 : decode prog_1_method_1_code 139 = .ok (.iinc 1 1, 3) := by decide +kernel
theorem d_O_init_142 : decode prog_1_method_1_code 142 = .ok (.goto (-21), 3) := by decide +kernel
theorem d_O_init_145 : decode prog_1_method_1_code 145 = .ok (.return_, 1) := by decide +kernel
theorem d_D_init_0 : decode prog_5_method_1_code 0 = .ok (.aload_n 0, 1) := by decide +kernel
theorem d_D_init_1 : decode prog_5_method_1_code 1 = .ok (.invokespecial 3, 3) := by decide +kernel
theorem d_D_init_4 : decode prog_5_method_1_code 4 = .ok (.aload_n 0, 1) := by decide +kernel
theorem d_D_init_5 : decode prog_5_method_1_code 5 = .ok (.new 9, 3) := by decide +kernel
theorem d_D_init_8 : decode prog_5_method_1_code 8 = .ok (.dup, 1) := by decide +kernel
theorem d_D_init_9 : decode prog_5_method_1_code 9 = .ok (.aload_n 1, 1) := by decide +kernel
theorem d_D_init_10 : decode prog_5_method_1_code 10 = .ok (.invokespecial 11, 3) := by decide +kernel
theorem d_D_init_13 : decode prog_5_method_1_code 13 = .ok (.putfield 14, 3) := by decide +kernel
theorem d_D_init_16 : decode prog_5_method_1_code 16 = .ok (.return_, 1) := by decide +kernel
theorem d_G_init_0 : decode prog_9_method_1_code 0 = .ok (.aload_n 0, 1) := by decide +kernel
theorem d_G_init_1 : decode prog_9_method_1_code 1 = .ok (.invokespecial 3, 3) := by decide +kernel
theorem d_G_init_4 : decode prog_9_method_1_code 4 = .ok (.aload_n 0, 1) := by decide +kernel
theorem d_G_init_5 : decode prog_9_method_1_code 5 = .ok (.sipush 301, 3) := by decide +kernel
theorem d_G_init_8 : decode prog_9_method_1_code 8 = .ok (.newarray .int, 2) := by decide +kernel
theorem d_G_init_10 : decode prog_9_method_1_code 10 = .ok (.putfield 9, 3) := by decide +kernel
theorem d_G_init_13 : decode prog_9_method_1_code 13 = .ok (.aload_n 0, 1) := by decide +kernel
theorem d_G_init_14 : decode prog_9_method_1_code 14 = .ok (.sipush 301, 3) := by decide +kernel
theorem d_G_init_17 : decode prog_9_method_1_code 17 = .ok (.newarray .int, 2) := by decide +kernel
theorem d_G_init_19 : decode prog_9_method_1_code 19 = .ok (.putfield 15, 3) := by decide +kernel
theorem d_G_init_22 : decode prog_9_method_1_code 22 = .ok (.aload_n 0, 1) := by decide +kernel
theorem d_G_init_23 : decode prog_9_method_1_code 23 = .ok (.sipush 301, 3) := by decide +kernel
theorem d_G_init_26 : decode prog_9_method_1_code 26 = .ok (.newarray .int, 2) := by decide +kernel
theorem d_G_init_28 : decode prog_9_method_1_code 28 = .ok (.putfield 18, 3) := by decide +kernel
theorem d_G_init_31 : decode prog_9_method_1_code 31 = .ok (.aload_n 0, 1) := by decide +kernel
theorem d_G_init_32 : decode prog_9_method_1_code 32 = .ok (.aload_n 1, 1) := by decide +kernel
theorem d_G_init_33 : decode prog_9_method_1_code 33 = .ok (.putfield 21, 3) := by decide +kernel
theorem d_G_init_36 : decode prog_9_method_1_code 36 = .ok (.return_, 1) := by decide +kernel
theorem d_L_init_0 : decode prog_3_method_1_code 0 = .ok (.aload_n 0, 1) := by decide +kernel
theorem d_L_init_1 : decode prog_3_method_1_code 1 = .ok (.invokespecial 3, 3) := by decide +kernel
theorem d_L_init_4 : decode prog_3_method_1_code 4 = .ok (.aload_n 0, 1) := by decide +kernel
theorem d_L_init_5 : decode prog_3_method_1_code 5 = .ok (.sipush 300, 3) := by decide +kernel
theorem d_L_init_8 : decode prog_3_method_1_code 8 = .ok (.newarray .int, 2) := by decide +kernel
theorem d_L_init_10 : decode prog_3_method_1_code 10 = .ok (.putfield 9, 3) := by decide +kernel
theorem d_L_init_13 : decode prog_3_method_1_code 13 = .ok (.return_, 1) := by decide +kernel
theorem d_H_init_0 : decode prog_2_method_1_code 0 = .ok (.aload_n 0, 1) := by decide +kernel
theorem d_H_init_1 : decode prog_2_method_1_code 1 = .ok (.invokespecial 3, 3) := by decide +kernel
theorem d_H_init_4 : decode prog_2_method_1_code 4 = .ok (.aload_n 0, 1) := by decide +kernel
theorem d_H_init_5 : decode prog_2_method_1_code 5 = .ok (.new 9, 3) := by decide +kernel
theorem d_H_init_8 : decode prog_2_method_1_code 8 = .ok (.dup, 1) := by decide +kernel
theorem d_H_init_9 : decode prog_2_method_1_code 9 = .ok (.invokespecial 11, 3) := by decide +kernel
theorem d_H_init_12 : decode prog_2_method_1_code 12 = .ok (.putfield 12, 3) := by decide +kernel
theorem d_H_init_15 : decode prog_2_method_1_code 15 = .ok (.aload_n 0, 1) := by decide +kernel
theorem d_H_init_16 : decode prog_2_method_1_code 16 = .ok (.new 18, 3) := by decide +kernel
theorem d_H_init_19 : decode prog_2_method_1_code 19 = .ok (.dup, 1) := by decide +kernel
theorem d_H_init_20 : decode prog_2_method_1_code 20 = .ok (.invokespecial 20, 3) := by decide +kernel
theorem d_H_init_23 : decode prog_2_method_1_code 23 = .ok (.putfield 21, 3) := by decide +kernel
theorem d_H_init_26 : decode prog_2_method_1_code 26 = .ok (.aload_n 0, 1) := by decide +kernel
theorem d_H_init_27 : decode prog_2_method_1_code 27 = .ok (.bipush 8, 2) := by decide +kernel
theorem d_H_init_29 : decode prog_2_method_1_code 29 = .ok (.newarray .int, 2) := by decide +kernel
theorem d_H_init_31 : decode prog_2_method_1_code 31 = .ok (.putfield 25, 3) := by decide +kernel
theorem d_H_init_34 : decode prog_2_method_1_code 34 = .ok (.aload_n 0, 1) := by decide +kernel
theorem d_H_init_35 : decode prog_2_method_1_code 35 = .ok (.iconst (-1), 1) := by decide +kernel
theorem d_H_init_36 : decode prog_2_method_1_code 36 = .ok (.putfield 29, 3) := by decide +kernel
theorem d_H_init_39 : decode prog_2_method_1_code 39 = .ok (.aload_n 0, 1) := by decide +kernel
theorem d_H_init_40 : decode prog_2_method_1_code 40 = .ok (.bipush 8, 2) := by decide +kernel
theorem d_H_init_42 : decode prog_2_method_1_code 42 = .ok (.newarray .int, 2) := by decide +kernel
theorem d_H_init_44 : decode prog_2_method_1_code 44 = .ok (.putfield 33, 3) := by decide +kernel
theorem d_H_init_47 : decode prog_2_method_1_code 47 = .ok (.aload_n 0, 1) := by decide +kernel
theorem d_H_init_48 : decode prog_2_method_1_code 48 = .ok (.bipush 8, 2) := by decide +kernel
theorem d_H_init_50 : decode prog_2_method_1_code 50 = .ok (.newarray .int, 2) := by decide +kernel
theorem d_H_init_52 : decode prog_2_method_1_code 52 = .ok (.putfield 36, 3) := by decide +kernel
theorem d_H_init_55 : decode prog_2_method_1_code 55 = .ok (.aload_n 0, 1) := by decide +kernel
theorem d_H_init_56 : decode prog_2_method_1_code 56 = .ok (.bipush 8, 2) := by decide +kernel
theorem d_H_init_58 : decode prog_2_method_1_code 58 = .ok (.newarray .int, 2) := by decide +kernel
theorem d_H_init_60 : decode prog_2_method_1_code 60 = .ok (.putfield 39, 3) := by decide +kernel
theorem d_H_init_63 : decode prog_2_method_1_code 63 = .ok (.return_, 1) := by decide +kernel
theorem d_N_init_0 : decode prog_4_method_1_code 0 = .ok (.aload_n 0, 1) := by decide +kernel
theorem d_N_init_1 : decode prog_4_method_1_code 1 = .ok (.invokespecial 3, 3) := by decide +kernel
theorem d_N_init_4 : decode prog_4_method_1_code 4 = .ok (.aload_n 0, 1) := by decide +kernel
theorem d_N_init_5 : decode prog_4_method_1_code 5 = .ok (.bipush 8, 2) := by decide +kernel
theorem d_N_init_7 : decode prog_4_method_1_code 7 = .ok (.newarray .int, 2) := by decide +kernel
theorem d_N_init_9 : decode prog_4_method_1_code 9 = .ok (.putfield 9, 3) := by decide +kernel
theorem d_N_init_12 : decode prog_4_method_1_code 12 = .ok (.aload_n 0, 1) := by decide +kernel
theorem d_N_init_13 : decode prog_4_method_1_code 13 = .ok (.sipush 431, 3) := by decide +kernel
theorem d_N_init_16 : decode prog_4_method_1_code 16 = .ok (.putfield 15, 3) := by decide +kernel
theorem d_N_init_19 : decode prog_4_method_1_code 19 = .ok (.aload_n 0, 1) := by decide +kernel
theorem d_N_init_20 : decode prog_4_method_1_code 20 = .ok (.bipush 25, 2) := by decide +kernel
theorem d_N_init_22 : decode prog_4_method_1_code 22 = .ok (.newarray .int, 2) := by decide +kernel
theorem d_N_init_24 : decode prog_4_method_1_code 24 = .ok (.putfield 19, 3) := by decide +kernel
theorem d_N_init_27 : decode prog_4_method_1_code 27 = .ok (.return_, 1) := by decide +kernel
theorem d_S_init_0 : decode prog_6_method_1_code 0 = .ok (.aload_n 0, 1) := by decide +kernel
theorem d_S_init_1 : decode prog_6_method_1_code 1 = .ok (.invokespecial 3, 3) := by decide +kernel
theorem d_S_init_4 : decode prog_6_method_1_code 4 = .ok (.aload_n 0, 1) := by decide +kernel
theorem d_S_init_5 : decode prog_6_method_1_code 5 = .ok (.bipush 30, 2) := by decide +kernel
theorem d_S_init_7 : decode prog_6_method_1_code 7 = .ok (.anewarray 9, 3) := by decide +kernel
theorem d_S_init_10 : decode prog_6_method_1_code 10 = .ok (.putfield 11, 3) := by decide +kernel
theorem d_S_init_13 : decode prog_6_method_1_code 13 = .ok (.iconst 0, 1) := by decide +kernel
theorem d_S_init_14 : decode prog_6_method_1_code 14 = .ok (.istore_n 1, 1) := by decide +kernel
theorem d_S_init_15 : decode prog_6_method_1_code 15 = .ok (.iload_n 1, 1) := by decide +kernel
theorem d_S_init_16 : decode prog_6_method_1_code 16 = .ok (.bipush 30, 2) := by decide +kernel
theorem d_S_init_18 : decode prog_6_method_1_code 18 = .ok (.if_icmp .ge 22, 3) := by decide +kernel
theorem d_S_init_21 : decode prog_6_method_1_code 21 = .ok (.aload_n 0, 1) := by decide +kernel
theorem d_S_init_22 : decode prog_6_method_1_code 22 = .ok (.getfield 11, 3) := by decide +kernel
theorem d_S_init_25 : decode prog_6_method_1_code 25 = .ok (.iload_n 1, 1) := by decide +kernel
theorem d_S_init_26 : decode prog_6_method_1_code 26 = .ok (.new 9, 3) := by decide +kernel
theorem d_S_init_29 : decode prog_6_method_1_code 29 = .ok (.dup, 1) := by decide +kernel
theorem d_S_init_30 : decode prog_6_method_1_code 30 = .ok (.invokespecial 17, 3) := by decide +kernel
theorem d_S_init_33 : decode prog_6_method_1_code 33 = .ok (.aastore, 1) := by decide +kernel
theorem d_S_init_34 : decode prog_6_method_1_code 34 = .ok (.iinc 1 1, 3) := by decide +kernel
theorem d_S_init_37 : decode prog_6_method_1_code 37 = .ok (.goto (-22), 3) := by decide +kernel
theorem d_S_init_40 : decode prog_6_method_1_code 40 = .ok (.return_, 1) := by decide +kernel
theorem d_T_init_0 : decode prog_8_method_1_code 0 = .ok (.aload_n 0, 1) := by decide +kernel
theorem d_T_init_1 : decode prog_8_method_1_code 1 = .ok (.invokespecial 3, 3) := by decide +kernel
theorem d_T_init_4 : decode prog_8_method_1_code 4 = .ok (.aload_n 0, 1) := by decide +kernel
theorem d_T_init_5 : decode prog_8_method_1_code 5 = .ok (.sipush 300, 3) := by decide +kernel
theorem d_T_init_8 : decode prog_8_method_1_code 8 = .ok (.newarray .int, 2) := by decide +kernel
theorem d_T_init_10 : decode prog_8_method_1_code 10 = .ok (.putfield 9, 3) := by decide +kernel
theorem d_T_init_13 : decode prog_8_method_1_code 13 = .ok (.aload_n 0, 1) := by decide +kernel
theorem d_T_init_14 : decode prog_8_method_1_code 14 = .ok (.bipush 24, 2) := by decide +kernel
theorem d_T_init_16 : decode prog_8_method_1_code 16 = .ok (.newarray .int, 2) := by decide +kernel
theorem d_T_init_18 : decode prog_8_method_1_code 18 = .ok (.putfield 15, 3) := by decide +kernel
theorem d_T_init_21 : decode prog_8_method_1_code 21 = .ok (.aload_n 0, 1) := by decide +kernel
theorem d_T_init_22 : decode prog_8_method_1_code 22 = .ok (.bipush 24, 2) := by decide +kernel
theorem d_T_init_24 : decode prog_8_method_1_code 24 = .ok (.newarray .int, 2) := by decide +kernel
theorem d_T_init_26 : decode prog_8_method_1_code 26 = .ok (.putfield 18, 3) := by decide +kernel
theorem d_T_init_29 : decode prog_8_method_1_code 29 = .ok (.aload_n 0, 1) := by decide +kernel
theorem d_T_init_30 : decode prog_8_method_1_code 30 = .ok (.bipush 24, 2) := by decide +kernel
theorem d_T_init_32 : decode prog_8_method_1_code 32 = .ok (.newarray .int, 2) := by decide +kernel
theorem d_T_init_34 : decode prog_8_method_1_code 34 = .ok (.putfield 21, 3) := by decide +kernel
theorem d_T_init_37 : decode prog_8_method_1_code 37 = .ok (.return_, 1) := by decide +kernel
theorem d_O_mark_0 : decode prog_1_method_2_code 0 = .ok (.iload_n 1, 1) := by decide +kernel
theorem d_O_mark_1 : decode prog_1_method_2_code 1 = .ok (.invokestatic 73, 3) := by decide +kernel
theorem d_O_mark_4 : decode prog_1_method_2_code 4 = .ok (.ifCond .ne 5, 3) := by decide +kernel
theorem d_O_mark_7 : decode prog_1_method_2_code 7 = .ok (.iconst (-1), 1) := by decide +kernel
theorem d_O_mark_8 : decode prog_1_method_2_code 8 = .ok (.ireturn, 1) := by decide +kernel
theorem d_O_mark_9 : decode prog_1_method_2_code 9 = .ok (.aload_n 0, 1) := by decide +kernel
theorem d_O_mark_10 : decode prog_1_method_2_code 10 = .ok (.getfield 48, 3) := by decide +kernel
theorem d_O_mark_13 : decode prog_1_method_2_code 13 = .ok (.iload_n 1, 1) := by decide +kernel
theorem d_O_mark_14 : decode prog_1_method_2_code 14 = .ok (.invokevirtual 77, 3) := by decide +kernel
theorem d_O_mark_17 : decode prog_1_method_2_code 17 = .ok (.ireturn, 1) := by decide +kernel
theorem d_O_isSet_0 : decode prog_1_method_55_code 0 = .ok (.iload_n 0, 1) := by decide +kernel
theorem d_O_isSet_1 : decode prog_1_method_55_code 1 = .ok (.ifCond .lt 14, 3) := by decide +kernel
theorem d_O_isSet_4 : decode prog_1_method_55_code 4 = .ok (.iload_n 0, 1) := by decide +kernel
theorem d_O_isSet_5 : decode prog_1_method_55_code 5 = .ok (.ldc_w 345, 3) := by decide +kernel
theorem d_O_isSet_8 : decode prog_1_method_55_code 8 = .ok (.if_icmp .ge 7, 3) := by decide +kernel
theorem d_O_isSet_11 : decode prog_1_method_55_code 11 = .ok (.iconst 1, 1) := by decide +kernel
theorem d_O_isSet_12 : decode prog_1_method_55_code 12 = .ok (.goto 4, 3) := by decide +kernel
theorem d_O_isSet_15 : decode prog_1_method_55_code 15 = .ok (.iconst 0, 1) := by decide +kernel
theorem d_O_isSet_16 : decode prog_1_method_55_code 16 = .ok (.ireturn, 1) := by decide +kernel
theorem d_H_register_0 : decode prog_2_method_3_code 0 = .ok (.aload_n 0, 1) := by decide +kernel
theorem d_H_register_1 : decode prog_2_method_3_code 1 = .ok (.getfield 12, 3) := by decide +kernel
theorem d_H_register_4 : decode prog_2_method_3_code 4 = .ok (.getfield 67, 3) := by decide +kernel
theorem d_H_register_7 : decode prog_2_method_3_code 7 = .ok (.istore_n 2, 1) := by decide +kernel
theorem d_H_register_8 : decode prog_2_method_3_code 8 = .ok (.iload_n 2, 1) := by decide +kernel
theorem d_H_register_9 : decode prog_2_method_3_code 9 = .ok (.bipush 8, 2) := by decide +kernel
theorem d_H_register_11 : decode prog_2_method_3_code 11 = .ok (.if_icmp .lt 5, 3) := by decide +kernel
theorem d_H_register_14 : decode prog_2_method_3_code 14 = .ok (.iconst (-1), 1) := by decide +kernel
theorem d_H_register_15 : decode prog_2_method_3_code 15 = .ok (.ireturn, 1) := by decide +kernel
theorem d_H_register_16 : decode prog_2_method_3_code 16 = .ok (.aload_n 0, 1) := by decide +kernel
theorem d_H_register_17 : decode prog_2_method_3_code 17 = .ok (.getfield 25, 3) := by decide +kernel
theorem d_H_register_20 : decode prog_2_method_3_code 20 = .ok (.iload_n 2, 1) := by decide +kernel
theorem d_H_register_21 : decode prog_2_method_3_code 21 = .ok (.iload_n 1, 1) := by decide +kernel
theorem d_H_register_22 : decode prog_2_method_3_code 22 = .ok (.iastore, 1) := by decide +kernel
theorem d_H_register_23 : decode prog_2_method_3_code 23 = .ok (.aload_n 0, 1) := by decide +kernel
theorem d_H_register_24 : decode prog_2_method_3_code 24 = .ok (.getfield 12, 3) := by decide +kernel
theorem d_H_register_27 : decode prog_2_method_3_code 27 = .ok (.getfield 70, 3) := by decide +kernel
theorem d_H_register_30 : decode prog_2_method_3_code 30 = .ok (.iload_n 2, 1) := by decide +kernel
theorem d_H_register_31 : decode prog_2_method_3_code 31 = .ok (.iload_n 1, 1) := by decide +kernel
theorem d_H_register_32 : decode prog_2_method_3_code 32 = .ok (.iastore, 1) := by decide +kernel
theorem d_H_register_33 : decode prog_2_method_3_code 33 = .ok (.aload_n 0, 1) := by decide +kernel
theorem d_H_register_34 : decode prog_2_method_3_code 34 = .ok (.getfield 12, 3) := by decide +kernel
theorem d_H_register_37 : decode prog_2_method_3_code 37 = .ok (.dup, 1) := by decide +kernel
theorem d_H_register_38 : decode prog_2_method_3_code 38 = .ok (.getfield 67, 3) := by decide +kernel
theorem d_H_register_41 : decode prog_2_method_3_code 41 = .ok (.iconst 1, 1) := by decide +kernel
theorem d_H_register_42 : decode prog_2_method_3_code 42 = .ok (.iadd, 1) := by decide +kernel
theorem d_H_register_43 : decode prog_2_method_3_code 43 = .ok (.putfield 67, 3) := by decide +kernel
theorem d_H_register_46 : decode prog_2_method_3_code 46 = .ok (.iload_n 2, 1) := by decide +kernel
theorem d_H_register_47 : decode prog_2_method_3_code 47 = .ok (.ireturn, 1) := by decide +kernel
theorem d_O_feed_0 : decode prog_1_method_3_code 0 = .ok (.aload_n 0, 1) := by decide +kernel
theorem d_O_feed_1 : decode prog_1_method_3_code 1 = .ok (.getfield 13, 3) := by decide +kernel
theorem d_O_feed_4 : decode prog_1_method_3_code 4 = .ok (.bipush 20, 2) := by decide +kernel
theorem d_O_feed_6 : decode prog_1_method_3_code 6 = .ok (.iadd, 1) := by decide +kernel
theorem d_O_feed_7 : decode prog_1_method_3_code 7 = .ok (.sipush 300, 3) := by decide +kernel
theorem d_O_feed_10 : decode prog_1_method_3_code 10 = .ok (.if_icmp .le 5, 3) := by decide +kernel
theorem d_O_feed_13 : decode prog_1_method_3_code 13 = .ok (.iconst (-1), 1) := by decide +kernel
theorem d_O_feed_14 : decode prog_1_method_3_code 14 = .ok (.ireturn, 1) := by decide +kernel
theorem d_O_feed_15 : decode prog_1_method_3_code 15 = .ok (.aload_n 0, 1) := by decide +kernel
theorem d_O_feed_16 : decode prog_1_method_3_code 16 = .ok (.iload_n 1, 1) := by decide +kernel
theorem d_O_feed_17 : decode prog_1_method_3_code 17 = .ok (.invokevirtual 81, 3) := by decide +kernel
theorem d_O_feed_20 : decode prog_1_method_3_code 20 = .ok (.aload_n 0, 1) := by decide +kernel
theorem d_O_feed_21 : decode prog_1_method_3_code 21 = .ok (.iload_n 2, 1) := by decide +kernel
theorem d_O_feed_22 : decode prog_1_method_3_code 22 = .ok (.invokevirtual 81, 3) := by decide +kernel
theorem d_O_feed_25 : decode prog_1_method_3_code 25 = .ok (.aload_n 0, 1) := by decide +kernel
theorem d_O_feed_26 : decode prog_1_method_3_code 26 = .ok (.iload_n 3, 1) := by decide +kernel
theorem d_O_feed_27 : decode prog_1_method_3_code 27 = .ok (.invokevirtual 81, 3) := by decide +kernel
theorem d_O_feed_30 : decode prog_1_method_3_code 30 = .ok (.aload_n 0, 1) := by decide +kernel
theorem d_O_feed_31 : decode prog_1_method_3_code 31 = .ok (.iload 4, 2) := by decide +kernel
theorem d_O_feed_33 : decode prog_1_method_3_code 33 = .ok (.invokevirtual 81, 3) := by decide +kernel
theorem d_O_feed_36 : decode prog_1_method_3_code 36 = .ok (.aload_n 0, 1) := by decide +kernel
theorem d_O_feed_37 : decode prog_1_method_3_code 37 = .ok (.iload 5, 2) := by decide +kernel
theorem d_O_feed_39 : decode prog_1_method_3_code 39 = .ok (.invokevirtual 81, 3) := by decide +kernel
theorem d_O_feed_42 : decode prog_1_method_3_code 42 = .ok (.aload_n 0, 1) := by decide +kernel
theorem d_O_feed_43 : decode prog_1_method_3_code 43 = .ok (.getfield 13, 3) := by decide +kernel
theorem d_O_feed_46 : decode prog_1_method_3_code 46 = .ok (.ireturn, 1) := by decide +kernel
theorem d_O_putWord_0 : decode prog_1_method_58_code 0 = .ok (.bipush 24, 2) := by decide +kernel
theorem d_O_putWord_2 : decode prog_1_method_58_code 2 = .ok (.istore_n 2, 1) := by decide +kernel
theorem d_O_putWord_3 : decode prog_1_method_58_code 3 = .ok (.iload_n 2, 1) := by decide +kernel
theorem d_O_putWord_4 : decode prog_1_method_58_code 4 = .ok (.ifCond .lt 45, 3) := by decide +kernel
theorem d_O_putWord_7 : decode prog_1_method_58_code 7 = .ok (.aload_n 0, 1) := by decide +kernel
theorem d_O_putWord_8 : decode prog_1_method_58_code 8 = .ok (.getfield 13, 3) := by decide +kernel
theorem d_O_putWord_11 : decode prog_1_method_58_code 11 = .ok (.sipush 300, 3) := by decide +kernel
theorem d_O_putWord_14 : decode prog_1_method_58_code 14 = .ok (.if_icmp .ge 35, 3) := by decide +kernel
theorem d_O_putWord_17 : decode prog_1_method_58_code 17 = .ok (.aload_n 0, 1) := by decide +kernel
theorem d_O_putWord_18 : decode prog_1_method_58_code 18 = .ok (.getfield 9, 3) := by decide +kernel
theorem d_O_putWord_21 : decode prog_1_method_58_code 21 = .ok (.aload_n 0, 1) := by decide +kernel
theorem d_O_putWord_22 : decode prog_1_method_58_code 22 = .ok (.getfield 13, 3) := by decide +kernel
theorem d_O_putWord_25 : decode prog_1_method_58_code 25 = .ok (.iload_n 1, 1) := by decide +kernel
theorem d_O_putWord_26 : decode prog_1_method_58_code 26 = .ok (.iload_n 2, 1) := by decide +kernel
theorem d_O_putWord_27 : decode prog_1_method_58_code 27 = .ok (.ishr, 1) := by decide +kernel
theorem d_O_putWord_28 : decode prog_1_method_58_code 28 = .ok (.sipush 255, 3) := by decide +kernel
theorem d_O_putWord_31 : decode prog_1_method_58_code 31 = .ok (.iand, 1) := by decide +kernel
theorem d_O_putWord_32 : decode prog_1_method_58_code 32 = .ok (.iastore, 1) := by decide +kernel
theorem d_O_putWord_33 : decode prog_1_method_58_code 33 = .ok (.aload_n 0, 1) := by decide +kernel
theorem d_O_putWord_34 : decode prog_1_method_58_code 34 = .ok (.dup, 1) := by decide +kernel
theorem d_O_putWord_35 : decode prog_1_method_58_code 35 = .ok (.getfield 13, 3) := by decide +kernel
theorem d_O_putWord_38 : decode prog_1_method_58_code 38 = .ok (.iconst 1, 1) := by decide +kernel
theorem d_O_putWord_39 : decode prog_1_method_58_code 39 = .ok (.iadd, 1) := by decide +kernel
theorem d_O_putWord_40 : decode prog_1_method_58_code 40 = .ok (.putfield 13, 3) := by decide +kernel
theorem d_O_putWord_43 : decode prog_1_method_58_code 43 = .ok (.iinc 2 (-8), 3) := by decide +kernel
theorem d_O_putWord_46 : decode prog_1_method_58_code 46 = .ok (.goto (-43), 3) := by decide +kernel
theorem d_O_putWord_49 : decode prog_1_method_58_code 49 = .ok (.return_, 1) := by decide +kernel
theorem d_O_end_0 : decode prog_1_method_4_code 0 = .ok (.iload_n 1, 1) := by decide +kernel
theorem d_O_end_1 : decode prog_1_method_4_code 1 = .ok (.ifCond .lt 11, 3) := by decide +kernel
theorem d_O_end_4 : decode prog_1_method_4_code 4 = .ok (.iload_n 1, 1) := by decide +kernel
theorem d_O_end_5 : decode prog_1_method_4_code 5 = .ok (.aload_n 0, 1) := by decide +kernel
theorem d_O_end_6 : decode prog_1_method_4_code 6 = .ok (.getfield 13, 3) := by decide +kernel
theorem d_O_end_9 : decode prog_1_method_4_code 9 = .ok (.if_icmp .le 5, 3) := by decide +kernel
theorem d_O_end_12 : decode prog_1_method_4_code 12 = .ok (.iconst (-1), 1) := by decide +kernel
theorem d_O_end_13 : decode prog_1_method_4_code 13 = .ok (.ireturn, 1) := by decide +kernel
theorem d_O_end_14 : decode prog_1_method_4_code 14 = .ok (.aload_n 0, 1) := by decide +kernel
theorem d_O_end_15 : decode prog_1_method_4_code 15 = .ok (.iload_n 1, 1) := by decide +kernel
theorem d_O_end_16 : decode prog_1_method_4_code 16 = .ok (.putfield 13, 3) := by decide +kernel
theorem d_O_end_19 : decode prog_1_method_4_code 19 = .ok (.iload_n 1, 1) := by decide +kernel
theorem d_O_end_20 : decode prog_1_method_4_code 20 = .ok (.ireturn, 1) := by decide +kernel
theorem d_O_text_0 : decode prog_1_method_5_code 0 = .ok (.aload_n 0, 1) := by decide +kernel
theorem d_O_text_1 : decode prog_1_method_5_code 1 = .ok (.getfield 48, 3) := by decide +kernel
theorem d_O_text_4 : decode prog_1_method_5_code 4 = .ok (.getfield 85, 3) := by decide +kernel
theorem d_O_text_7 : decode prog_1_method_5_code 7 = .ok (.iconst 4, 1) := by decide +kernel
theorem d_O_text_8 : decode prog_1_method_5_code 8 = .ok (.if_icmp .lt 5, 3) := by decide +kernel
theorem d_O_text_11 : decode prog_1_method_5_code 11 = .ok (.iconst (-1), 1) := by decide +kernel
theorem d_O_text_12 : decode prog_1_method_5_code 12 = .ok (.ireturn, 1) := by decide +kernel
theorem d_O_text_13 : decode prog_1_method_5_code 13 = .ok (.aload_n 0, 1) := by decide +kernel
theorem d_O_text_14 : decode prog_1_method_5_code 14 = .ok (.getfield 34, 3) := by decide +kernel
theorem d_O_text_17 : decode prog_1_method_5_code 17 = .ok (.aload_n 0, 1) := by decide +kernel
theorem d_O_text_18 : decode prog_1_method_5_code 18 = .ok (.getfield 13, 3) := by decide +kernel
theorem d_O_text_21 : decode prog_1_method_5_code 21 = .ok (.aload_n 0, 1) := by decide +kernel
theorem d_O_text_22 : decode prog_1_method_5_code 22 = .ok (.getfield 25, 3) := by decide +kernel
theorem d_O_text_25 : decode prog_1_method_5_code 25 = .ok (.aload_n 0, 1) := by decide +kernel
theorem d_O_text_26 : decode prog_1_method_5_code 26 = .ok (.getfield 48, 3) := by decide +kernel
theorem d_O_text_29 : decode prog_1_method_5_code 29 = .ok (.getfield 85, 3) := by decide +kernel
theorem d_O_text_32 : decode prog_1_method_5_code 32 = .ok (.aaload, 1) := by decide +kernel
theorem d_O_text_33 : decode prog_1_method_5_code 33 = .ok (.invokevirtual 87, 3) := by decide +kernel
theorem d_O_text_36 : decode prog_1_method_5_code 36 = .ok (.aload_n 0, 1) := by decide +kernel
theorem d_O_text_37 : decode prog_1_method_5_code 37 = .ok (.iconst 0, 1) := by decide +kernel
theorem d_O_text_38 : decode prog_1_method_5_code 38 = .ok (.putfield 13, 3) := by decide +kernel
theorem d_O_text_41 : decode prog_1_method_5_code 41 = .ok (.aload_n 0, 1) := by decide +kernel
theorem d_O_text_42 : decode prog_1_method_5_code 42 = .ok (.aload_n 0, 1) := by decide +kernel
theorem d_O_text_43 : decode prog_1_method_5_code 43 = .ok (.getfield 34, 3) := by decide +kernel
theorem d_O_text_46 : decode prog_1_method_5_code 46 = .ok (.getfield 91, 3) := by decide +kernel
theorem d_O_text_49 : decode prog_1_method_5_code 49 = .ok (.putfield 17, 3) := by decide +kernel
theorem d_O_text_52 : decode prog_1_method_5_code 52 = .ok (.aload_n 0, 1) := by decide +kernel
theorem d_O_text_53 : decode prog_1_method_5_code 53 = .ok (.aload_n 0, 1) := by decide +kernel
theorem d_O_text_54 : decode prog_1_method_5_code 54 = .ok (.getfield 34, 3) := by decide +kernel
theorem d_O_text_57 : decode prog_1_method_5_code 57 = .ok (.getfield 94, 3) := by decide +kernel
theorem d_O_text_60 : decode prog_1_method_5_code 60 = .ok (.putfield 20, 3) := by decide +kernel
theorem d_O_text_63 : decode prog_1_method_5_code 63 = .ok (.aload_n 0, 1) := by decide +kernel
theorem d_O_text_64 : decode prog_1_method_5_code 64 = .ok (.getfield 17, 3) := by decide +kernel
theorem d_O_text_67 : decode prog_1_method_5_code 67 = .ok (.ifCond .eq 5, 3) := by decide +kernel
theorem d_O_text_70 : decode prog_1_method_5_code 70 = .ok (.iconst (-1), 1) := by decide +kernel
theorem d_O_text_71 : decode prog_1_method_5_code 71 = .ok (.ireturn, 1) := by decide +kernel
theorem d_O_text_72 : decode prog_1_method_5_code 72 = .ok (.aload_n 0, 1) := by decide +kernel
theorem d_O_text_73 : decode prog_1_method_5_code 73 = .ok (.getfield 48, 3) := by decide +kernel
theorem d_O_text_76 : decode prog_1_method_5_code 76 = .ok (.dup, 1) := by decide +kernel
theorem d_O_text_77 : decode prog_1_method_5_code 77 = .ok (.getfield 85, 3) := by decide +kernel
theorem d_O_text_80 : decode prog_1_method_5_code 80 = .ok (.iconst 1, 1) := by decide +kernel
theorem d_O_text_81 : decode prog_1_method_5_code 81 = .ok (.iadd, 1) := by decide +kernel
theorem d_O_text_82 : decode prog_1_method_5_code 82 = .ok (.putfield 85, 3) := by decide +kernel
theorem d_O_text_85 : decode prog_1_method_5_code 85 = .ok (.aload_n 0, 1) := by decide +kernel
theorem d_O_text_86 : decode prog_1_method_5_code 86 = .ok (.getfield 48, 3) := by decide +kernel
theorem d_O_text_89 : decode prog_1_method_5_code 89 = .ok (.getfield 85, 3) := by decide +kernel
theorem d_O_text_92 : decode prog_1_method_5_code 92 = .ok (.iconst 1, 1) := by decide +kernel
theorem d_O_text_93 : decode prog_1_method_5_code 93 = .ok (.isub, 1) := by decide +kernel
theorem d_O_text_94 : decode prog_1_method_5_code 94 = .ok (.ireturn, 1) := by decide +kernel
theorem d_D_read_0 : decode prog_5_method_2_code 0 = .ok (.aload_n 0, 1) := by decide +kernel
theorem d_D_read_1 : decode prog_5_method_2_code 1 = .ok (.getfield 14, 3) := by decide +kernel
theorem d_D_read_4 : decode prog_5_method_2_code 4 = .ok (.iload_n 1, 1) := by decide +kernel
theorem d_D_read_5 : decode prog_5_method_2_code 5 = .ok (.invokevirtual 20, 3) := by decide +kernel
theorem d_D_read_8 : decode prog_5_method_2_code 8 = .ok (.aload_n 0, 1) := by decide +kernel
theorem d_D_read_9 : decode prog_5_method_2_code 9 = .ok (.iconst 0, 1) := by decide +kernel
theorem d_D_read_10 : decode prog_5_method_2_code 10 = .ok (.putfield 24, 3) := by decide +kernel
theorem d_D_read_13 : decode prog_5_method_2_code 13 = .ok (.aload_n 0, 1) := by decide +kernel
theorem d_D_read_14 : decode prog_5_method_2_code 14 = .ok (.aload_n 0, 1) := by decide +kernel
theorem d_D_read_15 : decode prog_5_method_2_code 15 = .ok (.getfield 14, 3) := by decide +kernel
theorem d_D_read_18 : decode prog_5_method_2_code 18 = .ok (.getfield 28, 3) := by decide +kernel
theorem d_D_read_21 : decode prog_5_method_2_code 21 = .ok (.iconst 0, 1) := by decide +kernel
theorem d_D_read_22 : decode prog_5_method_2_code 22 = .ok (.iaload, 1) := by decide +kernel
theorem d_D_read_23 : decode prog_5_method_2_code 23 = .ok (.putfield 32, 3) := by decide +kernel
theorem d_D_read_26 : decode prog_5_method_2_code 26 = .ok (.aload_n 0, 1) := by decide +kernel
theorem d_D_read_27 : decode prog_5_method_2_code 27 = .ok (.aload_n 2, 1) := by decide +kernel
theorem d_D_read_28 : decode prog_5_method_2_code 28 = .ok (.putfield 34, 3) := by decide +kernel
theorem d_D_read_31 : decode prog_5_method_2_code 31 = .ok (.aload_n 0, 1) := by decide +kernel
theorem d_D_read_32 : decode prog_5_method_2_code 32 = .ok (.getfield 34, 3) := by decide +kernel
theorem d_D_read_35 : decode prog_5_method_2_code 35 = .ok (.invokevirtual 38, 3) := by decide +kernel
theorem d_D_read_38 : decode prog_5_method_2_code 38 = .ok (.aload_n 0, 1) := by decide +kernel
theorem d_D_read_39 : decode prog_5_method_2_code 39 = .ok (.iconst 0, 1) := by decide +kernel
theorem d_D_read_40 : decode prog_5_method_2_code 40 = .ok (.putfield 43, 3) := by decide +kernel
theorem d_D_read_43 : decode prog_5_method_2_code 43 = .ok (.aload_n 0, 1) := by decide +kernel
theorem d_D_read_44 : decode prog_5_method_2_code 44 = .ok (.iconst (-1), 1) := by decide +kernel
theorem d_D_read_45 : decode prog_5_method_2_code 45 = .ok (.putfield 46, 3) := by decide +kernel
theorem d_D_read_48 : decode prog_5_method_2_code 48 = .ok (.iconst 0, 1) := by decide +kernel
theorem d_D_read_49 : decode prog_5_method_2_code 49 = .ok (.istore_n 3, 1) := by decide +kernel
theorem d_D_read_50 : decode prog_5_method_2_code 50 = .ok (.iload_n 3, 1) := by decide +kernel
theorem d_D_read_51 : decode prog_5_method_2_code 51 = .ok (.bipush 24, 2) := by decide +kernel
theorem d_D_read_53 : decode prog_5_method_2_code 53 = .ok (.if_icmp .gt 29, 3) := by decide +kernel
theorem d_D_read_56 : decode prog_5_method_2_code 56 = .ok (.aload_n 0, 1) := by decide +kernel
theorem d_D_read_57 : decode prog_5_method_2_code 57 = .ok (.getfield 32, 3) := by decide +kernel
theorem d_D_read_60 : decode prog_5_method_2_code 60 = .ok (.bipush 46, 2) := by decide +kernel
theorem d_D_read_62 : decode prog_5_method_2_code 62 = .ok (.if_icmp .eq 20, 3) := by decide +kernel
theorem d_D_read_65 : decode prog_5_method_2_code 65 = .ok (.aload_n 0, 1) := by decide +kernel
theorem d_D_read_66 : decode prog_5_method_2_code 66 = .ok (.getfield 43, 3) := by decide +kernel
theorem d_D_read_69 : decode prog_5_method_2_code 69 = .ok (.ifCond .ne 13, 3) := by decide +kernel
theorem d_D_read_72 : decode prog_5_method_2_code 72 = .ok (.aload_n 0, 1) := by decide +kernel
theorem d_D_read_73 : decode prog_5_method_2_code 73 = .ok (.invokevirtual 49, 3) := by decide +kernel
theorem d_D_read_76 : decode prog_5_method_2_code 76 = .ok (.iinc 3 1, 3) := by decide +kernel
theorem d_D_read_79 : decode prog_5_method_2_code 79 = .ok (.goto (-29), 3) := by decide +kernel
theorem d_D_read_82 : decode prog_5_method_2_code 82 = .ok (.return_, 1) := by decide +kernel
theorem d_G_take_0 : decode prog_9_method_2_code 0 = .ok (.aload_n 0, 1) := by decide +kernel
theorem d_G_take_1 : decode prog_9_method_2_code 1 = .ok (.iload_n 1, 1) := by decide +kernel
theorem d_G_take_2 : decode prog_9_method_2_code 2 = .ok (.sipush 300, 3) := by decide +kernel
theorem d_G_take_5 : decode prog_9_method_2_code 5 = .ok (.invokestatic 24, 3) := by decide +kernel
theorem d_G_take_8 : decode prog_9_method_2_code 8 = .ok (.putfield 30, 3) := by decide +kernel
theorem d_G_take_11 : decode prog_9_method_2_code 11 = .ok (.aload_n 0, 1) := by decide +kernel
theorem d_G_take_12 : decode prog_9_method_2_code 12 = .ok (.iconst 0, 1) := by decide +kernel
theorem d_G_take_13 : decode prog_9_method_2_code 13 = .ok (.putfield 34, 3) := by decide +kernel
theorem d_G_take_16 : decode prog_9_method_2_code 16 = .ok (.iconst 0, 1) := by decide +kernel
theorem d_G_take_17 : decode prog_9_method_2_code 17 = .ok (.istore_n 2, 1) := by decide +kernel
theorem d_G_take_18 : decode prog_9_method_2_code 18 = .ok (.aload_n 0, 1) := by decide +kernel
theorem d_G_take_19 : decode prog_9_method_2_code 19 = .ok (.getfield 34, 3) := by decide +kernel
theorem d_G_take_22 : decode prog_9_method_2_code 22 = .ok (.aload_n 0, 1) := by decide +kernel
theorem d_G_take_23 : decode prog_9_method_2_code 23 = .ok (.getfield 30, 3) := by decide +kernel
theorem d_G_take_26 : decode prog_9_method_2_code 26 = .ok (.if_icmp .ge 100, 3) := by decide +kernel
theorem d_G_take_29 : decode prog_9_method_2_code 29 = .ok (.iload_n 2, 1) := by decide +kernel
theorem d_G_take_30 : decode prog_9_method_2_code 30 = .ok (.sipush 300, 3) := by decide +kernel
theorem d_G_take_33 : decode prog_9_method_2_code 33 = .ok (.if_icmp .ge 93, 3) := by decide +kernel
theorem d_G_take_36 : decode prog_9_method_2_code 36 = .ok (.aload_n 0, 1) := by decide +kernel
theorem d_G_take_37 : decode prog_9_method_2_code 37 = .ok (.getfield 21, 3) := by decide +kernel
theorem d_G_take_40 : decode prog_9_method_2_code 40 = .ok (.aload_n 0, 1) := by decide +kernel
theorem d_G_take_41 : decode prog_9_method_2_code 41 = .ok (.getfield 34, 3) := by decide +kernel
theorem d_G_take_44 : decode prog_9_method_2_code 44 = .ok (.iaload, 1) := by decide +kernel
theorem d_G_take_45 : decode prog_9_method_2_code 45 = .ok (.istore_n 3, 1) := by decide +kernel
theorem d_G_take_46 : decode prog_9_method_2_code 46 = .ok (.iload_n 3, 1) := by decide +kernel
theorem d_G_take_47 : decode prog_9_method_2_code 47 = .ok (.bipush 32, 2) := by decide +kernel
theorem d_G_take_49 : decode prog_9_method_2_code 49 = .ok (.if_icmp .eq 9, 3) := by decide +kernel
theorem d_G_take_52 : decode prog_9_method_2_code 52 = .ok (.iload_n 3, 1) := by decide +kernel
theorem d_G_take_53 : decode prog_9_method_2_code 53 = .ok (.bipush 10, 2) := by decide +kernel
theorem d_G_take_55 : decode prog_9_method_2_code 55 = .ok (.if_icmp .ne 16, 3) := by decide +kernel
theorem d_G_take_58 : decode prog_9_method_2_code 58 = .ok (.aload_n 0, 1) := by decide +kernel
theorem d_G_take_59 : decode prog_9_method_2_code 59 = .ok (.dup, 1) := by decide +kernel
theorem d_G_take_60 : decode prog_9_method_2_code 60 = .ok (.getfield 34, 3) := by decide +kernel
theorem d_G_take_63 : decode prog_9_method_2_code 63 = .ok (.iconst 1, 1) := by decide +kernel
theorem d_G_take_64 : decode prog_9_method_2_code 64 = .ok (.iadd, 1) := by decide +kernel
theorem d_G_take_65 : decode prog_9_method_2_code 65 = .ok (.putfield 34, 3) := by decide +kernel
theorem d_G_take_68 : decode prog_9_method_2_code 68 = .ok (.goto 55, 3) := by decide +kernel
theorem d_G_take_71 : decode prog_9_method_2_code 71 = .ok (.aload_n 0, 1) := by decide +kernel
theorem d_G_take_72 : decode prog_9_method_2_code 72 = .ok (.getfield 15, 3) := by decide +kernel
theorem d_G_take_75 : decode prog_9_method_2_code 75 = .ok (.iload_n 2, 1) := by decide +kernel
theorem d_G_take_76 : decode prog_9_method_2_code 76 = .ok (.aload_n 0, 1) := by decide +kernel
theorem d_G_take_77 : decode prog_9_method_2_code 77 = .ok (.getfield 34, 3) := by decide +kernel
theorem d_G_take_80 : decode prog_9_method_2_code 80 = .ok (.iastore, 1) := by decide +kernel
theorem d_G_take_81 : decode prog_9_method_2_code 81 = .ok (.aload_n 0, 1) := by decide +kernel
theorem d_G_take_82 : decode prog_9_method_2_code 82 = .ok (.getfield 9, 3) := by decide +kernel
theorem d_G_take_85 : decode prog_9_method_2_code 85 = .ok (.iload_n 2, 1) := by decide +kernel
theorem d_G_take_86 : decode prog_9_method_2_code 86 = .ok (.iload_n 3, 1) := by decide +kernel
theorem d_G_take_87 : decode prog_9_method_2_code 87 = .ok (.invokestatic 37, 3) := by decide +kernel
theorem d_G_take_90 : decode prog_9_method_2_code 90 = .ok (.ifCond .eq 10, 3) := by decide +kernel
theorem d_G_take_93 : decode prog_9_method_2_code 93 = .ok (.aload_n 0, 1) := by decide +kernel
theorem d_G_take_94 : decode prog_9_method_2_code 94 = .ok (.invokevirtual 41, 3) := by decide +kernel
theorem d_G_take_97 : decode prog_9_method_2_code 97 = .ok (.goto 22, 3) := by decide +kernel
theorem d_G_take_100 : decode prog_9_method_2_code 100 = .ok (.iload_n 3, 1) := by decide +kernel
theorem d_G_take_101 : decode prog_9_method_2_code 101 = .ok (.invokestatic 45, 3) := by decide +kernel
theorem d_G_take_104 : decode prog_9_method_2_code 104 = .ok (.ifCond .eq 11, 3) := by decide +kernel
theorem d_G_take_107 : decode prog_9_method_2_code 107 = .ok (.aload_n 0, 1) := by decide +kernel
theorem d_G_take_108 : decode prog_9_method_2_code 108 = .ok (.iload_n 2, 1) := by decide +kernel
theorem d_G_take_109 : decode prog_9_method_2_code 109 = .ok (.invokevirtual 48, 3) := by decide +kernel
theorem d_G_take_112 : decode prog_9_method_2_code 112 = .ok (.goto 7, 3) := by decide +kernel
theorem d_G_take_115 : decode prog_9_method_2_code 115 = .ok (.aload_n 0, 1) := by decide +kernel
theorem d_G_take_116 : decode prog_9_method_2_code 116 = .ok (.invokevirtual 52, 3) := by decide +kernel
theorem d_G_take_119 : decode prog_9_method_2_code 119 = .ok (.iastore, 1) := by decide +kernel
theorem d_G_take_120 : decode prog_9_method_2_code 120 = .ok (.iinc 2 1, 3) := by decide +kernel
theorem d_G_take_123 : decode prog_9_method_2_code 123 = .ok (.goto (-105), 3) := by decide +kernel
theorem d_G_take_126 : decode prog_9_method_2_code 126 = .ok (.aload_n 0, 1) := by decide +kernel
theorem d_G_take_127 : decode prog_9_method_2_code 127 = .ok (.getfield 15, 3) := by decide +kernel
theorem d_G_take_130 : decode prog_9_method_2_code 130 = .ok (.iload_n 2, 1) := by decide +kernel
theorem d_G_take_131 : decode prog_9_method_2_code 131 = .ok (.aload_n 0, 1) := by decide +kernel
theorem d_G_take_132 : decode prog_9_method_2_code 132 = .ok (.getfield 30, 3) := by decide +kernel
theorem d_G_take_135 : decode prog_9_method_2_code 135 = .ok (.iastore, 1) := by decide +kernel
theorem d_G_take_136 : decode prog_9_method_2_code 136 = .ok (.aload_n 0, 1) := by decide +kernel
theorem d_G_take_137 : decode prog_9_method_2_code 137 = .ok (.getfield 9, 3) := by decide +kernel
theorem d_G_take_140 : decode prog_9_method_2_code 140 = .ok (.iload_n 2, 1) := by decide +kernel
theorem d_G_take_141 : decode prog_9_method_2_code 141 = .ok (.bipush 46, 2) := by decide +kernel
theorem d_G_take_143 : decode prog_9_method_2_code 143 = .ok (.iastore, 1) := by decide +kernel
theorem d_G_take_144 : decode prog_9_method_2_code 144 = .ok (.return_, 1) := by decide +kernel
theorem d_JM_min_III_0 : decode prog_14_method_69_code 0 = .ok (.iload_n 0, 1) := by decide +kernel
theorem d_JM_min_III_1 : decode prog_14_method_69_code 1 = .ok (.iload_n 1, 1) := by decide +kernel
theorem d_JM_min_III_2 : decode prog_14_method_69_code 2 = .ok (.if_icmp .gt 7, 3) := by decide +kernel
theorem d_JM_min_III_5 : decode prog_14_method_69_code 5 = .ok (.iload_n 0, 1) := by decide +kernel
theorem d_JM_min_III_6 : decode prog_14_method_69_code 6 = .ok (.goto 4, 3) := by decide +kernel
theorem d_JM_min_III_9 : decode prog_14_method_69_code 9 = .ok (.iload_n 1, 1) := by decide +kernel
theorem d_JM_min_III_10 : decode prog_14_method_69_code 10 = .ok (.ireturn, 1) := by decide +kernel
theorem d_G_isLetter_0 : decode prog_9_method_3_code 0 = .ok (.iload_n 0, 1) := by decide +kernel
theorem d_G_isLetter_1 : decode prog_9_method_3_code 1 = .ok (.bipush 97, 2) := by decide +kernel
theorem d_G_isLetter_3 : decode prog_9_method_3_code 3 = .ok (.if_icmp .lt 9, 3) := by decide +kernel
theorem d_G_isLetter_6 : decode prog_9_method_3_code 6 = .ok (.iload_n 0, 1) := by decide +kernel
theorem d_G_isLetter_7 : decode prog_9_method_3_code 7 = .ok (.bipush 122, 2) := by decide +kernel
theorem d_G_isLetter_9 : decode prog_9_method_3_code 9 = .ok (.if_icmp .le 15, 3) := by decide +kernel
theorem d_G_isLetter_12 : decode prog_9_method_3_code 12 = .ok (.iload_n 0, 1) := by decide +kernel
theorem d_G_isLetter_13 : decode prog_9_method_3_code 13 = .ok (.bipush 65, 2) := by decide +kernel
theorem d_G_isLetter_15 : decode prog_9_method_3_code 15 = .ok (.if_icmp .lt 13, 3) := by decide +kernel
theorem d_G_isLetter_18 : decode prog_9_method_3_code 18 = .ok (.iload_n 0, 1) := by decide +kernel
theorem d_G_isLetter_19 : decode prog_9_method_3_code 19 = .ok (.bipush 90, 2) := by decide +kernel
theorem d_G_isLetter_21 : decode prog_9_method_3_code 21 = .ok (.if_icmp .gt 7, 3) := by decide +kernel
theorem d_G_isLetter_24 : decode prog_9_method_3_code 24 = .ok (.iconst 1, 1) := by decide +kernel
theorem d_G_isLetter_25 : decode prog_9_method_3_code 25 = .ok (.goto 4, 3) := by decide +kernel
theorem d_G_isLetter_28 : decode prog_9_method_3_code 28 = .ok (.iconst 0, 1) := by decide +kernel
theorem d_G_isLetter_29 : decode prog_9_method_3_code 29 = .ok (.ireturn, 1) := by decide +kernel
theorem d_G_takeWord_0 : decode prog_9_method_5_code 0 = .ok (.aload_n 0, 1) := by decide +kernel
theorem d_G_takeWord_1 : decode prog_9_method_5_code 1 = .ok (.getfield 34, 3) := by decide +kernel
theorem d_G_takeWord_4 : decode prog_9_method_5_code 4 = .ok (.istore_n 1, 1) := by decide +kernel
theorem d_G_takeWord_5 : decode prog_9_method_5_code 5 = .ok (.aload_n 0, 1) := by decide +kernel
theorem d_G_takeWord_6 : decode prog_9_method_5_code 6 = .ok (.getfield 34, 3) := by decide +kernel
theorem d_G_takeWord_9 : decode prog_9_method_5_code 9 = .ok (.aload_n 0, 1) := by decide +kernel
theorem d_G_takeWord_10 : decode prog_9_method_5_code 10 = .ok (.getfield 30, 3) := by decide +kernel
theorem d_G_takeWord_13 : decode prog_9_method_5_code 13 = .ok (.if_icmp .ge 31, 3) := by decide +kernel
theorem d_G_takeWord_16 : decode prog_9_method_5_code 16 = .ok (.aload_n 0, 1) := by decide +kernel
theorem d_G_takeWord_17 : decode prog_9_method_5_code 17 = .ok (.getfield 21, 3) := by decide +kernel
theorem d_G_takeWord_20 : decode prog_9_method_5_code 20 = .ok (.aload_n 0, 1) := by decide +kernel
theorem d_G_takeWord_21 : decode prog_9_method_5_code 21 = .ok (.getfield 34, 3) := by decide +kernel
theorem d_G_takeWord_24 : decode prog_9_method_5_code 24 = .ok (.iaload, 1) := by decide +kernel
theorem d_G_takeWord_25 : decode prog_9_method_5_code 25 = .ok (.invokestatic 37, 3) := by decide +kernel
theorem d_G_takeWord_28 : decode prog_9_method_5_code 28 = .ok (.ifCond .eq 16, 3) := by decide +kernel
theorem d_G_takeWord_31 : decode prog_9_method_5_code 31 = .ok (.aload_n 0, 1) := by decide +kernel
theorem d_G_takeWord_32 : decode prog_9_method_5_code 32 = .ok (.dup, 1) := by decide +kernel
theorem d_G_takeWord_33 : decode prog_9_method_5_code 33 = .ok (.getfield 34, 3) := by decide +kernel
theorem d_G_takeWord_36 : decode prog_9_method_5_code 36 = .ok (.iconst 1, 1) := by decide +kernel
theorem d_G_takeWord_37 : decode prog_9_method_5_code 37 = .ok (.iadd, 1) := by decide +kernel
theorem d_G_takeWord_38 : decode prog_9_method_5_code 38 = .ok (.putfield 34, 3) := by decide +kernel
theorem d_G_takeWord_41 : decode prog_9_method_5_code 41 = .ok (.goto (-36), 3) := by decide +kernel
theorem d_G_takeWord_44 : decode prog_9_method_5_code 44 = .ok (.iconst 0, 1) := by decide +kernel
theorem d_G_takeWord_45 : decode prog_9_method_5_code 45 = .ok (.istore_n 2, 1) := by decide +kernel
theorem d_G_takeWord_46 : decode prog_9_method_5_code 46 = .ok (.iload_n 1, 1) := by decide +kernel
theorem d_G_takeWord_47 : decode prog_9_method_5_code 47 = .ok (.istore_n 3, 1) := by decide +kernel
theorem d_G_takeWord_48 : decode prog_9_method_5_code 48 = .ok (.iconst 0, 1) := by decide +kernel
theorem d_G_takeWord_49 : decode prog_9_method_5_code 49 = .ok (.istore 4, 2) := by decide +kernel
theorem d_G_takeWord_51 : decode prog_9_method_5_code 51 = .ok (.iload 4, 2) := by decide +kernel
theorem d_G_takeWord_53 : decode prog_9_method_5_code 53 = .ok (.ldc 55, 2) := by decide +kernel
theorem d_G_takeWord_55 : decode prog_9_method_5_code 55 = .ok (.invokevirtual 57, 3) := by decide +kernel
theorem d_G_takeWord_58 : decode prog_9_method_5_code 58 = .ok (.if_icmp .ge 75, 3) := by decide +kernel
theorem d_G_takeWord_61 : decode prog_9_method_5_code 61 = .ok (.ldc 55, 2) := by decide +kernel
theorem d_G_takeWord_63 : decode prog_9_method_5_code 63 = .ok (.iload 4, 2) := by decide +kernel
theorem d_G_takeWord_65 : decode prog_9_method_5_code 65 = .ok (.invokevirtual 61, 3) := by decide +kernel
theorem d_G_takeWord_68 : decode prog_9_method_5_code 68 = .ok (.istore 5, 2) := by decide +kernel
theorem d_G_takeWord_70 : decode prog_9_method_5_code 70 = .ok (.iload 5, 2) := by decide +kernel
theorem d_G_takeWord_72 : decode prog_9_method_5_code 72 = .ok (.bipush 32, 2) := by decide +kernel
theorem d_G_takeWord_74 : decode prog_9_method_5_code 74 = .ok (.if_icmp .eq 38, 3) := by decide +kernel
theorem d_G_takeWord_77 : decode prog_9_method_5_code 77 = .ok (.iload_n 3, 1) := by decide +kernel
theorem d_G_takeWord_78 : decode prog_9_method_5_code 78 = .ok (.iload_n 1, 1) := by decide +kernel
theorem d_G_takeWord_79 : decode prog_9_method_5_code 79 = .ok (.if_icmp .lt 28, 3) := by decide +kernel
theorem d_G_takeWord_82 : decode prog_9_method_5_code 82 = .ok (.iload_n 3, 1) := by decide +kernel
theorem d_G_takeWord_83 : decode prog_9_method_5_code 83 = .ok (.aload_n 0, 1) := by decide +kernel
theorem d_G_takeWord_84 : decode prog_9_method_5_code 84 = .ok (.getfield 34, 3) := by decide +kernel
theorem d_G_takeWord_87 : decode prog_9_method_5_code 87 = .ok (.if_icmp .ge 20, 3) := by decide +kernel
theorem d_G_takeWord_90 : decode prog_9_method_5_code 90 = .ok (.aload_n 0, 1) := by decide +kernel
theorem d_G_takeWord_91 : decode prog_9_method_5_code 91 = .ok (.getfield 21, 3) := by decide +kernel
theorem d_G_takeWord_94 : decode prog_9_method_5_code 94 = .ok (.iload_n 3, 1) := by decide +kernel
theorem d_G_takeWord_95 : decode prog_9_method_5_code 95 = .ok (.iaload, 1) := by decide +kernel
theorem d_G_takeWord_96 : decode prog_9_method_5_code 96 = .ok (.iload 5, 2) := by decide +kernel
theorem d_G_takeWord_98 : decode prog_9_method_5_code 98 = .ok (.if_icmp .ne 9, 3) := by decide +kernel
theorem d_G_takeWord_101 : decode prog_9_method_5_code 101 = .ok (.iload_n 3, 1) := by decide +kernel
theorem d_G_takeWord_102 : decode prog_9_method_5_code 102 = .ok (.iconst 1, 1) := by decide +kernel
theorem d_G_takeWord_103 : decode prog_9_method_5_code 103 = .ok (.iadd, 1) := by decide +kernel
theorem d_G_takeWord_104 : decode prog_9_method_5_code 104 = .ok (.goto 4, 3) := by decide +kernel
theorem d_G_takeWord_107 : decode prog_9_method_5_code 107 = .ok (.iconst (-1), 1) := by decide +kernel
theorem d_G_takeWord_108 : decode prog_9_method_5_code 108 = .ok (.istore_n 3, 1) := by decide +kernel
theorem d_G_takeWord_109 : decode prog_9_method_5_code 109 = .ok (.goto 18, 3) := by decide +kernel
theorem d_G_takeWord_112 : decode prog_9_method_5_code 112 = .ok (.iload_n 3, 1) := by decide +kernel
theorem d_G_takeWord_113 : decode prog_9_method_5_code 113 = .ok (.aload_n 0, 1) := by decide +kernel
theorem d_G_takeWord_114 : decode prog_9_method_5_code 114 = .ok (.getfield 34, 3) := by decide +kernel
theorem d_G_takeWord_117 : decode prog_9_method_5_code 117 = .ok (.if_icmp .ne 5, 3) := by decide +kernel
theorem d_G_takeWord_120 : decode prog_9_method_5_code 120 = .ok (.iload_n 2, 1) := by decide +kernel
theorem d_G_takeWord_121 : decode prog_9_method_5_code 121 = .ok (.ireturn, 1) := by decide +kernel
theorem d_G_takeWord_122 : decode prog_9_method_5_code 122 = .ok (.iinc 2 1, 3) := by decide +kernel
theorem d_G_takeWord_125 : decode prog_9_method_5_code 125 = .ok (.iload_n 1, 1) := by decide +kernel
theorem d_G_takeWord_126 : decode prog_9_method_5_code 126 = .ok (.istore_n 3, 1) := by decide +kernel
theorem d_G_takeWord_127 : decode prog_9_method_5_code 127 = .ok (.iinc 4 1, 3) := by decide +kernel
theorem d_G_takeWord_130 : decode prog_9_method_5_code 130 = .ok (.goto (-79), 3) := by decide +kernel
theorem d_G_takeWord_133 : decode prog_9_method_5_code 133 = .ok (.bipush 47, 2) := by decide +kernel
theorem d_G_takeWord_135 : decode prog_9_method_5_code 135 = .ok (.ireturn, 1) := by decide +kernel
theorem d_JS_length_0 : decode prog_15_method_54_code 0 = .ok (.aload_n 0, 1) := by decide +kernel
theorem d_JS_length_1 : decode prog_15_method_54_code 1 = .ok (.getfield 9, 3) := by decide +kernel
theorem d_JS_length_4 : decode prog_15_method_54_code 4 = .ok (.arraylength, 1) := by decide +kernel
theorem d_JS_length_5 : decode prog_15_method_54_code 5 = .ok (.aload_n 0, 1) := by decide +kernel
theorem d_JS_length_6 : decode prog_15_method_54_code 6 = .ok (.invokevirtual 335, 3) := by decide +kernel
theorem d_JS_length_9 : decode prog_15_method_54_code 9 = .ok (.ishr, 1) := by decide +kernel
theorem d_JS_length_10 : decode prog_15_method_54_code 10 = .ok (.ireturn, 1) := by decide +kernel
theorem d_JS_coder_0 : decode prog_15_method_152_code 0 = .ok (.getstatic 38, 3) := by decide +kernel
theorem d_JS_coder_3 : decode prog_15_method_152_code 3 = .ok (.ifCond .eq 10, 3) := by decide +kernel
theorem d_JS_coder_6 : decode prog_15_method_152_code 6 = .ok (.aload_n 0, 1) := by decide +kernel
theorem d_JS_coder_7 : decode prog_15_method_152_code 7 = .ok (.getfield 15, 3) := by decide +kernel
theorem d_JS_coder_10 : decode prog_15_method_152_code 10 = .ok (.goto 4, 3) := by decide +kernel
theorem d_JS_coder_13 : decode prog_15_method_152_code 13 = .ok (.iconst 1, 1) := by decide +kernel
theorem d_JS_coder_14 : decode prog_15_method_152_code 14 = .ok (.ireturn, 1) := by decide +kernel
theorem d_JS_charAt_0 : decode prog_15_method_56_code 0 = .ok (.aload_n 0, 1) := by decide +kernel
theorem d_JS_charAt_1 : decode prog_15_method_56_code 1 = .ok (.invokevirtual 492, 3) := by decide +kernel
theorem d_JS_charAt_4 : decode prog_15_method_56_code 4 = .ok (.ifCond .eq 12, 3) := by decide +kernel
theorem d_JS_charAt_7 : decode prog_15_method_56_code 7 = .ok (.aload_n 0, 1) := by decide +kernel
theorem d_JS_charAt_8 : decode prog_15_method_56_code 8 = .ok (.getfield 9, 3) := by decide +kernel
theorem d_JS_charAt_11 : decode prog_15_method_56_code 11 = .ok (.iload_n 1, 1) := by decide +kernel
theorem d_JS_charAt_12 : decode prog_15_method_56_code 12 = .ok (.invokestatic 495, 3) := by decide +kernel
theorem d_JS_charAt_15 : decode prog_15_method_56_code 15 = .ok (.ireturn, 1) := by decide +kernel
theorem d_JS_charAt_16 : decode prog_15_method_56_code 16 = .ok (.aload_n 0, 1) := by decide +kernel
theorem d_JS_charAt_17 : decode prog_15_method_56_code 17 = .ok (.getfield 9, 3) := by decide +kernel
theorem d_JS_charAt_20 : decode prog_15_method_56_code 20 = .ok (.iload_n 1, 1) := by decide +kernel
theorem d_JS_charAt_21 : decode prog_15_method_56_code 21 = .ok (.invokestatic 498, 3) := by decide +kernel
theorem d_JS_charAt_24 : decode prog_15_method_56_code 24 = .ok (.ireturn, 1) := by decide +kernel
theorem d_JS_isLatin1_0 : decode prog_15_method_154_code 0 = .ok (.getstatic 38, 3) := by decide +kernel
theorem d_JS_isLatin1_3 : decode prog_15_method_154_code 3 = .ok (.ifCond .eq 14, 3) := by decide +kernel
theorem d_JS_isLatin1_6 : decode prog_15_method_154_code 6 = .ok (.aload_n 0, 1) := by decide +kernel
theorem d_JS_isLatin1_7 : decode prog_15_method_154_code 7 = .ok (.getfield 15, 3) := by decide +kernel
theorem d_JS_isLatin1_10 : decode prog_15_method_154_code 10 = .ok (.ifCond .ne 7, 3) := by decide +kernel
theorem d_JS_isLatin1_13 : decode prog_15_method_154_code 13 = .ok (.iconst 1, 1) := by decide +kernel
theorem d_JS_isLatin1_14 : decode prog_15_method_154_code 14 = .ok (.goto 4, 3) := by decide +kernel
theorem d_JS_isLatin1_17 : decode prog_15_method_154_code 17 = .ok (.iconst 0, 1) := by decide +kernel
theorem d_JS_isLatin1_18 : decode prog_15_method_154_code 18 = .ok (.ireturn, 1) := by decide +kernel
theorem d_JL_charAt_0 : decode prog_16_method_2_code 0 = .ok (.iload_n 1, 1) := by decide +kernel
theorem d_JL_charAt_1 : decode prog_16_method_2_code 1 = .ok (.aload_n 0, 1) := by decide +kernel
theorem d_JL_charAt_2 : decode prog_16_method_2_code 2 = .ok (.arraylength, 1) := by decide +kernel
theorem d_JL_charAt_3 : decode prog_16_method_2_code 3 = .ok (.invokestatic 9, 3) := by decide +kernel
theorem d_JL_charAt_6 : decode prog_16_method_2_code 6 = .ok (.aload_n 0, 1) := by decide +kernel
theorem d_JL_charAt_7 : decode prog_16_method_2_code 7 = .ok (.iload_n 1, 1) := by decide +kernel
theorem d_JL_charAt_8 : decode prog_16_method_2_code 8 = .ok (.baload, 1) := by decide +kernel
theorem d_JL_charAt_9 : decode prog_16_method_2_code 9 = .ok (.sipush 255, 3) := by decide +kernel
theorem d_JL_charAt_12 : decode prog_16_method_2_code 12 = .ok (.iand, 1) := by decide +kernel
theorem d_JL_charAt_13 : decode prog_16_method_2_code 13 = .ok (.i2c, 1) := by decide +kernel
theorem d_JL_charAt_14 : decode prog_16_method_2_code 14 = .ok (.ireturn, 1) := by decide +kernel
theorem d_JS_checkIndex_0 : decode prog_15_method_155_code 0 = .ok (.iload_n 0, 1) := by decide +kernel
theorem d_JS_checkIndex_1 : decode prog_15_method_155_code 1 = .ok (.iload_n 1, 1) := by decide +kernel
theorem d_JS_checkIndex_2 : decode prog_15_method_155_code 2 = .ok (.getstatic 1053, 3) := by decide +kernel
theorem d_JS_checkIndex_5 : decode prog_15_method_155_code 5 = .ok (.invokestatic 1059, 3) := by decide +kernel
theorem d_JS_checkIndex_8 : decode prog_15_method_155_code 8 = .ok (.pop, 1) := by decide +kernel
theorem d_JS_checkIndex_9 : decode prog_15_method_155_code 9 = .ok (.return_, 1) := by decide +kernel
theorem d_JP_checkIndex_0 : decode prog_19_method_11_code 0 = .ok (.iload_n 0, 1) := by decide +kernel
theorem d_JP_checkIndex_1 : decode prog_19_method_11_code 1 = .ok (.ifCond .lt 8, 3) := by decide +kernel
theorem d_JP_checkIndex_4 : decode prog_19_method_11_code 4 = .ok (.iload_n 0, 1) := by decide +kernel
theorem d_JP_checkIndex_5 : decode prog_19_method_11_code 5 = .ok (.iload_n 1, 1) := by decide +kernel
theorem d_JP_checkIndex_6 : decode prog_19_method_11_code 6 = .ok (.if_icmp .lt 10, 3) := by decide +kernel
theorem d_JP_checkIndex_9 : decode prog_19_method_11_code 9 = .ok (.aload_n 2, 1) := by decide +kernel
theorem d_JP_checkIndex_10 : decode prog_19_method_11_code 10 = .ok (.iload_n 0, 1) := by decide +kernel
theorem d_JP_checkIndex_11 : decode prog_19_method_11_code 11 = .ok (.iload_n 1, 1) := by decide +kernel
theorem d_JP_checkIndex_12 : decode prog_19_method_11_code 12 = .ok (.invokestatic 95, 3) := by decide +kernel
theorem d_JP_checkIndex_15 : decode prog_19_method_11_code 15 = .ok (.athrow, 1) := by decide +kernel
theorem d_JP_checkIndex_16 : decode prog_19_method_11_code 16 = .ok (.iload_n 0, 1) := by decide +kernel
theorem d_JP_checkIndex_17 : decode prog_19_method_11_code 17 = .ok (.ireturn, 1) := by decide +kernel
theorem d_G_isDigit_0 : decode prog_9_method_4_code 0 = .ok (.iload_n 0, 1) := by decide +kernel
theorem d_G_isDigit_1 : decode prog_9_method_4_code 1 = .ok (.bipush 48, 2) := by decide +kernel
theorem d_G_isDigit_3 : decode prog_9_method_4_code 3 = .ok (.if_icmp .lt 13, 3) := by decide +kernel
theorem d_G_isDigit_6 : decode prog_9_method_4_code 6 = .ok (.iload_n 0, 1) := by decide +kernel
theorem d_G_isDigit_7 : decode prog_9_method_4_code 7 = .ok (.bipush 57, 2) := by decide +kernel
theorem d_G_isDigit_9 : decode prog_9_method_4_code 9 = .ok (.if_icmp .gt 7, 3) := by decide +kernel
theorem d_G_isDigit_12 : decode prog_9_method_4_code 12 = .ok (.iconst 1, 1) := by decide +kernel
theorem d_G_isDigit_13 : decode prog_9_method_4_code 13 = .ok (.goto 4, 3) := by decide +kernel
theorem d_G_isDigit_16 : decode prog_9_method_4_code 16 = .ok (.iconst 0, 1) := by decide +kernel
theorem d_G_isDigit_17 : decode prog_9_method_4_code 17 = .ok (.ireturn, 1) := by decide +kernel
theorem d_G_takeDigits_0 : decode prog_9_method_6_code 0 = .ok (.iconst 0, 1) := by decide +kernel
theorem d_G_takeDigits_1 : decode prog_9_method_6_code 1 = .ok (.istore_n 2, 1) := by decide +kernel
theorem d_G_takeDigits_2 : decode prog_9_method_6_code 2 = .ok (.aload_n 0, 1) := by decide +kernel
theorem d_G_takeDigits_3 : decode prog_9_method_6_code 3 = .ok (.getfield 34, 3) := by decide +kernel
theorem d_G_takeDigits_6 : decode prog_9_method_6_code 6 = .ok (.aload_n 0, 1) := by decide +kernel
theorem d_G_takeDigits_7 : decode prog_9_method_6_code 7 = .ok (.getfield 30, 3) := by decide +kernel
theorem d_G_takeDigits_10 : decode prog_9_method_6_code 10 = .ok (.if_icmp .ge 55, 3) := by decide +kernel
theorem d_G_takeDigits_13 : decode prog_9_method_6_code 13 = .ok (.aload_n 0, 1) := by decide +kernel
theorem d_G_takeDigits_14 : decode prog_9_method_6_code 14 = .ok (.getfield 21, 3) := by decide +kernel
theorem d_G_takeDigits_17 : decode prog_9_method_6_code 17 = .ok (.aload_n 0, 1) := by decide +kernel
theorem d_G_takeDigits_18 : decode prog_9_method_6_code 18 = .ok (.getfield 34, 3) := by decide +kernel
theorem d_G_takeDigits_21 : decode prog_9_method_6_code 21 = .ok (.iaload, 1) := by decide +kernel
theorem d_G_takeDigits_22 : decode prog_9_method_6_code 22 = .ok (.invokestatic 45, 3) := by decide +kernel
theorem d_G_takeDigits_25 : decode prog_9_method_6_code 25 = .ok (.ifCond .eq 40, 3) := by decide +kernel
theorem d_G_takeDigits_28 : decode prog_9_method_6_code 28 = .ok (.sipush 10000, 3) := by decide +kernel
theorem d_G_takeDigits_31 : decode prog_9_method_6_code 31 = .ok (.iload_n 2, 1) := by decide +kernel
theorem d_G_takeDigits_32 : decode prog_9_method_6_code 32 = .ok (.bipush 10, 2) := by decide +kernel
theorem d_G_takeDigits_34 : decode prog_9_method_6_code 34 = .ok (.imul, 1) := by decide +kernel
theorem d_G_takeDigits_35 : decode prog_9_method_6_code 35 = .ok (.aload_n 0, 1) := by decide +kernel
theorem d_G_takeDigits_36 : decode prog_9_method_6_code 36 = .ok (.getfield 21, 3) := by decide +kernel
theorem d_G_takeDigits_39 : decode prog_9_method_6_code 39 = .ok (.aload_n 0, 1) := by decide +kernel
theorem d_G_takeDigits_40 : decode prog_9_method_6_code 40 = .ok (.getfield 34, 3) := by decide +kernel
theorem d_G_takeDigits_43 : decode prog_9_method_6_code 43 = .ok (.iaload, 1) := by decide +kernel
theorem d_G_takeDigits_44 : decode prog_9_method_6_code 44 = .ok (.iadd, 1) := by decide +kernel
theorem d_G_takeDigits_45 : decode prog_9_method_6_code 45 = .ok (.bipush 48, 2) := by decide +kernel
theorem d_G_takeDigits_47 : decode prog_9_method_6_code 47 = .ok (.isub, 1) := by decide +kernel
theorem d_G_takeDigits_48 : decode prog_9_method_6_code 48 = .ok (.invokestatic 24, 3) := by decide +kernel
theorem d_G_takeDigits_51 : decode prog_9_method_6_code 51 = .ok (.istore_n 2, 1) := by decide +kernel
theorem d_G_takeDigits_52 : decode prog_9_method_6_code 52 = .ok (.aload_n 0, 1) := by decide +kernel
theorem d_G_takeDigits_53 : decode prog_9_method_6_code 53 = .ok (.dup, 1) := by decide +kernel
theorem d_G_takeDigits_54 : decode prog_9_method_6_code 54 = .ok (.getfield 34, 3) := by decide +kernel
theorem d_G_takeDigits_57 : decode prog_9_method_6_code 57 = .ok (.iconst 1, 1) := by decide +kernel
theorem d_G_takeDigits_58 : decode prog_9_method_6_code 58 = .ok (.iadd, 1) := by decide +kernel
theorem d_G_takeDigits_59 : decode prog_9_method_6_code 59 = .ok (.putfield 34, 3) := by decide +kernel
theorem d_G_takeDigits_62 : decode prog_9_method_6_code 62 = .ok (.goto (-60), 3) := by decide +kernel
theorem d_G_takeDigits_65 : decode prog_9_method_6_code 65 = .ok (.aload_n 0, 1) := by decide +kernel
theorem d_G_takeDigits_66 : decode prog_9_method_6_code 66 = .ok (.getfield 18, 3) := by decide +kernel
theorem d_G_takeDigits_69 : decode prog_9_method_6_code 69 = .ok (.iload_n 1, 1) := by decide +kernel
theorem d_G_takeDigits_70 : decode prog_9_method_6_code 70 = .ok (.iload_n 2, 1) := by decide +kernel
theorem d_G_takeDigits_71 : decode prog_9_method_6_code 71 = .ok (.iastore, 1) := by decide +kernel
theorem d_G_takeDigits_72 : decode prog_9_method_6_code 72 = .ok (.bipush 45, 2) := by decide +kernel
theorem d_G_takeDigits_74 : decode prog_9_method_6_code 74 = .ok (.ireturn, 1) := by decide +kernel
theorem d_G_takeSign_0 : decode prog_9_method_7_code 0 = .ok (.aload_n 0, 1) := by decide +kernel
theorem d_G_takeSign_1 : decode prog_9_method_7_code 1 = .ok (.getfield 21, 3) := by decide +kernel
theorem d_G_takeSign_4 : decode prog_9_method_7_code 4 = .ok (.aload_n 0, 1) := by decide +kernel
theorem d_G_takeSign_5 : decode prog_9_method_7_code 5 = .ok (.getfield 34, 3) := by decide +kernel
theorem d_G_takeSign_8 : decode prog_9_method_7_code 8 = .ok (.iaload, 1) := by decide +kernel
theorem d_G_takeSign_9 : decode prog_9_method_7_code 9 = .ok (.istore_n 1, 1) := by decide +kernel
theorem d_G_takeSign_10 : decode prog_9_method_7_code 10 = .ok (.aload_n 0, 1) := by decide +kernel
theorem d_G_takeSign_11 : decode prog_9_method_7_code 11 = .ok (.dup, 1) := by decide +kernel
theorem d_G_takeSign_12 : decode prog_9_method_7_code 12 = .ok (.getfield 34, 3) := by decide +kernel
theorem d_G_takeSign_15 : decode prog_9_method_7_code 15 = .ok (.iconst 1, 1) := by decide +kernel
theorem d_G_takeSign_16 : decode prog_9_method_7_code 16 = .ok (.iadd, 1) := by decide +kernel
theorem d_G_takeSign_17 : decode prog_9_method_7_code 17 = .ok (.putfield 34, 3) := by decide +kernel
theorem d_G_takeSign_20 : decode prog_9_method_7_code 20 = .ok (.iload_n 1, 1) := by decide +kernel
theorem d_G_takeSign_21 : decode prog_9_method_7_code 21 = .ok (.bipush 60, 2) := by decide +kernel
theorem d_G_takeSign_23 : decode prog_9_method_7_code 23 = .ok (.if_icmp .eq 9, 3) := by decide +kernel
theorem d_G_takeSign_26 : decode prog_9_method_7_code 26 = .ok (.iload_n 1, 1) := by decide +kernel
theorem d_G_takeSign_27 : decode prog_9_method_7_code 27 = .ok (.bipush 62, 2) := by decide +kernel
theorem d_G_takeSign_29 : decode prog_9_method_7_code 29 = .ok (.if_icmp .ne 52, 3) := by decide +kernel
theorem d_G_takeSign_32 : decode prog_9_method_7_code 32 = .ok (.aload_n 0, 1) := by decide +kernel
theorem d_G_takeSign_33 : decode prog_9_method_7_code 33 = .ok (.getfield 34, 3) := by decide +kernel
theorem d_G_takeSign_36 : decode prog_9_method_7_code 36 = .ok (.aload_n 0, 1) := by decide +kernel
theorem d_G_takeSign_37 : decode prog_9_method_7_code 37 = .ok (.getfield 30, 3) := by decide +kernel
theorem d_G_takeSign_40 : decode prog_9_method_7_code 40 = .ok (.if_icmp .ge 41, 3) := by decide +kernel
theorem d_G_takeSign_43 : decode prog_9_method_7_code 43 = .ok (.aload_n 0, 1) := by decide +kernel
theorem d_G_takeSign_44 : decode prog_9_method_7_code 44 = .ok (.getfield 21, 3) := by decide +kernel
theorem d_G_takeSign_47 : decode prog_9_method_7_code 47 = .ok (.aload_n 0, 1) := by decide +kernel
theorem d_G_takeSign_48 : decode prog_9_method_7_code 48 = .ok (.getfield 34, 3) := by decide +kernel
theorem d_G_takeSign_51 : decode prog_9_method_7_code 51 = .ok (.iaload, 1) := by decide +kernel
theorem d_G_takeSign_52 : decode prog_9_method_7_code 52 = .ok (.bipush 61, 2) := by decide +kernel
theorem d_G_takeSign_54 : decode prog_9_method_7_code 54 = .ok (.if_icmp .ne 27, 3) := by decide +kernel
theorem d_G_takeSign_57 : decode prog_9_method_7_code 57 = .ok (.aload_n 0, 1) := by decide +kernel
theorem d_G_takeSign_58 : decode prog_9_method_7_code 58 = .ok (.dup, 1) := by decide +kernel
theorem d_G_takeSign_59 : decode prog_9_method_7_code 59 = .ok (.getfield 34, 3) := by decide +kernel
theorem d_G_takeSign_62 : decode prog_9_method_7_code 62 = .ok (.iconst 1, 1) := by decide +kernel
theorem d_G_takeSign_63 : decode prog_9_method_7_code 63 = .ok (.iadd, 1) := by decide +kernel
theorem d_G_takeSign_64 : decode prog_9_method_7_code 64 = .ok (.putfield 34, 3) := by decide +kernel
theorem d_G_takeSign_67 : decode prog_9_method_7_code 67 = .ok (.iload_n 1, 1) := by decide +kernel
theorem d_G_takeSign_68 : decode prog_9_method_7_code 68 = .ok (.bipush 60, 2) := by decide +kernel
theorem d_G_takeSign_70 : decode prog_9_method_7_code 70 = .ok (.if_icmp .ne 8, 3) := by decide +kernel
theorem d_G_takeSign_73 : decode prog_9_method_7_code 73 = .ok (.bipush 43, 2) := by decide +kernel
theorem d_G_takeSign_75 : decode prog_9_method_7_code 75 = .ok (.goto 5, 3) := by decide +kernel
theorem d_G_takeSign_78 : decode prog_9_method_7_code 78 = .ok (.bipush 44, 2) := by decide +kernel
theorem d_G_takeSign_80 : decode prog_9_method_7_code 80 = .ok (.ireturn, 1) := by decide +kernel
theorem d_G_takeSign_81 : decode prog_9_method_7_code 81 = .ok (.ldc 65, 2) := by decide +kernel
theorem d_G_takeSign_83 : decode prog_9_method_7_code 83 = .ok (.iload_n 1, 1) := by decide +kernel
theorem d_G_takeSign_84 : decode prog_9_method_7_code 84 = .ok (.i2c, 1) := by decide +kernel
theorem d_G_takeSign_85 : decode prog_9_method_7_code 85 = .ok (.invokevirtual 67, 3) := by decide +kernel
theorem d_G_takeSign_88 : decode prog_9_method_7_code 88 = .ok (.istore_n 2, 1) := by decide +kernel
theorem d_G_takeSign_89 : decode prog_9_method_7_code 89 = .ok (.iload_n 2, 1) := by decide +kernel
theorem d_G_takeSign_90 : decode prog_9_method_7_code 90 = .ok (.ifCond .ge 8, 3) := by decide +kernel
theorem d_G_takeSign_93 : decode prog_9_method_7_code 93 = .ok (.bipush 47, 2) := by decide +kernel
theorem d_G_takeSign_95 : decode prog_9_method_7_code 95 = .ok (.goto 7, 3) := by decide +kernel
theorem d_G_takeSign_98 : decode prog_9_method_7_code 98 = .ok (.bipush 32, 2) := by decide +kernel
theorem d_G_takeSign_100 : decode prog_9_method_7_code 100 = .ok (.iload_n 2, 1) := by decide +kernel
theorem d_G_takeSign_101 : decode prog_9_method_7_code 101 = .ok (.iadd, 1) := by decide +kernel
theorem d_G_takeSign_102 : decode prog_9_method_7_code 102 = .ok (.ireturn, 1) := by decide +kernel
theorem d_JS_indexOf_II_0 : decode prog_15_method_79_code 0 = .ok (.aload_n 0, 1) := by decide +kernel
theorem d_JS_indexOf_II_1 : decode prog_15_method_79_code 1 = .ok (.iload_n 1, 1) := by decide +kernel
theorem d_JS_indexOf_II_2 : decode prog_15_method_79_code 2 = .ok (.iconst 0, 1) := by decide +kernel
theorem d_JS_indexOf_II_3 : decode prog_15_method_79_code 3 = .ok (.invokevirtual 633, 3) := by decide +kernel
theorem d_JS_indexOf_II_6 : decode prog_15_method_79_code 6 = .ok (.ireturn, 1) := by decide +kernel
theorem d_JS_indexOf_III_0 : decode prog_15_method_80_code 0 = .ok (.aload_n 0, 1) := by decide +kernel
theorem d_JS_indexOf_III_1 : decode prog_15_method_80_code 1 = .ok (.invokevirtual 492, 3) := by decide +kernel
theorem d_JS_indexOf_III_4 : decode prog_15_method_80_code 4 = .ok (.ifCond .eq 19, 3) := by decide +kernel
theorem d_JS_indexOf_III_7 : decode prog_15_method_80_code 7 = .ok (.aload_n 0, 1) := by decide +kernel
theorem d_JS_indexOf_III_8 : decode prog_15_method_80_code 8 = .ok (.getfield 9, 3) := by decide +kernel
theorem d_JS_indexOf_III_11 : decode prog_15_method_80_code 11 = .ok (.iload_n 1, 1) := by decide +kernel
theorem d_JS_indexOf_III_12 : decode prog_15_method_80_code 12 = .ok (.iload_n 2, 1) := by decide +kernel
theorem d_JS_indexOf_III_13 : decode prog_15_method_80_code 13 = .ok (.aload_n 0, 1) := by decide +kernel
theorem d_JS_indexOf_III_14 : decode prog_15_method_80_code 14 = .ok (.invokevirtual 505, 3) := by decide +kernel
theorem d_JS_indexOf_III_17 : decode prog_15_method_80_code 17 = .ok (.invokestatic 637, 3) := by decide +kernel
theorem d_JS_indexOf_III_20 : decode prog_15_method_80_code 20 = .ok (.goto 16, 3) := by decide +kernel
theorem d_JS_indexOf_III_23 : decode prog_15_method_80_code 23 = .ok (.aload_n 0, 1) := by decide +kernel
theorem d_JS_indexOf_III_24 : decode prog_15_method_80_code 24 = .ok (.getfield 9, 3) := by decide +kernel
theorem d_JS_indexOf_III_27 : decode prog_15_method_80_code 27 = .ok (.iload_n 1, 1) := by decide +kernel
theorem d_JS_indexOf_III_28 : decode prog_15_method_80_code 28 = .ok (.iload_n 2, 1) := by decide +kernel
theorem d_JS_indexOf_III_29 : decode prog_15_method_80_code 29 = .ok (.aload_n 0, 1) := by decide +kernel
theorem d_JS_indexOf_III_30 : decode prog_15_method_80_code 30 = .ok (.invokevirtual 505, 3) := by decide +kernel
theorem d_JS_indexOf_III_33 : decode prog_15_method_80_code 33 = .ok (.invokestatic 640, 3) := by decide +kernel
theorem d_JS_indexOf_III_36 : decode prog_15_method_80_code 36 = .ok (.ireturn, 1) := by decide +kernel
theorem d_JL_indexOf_0 : decode prog_16_method_22_code 0 = .ok (.iload_n 1, 1) := by decide +kernel
theorem d_JL_indexOf_1 : decode prog_16_method_22_code 1 = .ok (.invokestatic 88, 3) := by decide +kernel
theorem d_JL_indexOf_4 : decode prog_16_method_22_code 4 = .ok (.ifCond .ne 5, 3) := by decide +kernel
theorem d_JL_indexOf_7 : decode prog_16_method_22_code 7 = .ok (.iconst (-1), 1) := by decide +kernel
theorem d_JL_indexOf_8 : decode prog_16_method_22_code 8 = .ok (.ireturn, 1) := by decide +kernel
theorem d_JL_indexOf_9 : decode prog_16_method_22_code 9 = .ok (.iload_n 2, 1) := by decide +kernel
theorem d_JL_indexOf_10 : decode prog_16_method_22_code 10 = .ok (.iconst 0, 1) := by decide +kernel
theorem d_JL_indexOf_11 : decode prog_16_method_22_code 11 = .ok (.invokestatic 92, 3) := by decide +kernel
theorem d_JL_indexOf_14 : decode prog_16_method_22_code 14 = .ok (.istore_n 2, 1) := by decide +kernel
theorem d_JL_indexOf_15 : decode prog_16_method_22_code 15 = .ok (.iload_n 3, 1) := by decide +kernel
theorem d_JL_indexOf_16 : decode prog_16_method_22_code 16 = .ok (.aload_n 0, 1) := by decide +kernel
theorem d_JL_indexOf_17 : decode prog_16_method_22_code 17 = .ok (.arraylength, 1) := by decide +kernel
theorem d_JL_indexOf_18 : decode prog_16_method_22_code 18 = .ok (.invokestatic 38, 3) := by decide +kernel
theorem d_JL_indexOf_21 : decode prog_16_method_22_code 21 = .ok (.istore_n 3, 1) := by decide +kernel
theorem d_JL_indexOf_22 : decode prog_16_method_22_code 22 = .ok (.iload_n 2, 1) := by decide +kernel
theorem d_JL_indexOf_23 : decode prog_16_method_22_code 23 = .ok (.iload_n 3, 1) := by decide +kernel
theorem d_JL_indexOf_24 : decode prog_16_method_22_code 24 = .ok (.if_icmp .lt 5, 3) := by decide +kernel
theorem d_JL_indexOf_27 : decode prog_16_method_22_code 27 = .ok (.iconst (-1), 1) := by decide +kernel
theorem d_JL_indexOf_28 : decode prog_16_method_22_code 28 = .ok (.ireturn, 1) := by decide +kernel
theorem d_JL_indexOf_29 : decode prog_16_method_22_code 29 = .ok (.aload_n 0, 1) := by decide +kernel
theorem d_JL_indexOf_30 : decode prog_16_method_22_code 30 = .ok (.iload_n 1, 1) := by decide +kernel
theorem d_JL_indexOf_31 : decode prog_16_method_22_code 31 = .ok (.iload_n 2, 1) := by decide +kernel
theorem d_JL_indexOf_32 : decode prog_16_method_22_code 32 = .ok (.iload_n 3, 1) := by decide +kernel
theorem d_JL_indexOf_33 : decode prog_16_method_22_code 33 = .ok (.invokestatic 95, 3) := by decide +kernel
theorem d_JL_indexOf_36 : decode prog_16_method_22_code 36 = .ok (.ireturn, 1) := by decide +kernel
theorem d_JL_canEncode_0 : decode prog_16_method_4_code 0 = .ok (.iload_n 0, 1) := by decide +kernel
theorem d_JL_canEncode_1 : decode prog_16_method_4_code 1 = .ok (.ifCond .lt 14, 3) := by decide +kernel
theorem d_JL_canEncode_4 : decode prog_16_method_4_code 4 = .ok (.iload_n 0, 1) := by decide +kernel
theorem d_JL_canEncode_5 : decode prog_16_method_4_code 5 = .ok (.sipush 255, 3) := by decide +kernel
theorem d_JL_canEncode_8 : decode prog_16_method_4_code 8 = .ok (.if_icmp .gt 7, 3) := by decide +kernel
theorem d_JL_canEncode_11 : decode prog_16_method_4_code 11 = .ok (.iconst 1, 1) := by decide +kernel
theorem d_JL_canEncode_12 : decode prog_16_method_4_code 12 = .ok (.goto 4, 3) := by decide +kernel
theorem d_JL_canEncode_15 : decode prog_16_method_4_code 15 = .ok (.iconst 0, 1) := by decide +kernel
theorem d_JL_canEncode_16 : decode prog_16_method_4_code 16 = .ok (.ireturn, 1) := by decide +kernel
theorem d_JM_max_III_0 : decode prog_14_method_65_code 0 = .ok (.iload_n 0, 1) := by decide +kernel
theorem d_JM_max_III_1 : decode prog_14_method_65_code 1 = .ok (.iload_n 1, 1) := by decide +kernel
theorem d_JM_max_III_2 : decode prog_14_method_65_code 2 = .ok (.if_icmp .lt 7, 3) := by decide +kernel
theorem d_JM_max_III_5 : decode prog_14_method_65_code 5 = .ok (.iload_n 0, 1) := by decide +kernel
theorem d_JM_max_III_6 : decode prog_14_method_65_code 6 = .ok (.goto 4, 3) := by decide +kernel
theorem d_JM_max_III_9 : decode prog_14_method_65_code 9 = .ok (.iload_n 1, 1) := by decide +kernel
theorem d_JM_max_III_10 : decode prog_14_method_65_code 10 = .ok (.ireturn, 1) := by decide +kernel
theorem d_JL_indexOfChar_0 : decode prog_16_method_23_code 0 = .ok (.iload_n 1, 1) := by decide +kernel
theorem d_JL_indexOfChar_1 : decode prog_16_method_23_code 1 = .ok (.i2b, 1) := by decide +kernel
theorem d_JL_indexOfChar_2 : decode prog_16_method_23_code 2 = .ok (.istore 4, 2) := by decide +kernel
theorem d_JL_indexOfChar_4 : decode prog_16_method_23_code 4 = .ok (.iload_n 2, 1) := by decide +kernel
theorem d_JL_indexOfChar_5 : decode prog_16_method_23_code 5 = .ok (.istore 5, 2) := by decide +kernel
theorem d_JL_indexOfChar_7 : decode prog_16_method_23_code 7 = .ok (.iload 5, 2) := by decide +kernel
theorem d_JL_indexOfChar_9 : decode prog_16_method_23_code 9 = .ok (.iload_n 3, 1) := by decide +kernel
theorem d_JL_indexOfChar_10 : decode prog_16_method_23_code 10 = .ok (.if_icmp .ge 21, 3) := by decide +kernel
theorem d_JL_indexOfChar_13 : decode prog_16_method_23_code 13 = .ok (.aload_n 0, 1) := by decide +kernel
theorem d_JL_indexOfChar_14 : decode prog_16_method_23_code 14 = .ok (.iload 5, 2) := by decide +kernel
theorem d_JL_indexOfChar_16 : decode prog_16_method_23_code 16 = .ok (.baload, 1) := by decide +kernel
theorem d_JL_indexOfChar_17 : decode prog_16_method_23_code 17 = .ok (.iload 4, 2) := by decide +kernel
theorem d_JL_indexOfChar_19 : decode prog_16_method_23_code 19 = .ok (.if_icmp .ne 6, 3) := by decide +kernel
theorem d_JL_indexOfChar_22 : decode prog_16_method_23_code 22 = .ok (.iload 5, 2) := by decide +kernel
theorem d_JL_indexOfChar_24 : decode prog_16_method_23_code 24 = .ok (.ireturn, 1) := by decide +kernel
theorem d_JL_indexOfChar_25 : decode prog_16_method_23_code 25 = .ok (.iinc 5 1, 3) := by decide +kernel
theorem d_JL_indexOfChar_28 : decode prog_16_method_23_code 28 = .ok (.goto (-21), 3) := by decide +kernel
theorem d_JL_indexOfChar_31 : decode prog_16_method_23_code 31 = .ok (.iconst (-1), 1) := by decide +kernel
theorem d_JL_indexOfChar_32 : decode prog_16_method_23_code 32 = .ok (.ireturn, 1) := by decide +kernel
theorem d_T_empty_0 : decode prog_8_method_2_code 0 = .ok (.aload_n 0, 1) := by decide +kernel
theorem d_T_empty_1 : decode prog_8_method_2_code 1 = .ok (.iconst 0, 1) := by decide +kernel
theorem d_T_empty_2 : decode prog_8_method_2_code 2 = .ok (.putfield 24, 3) := by decide +kernel
theorem d_T_empty_5 : decode prog_8_method_2_code 5 = .ok (.aload_n 0, 1) := by decide +kernel
theorem d_T_empty_6 : decode prog_8_method_2_code 6 = .ok (.iconst 0, 1) := by decide +kernel
theorem d_T_empty_7 : decode prog_8_method_2_code 7 = .ok (.putfield 28, 3) := by decide +kernel
theorem d_T_empty_10 : decode prog_8_method_2_code 10 = .ok (.aload_n 0, 1) := by decide +kernel
theorem d_T_empty_11 : decode prog_8_method_2_code 11 = .ok (.iconst 0, 1) := by decide +kernel
theorem d_T_empty_12 : decode prog_8_method_2_code 12 = .ok (.putfield 32, 3) := by decide +kernel
theorem d_T_empty_15 : decode prog_8_method_2_code 15 = .ok (.aload_n 0, 1) := by decide +kernel
theorem d_T_empty_16 : decode prog_8_method_2_code 16 = .ok (.iconst 0, 1) := by decide +kernel
theorem d_T_empty_17 : decode prog_8_method_2_code 17 = .ok (.putfield 35, 3) := by decide +kernel
theorem d_T_empty_20 : decode prog_8_method_2_code 20 = .ok (.return_, 1) := by decide +kernel
theorem d_D_readClause_0 : decode prog_5_method_7_code 0 = .ok (.aload_n 0, 1) := by decide +kernel
theorem d_D_readClause_1 : decode prog_5_method_7_code 1 = .ok (.getfield 32, 3) := by decide +kernel
theorem d_D_readClause_4 : decode prog_5_method_7_code 4 = .ok (.istore_n 1, 1) := by decide +kernel
theorem d_D_readClause_5 : decode prog_5_method_7_code 5 = .ok (.iload_n 1, 1) := by decide +kernel
theorem d_D_readClause_6 : decode prog_5_method_7_code 6 = .ok (.bipush 6, 2) := by decide +kernel
theorem d_D_readClause_8 : decode prog_5_method_7_code 8 = .ok (.if_icmp .le 11, 3) := by decide +kernel
theorem d_D_readClause_11 : decode prog_5_method_7_code 11 = .ok (.aload_n 0, 1) := by decide +kernel
theorem d_D_readClause_12 : decode prog_5_method_7_code 12 = .ok (.iconst 1, 1) := by decide +kernel
theorem d_D_readClause_13 : decode prog_5_method_7_code 13 = .ok (.invokevirtual 57, 3) := by decide +kernel
theorem d_D_readClause_16 : decode prog_5_method_7_code 16 = .ok (.goto 133, 3) := by decide +kernel
theorem d_D_readClause_19 : decode prog_5_method_7_code 19 = .ok (.iload_n 1, 1) := by decide +kernel
theorem d_D_readClause_20 : decode prog_5_method_7_code 20 = .ok (.ifCond .ne 13, 3) := by decide +kernel
theorem d_D_readClause_23 : decode prog_5_method_7_code 23 = .ok (.aload_n 0, 1) := by decide +kernel
theorem d_D_readClause_24 : decode prog_5_method_7_code 24 = .ok (.getfield 34, 3) := by decide +kernel
theorem d_D_readClause_27 : decode prog_5_method_7_code 27 = .ok (.getfield 63, 3) := by decide +kernel
theorem d_D_readClause_30 : decode prog_5_method_7_code 30 = .ok (.ifCond .ne 18, 3) := by decide +kernel
theorem d_D_readClause_33 : decode prog_5_method_7_code 33 = .ok (.iload_n 1, 1) := by decide +kernel
theorem d_D_readClause_34 : decode prog_5_method_7_code 34 = .ok (.iconst 1, 1) := by decide +kernel
theorem d_D_readClause_35 : decode prog_5_method_7_code 35 = .ok (.if_icmp .ne 21, 3) := by decide +kernel
theorem d_D_readClause_38 : decode prog_5_method_7_code 38 = .ok (.aload_n 0, 1) := by decide +kernel
theorem d_D_readClause_39 : decode prog_5_method_7_code 39 = .ok (.getfield 34, 3) := by decide +kernel
theorem d_D_readClause_42 : decode prog_5_method_7_code 42 = .ok (.getfield 67, 3) := by decide +kernel
theorem d_D_readClause_45 : decode prog_5_method_7_code 45 = .ok (.ifCond .eq 11, 3) := by decide +kernel
theorem d_D_readClause_48 : decode prog_5_method_7_code 48 = .ok (.aload_n 0, 1) := by decide +kernel
theorem d_D_readClause_49 : decode prog_5_method_7_code 49 = .ok (.iconst 4, 1) := by decide +kernel
theorem d_D_readClause_50 : decode prog_5_method_7_code 50 = .ok (.invokevirtual 57, 3) := by decide +kernel
theorem d_D_readClause_53 : decode prog_5_method_7_code 53 = .ok (.goto 96, 3) := by decide +kernel
theorem d_D_readClause_56 : decode prog_5_method_7_code 56 = .ok (.aload_n 0, 1) := by decide +kernel
theorem d_D_readClause_57 : decode prog_5_method_7_code 57 = .ok (.getfield 34, 3) := by decide +kernel
theorem d_D_readClause_60 : decode prog_5_method_7_code 60 = .ok (.getfield 70, 3) := by decide +kernel
theorem d_D_readClause_63 : decode prog_5_method_7_code 63 = .ok (.bipush 24, 2) := by decide +kernel
theorem d_D_readClause_65 : decode prog_5_method_7_code 65 = .ok (.if_icmp .lt 12, 3) := by decide +kernel
theorem d_D_readClause_68 : decode prog_5_method_7_code 68 = .ok (.aload_n 0, 1) := by decide +kernel
theorem d_D_readClause_69 : decode prog_5_method_7_code 69 = .ok (.bipush 6, 2) := by decide +kernel
theorem d_D_readClause_71 : decode prog_5_method_7_code 71 = .ok (.invokevirtual 57, 3) := by decide +kernel
theorem d_D_readClause_74 : decode prog_5_method_7_code 74 = .ok (.goto 75, 3) := by decide +kernel
theorem d_D_readClause_77 : decode prog_5_method_7_code 77 = .ok (.aload_n 0, 1) := by decide +kernel
theorem d_D_readClause_78 : decode prog_5_method_7_code 78 = .ok (.getfield 34, 3) := by decide +kernel
theorem d_D_readClause_81 : decode prog_5_method_7_code 81 = .ok (.getfield 70, 3) := by decide +kernel
theorem d_D_readClause_84 : decode prog_5_method_7_code 84 = .ok (.istore_n 2, 1) := by decide +kernel
theorem d_D_readClause_85 : decode prog_5_method_7_code 85 = .ok (.aload_n 0, 1) := by decide +kernel
theorem d_D_readClause_86 : decode prog_5_method_7_code 86 = .ok (.getfield 34, 3) := by decide +kernel
theorem d_D_readClause_89 : decode prog_5_method_7_code 89 = .ok (.getfield 73, 3) := by decide +kernel
theorem d_D_readClause_92 : decode prog_5_method_7_code 92 = .ok (.iload_n 2, 1) := by decide +kernel
theorem d_D_readClause_93 : decode prog_5_method_7_code 93 = .ok (.iload_n 1, 1) := by decide +kernel
theorem d_D_readClause_94 : decode prog_5_method_7_code 94 = .ok (.iastore, 1) := by decide +kernel
theorem d_D_readClause_95 : decode prog_5_method_7_code 95 = .ok (.aload_n 0, 1) := by decide +kernel
theorem d_D_readClause_96 : decode prog_5_method_7_code 96 = .ok (.getfield 34, 3) := by decide +kernel
theorem d_D_readClause_99 : decode prog_5_method_7_code 99 = .ok (.dup, 1) := by decide +kernel
theorem d_D_readClause_100 : decode prog_5_method_7_code 100 = .ok (.getfield 70, 3) := by decide +kernel
theorem d_D_readClause_103 : decode prog_5_method_7_code 103 = .ok (.iconst 1, 1) := by decide +kernel
theorem d_D_readClause_104 : decode prog_5_method_7_code 104 = .ok (.iadd, 1) := by decide +kernel
theorem d_D_readClause_105 : decode prog_5_method_7_code 105 = .ok (.putfield 70, 3) := by decide +kernel
theorem d_D_readClause_108 : decode prog_5_method_7_code 108 = .ok (.aload_n 0, 1) := by decide +kernel
theorem d_D_readClause_109 : decode prog_5_method_7_code 109 = .ok (.invokevirtual 54, 3) := by decide +kernel
theorem d_D_readClause_112 : decode prog_5_method_7_code 112 = .ok (.iload_n 1, 1) := by decide +kernel
theorem d_D_readClause_113 : decode prog_5_method_7_code 113 = .ok (.ifCond .eq 8, 3) := by decide +kernel
theorem d_D_readClause_116 : decode prog_5_method_7_code 116 = .ok (.iload_n 1, 1) := by decide +kernel
theorem d_D_readClause_117 : decode prog_5_method_7_code 117 = .ok (.iconst 1, 1) := by decide +kernel
theorem d_D_readClause_118 : decode prog_5_method_7_code 118 = .ok (.if_icmp .ne 19, 3) := by decide +kernel
theorem d_D_readClause_121 : decode prog_5_method_7_code 121 = .ok (.aload_n 0, 1) := by decide +kernel
theorem d_D_readClause_122 : decode prog_5_method_7_code 122 = .ok (.iload_n 1, 1) := by decide +kernel
theorem d_D_readClause_123 : decode prog_5_method_7_code 123 = .ok (.ifCond .ne 7, 3) := by decide +kernel
theorem d_D_readClause_126 : decode prog_5_method_7_code 126 = .ok (.iconst 1, 1) := by decide +kernel
theorem d_D_readClause_127 : decode prog_5_method_7_code 127 = .ok (.goto 4, 3) := by decide +kernel
theorem d_D_readClause_130 : decode prog_5_method_7_code 130 = .ok (.iconst 0, 1) := by decide +kernel
theorem d_D_readClause_131 : decode prog_5_method_7_code 131 = .ok (.invokevirtual 76, 3) := by decide +kernel
theorem d_D_readClause_134 : decode prog_5_method_7_code 134 = .ok (.goto 9, 3) := by decide +kernel
theorem d_D_readClause_137 : decode prog_5_method_7_code 137 = .ok (.aload_n 0, 1) := by decide +kernel
theorem d_D_readClause_138 : decode prog_5_method_7_code 138 = .ok (.iload_n 1, 1) := by decide +kernel
theorem d_D_readClause_139 : decode prog_5_method_7_code 139 = .ok (.iload_n 2, 1) := by decide +kernel
theorem d_D_readClause_140 : decode prog_5_method_7_code 140 = .ok (.invokevirtual 80, 3) := by decide +kernel
theorem d_D_readClause_143 : decode prog_5_method_7_code 143 = .ok (.aload_n 0, 1) := by decide +kernel
theorem d_D_readClause_144 : decode prog_5_method_7_code 144 = .ok (.bipush 42, 2) := by decide +kernel
theorem d_D_readClause_146 : decode prog_5_method_7_code 146 = .ok (.invokevirtual 84, 3) := by decide +kernel
theorem d_D_readClause_149 : decode prog_5_method_7_code 149 = .ok (.return_, 1) := by decide +kernel
theorem d_D_refuse_0 : decode prog_5_method_3_code 0 = .ok (.aload_n 0, 1) := by decide +kernel
theorem d_D_refuse_1 : decode prog_5_method_3_code 1 = .ok (.getfield 43, 3) := by decide +kernel
theorem d_D_refuse_4 : decode prog_5_method_3_code 4 = .ok (.ifCond .ne 24, 3) := by decide +kernel
theorem d_D_refuse_7 : decode prog_5_method_3_code 7 = .ok (.aload_n 0, 1) := by decide +kernel
theorem d_D_refuse_8 : decode prog_5_method_3_code 8 = .ok (.iload_n 1, 1) := by decide +kernel
theorem d_D_refuse_9 : decode prog_5_method_3_code 9 = .ok (.putfield 43, 3) := by decide +kernel
theorem d_D_refuse_12 : decode prog_5_method_3_code 12 = .ok (.aload_n 0, 1) := by decide +kernel
theorem d_D_refuse_13 : decode prog_5_method_3_code 13 = .ok (.aload_n 0, 1) := by decide +kernel
theorem d_D_refuse_14 : decode prog_5_method_3_code 14 = .ok (.getfield 14, 3) := by decide +kernel
theorem d_D_refuse_17 : decode prog_5_method_3_code 17 = .ok (.getfield 52, 3) := by decide +kernel
theorem d_D_refuse_20 : decode prog_5_method_3_code 20 = .ok (.aload_n 0, 1) := by decide +kernel
theorem d_D_refuse_21 : decode prog_5_method_3_code 21 = .ok (.getfield 24, 3) := by decide +kernel
theorem d_D_refuse_24 : decode prog_5_method_3_code 24 = .ok (.iaload, 1) := by decide +kernel
theorem d_D_refuse_25 : decode prog_5_method_3_code 25 = .ok (.putfield 46, 3) := by decide +kernel
theorem d_D_refuse_28 : decode prog_5_method_3_code 28 = .ok (.aload_n 0, 1) := by decide +kernel
theorem d_D_refuse_29 : decode prog_5_method_3_code 29 = .ok (.bipush 47, 2) := by decide +kernel
theorem d_D_refuse_31 : decode prog_5_method_3_code 31 = .ok (.putfield 32, 3) := by decide +kernel
theorem d_D_refuse_34 : decode prog_5_method_3_code 34 = .ok (.return_, 1) := by decide +kernel
theorem d_D_advance_0 : decode prog_5_method_4_code 0 = .ok (.aload_n 0, 1) := by decide +kernel
theorem d_D_advance_1 : decode prog_5_method_4_code 1 = .ok (.getfield 43, 3) := by decide +kernel
theorem d_D_advance_4 : decode prog_5_method_4_code 4 = .ok (.ifCond .ne 39, 3) := by decide +kernel
theorem d_D_advance_7 : decode prog_5_method_4_code 7 = .ok (.aload_n 0, 1) := by decide +kernel
theorem d_D_advance_8 : decode prog_5_method_4_code 8 = .ok (.getfield 24, 3) := by decide +kernel
theorem d_D_advance_11 : decode prog_5_method_4_code 11 = .ok (.sipush 300, 3) := by decide +kernel
theorem d_D_advance_14 : decode prog_5_method_4_code 14 = .ok (.if_icmp .ge 29, 3) := by decide +kernel
theorem d_D_advance_17 : decode prog_5_method_4_code 17 = .ok (.aload_n 0, 1) := by decide +kernel
theorem d_D_advance_18 : decode prog_5_method_4_code 18 = .ok (.dup, 1) := by decide +kernel
theorem d_D_advance_19 : decode prog_5_method_4_code 19 = .ok (.getfield 24, 3) := by decide +kernel
theorem d_D_advance_22 : decode prog_5_method_4_code 22 = .ok (.iconst 1, 1) := by decide +kernel
theorem d_D_advance_23 : decode prog_5_method_4_code 23 = .ok (.iadd, 1) := by decide +kernel
theorem d_D_advance_24 : decode prog_5_method_4_code 24 = .ok (.putfield 24, 3) := by decide +kernel
theorem d_D_advance_27 : decode prog_5_method_4_code 27 = .ok (.aload_n 0, 1) := by decide +kernel
theorem d_D_advance_28 : decode prog_5_method_4_code 28 = .ok (.aload_n 0, 1) := by decide +kernel
theorem d_D_advance_29 : decode prog_5_method_4_code 29 = .ok (.getfield 14, 3) := by decide +kernel
theorem d_D_advance_32 : decode prog_5_method_4_code 32 = .ok (.getfield 28, 3) := by decide +kernel
theorem d_D_advance_35 : decode prog_5_method_4_code 35 = .ok (.aload_n 0, 1) := by decide +kernel
theorem d_D_advance_36 : decode prog_5_method_4_code 36 = .ok (.getfield 24, 3) := by decide +kernel
theorem d_D_advance_39 : decode prog_5_method_4_code 39 = .ok (.iaload, 1) := by decide +kernel
theorem d_D_advance_40 : decode prog_5_method_4_code 40 = .ok (.putfield 32, 3) := by decide +kernel
theorem d_D_advance_43 : decode prog_5_method_4_code 43 = .ok (.return_, 1) := by decide +kernel
theorem d_D_readLaw_0 : decode prog_5_method_8_code 0 = .ok (.aload_n 0, 1) := by decide +kernel
theorem d_D_readLaw_1 : decode prog_5_method_8_code 1 = .ok (.iload_n 1, 1) := by decide +kernel
theorem d_D_readLaw_2 : decode prog_5_method_8_code 2 = .ok (.putfield 87, 3) := by decide +kernel
theorem d_D_readLaw_5 : decode prog_5_method_8_code 5 = .ok (.aload_n 0, 1) := by decide +kernel
theorem d_D_readLaw_6 : decode prog_5_method_8_code 6 = .ok (.getfield 34, 3) := by decide +kernel
theorem d_D_readLaw_9 : decode prog_5_method_8_code 9 = .ok (.getfield 90, 3) := by decide +kernel
theorem d_D_readLaw_12 : decode prog_5_method_8_code 12 = .ok (.istore_n 2, 1) := by decide +kernel
theorem d_D_readLaw_13 : decode prog_5_method_8_code 13 = .ok (.aload_n 0, 1) := by decide +kernel
theorem d_D_readLaw_14 : decode prog_5_method_8_code 14 = .ok (.iconst 0, 1) := by decide +kernel
theorem d_D_readLaw_15 : decode prog_5_method_8_code 15 = .ok (.invokevirtual 93, 3) := by decide +kernel
theorem d_D_readLaw_18 : decode prog_5_method_8_code 18 = .ok (.iload_n 1, 1) := by decide +kernel
theorem d_D_readLaw_19 : decode prog_5_method_8_code 19 = .ok (.ifCond .eq 36, 3) := by decide +kernel
theorem d_D_readLaw_22 : decode prog_5_method_8_code 22 = .ok (.aload_n 0, 1) := by decide +kernel
theorem d_D_readLaw_23 : decode prog_5_method_8_code 23 = .ok (.getfield 34, 3) := by decide +kernel
theorem d_D_readLaw_26 : decode prog_5_method_8_code 26 = .ok (.iconst 1, 1) := by decide +kernel
theorem d_D_readLaw_27 : decode prog_5_method_8_code 27 = .ok (.putfield 63, 3) := by decide +kernel
theorem d_D_readLaw_30 : decode prog_5_method_8_code 30 = .ok (.aload_n 0, 1) := by decide +kernel
theorem d_D_readLaw_31 : decode prog_5_method_8_code 31 = .ok (.getfield 34, 3) := by decide +kernel
theorem d_D_readLaw_34 : decode prog_5_method_8_code 34 = .ok (.iload_n 2, 1) := by decide +kernel
theorem d_D_readLaw_35 : decode prog_5_method_8_code 35 = .ok (.putfield 96, 3) := by decide +kernel
theorem d_D_readLaw_38 : decode prog_5_method_8_code 38 = .ok (.aload_n 0, 1) := by decide +kernel
theorem d_D_readLaw_39 : decode prog_5_method_8_code 39 = .ok (.getfield 34, 3) := by decide +kernel
theorem d_D_readLaw_42 : decode prog_5_method_8_code 42 = .ok (.aload_n 0, 1) := by decide +kernel
theorem d_D_readLaw_43 : decode prog_5_method_8_code 43 = .ok (.getfield 34, 3) := by decide +kernel
theorem d_D_readLaw_46 : decode prog_5_method_8_code 46 = .ok (.getfield 90, 3) := by decide +kernel
theorem d_D_readLaw_49 : decode prog_5_method_8_code 49 = .ok (.putfield 99, 3) := by decide +kernel
theorem d_D_readLaw_52 : decode prog_5_method_8_code 52 = .ok (.goto 33, 3) := by decide +kernel
theorem d_D_readLaw_55 : decode prog_5_method_8_code 55 = .ok (.aload_n 0, 1) := by decide +kernel
theorem d_D_readLaw_56 : decode prog_5_method_8_code 56 = .ok (.getfield 34, 3) := by decide +kernel
theorem d_D_readLaw_59 : decode prog_5_method_8_code 59 = .ok (.iconst 1, 1) := by decide +kernel
theorem d_D_readLaw_60 : decode prog_5_method_8_code 60 = .ok (.putfield 67, 3) := by decide +kernel
theorem d_D_readLaw_63 : decode prog_5_method_8_code 63 = .ok (.aload_n 0, 1) := by decide +kernel
theorem d_D_readLaw_64 : decode prog_5_method_8_code 64 = .ok (.getfield 34, 3) := by decide +kernel
theorem d_D_readLaw_67 : decode prog_5_method_8_code 67 = .ok (.iload_n 2, 1) := by decide +kernel
theorem d_D_readLaw_68 : decode prog_5_method_8_code 68 = .ok (.putfield 102, 3) := by decide +kernel
theorem d_D_readLaw_71 : decode prog_5_method_8_code 71 = .ok (.aload_n 0, 1) := by decide +kernel
theorem d_D_readLaw_72 : decode prog_5_method_8_code 72 = .ok (.getfield 34, 3) := by decide +kernel
theorem d_D_readLaw_75 : decode prog_5_method_8_code 75 = .ok (.aload_n 0, 1) := by decide +kernel
theorem d_D_readLaw_76 : decode prog_5_method_8_code 76 = .ok (.getfield 34, 3) := by decide +kernel
theorem d_D_readLaw_79 : decode prog_5_method_8_code 79 = .ok (.getfield 90, 3) := by decide +kernel
theorem d_D_readLaw_82 : decode prog_5_method_8_code 82 = .ok (.putfield 105, 3) := by decide +kernel
theorem d_D_readLaw_85 : decode prog_5_method_8_code 85 = .ok (.return_, 1) := by decide +kernel
theorem d_D_readSum_0 : decode prog_5_method_13_code 0 = .ok (.aload_n 0, 1) := by decide +kernel
theorem d_D_readSum_1 : decode prog_5_method_13_code 1 = .ok (.iload_n 1, 1) := by decide +kernel
theorem d_D_readSum_2 : decode prog_5_method_13_code 2 = .ok (.invokevirtual 133, 3) := by decide +kernel
theorem d_D_readSum_5 : decode prog_5_method_13_code 5 = .ok (.iconst 0, 1) := by decide +kernel
theorem d_D_readSum_6 : decode prog_5_method_13_code 6 = .ok (.istore_n 2, 1) := by decide +kernel
theorem d_D_readSum_7 : decode prog_5_method_13_code 7 = .ok (.iload_n 2, 1) := by decide +kernel
theorem d_D_readSum_8 : decode prog_5_method_13_code 8 = .ok (.sipush 300, 3) := by decide +kernel
theorem d_D_readSum_11 : decode prog_5_method_13_code 11 = .ok (.if_icmp .ge 51, 3) := by decide +kernel
theorem d_D_readSum_14 : decode prog_5_method_13_code 14 = .ok (.aload_n 0, 1) := by decide +kernel
theorem d_D_readSum_15 : decode prog_5_method_13_code 15 = .ok (.getfield 32, 3) := by decide +kernel
theorem d_D_readSum_18 : decode prog_5_method_13_code 18 = .ok (.bipush 36, 2) := by decide +kernel
theorem d_D_readSum_20 : decode prog_5_method_13_code 20 = .ok (.if_icmp .eq 12, 3) := by decide +kernel
theorem d_D_readSum_23 : decode prog_5_method_13_code 23 = .ok (.aload_n 0, 1) := by decide +kernel
theorem d_D_readSum_24 : decode prog_5_method_13_code 24 = .ok (.getfield 32, 3) := by decide +kernel
theorem d_D_readSum_27 : decode prog_5_method_13_code 27 = .ok (.bipush 37, 2) := by decide +kernel
theorem d_D_readSum_29 : decode prog_5_method_13_code 29 = .ok (.if_icmp .ne 33, 3) := by decide +kernel
theorem d_D_readSum_32 : decode prog_5_method_13_code 32 = .ok (.aload_n 0, 1) := by decide +kernel
theorem d_D_readSum_33 : decode prog_5_method_13_code 33 = .ok (.getfield 32, 3) := by decide +kernel
theorem d_D_readSum_36 : decode prog_5_method_13_code 36 = .ok (.istore_n 3, 1) := by decide +kernel
theorem d_D_readSum_37 : decode prog_5_method_13_code 37 = .ok (.aload_n 0, 1) := by decide +kernel
theorem d_D_readSum_38 : decode prog_5_method_13_code 38 = .ok (.invokevirtual 54, 3) := by decide +kernel
theorem d_D_readSum_41 : decode prog_5_method_13_code 41 = .ok (.aload_n 0, 1) := by decide +kernel
theorem d_D_readSum_42 : decode prog_5_method_13_code 42 = .ok (.iload_n 1, 1) := by decide +kernel
theorem d_D_readSum_43 : decode prog_5_method_13_code 43 = .ok (.invokevirtual 133, 3) := by decide +kernel
theorem d_D_readSum_46 : decode prog_5_method_13_code 46 = .ok (.aload_n 0, 1) := by decide +kernel
theorem d_D_readSum_47 : decode prog_5_method_13_code 47 = .ok (.getfield 34, 3) := by decide +kernel
theorem d_D_readSum_50 : decode prog_5_method_13_code 50 = .ok (.iload_n 3, 1) := by decide +kernel
theorem d_D_readSum_51 : decode prog_5_method_13_code 51 = .ok (.iconst 0, 1) := by decide +kernel
theorem d_D_readSum_52 : decode prog_5_method_13_code 52 = .ok (.invokevirtual 136, 3) := by decide +kernel
theorem d_D_readSum_55 : decode prog_5_method_13_code 55 = .ok (.pop, 1) := by decide +kernel
theorem d_D_readSum_56 : decode prog_5_method_13_code 56 = .ok (.iinc 2 1, 3) := by decide +kernel
theorem d_D_readSum_59 : decode prog_5_method_13_code 59 = .ok (.goto (-52), 3) := by decide +kernel
theorem d_D_readSum_62 : decode prog_5_method_13_code 62 = .ok (.return_, 1) := by decide +kernel
theorem d_D_readProduct_0 : decode prog_5_method_14_code 0 = .ok (.aload_n 0, 1) := by decide +kernel
theorem d_D_readProduct_1 : decode prog_5_method_14_code 1 = .ok (.iload_n 1, 1) := by decide +kernel
theorem d_D_readProduct_2 : decode prog_5_method_14_code 2 = .ok (.invokevirtual 139, 3) := by decide +kernel
theorem d_D_readProduct_5 : decode prog_5_method_14_code 5 = .ok (.iconst 0, 1) := by decide +kernel
theorem d_D_readProduct_6 : decode prog_5_method_14_code 6 = .ok (.istore_n 2, 1) := by decide +kernel
theorem d_D_readProduct_7 : decode prog_5_method_14_code 7 = .ok (.iload_n 2, 1) := by decide +kernel
theorem d_D_readProduct_8 : decode prog_5_method_14_code 8 = .ok (.sipush 300, 3) := by decide +kernel
theorem d_D_readProduct_11 : decode prog_5_method_14_code 11 = .ok (.if_icmp .ge 51, 3) := by decide +kernel
theorem d_D_readProduct_14 : decode prog_5_method_14_code 14 = .ok (.aload_n 0, 1) := by decide +kernel
theorem d_D_readProduct_15 : decode prog_5_method_14_code 15 = .ok (.getfield 32, 3) := by decide +kernel
theorem d_D_readProduct_18 : decode prog_5_method_14_code 18 = .ok (.bipush 38, 2) := by decide +kernel
theorem d_D_readProduct_20 : decode prog_5_method_14_code 20 = .ok (.if_icmp .eq 12, 3) := by decide +kernel
theorem d_D_readProduct_23 : decode prog_5_method_14_code 23 = .ok (.aload_n 0, 1) := by decide +kernel
theorem d_D_readProduct_24 : decode prog_5_method_14_code 24 = .ok (.getfield 32, 3) := by decide +kernel
theorem d_D_readProduct_27 : decode prog_5_method_14_code 27 = .ok (.bipush 39, 2) := by decide +kernel
theorem d_D_readProduct_29 : decode prog_5_method_14_code 29 = .ok (.if_icmp .ne 33, 3) := by decide +kernel
theorem d_D_readProduct_32 : decode prog_5_method_14_code 32 = .ok (.aload_n 0, 1) := by decide +kernel
theorem d_D_readProduct_33 : decode prog_5_method_14_code 33 = .ok (.getfield 32, 3) := by decide +kernel
theorem d_D_readProduct_36 : decode prog_5_method_14_code 36 = .ok (.istore_n 3, 1) := by decide +kernel
theorem d_D_readProduct_37 : decode prog_5_method_14_code 37 = .ok (.aload_n 0, 1) := by decide +kernel
theorem d_D_readProduct_38 : decode prog_5_method_14_code 38 = .ok (.invokevirtual 54, 3) := by decide +kernel
theorem d_D_readProduct_41 : decode prog_5_method_14_code 41 = .ok (.aload_n 0, 1) := by decide +kernel
theorem d_D_readProduct_42 : decode prog_5_method_14_code 42 = .ok (.iload_n 1, 1) := by decide +kernel
theorem d_D_readProduct_43 : decode prog_5_method_14_code 43 = .ok (.invokevirtual 139, 3) := by decide +kernel
theorem d_D_readProduct_46 : decode prog_5_method_14_code 46 = .ok (.aload_n 0, 1) := by decide +kernel
theorem d_D_readProduct_47 : decode prog_5_method_14_code 47 = .ok (.getfield 34, 3) := by decide +kernel
theorem d_D_readProduct_50 : decode prog_5_method_14_code 50 = .ok (.iload_n 3, 1) := by decide +kernel
theorem d_D_readProduct_51 : decode prog_5_method_14_code 51 = .ok (.iconst 0, 1) := by decide +kernel
theorem d_D_readProduct_52 : decode prog_5_method_14_code 52 = .ok (.invokevirtual 136, 3) := by decide +kernel
theorem d_D_readProduct_55 : decode prog_5_method_14_code 55 = .ok (.pop, 1) := by decide +kernel
theorem d_D_readProduct_56 : decode prog_5_method_14_code 56 = .ok (.iinc 2 1, 3) := by decide +kernel
theorem d_D_readProduct_59 : decode prog_5_method_14_code 59 = .ok (.goto (-52), 3) := by decide +kernel
theorem d_D_readProduct_62 : decode prog_5_method_14_code 62 = .ok (.return_, 1) := by decide +kernel
theorem d_D_readOne_0 : decode prog_5_method_15_code 0 = .ok (.aload_n 0, 1) := by decide +kernel
theorem d_D_readOne_1 : decode prog_5_method_15_code 1 = .ok (.getfield 32, 3) := by decide +kernel
theorem d_D_readOne_4 : decode prog_5_method_15_code 4 = .ok (.bipush 45, 2) := by decide +kernel
theorem d_D_readOne_6 : decode prog_5_method_15_code 6 = .ok (.if_icmp .ne 24, 3) := by decide +kernel
theorem d_D_readOne_9 : decode prog_5_method_15_code 9 = .ok (.aload_n 0, 1) := by decide +kernel
theorem d_D_readOne_10 : decode prog_5_method_15_code 10 = .ok (.getfield 34, 3) := by decide +kernel
theorem d_D_readOne_13 : decode prog_5_method_15_code 13 = .ok (.bipush 45, 2) := by decide +kernel
theorem d_D_readOne_15 : decode prog_5_method_15_code 15 = .ok (.aload_n 0, 1) := by decide +kernel
theorem d_D_readOne_16 : decode prog_5_method_15_code 16 = .ok (.iconst 0, 1) := by decide +kernel
theorem d_D_readOne_17 : decode prog_5_method_15_code 17 = .ok (.sipush 9999, 3) := by decide +kernel
theorem d_D_readOne_20 : decode prog_5_method_15_code 20 = .ok (.invokevirtual 115, 3) := by decide +kernel
theorem d_D_readOne_23 : decode prog_5_method_15_code 23 = .ok (.invokevirtual 136, 3) := by decide +kernel
theorem d_D_readOne_26 : decode prog_5_method_15_code 26 = .ok (.pop, 1) := by decide +kernel
theorem d_D_readOne_27 : decode prog_5_method_15_code 27 = .ok (.goto 60, 3) := by decide +kernel
theorem d_D_readOne_30 : decode prog_5_method_15_code 30 = .ok (.aload_n 0, 1) := by decide +kernel
theorem d_D_readOne_31 : decode prog_5_method_15_code 31 = .ok (.getfield 32, 3) := by decide +kernel
theorem d_D_readOne_34 : decode prog_5_method_15_code 34 = .ok (.bipush 40, 2) := by decide +kernel
theorem d_D_readOne_36 : decode prog_5_method_15_code 36 = .ok (.if_icmp .eq 39, 3) := by decide +kernel
theorem d_D_readOne_39 : decode prog_5_method_15_code 39 = .ok (.aload_n 0, 1) := by decide +kernel
theorem d_D_readOne_40 : decode prog_5_method_15_code 40 = .ok (.getfield 32, 3) := by decide +kernel
theorem d_D_readOne_43 : decode prog_5_method_15_code 43 = .ok (.bipush 37, 2) := by decide +kernel
theorem d_D_readOne_45 : decode prog_5_method_15_code 45 = .ok (.if_icmp .eq 30, 3) := by decide +kernel
theorem d_D_readOne_48 : decode prog_5_method_15_code 48 = .ok (.aload_n 0, 1) := by decide +kernel
theorem d_D_readOne_49 : decode prog_5_method_15_code 49 = .ok (.getfield 32, 3) := by decide +kernel
theorem d_D_readOne_52 : decode prog_5_method_15_code 52 = .ok (.bipush 17, 2) := by decide +kernel
theorem d_D_readOne_54 : decode prog_5_method_15_code 54 = .ok (.if_icmp .eq 21, 3) := by decide +kernel
theorem d_D_readOne_57 : decode prog_5_method_15_code 57 = .ok (.aload_n 0, 1) := by decide +kernel
theorem d_D_readOne_58 : decode prog_5_method_15_code 58 = .ok (.getfield 32, 3) := by decide +kernel
theorem d_D_readOne_61 : decode prog_5_method_15_code 61 = .ok (.bipush 18, 2) := by decide +kernel
theorem d_D_readOne_63 : decode prog_5_method_15_code 63 = .ok (.if_icmp .eq 12, 3) := by decide +kernel
theorem d_D_readOne_66 : decode prog_5_method_15_code 66 = .ok (.aload_n 0, 1) := by decide +kernel
theorem d_D_readOne_67 : decode prog_5_method_15_code 67 = .ok (.getfield 32, 3) := by decide +kernel
theorem d_D_readOne_70 : decode prog_5_method_15_code 70 = .ok (.bipush 19, 2) := by decide +kernel
theorem d_D_readOne_72 : decode prog_5_method_15_code 72 = .ok (.if_icmp .ne 11, 3) := by decide +kernel
theorem d_D_readOne_75 : decode prog_5_method_15_code 75 = .ok (.aload_n 0, 1) := by decide +kernel
theorem d_D_readOne_76 : decode prog_5_method_15_code 76 = .ok (.iload_n 1, 1) := by decide +kernel
theorem d_D_readOne_77 : decode prog_5_method_15_code 77 = .ok (.invokevirtual 142, 3) := by decide +kernel
theorem d_D_readOne_80 : decode prog_5_method_15_code 80 = .ok (.goto 7, 3) := by decide +kernel
theorem d_D_readOne_83 : decode prog_5_method_15_code 83 = .ok (.aload_n 0, 1) := by decide +kernel
theorem d_D_readOne_84 : decode prog_5_method_15_code 84 = .ok (.invokevirtual 145, 3) := by decide +kernel
theorem d_D_readOne_87 : decode prog_5_method_15_code 87 = .ok (.return_, 1) := by decide +kernel
theorem d_D_takeNumber_0 : decode prog_5_method_6_code 0 = .ok (.aload_n 0, 1) := by decide +kernel
theorem d_D_takeNumber_1 : decode prog_5_method_6_code 1 = .ok (.getfield 14, 3) := by decide +kernel
theorem d_D_takeNumber_4 : decode prog_5_method_6_code 4 = .ok (.getfield 60, 3) := by decide +kernel
theorem d_D_takeNumber_7 : decode prog_5_method_6_code 7 = .ok (.aload_n 0, 1) := by decide +kernel
theorem d_D_takeNumber_8 : decode prog_5_method_6_code 8 = .ok (.getfield 24, 3) := by decide +kernel
theorem d_D_takeNumber_11 : decode prog_5_method_6_code 11 = .ok (.iaload, 1) := by decide +kernel
theorem d_D_takeNumber_12 : decode prog_5_method_6_code 12 = .ok (.istore_n 3, 1) := by decide +kernel
theorem d_D_takeNumber_13 : decode prog_5_method_6_code 13 = .ok (.aload_n 0, 1) := by decide +kernel
theorem d_D_takeNumber_14 : decode prog_5_method_6_code 14 = .ok (.getfield 32, 3) := by decide +kernel
theorem d_D_takeNumber_17 : decode prog_5_method_6_code 17 = .ok (.bipush 45, 2) := by decide +kernel
theorem d_D_takeNumber_19 : decode prog_5_method_6_code 19 = .ok (.if_icmp .eq 11, 3) := by decide +kernel
theorem d_D_takeNumber_22 : decode prog_5_method_6_code 22 = .ok (.aload_n 0, 1) := by decide +kernel
theorem d_D_takeNumber_23 : decode prog_5_method_6_code 23 = .ok (.iconst 1, 1) := by decide +kernel
theorem d_D_takeNumber_24 : decode prog_5_method_6_code 24 = .ok (.invokevirtual 57, 3) := by decide +kernel
theorem d_D_takeNumber_27 : decode prog_5_method_6_code 27 = .ok (.goto 27, 3) := by decide +kernel
theorem d_D_takeNumber_30 : decode prog_5_method_6_code 30 = .ok (.iload_n 3, 1) := by decide +kernel
theorem d_D_takeNumber_31 : decode prog_5_method_6_code 31 = .ok (.iload_n 1, 1) := by decide +kernel
theorem d_D_takeNumber_32 : decode prog_5_method_6_code 32 = .ok (.if_icmp .lt 8, 3) := by decide +kernel
theorem d_D_takeNumber_35 : decode prog_5_method_6_code 35 = .ok (.iload_n 3, 1) := by decide +kernel
theorem d_D_takeNumber_36 : decode prog_5_method_6_code 36 = .ok (.iload_n 2, 1) := by decide +kernel
theorem d_D_takeNumber_37 : decode prog_5_method_6_code 37 = .ok (.if_icmp .le 11, 3) := by decide +kernel
theorem d_D_takeNumber_40 : decode prog_5_method_6_code 40 = .ok (.aload_n 0, 1) := by decide +kernel
theorem d_D_takeNumber_41 : decode prog_5_method_6_code 41 = .ok (.iconst 2, 1) := by decide +kernel
theorem d_D_takeNumber_42 : decode prog_5_method_6_code 42 = .ok (.invokevirtual 57, 3) := by decide +kernel
theorem d_D_takeNumber_45 : decode prog_5_method_6_code 45 = .ok (.goto 9, 3) := by decide +kernel
theorem d_D_takeNumber_48 : decode prog_5_method_6_code 48 = .ok (.aload_n 0, 1) := by decide +kernel
theorem d_D_takeNumber_49 : decode prog_5_method_6_code 49 = .ok (.invokevirtual 54, 3) := by decide +kernel
theorem d_D_takeNumber_52 : decode prog_5_method_6_code 52 = .ok (.iload_n 3, 1) := by decide +kernel
theorem d_D_takeNumber_53 : decode prog_5_method_6_code 53 = .ok (.ireturn, 1) := by decide +kernel
theorem d_D_takeNumber_54 : decode prog_5_method_6_code 54 = .ok (.iload_n 1, 1) := by decide +kernel
theorem d_D_takeNumber_55 : decode prog_5_method_6_code 55 = .ok (.ireturn, 1) := by decide +kernel
theorem d_T_write_0 : decode prog_8_method_3_code 0 = .ok (.aload_n 0, 1) := by decide +kernel
theorem d_T_write_1 : decode prog_8_method_3_code 1 = .ok (.getfield 24, 3) := by decide +kernel
theorem d_T_write_4 : decode prog_8_method_3_code 4 = .ok (.sipush 300, 3) := by decide +kernel
theorem d_T_write_7 : decode prog_8_method_3_code 7 = .ok (.if_icmp .ge 28, 3) := by decide +kernel
theorem d_T_write_10 : decode prog_8_method_3_code 10 = .ok (.aload_n 0, 1) := by decide +kernel
theorem d_T_write_11 : decode prog_8_method_3_code 11 = .ok (.getfield 9, 3) := by decide +kernel
theorem d_T_write_14 : decode prog_8_method_3_code 14 = .ok (.aload_n 0, 1) := by decide +kernel
theorem d_T_write_15 : decode prog_8_method_3_code 15 = .ok (.getfield 24, 3) := by decide +kernel
theorem d_T_write_18 : decode prog_8_method_3_code 18 = .ok (.iload_n 2, 1) := by decide +kernel
theorem d_T_write_19 : decode prog_8_method_3_code 19 = .ok (.bipush 64, 2) := by decide +kernel
theorem d_T_write_21 : decode prog_8_method_3_code 21 = .ok (.imul, 1) := by decide +kernel
theorem d_T_write_22 : decode prog_8_method_3_code 22 = .ok (.iload_n 1, 1) := by decide +kernel
theorem d_T_write_23 : decode prog_8_method_3_code 23 = .ok (.iadd, 1) := by decide +kernel
theorem d_T_write_24 : decode prog_8_method_3_code 24 = .ok (.iastore, 1) := by decide +kernel
theorem d_T_write_25 : decode prog_8_method_3_code 25 = .ok (.aload_n 0, 1) := by decide +kernel
theorem d_T_write_26 : decode prog_8_method_3_code 26 = .ok (.dup, 1) := by decide +kernel
theorem d_T_write_27 : decode prog_8_method_3_code 27 = .ok (.getfield 24, 3) := by decide +kernel
theorem d_T_write_30 : decode prog_8_method_3_code 30 = .ok (.iconst 1, 1) := by decide +kernel
theorem d_T_write_31 : decode prog_8_method_3_code 31 = .ok (.iadd, 1) := by decide +kernel
theorem d_T_write_32 : decode prog_8_method_3_code 32 = .ok (.putfield 24, 3) := by decide +kernel
theorem d_T_write_35 : decode prog_8_method_3_code 35 = .ok (.aload_n 0, 1) := by decide +kernel
theorem d_T_write_36 : decode prog_8_method_3_code 36 = .ok (.getfield 24, 3) := by decide +kernel
theorem d_T_write_39 : decode prog_8_method_3_code 39 = .ok (.iconst 1, 1) := by decide +kernel
theorem d_T_write_40 : decode prog_8_method_3_code 40 = .ok (.isub, 1) := by decide +kernel
theorem d_T_write_41 : decode prog_8_method_3_code 41 = .ok (.ireturn, 1) := by decide +kernel
theorem d_D_readOpenOne_0 : decode prog_5_method_17_code 0 = .ok (.aload_n 0, 1) := by decide +kernel
theorem d_D_readOpenOne_1 : decode prog_5_method_17_code 1 = .ok (.getfield 32, 3) := by decide +kernel
theorem d_D_readOpenOne_4 : decode prog_5_method_17_code 4 = .ok (.istore_n 2, 1) := by decide +kernel
theorem d_D_readOpenOne_5 : decode prog_5_method_17_code 5 = .ok (.iload_n 1, 1) := by decide +kernel
theorem d_D_readOpenOne_6 : decode prog_5_method_17_code 6 = .ok (.bipush 8, 2) := by decide +kernel
theorem d_D_readOpenOne_8 : decode prog_5_method_17_code 8 = .ok (.if_icmp .lt 9, 3) := by decide +kernel
theorem d_D_readOpenOne_11 : decode prog_5_method_17_code 11 = .ok (.aload_n 0, 1) := by decide +kernel
theorem d_D_readOpenOne_12 : decode prog_5_method_17_code 12 = .ok (.iconst 3, 1) := by decide +kernel
theorem d_D_readOpenOne_13 : decode prog_5_method_17_code 13 = .ok (.invokevirtual 57, 3) := by decide +kernel
theorem d_D_readOpenOne_16 : decode prog_5_method_17_code 16 = .ok (.return_, 1) := by decide +kernel
theorem d_D_readOpenOne_17 : decode prog_5_method_17_code 17 = .ok (.aload_n 0, 1) := by decide +kernel
theorem d_D_readOpenOne_18 : decode prog_5_method_17_code 18 = .ok (.invokevirtual 54, 3) := by decide +kernel
theorem d_D_readOpenOne_21 : decode prog_5_method_17_code 21 = .ok (.iload_n 2, 1) := by decide +kernel
theorem d_D_readOpenOne_22 : decode prog_5_method_17_code 22 = .ok (.bipush 40, 2) := by decide +kernel
theorem d_D_readOpenOne_24 : decode prog_5_method_17_code 24 = .ok (.if_icmp .ne 19, 3) := by decide +kernel
theorem d_D_readOpenOne_27 : decode prog_5_method_17_code 27 = .ok (.aload_n 0, 1) := by decide +kernel
theorem d_D_readOpenOne_28 : decode prog_5_method_17_code 28 = .ok (.iload_n 1, 1) := by decide +kernel
theorem d_D_readOpenOne_29 : decode prog_5_method_17_code 29 = .ok (.iconst 1, 1) := by decide +kernel
theorem d_D_readOpenOne_30 : decode prog_5_method_17_code 30 = .ok (.iadd, 1) := by decide +kernel
theorem d_D_readOpenOne_31 : decode prog_5_method_17_code 31 = .ok (.invokevirtual 93, 3) := by decide +kernel
theorem d_D_readOpenOne_34 : decode prog_5_method_17_code 34 = .ok (.aload_n 0, 1) := by decide +kernel
theorem d_D_readOpenOne_35 : decode prog_5_method_17_code 35 = .ok (.bipush 41, 2) := by decide +kernel
theorem d_D_readOpenOne_37 : decode prog_5_method_17_code 37 = .ok (.invokevirtual 84, 3) := by decide +kernel
theorem d_D_readOpenOne_40 : decode prog_5_method_17_code 40 = .ok (.goto 47, 3) := by decide +kernel
theorem d_D_readOpenOne_43 : decode prog_5_method_17_code 43 = .ok (.iload_n 2, 1) := by decide +kernel
theorem d_D_readOpenOne_44 : decode prog_5_method_17_code 44 = .ok (.bipush 19, 2) := by decide +kernel
theorem d_D_readOpenOne_46 : decode prog_5_method_17_code 46 = .ok (.if_icmp .ne 13, 3) := by decide +kernel
theorem d_D_readOpenOne_49 : decode prog_5_method_17_code 49 = .ok (.aload_n 0, 1) := by decide +kernel
theorem d_D_readOpenOne_50 : decode prog_5_method_17_code 50 = .ok (.iload_n 1, 1) := by decide +kernel
theorem d_D_readOpenOne_51 : decode prog_5_method_17_code 51 = .ok (.iconst 1, 1) := by decide +kernel
theorem d_D_readOpenOne_52 : decode prog_5_method_17_code 52 = .ok (.iadd, 1) := by decide +kernel
theorem d_D_readOpenOne_53 : decode prog_5_method_17_code 53 = .ok (.invokevirtual 148, 3) := by decide +kernel
theorem d_D_readOpenOne_56 : decode prog_5_method_17_code 56 = .ok (.goto 31, 3) := by decide +kernel
theorem d_D_readOpenOne_59 : decode prog_5_method_17_code 59 = .ok (.aload_n 0, 1) := by decide +kernel
theorem d_D_readOpenOne_60 : decode prog_5_method_17_code 60 = .ok (.iload_n 1, 1) := by decide +kernel
theorem d_D_readOpenOne_61 : decode prog_5_method_17_code 61 = .ok (.iconst 1, 1) := by decide +kernel
theorem d_D_readOpenOne_62 : decode prog_5_method_17_code 62 = .ok (.iadd, 1) := by decide +kernel
theorem d_D_readOpenOne_63 : decode prog_5_method_17_code 63 = .ok (.invokevirtual 139, 3) := by decide +kernel
theorem d_D_readOpenOne_66 : decode prog_5_method_17_code 66 = .ok (.aload_n 0, 1) := by decide +kernel
theorem d_D_readOpenOne_67 : decode prog_5_method_17_code 67 = .ok (.getfield 34, 3) := by decide +kernel
theorem d_D_readOpenOne_70 : decode prog_5_method_17_code 70 = .ok (.iload_n 2, 1) := by decide +kernel
theorem d_D_readOpenOne_71 : decode prog_5_method_17_code 71 = .ok (.bipush 37, 2) := by decide +kernel
theorem d_D_readOpenOne_73 : decode prog_5_method_17_code 73 = .ok (.if_icmp .ne 8, 3) := by decide +kernel
theorem d_D_readOpenOne_76 : decode prog_5_method_17_code 76 = .ok (.bipush 48, 2) := by decide +kernel
theorem d_D_readOpenOne_78 : decode prog_5_method_17_code 78 = .ok (.goto 4, 3) := by decide +kernel
theorem d_D_readOpenOne_81 : decode prog_5_method_17_code 81 = .ok (.iload_n 2, 1) := by decide +kernel
theorem d_D_readOpenOne_82 : decode prog_5_method_17_code 82 = .ok (.iconst 0, 1) := by decide +kernel
theorem d_D_readOpenOne_83 : decode prog_5_method_17_code 83 = .ok (.invokevirtual 136, 3) := by decide +kernel
theorem d_D_readOpenOne_86 : decode prog_5_method_17_code 86 = .ok (.pop, 1) := by decide +kernel
theorem d_D_readOpenOne_87 : decode prog_5_method_17_code 87 = .ok (.return_, 1) := by decide +kernel
theorem d_D_expect_0 : decode prog_5_method_5_code 0 = .ok (.aload_n 0, 1) := by decide +kernel
theorem d_D_expect_1 : decode prog_5_method_5_code 1 = .ok (.getfield 32, 3) := by decide +kernel
theorem d_D_expect_4 : decode prog_5_method_5_code 4 = .ok (.iload_n 1, 1) := by decide +kernel
theorem d_D_expect_5 : decode prog_5_method_5_code 5 = .ok (.if_icmp .ne 10, 3) := by decide +kernel
theorem d_D_expect_8 : decode prog_5_method_5_code 8 = .ok (.aload_n 0, 1) := by decide +kernel
theorem d_D_expect_9 : decode prog_5_method_5_code 9 = .ok (.invokevirtual 54, 3) := by decide +kernel
theorem d_D_expect_12 : decode prog_5_method_5_code 12 = .ok (.goto 8, 3) := by decide +kernel
theorem d_D_expect_15 : decode prog_5_method_5_code 15 = .ok (.aload_n 0, 1) := by decide +kernel
theorem d_D_expect_16 : decode prog_5_method_5_code 16 = .ok (.iconst 1, 1) := by decide +kernel
theorem d_D_expect_17 : decode prog_5_method_5_code 17 = .ok (.invokevirtual 57, 3) := by decide +kernel
theorem d_D_expect_20 : decode prog_5_method_5_code 20 = .ok (.return_, 1) := by decide +kernel
theorem d_D_readChoice_0 : decode prog_5_method_18_code 0 = .ok (.aload_n 0, 1) := by decide +kernel
theorem d_D_readChoice_1 : decode prog_5_method_18_code 1 = .ok (.iload_n 1, 1) := by decide +kernel
theorem d_D_readChoice_2 : decode prog_5_method_18_code 2 = .ok (.invokevirtual 151, 3) := by decide +kernel
theorem d_D_readChoice_5 : decode prog_5_method_18_code 5 = .ok (.aload_n 0, 1) := by decide +kernel
theorem d_D_readChoice_6 : decode prog_5_method_18_code 6 = .ok (.bipush 20, 2) := by decide +kernel
theorem d_D_readChoice_8 : decode prog_5_method_18_code 8 = .ok (.invokevirtual 84, 3) := by decide +kernel
theorem d_D_readChoice_11 : decode prog_5_method_18_code 11 = .ok (.aload_n 0, 1) := by decide +kernel
theorem d_D_readChoice_12 : decode prog_5_method_18_code 12 = .ok (.getfield 34, 3) := by decide +kernel
theorem d_D_readChoice_15 : decode prog_5_method_18_code 15 = .ok (.bipush 20, 2) := by decide +kernel
theorem d_D_readChoice_17 : decode prog_5_method_18_code 17 = .ok (.iconst 0, 1) := by decide +kernel
theorem d_D_readChoice_18 : decode prog_5_method_18_code 18 = .ok (.invokevirtual 136, 3) := by decide +kernel
theorem d_D_readChoice_21 : decode prog_5_method_18_code 21 = .ok (.istore_n 2, 1) := by decide +kernel
theorem d_D_readChoice_22 : decode prog_5_method_18_code 22 = .ok (.aload_n 0, 1) := by decide +kernel
theorem d_D_readChoice_23 : decode prog_5_method_18_code 23 = .ok (.iload_n 1, 1) := by decide +kernel
theorem d_D_readChoice_24 : decode prog_5_method_18_code 24 = .ok (.invokevirtual 93, 3) := by decide +kernel
theorem d_D_readChoice_27 : decode prog_5_method_18_code 27 = .ok (.aload_n 0, 1) := by decide +kernel
theorem d_D_readChoice_28 : decode prog_5_method_18_code 28 = .ok (.bipush 21, 2) := by decide +kernel
theorem d_D_readChoice_30 : decode prog_5_method_18_code 30 = .ok (.invokevirtual 84, 3) := by decide +kernel
theorem d_D_readChoice_33 : decode prog_5_method_18_code 33 = .ok (.aload_n 0, 1) := by decide +kernel
theorem d_D_readChoice_34 : decode prog_5_method_18_code 34 = .ok (.getfield 34, 3) := by decide +kernel
theorem d_D_readChoice_37 : decode prog_5_method_18_code 37 = .ok (.bipush 21, 2) := by decide +kernel
theorem d_D_readChoice_39 : decode prog_5_method_18_code 39 = .ok (.iconst 0, 1) := by decide +kernel
theorem d_D_readChoice_40 : decode prog_5_method_18_code 40 = .ok (.invokevirtual 136, 3) := by decide +kernel
theorem d_D_readChoice_43 : decode prog_5_method_18_code 43 = .ok (.istore_n 3, 1) := by decide +kernel
theorem d_D_readChoice_44 : decode prog_5_method_18_code 44 = .ok (.aload_n 0, 1) := by decide +kernel
theorem d_D_readChoice_45 : decode prog_5_method_18_code 45 = .ok (.getfield 34, 3) := by decide +kernel
theorem d_D_readChoice_48 : decode prog_5_method_18_code 48 = .ok (.iload_n 2, 1) := by decide +kernel
theorem d_D_readChoice_49 : decode prog_5_method_18_code 49 = .ok (.aload_n 0, 1) := by decide +kernel
theorem d_D_readChoice_50 : decode prog_5_method_18_code 50 = .ok (.getfield 34, 3) := by decide +kernel
theorem d_D_readChoice_53 : decode prog_5_method_18_code 53 = .ok (.getfield 90, 3) := by decide +kernel
theorem d_D_readChoice_56 : decode prog_5_method_18_code 56 = .ok (.invokevirtual 154, 3) := by decide +kernel
theorem d_D_readChoice_59 : decode prog_5_method_18_code 59 = .ok (.aload_n 0, 1) := by decide +kernel
theorem d_D_readChoice_60 : decode prog_5_method_18_code 60 = .ok (.iload_n 1, 1) := by decide +kernel
theorem d_D_readChoice_61 : decode prog_5_method_18_code 61 = .ok (.invokevirtual 93, 3) := by decide +kernel
theorem d_D_readChoice_64 : decode prog_5_method_18_code 64 = .ok (.aload_n 0, 1) := by decide +kernel
theorem d_D_readChoice_65 : decode prog_5_method_18_code 65 = .ok (.bipush 22, 2) := by decide +kernel
theorem d_D_readChoice_67 : decode prog_5_method_18_code 67 = .ok (.invokevirtual 84, 3) := by decide +kernel
theorem d_D_readChoice_70 : decode prog_5_method_18_code 70 = .ok (.aload_n 0, 1) := by decide +kernel
theorem d_D_readChoice_71 : decode prog_5_method_18_code 71 = .ok (.getfield 34, 3) := by decide +kernel
theorem d_D_readChoice_74 : decode prog_5_method_18_code 74 = .ok (.iload_n 3, 1) := by decide +kernel
theorem d_D_readChoice_75 : decode prog_5_method_18_code 75 = .ok (.aload_n 0, 1) := by decide +kernel
theorem d_D_readChoice_76 : decode prog_5_method_18_code 76 = .ok (.getfield 34, 3) := by decide +kernel
theorem d_D_readChoice_79 : decode prog_5_method_18_code 79 = .ok (.getfield 90, 3) := by decide +kernel
theorem d_D_readChoice_82 : decode prog_5_method_18_code 82 = .ok (.invokevirtual 154, 3) := by decide +kernel
theorem d_D_readChoice_85 : decode prog_5_method_18_code 85 = .ok (.return_, 1) := by decide +kernel
theorem d_D_readEither_0 : decode prog_5_method_19_code 0 = .ok (.aload_n 0, 1) := by decide +kernel
theorem d_D_readEither_1 : decode prog_5_method_19_code 1 = .ok (.iload_n 1, 1) := by decide +kernel
theorem d_D_readEither_2 : decode prog_5_method_19_code 2 = .ok (.invokevirtual 157, 3) := by decide +kernel
theorem d_D_readEither_5 : decode prog_5_method_19_code 5 = .ok (.iconst 0, 1) := by decide +kernel
theorem d_D_readEither_6 : decode prog_5_method_19_code 6 = .ok (.istore_n 2, 1) := by decide +kernel
theorem d_D_readEither_7 : decode prog_5_method_19_code 7 = .ok (.iload_n 2, 1) := by decide +kernel
theorem d_D_readEither_8 : decode prog_5_method_19_code 8 = .ok (.sipush 300, 3) := by decide +kernel
theorem d_D_readEither_11 : decode prog_5_method_19_code 11 = .ok (.if_icmp .ge 38, 3) := by decide +kernel
theorem d_D_readEither_14 : decode prog_5_method_19_code 14 = .ok (.aload_n 0, 1) := by decide +kernel
theorem d_D_readEither_15 : decode prog_5_method_19_code 15 = .ok (.getfield 32, 3) := by decide +kernel
theorem d_D_readEither_18 : decode prog_5_method_19_code 18 = .ok (.bipush 23, 2) := by decide +kernel
theorem d_D_readEither_20 : decode prog_5_method_19_code 20 = .ok (.if_icmp .ne 29, 3) := by decide +kernel
theorem d_D_readEither_23 : decode prog_5_method_19_code 23 = .ok (.aload_n 0, 1) := by decide +kernel
theorem d_D_readEither_24 : decode prog_5_method_19_code 24 = .ok (.invokevirtual 54, 3) := by decide +kernel
theorem d_D_readEither_27 : decode prog_5_method_19_code 27 = .ok (.aload_n 0, 1) := by decide +kernel
theorem d_D_readEither_28 : decode prog_5_method_19_code 28 = .ok (.iload_n 1, 1) := by decide +kernel
theorem d_D_readEither_29 : decode prog_5_method_19_code 29 = .ok (.invokevirtual 157, 3) := by decide +kernel
theorem d_D_readEither_32 : decode prog_5_method_19_code 32 = .ok (.aload_n 0, 1) := by decide +kernel
theorem d_D_readEither_33 : decode prog_5_method_19_code 33 = .ok (.getfield 34, 3) := by decide +kernel
theorem d_D_readEither_36 : decode prog_5_method_19_code 36 = .ok (.bipush 23, 2) := by decide +kernel
theorem d_D_readEither_38 : decode prog_5_method_19_code 38 = .ok (.iconst 0, 1) := by decide +kernel
theorem d_D_readEither_39 : decode prog_5_method_19_code 39 = .ok (.invokevirtual 136, 3) := by decide +kernel
theorem d_D_readEither_42 : decode prog_5_method_19_code 42 = .ok (.pop, 1) := by decide +kernel
theorem d_D_readEither_43 : decode prog_5_method_19_code 43 = .ok (.iinc 2 1, 3) := by decide +kernel
theorem d_D_readEither_46 : decode prog_5_method_19_code 46 = .ok (.goto (-39), 3) := by decide +kernel
theorem d_D_readEither_49 : decode prog_5_method_19_code 49 = .ok (.return_, 1) := by decide +kernel
theorem d_D_readBoth_0 : decode prog_5_method_20_code 0 = .ok (.aload_n 0, 1) := by decide +kernel
theorem d_D_readBoth_1 : decode prog_5_method_20_code 1 = .ok (.iload_n 1, 1) := by decide +kernel
theorem d_D_readBoth_2 : decode prog_5_method_20_code 2 = .ok (.invokevirtual 160, 3) := by decide +kernel
theorem d_D_readBoth_5 : decode prog_5_method_20_code 5 = .ok (.iconst 0, 1) := by decide +kernel
theorem d_D_readBoth_6 : decode prog_5_method_20_code 6 = .ok (.istore_n 2, 1) := by decide +kernel
theorem d_D_readBoth_7 : decode prog_5_method_20_code 7 = .ok (.iload_n 2, 1) := by decide +kernel
theorem d_D_readBoth_8 : decode prog_5_method_20_code 8 = .ok (.sipush 300, 3) := by decide +kernel
theorem d_D_readBoth_11 : decode prog_5_method_20_code 11 = .ok (.if_icmp .ge 38, 3) := by decide +kernel
theorem d_D_readBoth_14 : decode prog_5_method_20_code 14 = .ok (.aload_n 0, 1) := by decide +kernel
theorem d_D_readBoth_15 : decode prog_5_method_20_code 15 = .ok (.getfield 32, 3) := by decide +kernel
theorem d_D_readBoth_18 : decode prog_5_method_20_code 18 = .ok (.bipush 24, 2) := by decide +kernel
theorem d_D_readBoth_20 : decode prog_5_method_20_code 20 = .ok (.if_icmp .ne 29, 3) := by decide +kernel
theorem d_D_readBoth_23 : decode prog_5_method_20_code 23 = .ok (.aload_n 0, 1) := by decide +kernel
theorem d_D_readBoth_24 : decode prog_5_method_20_code 24 = .ok (.invokevirtual 54, 3) := by decide +kernel
theorem d_D_readBoth_27 : decode prog_5_method_20_code 27 = .ok (.aload_n 0, 1) := by decide +kernel
theorem d_D_readBoth_28 : decode prog_5_method_20_code 28 = .ok (.iload_n 1, 1) := by decide +kernel
theorem d_D_readBoth_29 : decode prog_5_method_20_code 29 = .ok (.invokevirtual 160, 3) := by decide +kernel
theorem d_D_readBoth_32 : decode prog_5_method_20_code 32 = .ok (.aload_n 0, 1) := by decide +kernel
theorem d_D_readBoth_33 : decode prog_5_method_20_code 33 = .ok (.getfield 34, 3) := by decide +kernel
theorem d_D_readBoth_36 : decode prog_5_method_20_code 36 = .ok (.bipush 24, 2) := by decide +kernel
theorem d_D_readBoth_38 : decode prog_5_method_20_code 38 = .ok (.iconst 0, 1) := by decide +kernel
theorem d_D_readBoth_39 : decode prog_5_method_20_code 39 = .ok (.invokevirtual 136, 3) := by decide +kernel
theorem d_D_readBoth_42 : decode prog_5_method_20_code 42 = .ok (.pop, 1) := by decide +kernel
theorem d_D_readBoth_43 : decode prog_5_method_20_code 43 = .ok (.iinc 2 1, 3) := by decide +kernel
theorem d_D_readBoth_46 : decode prog_5_method_20_code 46 = .ok (.goto (-39), 3) := by decide +kernel
theorem d_D_readBoth_49 : decode prog_5_method_20_code 49 = .ok (.return_, 1) := by decide +kernel
theorem d_D_readAsk_0 : decode prog_5_method_21_code 0 = .ok (.aload_n 0, 1) := by decide +kernel
theorem d_D_readAsk_1 : decode prog_5_method_21_code 1 = .ok (.getfield 32, 3) := by decide +kernel
theorem d_D_readAsk_4 : decode prog_5_method_21_code 4 = .ok (.bipush 25, 2) := by decide +kernel
theorem d_D_readAsk_6 : decode prog_5_method_21_code 6 = .ok (.if_icmp .ne 9, 3) := by decide +kernel
theorem d_D_readAsk_9 : decode prog_5_method_21_code 9 = .ok (.aload_n 0, 1) := by decide +kernel
theorem d_D_readAsk_10 : decode prog_5_method_21_code 10 = .ok (.iload_n 1, 1) := by decide +kernel
theorem d_D_readAsk_11 : decode prog_5_method_21_code 11 = .ok (.invokevirtual 163, 3) := by decide +kernel
theorem d_D_readAsk_14 : decode prog_5_method_21_code 14 = .ok (.return_, 1) := by decide +kernel
theorem d_D_readAsk_15 : decode prog_5_method_21_code 15 = .ok (.aload_n 0, 1) := by decide +kernel
theorem d_D_readAsk_16 : decode prog_5_method_21_code 16 = .ok (.iload_n 1, 1) := by decide +kernel
theorem d_D_readAsk_17 : decode prog_5_method_21_code 17 = .ok (.invokevirtual 93, 3) := by decide +kernel
theorem d_D_readAsk_20 : decode prog_5_method_21_code 20 = .ok (.aload_n 0, 1) := by decide +kernel
theorem d_D_readAsk_21 : decode prog_5_method_21_code 21 = .ok (.getfield 32, 3) := by decide +kernel
theorem d_D_readAsk_24 : decode prog_5_method_21_code 24 = .ok (.istore_n 2, 1) := by decide +kernel
theorem d_D_readAsk_25 : decode prog_5_method_21_code 25 = .ok (.iload_n 2, 1) := by decide +kernel
theorem d_D_readAsk_26 : decode prog_5_method_21_code 26 = .ok (.bipush 32, 2) := by decide +kernel
theorem d_D_readAsk_28 : decode prog_5_method_21_code 28 = .ok (.if_icmp .lt 9, 3) := by decide +kernel
theorem d_D_readAsk_31 : decode prog_5_method_21_code 31 = .ok (.iload_n 2, 1) := by decide +kernel
theorem d_D_readAsk_32 : decode prog_5_method_21_code 32 = .ok (.bipush 35, 2) := by decide +kernel
theorem d_D_readAsk_34 : decode prog_5_method_21_code 34 = .ok (.if_icmp .le 15, 3) := by decide +kernel
theorem d_D_readAsk_37 : decode prog_5_method_21_code 37 = .ok (.iload_n 2, 1) := by decide +kernel
theorem d_D_readAsk_38 : decode prog_5_method_21_code 38 = .ok (.bipush 43, 2) := by decide +kernel
theorem d_D_readAsk_40 : decode prog_5_method_21_code 40 = .ok (.if_icmp .eq 9, 3) := by decide +kernel
theorem d_D_readAsk_43 : decode prog_5_method_21_code 43 = .ok (.iload_n 2, 1) := by decide +kernel
theorem d_D_readAsk_44 : decode prog_5_method_21_code 44 = .ok (.bipush 44, 2) := by decide +kernel
theorem d_D_readAsk_46 : decode prog_5_method_21_code 46 = .ok (.if_icmp .ne 25, 3) := by decide +kernel
theorem d_D_readAsk_49 : decode prog_5_method_21_code 49 = .ok (.aload_n 0, 1) := by decide +kernel
theorem d_D_readAsk_50 : decode prog_5_method_21_code 50 = .ok (.invokevirtual 54, 3) := by decide +kernel
theorem d_D_readAsk_53 : decode prog_5_method_21_code 53 = .ok (.aload_n 0, 1) := by decide +kernel
theorem d_D_readAsk_54 : decode prog_5_method_21_code 54 = .ok (.iload_n 1, 1) := by decide +kernel
theorem d_D_readAsk_55 : decode prog_5_method_21_code 55 = .ok (.invokevirtual 93, 3) := by decide +kernel
theorem d_D_readAsk_58 : decode prog_5_method_21_code 58 = .ok (.aload_n 0, 1) := by decide +kernel
theorem d_D_readAsk_59 : decode prog_5_method_21_code 59 = .ok (.getfield 34, 3) := by decide +kernel
theorem d_D_readAsk_62 : decode prog_5_method_21_code 62 = .ok (.iload_n 2, 1) := by decide +kernel
theorem d_D_readAsk_63 : decode prog_5_method_21_code 63 = .ok (.iconst 0, 1) := by decide +kernel
theorem d_D_readAsk_64 : decode prog_5_method_21_code 64 = .ok (.invokevirtual 136, 3) := by decide +kernel
theorem d_D_readAsk_67 : decode prog_5_method_21_code 67 = .ok (.pop, 1) := by decide +kernel
theorem d_D_readAsk_68 : decode prog_5_method_21_code 68 = .ok (.goto 8, 3) := by decide +kernel
theorem d_D_readAsk_71 : decode prog_5_method_21_code 71 = .ok (.aload_n 0, 1) := by decide +kernel
theorem d_D_readAsk_72 : decode prog_5_method_21_code 72 = .ok (.iconst 1, 1) := by decide +kernel
theorem d_D_readAsk_73 : decode prog_5_method_21_code 73 = .ok (.invokevirtual 57, 3) := by decide +kernel
theorem d_D_readAsk_76 : decode prog_5_method_21_code 76 = .ok (.return_, 1) := by decide +kernel
theorem d_D_readNot_0 : decode prog_5_method_22_code 0 = .ok (.iload_n 1, 1) := by decide +kernel
theorem d_D_readNot_1 : decode prog_5_method_22_code 1 = .ok (.bipush 8, 2) := by decide +kernel
theorem d_D_readNot_3 : decode prog_5_method_22_code 3 = .ok (.if_icmp .lt 9, 3) := by decide +kernel
theorem d_D_readNot_6 : decode prog_5_method_22_code 6 = .ok (.aload_n 0, 1) := by decide +kernel
theorem d_D_readNot_7 : decode prog_5_method_22_code 7 = .ok (.iconst 3, 1) := by decide +kernel
theorem d_D_readNot_8 : decode prog_5_method_22_code 8 = .ok (.invokevirtual 57, 3) := by decide +kernel
theorem d_D_readNot_11 : decode prog_5_method_22_code 11 = .ok (.return_, 1) := by decide +kernel
theorem d_D_readNot_12 : decode prog_5_method_22_code 12 = .ok (.aload_n 0, 1) := by decide +kernel
theorem d_D_readNot_13 : decode prog_5_method_22_code 13 = .ok (.invokevirtual 54, 3) := by decide +kernel
theorem d_D_readNot_16 : decode prog_5_method_22_code 16 = .ok (.aload_n 0, 1) := by decide +kernel
theorem d_D_readNot_17 : decode prog_5_method_22_code 17 = .ok (.iload_n 1, 1) := by decide +kernel
theorem d_D_readNot_18 : decode prog_5_method_22_code 18 = .ok (.iconst 1, 1) := by decide +kernel
theorem d_D_readNot_19 : decode prog_5_method_22_code 19 = .ok (.iadd, 1) := by decide +kernel
theorem d_D_readNot_20 : decode prog_5_method_22_code 20 = .ok (.invokevirtual 160, 3) := by decide +kernel
theorem d_D_readNot_23 : decode prog_5_method_22_code 23 = .ok (.aload_n 0, 1) := by decide +kernel
theorem d_D_readNot_24 : decode prog_5_method_22_code 24 = .ok (.getfield 34, 3) := by decide +kernel
theorem d_D_readNot_27 : decode prog_5_method_22_code 27 = .ok (.bipush 25, 2) := by decide +kernel
theorem d_D_readNot_29 : decode prog_5_method_22_code 29 = .ok (.iconst 0, 1) := by decide +kernel
theorem d_D_readNot_30 : decode prog_5_method_22_code 30 = .ok (.invokevirtual 136, 3) := by decide +kernel
theorem d_D_readNot_33 : decode prog_5_method_22_code 33 = .ok (.pop, 1) := by decide +kernel
theorem d_D_readNot_34 : decode prog_5_method_22_code 34 = .ok (.return_, 1) := by decide +kernel
theorem d_T_aim_0 : decode prog_8_method_4_code 0 = .ok (.iload_n 1, 1) := by decide +kernel
theorem d_T_aim_1 : decode prog_8_method_4_code 1 = .ok (.ifCond .lt 30, 3) := by decide +kernel
theorem d_T_aim_4 : decode prog_8_method_4_code 4 = .ok (.iload_n 1, 1) := by decide +kernel
theorem d_T_aim_5 : decode prog_8_method_4_code 5 = .ok (.sipush 300, 3) := by decide +kernel
theorem d_T_aim_8 : decode prog_8_method_4_code 8 = .ok (.if_icmp .ge 23, 3) := by decide +kernel
theorem d_T_aim_11 : decode prog_8_method_4_code 11 = .ok (.aload_n 0, 1) := by decide +kernel
theorem d_T_aim_12 : decode prog_8_method_4_code 12 = .ok (.getfield 9, 3) := by decide +kernel
theorem d_T_aim_15 : decode prog_8_method_4_code 15 = .ok (.iload_n 1, 1) := by decide +kernel
theorem d_T_aim_16 : decode prog_8_method_4_code 16 = .ok (.aload_n 0, 1) := by decide +kernel
theorem d_T_aim_17 : decode prog_8_method_4_code 17 = .ok (.getfield 9, 3) := by decide +kernel
theorem d_T_aim_20 : decode prog_8_method_4_code 20 = .ok (.iload_n 1, 1) := by decide +kernel
theorem d_T_aim_21 : decode prog_8_method_4_code 21 = .ok (.iaload, 1) := by decide +kernel
theorem d_T_aim_22 : decode prog_8_method_4_code 22 = .ok (.bipush 64, 2) := by decide +kernel
theorem d_T_aim_24 : decode prog_8_method_4_code 24 = .ok (.irem, 1) := by decide +kernel
theorem d_T_aim_25 : decode prog_8_method_4_code 25 = .ok (.iload_n 2, 1) := by decide +kernel
theorem d_T_aim_26 : decode prog_8_method_4_code 26 = .ok (.bipush 64, 2) := by decide +kernel
theorem d_T_aim_28 : decode prog_8_method_4_code 28 = .ok (.imul, 1) := by decide +kernel
theorem d_T_aim_29 : decode prog_8_method_4_code 29 = .ok (.iadd, 1) := by decide +kernel
theorem d_T_aim_30 : decode prog_8_method_4_code 30 = .ok (.iastore, 1) := by decide +kernel
theorem d_T_aim_31 : decode prog_8_method_4_code 31 = .ok (.return_, 1) := by decide +kernel
theorem d_D_readName_0 : decode prog_5_method_16_code 0 = .ok (.aload_n 0, 1) := by decide +kernel
theorem d_D_readName_1 : decode prog_5_method_16_code 1 = .ok (.getfield 32, 3) := by decide +kernel
theorem d_D_readName_4 : decode prog_5_method_16_code 4 = .ok (.istore_n 1, 1) := by decide +kernel
theorem d_D_readName_5 : decode prog_5_method_16_code 5 = .ok (.iload_n 1, 1) := by decide +kernel
theorem d_D_readName_6 : decode prog_5_method_16_code 6 = .ok (.bipush 6, 2) := by decide +kernel
theorem d_D_readName_8 : decode prog_5_method_16_code 8 = .ok (.if_icmp .eq 15, 3) := by decide +kernel
theorem d_D_readName_11 : decode prog_5_method_16_code 11 = .ok (.iload_n 1, 1) := by decide +kernel
theorem d_D_readName_12 : decode prog_5_method_16_code 12 = .ok (.bipush 26, 2) := by decide +kernel
theorem d_D_readName_14 : decode prog_5_method_16_code 14 = .ok (.if_icmp .lt 13, 3) := by decide +kernel
theorem d_D_readName_17 : decode prog_5_method_16_code 17 = .ok (.iload_n 1, 1) := by decide +kernel
theorem d_D_readName_18 : decode prog_5_method_16_code 18 = .ok (.bipush 31, 2) := by decide +kernel
theorem d_D_readName_20 : decode prog_5_method_16_code 20 = .ok (.if_icmp .gt 7, 3) := by decide +kernel
theorem d_D_readName_23 : decode prog_5_method_16_code 23 = .ok (.iconst 1, 1) := by decide +kernel
theorem d_D_readName_24 : decode prog_5_method_16_code 24 = .ok (.goto 4, 3) := by decide +kernel
theorem d_D_readName_27 : decode prog_5_method_16_code 27 = .ok (.iconst 0, 1) := by decide +kernel
theorem d_D_readName_28 : decode prog_5_method_16_code 28 = .ok (.istore_n 2, 1) := by decide +kernel
theorem d_D_readName_29 : decode prog_5_method_16_code 29 = .ok (.iload_n 2, 1) := by decide +kernel
theorem d_D_readName_30 : decode prog_5_method_16_code 30 = .ok (.ifCond .ne 11, 3) := by decide +kernel
theorem d_D_readName_33 : decode prog_5_method_16_code 33 = .ok (.aload_n 0, 1) := by decide +kernel
theorem d_D_readName_34 : decode prog_5_method_16_code 34 = .ok (.iconst 1, 1) := by decide +kernel
theorem d_D_readName_35 : decode prog_5_method_16_code 35 = .ok (.invokevirtual 57, 3) := by decide +kernel
theorem d_D_readName_38 : decode prog_5_method_16_code 38 = .ok (.goto 51, 3) := by decide +kernel
theorem d_D_readName_41 : decode prog_5_method_16_code 41 = .ok (.iload_n 1, 1) := by decide +kernel
theorem d_D_readName_42 : decode prog_5_method_16_code 42 = .ok (.bipush 30, 2) := by decide +kernel
theorem d_D_readName_44 : decode prog_5_method_16_code 44 = .ok (.if_icmp .ne 10, 3) := by decide +kernel
theorem d_D_readName_47 : decode prog_5_method_16_code 47 = .ok (.aload_n 0, 1) := by decide +kernel
theorem d_D_readName_48 : decode prog_5_method_16_code 48 = .ok (.getfield 87, 3) := by decide +kernel
theorem d_D_readName_51 : decode prog_5_method_16_code 51 = .ok (.ifCond .eq 16, 3) := by decide +kernel
theorem d_D_readName_54 : decode prog_5_method_16_code 54 = .ok (.iload_n 1, 1) := by decide +kernel
theorem d_D_readName_55 : decode prog_5_method_16_code 55 = .ok (.bipush 31, 2) := by decide +kernel
theorem d_D_readName_57 : decode prog_5_method_16_code 57 = .ok (.if_icmp .ne 18, 3) := by decide +kernel
theorem d_D_readName_60 : decode prog_5_method_16_code 60 = .ok (.aload_n 0, 1) := by decide +kernel
theorem d_D_readName_61 : decode prog_5_method_16_code 61 = .ok (.getfield 87, 3) := by decide +kernel
theorem d_D_readName_64 : decode prog_5_method_16_code 64 = .ok (.ifCond .eq 11, 3) := by decide +kernel
theorem d_D_readName_67 : decode prog_5_method_16_code 67 = .ok (.aload_n 0, 1) := by decide +kernel
theorem d_D_readName_68 : decode prog_5_method_16_code 68 = .ok (.iconst 5, 1) := by decide +kernel
theorem d_D_readName_69 : decode prog_5_method_16_code 69 = .ok (.invokevirtual 57, 3) := by decide +kernel
theorem d_D_readName_72 : decode prog_5_method_16_code 72 = .ok (.goto 17, 3) := by decide +kernel
theorem d_D_readName_75 : decode prog_5_method_16_code 75 = .ok (.aload_n 0, 1) := by decide +kernel
theorem d_D_readName_76 : decode prog_5_method_16_code 76 = .ok (.getfield 34, 3) := by decide +kernel
theorem d_D_readName_79 : decode prog_5_method_16_code 79 = .ok (.iload_n 1, 1) := by decide +kernel
theorem d_D_readName_80 : decode prog_5_method_16_code 80 = .ok (.iconst 0, 1) := by decide +kernel
theorem d_D_readName_81 : decode prog_5_method_16_code 81 = .ok (.invokevirtual 136, 3) := by decide +kernel
theorem d_D_readName_84 : decode prog_5_method_16_code 84 = .ok (.pop, 1) := by decide +kernel
theorem d_D_readName_85 : decode prog_5_method_16_code 85 = .ok (.aload_n 0, 1) := by decide +kernel
theorem d_D_readName_86 : decode prog_5_method_16_code 86 = .ok (.invokevirtual 54, 3) := by decide +kernel
theorem d_D_readName_89 : decode prog_5_method_16_code 89 = .ok (.return_, 1) := by decide +kernel
theorem d_D_readDeed_0 : decode prog_5_method_9_code 0 = .ok (.iload_n 1, 1) := by decide +kernel
theorem d_D_readDeed_1 : decode prog_5_method_9_code 1 = .ok (.iconst 2, 1) := by decide +kernel
theorem d_D_readDeed_2 : decode prog_5_method_9_code 2 = .ok (.if_icmp .ne 20, 3) := by decide +kernel
theorem d_D_readDeed_5 : decode prog_5_method_9_code 5 = .ok (.aload_n 0, 1) := by decide +kernel
theorem d_D_readDeed_6 : decode prog_5_method_9_code 6 = .ok (.getfield 34, 3) := by decide +kernel
theorem d_D_readDeed_9 : decode prog_5_method_9_code 9 = .ok (.getfield 108, 3) := by decide +kernel
theorem d_D_readDeed_12 : decode prog_5_method_9_code 12 = .ok (.iload_n 2, 1) := by decide +kernel
theorem d_D_readDeed_13 : decode prog_5_method_9_code 13 = .ok (.aload_n 0, 1) := by decide +kernel
theorem d_D_readDeed_14 : decode prog_5_method_9_code 14 = .ok (.iconst 0, 1) := by decide +kernel
theorem d_D_readDeed_15 : decode prog_5_method_9_code 15 = .ok (.invokevirtual 111, 3) := by decide +kernel
theorem d_D_readDeed_18 : decode prog_5_method_9_code 18 = .ok (.iastore, 1) := by decide +kernel
theorem d_D_readDeed_19 : decode prog_5_method_9_code 19 = .ok (.goto 100, 3) := by decide +kernel
theorem d_D_readDeed_22 : decode prog_5_method_9_code 22 = .ok (.iload_n 1, 1) := by decide +kernel
theorem d_D_readDeed_23 : decode prog_5_method_9_code 23 = .ok (.bipush 6, 2) := by decide +kernel
theorem d_D_readDeed_25 : decode prog_5_method_9_code 25 = .ok (.if_icmp .ne 22, 3) := by decide +kernel
theorem d_D_readDeed_28 : decode prog_5_method_9_code 28 = .ok (.aload_n 0, 1) := by decide +kernel
theorem d_D_readDeed_29 : decode prog_5_method_9_code 29 = .ok (.getfield 34, 3) := by decide +kernel
theorem d_D_readDeed_32 : decode prog_5_method_9_code 32 = .ok (.getfield 108, 3) := by decide +kernel
theorem d_D_readDeed_35 : decode prog_5_method_9_code 35 = .ok (.iload_n 2, 1) := by decide +kernel
theorem d_D_readDeed_36 : decode prog_5_method_9_code 36 = .ok (.aload_n 0, 1) := by decide +kernel
theorem d_D_readDeed_37 : decode prog_5_method_9_code 37 = .ok (.iconst 1, 1) := by decide +kernel
theorem d_D_readDeed_38 : decode prog_5_method_9_code 38 = .ok (.bipush 60, 2) := by decide +kernel
theorem d_D_readDeed_40 : decode prog_5_method_9_code 40 = .ok (.invokevirtual 115, 3) := by decide +kernel
theorem d_D_readDeed_43 : decode prog_5_method_9_code 43 = .ok (.iastore, 1) := by decide +kernel
theorem d_D_readDeed_44 : decode prog_5_method_9_code 44 = .ok (.goto 75, 3) := by decide +kernel
theorem d_D_readDeed_47 : decode prog_5_method_9_code 47 = .ok (.iload_n 1, 1) := by decide +kernel
theorem d_D_readDeed_48 : decode prog_5_method_9_code 48 = .ok (.iconst 5, 1) := by decide +kernel
theorem d_D_readDeed_49 : decode prog_5_method_9_code 49 = .ok (.if_icmp .ne 22, 3) := by decide +kernel
theorem d_D_readDeed_52 : decode prog_5_method_9_code 52 = .ok (.aload_n 0, 1) := by decide +kernel
theorem d_D_readDeed_53 : decode prog_5_method_9_code 53 = .ok (.getfield 34, 3) := by decide +kernel
theorem d_D_readDeed_56 : decode prog_5_method_9_code 56 = .ok (.getfield 108, 3) := by decide +kernel
theorem d_D_readDeed_59 : decode prog_5_method_9_code 59 = .ok (.iload_n 2, 1) := by decide +kernel
theorem d_D_readDeed_60 : decode prog_5_method_9_code 60 = .ok (.aload_n 0, 1) := by decide +kernel
theorem d_D_readDeed_61 : decode prog_5_method_9_code 61 = .ok (.iconst 0, 1) := by decide +kernel
theorem d_D_readDeed_62 : decode prog_5_method_9_code 62 = .ok (.bipush 7, 2) := by decide +kernel
theorem d_D_readDeed_64 : decode prog_5_method_9_code 64 = .ok (.invokevirtual 115, 3) := by decide +kernel
theorem d_D_readDeed_67 : decode prog_5_method_9_code 67 = .ok (.iastore, 1) := by decide +kernel
theorem d_D_readDeed_68 : decode prog_5_method_9_code 68 = .ok (.goto 51, 3) := by decide +kernel
theorem d_D_readDeed_71 : decode prog_5_method_9_code 71 = .ok (.aload_n 0, 1) := by decide +kernel
theorem d_D_readDeed_72 : decode prog_5_method_9_code 72 = .ok (.getfield 34, 3) := by decide +kernel
theorem d_D_readDeed_75 : decode prog_5_method_9_code 75 = .ok (.getfield 108, 3) := by decide +kernel
theorem d_D_readDeed_78 : decode prog_5_method_9_code 78 = .ok (.iload_n 2, 1) := by decide +kernel
theorem d_D_readDeed_79 : decode prog_5_method_9_code 79 = .ok (.aload_n 0, 1) := by decide +kernel
theorem d_D_readDeed_80 : decode prog_5_method_9_code 80 = .ok (.iconst 0, 1) := by decide +kernel
theorem d_D_readDeed_81 : decode prog_5_method_9_code 81 = .ok (.bipush 19, 2) := by decide +kernel
theorem d_D_readDeed_83 : decode prog_5_method_9_code 83 = .ok (.invokevirtual 115, 3) := by decide +kernel
theorem d_D_readDeed_86 : decode prog_5_method_9_code 86 = .ok (.iastore, 1) := by decide +kernel
theorem d_D_readDeed_87 : decode prog_5_method_9_code 87 = .ok (.aload_n 0, 1) := by decide +kernel
theorem d_D_readDeed_88 : decode prog_5_method_9_code 88 = .ok (.iload_n 1, 1) := by decide +kernel
theorem d_D_readDeed_89 : decode prog_5_method_9_code 89 = .ok (.iconst 3, 1) := by decide +kernel
theorem d_D_readDeed_90 : decode prog_5_method_9_code 90 = .ok (.if_icmp .ne 8, 3) := by decide +kernel
theorem d_D_readDeed_93 : decode prog_5_method_9_code 93 = .ok (.bipush 7, 2) := by decide +kernel
theorem d_D_readDeed_95 : decode prog_5_method_9_code 95 = .ok (.goto 5, 3) := by decide +kernel
theorem d_D_readDeed_98 : decode prog_5_method_9_code 98 = .ok (.bipush 8, 2) := by decide +kernel
theorem d_D_readDeed_100 : decode prog_5_method_9_code 100 = .ok (.invokevirtual 84, 3) := by decide +kernel
theorem d_D_readDeed_103 : decode prog_5_method_9_code 103 = .ok (.aload_n 0, 1) := by decide +kernel
theorem d_D_readDeed_104 : decode prog_5_method_9_code 104 = .ok (.getfield 34, 3) := by decide +kernel
theorem d_D_readDeed_107 : decode prog_5_method_9_code 107 = .ok (.getfield 119, 3) := by decide +kernel
theorem d_D_readDeed_110 : decode prog_5_method_9_code 110 = .ok (.iload_n 2, 1) := by decide +kernel
theorem d_D_readDeed_111 : decode prog_5_method_9_code 111 = .ok (.aload_n 0, 1) := by decide +kernel
theorem d_D_readDeed_112 : decode prog_5_method_9_code 112 = .ok (.iconst 0, 1) := by decide +kernel
theorem d_D_readDeed_113 : decode prog_5_method_9_code 113 = .ok (.bipush 7, 2) := by decide +kernel
theorem d_D_readDeed_115 : decode prog_5_method_9_code 115 = .ok (.invokevirtual 115, 3) := by decide +kernel
theorem d_D_readDeed_118 : decode prog_5_method_9_code 118 = .ok (.iastore, 1) := by decide +kernel
theorem d_D_readDeed_119 : decode prog_5_method_9_code 119 = .ok (.return_, 1) := by decide +kernel
theorem d_D_readShape_0 : decode prog_5_method_10_code 0 = .ok (.aload_n 0, 1) := by decide +kernel
theorem d_D_readShape_1 : decode prog_5_method_10_code 1 = .ok (.iload_n 1, 1) := by decide +kernel
theorem d_D_readShape_2 : decode prog_5_method_10_code 2 = .ok (.invokevirtual 122, 3) := by decide +kernel
theorem d_D_readShape_5 : decode prog_5_method_10_code 5 = .ok (.istore_n 2, 1) := by decide +kernel
theorem d_D_readShape_6 : decode prog_5_method_10_code 6 = .ok (.iconst 0, 1) := by decide +kernel
theorem d_D_readShape_7 : decode prog_5_method_10_code 7 = .ok (.istore_n 3, 1) := by decide +kernel
theorem d_D_readShape_8 : decode prog_5_method_10_code 8 = .ok (.iload_n 3, 1) := by decide +kernel
theorem d_D_readShape_9 : decode prog_5_method_10_code 9 = .ok (.sipush 300, 3) := by decide +kernel
theorem d_D_readShape_12 : decode prog_5_method_10_code 12 = .ok (.if_icmp .ge 73, 3) := by decide +kernel
theorem d_D_readShape_15 : decode prog_5_method_10_code 15 = .ok (.aload_n 0, 1) := by decide +kernel
theorem d_D_readShape_16 : decode prog_5_method_10_code 16 = .ok (.getfield 32, 3) := by decide +kernel
theorem d_D_readShape_19 : decode prog_5_method_10_code 19 = .ok (.bipush 15, 2) := by decide +kernel
theorem d_D_readShape_21 : decode prog_5_method_10_code 21 = .ok (.if_icmp .eq 12, 3) := by decide +kernel
theorem d_D_readShape_24 : decode prog_5_method_10_code 24 = .ok (.aload_n 0, 1) := by decide +kernel
theorem d_D_readShape_25 : decode prog_5_method_10_code 25 = .ok (.getfield 32, 3) := by decide +kernel
theorem d_D_readShape_28 : decode prog_5_method_10_code 28 = .ok (.bipush 16, 2) := by decide +kernel
theorem d_D_readShape_30 : decode prog_5_method_10_code 30 = .ok (.if_icmp .ne 55, 3) := by decide +kernel
theorem d_D_readShape_33 : decode prog_5_method_10_code 33 = .ok (.aload_n 0, 1) := by decide +kernel
theorem d_D_readShape_34 : decode prog_5_method_10_code 34 = .ok (.getfield 32, 3) := by decide +kernel
theorem d_D_readShape_37 : decode prog_5_method_10_code 37 = .ok (.bipush 15, 2) := by decide +kernel
theorem d_D_readShape_39 : decode prog_5_method_10_code 39 = .ok (.if_icmp .ne 7, 3) := by decide +kernel
theorem d_D_readShape_42 : decode prog_5_method_10_code 42 = .ok (.iconst 1, 1) := by decide +kernel
theorem d_D_readShape_43 : decode prog_5_method_10_code 43 = .ok (.goto 4, 3) := by decide +kernel
theorem d_D_readShape_46 : decode prog_5_method_10_code 46 = .ok (.iconst 0, 1) := by decide +kernel
theorem d_D_readShape_47 : decode prog_5_method_10_code 47 = .ok (.istore 4, 2) := by decide +kernel
theorem d_D_readShape_49 : decode prog_5_method_10_code 49 = .ok (.aload_n 0, 1) := by decide +kernel
theorem d_D_readShape_50 : decode prog_5_method_10_code 50 = .ok (.invokevirtual 54, 3) := by decide +kernel
theorem d_D_readShape_53 : decode prog_5_method_10_code 53 = .ok (.aload_n 0, 1) := by decide +kernel
theorem d_D_readShape_54 : decode prog_5_method_10_code 54 = .ok (.iload_n 1, 1) := by decide +kernel
theorem d_D_readShape_55 : decode prog_5_method_10_code 55 = .ok (.invokevirtual 122, 3) := by decide +kernel
theorem d_D_readShape_58 : decode prog_5_method_10_code 58 = .ok (.istore 5, 2) := by decide +kernel
theorem d_D_readShape_60 : decode prog_5_method_10_code 60 = .ok (.iload 4, 2) := by decide +kernel
theorem d_D_readShape_62 : decode prog_5_method_10_code 62 = .ok (.ifCond .eq 10, 3) := by decide +kernel
theorem d_D_readShape_65 : decode prog_5_method_10_code 65 = .ok (.iload_n 2, 1) := by decide +kernel
theorem d_D_readShape_66 : decode prog_5_method_10_code 66 = .ok (.iload 5, 2) := by decide +kernel
theorem d_D_readShape_68 : decode prog_5_method_10_code 68 = .ok (.ior, 1) := by decide +kernel
theorem d_D_readShape_69 : decode prog_5_method_10_code 69 = .ok (.goto 9, 3) := by decide +kernel
theorem d_D_readShape_72 : decode prog_5_method_10_code 72 = .ok (.iload_n 2, 1) := by decide +kernel
theorem d_D_readShape_73 : decode prog_5_method_10_code 73 = .ok (.iload 5, 2) := by decide +kernel
theorem d_D_readShape_75 : decode prog_5_method_10_code 75 = .ok (.iconst (-1), 1) := by decide +kernel
theorem d_D_readShape_76 : decode prog_5_method_10_code 76 = .ok (.ixor, 1) := by decide +kernel
theorem d_D_readShape_77 : decode prog_5_method_10_code 77 = .ok (.iand, 1) := by decide +kernel
theorem d_D_readShape_78 : decode prog_5_method_10_code 78 = .ok (.istore_n 2, 1) := by decide +kernel
theorem d_D_readShape_79 : decode prog_5_method_10_code 79 = .ok (.iinc 3 1, 3) := by decide +kernel
theorem d_D_readShape_82 : decode prog_5_method_10_code 82 = .ok (.goto (-74), 3) := by decide +kernel
theorem d_D_readShape_85 : decode prog_5_method_10_code 85 = .ok (.iload_n 2, 1) := by decide +kernel
theorem d_D_readShape_86 : decode prog_5_method_10_code 86 = .ok (.ireturn, 1) := by decide +kernel
theorem d_D_readPart_0 : decode prog_5_method_11_code 0 = .ok (.aload_n 0, 1) := by decide +kernel
theorem d_D_readPart_1 : decode prog_5_method_11_code 1 = .ok (.getfield 32, 3) := by decide +kernel
theorem d_D_readPart_4 : decode prog_5_method_11_code 4 = .ok (.istore_n 2, 1) := by decide +kernel
theorem d_D_readPart_5 : decode prog_5_method_11_code 5 = .ok (.iload_n 2, 1) := by decide +kernel
theorem d_D_readPart_6 : decode prog_5_method_11_code 6 = .ok (.lookupswitch 126 #[(9, 66), (10, 80), (11, 95), (12, 112), (13, 120), (14, 120), (40, 120)], 66) := by decide +kernel
theorem d_D_readPart_72 : decode prog_5_method_11_code 72 = .ok (.aload_n 0, 1) := by decide +kernel
theorem d_D_readPart_73 : decode prog_5_method_11_code 73 = .ok (.invokevirtual 54, 3) := by decide +kernel
theorem d_D_readPart_76 : decode prog_5_method_11_code 76 = .ok (.iconst 1, 1) := by decide +kernel
theorem d_D_readPart_77 : decode prog_5_method_11_code 77 = .ok (.aload_n 0, 1) := by decide +kernel
theorem d_D_readPart_78 : decode prog_5_method_11_code 78 = .ok (.iconst 0, 1) := by decide +kernel
theorem d_D_readPart_79 : decode prog_5_method_11_code 79 = .ok (.bipush 19, 2) := by decide +kernel
theorem d_D_readPart_81 : decode prog_5_method_11_code 81 = .ok (.invokevirtual 115, 3) := by decide +kernel
theorem d_D_readPart_84 : decode prog_5_method_11_code 84 = .ok (.ishl, 1) := by decide +kernel
theorem d_D_readPart_85 : decode prog_5_method_11_code 85 = .ok (.ireturn, 1) := by decide +kernel
theorem d_D_readPart_86 : decode prog_5_method_11_code 86 = .ok (.aload_n 0, 1) := by decide +kernel
theorem d_D_readPart_87 : decode prog_5_method_11_code 87 = .ok (.invokevirtual 54, 3) := by decide +kernel
theorem d_D_readPart_90 : decode prog_5_method_11_code 90 = .ok (.iconst 3, 1) := by decide +kernel
theorem d_D_readPart_91 : decode prog_5_method_11_code 91 = .ok (.iconst 2, 1) := by decide +kernel
theorem d_D_readPart_92 : decode prog_5_method_11_code 92 = .ok (.aload_n 0, 1) := by decide +kernel
theorem d_D_readPart_93 : decode prog_5_method_11_code 93 = .ok (.iconst 0, 1) := by decide +kernel
theorem d_D_readPart_94 : decode prog_5_method_11_code 94 = .ok (.iconst 2, 1) := by decide +kernel
theorem d_D_readPart_95 : decode prog_5_method_11_code 95 = .ok (.invokevirtual 115, 3) := by decide +kernel
theorem d_D_readPart_98 : decode prog_5_method_11_code 98 = .ok (.imul, 1) := by decide +kernel
theorem d_D_readPart_99 : decode prog_5_method_11_code 99 = .ok (.ishl, 1) := by decide +kernel
theorem d_D_readPart_100 : decode prog_5_method_11_code 100 = .ok (.ireturn, 1) := by decide +kernel
theorem d_D_readPart_101 : decode prog_5_method_11_code 101 = .ok (.aload_n 0, 1) := by decide +kernel
theorem d_D_readPart_102 : decode prog_5_method_11_code 102 = .ok (.invokevirtual 54, 3) := by decide +kernel
theorem d_D_readPart_105 : decode prog_5_method_11_code 105 = .ok (.bipush 9, 2) := by decide +kernel
theorem d_D_readPart_107 : decode prog_5_method_11_code 107 = .ok (.bipush 6, 2) := by decide +kernel
theorem d_D_readPart_109 : decode prog_5_method_11_code 109 = .ok (.aload_n 0, 1) := by decide +kernel
theorem d_D_readPart_110 : decode prog_5_method_11_code 110 = .ok (.iconst 0, 1) := by decide +kernel
theorem d_D_readPart_111 : decode prog_5_method_11_code 111 = .ok (.iconst 2, 1) := by decide +kernel
theorem d_D_readPart_112 : decode prog_5_method_11_code 112 = .ok (.invokevirtual 115, 3) := by decide +kernel
theorem d_D_readPart_115 : decode prog_5_method_11_code 115 = .ok (.iadd, 1) := by decide +kernel
theorem d_D_readPart_116 : decode prog_5_method_11_code 116 = .ok (.ishl, 1) := by decide +kernel
theorem d_D_readPart_117 : decode prog_5_method_11_code 117 = .ok (.ireturn, 1) := by decide +kernel
theorem d_D_readPart_118 : decode prog_5_method_11_code 118 = .ok (.aload_n 0, 1) := by decide +kernel
theorem d_D_readPart_119 : decode prog_5_method_11_code 119 = .ok (.invokevirtual 54, 3) := by decide +kernel
theorem d_D_readPart_122 : decode prog_5_method_11_code 122 = .ok (.sipush 2931, 3) := by decide +kernel
theorem d_D_readPart_125 : decode prog_5_method_11_code 125 = .ok (.ireturn, 1) := by decide +kernel
theorem d_D_readPart_126 : decode prog_5_method_11_code 126 = .ok (.aload_n 0, 1) := by decide +kernel
theorem d_D_readPart_127 : decode prog_5_method_11_code 127 = .ok (.iload_n 1, 1) := by decide +kernel
theorem d_D_readPart_128 : decode prog_5_method_11_code 128 = .ok (.invokevirtual 125, 3) := by decide +kernel
theorem d_D_readPart_131 : decode prog_5_method_11_code 131 = .ok (.ireturn, 1) := by decide +kernel
theorem d_D_readPart_132 : decode prog_5_method_11_code 132 = .ok (.aload_n 0, 1) := by decide +kernel
theorem d_D_readPart_133 : decode prog_5_method_11_code 133 = .ok (.iconst 1, 1) := by decide +kernel
theorem d_D_readPart_134 : decode prog_5_method_11_code 134 = .ok (.invokevirtual 57, 3) := by decide +kernel
theorem d_D_readPart_137 : decode prog_5_method_11_code 137 = .ok (.iconst 0, 1) := by decide +kernel
theorem d_D_readPart_138 : decode prog_5_method_11_code 138 = .ok (.ireturn, 1) := by decide +kernel
theorem d_D_readOpenPart_0 : decode prog_5_method_12_code 0 = .ok (.aload_n 0, 1) := by decide +kernel
theorem d_D_readOpenPart_1 : decode prog_5_method_12_code 1 = .ok (.getfield 32, 3) := by decide +kernel
theorem d_D_readOpenPart_4 : decode prog_5_method_12_code 4 = .ok (.istore_n 2, 1) := by decide +kernel
theorem d_D_readOpenPart_5 : decode prog_5_method_12_code 5 = .ok (.iload_n 1, 1) := by decide +kernel
theorem d_D_readOpenPart_6 : decode prog_5_method_12_code 6 = .ok (.bipush 8, 2) := by decide +kernel
theorem d_D_readOpenPart_8 : decode prog_5_method_12_code 8 = .ok (.if_icmp .lt 10, 3) := by decide +kernel
theorem d_D_readOpenPart_11 : decode prog_5_method_12_code 11 = .ok (.aload_n 0, 1) := by decide +kernel
theorem d_D_readOpenPart_12 : decode prog_5_method_12_code 12 = .ok (.iconst 3, 1) := by decide +kernel
theorem d_D_readOpenPart_13 : decode prog_5_method_12_code 13 = .ok (.invokevirtual 57, 3) := by decide +kernel
theorem d_D_readOpenPart_16 : decode prog_5_method_12_code 16 = .ok (.iconst 0, 1) := by decide +kernel
theorem d_D_readOpenPart_17 : decode prog_5_method_12_code 17 = .ok (.ireturn, 1) := by decide +kernel
theorem d_D_readOpenPart_18 : decode prog_5_method_12_code 18 = .ok (.aload_n 0, 1) := by decide +kernel
theorem d_D_readOpenPart_19 : decode prog_5_method_12_code 19 = .ok (.invokevirtual 54, 3) := by decide +kernel
theorem d_D_readOpenPart_22 : decode prog_5_method_12_code 22 = .ok (.iload_n 2, 1) := by decide +kernel
theorem d_D_readOpenPart_23 : decode prog_5_method_12_code 23 = .ok (.bipush 40, 2) := by decide +kernel
theorem d_D_readOpenPart_25 : decode prog_5_method_12_code 25 = .ok (.if_icmp .ne 19, 3) := by decide +kernel
theorem d_D_readOpenPart_28 : decode prog_5_method_12_code 28 = .ok (.aload_n 0, 1) := by decide +kernel
theorem d_D_readOpenPart_29 : decode prog_5_method_12_code 29 = .ok (.iload_n 1, 1) := by decide +kernel
theorem d_D_readOpenPart_30 : decode prog_5_method_12_code 30 = .ok (.iconst 1, 1) := by decide +kernel
theorem d_D_readOpenPart_31 : decode prog_5_method_12_code 31 = .ok (.iadd, 1) := by decide +kernel
theorem d_D_readOpenPart_32 : decode prog_5_method_12_code 32 = .ok (.invokevirtual 111, 3) := by decide +kernel
theorem d_D_readOpenPart_35 : decode prog_5_method_12_code 35 = .ok (.istore_n 3, 1) := by decide +kernel
theorem d_D_readOpenPart_36 : decode prog_5_method_12_code 36 = .ok (.aload_n 0, 1) := by decide +kernel
theorem d_D_readOpenPart_37 : decode prog_5_method_12_code 37 = .ok (.bipush 41, 2) := by decide +kernel
theorem d_D_readOpenPart_39 : decode prog_5_method_12_code 39 = .ok (.invokevirtual 84, 3) := by decide +kernel
theorem d_D_readOpenPart_42 : decode prog_5_method_12_code 42 = .ok (.iload_n 3, 1) := by decide +kernel
theorem d_D_readOpenPart_43 : decode prog_5_method_12_code 43 = .ok (.ireturn, 1) := by decide +kernel
theorem d_D_readOpenPart_44 : decode prog_5_method_12_code 44 = .ok (.aload_n 0, 1) := by decide +kernel
theorem d_D_readOpenPart_45 : decode prog_5_method_12_code 45 = .ok (.iload_n 1, 1) := by decide +kernel
theorem d_D_readOpenPart_46 : decode prog_5_method_12_code 46 = .ok (.iconst 1, 1) := by decide +kernel
theorem d_D_readOpenPart_47 : decode prog_5_method_12_code 47 = .ok (.iadd, 1) := by decide +kernel
theorem d_D_readOpenPart_48 : decode prog_5_method_12_code 48 = .ok (.invokevirtual 122, 3) := by decide +kernel
theorem d_D_readOpenPart_51 : decode prog_5_method_12_code 51 = .ok (.iload_n 2, 1) := by decide +kernel
theorem d_D_readOpenPart_52 : decode prog_5_method_12_code 52 = .ok (.bipush 13, 2) := by decide +kernel
theorem d_D_readOpenPart_54 : decode prog_5_method_12_code 54 = .ok (.if_icmp .ne 7, 3) := by decide +kernel
theorem d_D_readOpenPart_57 : decode prog_5_method_12_code 57 = .ok (.iconst 1, 1) := by decide +kernel
theorem d_D_readOpenPart_58 : decode prog_5_method_12_code 58 = .ok (.goto 4, 3) := by decide +kernel
theorem d_D_readOpenPart_61 : decode prog_5_method_12_code 61 = .ok (.iconst 4, 1) := by decide +kernel
theorem d_D_readOpenPart_62 : decode prog_5_method_12_code 62 = .ok (.invokestatic 128, 3) := by decide +kernel
theorem d_D_readOpenPart_65 : decode prog_5_method_12_code 65 = .ok (.ireturn, 1) := by decide +kernel
theorem d_K_moved_0 : decode prog_7_method_3_code 0 = .ok (.iconst 0, 1) := by decide +kernel
theorem d_K_moved_1 : decode prog_7_method_3_code 1 = .ok (.istore_n 2, 1) := by decide +kernel
theorem d_K_moved_2 : decode prog_7_method_3_code 2 = .ok (.iconst 0, 1) := by decide +kernel
theorem d_K_moved_3 : decode prog_7_method_3_code 3 = .ok (.istore_n 3, 1) := by decide +kernel
theorem d_K_moved_4 : decode prog_7_method_3_code 4 = .ok (.iload_n 3, 1) := by decide +kernel
theorem d_K_moved_5 : decode prog_7_method_3_code 5 = .ok (.bipush 20, 2) := by decide +kernel
theorem d_K_moved_7 : decode prog_7_method_3_code 7 = .ok (.if_icmp .ge 33, 3) := by decide +kernel
theorem d_K_moved_10 : decode prog_7_method_3_code 10 = .ok (.iload_n 0, 1) := by decide +kernel
theorem d_K_moved_11 : decode prog_7_method_3_code 11 = .ok (.iload_n 3, 1) := by decide +kernel
theorem d_K_moved_12 : decode prog_7_method_3_code 12 = .ok (.ishr, 1) := by decide +kernel
theorem d_K_moved_13 : decode prog_7_method_3_code 13 = .ok (.iconst 1, 1) := by decide +kernel
theorem d_K_moved_14 : decode prog_7_method_3_code 14 = .ok (.iand, 1) := by decide +kernel
theorem d_K_moved_15 : decode prog_7_method_3_code 15 = .ok (.iconst 1, 1) := by decide +kernel
theorem d_K_moved_16 : decode prog_7_method_3_code 16 = .ok (.if_icmp .ne 18, 3) := by decide +kernel
theorem d_K_moved_19 : decode prog_7_method_3_code 19 = .ok (.iload_n 2, 1) := by decide +kernel
theorem d_K_moved_20 : decode prog_7_method_3_code 20 = .ok (.iconst 1, 1) := by decide +kernel
theorem d_K_moved_21 : decode prog_7_method_3_code 21 = .ok (.getstatic 15, 3) := by decide +kernel
theorem d_K_moved_24 : decode prog_7_method_3_code 24 = .ok (.iload_n 1, 1) := by decide +kernel
theorem d_K_moved_25 : decode prog_7_method_3_code 25 = .ok (.bipush 20, 2) := by decide +kernel
theorem d_K_moved_27 : decode prog_7_method_3_code 27 = .ok (.imul, 1) := by decide +kernel
theorem d_K_moved_28 : decode prog_7_method_3_code 28 = .ok (.iload_n 3, 1) := by decide +kernel
theorem d_K_moved_29 : decode prog_7_method_3_code 29 = .ok (.iadd, 1) := by decide +kernel
theorem d_K_moved_30 : decode prog_7_method_3_code 30 = .ok (.iaload, 1) := by decide +kernel
theorem d_K_moved_31 : decode prog_7_method_3_code 31 = .ok (.ishl, 1) := by decide +kernel
theorem d_K_moved_32 : decode prog_7_method_3_code 32 = .ok (.ior, 1) := by decide +kernel
theorem d_K_moved_33 : decode prog_7_method_3_code 33 = .ok (.istore_n 2, 1) := by decide +kernel
theorem d_K_moved_34 : decode prog_7_method_3_code 34 = .ok (.iinc 3 1, 3) := by decide +kernel
theorem d_K_moved_37 : decode prog_7_method_3_code 37 = .ok (.goto (-33), 3) := by decide +kernel
theorem d_K_moved_40 : decode prog_7_method_3_code 40 = .ok (.iload_n 2, 1) := by decide +kernel
theorem d_K_moved_41 : decode prog_7_method_3_code 41 = .ok (.ireturn, 1) := by decide +kernel
theorem d_O_fault_0 : decode prog_1_method_6_code 0 = .ok (.iload_n 1, 1) := by decide +kernel
theorem d_O_fault_1 : decode prog_1_method_6_code 1 = .ok (.ifCond .ne 8, 3) := by decide +kernel
theorem d_O_fault_4 : decode prog_1_method_6_code 4 = .ok (.aload_n 0, 1) := by decide +kernel
theorem d_O_fault_5 : decode prog_1_method_6_code 5 = .ok (.getfield 17, 3) := by decide +kernel
theorem d_O_fault_8 : decode prog_1_method_6_code 8 = .ok (.ireturn, 1) := by decide +kernel
theorem d_O_fault_9 : decode prog_1_method_6_code 9 = .ok (.iload_n 1, 1) := by decide +kernel
theorem d_O_fault_10 : decode prog_1_method_6_code 10 = .ok (.iconst 1, 1) := by decide +kernel
theorem d_O_fault_11 : decode prog_1_method_6_code 11 = .ok (.if_icmp .ne 10, 3) := by decide +kernel
theorem d_O_fault_14 : decode prog_1_method_6_code 14 = .ok (.aload_n 0, 1) := by decide +kernel
theorem d_O_fault_15 : decode prog_1_method_6_code 15 = .ok (.getfield 20, 3) := by decide +kernel
theorem d_O_fault_18 : decode prog_1_method_6_code 18 = .ok (.goto 4, 3) := by decide +kernel
theorem d_O_fault_21 : decode prog_1_method_6_code 21 = .ok (.iconst (-1), 1) := by decide +kernel
theorem d_O_fault_22 : decode prog_1_method_6_code 22 = .ok (.ireturn, 1) := by decide +kernel
theorem d_O_by_0 : decode prog_1_method_7_code 0 = .ok (.iload_n 1, 1) := by decide +kernel
theorem d_O_by_1 : decode prog_1_method_7_code 1 = .ok (.iconst (-1), 1) := by decide +kernel
theorem d_O_by_2 : decode prog_1_method_7_code 2 = .ok (.if_icmp .eq 13, 3) := by decide +kernel
theorem d_O_by_5 : decode prog_1_method_7_code 5 = .ok (.aload_n 0, 1) := by decide +kernel
theorem d_O_by_6 : decode prog_1_method_7_code 6 = .ok (.iload_n 1, 1) := by decide +kernel
theorem d_O_by_7 : decode prog_1_method_7_code 7 = .ok (.invokevirtual 97, 3) := by decide +kernel
theorem d_O_by_10 : decode prog_1_method_7_code 10 = .ok (.ifCond .ne 5, 3) := by decide +kernel
theorem d_O_by_13 : decode prog_1_method_7_code 13 = .ok (.iconst 0, 1) := by decide +kernel
theorem d_O_by_14 : decode prog_1_method_7_code 14 = .ok (.ireturn, 1) := by decide +kernel
theorem d_O_by_15 : decode prog_1_method_7_code 15 = .ok (.aload_n 0, 1) := by decide +kernel
theorem d_O_by_16 : decode prog_1_method_7_code 16 = .ok (.getfield 48, 3) := by decide +kernel
theorem d_O_by_19 : decode prog_1_method_7_code 19 = .ok (.iload_n 1, 1) := by decide +kernel
theorem d_O_by_20 : decode prog_1_method_7_code 20 = .ok (.putfield 100, 3) := by decide +kernel
theorem d_O_by_23 : decode prog_1_method_7_code 23 = .ok (.iconst 1, 1) := by decide +kernel
theorem d_O_by_24 : decode prog_1_method_7_code 24 = .ok (.ireturn, 1) := by decide +kernel
theorem d_O_isText_0 : decode prog_1_method_51_code 0 = .ok (.iload_n 1, 1) := by decide +kernel
theorem d_O_isText_1 : decode prog_1_method_51_code 1 = .ok (.ifCond .lt 18, 3) := by decide +kernel
theorem d_O_isText_4 : decode prog_1_method_51_code 4 = .ok (.iload_n 1, 1) := by decide +kernel
theorem d_O_isText_5 : decode prog_1_method_51_code 5 = .ok (.aload_n 0, 1) := by decide +kernel
theorem d_O_isText_6 : decode prog_1_method_51_code 6 = .ok (.getfield 48, 3) := by decide +kernel
theorem d_O_isText_9 : decode prog_1_method_51_code 9 = .ok (.getfield 85, 3) := by decide +kernel
theorem d_O_isText_12 : decode prog_1_method_51_code 12 = .ok (.if_icmp .ge 7, 3) := by decide +kernel
theorem d_O_isText_15 : decode prog_1_method_51_code 15 = .ok (.iconst 1, 1) := by decide +kernel
theorem d_O_isText_16 : decode prog_1_method_51_code 16 = .ok (.goto 4, 3) := by decide +kernel
theorem d_O_isText_19 : decode prog_1_method_51_code 19 = .ok (.iconst 0, 1) := by decide +kernel
theorem d_O_isText_20 : decode prog_1_method_51_code 20 = .ok (.ireturn, 1) := by decide +kernel
theorem d_O_add_0 : decode prog_1_method_8_code 0 = .ok (.aload_n 0, 1) := by decide +kernel
theorem d_O_add_1 : decode prog_1_method_8_code 1 = .ok (.iload_n 1, 1) := by decide +kernel
theorem d_O_add_2 : decode prog_1_method_8_code 2 = .ok (.iload_n 2, 1) := by decide +kernel
theorem d_O_add_3 : decode prog_1_method_8_code 3 = .ok (.iconst 1, 1) := by decide +kernel
theorem d_O_add_4 : decode prog_1_method_8_code 4 = .ok (.invokevirtual 103, 3) := by decide +kernel
theorem d_O_add_7 : decode prog_1_method_8_code 7 = .ok (.ireturn, 1) := by decide +kernel
theorem d_O_changeByHand_0 : decode prog_1_method_59_code 0 = .ok (.aload_n 0, 1) := by decide +kernel
theorem d_O_changeByHand_1 : decode prog_1_method_59_code 1 = .ok (.getfield 48, 3) := by decide +kernel
theorem d_O_changeByHand_4 : decode prog_1_method_59_code 4 = .ok (.getfield 110, 3) := by decide +kernel
theorem d_O_changeByHand_7 : decode prog_1_method_59_code 7 = .ok (.iload_n 1, 1) := by decide +kernel
theorem d_O_changeByHand_8 : decode prog_1_method_59_code 8 = .ok (.iload_n 2, 1) := by decide +kernel
theorem d_O_changeByHand_9 : decode prog_1_method_59_code 9 = .ok (.iload_n 3, 1) := by decide +kernel
theorem d_O_changeByHand_10 : decode prog_1_method_59_code 10 = .ok (.invokevirtual 346, 3) := by decide +kernel
theorem d_O_changeByHand_13 : decode prog_1_method_59_code 13 = .ok (.ifCond .ne 5, 3) := by decide +kernel
theorem d_O_changeByHand_16 : decode prog_1_method_59_code 16 = .ok (.iconst 0, 1) := by decide +kernel
theorem d_O_changeByHand_17 : decode prog_1_method_59_code 17 = .ok (.ireturn, 1) := by decide +kernel
theorem d_O_changeByHand_18 : decode prog_1_method_59_code 18 = .ok (.aload_n 0, 1) := by decide +kernel
theorem d_O_changeByHand_19 : decode prog_1_method_59_code 19 = .ok (.getfield 48, 3) := by decide +kernel
theorem d_O_changeByHand_22 : decode prog_1_method_59_code 22 = .ok (.getfield 135, 3) := by decide +kernel
theorem d_O_changeByHand_25 : decode prog_1_method_59_code 25 = .ok (.aload_n 0, 1) := by decide +kernel
theorem d_O_changeByHand_26 : decode prog_1_method_59_code 26 = .ok (.getfield 48, 3) := by decide +kernel
theorem d_O_changeByHand_29 : decode prog_1_method_59_code 29 = .ok (.getfield 110, 3) := by decide +kernel
theorem d_O_changeByHand_32 : decode prog_1_method_59_code 32 = .ok (.invokevirtual 139, 3) := by decide +kernel
theorem d_O_changeByHand_35 : decode prog_1_method_59_code 35 = .ok (.aload_n 0, 1) := by decide +kernel
theorem d_O_changeByHand_36 : decode prog_1_method_59_code 36 = .ok (.getfield 48, 3) := by decide +kernel
theorem d_O_changeByHand_39 : decode prog_1_method_59_code 39 = .ok (.getfield 110, 3) := by decide +kernel
theorem d_O_changeByHand_42 : decode prog_1_method_59_code 42 = .ok (.iload_n 1, 1) := by decide +kernel
theorem d_O_changeByHand_43 : decode prog_1_method_59_code 43 = .ok (.iload_n 2, 1) := by decide +kernel
theorem d_O_changeByHand_44 : decode prog_1_method_59_code 44 = .ok (.iload_n 3, 1) := by decide +kernel
theorem d_O_changeByHand_45 : decode prog_1_method_59_code 45 = .ok (.ifCond .eq 7, 3) := by decide +kernel
theorem d_O_changeByHand_48 : decode prog_1_method_59_code 48 = .ok (.iconst 0, 1) := by decide +kernel
theorem d_O_changeByHand_49 : decode prog_1_method_59_code 49 = .ok (.goto 4, 3) := by decide +kernel
theorem d_O_changeByHand_52 : decode prog_1_method_59_code 52 = .ok (.iconst 1, 1) := by decide +kernel
theorem d_O_changeByHand_53 : decode prog_1_method_59_code 53 = .ok (.invokevirtual 349, 3) := by decide +kernel
theorem d_O_changeByHand_56 : decode prog_1_method_59_code 56 = .ok (.iconst 1, 1) := by decide +kernel
theorem d_O_changeByHand_57 : decode prog_1_method_59_code 57 = .ok (.ireturn, 1) := by decide +kernel
theorem d_N_canChange_0 : decode prog_4_method_5_code 0 = .ok (.aload_n 0, 1) := by decide +kernel
theorem d_N_canChange_1 : decode prog_4_method_5_code 1 = .ok (.iload_n 1, 1) := by decide +kernel
theorem d_N_canChange_2 : decode prog_4_method_5_code 2 = .ok (.invokevirtual 40, 3) := by decide +kernel
theorem d_N_canChange_5 : decode prog_4_method_5_code 5 = .ok (.ifCond .eq 24, 3) := by decide +kernel
theorem d_N_canChange_8 : decode prog_4_method_5_code 8 = .ok (.iload_n 2, 1) := by decide +kernel
theorem d_N_canChange_9 : decode prog_4_method_5_code 9 = .ok (.invokestatic 44, 3) := by decide +kernel
theorem d_N_canChange_12 : decode prog_4_method_5_code 12 = .ok (.ifCond .eq 17, 3) := by decide +kernel
theorem d_N_canChange_15 : decode prog_4_method_5_code 15 = .ok (.aload_n 0, 1) := by decide +kernel
theorem d_N_canChange_16 : decode prog_4_method_5_code 16 = .ok (.iload_n 1, 1) := by decide +kernel
theorem d_N_canChange_17 : decode prog_4_method_5_code 17 = .ok (.iload_n 2, 1) := by decide +kernel
theorem d_N_canChange_18 : decode prog_4_method_5_code 18 = .ok (.invokevirtual 47, 3) := by decide +kernel
theorem d_N_canChange_21 : decode prog_4_method_5_code 21 = .ok (.iload_n 3, 1) := by decide +kernel
theorem d_N_canChange_22 : decode prog_4_method_5_code 22 = .ok (.if_icmp .eq 7, 3) := by decide +kernel
theorem d_N_canChange_25 : decode prog_4_method_5_code 25 = .ok (.iconst 1, 1) := by decide +kernel
theorem d_N_canChange_26 : decode prog_4_method_5_code 26 = .ok (.goto 4, 3) := by decide +kernel
theorem d_N_canChange_29 : decode prog_4_method_5_code 29 = .ok (.iconst 0, 1) := by decide +kernel
theorem d_N_canChange_30 : decode prog_4_method_5_code 30 = .ok (.ireturn, 1) := by decide +kernel
theorem d_N_isMark_0 : decode prog_4_method_3_code 0 = .ok (.iload_n 1, 1) := by decide +kernel
theorem d_N_isMark_1 : decode prog_4_method_3_code 1 = .ok (.ifCond .lt 15, 3) := by decide +kernel
theorem d_N_isMark_4 : decode prog_4_method_3_code 4 = .ok (.iload_n 1, 1) := by decide +kernel
theorem d_N_isMark_5 : decode prog_4_method_3_code 5 = .ok (.aload_n 0, 1) := by decide +kernel
theorem d_N_isMark_6 : decode prog_4_method_3_code 6 = .ok (.getfield 22, 3) := by decide +kernel
theorem d_N_isMark_9 : decode prog_4_method_3_code 9 = .ok (.if_icmp .ge 7, 3) := by decide +kernel
theorem d_N_isMark_12 : decode prog_4_method_3_code 12 = .ok (.iconst 1, 1) := by decide +kernel
theorem d_N_isMark_13 : decode prog_4_method_3_code 13 = .ok (.goto 4, 3) := by decide +kernel
theorem d_N_isMark_16 : decode prog_4_method_3_code 16 = .ok (.iconst 0, 1) := by decide +kernel
theorem d_N_isMark_17 : decode prog_4_method_3_code 17 = .ok (.ireturn, 1) := by decide +kernel
theorem d_O_isStroke_0 : decode prog_1_method_52_code 0 = .ok (.iload_n 0, 1) := by decide +kernel
theorem d_O_isStroke_1 : decode prog_1_method_52_code 1 = .ok (.ifCond .lt 13, 3) := by decide +kernel
theorem d_O_isStroke_4 : decode prog_1_method_52_code 4 = .ok (.iload_n 0, 1) := by decide +kernel
theorem d_O_isStroke_5 : decode prog_1_method_52_code 5 = .ok (.bipush 20, 2) := by decide +kernel
theorem d_O_isStroke_7 : decode prog_1_method_52_code 7 = .ok (.if_icmp .ge 7, 3) := by decide +kernel
theorem d_O_isStroke_10 : decode prog_1_method_52_code 10 = .ok (.iconst 1, 1) := by decide +kernel
theorem d_O_isStroke_11 : decode prog_1_method_52_code 11 = .ok (.goto 4, 3) := by decide +kernel
theorem d_O_isStroke_14 : decode prog_1_method_52_code 14 = .ok (.iconst 0, 1) := by decide +kernel
theorem d_O_isStroke_15 : decode prog_1_method_52_code 15 = .ok (.ireturn, 1) := by decide +kernel
theorem d_N_has_0 : decode prog_4_method_4_code 0 = .ok (.iload_n 1, 1) := by decide +kernel
theorem d_N_has_1 : decode prog_4_method_4_code 1 = .ok (.ifCond .lt 25, 3) := by decide +kernel
theorem d_N_has_4 : decode prog_4_method_4_code 4 = .ok (.iload_n 1, 1) := by decide +kernel
theorem d_N_has_5 : decode prog_4_method_4_code 5 = .ok (.aload_n 0, 1) := by decide +kernel
theorem d_N_has_6 : decode prog_4_method_4_code 6 = .ok (.getfield 22, 3) := by decide +kernel
theorem d_N_has_9 : decode prog_4_method_4_code 9 = .ok (.if_icmp .ge 17, 3) := by decide +kernel
theorem d_N_has_12 : decode prog_4_method_4_code 12 = .ok (.iload_n 2, 1) := by decide +kernel
theorem d_N_has_13 : decode prog_4_method_4_code 13 = .ok (.ifCond .lt 13, 3) := by decide +kernel
theorem d_N_has_16 : decode prog_4_method_4_code 16 = .ok (.iload_n 2, 1) := by decide +kernel
theorem d_N_has_17 : decode prog_4_method_4_code 17 = .ok (.bipush 20, 2) := by decide +kernel
theorem d_N_has_19 : decode prog_4_method_4_code 19 = .ok (.if_icmp .ge 7, 3) := by decide +kernel
theorem d_N_has_22 : decode prog_4_method_4_code 22 = .ok (.iconst 1, 1) := by decide +kernel
theorem d_N_has_23 : decode prog_4_method_4_code 23 = .ok (.goto 4, 3) := by decide +kernel
theorem d_N_has_26 : decode prog_4_method_4_code 26 = .ok (.iconst 0, 1) := by decide +kernel
theorem d_N_has_27 : decode prog_4_method_4_code 27 = .ok (.istore_n 3, 1) := by decide +kernel
theorem d_N_has_28 : decode prog_4_method_4_code 28 = .ok (.iload_n 3, 1) := by decide +kernel
theorem d_N_has_29 : decode prog_4_method_4_code 29 = .ok (.ifCond .eq 21, 3) := by decide +kernel
theorem d_N_has_32 : decode prog_4_method_4_code 32 = .ok (.aload_n 0, 1) := by decide +kernel
theorem d_N_has_33 : decode prog_4_method_4_code 33 = .ok (.getfield 9, 3) := by decide +kernel
theorem d_N_has_36 : decode prog_4_method_4_code 36 = .ok (.iload_n 1, 1) := by decide +kernel
theorem d_N_has_37 : decode prog_4_method_4_code 37 = .ok (.iaload, 1) := by decide +kernel
theorem d_N_has_38 : decode prog_4_method_4_code 38 = .ok (.iload_n 2, 1) := by decide +kernel
theorem d_N_has_39 : decode prog_4_method_4_code 39 = .ok (.ishr, 1) := by decide +kernel
theorem d_N_has_40 : decode prog_4_method_4_code 40 = .ok (.iconst 1, 1) := by decide +kernel
theorem d_N_has_41 : decode prog_4_method_4_code 41 = .ok (.iand, 1) := by decide +kernel
theorem d_N_has_42 : decode prog_4_method_4_code 42 = .ok (.iconst 1, 1) := by decide +kernel
theorem d_N_has_43 : decode prog_4_method_4_code 43 = .ok (.if_icmp .ne 7, 3) := by decide +kernel
theorem d_N_has_46 : decode prog_4_method_4_code 46 = .ok (.iconst 1, 1) := by decide +kernel
theorem d_N_has_47 : decode prog_4_method_4_code 47 = .ok (.goto 4, 3) := by decide +kernel
theorem d_N_has_50 : decode prog_4_method_4_code 50 = .ok (.iconst 0, 1) := by decide +kernel
theorem d_N_has_51 : decode prog_4_method_4_code 51 = .ok (.ireturn, 1) := by decide +kernel
theorem d_S_push_0 : decode prog_6_method_2_code 0 = .ok (.aload_n 0, 1) := by decide +kernel
theorem d_S_push_1 : decode prog_6_method_2_code 1 = .ok (.getfield 18, 3) := by decide +kernel
theorem d_S_push_4 : decode prog_6_method_2_code 4 = .ok (.bipush 30, 2) := by decide +kernel
theorem d_S_push_6 : decode prog_6_method_2_code 6 = .ok (.if_icmp .ge 16, 3) := by decide +kernel
theorem d_S_push_9 : decode prog_6_method_2_code 9 = .ok (.aload_n 0, 1) := by decide +kernel
theorem d_S_push_10 : decode prog_6_method_2_code 10 = .ok (.dup, 1) := by decide +kernel
theorem d_S_push_11 : decode prog_6_method_2_code 11 = .ok (.getfield 18, 3) := by decide +kernel
theorem d_S_push_14 : decode prog_6_method_2_code 14 = .ok (.iconst 1, 1) := by decide +kernel
theorem d_S_push_15 : decode prog_6_method_2_code 15 = .ok (.iadd, 1) := by decide +kernel
theorem d_S_push_16 : decode prog_6_method_2_code 16 = .ok (.putfield 18, 3) := by decide +kernel
theorem d_S_push_19 : decode prog_6_method_2_code 19 = .ok (.goto 16, 3) := by decide +kernel
theorem d_S_push_22 : decode prog_6_method_2_code 22 = .ok (.aload_n 0, 1) := by decide +kernel
theorem d_S_push_23 : decode prog_6_method_2_code 23 = .ok (.aload_n 0, 1) := by decide +kernel
theorem d_S_push_24 : decode prog_6_method_2_code 24 = .ok (.getfield 22, 3) := by decide +kernel
theorem d_S_push_27 : decode prog_6_method_2_code 27 = .ok (.iconst 1, 1) := by decide +kernel
theorem d_S_push_28 : decode prog_6_method_2_code 28 = .ok (.iadd, 1) := by decide +kernel
theorem d_S_push_29 : decode prog_6_method_2_code 29 = .ok (.bipush 30, 2) := by decide +kernel
theorem d_S_push_31 : decode prog_6_method_2_code 31 = .ok (.irem, 1) := by decide +kernel
theorem d_S_push_32 : decode prog_6_method_2_code 32 = .ok (.putfield 22, 3) := by decide +kernel
theorem d_S_push_35 : decode prog_6_method_2_code 35 = .ok (.aload_n 0, 1) := by decide +kernel
theorem d_S_push_36 : decode prog_6_method_2_code 36 = .ok (.getfield 11, 3) := by decide +kernel
theorem d_S_push_39 : decode prog_6_method_2_code 39 = .ok (.aload_n 0, 1) := by decide +kernel
theorem d_S_push_40 : decode prog_6_method_2_code 40 = .ok (.getfield 22, 3) := by decide +kernel
theorem d_S_push_43 : decode prog_6_method_2_code 43 = .ok (.aload_n 0, 1) := by decide +kernel
theorem d_S_push_44 : decode prog_6_method_2_code 44 = .ok (.getfield 18, 3) := by decide +kernel
theorem d_S_push_47 : decode prog_6_method_2_code 47 = .ok (.iadd, 1) := by decide +kernel
theorem d_S_push_48 : decode prog_6_method_2_code 48 = .ok (.iconst 1, 1) := by decide +kernel
theorem d_S_push_49 : decode prog_6_method_2_code 49 = .ok (.isub, 1) := by decide +kernel
theorem d_S_push_50 : decode prog_6_method_2_code 50 = .ok (.bipush 30, 2) := by decide +kernel
theorem d_S_push_52 : decode prog_6_method_2_code 52 = .ok (.irem, 1) := by decide +kernel
theorem d_S_push_53 : decode prog_6_method_2_code 53 = .ok (.aaload, 1) := by decide +kernel
theorem d_S_push_54 : decode prog_6_method_2_code 54 = .ok (.aload_n 1, 1) := by decide +kernel
theorem d_S_push_55 : decode prog_6_method_2_code 55 = .ok (.invokevirtual 25, 3) := by decide +kernel
theorem d_S_push_58 : decode prog_6_method_2_code 58 = .ok (.return_, 1) := by decide +kernel
theorem d_N_copyFrom_0 : decode prog_4_method_2_code 0 = .ok (.aload_n 0, 1) := by decide +kernel
theorem d_N_copyFrom_1 : decode prog_4_method_2_code 1 = .ok (.aload_n 1, 1) := by decide +kernel
theorem d_N_copyFrom_2 : decode prog_4_method_2_code 2 = .ok (.getfield 22, 3) := by decide +kernel
theorem d_N_copyFrom_5 : decode prog_4_method_2_code 5 = .ok (.putfield 22, 3) := by decide +kernel
theorem d_N_copyFrom_8 : decode prog_4_method_2_code 8 = .ok (.aload_n 0, 1) := by decide +kernel
theorem d_N_copyFrom_9 : decode prog_4_method_2_code 9 = .ok (.aload_n 1, 1) := by decide +kernel
theorem d_N_copyFrom_10 : decode prog_4_method_2_code 10 = .ok (.getfield 25, 3) := by decide +kernel
theorem d_N_copyFrom_13 : decode prog_4_method_2_code 13 = .ok (.putfield 25, 3) := by decide +kernel
theorem d_N_copyFrom_16 : decode prog_4_method_2_code 16 = .ok (.aload_n 0, 1) := by decide +kernel
theorem d_N_copyFrom_17 : decode prog_4_method_2_code 17 = .ok (.aload_n 1, 1) := by decide +kernel
theorem d_N_copyFrom_18 : decode prog_4_method_2_code 18 = .ok (.getfield 28, 3) := by decide +kernel
theorem d_N_copyFrom_21 : decode prog_4_method_2_code 21 = .ok (.putfield 28, 3) := by decide +kernel
theorem d_N_copyFrom_24 : decode prog_4_method_2_code 24 = .ok (.aload_n 0, 1) := by decide +kernel
theorem d_N_copyFrom_25 : decode prog_4_method_2_code 25 = .ok (.aload_n 1, 1) := by decide +kernel
theorem d_N_copyFrom_26 : decode prog_4_method_2_code 26 = .ok (.getfield 15, 3) := by decide +kernel
theorem d_N_copyFrom_29 : decode prog_4_method_2_code 29 = .ok (.putfield 15, 3) := by decide +kernel
theorem d_N_copyFrom_32 : decode prog_4_method_2_code 32 = .ok (.aload_n 0, 1) := by decide +kernel
theorem d_N_copyFrom_33 : decode prog_4_method_2_code 33 = .ok (.aload_n 1, 1) := by decide +kernel
theorem d_N_copyFrom_34 : decode prog_4_method_2_code 34 = .ok (.getfield 31, 3) := by decide +kernel
theorem d_N_copyFrom_37 : decode prog_4_method_2_code 37 = .ok (.putfield 31, 3) := by decide +kernel
theorem d_N_copyFrom_40 : decode prog_4_method_2_code 40 = .ok (.aload_n 1, 1) := by decide +kernel
theorem d_N_copyFrom_41 : decode prog_4_method_2_code 41 = .ok (.getfield 9, 3) := by decide +kernel
theorem d_N_copyFrom_44 : decode prog_4_method_2_code 44 = .ok (.iconst 0, 1) := by decide +kernel
theorem d_N_copyFrom_45 : decode prog_4_method_2_code 45 = .ok (.aload_n 0, 1) := by decide +kernel
theorem d_N_copyFrom_46 : decode prog_4_method_2_code 46 = .ok (.getfield 9, 3) := by decide +kernel
theorem d_N_copyFrom_49 : decode prog_4_method_2_code 49 = .ok (.iconst 0, 1) := by decide +kernel
theorem d_N_copyFrom_50 : decode prog_4_method_2_code 50 = .ok (.bipush 8, 2) := by decide +kernel
theorem d_N_copyFrom_52 : decode prog_4_method_2_code 52 = .ok (.invokestatic 34, 3) := by decide +kernel
theorem d_N_copyFrom_55 : decode prog_4_method_2_code 55 = .ok (.aload_n 1, 1) := by decide +kernel
theorem d_N_copyFrom_56 : decode prog_4_method_2_code 56 = .ok (.getfield 19, 3) := by decide +kernel
theorem d_N_copyFrom_59 : decode prog_4_method_2_code 59 = .ok (.iconst 0, 1) := by decide +kernel
theorem d_N_copyFrom_60 : decode prog_4_method_2_code 60 = .ok (.aload_n 0, 1) := by decide +kernel
theorem d_N_copyFrom_61 : decode prog_4_method_2_code 61 = .ok (.getfield 19, 3) := by decide +kernel
theorem d_N_copyFrom_64 : decode prog_4_method_2_code 64 = .ok (.iconst 0, 1) := by decide +kernel
theorem d_N_copyFrom_65 : decode prog_4_method_2_code 65 = .ok (.bipush 25, 2) := by decide +kernel
theorem d_N_copyFrom_67 : decode prog_4_method_2_code 67 = .ok (.invokestatic 34, 3) := by decide +kernel
theorem d_N_copyFrom_70 : decode prog_4_method_2_code 70 = .ok (.return_, 1) := by decide +kernel
theorem d_N_change_0 : decode prog_4_method_6_code 0 = .ok (.aload_n 0, 1) := by decide +kernel
theorem d_N_change_1 : decode prog_4_method_6_code 1 = .ok (.getfield 9, 3) := by decide +kernel
theorem d_N_change_4 : decode prog_4_method_6_code 4 = .ok (.iload_n 1, 1) := by decide +kernel
theorem d_N_change_5 : decode prog_4_method_6_code 5 = .ok (.dup2, 1) := by decide +kernel
theorem d_N_change_6 : decode prog_4_method_6_code 6 = .ok (.iaload, 1) := by decide +kernel
theorem d_N_change_7 : decode prog_4_method_6_code 7 = .ok (.iconst 1, 1) := by decide +kernel
theorem d_N_change_8 : decode prog_4_method_6_code 8 = .ok (.iload_n 2, 1) := by decide +kernel
theorem d_N_change_9 : decode prog_4_method_6_code 9 = .ok (.ishl, 1) := by decide +kernel
theorem d_N_change_10 : decode prog_4_method_6_code 10 = .ok (.ixor, 1) := by decide +kernel
theorem d_N_change_11 : decode prog_4_method_6_code 11 = .ok (.iastore, 1) := by decide +kernel
theorem d_N_change_12 : decode prog_4_method_6_code 12 = .ok (.aload_n 0, 1) := by decide +kernel
theorem d_N_change_13 : decode prog_4_method_6_code 13 = .ok (.iload_n 1, 1) := by decide +kernel
theorem d_N_change_14 : decode prog_4_method_6_code 14 = .ok (.iload_n 3, 1) := by decide +kernel
theorem d_N_change_15 : decode prog_4_method_6_code 15 = .ok (.iload_n 2, 1) := by decide +kernel
theorem d_N_change_16 : decode prog_4_method_6_code 16 = .ok (.invokevirtual 51, 3) := by decide +kernel
theorem d_N_change_19 : decode prog_4_method_6_code 19 = .ok (.return_, 1) := by decide +kernel
theorem d_N_writeDown_0 : decode prog_4_method_7_code 0 = .ok (.aload_n 0, 1) := by decide +kernel
theorem d_N_writeDown_1 : decode prog_4_method_7_code 1 = .ok (.getfield 31, 3) := by decide +kernel
theorem d_N_writeDown_4 : decode prog_4_method_7_code 4 = .ok (.bipush 25, 2) := by decide +kernel
theorem d_N_writeDown_6 : decode prog_4_method_7_code 6 = .ok (.if_icmp .lt 24, 3) := by decide +kernel
theorem d_N_writeDown_9 : decode prog_4_method_7_code 9 = .ok (.aload_n 0, 1) := by decide +kernel
theorem d_N_writeDown_10 : decode prog_4_method_7_code 10 = .ok (.getfield 19, 3) := by decide +kernel
theorem d_N_writeDown_13 : decode prog_4_method_7_code 13 = .ok (.iconst 1, 1) := by decide +kernel
theorem d_N_writeDown_14 : decode prog_4_method_7_code 14 = .ok (.aload_n 0, 1) := by decide +kernel
theorem d_N_writeDown_15 : decode prog_4_method_7_code 15 = .ok (.getfield 19, 3) := by decide +kernel
theorem d_N_writeDown_18 : decode prog_4_method_7_code 18 = .ok (.iconst 0, 1) := by decide +kernel
theorem d_N_writeDown_19 : decode prog_4_method_7_code 19 = .ok (.bipush 24, 2) := by decide +kernel
theorem d_N_writeDown_21 : decode prog_4_method_7_code 21 = .ok (.invokestatic 34, 3) := by decide +kernel
theorem d_N_writeDown_24 : decode prog_4_method_7_code 24 = .ok (.aload_n 0, 1) := by decide +kernel
theorem d_N_writeDown_25 : decode prog_4_method_7_code 25 = .ok (.bipush 24, 2) := by decide +kernel
theorem d_N_writeDown_27 : decode prog_4_method_7_code 27 = .ok (.putfield 31, 3) := by decide +kernel
theorem d_N_writeDown_30 : decode prog_4_method_7_code 30 = .ok (.aload_n 0, 1) := by decide +kernel
theorem d_N_writeDown_31 : decode prog_4_method_7_code 31 = .ok (.getfield 19, 3) := by decide +kernel
theorem d_N_writeDown_34 : decode prog_4_method_7_code 34 = .ok (.aload_n 0, 1) := by decide +kernel
theorem d_N_writeDown_35 : decode prog_4_method_7_code 35 = .ok (.getfield 31, 3) := by decide +kernel
theorem d_N_writeDown_38 : decode prog_4_method_7_code 38 = .ok (.aload_n 0, 1) := by decide +kernel
theorem d_N_writeDown_39 : decode prog_4_method_7_code 39 = .ok (.getfield 28, 3) := by decide +kernel
theorem d_N_writeDown_42 : decode prog_4_method_7_code 42 = .ok (.bipush 8, 2) := by decide +kernel
theorem d_N_writeDown_44 : decode prog_4_method_7_code 44 = .ok (.imul, 1) := by decide +kernel
theorem d_N_writeDown_45 : decode prog_4_method_7_code 45 = .ok (.iload_n 1, 1) := by decide +kernel
theorem d_N_writeDown_46 : decode prog_4_method_7_code 46 = .ok (.iadd, 1) := by decide +kernel
theorem d_N_writeDown_47 : decode prog_4_method_7_code 47 = .ok (.iconst 4, 1) := by decide +kernel
theorem d_N_writeDown_48 : decode prog_4_method_7_code 48 = .ok (.imul, 1) := by decide +kernel
theorem d_N_writeDown_49 : decode prog_4_method_7_code 49 = .ok (.iload_n 2, 1) := by decide +kernel
theorem d_N_writeDown_50 : decode prog_4_method_7_code 50 = .ok (.iadd, 1) := by decide +kernel
theorem d_N_writeDown_51 : decode prog_4_method_7_code 51 = .ok (.bipush 32, 2) := by decide +kernel
theorem d_N_writeDown_53 : decode prog_4_method_7_code 53 = .ok (.imul, 1) := by decide +kernel
theorem d_N_writeDown_54 : decode prog_4_method_7_code 54 = .ok (.iload_n 3, 1) := by decide +kernel
theorem d_N_writeDown_55 : decode prog_4_method_7_code 55 = .ok (.iadd, 1) := by decide +kernel
theorem d_N_writeDown_56 : decode prog_4_method_7_code 56 = .ok (.iconst 1, 1) := by decide +kernel
theorem d_N_writeDown_57 : decode prog_4_method_7_code 57 = .ok (.iadd, 1) := by decide +kernel
theorem d_N_writeDown_58 : decode prog_4_method_7_code 58 = .ok (.iastore, 1) := by decide +kernel
theorem d_N_writeDown_59 : decode prog_4_method_7_code 59 = .ok (.aload_n 0, 1) := by decide +kernel
theorem d_N_writeDown_60 : decode prog_4_method_7_code 60 = .ok (.dup, 1) := by decide +kernel
theorem d_N_writeDown_61 : decode prog_4_method_7_code 61 = .ok (.getfield 31, 3) := by decide +kernel
theorem d_N_writeDown_64 : decode prog_4_method_7_code 64 = .ok (.iconst 1, 1) := by decide +kernel
theorem d_N_writeDown_65 : decode prog_4_method_7_code 65 = .ok (.iadd, 1) := by decide +kernel
theorem d_N_writeDown_66 : decode prog_4_method_7_code 66 = .ok (.putfield 31, 3) := by decide +kernel
theorem d_N_writeDown_69 : decode prog_4_method_7_code 69 = .ok (.return_, 1) := by decide +kernel
theorem d_O_rub_0 : decode prog_1_method_9_code 0 = .ok (.aload_n 0, 1) := by decide +kernel
theorem d_O_rub_1 : decode prog_1_method_9_code 1 = .ok (.iload_n 1, 1) := by decide +kernel
theorem d_O_rub_2 : decode prog_1_method_9_code 2 = .ok (.iload_n 2, 1) := by decide +kernel
theorem d_O_rub_3 : decode prog_1_method_9_code 3 = .ok (.iconst 0, 1) := by decide +kernel
theorem d_O_rub_4 : decode prog_1_method_9_code 4 = .ok (.invokevirtual 103, 3) := by decide +kernel
theorem d_O_rub_7 : decode prog_1_method_9_code 7 = .ok (.ireturn, 1) := by decide +kernel
theorem d_O_renew_0 : decode prog_1_method_10_code 0 = .ok (.aload_n 0, 1) := by decide +kernel
theorem d_O_renew_1 : decode prog_1_method_10_code 1 = .ok (.iload_n 1, 1) := by decide +kernel
theorem d_O_renew_2 : decode prog_1_method_10_code 2 = .ok (.invokevirtual 107, 3) := by decide +kernel
theorem d_O_renew_5 : decode prog_1_method_10_code 5 = .ok (.ireturn, 1) := by decide +kernel
theorem d_O_renewByHand_0 : decode prog_1_method_60_code 0 = .ok (.aload_n 0, 1) := by decide +kernel
theorem d_O_renewByHand_1 : decode prog_1_method_60_code 1 = .ok (.iload_n 1, 1) := by decide +kernel
theorem d_O_renewByHand_2 : decode prog_1_method_60_code 2 = .ok (.invokevirtual 166, 3) := by decide +kernel
theorem d_O_renewByHand_5 : decode prog_1_method_60_code 5 = .ok (.ifCond .eq 14, 3) := by decide +kernel
theorem d_O_renewByHand_8 : decode prog_1_method_60_code 8 = .ok (.aload_n 0, 1) := by decide +kernel
theorem d_O_renewByHand_9 : decode prog_1_method_60_code 9 = .ok (.getfield 48, 3) := by decide +kernel
theorem d_O_renewByHand_12 : decode prog_1_method_60_code 12 = .ok (.iload_n 1, 1) := by decide +kernel
theorem d_O_renewByHand_13 : decode prog_1_method_60_code 13 = .ok (.invokevirtual 335, 3) := by decide +kernel
theorem d_O_renewByHand_16 : decode prog_1_method_60_code 16 = .ok (.ifCond .ne 5, 3) := by decide +kernel
theorem d_O_renewByHand_19 : decode prog_1_method_60_code 19 = .ok (.iconst (-1), 1) := by decide +kernel
theorem d_O_renewByHand_20 : decode prog_1_method_60_code 20 = .ok (.ireturn, 1) := by decide +kernel
theorem d_O_renewByHand_21 : decode prog_1_method_60_code 21 = .ok (.aload_n 0, 1) := by decide +kernel
theorem d_O_renewByHand_22 : decode prog_1_method_60_code 22 = .ok (.getfield 48, 3) := by decide +kernel
theorem d_O_renewByHand_25 : decode prog_1_method_60_code 25 = .ok (.getfield 135, 3) := by decide +kernel
theorem d_O_renewByHand_28 : decode prog_1_method_60_code 28 = .ok (.aload_n 0, 1) := by decide +kernel
theorem d_O_renewByHand_29 : decode prog_1_method_60_code 29 = .ok (.getfield 48, 3) := by decide +kernel
theorem d_O_renewByHand_32 : decode prog_1_method_60_code 32 = .ok (.getfield 110, 3) := by decide +kernel
theorem d_O_renewByHand_35 : decode prog_1_method_60_code 35 = .ok (.invokevirtual 139, 3) := by decide +kernel
theorem d_O_renewByHand_38 : decode prog_1_method_60_code 38 = .ok (.aload_n 0, 1) := by decide +kernel
theorem d_O_renewByHand_39 : decode prog_1_method_60_code 39 = .ok (.getfield 48, 3) := by decide +kernel
theorem d_O_renewByHand_42 : decode prog_1_method_60_code 42 = .ok (.iload_n 1, 1) := by decide +kernel
theorem d_O_renewByHand_43 : decode prog_1_method_60_code 43 = .ok (.invokevirtual 353, 3) := by decide +kernel
theorem d_O_renewByHand_46 : decode prog_1_method_60_code 46 = .ok (.ireturn, 1) := by decide +kernel
theorem d_O_isMark_0 : decode prog_1_method_50_code 0 = .ok (.aload_n 0, 1) := by decide +kernel
theorem d_O_isMark_1 : decode prog_1_method_50_code 1 = .ok (.getfield 48, 3) := by decide +kernel
theorem d_O_isMark_4 : decode prog_1_method_50_code 4 = .ok (.getfield 110, 3) := by decide +kernel
theorem d_O_isMark_7 : decode prog_1_method_50_code 7 = .ok (.iload_n 1, 1) := by decide +kernel
theorem d_O_isMark_8 : decode prog_1_method_50_code 8 = .ok (.invokevirtual 344, 3) := by decide +kernel
theorem d_O_isMark_11 : decode prog_1_method_50_code 11 = .ok (.ireturn, 1) := by decide +kernel
theorem d_H_countOther_0 : decode prog_2_method_4_code 0 = .ok (.aload_n 0, 1) := by decide +kernel
theorem d_H_countOther_1 : decode prog_2_method_4_code 1 = .ok (.getfield 12, 3) := by decide +kernel
theorem d_H_countOther_4 : decode prog_2_method_4_code 4 = .ok (.getfield 70, 3) := by decide +kernel
theorem d_H_countOther_7 : decode prog_2_method_4_code 7 = .ok (.iload_n 1, 1) := by decide +kernel
theorem d_H_countOther_8 : decode prog_2_method_4_code 8 = .ok (.iaload, 1) := by decide +kernel
theorem d_H_countOther_9 : decode prog_2_method_4_code 9 = .ok (.aload_n 0, 1) := by decide +kernel
theorem d_H_countOther_10 : decode prog_2_method_4_code 10 = .ok (.getfield 25, 3) := by decide +kernel
theorem d_H_countOther_13 : decode prog_2_method_4_code 13 = .ok (.iload_n 1, 1) := by decide +kernel
theorem d_H_countOther_14 : decode prog_2_method_4_code 14 = .ok (.iaload, 1) := by decide +kernel
theorem d_H_countOther_15 : decode prog_2_method_4_code 15 = .ok (.ixor, 1) := by decide +kernel
theorem d_H_countOther_16 : decode prog_2_method_4_code 16 = .ok (.invokestatic 73, 3) := by decide +kernel
theorem d_H_countOther_19 : decode prog_2_method_4_code 19 = .ok (.ireturn, 1) := by decide +kernel
theorem d_JI_bitCount_0 : decode prog_13_method_49_code 0 = .ok (.iload_n 0, 1) := by decide +kernel
theorem d_JI_bitCount_1 : decode prog_13_method_49_code 1 = .ok (.iload_n 0, 1) := by decide +kernel
theorem d_JI_bitCount_2 : decode prog_13_method_49_code 2 = .ok (.iconst 1, 1) := by decide +kernel
theorem d_JI_bitCount_3 : decode prog_13_method_49_code 3 = .ok (.iushr, 1) := by decide +kernel
theorem d_JI_bitCount_4 : decode prog_13_method_49_code 4 = .ok (.ldc_w 265, 3) := by decide +kernel
theorem d_JI_bitCount_7 : decode prog_13_method_49_code 7 = .ok (.iand, 1) := by decide +kernel
theorem d_JI_bitCount_8 : decode prog_13_method_49_code 8 = .ok (.isub, 1) := by decide +kernel
theorem d_JI_bitCount_9 : decode prog_13_method_49_code 9 = .ok (.istore_n 0, 1) := by decide +kernel
theorem d_JI_bitCount_10 : decode prog_13_method_49_code 10 = .ok (.iload_n 0, 1) := by decide +kernel
theorem d_JI_bitCount_11 : decode prog_13_method_49_code 11 = .ok (.ldc_w 266, 3) := by decide +kernel
theorem d_JI_bitCount_14 : decode prog_13_method_49_code 14 = .ok (.iand, 1) := by decide +kernel
theorem d_JI_bitCount_15 : decode prog_13_method_49_code 15 = .ok (.iload_n 0, 1) := by decide +kernel
theorem d_JI_bitCount_16 : decode prog_13_method_49_code 16 = .ok (.iconst 2, 1) := by decide +kernel
theorem d_JI_bitCount_17 : decode prog_13_method_49_code 17 = .ok (.iushr, 1) := by decide +kernel
theorem d_JI_bitCount_18 : decode prog_13_method_49_code 18 = .ok (.ldc_w 266, 3) := by decide +kernel
theorem d_JI_bitCount_21 : decode prog_13_method_49_code 21 = .ok (.iand, 1) := by decide +kernel
theorem d_JI_bitCount_22 : decode prog_13_method_49_code 22 = .ok (.iadd, 1) := by decide +kernel
theorem d_JI_bitCount_23 : decode prog_13_method_49_code 23 = .ok (.istore_n 0, 1) := by decide +kernel
theorem d_JI_bitCount_24 : decode prog_13_method_49_code 24 = .ok (.iload_n 0, 1) := by decide +kernel
theorem d_JI_bitCount_25 : decode prog_13_method_49_code 25 = .ok (.iload_n 0, 1) := by decide +kernel
theorem d_JI_bitCount_26 : decode prog_13_method_49_code 26 = .ok (.iconst 4, 1) := by decide +kernel
theorem d_JI_bitCount_27 : decode prog_13_method_49_code 27 = .ok (.iushr, 1) := by decide +kernel
theorem d_JI_bitCount_28 : decode prog_13_method_49_code 28 = .ok (.iadd, 1) := by decide +kernel
theorem d_JI_bitCount_29 : decode prog_13_method_49_code 29 = .ok (.ldc_w 267, 3) := by decide +kernel
theorem d_JI_bitCount_32 : decode prog_13_method_49_code 32 = .ok (.iand, 1) := by decide +kernel
theorem d_JI_bitCount_33 : decode prog_13_method_49_code 33 = .ok (.istore_n 0, 1) := by decide +kernel
theorem d_JI_bitCount_34 : decode prog_13_method_49_code 34 = .ok (.iload_n 0, 1) := by decide +kernel
theorem d_JI_bitCount_35 : decode prog_13_method_49_code 35 = .ok (.iload_n 0, 1) := by decide +kernel
theorem d_JI_bitCount_36 : decode prog_13_method_49_code 36 = .ok (.bipush 8, 2) := by decide +kernel
theorem d_JI_bitCount_38 : decode prog_13_method_49_code 38 = .ok (.iushr, 1) := by decide +kernel
theorem d_JI_bitCount_39 : decode prog_13_method_49_code 39 = .ok (.iadd, 1) := by decide +kernel
theorem d_JI_bitCount_40 : decode prog_13_method_49_code 40 = .ok (.istore_n 0, 1) := by decide +kernel
theorem d_JI_bitCount_41 : decode prog_13_method_49_code 41 = .ok (.iload_n 0, 1) := by decide +kernel
theorem d_JI_bitCount_42 : decode prog_13_method_49_code 42 = .ok (.iload_n 0, 1) := by decide +kernel
theorem d_JI_bitCount_43 : decode prog_13_method_49_code 43 = .ok (.bipush 16, 2) := by decide +kernel
theorem d_JI_bitCount_45 : decode prog_13_method_49_code 45 = .ok (.iushr, 1) := by decide +kernel
theorem d_JI_bitCount_46 : decode prog_13_method_49_code 46 = .ok (.iadd, 1) := by decide +kernel
theorem d_JI_bitCount_47 : decode prog_13_method_49_code 47 = .ok (.istore_n 0, 1) := by decide +kernel
theorem d_JI_bitCount_48 : decode prog_13_method_49_code 48 = .ok (.iload_n 0, 1) := by decide +kernel
theorem d_JI_bitCount_49 : decode prog_13_method_49_code 49 = .ok (.bipush 63, 2) := by decide +kernel
theorem d_JI_bitCount_51 : decode prog_13_method_49_code 51 = .ok (.iand, 1) := by decide +kernel
theorem d_JI_bitCount_52 : decode prog_13_method_49_code 52 = .ok (.ireturn, 1) := by decide +kernel
theorem d_H_restore_0 : decode prog_2_method_6_code 0 = .ok (.aload_n 0, 1) := by decide +kernel
theorem d_H_restore_1 : decode prog_2_method_6_code 1 = .ok (.iload_n 1, 1) := by decide +kernel
theorem d_H_restore_2 : decode prog_2_method_6_code 2 = .ok (.invokevirtual 79, 3) := by decide +kernel
theorem d_H_restore_5 : decode prog_2_method_6_code 5 = .ok (.istore_n 2, 1) := by decide +kernel
theorem d_H_restore_6 : decode prog_2_method_6_code 6 = .ok (.aload_n 0, 1) := by decide +kernel
theorem d_H_restore_7 : decode prog_2_method_6_code 7 = .ok (.getfield 12, 3) := by decide +kernel
theorem d_H_restore_10 : decode prog_2_method_6_code 10 = .ok (.getfield 70, 3) := by decide +kernel
theorem d_H_restore_13 : decode prog_2_method_6_code 13 = .ok (.iload_n 1, 1) := by decide +kernel
theorem d_H_restore_14 : decode prog_2_method_6_code 14 = .ok (.aload_n 0, 1) := by decide +kernel
theorem d_H_restore_15 : decode prog_2_method_6_code 15 = .ok (.getfield 25, 3) := by decide +kernel
theorem d_H_restore_18 : decode prog_2_method_6_code 18 = .ok (.iload_n 1, 1) := by decide +kernel
theorem d_H_restore_19 : decode prog_2_method_6_code 19 = .ok (.iaload, 1) := by decide +kernel
theorem d_H_restore_20 : decode prog_2_method_6_code 20 = .ok (.iastore, 1) := by decide +kernel
theorem d_H_restore_21 : decode prog_2_method_6_code 21 = .ok (.aload_n 0, 1) := by decide +kernel
theorem d_H_restore_22 : decode prog_2_method_6_code 22 = .ok (.getfield 12, 3) := by decide +kernel
theorem d_H_restore_25 : decode prog_2_method_6_code 25 = .ok (.iload_n 1, 1) := by decide +kernel
theorem d_H_restore_26 : decode prog_2_method_6_code 26 = .ok (.iconst 2, 1) := by decide +kernel
theorem d_H_restore_27 : decode prog_2_method_6_code 27 = .ok (.iconst (-1), 1) := by decide +kernel
theorem d_H_restore_28 : decode prog_2_method_6_code 28 = .ok (.invokevirtual 82, 3) := by decide +kernel
theorem d_H_restore_31 : decode prog_2_method_6_code 31 = .ok (.iload_n 2, 1) := by decide +kernel
theorem d_H_restore_32 : decode prog_2_method_6_code 32 = .ok (.ireturn, 1) := by decide +kernel
theorem d_O_year_0 : decode prog_1_method_11_code 0 = .ok (.iload_n 1, 1) := by decide +kernel
theorem d_O_year_1 : decode prog_1_method_11_code 1 = .ok (.iconst 1, 1) := by decide +kernel
theorem d_O_year_2 : decode prog_1_method_11_code 2 = .ok (.if_icmp .lt 27, 3) := by decide +kernel
theorem d_O_year_5 : decode prog_1_method_11_code 5 = .ok (.iload_n 1, 1) := by decide +kernel
theorem d_O_year_6 : decode prog_1_method_11_code 6 = .ok (.bipush 60, 2) := by decide +kernel
theorem d_O_year_8 : decode prog_1_method_11_code 8 = .ok (.if_icmp .gt 21, 3) := by decide +kernel
theorem d_O_year_11 : decode prog_1_method_11_code 11 = .ok (.aload_n 0, 1) := by decide +kernel
theorem d_O_year_12 : decode prog_1_method_11_code 12 = .ok (.getfield 48, 3) := by decide +kernel
theorem d_O_year_15 : decode prog_1_method_11_code 15 = .ok (.getfield 110, 3) := by decide +kernel
theorem d_O_year_18 : decode prog_1_method_11_code 18 = .ok (.getfield 113, 3) := by decide +kernel
theorem d_O_year_21 : decode prog_1_method_11_code 21 = .ok (.iload_n 1, 1) := by decide +kernel
theorem d_O_year_22 : decode prog_1_method_11_code 22 = .ok (.iadd, 1) := by decide +kernel
theorem d_O_year_23 : decode prog_1_method_11_code 23 = .ok (.sipush 9999, 3) := by decide +kernel
theorem d_O_year_26 : decode prog_1_method_11_code 26 = .ok (.if_icmp .le 5, 3) := by decide +kernel
theorem d_O_year_29 : decode prog_1_method_11_code 29 = .ok (.iconst (-1), 1) := by decide +kernel
theorem d_O_year_30 : decode prog_1_method_11_code 30 = .ok (.ireturn, 1) := by decide +kernel
theorem d_O_year_31 : decode prog_1_method_11_code 31 = .ok (.aload_n 0, 1) := by decide +kernel
theorem d_O_year_32 : decode prog_1_method_11_code 32 = .ok (.iload_n 1, 1) := by decide +kernel
theorem d_O_year_33 : decode prog_1_method_11_code 33 = .ok (.invokevirtual 116, 3) := by decide +kernel
theorem d_O_year_36 : decode prog_1_method_11_code 36 = .ok (.ireturn, 1) := by decide +kernel
theorem d_O_passYears_0 : decode prog_1_method_61_code 0 = .ok (.iconst 0, 1) := by decide +kernel
theorem d_O_passYears_1 : decode prog_1_method_61_code 1 = .ok (.istore_n 2, 1) := by decide +kernel
theorem d_O_passYears_2 : decode prog_1_method_61_code 2 = .ok (.iconst 0, 1) := by decide +kernel
theorem d_O_passYears_3 : decode prog_1_method_61_code 3 = .ok (.istore_n 3, 1) := by decide +kernel
theorem d_O_passYears_4 : decode prog_1_method_61_code 4 = .ok (.iload_n 3, 1) := by decide +kernel
theorem d_O_passYears_5 : decode prog_1_method_61_code 5 = .ok (.iload_n 1, 1) := by decide +kernel
theorem d_O_passYears_6 : decode prog_1_method_61_code 6 = .ok (.if_icmp .ge 63, 3) := by decide +kernel
theorem d_O_passYears_9 : decode prog_1_method_61_code 9 = .ok (.aload_n 0, 1) := by decide +kernel
theorem d_O_passYears_10 : decode prog_1_method_61_code 10 = .ok (.getfield 48, 3) := by decide +kernel
theorem d_O_passYears_13 : decode prog_1_method_61_code 13 = .ok (.getfield 110, 3) := by decide +kernel
theorem d_O_passYears_16 : decode prog_1_method_61_code 16 = .ok (.getfield 113, 3) := by decide +kernel
theorem d_O_passYears_19 : decode prog_1_method_61_code 19 = .ok (.sipush 9999, 3) := by decide +kernel
theorem d_O_passYears_22 : decode prog_1_method_61_code 22 = .ok (.if_icmp .ge 47, 3) := by decide +kernel
theorem d_O_passYears_25 : decode prog_1_method_61_code 25 = .ok (.aload_n 0, 1) := by decide +kernel
theorem d_O_passYears_26 : decode prog_1_method_61_code 26 = .ok (.getfield 48, 3) := by decide +kernel
theorem d_O_passYears_29 : decode prog_1_method_61_code 29 = .ok (.getfield 135, 3) := by decide +kernel
theorem d_O_passYears_32 : decode prog_1_method_61_code 32 = .ok (.aload_n 0, 1) := by decide +kernel
theorem d_O_passYears_33 : decode prog_1_method_61_code 33 = .ok (.getfield 48, 3) := by decide +kernel
theorem d_O_passYears_36 : decode prog_1_method_61_code 36 = .ok (.getfield 110, 3) := by decide +kernel
theorem d_O_passYears_39 : decode prog_1_method_61_code 39 = .ok (.invokevirtual 139, 3) := by decide +kernel
theorem d_O_passYears_42 : decode prog_1_method_61_code 42 = .ok (.iload_n 2, 1) := by decide +kernel
theorem d_O_passYears_43 : decode prog_1_method_61_code 43 = .ok (.aload_n 0, 1) := by decide +kernel
theorem d_O_passYears_44 : decode prog_1_method_61_code 44 = .ok (.getfield 48, 3) := by decide +kernel
theorem d_O_passYears_47 : decode prog_1_method_61_code 47 = .ok (.getfield 110, 3) := by decide +kernel
theorem d_O_passYears_50 : decode prog_1_method_61_code 50 = .ok (.aload_n 0, 1) := by decide +kernel
theorem d_O_passYears_51 : decode prog_1_method_61_code 51 = .ok (.getfield 41, 3) := by decide +kernel
theorem d_O_passYears_54 : decode prog_1_method_61_code 54 = .ok (.aload_n 0, 1) := by decide +kernel
theorem d_O_passYears_55 : decode prog_1_method_61_code 55 = .ok (.invokevirtual 155, 3) := by decide +kernel
theorem d_O_passYears_58 : decode prog_1_method_61_code 58 = .ok (.invokevirtual 159, 3) := by decide +kernel
theorem d_O_passYears_61 : decode prog_1_method_61_code 61 = .ok (.iadd, 1) := by decide +kernel
theorem d_O_passYears_62 : decode prog_1_method_61_code 62 = .ok (.istore_n 2, 1) := by decide +kernel
theorem d_O_passYears_63 : decode prog_1_method_61_code 63 = .ok (.iinc 3 1, 3) := by decide +kernel
theorem d_O_passYears_66 : decode prog_1_method_61_code 66 = .ok (.goto (-62), 3) := by decide +kernel
theorem d_O_passYears_69 : decode prog_1_method_61_code 69 = .ok (.iload_n 2, 1) := by decide +kernel
theorem d_O_passYears_70 : decode prog_1_method_61_code 70 = .ok (.ireturn, 1) := by decide +kernel
theorem d_O_rules_0 : decode prog_1_method_57_code 0 = .ok (.aload_n 0, 1) := by decide +kernel
theorem d_O_rules_1 : decode prog_1_method_57_code 1 = .ok (.aload_n 0, 1) := by decide +kernel
theorem d_O_rules_2 : decode prog_1_method_57_code 2 = .ok (.getfield 48, 3) := by decide +kernel
theorem d_O_rules_5 : decode prog_1_method_57_code 5 = .ok (.getfield 100, 3) := by decide +kernel
theorem d_O_rules_8 : decode prog_1_method_57_code 8 = .ok (.invokevirtual 97, 3) := by decide +kernel
theorem d_O_rules_11 : decode prog_1_method_57_code 11 = .ok (.ifCond .eq 18, 3) := by decide +kernel
theorem d_O_rules_14 : decode prog_1_method_57_code 14 = .ok (.aload_n 0, 1) := by decide +kernel
theorem d_O_rules_15 : decode prog_1_method_57_code 15 = .ok (.getfield 25, 3) := by decide +kernel
theorem d_O_rules_18 : decode prog_1_method_57_code 18 = .ok (.aload_n 0, 1) := by decide +kernel
theorem d_O_rules_19 : decode prog_1_method_57_code 19 = .ok (.getfield 48, 3) := by decide +kernel
theorem d_O_rules_22 : decode prog_1_method_57_code 22 = .ok (.getfield 100, 3) := by decide +kernel
theorem d_O_rules_25 : decode prog_1_method_57_code 25 = .ok (.aaload, 1) := by decide +kernel
theorem d_O_rules_26 : decode prog_1_method_57_code 26 = .ok (.goto 4, 3) := by decide +kernel
theorem d_O_rules_29 : decode prog_1_method_57_code 29 = .ok (.aconst_null, 1) := by decide +kernel
theorem d_O_rules_30 : decode prog_1_method_57_code 30 = .ok (.areturn, 1) := by decide +kernel
theorem d_N_passYear_0 : decode prog_4_method_10_code 0 = .ok (.iconst 0, 1) := by decide +kernel
theorem d_N_passYear_1 : decode prog_4_method_10_code 1 = .ok (.istore_n 3, 1) := by decide +kernel
theorem d_N_passYear_2 : decode prog_4_method_10_code 2 = .ok (.iconst 0, 1) := by decide +kernel
theorem d_N_passYear_3 : decode prog_4_method_10_code 3 = .ok (.istore 4, 2) := by decide +kernel
theorem d_N_passYear_5 : decode prog_4_method_10_code 5 = .ok (.iload 4, 2) := by decide +kernel
theorem d_N_passYear_7 : decode prog_4_method_10_code 7 = .ok (.aload_n 0, 1) := by decide +kernel
theorem d_N_passYear_8 : decode prog_4_method_10_code 8 = .ok (.getfield 22, 3) := by decide +kernel
theorem d_N_passYear_11 : decode prog_4_method_10_code 11 = .ok (.if_icmp .ge 83, 3) := by decide +kernel
theorem d_N_passYear_14 : decode prog_4_method_10_code 14 = .ok (.aload_n 0, 1) := by decide +kernel
theorem d_N_passYear_15 : decode prog_4_method_10_code 15 = .ok (.ldc 55, 2) := by decide +kernel
theorem d_N_passYear_17 : decode prog_4_method_10_code 17 = .ok (.aload_n 0, 1) := by decide +kernel
theorem d_N_passYear_18 : decode prog_4_method_10_code 18 = .ok (.getfield 25, 3) := by decide +kernel
theorem d_N_passYear_21 : decode prog_4_method_10_code 21 = .ok (.aload_n 1, 1) := by decide +kernel
theorem d_N_passYear_22 : decode prog_4_method_10_code 22 = .ok (.aload_n 2, 1) := by decide +kernel
theorem d_N_passYear_23 : decode prog_4_method_10_code 23 = .ok (.aload_n 0, 1) := by decide +kernel
theorem d_N_passYear_24 : decode prog_4_method_10_code 24 = .ok (.iload 4, 2) := by decide +kernel
theorem d_N_passYear_26 : decode prog_4_method_10_code 26 = .ok (.invokevirtual 56, 3) := by decide +kernel
theorem d_N_passYear_29 : decode prog_4_method_10_code 29 = .ok (.iadd, 1) := by decide +kernel
theorem d_N_passYear_30 : decode prog_4_method_10_code 30 = .ok (.invokestatic 62, 3) := by decide +kernel
theorem d_N_passYear_33 : decode prog_4_method_10_code 33 = .ok (.putfield 25, 3) := by decide +kernel
theorem d_N_passYear_36 : decode prog_4_method_10_code 36 = .ok (.aload_n 0, 1) := by decide +kernel
theorem d_N_passYear_37 : decode prog_4_method_10_code 37 = .ok (.invokevirtual 68, 3) := by decide +kernel
theorem d_N_passYear_40 : decode prog_4_method_10_code 40 = .ok (.bipush 20, 2) := by decide +kernel
theorem d_N_passYear_42 : decode prog_4_method_10_code 42 = .ok (.irem, 1) := by decide +kernel
theorem d_N_passYear_43 : decode prog_4_method_10_code 43 = .ok (.istore 5, 2) := by decide +kernel
theorem d_N_passYear_45 : decode prog_4_method_10_code 45 = .ok (.aload_n 0, 1) := by decide +kernel
theorem d_N_passYear_46 : decode prog_4_method_10_code 46 = .ok (.iload 4, 2) := by decide +kernel
theorem d_N_passYear_48 : decode prog_4_method_10_code 48 = .ok (.iload 5, 2) := by decide +kernel
theorem d_N_passYear_50 : decode prog_4_method_10_code 50 = .ok (.invokevirtual 47, 3) := by decide +kernel
theorem d_N_passYear_53 : decode prog_4_method_10_code 53 = .ok (.ifCond .eq 35, 3) := by decide +kernel
theorem d_N_passYear_56 : decode prog_4_method_10_code 56 = .ok (.aload_n 0, 1) := by decide +kernel
theorem d_N_passYear_57 : decode prog_4_method_10_code 57 = .ok (.invokevirtual 68, 3) := by decide +kernel
theorem d_N_passYear_60 : decode prog_4_method_10_code 60 = .ok (.bipush 10, 2) := by decide +kernel
theorem d_N_passYear_62 : decode prog_4_method_10_code 62 = .ok (.irem, 1) := by decide +kernel
theorem d_N_passYear_63 : decode prog_4_method_10_code 63 = .ok (.aload_n 1, 1) := by decide +kernel
theorem d_N_passYear_64 : decode prog_4_method_10_code 64 = .ok (.aload_n 2, 1) := by decide +kernel
theorem d_N_passYear_65 : decode prog_4_method_10_code 65 = .ok (.aload_n 0, 1) := by decide +kernel
theorem d_N_passYear_66 : decode prog_4_method_10_code 66 = .ok (.iload 4, 2) := by decide +kernel
theorem d_N_passYear_68 : decode prog_4_method_10_code 68 = .ok (.iload 5, 2) := by decide +kernel
theorem d_N_passYear_70 : decode prog_4_method_10_code 70 = .ok (.invokevirtual 72, 3) := by decide +kernel
theorem d_N_passYear_73 : decode prog_4_method_10_code 73 = .ok (.if_icmp .ge 15, 3) := by decide +kernel
theorem d_N_passYear_76 : decode prog_4_method_10_code 76 = .ok (.aload_n 0, 1) := by decide +kernel
theorem d_N_passYear_77 : decode prog_4_method_10_code 77 = .ok (.iload 4, 2) := by decide +kernel
theorem d_N_passYear_79 : decode prog_4_method_10_code 79 = .ok (.iload 5, 2) := by decide +kernel
theorem d_N_passYear_81 : decode prog_4_method_10_code 81 = .ok (.iconst 3, 1) := by decide +kernel
theorem d_N_passYear_82 : decode prog_4_method_10_code 82 = .ok (.invokevirtual 76, 3) := by decide +kernel
theorem d_N_passYear_85 : decode prog_4_method_10_code 85 = .ok (.iinc 3 1, 3) := by decide +kernel
theorem d_N_passYear_88 : decode prog_4_method_10_code 88 = .ok (.iinc 4 1, 3) := by decide +kernel
theorem d_N_passYear_91 : decode prog_4_method_10_code 91 = .ok (.goto (-86), 3) := by decide +kernel
theorem d_N_passYear_94 : decode prog_4_method_10_code 94 = .ok (.aload_n 0, 1) := by decide +kernel
theorem d_N_passYear_95 : decode prog_4_method_10_code 95 = .ok (.dup, 1) := by decide +kernel
theorem d_N_passYear_96 : decode prog_4_method_10_code 96 = .ok (.getfield 28, 3) := by decide +kernel
theorem d_N_passYear_99 : decode prog_4_method_10_code 99 = .ok (.iconst 1, 1) := by decide +kernel
theorem d_N_passYear_100 : decode prog_4_method_10_code 100 = .ok (.iadd, 1) := by decide +kernel
theorem d_N_passYear_101 : decode prog_4_method_10_code 101 = .ok (.putfield 28, 3) := by decide +kernel
theorem d_N_passYear_104 : decode prog_4_method_10_code 104 = .ok (.iload_n 3, 1) := by decide +kernel
theorem d_N_passYear_105 : decode prog_4_method_10_code 105 = .ok (.ireturn, 1) := by decide +kernel
theorem d_L_feeBy_0 : decode prog_3_method_3_code 0 = .ok (.aload_n 1, 1) := by decide +kernel
theorem d_L_feeBy_1 : decode prog_3_method_3_code 1 = .ok (.ifnull 10, 3) := by decide +kernel
theorem d_L_feeBy_4 : decode prog_3_method_3_code 4 = .ok (.aload_n 1, 1) := by decide +kernel
theorem d_L_feeBy_5 : decode prog_3_method_3_code 5 = .ok (.getfield 41, 3) := by decide +kernel
theorem d_L_feeBy_8 : decode prog_3_method_3_code 8 = .ok (.ifCond .ne 13, 3) := by decide +kernel
theorem d_L_feeBy_11 : decode prog_3_method_3_code 11 = .ok (.aload_n 2, 1) := by decide +kernel
theorem d_L_feeBy_12 : decode prog_3_method_3_code 12 = .ok (.getfield 44, 3) := by decide +kernel
theorem d_L_feeBy_15 : decode prog_3_method_3_code 15 = .ok (.iload_n 3, 1) := by decide +kernel
theorem d_L_feeBy_16 : decode prog_3_method_3_code 16 = .ok (.iaload, 1) := by decide +kernel
theorem d_L_feeBy_17 : decode prog_3_method_3_code 17 = .ok (.invokestatic 49, 3) := by decide +kernel
theorem d_L_feeBy_20 : decode prog_3_method_3_code 20 = .ok (.ireturn, 1) := by decide +kernel
theorem d_L_feeBy_21 : decode prog_3_method_3_code 21 = .ok (.aload_n 0, 1) := by decide +kernel
theorem d_L_feeBy_22 : decode prog_3_method_3_code 22 = .ok (.aload_n 1, 1) := by decide +kernel
theorem d_L_feeBy_23 : decode prog_3_method_3_code 23 = .ok (.aload_n 1, 1) := by decide +kernel
theorem d_L_feeBy_24 : decode prog_3_method_3_code 24 = .ok (.getfield 55, 3) := by decide +kernel
theorem d_L_feeBy_27 : decode prog_3_method_3_code 27 = .ok (.aload_n 1, 1) := by decide +kernel
theorem d_L_feeBy_28 : decode prog_3_method_3_code 28 = .ok (.getfield 58, 3) := by decide +kernel
theorem d_L_feeBy_31 : decode prog_3_method_3_code 31 = .ok (.aload_n 2, 1) := by decide +kernel
theorem d_L_feeBy_32 : decode prog_3_method_3_code 32 = .ok (.iload_n 3, 1) := by decide +kernel
theorem d_L_feeBy_33 : decode prog_3_method_3_code 33 = .ok (.iconst (-1), 1) := by decide +kernel
theorem d_L_feeBy_34 : decode prog_3_method_3_code 34 = .ok (.invokevirtual 28, 3) := by decide +kernel
theorem d_L_feeBy_37 : decode prog_3_method_3_code 37 = .ok (.istore 4, 2) := by decide +kernel
theorem d_L_feeBy_39 : decode prog_3_method_3_code 39 = .ok (.iconst 0, 1) := by decide +kernel
theorem d_L_feeBy_40 : decode prog_3_method_3_code 40 = .ok (.bipush 99, 2) := by decide +kernel
theorem d_L_feeBy_42 : decode prog_3_method_3_code 42 = .ok (.iload 4, 2) := by decide +kernel
theorem d_L_feeBy_44 : decode prog_3_method_3_code 44 = .ok (.invokestatic 32, 3) := by decide +kernel
theorem d_L_feeBy_47 : decode prog_3_method_3_code 47 = .ok (.invokestatic 38, 3) := by decide +kernel
theorem d_L_feeBy_50 : decode prog_3_method_3_code 50 = .ok (.ireturn, 1) := by decide +kernel
theorem d_L_run_0 : decode prog_3_method_6_code 0 = .ok (.aload_n 0, 1) := by decide +kernel
theorem d_L_run_1 : decode prog_3_method_6_code 1 = .ok (.iconst 0, 1) := by decide +kernel
theorem d_L_run_2 : decode prog_3_method_6_code 2 = .ok (.putfield 61, 3) := by decide +kernel
theorem d_L_run_5 : decode prog_3_method_6_code 5 = .ok (.iload_n 3, 1) := by decide +kernel
theorem d_L_run_6 : decode prog_3_method_6_code 6 = .ok (.aload_n 1, 1) := by decide +kernel
theorem d_L_run_7 : decode prog_3_method_6_code 7 = .ok (.getfield 64, 3) := by decide +kernel
theorem d_L_run_10 : decode prog_3_method_6_code 10 = .ok (.arraylength, 1) := by decide +kernel
theorem d_L_run_11 : decode prog_3_method_6_code 11 = .ok (.invokestatic 32, 3) := by decide +kernel
theorem d_L_run_14 : decode prog_3_method_6_code 14 = .ok (.istore 7, 2) := by decide +kernel
theorem d_L_run_16 : decode prog_3_method_6_code 16 = .ok (.iload_n 2, 1) := by decide +kernel
theorem d_L_run_17 : decode prog_3_method_6_code 17 = .ok (.istore 8, 2) := by decide +kernel
theorem d_L_run_19 : decode prog_3_method_6_code 19 = .ok (.iload 8, 2) := by decide +kernel
theorem d_L_run_21 : decode prog_3_method_6_code 21 = .ok (.ifCond .lt 248, 3) := by decide +kernel
theorem d_L_run_24 : decode prog_3_method_6_code 24 = .ok (.iload 8, 2) := by decide +kernel
theorem d_L_run_26 : decode prog_3_method_6_code 26 = .ok (.iload 7, 2) := by decide +kernel
theorem d_L_run_28 : decode prog_3_method_6_code 28 = .ok (.if_icmp .ge 241, 3) := by decide +kernel
theorem d_L_run_31 : decode prog_3_method_6_code 31 = .ok (.aload_n 1, 1) := by decide +kernel
theorem d_L_run_32 : decode prog_3_method_6_code 32 = .ok (.getfield 64, 3) := by decide +kernel
theorem d_L_run_35 : decode prog_3_method_6_code 35 = .ok (.iload 8, 2) := by decide +kernel
theorem d_L_run_37 : decode prog_3_method_6_code 37 = .ok (.iaload, 1) := by decide +kernel
theorem d_L_run_38 : decode prog_3_method_6_code 38 = .ok (.bipush 64, 2) := by decide +kernel
theorem d_L_run_40 : decode prog_3_method_6_code 40 = .ok (.irem, 1) := by decide +kernel
theorem d_L_run_41 : decode prog_3_method_6_code 41 = .ok (.istore 9, 2) := by decide +kernel
theorem d_L_run_43 : decode prog_3_method_6_code 43 = .ok (.aload_n 1, 1) := by decide +kernel
theorem d_L_run_44 : decode prog_3_method_6_code 44 = .ok (.getfield 64, 3) := by decide +kernel
theorem d_L_run_47 : decode prog_3_method_6_code 47 = .ok (.iload 8, 2) := by decide +kernel
theorem d_L_run_49 : decode prog_3_method_6_code 49 = .ok (.iaload, 1) := by decide +kernel
theorem d_L_run_50 : decode prog_3_method_6_code 50 = .ok (.bipush 64, 2) := by decide +kernel
theorem d_L_run_52 : decode prog_3_method_6_code 52 = .ok (.idiv, 1) := by decide +kernel
theorem d_L_run_53 : decode prog_3_method_6_code 53 = .ok (.istore 10, 2) := by decide +kernel
theorem d_L_run_55 : decode prog_3_method_6_code 55 = .ok (.iload 9, 2) := by decide +kernel
theorem d_L_run_57 : decode prog_3_method_6_code 57 = .ok (.bipush 45, 2) := by decide +kernel
theorem d_L_run_59 : decode prog_3_method_6_code 59 = .ok (.if_icmp .ne 12, 3) := by decide +kernel
theorem d_L_run_62 : decode prog_3_method_6_code 62 = .ok (.aload_n 0, 1) := by decide +kernel
theorem d_L_run_63 : decode prog_3_method_6_code 63 = .ok (.iload 10, 2) := by decide +kernel
theorem d_L_run_65 : decode prog_3_method_6_code 65 = .ok (.invokevirtual 67, 3) := by decide +kernel
theorem d_L_run_68 : decode prog_3_method_6_code 68 = .ok (.goto 195, 3) := by decide +kernel
theorem d_L_run_71 : decode prog_3_method_6_code 71 = .ok (.iload 9, 2) := by decide +kernel
theorem d_L_run_73 : decode prog_3_method_6_code 73 = .ok (.bipush 31, 2) := by decide +kernel
theorem d_L_run_75 : decode prog_3_method_6_code 75 = .ok (.if_icmp .ne 21, 3) := by decide +kernel
theorem d_L_run_78 : decode prog_3_method_6_code 78 = .ok (.aload_n 0, 1) := by decide +kernel
theorem d_L_run_79 : decode prog_3_method_6_code 79 = .ok (.aload 4, 2) := by decide +kernel
theorem d_L_run_81 : decode prog_3_method_6_code 81 = .ok (.getfield 44, 3) := by decide +kernel
theorem d_L_run_84 : decode prog_3_method_6_code 84 = .ok (.iload 5, 2) := by decide +kernel
theorem d_L_run_86 : decode prog_3_method_6_code 86 = .ok (.iaload, 1) := by decide +kernel
theorem d_L_run_87 : decode prog_3_method_6_code 87 = .ok (.invokestatic 71, 3) := by decide +kernel
theorem d_L_run_90 : decode prog_3_method_6_code 90 = .ok (.invokevirtual 67, 3) := by decide +kernel
theorem d_L_run_93 : decode prog_3_method_6_code 93 = .ok (.goto 170, 3) := by decide +kernel
theorem d_L_run_96 : decode prog_3_method_6_code 96 = .ok (.iload 9, 2) := by decide +kernel
theorem d_L_run_98 : decode prog_3_method_6_code 98 = .ok (.bipush 20, 2) := by decide +kernel
theorem d_L_run_100 : decode prog_3_method_6_code 100 = .ok (.if_icmp .eq 10, 3) := by decide +kernel
theorem d_L_run_103 : decode prog_3_method_6_code 103 = .ok (.iload 9, 2) := by decide +kernel
theorem d_L_run_105 : decode prog_3_method_6_code 105 = .ok (.bipush 21, 2) := by decide +kernel
theorem d_L_run_107 : decode prog_3_method_6_code 107 = .ok (.if_icmp .ne 48, 3) := by decide +kernel
theorem d_L_run_110 : decode prog_3_method_6_code 110 = .ok (.iload 9, 2) := by decide +kernel
theorem d_L_run_112 : decode prog_3_method_6_code 112 = .ok (.bipush 21, 2) := by decide +kernel
theorem d_L_run_114 : decode prog_3_method_6_code 114 = .ok (.if_icmp .eq 10, 3) := by decide +kernel
theorem d_L_run_117 : decode prog_3_method_6_code 117 = .ok (.aload_n 0, 1) := by decide +kernel
theorem d_L_run_118 : decode prog_3_method_6_code 118 = .ok (.invokevirtual 76, 3) := by decide +kernel
theorem d_L_run_121 : decode prog_3_method_6_code 121 = .ok (.ifCond .ne 7, 3) := by decide +kernel
theorem d_L_run_124 : decode prog_3_method_6_code 124 = .ok (.iconst 1, 1) := by decide +kernel
theorem d_L_run_125 : decode prog_3_method_6_code 125 = .ok (.goto 4, 3) := by decide +kernel
theorem d_L_run_128 : decode prog_3_method_6_code 128 = .ok (.iconst 0, 1) := by decide +kernel
theorem d_L_run_129 : decode prog_3_method_6_code 129 = .ok (.istore 11, 2) := by decide +kernel
theorem d_L_run_131 : decode prog_3_method_6_code 131 = .ok (.iload 11, 2) := by decide +kernel
theorem d_L_run_133 : decode prog_3_method_6_code 133 = .ok (.ifCond .eq 15, 3) := by decide +kernel
theorem d_L_run_136 : decode prog_3_method_6_code 136 = .ok (.iload 8, 2) := by decide +kernel
theorem d_L_run_138 : decode prog_3_method_6_code 138 = .ok (.iload 10, 2) := by decide +kernel
theorem d_L_run_140 : decode prog_3_method_6_code 140 = .ok (.iconst 1, 1) := by decide +kernel
theorem d_L_run_141 : decode prog_3_method_6_code 141 = .ok (.isub, 1) := by decide +kernel
theorem d_L_run_142 : decode prog_3_method_6_code 142 = .ok (.invokestatic 38, 3) := by decide +kernel
theorem d_L_run_145 : decode prog_3_method_6_code 145 = .ok (.goto 5, 3) := by decide +kernel
theorem d_L_run_148 : decode prog_3_method_6_code 148 = .ok (.iload 8, 2) := by decide +kernel
theorem d_L_run_150 : decode prog_3_method_6_code 150 = .ok (.istore 8, 2) := by decide +kernel
theorem d_L_run_152 : decode prog_3_method_6_code 152 = .ok (.goto 111, 3) := by decide +kernel
theorem d_L_run_155 : decode prog_3_method_6_code 155 = .ok (.iload 9, 2) := by decide +kernel
theorem d_L_run_157 : decode prog_3_method_6_code 157 = .ok (.bipush 17, 2) := by decide +kernel
theorem d_L_run_159 : decode prog_3_method_6_code 159 = .ok (.if_icmp .eq 24, 3) := by decide +kernel
theorem d_L_run_162 : decode prog_3_method_6_code 162 = .ok (.iload 9, 2) := by decide +kernel
theorem d_L_run_164 : decode prog_3_method_6_code 164 = .ok (.bipush 18, 2) := by decide +kernel
theorem d_L_run_166 : decode prog_3_method_6_code 166 = .ok (.if_icmp .eq 17, 3) := by decide +kernel
theorem d_L_run_169 : decode prog_3_method_6_code 169 = .ok (.iload 9, 2) := by decide +kernel
theorem d_L_run_171 : decode prog_3_method_6_code 171 = .ok (.bipush 48, 2) := by decide +kernel
theorem d_L_run_173 : decode prog_3_method_6_code 173 = .ok (.if_icmp .eq 10, 3) := by decide +kernel
theorem d_L_run_176 : decode prog_3_method_6_code 176 = .ok (.iload 9, 2) := by decide +kernel
theorem d_L_run_178 : decode prog_3_method_6_code 178 = .ok (.bipush 25, 2) := by decide +kernel
theorem d_L_run_180 : decode prog_3_method_6_code 180 = .ok (.if_icmp .ne 23, 3) := by decide +kernel
theorem d_L_run_183 : decode prog_3_method_6_code 183 = .ok (.aload_n 0, 1) := by decide +kernel
theorem d_L_run_184 : decode prog_3_method_6_code 184 = .ok (.iload 9, 2) := by decide +kernel
theorem d_L_run_186 : decode prog_3_method_6_code 186 = .ok (.aload_n 0, 1) := by decide +kernel
theorem d_L_run_187 : decode prog_3_method_6_code 187 = .ok (.invokevirtual 76, 3) := by decide +kernel
theorem d_L_run_190 : decode prog_3_method_6_code 190 = .ok (.aload 4, 2) := by decide +kernel
theorem d_L_run_192 : decode prog_3_method_6_code 192 = .ok (.iload 5, 2) := by decide +kernel
theorem d_L_run_194 : decode prog_3_method_6_code 194 = .ok (.invokestatic 80, 3) := by decide +kernel
theorem d_L_run_197 : decode prog_3_method_6_code 197 = .ok (.invokevirtual 67, 3) := by decide +kernel
theorem d_L_run_200 : decode prog_3_method_6_code 200 = .ok (.goto 63, 3) := by decide +kernel
theorem d_L_run_203 : decode prog_3_method_6_code 203 = .ok (.iload 9, 2) := by decide +kernel
theorem d_L_run_205 : decode prog_3_method_6_code 205 = .ok (.bipush 6, 2) := by decide +kernel
theorem d_L_run_207 : decode prog_3_method_6_code 207 = .ok (.if_icmp .eq 17, 3) := by decide +kernel
theorem d_L_run_210 : decode prog_3_method_6_code 210 = .ok (.iload 9, 2) := by decide +kernel
theorem d_L_run_212 : decode prog_3_method_6_code 212 = .ok (.bipush 26, 2) := by decide +kernel
theorem d_L_run_214 : decode prog_3_method_6_code 214 = .ok (.if_icmp .lt 28, 3) := by decide +kernel
theorem d_L_run_217 : decode prog_3_method_6_code 217 = .ok (.iload 9, 2) := by decide +kernel
theorem d_L_run_219 : decode prog_3_method_6_code 219 = .ok (.bipush 30, 2) := by decide +kernel
theorem d_L_run_221 : decode prog_3_method_6_code 221 = .ok (.if_icmp .gt 21, 3) := by decide +kernel
theorem d_L_run_224 : decode prog_3_method_6_code 224 = .ok (.aload_n 0, 1) := by decide +kernel
theorem d_L_run_225 : decode prog_3_method_6_code 225 = .ok (.iload 9, 2) := by decide +kernel
theorem d_L_run_227 : decode prog_3_method_6_code 227 = .ok (.aload 4, 2) := by decide +kernel
theorem d_L_run_229 : decode prog_3_method_6_code 229 = .ok (.iload 5, 2) := by decide +kernel
theorem d_L_run_231 : decode prog_3_method_6_code 231 = .ok (.iload 6, 2) := by decide +kernel
theorem d_L_run_233 : decode prog_3_method_6_code 233 = .ok (.invokestatic 84, 3) := by decide +kernel
theorem d_L_run_236 : decode prog_3_method_6_code 236 = .ok (.invokevirtual 67, 3) := by decide +kernel
theorem d_L_run_239 : decode prog_3_method_6_code 239 = .ok (.goto 24, 3) := by decide +kernel
theorem d_L_run_242 : decode prog_3_method_6_code 242 = .ok (.aload_n 0, 1) := by decide +kernel
theorem d_L_run_243 : decode prog_3_method_6_code 243 = .ok (.invokevirtual 76, 3) := by decide +kernel
theorem d_L_run_246 : decode prog_3_method_6_code 246 = .ok (.istore 11, 2) := by decide +kernel
theorem d_L_run_248 : decode prog_3_method_6_code 248 = .ok (.aload_n 0, 1) := by decide +kernel
theorem d_L_run_249 : decode prog_3_method_6_code 249 = .ok (.iload 9, 2) := by decide +kernel
theorem d_L_run_251 : decode prog_3_method_6_code 251 = .ok (.aload_n 0, 1) := by decide +kernel
theorem d_L_run_252 : decode prog_3_method_6_code 252 = .ok (.invokevirtual 76, 3) := by decide +kernel
theorem d_L_run_255 : decode prog_3_method_6_code 255 = .ok (.iload 11, 2) := by decide +kernel
theorem d_L_run_257 : decode prog_3_method_6_code 257 = .ok (.invokestatic 88, 3) := by decide +kernel
theorem d_L_run_260 : decode prog_3_method_6_code 260 = .ok (.invokevirtual 67, 3) := by decide +kernel
theorem d_L_run_263 : decode prog_3_method_6_code 263 = .ok (.iinc 8 1, 3) := by decide +kernel
theorem d_L_run_266 : decode prog_3_method_6_code 266 = .ok (.goto (-247), 3) := by decide +kernel
theorem d_L_run_269 : decode prog_3_method_6_code 269 = .ok (.aload_n 0, 1) := by decide +kernel
theorem d_L_run_270 : decode prog_3_method_6_code 270 = .ok (.invokevirtual 76, 3) := by decide +kernel
theorem d_L_run_273 : decode prog_3_method_6_code 273 = .ok (.ireturn, 1) := by decide +kernel
theorem d_L_push_0 : decode prog_3_method_4_code 0 = .ok (.aload_n 0, 1) := by decide +kernel
theorem d_L_push_1 : decode prog_3_method_4_code 1 = .ok (.getfield 61, 3) := by decide +kernel
theorem d_L_push_4 : decode prog_3_method_4_code 4 = .ok (.aload_n 0, 1) := by decide +kernel
theorem d_L_push_5 : decode prog_3_method_4_code 5 = .ok (.getfield 9, 3) := by decide +kernel
theorem d_L_push_8 : decode prog_3_method_4_code 8 = .ok (.arraylength, 1) := by decide +kernel
theorem d_L_push_9 : decode prog_3_method_4_code 9 = .ok (.if_icmp .ge 23, 3) := by decide +kernel
theorem d_L_push_12 : decode prog_3_method_4_code 12 = .ok (.aload_n 0, 1) := by decide +kernel
theorem d_L_push_13 : decode prog_3_method_4_code 13 = .ok (.getfield 9, 3) := by decide +kernel
theorem d_L_push_16 : decode prog_3_method_4_code 16 = .ok (.aload_n 0, 1) := by decide +kernel
theorem d_L_push_17 : decode prog_3_method_4_code 17 = .ok (.getfield 61, 3) := by decide +kernel
theorem d_L_push_20 : decode prog_3_method_4_code 20 = .ok (.iload_n 1, 1) := by decide +kernel
theorem d_L_push_21 : decode prog_3_method_4_code 21 = .ok (.iastore, 1) := by decide +kernel
theorem d_L_push_22 : decode prog_3_method_4_code 22 = .ok (.aload_n 0, 1) := by decide +kernel
theorem d_L_push_23 : decode prog_3_method_4_code 23 = .ok (.dup, 1) := by decide +kernel
theorem d_L_push_24 : decode prog_3_method_4_code 24 = .ok (.getfield 61, 3) := by decide +kernel
theorem d_L_push_27 : decode prog_3_method_4_code 27 = .ok (.iconst 1, 1) := by decide +kernel
theorem d_L_push_28 : decode prog_3_method_4_code 28 = .ok (.iadd, 1) := by decide +kernel
theorem d_L_push_29 : decode prog_3_method_4_code 29 = .ok (.putfield 61, 3) := by decide +kernel
theorem d_L_push_32 : decode prog_3_method_4_code 32 = .ok (.return_, 1) := by decide +kernel
theorem d_K_countPieces_0 : decode prog_7_method_8_code 0 = .ok (.iconst 0, 1) := by decide +kernel
theorem d_K_countPieces_1 : decode prog_7_method_8_code 1 = .ok (.istore_n 1, 1) := by decide +kernel
theorem d_K_countPieces_2 : decode prog_7_method_8_code 2 = .ok (.iload_n 0, 1) := by decide +kernel
theorem d_K_countPieces_3 : decode prog_7_method_8_code 3 = .ok (.invokestatic 18, 3) := by decide +kernel
theorem d_K_countPieces_6 : decode prog_7_method_8_code 6 = .ok (.istore_n 2, 1) := by decide +kernel
theorem d_K_countPieces_7 : decode prog_7_method_8_code 7 = .ok (.iconst 0, 1) := by decide +kernel
theorem d_K_countPieces_8 : decode prog_7_method_8_code 8 = .ok (.istore_n 3, 1) := by decide +kernel
theorem d_K_countPieces_9 : decode prog_7_method_8_code 9 = .ok (.iload_n 3, 1) := by decide +kernel
theorem d_K_countPieces_10 : decode prog_7_method_8_code 10 = .ok (.bipush 9, 2) := by decide +kernel
theorem d_K_countPieces_12 : decode prog_7_method_8_code 12 = .ok (.if_icmp .ge 31, 3) := by decide +kernel
theorem d_K_countPieces_15 : decode prog_7_method_8_code 15 = .ok (.iload_n 2, 1) := by decide +kernel
theorem d_K_countPieces_16 : decode prog_7_method_8_code 16 = .ok (.iload_n 3, 1) := by decide +kernel
theorem d_K_countPieces_17 : decode prog_7_method_8_code 17 = .ok (.ishr, 1) := by decide +kernel
theorem d_K_countPieces_18 : decode prog_7_method_8_code 18 = .ok (.iconst 1, 1) := by decide +kernel
theorem d_K_countPieces_19 : decode prog_7_method_8_code 19 = .ok (.iand, 1) := by decide +kernel
theorem d_K_countPieces_20 : decode prog_7_method_8_code 20 = .ok (.iconst 1, 1) := by decide +kernel
theorem d_K_countPieces_21 : decode prog_7_method_8_code 21 = .ok (.if_icmp .ne 16, 3) := by decide +kernel
theorem d_K_countPieces_24 : decode prog_7_method_8_code 24 = .ok (.iload_n 2, 1) := by decide +kernel
theorem d_K_countPieces_25 : decode prog_7_method_8_code 25 = .ok (.iload_n 3, 1) := by decide +kernel
theorem d_K_countPieces_26 : decode prog_7_method_8_code 26 = .ok (.iload_n 0, 1) := by decide +kernel
theorem d_K_countPieces_27 : decode prog_7_method_8_code 27 = .ok (.invokestatic 22, 3) := by decide +kernel
theorem d_K_countPieces_30 : decode prog_7_method_8_code 30 = .ok (.iconst (-1), 1) := by decide +kernel
theorem d_K_countPieces_31 : decode prog_7_method_8_code 31 = .ok (.ixor, 1) := by decide +kernel
theorem d_K_countPieces_32 : decode prog_7_method_8_code 32 = .ok (.iand, 1) := by decide +kernel
theorem d_K_countPieces_33 : decode prog_7_method_8_code 33 = .ok (.istore_n 2, 1) := by decide +kernel
theorem d_K_countPieces_34 : decode prog_7_method_8_code 34 = .ok (.iinc 1 1, 3) := by decide +kernel
theorem d_K_countPieces_37 : decode prog_7_method_8_code 37 = .ok (.iinc 3 1, 3) := by decide +kernel
theorem d_K_countPieces_40 : decode prog_7_method_8_code 40 = .ok (.goto (-31), 3) := by decide +kernel
theorem d_K_countPieces_43 : decode prog_7_method_8_code 43 = .ok (.iload_n 1, 1) := by decide +kernel
theorem d_K_countPieces_44 : decode prog_7_method_8_code 44 = .ok (.ireturn, 1) := by decide +kernel
